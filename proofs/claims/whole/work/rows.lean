section
-- ===== PART A: goes FIRST, ahead of the names: the tables' words, and 'selects' of the private methods out of them =====
/-- a private method of a class that the tables say can be made, by its rows of tables_1 -/
def lw_okq (q : MethodName × Nat) : Prop := (q.1.cls ≠ "java/lang/invoke/MethodHandle" ∧ q.1.cls ≠ "java/lang/invoke/VarHandle") ∧ Cond.instantiable q.1.cls q.2 ∈ tables_1 ∧ Cond.privateMethod q.1 ∈ tables_1 ∧ Cond.instanceMethod q.1 ∈ tables_1
theorem lw_p0 : lw_okq (⟨"WriteBackTier", "noteSlot", "(I)V"⟩, 13) := ⟨⟨by decide +kernel, by decide +kernel⟩, List.mem_of_getElem? (i := 12) (by decide +kernel), List.mem_of_getElem? (i := 69) (by decide +kernel), List.mem_of_getElem? (i := 70) (by decide +kernel)⟩
theorem lw_p1 : lw_okq (⟨"WriteBackTier", "stopMachine", "()V"⟩, 13) := ⟨⟨by decide +kernel, by decide +kernel⟩, List.mem_of_getElem? (i := 12) (by decide +kernel), List.mem_of_getElem? (i := 77) (by decide +kernel), List.mem_of_getElem? (i := 78) (by decide +kernel)⟩
theorem lw_p2 : lw_okq (⟨"WriteBackTier", "countFull", "()I"⟩, 13) := ⟨⟨by decide +kernel, by decide +kernel⟩, List.mem_of_getElem? (i := 12) (by decide +kernel), List.mem_of_getElem? (i := 81) (by decide +kernel), List.mem_of_getElem? (i := 82) (by decide +kernel)⟩
theorem lw_p3 : lw_okq (⟨"WriteBackTier", "countDirty", "()I"⟩, 13) := ⟨⟨by decide +kernel, by decide +kernel⟩, List.mem_of_getElem? (i := 12) (by decide +kernel), List.mem_of_getElem? (i := 89) (by decide +kernel), List.mem_of_getElem? (i := 90) (by decide +kernel)⟩
theorem lw_p4 : lw_okq (⟨"java/lang/Throwable", "fillInStackTrace", "(I)Ljava/lang/Throwable;"⟩, 6) := ⟨⟨by decide +kernel, by decide +kernel⟩, List.mem_of_getElem? (i := 149) (by decide +kernel), List.mem_of_getElem? (i := 147) (by decide +kernel), List.mem_of_getElem? (i := 148) (by decide +kernel)⟩
theorem lw_p5 : lw_okq (⟨"WriteBackTier", "slotWith", "(I)I"⟩, 13) := ⟨⟨by decide +kernel, by decide +kernel⟩, List.mem_of_getElem? (i := 12) (by decide +kernel), List.mem_of_getElem? (i := 179) (by decide +kernel), List.mem_of_getElem? (i := 180) (by decide +kernel)⟩
theorem lw_p6 : lw_okq (⟨"WriteBackTier", "useSlot", "(I)V"⟩, 13) := ⟨⟨by decide +kernel, by decide +kernel⟩, List.mem_of_getElem? (i := 12) (by decide +kernel), List.mem_of_getElem? (i := 186) (by decide +kernel), List.mem_of_getElem? (i := 187) (by decide +kernel)⟩
theorem lw_p7 : lw_okq (⟨"WriteBackTier", "findRoom", "()I"⟩, 13) := ⟨⟨by decide +kernel, by decide +kernel⟩, List.mem_of_getElem? (i := 12) (by decide +kernel), List.mem_of_getElem? (i := 190) (by decide +kernel), List.mem_of_getElem? (i := 191) (by decide +kernel)⟩
theorem lw_p8 : lw_okq (⟨"WriteBackTier", "writeBackIfDirty", "(I)Z"⟩, 13) := ⟨⟨by decide +kernel, by decide +kernel⟩, List.mem_of_getElem? (i := 12) (by decide +kernel), List.mem_of_getElem? (i := 194) (by decide +kernel), List.mem_of_getElem? (i := 195) (by decide +kernel)⟩
theorem lw_p9 : lw_okq (⟨"WriteBackTier", "giveOrigin", "(IJ)V"⟩, 13) := ⟨⟨by decide +kernel, by decide +kernel⟩, List.mem_of_getElem? (i := 12) (by decide +kernel), List.mem_of_getElem? (i := 198) (by decide +kernel), List.mem_of_getElem? (i := 199) (by decide +kernel)⟩
theorem lw_p10 : lw_okq (⟨"WriteBackTier", "makeClean", "(I)V"⟩, 13) := ⟨⟨by decide +kernel, by decide +kernel⟩, List.mem_of_getElem? (i := 12) (by decide +kernel), List.mem_of_getElem? (i := 202) (by decide +kernel), List.mem_of_getElem? (i := 203) (by decide +kernel)⟩
theorem lw_p11 : lw_okq (⟨"WriteBackTier", "makeEmpty", "(I)V"⟩, 13) := ⟨⟨by decide +kernel, by decide +kernel⟩, List.mem_of_getElem? (i := 12) (by decide +kernel), List.mem_of_getElem? (i := 209) (by decide +kernel), List.mem_of_getElem? (i := 210) (by decide +kernel)⟩
theorem lw_p12 : lw_okq (⟨"WriteBackTier", "keepClean", "(II)V"⟩, 13) := ⟨⟨by decide +kernel, by decide +kernel⟩, List.mem_of_getElem? (i := 12) (by decide +kernel), List.mem_of_getElem? (i := 213) (by decide +kernel), List.mem_of_getElem? (i := 214) (by decide +kernel)⟩
theorem lw_p13 : lw_okq (⟨"WriteBackTier", "writeThrough", "(IJ)V"⟩, 13) := ⟨⟨by decide +kernel, by decide +kernel⟩, List.mem_of_getElem? (i := 12) (by decide +kernel), List.mem_of_getElem? (i := 224) (by decide +kernel), List.mem_of_getElem? (i := 225) (by decide +kernel)⟩
theorem lw_p14 : lw_okq (⟨"WriteBackTier", "writePast", "(IJ)V"⟩, 13) := ⟨⟨by decide +kernel, by decide +kernel⟩, List.mem_of_getElem? (i := 12) (by decide +kernel), List.mem_of_getElem? (i := 228) (by decide +kernel), List.mem_of_getElem? (i := 229) (by decide +kernel)⟩
theorem lw_p15 : lw_okq (⟨"WriteBackTier", "writeInSteps", "(IJI)I"⟩, 13) := ⟨⟨by decide +kernel, by decide +kernel⟩, List.mem_of_getElem? (i := 12) (by decide +kernel), List.mem_of_getElem? (i := 232) (by decide +kernel), List.mem_of_getElem? (i := 233) (by decide +kernel)⟩
def lw_privs_1 : List (MethodName × Nat) := [(⟨"WriteBackTier", "noteSlot", "(I)V"⟩, 13), (⟨"WriteBackTier", "stopMachine", "()V"⟩, 13), (⟨"WriteBackTier", "countFull", "()I"⟩, 13), (⟨"WriteBackTier", "countDirty", "()I"⟩, 13), (⟨"java/lang/Throwable", "fillInStackTrace", "(I)Ljava/lang/Throwable;"⟩, 6), (⟨"WriteBackTier", "slotWith", "(I)I"⟩, 13), (⟨"WriteBackTier", "useSlot", "(I)V"⟩, 13), (⟨"WriteBackTier", "findRoom", "()I"⟩, 13), (⟨"WriteBackTier", "writeBackIfDirty", "(I)Z"⟩, 13), (⟨"WriteBackTier", "giveOrigin", "(IJ)V"⟩, 13), (⟨"WriteBackTier", "makeClean", "(I)V"⟩, 13), (⟨"WriteBackTier", "makeEmpty", "(I)V"⟩, 13), (⟨"WriteBackTier", "keepClean", "(II)V"⟩, 13), (⟨"WriteBackTier", "writeThrough", "(IJ)V"⟩, 13), (⟨"WriteBackTier", "writePast", "(IJ)V"⟩, 13), (⟨"WriteBackTier", "writeInSteps", "(IJI)I"⟩, 13)]
theorem lw_r1 : ∀ q ∈ lw_privs_1, lw_okq q := List.forall_mem_cons.mpr ⟨lw_p0, List.forall_mem_cons.mpr ⟨lw_p1, List.forall_mem_cons.mpr ⟨lw_p2, List.forall_mem_cons.mpr ⟨lw_p3, List.forall_mem_cons.mpr ⟨lw_p4, List.forall_mem_cons.mpr ⟨lw_p5, List.forall_mem_cons.mpr ⟨lw_p6, List.forall_mem_cons.mpr ⟨lw_p7, List.forall_mem_cons.mpr ⟨lw_p8, List.forall_mem_cons.mpr ⟨lw_p9, List.forall_mem_cons.mpr ⟨lw_p10, List.forall_mem_cons.mpr ⟨lw_p11, List.forall_mem_cons.mpr ⟨lw_p12, List.forall_mem_cons.mpr ⟨lw_p13, List.forall_mem_cons.mpr ⟨lw_p14, List.forall_mem_cons.mpr ⟨lw_p15, fun _ h => absurd h List.not_mem_nil⟩⟩⟩⟩⟩⟩⟩⟩⟩⟩⟩⟩⟩⟩⟩⟩
theorem lw_p16 : lw_okq (⟨"WriteBackTier", "fillInSteps", "(IIJI)I"⟩, 13) := ⟨⟨by decide +kernel, by decide +kernel⟩, List.mem_of_getElem? (i := 12) (by decide +kernel), List.mem_of_getElem? (i := 236) (by decide +kernel), List.mem_of_getElem? (i := 237) (by decide +kernel)⟩
theorem lw_p17 : lw_okq (⟨"WriteBackTier", "overwriteDirty", "(IIJI)I"⟩, 13) := ⟨⟨by decide +kernel, by decide +kernel⟩, List.mem_of_getElem? (i := 12) (by decide +kernel), List.mem_of_getElem? (i := 243) (by decide +kernel), List.mem_of_getElem? (i := 244) (by decide +kernel)⟩
theorem lw_p18 : lw_okq (⟨"WriteBackTier", "overwriteClean", "(IIJI)I"⟩, 13) := ⟨⟨by decide +kernel, by decide +kernel⟩, List.mem_of_getElem? (i := 12) (by decide +kernel), List.mem_of_getElem? (i := 247) (by decide +kernel), List.mem_of_getElem? (i := 248) (by decide +kernel)⟩
theorem lw_p19 : lw_okq (⟨"WriteBackTier", "writeAllBack", "()I"⟩, 13) := ⟨⟨by decide +kernel, by decide +kernel⟩, List.mem_of_getElem? (i := 12) (by decide +kernel), List.mem_of_getElem? (i := 284) (by decide +kernel), List.mem_of_getElem? (i := 285) (by decide +kernel)⟩
theorem lw_p20 : lw_okq (⟨"WriteBackTier", "nextForHand", "()I"⟩, 13) := ⟨⟨by decide +kernel, by decide +kernel⟩, List.mem_of_getElem? (i := 12) (by decide +kernel), List.mem_of_getElem? (i := 296) (by decide +kernel), List.mem_of_getElem? (i := 297) (by decide +kernel)⟩
theorem lw_p21 : lw_okq (⟨"WriteBackTier", "leastDirtyFrom", "(I)I"⟩, 13) := ⟨⟨by decide +kernel, by decide +kernel⟩, List.mem_of_getElem? (i := 12) (by decide +kernel), List.mem_of_getElem? (i := 300) (by decide +kernel), List.mem_of_getElem? (i := 301) (by decide +kernel)⟩
theorem lw_p22 : lw_okq (⟨"WriteBackTier", "countUsedAfter", "(I)I"⟩, 13) := ⟨⟨by decide +kernel, by decide +kernel⟩, List.mem_of_getElem? (i := 12) (by decide +kernel), List.mem_of_getElem? (i := 350) (by decide +kernel), List.mem_of_getElem? (i := 351) (by decide +kernel)⟩
theorem lw_p23 : lw_okq (⟨"WriteBackTierModel", "find", "(I)I"⟩, 15) := ⟨⟨by decide +kernel, by decide +kernel⟩, List.mem_of_getElem? (i := 386) (by decide +kernel), List.mem_of_getElem? (i := 450) (by decide +kernel), List.mem_of_getElem? (i := 451) (by decide +kernel)⟩
theorem lw_p24 : lw_okq (⟨"WriteBackTierModel", "use", "(I)V"⟩, 15) := ⟨⟨by decide +kernel, by decide +kernel⟩, List.mem_of_getElem? (i := 386) (by decide +kernel), List.mem_of_getElem? (i := 454) (by decide +kernel), List.mem_of_getElem? (i := 455) (by decide +kernel)⟩
theorem lw_p25 : lw_okq (⟨"WriteBackTierModel", "room", "()I"⟩, 15) := ⟨⟨by decide +kernel, by decide +kernel⟩, List.mem_of_getElem? (i := 386) (by decide +kernel), List.mem_of_getElem? (i := 458) (by decide +kernel), List.mem_of_getElem? (i := 459) (by decide +kernel)⟩
theorem lw_p26 : lw_okq (⟨"WriteBackTierModel", "writeBack", "(I)V"⟩, 15) := ⟨⟨by decide +kernel, by decide +kernel⟩, List.mem_of_getElem? (i := 386) (by decide +kernel), List.mem_of_getElem? (i := 462) (by decide +kernel), List.mem_of_getElem? (i := 463) (by decide +kernel)⟩
theorem lw_p27 : lw_okq (⟨"WriteBackTierModel", "give", "(IJ)V"⟩, 15) := ⟨⟨by decide +kernel, by decide +kernel⟩, List.mem_of_getElem? (i := 386) (by decide +kernel), List.mem_of_getElem? (i := 466) (by decide +kernel), List.mem_of_getElem? (i := 467) (by decide +kernel)⟩
theorem lw_p28 : lw_okq (⟨"WriteBackTierModel", "clean", "(I)V"⟩, 15) := ⟨⟨by decide +kernel, by decide +kernel⟩, List.mem_of_getElem? (i := 386) (by decide +kernel), List.mem_of_getElem? (i := 470) (by decide +kernel), List.mem_of_getElem? (i := 471) (by decide +kernel)⟩
theorem lw_p29 : lw_okq (⟨"WriteBackTierModel", "isNotedDirty", "(I)Z"⟩, 15) := ⟨⟨by decide +kernel, by decide +kernel⟩, List.mem_of_getElem? (i := 386) (by decide +kernel), List.mem_of_getElem? (i := 474) (by decide +kernel), List.mem_of_getElem? (i := 475) (by decide +kernel)⟩
theorem lw_p30 : lw_okq (⟨"WriteBackTierModel", "noteSlot", "(I)V"⟩, 15) := ⟨⟨by decide +kernel, by decide +kernel⟩, List.mem_of_getElem? (i := 386) (by decide +kernel), List.mem_of_getElem? (i := 478) (by decide +kernel), List.mem_of_getElem? (i := 479) (by decide +kernel)⟩
theorem lw_p31 : lw_okq (⟨"WriteBackTierModel", "soOf", "(I)I"⟩, 15) := ⟨⟨by decide +kernel, by decide +kernel⟩, List.mem_of_getElem? (i := 386) (by decide +kernel), List.mem_of_getElem? (i := 482) (by decide +kernel), List.mem_of_getElem? (i := 483) (by decide +kernel)⟩
def lw_privs_2 : List (MethodName × Nat) := [(⟨"WriteBackTier", "fillInSteps", "(IIJI)I"⟩, 13), (⟨"WriteBackTier", "overwriteDirty", "(IIJI)I"⟩, 13), (⟨"WriteBackTier", "overwriteClean", "(IIJI)I"⟩, 13), (⟨"WriteBackTier", "writeAllBack", "()I"⟩, 13), (⟨"WriteBackTier", "nextForHand", "()I"⟩, 13), (⟨"WriteBackTier", "leastDirtyFrom", "(I)I"⟩, 13), (⟨"WriteBackTier", "countUsedAfter", "(I)I"⟩, 13), (⟨"WriteBackTierModel", "find", "(I)I"⟩, 15), (⟨"WriteBackTierModel", "use", "(I)V"⟩, 15), (⟨"WriteBackTierModel", "room", "()I"⟩, 15), (⟨"WriteBackTierModel", "writeBack", "(I)V"⟩, 15), (⟨"WriteBackTierModel", "give", "(IJ)V"⟩, 15), (⟨"WriteBackTierModel", "clean", "(I)V"⟩, 15), (⟨"WriteBackTierModel", "isNotedDirty", "(I)Z"⟩, 15), (⟨"WriteBackTierModel", "noteSlot", "(I)V"⟩, 15), (⟨"WriteBackTierModel", "soOf", "(I)I"⟩, 15)]
theorem lw_r2 : ∀ q ∈ lw_privs_2, lw_okq q := List.forall_mem_cons.mpr ⟨lw_p16, List.forall_mem_cons.mpr ⟨lw_p17, List.forall_mem_cons.mpr ⟨lw_p18, List.forall_mem_cons.mpr ⟨lw_p19, List.forall_mem_cons.mpr ⟨lw_p20, List.forall_mem_cons.mpr ⟨lw_p21, List.forall_mem_cons.mpr ⟨lw_p22, List.forall_mem_cons.mpr ⟨lw_p23, List.forall_mem_cons.mpr ⟨lw_p24, List.forall_mem_cons.mpr ⟨lw_p25, List.forall_mem_cons.mpr ⟨lw_p26, List.forall_mem_cons.mpr ⟨lw_p27, List.forall_mem_cons.mpr ⟨lw_p28, List.forall_mem_cons.mpr ⟨lw_p29, List.forall_mem_cons.mpr ⟨lw_p30, List.forall_mem_cons.mpr ⟨lw_p31, fun _ h => absurd h List.not_mem_nil⟩⟩⟩⟩⟩⟩⟩⟩⟩⟩⟩⟩⟩⟩⟩⟩
theorem lw_p32 : lw_okq (⟨"WriteBackTierModel", "empty", "(I)V"⟩, 15) := ⟨⟨by decide +kernel, by decide +kernel⟩, List.mem_of_getElem? (i := 386) (by decide +kernel), List.mem_of_getElem? (i := 486) (by decide +kernel), List.mem_of_getElem? (i := 487) (by decide +kernel)⟩
theorem lw_p33 : lw_okq (⟨"WriteBackTierModel", "steps", "(IJI)I"⟩, 15) := ⟨⟨by decide +kernel, by decide +kernel⟩, List.mem_of_getElem? (i := 386) (by decide +kernel), List.mem_of_getElem? (i := 494) (by decide +kernel), List.mem_of_getElem? (i := 495) (by decide +kernel)⟩
theorem lw_p34 : lw_okq (⟨"WriteBackTierModel", "stop", "()V"⟩, 15) := ⟨⟨by decide +kernel, by decide +kernel⟩, List.mem_of_getElem? (i := 386) (by decide +kernel), List.mem_of_getElem? (i := 502) (by decide +kernel), List.mem_of_getElem? (i := 503) (by decide +kernel)⟩
theorem lw_p35 : lw_okq (⟨"WriteBackTierModel", "nextDirty", "(I)I"⟩, 15) := ⟨⟨by decide +kernel, by decide +kernel⟩, List.mem_of_getElem? (i := 386) (by decide +kernel), List.mem_of_getElem? (i := 514) (by decide +kernel), List.mem_of_getElem? (i := 515) (by decide +kernel)⟩
theorem lw_p36 : lw_okq (⟨"WriteBackTierModel", "full", "()I"⟩, 15) := ⟨⟨by decide +kernel, by decide +kernel⟩, List.mem_of_getElem? (i := 386) (by decide +kernel), List.mem_of_getElem? (i := 526) (by decide +kernel), List.mem_of_getElem? (i := 527) (by decide +kernel)⟩
theorem lw_p37 : lw_okq (⟨"WriteBackTierModel", "dirties", "()I"⟩, 15) := ⟨⟨by decide +kernel, by decide +kernel⟩, List.mem_of_getElem? (i := 386) (by decide +kernel), List.mem_of_getElem? (i := 534) (by decide +kernel), List.mem_of_getElem? (i := 535) (by decide +kernel)⟩
def lw_privs_3 : List (MethodName × Nat) := [(⟨"WriteBackTierModel", "empty", "(I)V"⟩, 15), (⟨"WriteBackTierModel", "steps", "(IJI)I"⟩, 15), (⟨"WriteBackTierModel", "stop", "()V"⟩, 15), (⟨"WriteBackTierModel", "nextDirty", "(I)I"⟩, 15), (⟨"WriteBackTierModel", "full", "()I"⟩, 15), (⟨"WriteBackTierModel", "dirties", "()I"⟩, 15)]
theorem lw_r3 : ∀ q ∈ lw_privs_3, lw_okq q := List.forall_mem_cons.mpr ⟨lw_p32, List.forall_mem_cons.mpr ⟨lw_p33, List.forall_mem_cons.mpr ⟨lw_p34, List.forall_mem_cons.mpr ⟨lw_p35, List.forall_mem_cons.mpr ⟨lw_p36, List.forall_mem_cons.mpr ⟨lw_p37, fun _ h => absurd h List.not_mem_nil⟩⟩⟩⟩⟩⟩
def lw_privs : List (MethodName × Nat) := lw_privs_1 ++ (lw_privs_2 ++ (lw_privs_3))
def lw_tbl : List Cond := k2_sels lw_privs ++ tables_1
theorem lw_privs_ok : ∀ q ∈ lw_privs, lw_okq q := by
  show ∀ q ∈ lw_privs_1 ++ (lw_privs_2 ++ (lw_privs_3)), lw_okq q
  exact List.forall_mem_append.mpr ⟨lw_r1, List.forall_mem_append.mpr ⟨lw_r2, lw_r3⟩⟩
end
section
/-! ===== BEGIN words of one list among another's, by their places ===== -/
theorem goodIn_r {big : List Cond} (ws : List Cond) (ps : List Nat) (hp : ws = ps.filterMap (fun i => big[i]?)) (h : ws.all goodWord = true) : GoodIn big ws := by
  intro w hw
  have h1 := List.all_eq_true.mp h w hw
  rw [hp] at hw
  obtain ⟨i, -, hi⟩ := List.mem_filterMap.mp hw
  have hm : w ∈ big := by first | exact List.mem_of_getElem? hi | exact List.getElem?_mem hi
  exact ⟨hm, good_of_word h1⟩
theorem goodIn_app {big a b : List Cond} (ha : GoodIn big a) (hb : GoodIn big b) : GoodIn big (a ++ b) := fun w h => (List.mem_append.mp h).elim (ha w) (hb w)
theorem goodIn_ca {big a b : List Cond} {c : Cond} (ha : GoodIn big (c :: a)) (hb : GoodIn big b) : GoodIn big (c :: (a ++ b)) := fun w h => (List.mem_cons.mp h).elim (fun e => ha w (List.mem_cons.mpr (Or.inl e))) (fun h => (List.mem_append.mp h).elim (fun h => ha w (List.mem_cons.mpr (Or.inr h))) (hb w))
theorem goodIn_sub {big ws : List Cond} (hm : ∀ w ∈ ws, w ∈ big) (h : ws.all goodWord = true) : GoodIn big ws := fun w hw => ⟨hm w hw, good_of_word (List.all_eq_true.mp h w hw)⟩
/-! ===== END ===== -/

/-! ===== BEGIN exceptions that leave a method, and their catching by the caller (launches without stack traces) ===== -/
section VXA
/-! The laws vx_back, vx_callV, vx_callS, vx_callSW, vx_throw0, vx_throwS follow proofs of the library, with one case more: JvmDerived/Free/Laws.lean (Back.of_free), Shelf42/LK1.lean (callV, callS), Shelf/KitTraced.lean (throwNew0V, throwNewS). -/
/-- where a method has thrown q: the class by its name, the cell, what was written, the world -/
def vx_T (XC : String → State → State → Prop) (st : State) (q : Addr) (t : State) (mc ms : Nat) (free : Addr → Prop) : Prop :=
  ∃ (E : String) (ce : Cell) (L : List Loc), XC E st t ∧ t.heap[q]? = some ce ∧ ce.vm = .none ∧ st.vm.findClass E = some ce.cls ∧ st.WarmedH t.vm ∧ st.sameButNew ({ t with vm := st.vm } : State) L mc ms ∧ ∀ z ∈ L, free z.base
def vx_Q (Qc : Array Value → State → Outcome → State → Prop) (XC : String → State → State → Prop) (mc ms : Nat) (free : Addr → Prop) : Array Value → State → Outcome → State → Prop := fun a st o t =>
  (Qc a st o t ∧ ∃ L, FrameEnd st o t L mc ms ∧ ∀ q ∈ L, free q.base) ∨ ∃ q, o = .threw q ∧ vx_T XC st q t mc ms free
/-- a callee that returns or throws -/
def vx_Met (l : Launch) (y : MethodName) (ws : List Cond) (rm : Room) (Pc : Array Value → State → Prop) (Qc : Array Value → State → Outcome → State → Prop) (XC : String → State → State → Prop) (mc ms : Nat) (free : Addr → Prop) : Prop :=
  MetFree l y (headSpec ws rm) Pc (fun _ _ _ _ _ => True) (vx_Q Qc XC mc ms free)
def vx_Post (XC : String → State → State → Prop) (mc ms : Nat) (free : Addr → Prop) : Pt → Array Value → Addr → Pt → Prop := fun A a q B =>
  ∃ (g : JFrame) (mk : MethodId) (t : State) (L : List Loc) (E : String) (ce : Cell), B.U.heap = t.heap ∧ B.U.vm = t.vm ∧ XC E (A.U.calling g mk a) t ∧ t.heap[q]? = some ce ∧ ce.vm = .none ∧ A.U.vm.findClass E = some ce.cls ∧ B.locs = A.locs ++ L ∧ (∀ z ∈ L, free z.base) ∧ B.cells = A.cells + mc ∧ B.slots = A.slots + ms
def vx_Back (l : Launch) (R : Room) (p : Program) (e : Env) (below : List Frame) (s : State) (sargs : Array Value) (y : MethodName) (len W9 : Nat)
    (Pre : Pt → Array Value → Prop) (Post : Pt → Array Value → Option Value → Pt → Prop) (PostX : Pt → Array Value → Addr → Pt → Prop) : Prop :=
  ∀ (m : MethodId) (meth : Method) (c : Code) (A : Pt) (g : JFrame) (ig : Instr) (mk : MethodId) (a : Array Value),
    Stand p l e R s m sargs below meth c A.U A.locs A.cells A.slots → g.method = m → g.locals.size = c.maxLocals → decode c.code g.pc = .ok (ig, len) →
    2 * g.monitorRoom + (g.stack.map fun v => v.category).sum ≤ W9 → A.U.methodNamed? y = some mk → Pre A a →
    (∃ (v : Option Value) (B : Pt), Stand p l e R s m sargs below meth c B.U B.locs B.cells B.slots ∧ Post A a v B ∧
      Steps p.tables e below (doInvoke e (A.U.setTop g) [] mk a).1 (B.U.setTop { g with pc := g.pc + len, stack := v.toList ++ g.stack })) ∨
    (∃ (q : Addr) (B : Pt), Stand p l e R s m sargs below meth c B.U B.locs B.cells B.slots ∧ PostX A a q B ∧
      Steps p.tables e below (doInvoke e (A.U.setTop g) [] mk a).1 ((B.U.setTop g).pushFrame (.throwing q)))
section Payer
variable {l : Launch} {R : Room} {p : Program} {e : Env} {below : List Frame} {s : State} {sargs : Array Value} {y : MethodName} {len W9 : Nat}
theorem vx_back {ws : List Cond} {rm : Room} {Pc : Array Value → State → Prop} {Qc : Array Value → State → Outcome → State → Prop} {XC : String → State → State → Prop} {mc ms : Nat} {free : Addr → Prop} {bytes : ByteArray} {maxL : Nat} {ret : Option FieldType}
    (hM : vx_Met l y ws rm Pc Qc XC mc ms free) (hblind : FrameBlind Pc) (hrc : rm.cells = mc) (hrs : rm.slots = ms)
    (hframes : rm.frames + 1 ≤ R.frames) (hlocals : W9 + (maxL + 11) + rm.locals ≤ R.locals)
    (hws : ∀ w ∈ ws, ∀ a' U, s.WarmedH U.vm → w.before a' U = true) (hcode : Cond.code y bytes maxL ret ∈ ws) (hinit : ∀ a' U, s.WarmedH U.vm → (Cond.initialized y.cls).before a' U = true) :
    vx_Back l R p e below s sargs y len W9 (PreOf R mc ms Pc) (PostOf Qc mc ms free) (vx_Post XC mc ms free) := by
  intro m meth c A g ig mk a X hg hsize hdg hW hn hp
  have h1 : (headSpec ws rm).pre.before a A.U = true := atoms_intro fun w hw => hws w hw _ _ X.warmed
  have h2 : (Cond.code y bytes maxL ret).before a A.U = true := hws _ hcode _ _ X.warmed
  have h3 : (Cond.initialized y.cls).before a A.U = true := hinit _ _ X.warmed
  have h4 : A.cells + (headSpec ws rm).room.cells ≤ R.cells := by rw [show (headSpec ws rm).room.cells = mc from hrc]; exact hp.1
  have h5 : A.slots + (headSpec ws rm).room.slots ≤ R.slots := by rw [show (headSpec ws rm).room.slots = ms from hrs]; exact hp.2.1
  have hPc : Pc a (A.U.calling g mk a) := hblind _ _ _ _ hp.2.2
  obtain ⟨U, Ls, c0, s0⟩ := A
  dsimp only [Pt.U, Pt.locs, Pt.cells, Pt.slots] at h1 h2 h3 h4 h5 X hn hPc ⊢
  obtain ⟨methY, cY, hmY, hcY, -, hlY, -, -, -, -⟩ := Cond.code_spec hn h2
  obtain ⟨kY, hkY, -⟩ := className_of_methodNamed hn
  have hinitY : kY.init = .initialized := Cond.initialized_spec (findClass_of_methodNamed hn) hkY h3
  have h : At U g.method c below := by rw [hg]; exact X.here
  have hlocals9 : W9 + (maxL + 11) + (headSpec ws rm).room.locals ≤ R.locals := hlocals
  have happ : (headSpec ws rm).appliesLoose y e.platform (U.calling g mk a) = true :=
    Spec.appliesLoose_calling (g := g) h hdg hn hkY hinitY
      (X.room_calling (g := g) (R' := (headSpec ws rm).room) hsize hmY hcY hframes (by rw [hlY]; omega) h4 h5) h1
  obtain ⟨mid, hmid⟩ := h.above
  have hfr : (U.setTop g).frames = (.java g :: mid) ++ below := by rw [State.frames_setTop' g h.top, hmid]; rfl
  obtain ⟨o, s₂, hsteps, -, hend, hq⟩ := Steps.callFree hM p X.admits X.cas X.clock (acts := []) hfr happ hPc trivial
  have hq' : vx_Q Qc XC mc ms free a (U.calling g mk a) o s₂ := hq
  rw [State.frames_setTop' g h.top] at hend
  obtain ⟨g₀, hg0⟩ := Option.isSome_iff_exists.mp h.top
  obtain ⟨r, hr⟩ := State.topJava?_eq_some.mp hg0
  have hr' : (({ U with heap := s₂.heap, slotsUsed := s₂.slotsUsed } : State).setVm s₂.vm).frames = .java g₀ :: r := hr
  rcases hq' with ⟨hqc, L, hfe, hL⟩ | ⟨q, rfl, E, ce, L, hx, hce, hcv, hcl, hW₂, hsm, hL⟩
  · obtain ⟨⟨v, rfl⟩, hW₂, e2, q2, q3, q4, q5, q6⟩ := id hfe
    have e3 : s₂ = ({ (U.calling g mk a).setFrames s₂.frames with heap := s₂.heap, slotsUsed := s₂.slotsUsed } : State).setVm s₂.vm := by
      have : s₂ = ({ s₂ with vm := (U.calling g mk a).vm } : State).setVm s₂.vm := rfl
      rw [e2] at this
      exact this
    obtain ⟨c₂, i₂, len₂, hc₂, hd₂, hf₂⟩ := hend
    have hW' : U.WarmedH s₂.vm := hW₂
    have hcc : c₂ = c := by
      have h1 : s₂.code? g.method = U.code? g.method := by
        rw [State.code?_eq, State.code?_eq, hW'.alike.method?]
      exact Option.some.inj (hc₂.symm.trans (h1.trans h.code))
    subst hcc
    have hlen : len₂ = len := by rw [hdg] at hd₂; cases hd₂; rfl
    subst hlen
    have hs₂ : s₂ = (({ U with heap := s₂.heap, slotsUsed := s₂.slotsUsed } : State).setVm s₂.vm).setTop { g with pc := g.pc + len₂, stack := v.toList ++ g.stack } := by
      refine e3.trans ?_
      rw [hf₂, State.calling_eq h.top, State.setFrames_setFrames, State.setTop_of_frames _ hr', hr]
      rfl
    have hsame : U.sameButNew ({ U with heap := s₂.heap, slotsUsed := s₂.slotsUsed } : State) L mc ms := by
      refine ⟨?_, q2, q3, q4, q5, q6⟩
      obtain ⟨t, ht, -⟩ := State.frames_cons hr
      show ({ U with heap := s₂.heap, slotsUsed := s₂.slotsUsed } : State) = { U.setFrames U.frames with heap := s₂.heap, slotsUsed := s₂.slotsUsed }
      rw [State.setFrames_self ht]
    subst hg
    refine Or.inl ⟨v, ⟨(({ U with heap := s₂.heap, slotsUsed := s₂.slotsUsed } : State).setVm s₂.vm), Ls ++ L, c0 + mc, s0 + ms⟩,
      ⟨X.admits, X.cas, X.clock, X.frames, X.room, X.hears, X.method, X.code, (X.here.setHeapUsed s₂.heap s₂.slotsUsed).setVm hW'.alike, X.tail, State.WarmedH.trans X.warmed hW', X.limits, X.bytes, X.same.trans (hsame.setVm s.vm)⟩,
      ⟨g, mk, s₂, L, rfl, rfl, hqc, rfl, hL, rfl, rfl⟩, ?_⟩
    show Steps p.tables e below _ ((({ U with heap := s₂.heap, slotsUsed := s₂.slotsUsed } : State).setVm s₂.vm).setTop { g with pc := g.pc + len₂, stack := v.toList ++ g.stack })
    rw [← hs₂]
    exact hsteps
  · obtain ⟨e2, q2, q3, q4, q5, q6⟩ := id hsm
    have e3 : s₂ = ({ (U.calling g mk a).setFrames s₂.frames with heap := s₂.heap, slotsUsed := s₂.slotsUsed } : State).setVm s₂.vm := by
      have : s₂ = ({ s₂ with vm := (U.calling g mk a).vm } : State).setVm s₂.vm := rfl
      rw [e2] at this
      exact this
    have hf₂ : s₂.frames = .throwing q :: .java g :: U.frames.tail := hend
    have hW' : U.WarmedH s₂.vm := hW₂
    have hs₂ : s₂ = ((({ U with heap := s₂.heap, slotsUsed := s₂.slotsUsed } : State).setVm s₂.vm).setTop g).pushFrame (.throwing q) := by
      refine e3.trans ?_
      rw [hf₂, State.calling_eq h.top, State.setFrames_setFrames, State.pushFrame, State.frames_setTop _ hr', State.setTop_of_frames _ hr', State.setFrames_setFrames, hr]
      rfl
    have hsame : U.sameButNew ({ U with heap := s₂.heap, slotsUsed := s₂.slotsUsed } : State) L mc ms := by
      refine ⟨?_, q2, q3, q4, q5, q6⟩
      obtain ⟨t, ht, -⟩ := State.frames_cons hr
      show ({ U with heap := s₂.heap, slotsUsed := s₂.slotsUsed } : State) = { U.setFrames U.frames with heap := s₂.heap, slotsUsed := s₂.slotsUsed }
      rw [State.setFrames_self ht]
    subst hg
    refine Or.inr ⟨q, ⟨(({ U with heap := s₂.heap, slotsUsed := s₂.slotsUsed } : State).setVm s₂.vm), Ls ++ L, c0 + mc, s0 + ms⟩,
      ⟨X.admits, X.cas, X.clock, X.frames, X.room, X.hears, X.method, X.code, (X.here.setHeapUsed s₂.heap s₂.slotsUsed).setVm hW'.alike, X.tail, State.WarmedH.trans X.warmed hW', X.limits, X.bytes, X.same.trans (hsame.setVm s.vm)⟩,
      ⟨g, mk, s₂, L, E, ce, rfl, rfl, hx, hce, hcv, hcl, rfl, hL, rfl, rfl⟩, ?_⟩
    show Steps p.tables e below _ (((({ U with heap := s₂.heap, slotsUsed := s₂.slotsUsed } : State).setVm s₂.vm).setTop g).pushFrame (.throwing q))
    rw [← hs₂]
    exact hsteps
end Payer
section Calls
variable {p : Program} {l : Launch} {e : Env} {R : Room} {s : State} {m : MethodId} {args : Array Value} {below : List Frame} {meth : Method} {c : Code} {T : State} {locs : List Loc} {cells slots : Nat}
theorem vx_callV (X : Stand p l e R s m args below meth c T locs cells slots) (hexec : p.tables.exec = Jvm.exec) {own C : String} {index : Nat} {y : MethodName} {bytes : ByteArray} {maxL : Nat} {ret : Option FieldType}
    (hown : s.vm.findClass own = some m.cls) (hlink : (Cond.methodLink own index y).before args s = true) (hinst : (Cond.instanceMethod y).before args s = true) (hsel : (Cond.selects C y y).before args s = true)
    (hcode : (Cond.code y bytes maxL ret).before args s = true) (hy : y.cls ≠ "java/lang/invoke/MethodHandle" ∧ y.cls ≠ "java/lang/invoke/VarHandle")
    {W9 : Nat} {Pre : Pt → Array Value → Prop} {Post : Pt → Array Value → Option Value → Pt → Prop} {PostX : Pt → Array Value → Addr → Pt → Prop} (hK : vx_Back l R p e below s args y 3 W9 Pre Post PostX)
    {b : Addr} {cellB : Cell} (hcell : T.heap[b]? = some cellB) (hobj : cellB.vm.isStatics = false) (hcls : s.vm.findClass C = some cellB.cls)
    {g : JFrame} (hg : g.method = m) (hsize : g.locals.size = c.maxLocals) {argsL rest : List Value} (hlen : ∀ sig, parseMethodDescriptor y.desc = some sig → argsL.length = sig.parameters.length)
    (hstack : g.stack = argsL.reverse ++ .ref b :: rest) (hW : 2 * g.monitorRoom + (rest.map fun v => v.category).sum ≤ W9) (hdg : decode c.code g.pc = .ok (.invokevirtual index, 3))
    (hpre : ∀ vm₁, s.WarmedH vm₁ → Pre ⟨T.setVm vm₁, locs, cells, slots⟩ (Value.ref b :: argsL).toArray) :
    (∃ (v : Option Value) (vm₁ : Vm) (B : Pt), s.WarmedH vm₁ ∧ Stand p l e R s m args below meth c B.U B.locs B.cells B.slots ∧ Post ⟨T.setVm vm₁, locs, cells, slots⟩ (Value.ref b :: argsL).toArray v B ∧
      ∀ target, Steps p.tables e below (B.U.setTop { g with pc := g.pc + 3, stack := v.toList ++ rest }) target → Steps p.tables e below (T.setTop g) target) ∨
    (∃ (q : Addr) (vm₁ : Vm) (B : Pt), s.WarmedH vm₁ ∧ Stand p l e R s m args below meth c B.U B.locs B.cells B.slots ∧ PostX ⟨T.setVm vm₁, locs, cells, slots⟩ (Value.ref b :: argsL).toArray q B ∧
      Steps p.tables e below (T.setTop g) ((B.U.setTop { g with stack := rest }).pushFrame (.throwing q))) := by
  obtain ⟨mk, methM, hnamed, hmethM, hstM, habM⟩ := Cond.instanceMethod_spec hinst
  obtain ⟨methM', cM, hmethM', -, -, -, -, -, -, hsigM⟩ := Cond.code_spec hnamed hcode
  cases hmethM.symm.trans hmethM'
  obtain ⟨c2, r2, m2, q1, q2, q3, q4, kP, hkP, hkPi⟩ := Cond.selects_spec hsel
  cases hcls.symm.trans q1
  cases (State.methodFound?_of_named hnamed hy).symm.trans q2
  cases hnamed.symm.trans q3
  have hselP : selectMethod e.platform s.vm cellB.cls mk = .method mk := by rw [Launch.admits_selectMethod X.admits]; exact q4
  obtain ⟨vm₁, X₁, hstep₁⟩ := X.invokevirtual hexec hown hlink hnamed hmethM hstM hkP hkPi hy (a := b) (cell := cellB) hcell
    (fun z h => by rw [h] at hobj; cases hobj) hselP hmethM habM hkP hkPi (g := g) hg (argsL := argsL) (rest := rest) (hlen _ hsigM) hstack hdg
  rcases hK m meth c ⟨T.setVm vm₁, locs, cells, slots⟩ { g with stack := rest } (.invokevirtual index) mk (Value.ref b :: argsL).toArray X₁ hg hsize hdg hW (X₁.named hnamed) (hpre vm₁ X₁.warmed) with ⟨v, B, X', hpost, hsteps⟩ | ⟨q, B, X', hpost, hsteps⟩
  · exact Or.inl ⟨v, vm₁, B, X₁.warmed, X', hpost, fun target h => hstep₁ _ fun acts => by rw [doInvoke_state]; exact hsteps.trans h⟩
  · exact Or.inr ⟨q, vm₁, B, X₁.warmed, X', hpost, hstep₁ _ fun acts => by rw [doInvoke_state]; exact hsteps⟩
theorem vx_callS (X : Stand p l e R s m args below meth c T locs cells slots) (hexec : p.tables.exec = Jvm.exec) {own : String} {index : Nat} {y : MethodName} {bytes : ByteArray} {maxL : Nat} {ret : Option FieldType}
    (hown : s.vm.findClass own = some m.cls) (hlink : (Cond.methodLink own index y).before args s = true) (hstat : (Cond.static y).before args s = true) (hinit : (Cond.initialized y.cls).before args s = true)
    (hcode : (Cond.code y bytes maxL ret).before args s = true) (hy : y.cls ≠ "java/lang/invoke/MethodHandle" ∧ y.cls ≠ "java/lang/invoke/VarHandle")
    {W9 : Nat} {Pre : Pt → Array Value → Prop} {Post : Pt → Array Value → Option Value → Pt → Prop} {PostX : Pt → Array Value → Addr → Pt → Prop} (hK : vx_Back l R p e below s args y 3 W9 Pre Post PostX)
    {g : JFrame} (hg : g.method = m) (hsize : g.locals.size = c.maxLocals) {argsL rest : List Value} (hlen : ∀ sig, parseMethodDescriptor y.desc = some sig → argsL.length = sig.parameters.length)
    (hstack : g.stack = argsL.reverse ++ rest) (hW : 2 * g.monitorRoom + (rest.map fun v => v.category).sum ≤ W9) (hdg : decode c.code g.pc = .ok (.invokestatic index, 3))
    (hpre : ∀ vm₁, s.WarmedH vm₁ → Pre ⟨T.setVm vm₁, locs, cells, slots⟩ argsL.toArray) :
    (∃ (v : Option Value) (vm₁ : Vm) (B : Pt), s.WarmedH vm₁ ∧ Stand p l e R s m args below meth c B.U B.locs B.cells B.slots ∧ Post ⟨T.setVm vm₁, locs, cells, slots⟩ argsL.toArray v B ∧
      ∀ target, Steps p.tables e below (B.U.setTop { g with pc := g.pc + 3, stack := v.toList ++ rest }) target → Steps p.tables e below (T.setTop g) target) ∨
    (∃ (q : Addr) (vm₁ : Vm) (B : Pt), s.WarmedH vm₁ ∧ Stand p l e R s m args below meth c B.U B.locs B.cells B.slots ∧ PostX ⟨T.setVm vm₁, locs, cells, slots⟩ argsL.toArray q B ∧
      Steps p.tables e below (T.setTop g) ((B.U.setTop { g with stack := rest }).pushFrame (.throwing q))) := by
  obtain ⟨mk, hnamed⟩ := Cond.code_named hcode
  obtain ⟨methM, cM, hmethM, -, -, -, -, -, -, hsigM⟩ := Cond.code_spec hnamed hcode
  have hstatic : methM.isStatic = true := Cond.static_spec hnamed hmethM hstat
  obtain ⟨kP, hkP, -⟩ := className_of_methodNamed hnamed
  have hinitP : kP.init = .initialized := Cond.initialized_spec (findClass_of_methodNamed hnamed) hkP hinit
  obtain ⟨vm₁, X₁, hstep₁⟩ := X.invokestatic hexec hown hlink hnamed hmethM hstatic hkP hinitP hy (g := g) hg (argsL := argsL) (rest := rest) (hlen _ hsigM) hstack hdg
  rcases hK m meth c ⟨T.setVm vm₁, locs, cells, slots⟩ { g with stack := rest } (.invokestatic index) mk argsL.toArray X₁ hg hsize hdg hW (X₁.named hnamed) (hpre vm₁ X₁.warmed) with ⟨v, B, X', hpost, hsteps⟩ | ⟨q, B, X', hpost, hsteps⟩
  · exact Or.inl ⟨v, vm₁, B, X₁.warmed, X', hpost, fun target h => hstep₁ _ fun acts => by rw [doInvoke_state]; exact hsteps.trans h⟩
  · exact Or.inr ⟨q, vm₁, B, X₁.warmed, X', hpost, hstep₁ _ fun acts => by rw [doInvoke_state]; exact hsteps⟩
end Calls
theorem vx_cls {s : State} {T : State} {vm₁ : Vm} {E : String} {k : ClassId} (hW : s.WarmedH vm₁) (h : (T.setVm vm₁).vm.findClass E = some k) : s.vm.findClass E = some k := by
  have h1 : vm₁.findClass E = some k := h
  rw [hW.alike.findClass] at h1
  exact h1
/-- the method's frame g, with q thrown over it -/
def vx_W (p : Program) (l : Launch) (e : Env) (R : Room) (s : State) (m : MethodId) (args : Array Value) (below : List Frame) (meth : Method) (c : Code) (H : Heap) (locs : List Loc) (cells slots : Nat) (Q : State → Prop) (g : JFrame) (q : Addr) : Prop :=
  ∀ T : State, T.heap = H → Stand p l e R s m args below meth c T locs cells slots → ∃ t, Steps p.tables e below ((T.setTop g).pushFrame (.throwing q)) t ∧ Q t
def vx_Run (p : Program) (l : Launch) (e : Env) (R : Room) (s : State) (m : MethodId) (args : Array Value) (below : List Frame) (meth : Method) (c : Code) (H : Heap) (locs : List Loc) (cells slots mc ms : Nat) (g : JFrame) (rest : List Value) (Qa : State → Outcome → State → Prop) (XC : String → State → State → Prop) (free : Addr → Prop) : Prop :=
  ∀ T : State, T.heap = H → Stand p l e R s m args below meth c T locs cells slots →
    (∃ (v : Option Value) (st₀ t T' : State) (L : List Loc), st₀.heap = H ∧ Stand p l e R s m args below meth c T' (locs ++ L) (cells + mc) (slots + ms) ∧ (∀ q ∈ L, free q.base) ∧ T'.heap = t.heap ∧ T'.vm = t.vm ∧ Qa st₀ (.returned v) t ∧
      Goes p e below T g T' { g with pc := g.pc + 3, stack := v.toList ++ rest }) ∨
    (∃ (q : Addr) (st₀ t T' : State) (L : List Loc) (E : String) (ce : Cell), st₀.heap = H ∧ Stand p l e R s m args below meth c T' (locs ++ L) (cells + mc) (slots + ms) ∧ (∀ z ∈ L, free z.base) ∧ T'.heap = t.heap ∧ T'.vm = t.vm ∧ XC E st₀ t ∧ t.heap[q]? = some ce ∧ ce.vm = .none ∧ s.vm.findClass E = some ce.cls ∧
      Steps p.tables e below (T.setTop g) ((T'.setTop { g with stack := rest }).pushFrame (.throwing q)))
def vx_X {S : Type} (px : S → Prop) (B : String → S → State → Prop) (A : Nat → Prop) : String → State → State → Prop := fun E st t => ∃ u : S, px u ∧ B E u t ∧ va_F A st t
section Runs
variable {p : Program} {l : Launch} {e : Env} {R : Room} {s : State} {m : MethodId} {args : Array Value} {below : List Frame} {meth : Method} {c : Code} {H : Heap} {locs : List Loc} {cells slots : Nat}
variable {y : MethodName} {bytes cc : ByteArray} {maxL nL mc ms n index : Nat} {ret : Option FieldType} {ws : List Cond} {rm : Room} {Pc : Array Value → State → Prop} {Qc : Array Value → State → Outcome → State → Prop} {XC : String → State → State → Prop} {free : Addr → Prop} {Ts : List Cond} {own C : String} {b : Addr} {As rest : List Value} {g : JFrame}
theorem vx_callBack (cb : CallB R s args own index y bytes maxL ret ws rm mc ms n) (hM : vx_Met l y ws rm Pc Qc XC mc ms free) (hbl : FrameBlind Pc) : vx_Back l R p e below s args y 3 8 (PreOf R mc ms Pc) (PostOf Qc mc ms free) (vx_Post XC mc ms free) := by
  obtain ⟨hrc, hrs, hfr, hlo, hws, hcw, -, hini, -⟩ := cb
  exact vx_back (bytes := bytes) (maxL := maxL) (ret := ret) hM hbl hrc hrs hfr hlo hws hcw (fun a' U hW => word_at hW (Or.inl (by first | rfl | simp [Cond.onTables, Cond.keeps, Cond.steady])) hini)
theorem vx_runV (S : CallFix p m c cc nL s args Ts own) (hM : vx_Met l y ws rm Pc Qc XC mc ms free) (cw : CallW R s args own C index y bytes maxL ret ws rm mc ms n) (hp : PreV s H C b Pc As)
    (hg : g.method = m) (hn : As.length = n) (hsize : g.locals.size = nL) (hstack : g.stack = As.reverse ++ .ref b :: rest) (hW : 2 * g.monitorRoom + (rest.map fun v => v.category).sum ≤ 8) (hdg : decode cc g.pc = .ok (.invokevirtual index, 3)) (hf : cells + mc ≤ R.cells ∧ slots + ms ≤ R.slots) :
    vx_Run p l e R s m args below meth c H locs cells slots mc ms g rest (Qc (Value.ref b :: As).toArray) XC free := by
  have hK : vx_Back l R p e below s args y 3 8 (PreOf R mc ms Pc) (PostOf Qc mc ms free) (vx_Post XC mc ms free) := vx_callBack cw.1 hM hp.1
  obtain ⟨⟨-, -, -, -, -, -, hcode, -, hy, hlen, hl⟩, hin, hse⟩ := cw
  obtain ⟨hx, hb, hml, ho, -⟩ := S
  obtain ⟨-, ⟨cellB, hcB, hoB, hclB⟩, hPc⟩ := hp
  intro T hT X
  rcases vx_callV X hx (C := C) (bytes := bytes) (maxL := maxL) (ret := ret) ho hl hin hse hcode hy hK (by rw [hT]; exact hcB) hoB hclB hg (hsize.trans hml.symm) (argsL := As) (rest := rest) (fun sig h => hn.trans (hlen sig h)) hstack hW (by rw [hb]; exact hdg)
    (fun vm₁ hW₁ => ⟨hf.1, hf.2, hPc (T.setVm vm₁) hT hW₁⟩) with ⟨v, vm₁, ⟨U', l2, c2, s2⟩, hW₁, X', ⟨g', mk, t, L, e1, e2, hq, h1, hL, h2, h3⟩, st⟩ | ⟨q, vm₁, ⟨U', l2, c2, s2⟩, hW₁, X', ⟨g', mk, t, L, E, ce, e1, e2, hq, hce, hcv, hcl, h1, hL, h2, h3⟩, st⟩
  · dsimp only [Pt.U, Pt.locs, Pt.cells, Pt.slots] at X' e1 e2 h1 h2 h3 st
    subst h1; subst h2; subst h3
    exact Or.inl ⟨v, (T.setVm vm₁).calling g' mk (Value.ref b :: As).toArray, t, U', L, hT, X', hL, e1, e2, hq, st⟩
  · dsimp only [Pt.U, Pt.locs, Pt.cells, Pt.slots] at X' e1 e2 h1 h2 h3 st hcl
    subst h1; subst h2; subst h3
    exact Or.inr ⟨q, (T.setVm vm₁).calling g' mk (Value.ref b :: As).toArray, t, U', L, E, ce, hT, X', hL, e1, e2, hq, hce, hcv, vx_cls hW₁ hcl, st⟩
theorem vx_runS (S : CallFix p m c cc nL s args Ts own) (hM : vx_Met l y ws rm Pc Qc XC mc ms free) (cw : CallB R s args own index y bytes maxL ret ws rm mc ms n ∧ (Cond.static y).before args s = true) (hp : PreS s H Pc As)
    (hg : g.method = m) (hn : As.length = n) (hsize : g.locals.size = nL) (hstack : g.stack = As.reverse ++ rest) (hW : 2 * g.monitorRoom + (rest.map fun v => v.category).sum ≤ 8) (hdg : decode cc g.pc = .ok (.invokestatic index, 3)) (hf : cells + mc ≤ R.cells ∧ slots + ms ≤ R.slots) :
    vx_Run p l e R s m args below meth c H locs cells slots mc ms g rest (Qc As.toArray) XC free := by
  have hK : vx_Back l R p e below s args y 3 8 (PreOf R mc ms Pc) (PostOf Qc mc ms free) (vx_Post XC mc ms free) := vx_callBack cw.1 hM hp.1
  obtain ⟨⟨-, -, -, -, -, -, hcode, hini, hy, hlen, hl⟩, hstt⟩ := cw
  obtain ⟨hx, hb, hml, ho, -⟩ := S
  intro T hT X
  rcases vx_callS X hx (bytes := bytes) (maxL := maxL) (ret := ret) ho hl hstt hini hcode hy hK hg (hsize.trans hml.symm) (argsL := As) (rest := rest) (fun sig h => hn.trans (hlen sig h)) hstack hW (by rw [hb]; exact hdg)
    (fun vm₁ hW₁ => ⟨hf.1, hf.2, hp.2 (T.setVm vm₁) hT hW₁⟩) with ⟨v, vm₁, ⟨U', l2, c2, s2⟩, hW₁, X', ⟨g', mk, t, L, e1, e2, hq, h1, hL, h2, h3⟩, st⟩ | ⟨q, vm₁, ⟨U', l2, c2, s2⟩, hW₁, X', ⟨g', mk, t, L, E, ce, e1, e2, hq, hce, hcv, hcl, h1, hL, h2, h3⟩, st⟩
  · dsimp only [Pt.U, Pt.locs, Pt.cells, Pt.slots] at X' e1 e2 h1 h2 h3 st
    subst h1; subst h2; subst h3
    exact Or.inl ⟨v, (T.setVm vm₁).calling g' mk As.toArray, t, U', L, hT, X', hL, e1, e2, hq, st⟩
  · dsimp only [Pt.U, Pt.locs, Pt.cells, Pt.slots] at X' e1 e2 h1 h2 h3 st hcl
    subst h1; subst h2; subst h3
    exact Or.inr ⟨q, (T.setVm vm₁).calling g' mk As.toArray, t, U', L, E, ce, hT, X', hL, e1, e2, hq, hce, hcv, vx_cls hW₁ hcl, st⟩
end Runs
section Rows
variable {p : Program} {l : Launch} {e : Env} {R : Room} {s : State} {m : MethodId} {args : Array Value} {below : List Frame} {meth : Method} {c : Code} {H : Heap} {locs : List Loc} {cells slots : Nat} {Q : State → Prop}
variable {mc ms : Nat} {free : Addr → Prop} {A0 A1 : Nat → Prop} {H0 : Heap} {a : Array Value} {pc : Nat} {ls : Array Slot} {st0 rest : List Value}
theorem vx_keep {st₀ t T' : State} {L : List Loc} (h0 : st₀.heap = H) (e1 : T'.heap = t.heap) (hS : va_S A0 H0 H locs) (hA : ∀ q, q < H.size → A1 q → A0 q) (hf : ∀ q, free q → A0 q) (hL : ∀ q ∈ L, free q.base) (hF : va_F A1 st₀ t) :
    H.size ≤ T'.heap.size ∧ (∀ q : Nat, q < H.size → ¬ A1 q → T'.heap[q]? = H[q]?) ∧ va_S A0 H0 T'.heap (locs ++ L) := by
  obtain ⟨hz, hk⟩ := hF
  rw [h0] at hz hk
  exact ⟨by rw [e1]; exact hz, fun q h1 h2 => by rw [e1]; exact hk q h1 h2,
    ⟨Nat.le_trans hS.1 (by rw [e1]; exact hz), fun q h1 h2 => by rw [e1, hk q (Nat.lt_of_lt_of_le h1 hS.1) (fun z => h2 (hA q (Nat.lt_of_lt_of_le h1 hS.1) z))]; exact hS.2.1 q h1 h2, fun q hq => by
      rcases List.mem_append.mp hq with h | h
      · exact hS.2.2 q h
      · exact hf _ (hL q h)⟩⟩
theorem vx_calli {S SX : Type} {post : Int32 → S → Prop} {px : SX → Prop} {B : S → State → Prop} {BX : String → SX → State → Prop} {AX : Nat → Prop} (hr : vx_Run p l e R s m args below meth c H locs cells slots mc ms (F0 m pc ls st0) rest (va_Qi post B A1 a) (vx_X px BX AX) free) (hS : va_S A0 H0 H locs) (hA : ∀ q, q < H.size → A1 q → A0 q) (hf : ∀ q, free q → A0 q) (hAX : ∀ q, q < H.size → AX q → A0 q)
    (kx : ∀ (E : String) (ce : Cell) (q9 : Addr) (u : SX) (t : State) (H1 : Heap) (locs1 : List Loc), t.heap = H1 → s.vm.Alike t.vm → px u → BX E u t → H.size ≤ H1.size → (∀ q : Nat, q < H.size → ¬ AX q → H1[q]? = H[q]?) → va_S A0 H0 H1 locs1 → H1[q9]? = some ce → ce.vm = .none → s.vm.findClass E = some ce.cls → vx_W p l e R s m args below meth c H1 locs1 (cells + mc) (slots + ms) Q (F0 m pc ls rest) q9)
    (kk : ∀ (r : Int32) (u : S) (t : State) (H1 : Heap) (locs1 : List Loc), t.heap = H1 → s.vm.Alike t.vm → post r u → B u t → H.size ≤ H1.size → (∀ q : Nat, q < H.size → ¬ A1 q → H1[q]? = H[q]?) → va_S A0 H0 H1 locs1 → W p l e R s m args below meth c H1 locs1 (cells + mc) (slots + ms) Q (F0 m (pc + 3) ls (.int r :: rest))) : W p l e R s m args below meth c H locs cells slots Q (F0 m pc ls st0) := by
  intro T hT X
  rcases hr T hT X with ⟨v, st₀, t, T', L, h0, X', hL, e1, e2, ⟨⟨r, u, hv, hp, hb⟩, hF⟩, st⟩ | ⟨q, st₀, t, T', L, E, ce, h0, X', hL, e1, e2, ⟨u, hp, hb, hF⟩, hce, hcv, hcl, st⟩
  · cases hv
    obtain ⟨k1, k2, k3⟩ := vx_keep h0 e1 hS hA hf hL hF
    obtain ⟨t2, a1, b1⟩ := kk r u t T'.heap (locs ++ L) e1.symm (by rw [← e2]; exact X'.warmed.alike) hp hb k1 k2 k3 T' rfl X'
    exact ⟨t2, st t2 a1, b1⟩
  · obtain ⟨k1, k2, k3⟩ := vx_keep h0 e1 hS hAX hf hL hF
    obtain ⟨t2, a1, b1⟩ := kx E ce q u t T'.heap (locs ++ L) e1.symm (by rw [← e2]; exact X'.warmed.alike) hp hb k1 k2 k3 (by rw [e1]; exact hce) hcv hcl T' rfl X'
    exact ⟨t2, st.trans a1, b1⟩
theorem vx_calll {S SX : Type} {post : Int64 → S → Prop} {px : SX → Prop} {B : S → State → Prop} {BX : String → SX → State → Prop} {AX : Nat → Prop} (hr : vx_Run p l e R s m args below meth c H locs cells slots mc ms (F0 m pc ls st0) rest (va_Ql post B A1 a) (vx_X px BX AX) free) (hS : va_S A0 H0 H locs) (hA : ∀ q, q < H.size → A1 q → A0 q) (hf : ∀ q, free q → A0 q) (hAX : ∀ q, q < H.size → AX q → A0 q)
    (kx : ∀ (E : String) (ce : Cell) (q9 : Addr) (u : SX) (t : State) (H1 : Heap) (locs1 : List Loc), t.heap = H1 → s.vm.Alike t.vm → px u → BX E u t → H.size ≤ H1.size → (∀ q : Nat, q < H.size → ¬ AX q → H1[q]? = H[q]?) → va_S A0 H0 H1 locs1 → H1[q9]? = some ce → ce.vm = .none → s.vm.findClass E = some ce.cls → vx_W p l e R s m args below meth c H1 locs1 (cells + mc) (slots + ms) Q (F0 m pc ls rest) q9)
    (kk : ∀ (r : Int64) (u : S) (t : State) (H1 : Heap) (locs1 : List Loc), t.heap = H1 → s.vm.Alike t.vm → post r u → B u t → H.size ≤ H1.size → (∀ q : Nat, q < H.size → ¬ A1 q → H1[q]? = H[q]?) → va_S A0 H0 H1 locs1 → W p l e R s m args below meth c H1 locs1 (cells + mc) (slots + ms) Q (F0 m (pc + 3) ls (.long r :: rest))) : W p l e R s m args below meth c H locs cells slots Q (F0 m pc ls st0) := by
  intro T hT X
  rcases hr T hT X with ⟨v, st₀, t, T', L, h0, X', hL, e1, e2, ⟨⟨r, u, hv, hp, hb⟩, hF⟩, st⟩ | ⟨q, st₀, t, T', L, E, ce, h0, X', hL, e1, e2, ⟨u, hp, hb, hF⟩, hce, hcv, hcl, st⟩
  · cases hv
    obtain ⟨k1, k2, k3⟩ := vx_keep h0 e1 hS hA hf hL hF
    obtain ⟨t2, a1, b1⟩ := kk r u t T'.heap (locs ++ L) e1.symm (by rw [← e2]; exact X'.warmed.alike) hp hb k1 k2 k3 T' rfl X'
    exact ⟨t2, st t2 a1, b1⟩
  · obtain ⟨k1, k2, k3⟩ := vx_keep h0 e1 hS hAX hf hL hF
    obtain ⟨t2, a1, b1⟩ := kx E ce q u t T'.heap (locs ++ L) e1.symm (by rw [← e2]; exact X'.warmed.alike) hp hb k1 k2 k3 (by rw [e1]; exact hce) hcv hcl T' rfl X'
    exact ⟨t2, st.trans a1, b1⟩
theorem vx_callf {S SX : Type} {post : UInt32 → S → Prop} {px : SX → Prop} {B : S → State → Prop} {BX : String → SX → State → Prop} {AX : Nat → Prop} (hr : vx_Run p l e R s m args below meth c H locs cells slots mc ms (F0 m pc ls st0) rest (va_Qf post B A1 a) (vx_X px BX AX) free) (hS : va_S A0 H0 H locs) (hA : ∀ q, q < H.size → A1 q → A0 q) (hf : ∀ q, free q → A0 q) (hAX : ∀ q, q < H.size → AX q → A0 q)
    (kx : ∀ (E : String) (ce : Cell) (q9 : Addr) (u : SX) (t : State) (H1 : Heap) (locs1 : List Loc), t.heap = H1 → s.vm.Alike t.vm → px u → BX E u t → H.size ≤ H1.size → (∀ q : Nat, q < H.size → ¬ AX q → H1[q]? = H[q]?) → va_S A0 H0 H1 locs1 → H1[q9]? = some ce → ce.vm = .none → s.vm.findClass E = some ce.cls → vx_W p l e R s m args below meth c H1 locs1 (cells + mc) (slots + ms) Q (F0 m pc ls rest) q9)
    (kk : ∀ (r : UInt32) (u : S) (t : State) (H1 : Heap) (locs1 : List Loc), t.heap = H1 → s.vm.Alike t.vm → post r u → B u t → H.size ≤ H1.size → (∀ q : Nat, q < H.size → ¬ A1 q → H1[q]? = H[q]?) → va_S A0 H0 H1 locs1 → W p l e R s m args below meth c H1 locs1 (cells + mc) (slots + ms) Q (F0 m (pc + 3) ls (.float r :: rest))) : W p l e R s m args below meth c H locs cells slots Q (F0 m pc ls st0) := by
  intro T hT X
  rcases hr T hT X with ⟨v, st₀, t, T', L, h0, X', hL, e1, e2, ⟨⟨r, u, hv, hp, hb⟩, hF⟩, st⟩ | ⟨q, st₀, t, T', L, E, ce, h0, X', hL, e1, e2, ⟨u, hp, hb, hF⟩, hce, hcv, hcl, st⟩
  · cases hv
    obtain ⟨k1, k2, k3⟩ := vx_keep h0 e1 hS hA hf hL hF
    obtain ⟨t2, a1, b1⟩ := kk r u t T'.heap (locs ++ L) e1.symm (by rw [← e2]; exact X'.warmed.alike) hp hb k1 k2 k3 T' rfl X'
    exact ⟨t2, st t2 a1, b1⟩
  · obtain ⟨k1, k2, k3⟩ := vx_keep h0 e1 hS hAX hf hL hF
    obtain ⟨t2, a1, b1⟩ := kx E ce q u t T'.heap (locs ++ L) e1.symm (by rw [← e2]; exact X'.warmed.alike) hp hb k1 k2 k3 (by rw [e1]; exact hce) hcv hcl T' rfl X'
    exact ⟨t2, st.trans a1, b1⟩
theorem vx_calld {S SX : Type} {post : UInt64 → S → Prop} {px : SX → Prop} {B : S → State → Prop} {BX : String → SX → State → Prop} {AX : Nat → Prop} (hr : vx_Run p l e R s m args below meth c H locs cells slots mc ms (F0 m pc ls st0) rest (va_Qd post B A1 a) (vx_X px BX AX) free) (hS : va_S A0 H0 H locs) (hA : ∀ q, q < H.size → A1 q → A0 q) (hf : ∀ q, free q → A0 q) (hAX : ∀ q, q < H.size → AX q → A0 q)
    (kx : ∀ (E : String) (ce : Cell) (q9 : Addr) (u : SX) (t : State) (H1 : Heap) (locs1 : List Loc), t.heap = H1 → s.vm.Alike t.vm → px u → BX E u t → H.size ≤ H1.size → (∀ q : Nat, q < H.size → ¬ AX q → H1[q]? = H[q]?) → va_S A0 H0 H1 locs1 → H1[q9]? = some ce → ce.vm = .none → s.vm.findClass E = some ce.cls → vx_W p l e R s m args below meth c H1 locs1 (cells + mc) (slots + ms) Q (F0 m pc ls rest) q9)
    (kk : ∀ (r : UInt64) (u : S) (t : State) (H1 : Heap) (locs1 : List Loc), t.heap = H1 → s.vm.Alike t.vm → post r u → B u t → H.size ≤ H1.size → (∀ q : Nat, q < H.size → ¬ A1 q → H1[q]? = H[q]?) → va_S A0 H0 H1 locs1 → W p l e R s m args below meth c H1 locs1 (cells + mc) (slots + ms) Q (F0 m (pc + 3) ls (.double r :: rest))) : W p l e R s m args below meth c H locs cells slots Q (F0 m pc ls st0) := by
  intro T hT X
  rcases hr T hT X with ⟨v, st₀, t, T', L, h0, X', hL, e1, e2, ⟨⟨r, u, hv, hp, hb⟩, hF⟩, st⟩ | ⟨q, st₀, t, T', L, E, ce, h0, X', hL, e1, e2, ⟨u, hp, hb, hF⟩, hce, hcv, hcl, st⟩
  · cases hv
    obtain ⟨k1, k2, k3⟩ := vx_keep h0 e1 hS hA hf hL hF
    obtain ⟨t2, a1, b1⟩ := kk r u t T'.heap (locs ++ L) e1.symm (by rw [← e2]; exact X'.warmed.alike) hp hb k1 k2 k3 T' rfl X'
    exact ⟨t2, st t2 a1, b1⟩
  · obtain ⟨k1, k2, k3⟩ := vx_keep h0 e1 hS hAX hf hL hF
    obtain ⟨t2, a1, b1⟩ := kx E ce q u t T'.heap (locs ++ L) e1.symm (by rw [← e2]; exact X'.warmed.alike) hp hb k1 k2 k3 (by rw [e1]; exact hce) hcv hcl T' rfl X'
    exact ⟨t2, st.trans a1, b1⟩
theorem vx_callv {S SX : Type} {post : S → Prop} {px : SX → Prop} {B : S → State → Prop} {BX : String → SX → State → Prop} {AX : Nat → Prop} (hr : vx_Run p l e R s m args below meth c H locs cells slots mc ms (F0 m pc ls st0) rest (va_Qv post B A1 a) (vx_X px BX AX) free) (hS : va_S A0 H0 H locs) (hA : ∀ q, q < H.size → A1 q → A0 q) (hf : ∀ q, free q → A0 q) (hAX : ∀ q, q < H.size → AX q → A0 q)
    (kx : ∀ (E : String) (ce : Cell) (q9 : Addr) (u : SX) (t : State) (H1 : Heap) (locs1 : List Loc), t.heap = H1 → s.vm.Alike t.vm → px u → BX E u t → H.size ≤ H1.size → (∀ q : Nat, q < H.size → ¬ AX q → H1[q]? = H[q]?) → va_S A0 H0 H1 locs1 → H1[q9]? = some ce → ce.vm = .none → s.vm.findClass E = some ce.cls → vx_W p l e R s m args below meth c H1 locs1 (cells + mc) (slots + ms) Q (F0 m pc ls rest) q9)
    (kk : ∀ (u : S) (t : State) (H1 : Heap) (locs1 : List Loc), t.heap = H1 → s.vm.Alike t.vm → post u → B u t → H.size ≤ H1.size → (∀ q : Nat, q < H.size → ¬ A1 q → H1[q]? = H[q]?) → va_S A0 H0 H1 locs1 → W p l e R s m args below meth c H1 locs1 (cells + mc) (slots + ms) Q (F0 m (pc + 3) ls (rest))) : W p l e R s m args below meth c H locs cells slots Q (F0 m pc ls st0) := by
  intro T hT X
  rcases hr T hT X with ⟨v, st₀, t, T', L, h0, X', hL, e1, e2, ⟨⟨u, hv, hp, hb⟩, hF⟩, st⟩ | ⟨q, st₀, t, T', L, E, ce, h0, X', hL, e1, e2, ⟨u, hp, hb, hF⟩, hce, hcv, hcl, st⟩
  · cases hv
    obtain ⟨k1, k2, k3⟩ := vx_keep h0 e1 hS hA hf hL hF
    obtain ⟨t2, a1, b1⟩ := kk u t T'.heap (locs ++ L) e1.symm (by rw [← e2]; exact X'.warmed.alike) hp hb k1 k2 k3 T' rfl X'
    exact ⟨t2, st t2 a1, b1⟩
  · obtain ⟨k1, k2, k3⟩ := vx_keep h0 e1 hS hAX hf hL hF
    obtain ⟨t2, a1, b1⟩ := kx E ce q u t T'.heap (locs ++ L) e1.symm (by rw [← e2]; exact X'.warmed.alike) hp hb k1 k2 k3 (by rw [e1]; exact hce) hcv hcl T' rfl X'
    exact ⟨t2, st.trans a1, b1⟩
/-- caught by the row x of this method's table; the rows ahead don't take it -/
theorem vx_catch {own name : String} {E : String} {ce : Cell} {q : Addr} (hown : s.vm.findClass own = some m.cls) (pre : List ExceptionTableEntry) (x : ExceptionTableEntry) (suf : List ExceptionTableEntry) (hsplit : c.exceptionTable.toList = pre ++ x :: suf)
    (hpass : ∀ z ∈ pre, covers z pc = false ∨ (z.catchType ≠ 0 ∧ ∃ nm : String, (Cond.classLink own z.catchType nm).before args s = true ∧ va_Nc E nm s)) (hx : covers x pc = true) (h0 : x.catchType ≠ 0)
    (hlink : (Cond.classLink own x.catchType name).before args s = true) (hcast : (Cond.castable E name).before args s = true) (hcell : H[q]? = some ce) (hv : ce.vm = .none) (hcl : s.vm.findClass E = some ce.cls)
    (kk : W p l e R s m args below meth c H locs cells slots Q (F0 m x.handlerPc ls [.ref q])) : vx_W p l e R s m args below meth c H locs cells slots Q (F0 m pc ls rest) q := by
  intro T hT X
  have hpl : e.platform.magicAccessors = ({} : Platform).magicAccessors := by rw [X.admits.platform]
  obtain ⟨c3, c4, hc3, hc4, hasg⟩ := Cond.castable_spec hcast
  cases Option.some.inj (hc3.symm.trans hcl)
  obtain ⟨c5, hc5, hcl5⟩ := Cond.classLink_spec hown hlink e.platform hpl
  cases Option.some.inj (hc4.symm.trans hc5)
  obtain ⟨vm', X', st⟩ := X.thenCaughtThrough q (g := F0 m pc ls rest) rfl (Steps.refl _) (by rw [hT]; exact hcell) (by rw [hv]; rfl) (by obtain ⟨k9, h9, -⟩ := Vm.findClass_spec hcl; exact ⟨k9, h9⟩) pre x suf hsplit
    (fun z hz => by
      rcases hpass z hz with h | ⟨hz0, nm, hl1, hn1⟩
      · exact Or.inl h
      · obtain ⟨c6, hc6, hcl6⟩ := Cond.classLink_spec hown hl1 e.platform hpl
        obtain ⟨a8, b8, h1, h2, h3⟩ := hn1
        cases Option.some.inj (h1.symm.trans hcl)
        cases Option.some.inj (h2.symm.trans hc6)
        exact Or.inr ⟨hz0, _, hcl6, h3⟩) hx (Or.inr ⟨h0, c4, hcl5, hasg⟩)
  obtain ⟨t, a1, b1⟩ := kk (T.setVm vm') hT X'
  exact ⟨t, st.trans a1, b1⟩
end Rows
section Ends
variable {p : Program} {l : Launch} {e : Env} {R : Room} {s : State} {m : MethodId} {args : Array Value} {below : List Frame} {meth : Method} {c : Code} {H : Heap} {locs : List Loc} {cells slots : Nat} {Q : State → Prop}
variable {mc ms : Nat} {free : Addr → Prop} {A0 A1 : Nat → Prop} {H0 : Heap} {a : Array Value} {ls : Array Slot} {st0 rest : List Value}
variable {Qc : Array Value → State → Outcome → State → Prop} {XC : String → State → State → Prop}
/-- what a body that may throw owes at its end -/
def vx_MQ (below : List Frame) (Qc : Array Value → State → Outcome → State → Prop) (XC : String → State → State → Prop) (a : Array Value) (s : State) (mc ms : Nat) (free : Addr → Prop) : State → Prop := fun t =>
  ∃ o, t.status = .running ∧ Ended t below o ∧ vx_Q Qc XC mc ms free a s o t
theorem vx_ret {g : JFrame} {mc ms : Nat} (k : W p l e R s m args below meth c H locs cells slots (MQ below Qc args s mc ms free) g) : W p l e R s m args below meth c H locs cells slots (vx_MQ below Qc XC args s mc ms free) g := by
  intro T hT X
  obtain ⟨t, a1, o, b1, b2, b3, b4⟩ := k T hT X
  exact ⟨t, a1, o, b1, b2, Or.inl ⟨b3, b4⟩⟩
/-- not caught here: it goes on to the caller -/
theorem vx_widen {g : JFrame} {q : Addr} {k n : Nat} (h1 : cells ≤ k) (h2 : slots ≤ n) (kk : vx_W p l e R s m args below meth c H locs k n Q g q) : vx_W p l e R s m args below meth c H locs cells slots Q g q := fun T hT X => kk T hT (stand_widen X h1 h2)
theorem vx_out {pc : Nat} {E : String} {ce : Cell} {q : Addr} {mc ms : Nat} (hout : ∀ x ∈ c.exceptionTable.toList, covers x pc = false) (hlocks : meth.locks = false) (hcell : H[q]? = some ce) (hv : ce.vm = .none) (hcl : s.vm.findClass E = some ce.cls)
    (hx : ∀ t : State, t.heap = H → s.vm.Alike t.vm → XC E s t) (hf : ∀ z ∈ locs, free z.base) (hc : cells ≤ mc) (hs : slots ≤ ms) :
    vx_W p l e R s m args below meth c H locs cells slots (vx_MQ below Qc XC args s mc ms free) (F0 m pc ls rest) q := by
  intro T hT X
  obtain ⟨st1, hrun, hend, hW, hsm⟩ := X.leaveThrown q (g := F0 m pc ls rest) rfl rfl rfl hout hlocks
  have hcell9 : (T.setFrames (.throwing q :: below)).heap[q]? = some ce := by
    show T.heap[q]? = some ce
    rw [hT]; exact hcell
  exact ⟨_, st1, .threw q, hrun, hend, Or.inr ⟨q, rfl, E, ce, locs, hx _ hT hW.alike, hcell9, hv, hcl, hW, hsm.mono hc hs, hf⟩⟩
theorem vx_frame {U : State} {k n : Nat} (h : s.sameButNew ({ U with vm := s.vm } : State) locs k n) : s.heap.size ≤ U.heap.size ∧ ∀ q : Nat, q < s.heap.size → (∀ z ∈ locs, z.base ≠ q) → U.heap[q]? = s.heap[q]? := by
  obtain ⟨-, h2, -, -, -, h6⟩ := h
  refine ⟨h2, fun q hq hz => ?_⟩
  obtain ⟨c9, e1, e2, e3, e4⟩ := h6 q _ (Array.getElem?_eq_getElem hq)
  have hs : c9.slots = (s.heap[q]).slots := Array.ext_getElem? fun i => e4 i fun hm => hz _ hm rfl
  have h9 : c9 = s.heap[q] := by
    rw [hs] at e2
    exact e2
  have e5 : U.heap[q]? = some c9 := e1
  rw [e5, h9, Array.getElem?_eq_getElem hq]
/-- the words of a throw but the four that speak of the heap -/
def vx_no (w : Cond) : Bool := decide (w ≠ .isRef (.static Bundle.tN "UNASSIGNED_STACK" Bundle.steD)) && decide (w ≠ .isRef (.static Bundle.tN "SUPPRESSED_SENTINEL" Bundle.listD)) && decide (w ≠ .laysStatic Bundle.tN "UNASSIGNED_STACK" Bundle.steD) && decide (w ≠ .laysStatic Bundle.tN "SUPPRESSED_SENTINEL" Bundle.listD)
def vx_at0 (own : String) (ic : Nat) (X : String) (names : List String) : List Cond := (Bundle.ownAtoms0 own ic X names).filter vx_no
def vx_atS (own : String) (ic : Nat) (X : String) (names : List String) : List Cond := (Bundle.ownAtoms own ic X names).filter vx_no
/-- a word that the tables alone decide, or a good one -/
def vx_ot (w : Cond) : Bool := w.onTables || goodWord w
theorem vx_ot_at {args a' : Array Value} {s U : State} {w : Cond} (hW : s.WarmedH U.vm) (hvm : s.vm = U.vm) (hg : vx_ot w = true) (h : w.before args s = true) : w.before a' U = true := by
  simp only [vx_ot, Bool.or_eq_true] at hg
  rcases hg with hg | hg
  · exact va_tabs hg hvm h
  · exact word_at hW (good_of_word hg) h
/-- a list's words: the good ones out of the method's own list, the others by premises of their own -/
theorem vx_hat {args : Array Value} {s : State} {L B : List Cond} (h1 : ∀ w ∈ L.filter goodWord, w.before args s = true) (h2 : ∀ w ∈ L.filter (fun w => !goodWord w), w ∈ B) (h3 : ∀ w ∈ B, w.before args s = true) : ∀ w ∈ L, w.before args s = true := by
  intro w hw
  by_cases g : goodWord w = true
  · exact h1 w (List.mem_filter.mpr ⟨hw, g⟩)
  · refine h3 w (h2 w (List.mem_filter.mpr ⟨hw, ?_⟩))
    show (!goodWord w) = true
    cases hgw : goodWord w
    · rfl
    · exact absurd hgw g
theorem vx_c {args : Array Value} {s : State} {w : Cond} {B : List Cond} (h : w.before args s = true) (t : ∀ w ∈ B, w.before args s = true) : ∀ w' ∈ w :: B, w'.before args s = true := fun w' h' => (List.mem_cons.mp h').elim (fun e => by rw [e]; exact h) (t w')
theorem vx_n {args : Array Value} {s : State} : ∀ w ∈ ([] : List Cond), w.before args s = true := fun _ h => nomatch h
theorem vx_own {args : Array Value} {s : State} {L : List Cond} (h1 : ∀ w ∈ L.filter vx_no, w.before args s = true)
    (hU : (Cond.isRef (.static Bundle.tN "UNASSIGNED_STACK" Bundle.steD)).before args s = true) (hN : (Cond.isRef (.static Bundle.tN "SUPPRESSED_SENTINEL" Bundle.listD)).before args s = true)
    (lU : (Cond.laysStatic Bundle.tN "UNASSIGNED_STACK" Bundle.steD).before args s = true) (lN : (Cond.laysStatic Bundle.tN "SUPPRESSED_SENTINEL" Bundle.listD).before args s = true) : ∀ w ∈ L, w.before args s = true := by
  intro w hw
  by_cases e1 : w = .isRef (.static Bundle.tN "UNASSIGNED_STACK" Bundle.steD)
  · rw [e1]; exact hU
  · by_cases e2 : w = .isRef (.static Bundle.tN "SUPPRESSED_SENTINEL" Bundle.listD)
    · rw [e2]; exact hN
    · by_cases e3 : w = .laysStatic Bundle.tN "UNASSIGNED_STACK" Bundle.steD
      · rw [e3]; exact lU
      · by_cases e4 : w = .laysStatic Bundle.tN "SUPPRESSED_SENTINEL" Bundle.listD
        · rw [e4]; exact lN
        · exact h1 w (List.mem_filter.mpr ⟨hw, by unfold vx_no; rw [decide_eq_true e1, decide_eq_true e2, decide_eq_true e3, decide_eq_true e4]; rfl⟩)
/-- where a static field lies, its class's statics cell in H -/
def vx_L (C n d : String) (A : Nat → Prop) (U : State) (H : Heap) : Prop := ∃ (c : ClassId) (k : Class) (i : Nat) (f : Field) (a : Nat) (cell : Cell), U.vm.findClass C = some c ∧ U.fieldFound? C n d = some (c, k, i, f) ∧ f.isStatic = true ∧ k.statics = some a ∧ H[a]? = some cell ∧ cell.vm.isStatics = true ∧ cell.cls = c ∧ f.slot < cell.slots.size ∧ k.staticTypes[f.slot]? = some f.type ∧ ¬ A a
theorem vx_L.moved {C n d : String} {A : Nat → Prop} {u U : State} {H : Heap} (hvm : u.vm.Alike U.vm) (h : vx_L C n d A u H) : vx_L C n d A U H := by
  obtain ⟨c, k, i, f, a, cell, h1, h2, h3, h4, h5, h6, h7, h8, h9, h10⟩ := h
  obtain ⟨k', hi', he⟩ := State.fieldFound?_setVm hvm h2
  exact ⟨c, k', i, f, a, cell, by rw [hvm.findClass]; exact h1, hi', h3, by rw [he]; exact h4, h5, h6, h7, h8, by rw [he]; exact h9, h10⟩
theorem vx_L.kept {C n d : String} {A : Nat → Prop} {U : State} {H H1 : Heap} (h : vx_L C n d A U H) (hq : ∀ a : Nat, a < H.size → ¬ A a → H1[a]? = H[a]?) : vx_L C n d A U H1 := by
  obtain ⟨c, k, i, f, a, cell, h1, h2, h3, h4, h5, h6, h7, h8, h9, h10⟩ := h
  exact ⟨c, k, i, f, a, cell, h1, h2, h3, h4, by rw [hq a (Array.getElem?_eq_some_iff.mp h5).1 h10]; exact h5, h6, h7, h8, h9, h10⟩
theorem vx_L.narrow {C n d : String} {A B : Nat → Prop} {U : State} {H : Heap} (h : vx_L C n d A U H) (hAB : ∀ q, B q → A q) : vx_L C n d B U H := by
  obtain ⟨c, k, i, f, a, cell, h1, h2, h3, h4, h5, h6, h7, h8, h9, h10⟩ := h
  exact ⟨c, k, i, f, a, cell, h1, h2, h3, h4, h5, h6, h7, h8, h9, fun z => h10 (hAB _ z)⟩
theorem vx_L.word {C n d : String} {A : Nat → Prop} {s : State} {args : Array Value} (h : vx_L C n d A s s.heap) : (Cond.laysStatic C n d).before args s = true := by
  obtain ⟨c, k, i, f, a, cell, h1, h2, h3, h4, h5, h6, h7, h8, h9, -⟩ := h
  show (Cond.laysStatic C n d).holds args s none s [] = true
  exact Cond.laysStatic_of h1 h2 h3 h4 h5 h6 h7 h8 h9
/-- .. and what it holds: null or some reference -/
def vx_Zq (C n d : String) (A : Nat → Prop) (U : State) (H : Heap) : Prop := va_Zq C n d A U H ∧ vx_L C n d A U H
theorem vx_Zq.moved {C n d : String} {A : Nat → Prop} {u U : State} {H : Heap} (hvm : u.vm.Alike U.vm) (h : vx_Zq C n d A u H) : vx_Zq C n d A U H := ⟨va_Zq.moved hvm h.1, vx_L.moved hvm h.2⟩
theorem vx_Zq.kept {C n d : String} {A : Nat → Prop} {U : State} {H H1 : Heap} (h : vx_Zq C n d A U H) (hq : ∀ a : Nat, a < H.size → ¬ A a → H1[a]? = H[a]?) : vx_Zq C n d A U H1 := ⟨va_Zq.kept h.1 hq, vx_L.kept h.2 hq⟩
theorem vx_Zq.narrow {C n d : String} {A B : Nat → Prop} {U : State} {H : Heap} (h : vx_Zq C n d A U H) (hAB : ∀ q, B q → A q) : vx_Zq C n d B U H := ⟨va_Zq.narrow h.1 hAB, vx_L.narrow h.2 hAB⟩
theorem vx_Zqof {args : Array Value} {s : State} {C n d : String} {A : Nat → Prop} (hl : (Cond.laysStatic C n d).before args s = true) (hini : (Cond.initialized C).before args s = true) (h : (Cond.isRef (.static C n d)).before args s = true) (hA : ∀ a : Nat, a < s.heap.size → ¬ A a) : vx_Zq C n d A s s.heap := by
  refine ⟨va_Zqof hl hini h hA, ?_⟩
  obtain ⟨c, k, i, f, a, cell, h1, h2, h3, h4, h5, h6, h7, h8, h9⟩ := Cond.laysStatic_spec hl
  exact ⟨c, k, i, f, a, cell, h1, h2, h3, h4, h5, h6, h7, h8, h9, hA a (Array.getElem?_eq_some_iff.mp h5).1⟩
theorem vx_isRef {C n d : String} {v : Value} {A : Nat → Prop} {s : State} {args : Array Value} (h : va_Z C n d v A s s.heap) (hv : v.isRef = true) : (Cond.isRef (.static C n d)).before args s = true := by
  obtain ⟨cf, kf, fi, f, a, cell, h1, h2, h3, h4, h5, h6, h7, -⟩ := h
  have he : (Term.static C n d).eval args s none [] s = some v := by
    simp [Term.eval, State.fieldNamed?, h1, h2, h4, h5, h6, h7]
  simp only [Cond.before, Cond.holds, Cond.value, he]
  cases v <;> simp_all [Value.isRef]
theorem vx_isRefq {C n d : String} {A : Nat → Prop} {s : State} {args : Array Value} (h : va_Zq C n d A s s.heap) : (Cond.isRef (.static C n d)).before args s = true := by
  rcases h with h | ⟨t, h⟩
  · exact vx_isRef h rfl
  · exact vx_isRef h rfl
/-- the same frame, seen from here: as if the method were called anew in this heap -/
theorem vx_rebase {T : State} (X : Stand p l e R s m args below meth c T locs cells slots) {R' : Room} (hf : R'.frames ≤ R.frames) (hl : R'.locals ≤ R.locals) (hc : cells + R'.cells ≤ R.cells) (hs : slots + R'.slots ≤ R.slots) :
    Stand p l e R' ((T.setVm s.vm).setFrames (.invoking m args :: below)) m args below meth c T [] 0 0 := by
  have htop : (T.setVm s.vm).topJava?.isSome := X.here.top
  have hF : ((T.setVm s.vm).setFrames (.invoking m args :: below)).frames = .invoking m args :: below := State.frames_setFrames _ (State.cur_lt_of_top htop)
  obtain ⟨g₀, hg0⟩ := Option.isSome_iff_exists.mp htop
  obtain ⟨r, hr⟩ := State.topJava?_eq_some.mp hg0
  have hl9 : e.platform.stackLimits (T.setVm s.vm).me = e.platform.stackLimits s.me := X.limits
  have hb9 : (T.setVm s.vm).me.stackBytes = s.me.stackBytes := X.bytes
  refine ⟨X.admits, X.cas, X.clock, hF, ?_, X.hears, X.method, X.code, X.here, X.tail, X.warmed, ?_, ?_, ?_⟩
  · have h := X.room
    have hU : ((T.setVm s.vm).setFrames (.invoking m args :: below)).localsInUse = s.localsInUse := by
      rw [State.localsInUse_invoking hF (meth := meth) (c := c) X.method X.code, State.localsInUse_invoking X.frames X.method X.code]
    simp only [State.hasRoom, Bool.and_eq_true, decide_eq_true_eq] at h ⊢
    obtain ⟨⟨⟨⟨h1, h2, h3, h4, h5, h6⟩, h7⟩, h8⟩, h9⟩ := h
    rw [X.frames, List.length_cons] at h2 h3
    have q1 := X.heapSize
    have q2 := X.used
    simp only [hF, hU, List.length_cons, State.stackLimits_setFrames, State.stackBytes_setFrames, hl9, hb9]
    refine ⟨⟨⟨⟨by omega, by omega, by omega, by omega, by omega, h6⟩, ?_⟩, ?_⟩, X.book⟩
    · show T.heap.size + R'.cells ≤ e.platform.maxCells
      omega
    · show T.slotsUsed + R'.slots ≤ e.platform.maxSlots
      omega
  · rw [State.stackLimits_setFrames]; rfl
  · rw [State.stackBytes_setFrames]; rfl
  · refine ⟨?_, Nat.le_refl _, Nat.le_refl _, ?_, ?_, fun a c9 h9 => ⟨c9, h9, rfl, rfl, fun _ _ => rfl⟩⟩
    · obtain ⟨t, ht, -⟩ := State.frames_cons hr
      show T.setVm s.vm = { ((T.setVm s.vm).setFrames (.invoking m args :: below)).setFrames (T.setVm s.vm).frames with heap := T.heap, slotsUsed := T.slotsUsed }
      rw [State.setFrames_setFrames, State.setFrames_self ht]
      rfl
    · show T.slotsUsed = T.slotsUsed + ((T.heap.toList.drop T.heap.size).map (·.slots.size)).sum
      rw [List.drop_eq_nil_of_le (Nat.le_of_eq Array.length_toList)]
      rfl
    · show ((T.heap.toList.drop T.heap.size).map (·.slots.size)).sum ≤ 0
      rw [List.drop_eq_nil_of_le (Nat.le_of_eq Array.length_toList)]
      exact Nat.le_refl _
/-- 'throw new E()': new; dup; invokespecial; athrow -/
theorem vx_throw0 {cc : ByteArray} {pc : Nat} (hexec : p.tables.exec = Jvm.exec) (hb : c.code = cc) (hl : l.stackTraces = false) {own cls : String} {names : List String} {ik ic mc ms : Nat} {A : Nat → Prop}
    (hown : s.vm.findClass own = some m.cls) (hcls : Bundle.fit cls = true) (hnames : ∀ n ∈ names, Bundle.fit n = true)
    (hk : (Cond.classLink own ik cls).before args s = true) (hini : (Cond.initialized cls).before args s = true) (hat : ∀ w ∈ vx_at0 own ic cls names, w.before args s = true)
    (hgood : ∀ w ∈ Cond.classLink own ik cls :: Cond.initialized cls :: vx_at0 own ic cls names, vx_ot w = true)
    (hU : vx_Zq Bundle.tN "UNASSIGNED_STACK" Bundle.steD A s s.heap) (hN : vx_Zq Bundle.tN "SUPPRESSED_SENTINEL" Bundle.listD A s s.heap) (hS : va_S A s.heap H locs) (hsize : ls.size = c.maxLocals)
    (d0 : decode cc pc = .ok (.new ik, 3)) (d3 : decode cc (pc + 3) = .ok (.dup, 1)) (d4 : decode cc (pc + 4) = .ok (.invokespecial ic, 3)) (d7 : decode cc (pc + 7) = .ok (.athrow, 1))
    (hout : ∀ x ∈ c.exceptionTable.toList, covers x (pc + 7) = false)
    (hRframes : names.length + 3 < R.frames) (hRlocals : (rest.map fun v => v.category).sum + (13 * (names.length + 1) + 42) ≤ R.locals) (hRcells : cells + 1 ≤ R.cells) (hRslots : slots + 6 ≤ R.slots) (hlocks : meth.locks = false)
    (hx : ∀ t : State, s.vm.Alike t.vm → H.size ≤ t.heap.size → (∀ q : Nat, q < H.size → t.heap[q]? = H[q]?) → XC cls s t)
    (hf : ∀ z ∈ locs, free z.base) (hc : cells + 1 ≤ mc) (hs : slots + 6 ≤ ms) :
    W p l e R s m args below meth c H locs cells slots (vx_MQ below Qc XC args s mc ms free) (F0 m pc ls rest) := by
  intro T hT X
  have htr : e.platform.stackTraces = false := (show e.platform.stackTraces = l.stackTraces by rw [X.admits.platform]).trans hl
  have Y := vx_rebase X (R' := { frames := R.frames, locals := R.locals, cells := 1, slots := 6 }) (Nat.le_refl _) (Nat.le_refl _) hRcells hRslots
  obtain ⟨s', hA⟩ : ∃ z, z = (T.setVm s.vm).setFrames (.invoking m args :: below) := ⟨_, rfl⟩
  rw [← hA] at Y
  have hvm : s'.vm = s.vm := by rw [hA]; rfl
  have hhp : s'.heap = H := by rw [hA]; exact hT
  have hW0 : s.WarmedH s'.vm := by rw [hvm]; exact State.WarmedH.refl s
  have hat' : ∀ w ∈ vx_at0 own ic cls names, w.before args s' = true := fun w hw => vx_ot_at hW0 hvm.symm (hgood w (List.mem_cons_of_mem _ (List.mem_cons_of_mem _ hw))) (hat w hw)
  have hk' : (Cond.classLink own ik cls).before args s' = true := vx_ot_at hW0 hvm.symm (hgood _ List.mem_cons_self) hk
  have hini' : (Cond.initialized cls).before args s' = true := vx_ot_at hW0 hvm.symm (hgood _ (List.mem_cons_of_mem _ List.mem_cons_self)) hini
  have hU' : vx_Zq Bundle.tN "UNASSIGNED_STACK" Bundle.steD A s' s'.heap := by rw [hhp]; exact vx_Zq.moved hW0.alike (hU.kept hS.2.1)
  have hN' : vx_Zq Bundle.tN "SUPPRESSED_SENTINEL" Bundle.listD A s' s'.heap := by rw [hhp]; exact vx_Zq.moved hW0.alike (hN.kept hS.2.1)
  have h : ∀ w ∈ Bundle.ownAtoms0 own ic cls names, w.before args s' = true := vx_own hat' (vx_isRefq hU'.1) (vx_isRefq hN'.1) hU'.2.word hN'.2.word
  have hown' : s'.vm.findClass own = some m.cls := by rw [hvm]; exact hown
  have hins : (Cond.instantiable cls 6).before args s' = true := h _ (by simp [Bundle.ownAtoms0])
  obtain ⟨vm₁, cX, kX, hfX, hkX, -, -, X₁, st1⟩ := Y.newCold hexec (own := own) (C := cls) (index := ik) (n := 6) hown' hk' hins hini'
    (g := F0 m pc ls rest) rfl (by rw [hb]; exact d0) (Nat.le_refl _) (Nat.le_refl _)
  generalize hT1 : (T.setVm vm₁).pushCell { cls := cX, slots := kX.instanceTypes.map defaultValue, vm := .none } = T1 at X₁ st1
  have hcat : (Value.ref T.heap.size).category = 1 := rfl
  have hcellA : T1.heap[T.heap.size]? = some (freshCell cX kX) := by rw [← hT1]; exact State.heap_pushCell_size _ _
  have d3' : decode c.code (pc + 3) = .ok (.dup, 1) := by rw [hb]; exact d3
  obtain ⟨U, hsteps, hrun, hend, hW, hsame, ce, hce, hO⟩ := X₁.ctorThrow0 hexec htr (own := own) (cls := cls) (names := names) (ic := ic) hown' hcls hnames h (fun x hx => nomatch hx) hfX hkX hcellA (by rw [hhp, hT]; exact Nat.le_refl _)
    (g := { method := m, pc := pc + 4, locals := ls, stack := .ref T.heap.size :: .ref T.heap.size :: rest, locked := none }) rfl hsize rfl rfl (rest := rest) rfl
    (by rw [hb]; exact d4) (by rw [hb]; exact d7) hout hRframes (by simp only [List.map_cons, List.sum_cons, hcat]; omega) hlocks
  obtain ⟨f1, f2⟩ := vx_frame hsame
  rw [hhp] at f1 f2
  have hWs : s.WarmedH U.vm := State.WarmedH.trans hW0 hW
  have hcl : s.vm.findClass cls = some ce.cls := by
    have h9 := hO.cls
    rw [hvm] at h9
    exact h9
  have hall : s.sameButNew ({ U with vm := s.vm } : State) locs mc ms := by
    subst hA
    obtain ⟨e1, e2⟩ := hsame
    rw [State.setFrames_setFrames] at e1
    have h2 : (T.setVm s.vm).sameButNew ({ U with vm := s.vm } : State) [] (0 + 1) (0 + 6) := ⟨e1, e2⟩
    have h3 := X.same.trans h2
    rw [List.append_nil] at h3
    exact h3.mono hc hs
  refine ⟨U, ?_, .threw T.heap.size, hrun, hend, Or.inr ⟨T.heap.size, rfl, cls, ce, locs, hx U hWs.alike f1 (fun q hq => f2 q hq (fun z hz => nomatch hz)), hce, hO.vm, hcl, hWs, hall, hf⟩⟩
  refine st1 _ ?_
  show Steps p.tables e below (T1.setTop { method := m, pc := pc + 3, locals := ls, stack := .ref T.heap.size :: rest, locked := none }) _
  jvm_step X₁.here [X₁.here.top, hexec, d3', Value.category]
  exact hsteps
/-- 'throw new E("text")': new; dup; ldc; invokespecial; athrow -/
theorem vx_throwS {cc : ByteArray} {pc : Nat} (hexec : p.tables.exec = Jvm.exec) (hb : c.code = cc) (hl : l.stackTraces = false) {own cls text : String} {names : List String} {ik is ic mc ms sa : Nat} {A : Nat → Prop}
    (hown : s.vm.findClass own = some m.cls) (hcls : Bundle.fit cls = true) (hnames : ∀ n ∈ names, Bundle.fit n = true)
    (hk : (Cond.classLink own ik cls).before args s = true) (hini : (Cond.initialized cls).before args s = true) (hstr : vk_R own is text sa s) (hat : ∀ w ∈ vx_atS own ic cls names, w.before args s = true)
    (hgood : ∀ w ∈ Cond.classLink own ik cls :: Cond.initialized cls :: vx_atS own ic cls names, vx_ot w = true)
    (hU : vx_Zq Bundle.tN "UNASSIGNED_STACK" Bundle.steD A s s.heap) (hN : vx_Zq Bundle.tN "SUPPRESSED_SENTINEL" Bundle.listD A s s.heap) (hS : va_S A s.heap H locs) (hsize : ls.size = c.maxLocals)
    (d0 : decode cc pc = .ok (.new ik, 3)) (d3 : decode cc (pc + 3) = .ok (.dup, 1)) (d4 : decode cc (pc + 4) = .ok (.ldc is, 2)) (d6 : decode cc (pc + 6) = .ok (.invokespecial ic, 3)) (d9 : decode cc (pc + 9) = .ok (.athrow, 1))
    (hout : ∀ x ∈ c.exceptionTable.toList, covers x (pc + 9) = false)
    (hRframes : names.length + 3 < R.frames) (hRlocals : (rest.map fun v => v.category).sum + (13 * (names.length + 1) + 43) ≤ R.locals) (hRcells : cells + 1 ≤ R.cells) (hRslots : slots + 6 ≤ R.slots) (hlocks : meth.locks = false)
    (hx : ∀ t : State, s.vm.Alike t.vm → H.size ≤ t.heap.size → (∀ q : Nat, q < H.size → t.heap[q]? = H[q]?) → XC cls s t)
    (hf : ∀ z ∈ locs, free z.base) (hc : cells + 1 ≤ mc) (hs : slots + 6 ≤ ms) :
    W p l e R s m args below meth c H locs cells slots (vx_MQ below Qc XC args s mc ms free) (F0 m pc ls rest) := by
  intro T hT X
  have htr : e.platform.stackTraces = false := (show e.platform.stackTraces = l.stackTraces by rw [X.admits.platform]).trans hl
  have Y := vx_rebase X (R' := { frames := R.frames, locals := R.locals, cells := 1, slots := 6 }) (Nat.le_refl _) (Nat.le_refl _) hRcells hRslots
  obtain ⟨s', hA⟩ : ∃ z, z = (T.setVm s.vm).setFrames (.invoking m args :: below) := ⟨_, rfl⟩
  rw [← hA] at Y
  have hvm : s'.vm = s.vm := by rw [hA]; rfl
  have hhp : s'.heap = H := by rw [hA]; exact hT
  have hW0 : s.WarmedH s'.vm := by rw [hvm]; exact State.WarmedH.refl s
  have hat' : ∀ w ∈ vx_atS own ic cls names, w.before args s' = true := fun w hw => vx_ot_at hW0 hvm.symm (hgood w (List.mem_cons_of_mem _ (List.mem_cons_of_mem _ hw))) (hat w hw)
  have hk' : (Cond.classLink own ik cls).before args s' = true := vx_ot_at hW0 hvm.symm (hgood _ List.mem_cons_self) hk
  have hini' : (Cond.initialized cls).before args s' = true := vx_ot_at hW0 hvm.symm (hgood _ (List.mem_cons_of_mem _ List.mem_cons_self)) hini
  have hU' : vx_Zq Bundle.tN "UNASSIGNED_STACK" Bundle.steD A s' s'.heap := by rw [hhp]; exact vx_Zq.moved hW0.alike (hU.kept hS.2.1)
  have hN' : vx_Zq Bundle.tN "SUPPRESSED_SENTINEL" Bundle.listD A s' s'.heap := by rw [hhp]; exact vx_Zq.moved hW0.alike (hN.kept hS.2.1)
  have h : ∀ w ∈ Bundle.ownAtoms own ic cls names, w.before args s' = true := vx_own hat' (vx_isRefq hU'.1) (vx_isRefq hN'.1) hU'.2.word hN'.2.word
  have hown' : s'.vm.findClass own = some m.cls := by rw [hvm]; exact hown
  have hins : (Cond.instantiable cls 6).before args s' = true := h _ (by simp [Bundle.ownAtoms])
  obtain ⟨vm₁, cX, kX, hfX, hkX, -, -, X₁, st1⟩ := Y.newCold hexec (own := own) (C := cls) (index := ik) (n := 6) hown' hk' hins hini'
    (g := F0 m pc ls rest) rfl (by rw [hb]; exact d0) (Nat.le_refl _) (Nat.le_refl _)
  generalize hT1 : (T.setVm vm₁).pushCell { cls := cX, slots := kX.instanceTypes.map defaultValue, vm := .none } = T1 at X₁ st1
  have hcat : (Value.ref T.heap.size).category = 1 := rfl
  have hcellA : T1.heap[T.heap.size]? = some (freshCell cX kX) := by rw [← hT1]; exact State.heap_pushCell_size _ _
  have d3' : decode c.code (pc + 3) = .ok (.dup, 1) := by rw [hb]; exact d3
  have d4' : decode c.code (pc + 4) = .ok (.ldc is, 2) := by rw [hb]; exact d4
  have hstr' : vk_R own is text sa s' := vk_R.warm hW0 hstr
  obtain ⟨U, hsteps, hrun, hend, hW, hsame, ce, hce, hO⟩ := X₁.ctorThrowS hexec htr (own := own) (cls := cls) (names := names) (ic := ic) hown' hcls hnames h (fun x hx => nomatch hx) hfX hkX hcellA (by rw [hhp, hT]; exact Nat.le_refl _) (msg := .ref sa) rfl
    (g := { method := m, pc := pc + 6, locals := ls, stack := .ref sa :: .ref T.heap.size :: .ref T.heap.size :: rest, locked := none }) rfl hsize rfl rfl (rest := rest) rfl
    (by rw [hb]; exact d6) (by rw [hb]; exact d9) hout hRframes (by simp only [List.map_cons, List.sum_cons, hcat]; omega) hlocks
  obtain ⟨f1, f2⟩ := vx_frame hsame
  rw [hhp] at f1 f2
  have hWs : s.WarmedH U.vm := State.WarmedH.trans hW0 hW
  have hcl : s.vm.findClass cls = some ce.cls := by
    have h9 := hO.cls
    rw [hvm] at h9
    exact h9
  have hall : s.sameButNew ({ U with vm := s.vm } : State) locs mc ms := by
    subst hA
    obtain ⟨e1, e2⟩ := hsame
    rw [State.setFrames_setFrames] at e1
    have h2 : (T.setVm s.vm).sameButNew ({ U with vm := s.vm } : State) [] (0 + 1) (0 + 6) := ⟨e1, e2⟩
    have h3 := X.same.trans h2
    rw [List.append_nil] at h3
    exact h3.mono hc hs
  refine ⟨U, ?_, .threw T.heap.size, hrun, hend, Or.inr ⟨T.heap.size, rfl, cls, ce, locs, hx U hWs.alike f1 (fun q hq => f2 q hq (fun z hz => nomatch hz)), hce, hO.vm, hcl, hWs, hall, hf⟩⟩
  refine st1 _ ?_
  show Steps p.tables e below (T1.setTop { method := m, pc := pc + 3, locals := ls, stack := .ref T.heap.size :: rest, locked := none }) _
  jvm_step X₁.here [X₁.here.top, hexec, d3', Value.category]
  exact X₁.ldcString hexec (own := own) (text := text) (index := is) (a := sa) hown' hstr'.1 hstr'.2
    (g := { method := m, pc := pc + 4, locals := ls, stack := .ref T.heap.size :: .ref T.heap.size :: rest, locked := none }) rfl d4' _ hsteps
/-- 'throw new E("text")', the text by a wide index -/
theorem vx_throwSW {cc : ByteArray} {pc : Nat} (hexec : p.tables.exec = Jvm.exec) (hb : c.code = cc) (hl : l.stackTraces = false) {own cls text : String} {names : List String} {ik is ic mc ms sa : Nat} {A : Nat → Prop}
    (hown : s.vm.findClass own = some m.cls) (hcls : Bundle.fit cls = true) (hnames : ∀ n ∈ names, Bundle.fit n = true)
    (hk : (Cond.classLink own ik cls).before args s = true) (hini : (Cond.initialized cls).before args s = true) (hstr : vk_R own is text sa s) (hat : ∀ w ∈ vx_atS own ic cls names, w.before args s = true)
    (hgood : ∀ w ∈ Cond.classLink own ik cls :: Cond.initialized cls :: vx_atS own ic cls names, vx_ot w = true)
    (hU : vx_Zq Bundle.tN "UNASSIGNED_STACK" Bundle.steD A s s.heap) (hN : vx_Zq Bundle.tN "SUPPRESSED_SENTINEL" Bundle.listD A s s.heap) (hS : va_S A s.heap H locs) (hsize : ls.size = c.maxLocals)
    (d0 : decode cc pc = .ok (.new ik, 3)) (d3 : decode cc (pc + 3) = .ok (.dup, 1)) (d4 : decode cc (pc + 4) = .ok (.ldc_w is, 3)) (d7 : decode cc (pc + 7) = .ok (.invokespecial ic, 3)) (d10 : decode cc (pc + 10) = .ok (.athrow, 1))
    (hout : ∀ x ∈ c.exceptionTable.toList, covers x (pc + 10) = false)
    (hRframes : names.length + 3 < R.frames) (hRlocals : (rest.map fun v => v.category).sum + (13 * (names.length + 1) + 43) ≤ R.locals) (hRcells : cells + 1 ≤ R.cells) (hRslots : slots + 6 ≤ R.slots) (hlocks : meth.locks = false)
    (hx : ∀ t : State, s.vm.Alike t.vm → H.size ≤ t.heap.size → (∀ q : Nat, q < H.size → t.heap[q]? = H[q]?) → XC cls s t)
    (hf : ∀ z ∈ locs, free z.base) (hc : cells + 1 ≤ mc) (hs : slots + 6 ≤ ms) :
    W p l e R s m args below meth c H locs cells slots (vx_MQ below Qc XC args s mc ms free) (F0 m pc ls rest) := by
  intro T hT X
  have htr : e.platform.stackTraces = false := (show e.platform.stackTraces = l.stackTraces by rw [X.admits.platform]).trans hl
  have Y := vx_rebase X (R' := { frames := R.frames, locals := R.locals, cells := 1, slots := 6 }) (Nat.le_refl _) (Nat.le_refl _) hRcells hRslots
  obtain ⟨s', hA⟩ : ∃ z, z = (T.setVm s.vm).setFrames (.invoking m args :: below) := ⟨_, rfl⟩
  rw [← hA] at Y
  have hvm : s'.vm = s.vm := by rw [hA]; rfl
  have hhp : s'.heap = H := by rw [hA]; exact hT
  have hW0 : s.WarmedH s'.vm := by rw [hvm]; exact State.WarmedH.refl s
  have hat' : ∀ w ∈ vx_atS own ic cls names, w.before args s' = true := fun w hw => vx_ot_at hW0 hvm.symm (hgood w (List.mem_cons_of_mem _ (List.mem_cons_of_mem _ hw))) (hat w hw)
  have hk' : (Cond.classLink own ik cls).before args s' = true := vx_ot_at hW0 hvm.symm (hgood _ List.mem_cons_self) hk
  have hini' : (Cond.initialized cls).before args s' = true := vx_ot_at hW0 hvm.symm (hgood _ (List.mem_cons_of_mem _ List.mem_cons_self)) hini
  have hU' : vx_Zq Bundle.tN "UNASSIGNED_STACK" Bundle.steD A s' s'.heap := by rw [hhp]; exact vx_Zq.moved hW0.alike (hU.kept hS.2.1)
  have hN' : vx_Zq Bundle.tN "SUPPRESSED_SENTINEL" Bundle.listD A s' s'.heap := by rw [hhp]; exact vx_Zq.moved hW0.alike (hN.kept hS.2.1)
  have h : ∀ w ∈ Bundle.ownAtoms own ic cls names, w.before args s' = true := vx_own hat' (vx_isRefq hU'.1) (vx_isRefq hN'.1) hU'.2.word hN'.2.word
  have hown' : s'.vm.findClass own = some m.cls := by rw [hvm]; exact hown
  have hins : (Cond.instantiable cls 6).before args s' = true := h _ (by simp [Bundle.ownAtoms])
  obtain ⟨vm₁, cX, kX, hfX, hkX, -, -, X₁, st1⟩ := Y.newCold hexec (own := own) (C := cls) (index := ik) (n := 6) hown' hk' hins hini'
    (g := F0 m pc ls rest) rfl (by rw [hb]; exact d0) (Nat.le_refl _) (Nat.le_refl _)
  generalize hT1 : (T.setVm vm₁).pushCell { cls := cX, slots := kX.instanceTypes.map defaultValue, vm := .none } = T1 at X₁ st1
  have hcat : (Value.ref T.heap.size).category = 1 := rfl
  have hcellA : T1.heap[T.heap.size]? = some (freshCell cX kX) := by rw [← hT1]; exact State.heap_pushCell_size _ _
  have d3' : decode c.code (pc + 3) = .ok (.dup, 1) := by rw [hb]; exact d3
  have d4' : decode c.code (pc + 4) = .ok (.ldc_w is, 3) := by rw [hb]; exact d4
  have hstr' : vk_R own is text sa s' := vk_R.warm hW0 hstr
  obtain ⟨U, hsteps, hrun, hend, hW, hsame, ce, hce, hO⟩ := X₁.ctorThrowS hexec htr (own := own) (cls := cls) (names := names) (ic := ic) hown' hcls hnames h (fun x hx => nomatch hx) hfX hkX hcellA (by rw [hhp, hT]; exact Nat.le_refl _) (msg := .ref sa) rfl
    (g := { method := m, pc := pc + 7, locals := ls, stack := .ref sa :: .ref T.heap.size :: .ref T.heap.size :: rest, locked := none }) rfl hsize rfl rfl (rest := rest) rfl
    (by rw [hb]; exact d7) (by rw [hb]; exact d10) hout hRframes (by simp only [List.map_cons, List.sum_cons, hcat]; omega) hlocks
  obtain ⟨f1, f2⟩ := vx_frame hsame
  rw [hhp] at f1 f2
  have hWs : s.WarmedH U.vm := State.WarmedH.trans hW0 hW
  have hcl : s.vm.findClass cls = some ce.cls := by
    have h9 := hO.cls
    rw [hvm] at h9
    exact h9
  have hall : s.sameButNew ({ U with vm := s.vm } : State) locs mc ms := by
    subst hA
    obtain ⟨e1, e2⟩ := hsame
    rw [State.setFrames_setFrames] at e1
    have h2 : (T.setVm s.vm).sameButNew ({ U with vm := s.vm } : State) [] (0 + 1) (0 + 6) := ⟨e1, e2⟩
    have h3 := X.same.trans h2
    rw [List.append_nil] at h3
    exact h3.mono hc hs
  refine ⟨U, ?_, .threw T.heap.size, hrun, hend, Or.inr ⟨T.heap.size, rfl, cls, ce, locs, hx U hWs.alike f1 (fun q hq => f2 q hq (fun z hz => nomatch hz)), hce, hO.vm, hcl, hWs, hall, hf⟩⟩
  refine st1 _ ?_
  show Steps p.tables e below (T1.setTop { method := m, pc := pc + 3, locals := ls, stack := .ref T.heap.size :: rest, locked := none }) _
  jvm_step X₁.here [X₁.here.top, hexec, d3', Value.category]
  exact X₁.ldcStringW hexec (own := own) (text := text) (index := is) (a := sa) hown' hstr'.1 hstr'.2
    (g := { method := m, pc := pc + 4, locals := ls, stack := .ref T.heap.size :: .ref T.heap.size :: rest, locked := none }) rfl d4' _ hsteps
end Ends
section Bodies
variable {l : Launch}
theorem vx_ofW {y : MethodName} {ws ws' : List Cond} {rm : Room} {Pc : Array Value → State → Prop} {Qc : Array Value → State → Outcome → State → Prop} {XC : String → State → State → Prop} {mc ms : Nat} {free : Addr → Prop} {cc : ByteArray} {maxL : Nat} {ret : Option FieldType}
    (hy : plainName y.cls = true) (hw : ws = Cond.code y cc maxL ret :: ws')
    (body : ∀ p e s m args below meth c s₁, BodyLoose p l y (headSpec ws rm) cc maxL ret e s m args below meth c s₁ → c.maxLocals = maxL → (∀ x ∈ c.exceptionTable.toList, False) → Pc args s →
      W p l e (headSpec ws rm).room s m args below meth c s.heap [] 0 0 (vx_MQ below Qc XC args s mc ms free) (entryFrame m args maxL)) : vx_Met l y ws rm Pc Qc XC mc ms free := by
  refine MetFree.of_bodyS (code := cc) (maxLocals := maxL) (ret := ret) hy ?_ ?_
  · intro args s m h hn
    obtain ⟨meth, c, h1, h2, h3, h4, h5, h6, -, -⟩ := Cond.code_spec hn (atoms_spec (ws := ws) h _ (by rw [hw]; exact List.mem_cons_self))
    exact ⟨meth, c, h1, h2, h3, h4, h5, h6⟩
  · intro p e s m args below meth c s₁ B hml hP _
    have hh0 : s₁.heap = s.heap := by rw [B.state]; rfl
    have ht : ∀ x ∈ c.exceptionTable.toList, False := by
      obtain ⟨meth9, c9, h1, h2, -, -, -, -, h7, -⟩ := Cond.code_spec B.named (atoms_spec (ws := ws) B.pre _ (by rw [hw]; exact List.mem_cons_self))
      cases Option.some.inj (h1.symm.trans B.method)
      cases Option.some.inj (h2.symm.trans (Stand.of_body B).code)
      intro x hx
      rw [Array.isEmpty_iff.mp h7] at hx
      cases hx
    obtain ⟨t, a1, o, b1, b2, b3⟩ := body p e s m args below meth c s₁ B hml ht hP s₁ hh0 (Stand.of_body B)
    exact ⟨t, o, a1, b1, b2, b3⟩
/-- the table of a body with handlers -/
theorem vx_table {p : Program} {x y : MethodName} {S : Spec} {cc bytes : ByteArray} {maxL maxL' : Nat} {ret ret' : Option FieldType} {e : Env} {s s₁ : State} {m : MethodId} {args : Array Value} {below : List Frame} {meth : Method} {c : Code} {hh : List (Nat × Nat × Nat × Nat)}
    (B : BodyLoose p l y S cc maxL ret e s m args below meth c s₁) (h : (Cond.codeWith y bytes maxL' ret' hh).before args s = true) : c.exceptionTable.toList = tableOf hh := by
  obtain ⟨m9, meth9, c9, hn9, h1, h2, -, -, h6, -⟩ := Cond.codeWith_spec h
  cases Option.some.inj (hn9.symm.trans B.named)
  cases Option.some.inj (h1.symm.trans B.method)
  cases Option.some.inj (h2.symm.trans (Stand.of_body B).code)
  rw [← h6, table_eq]
end Bodies
end VXA
/-! ===== END ===== -/
/-! ===== BEGIN a static call of a method with an exception table ===== -/
section VXS
variable {p : Program} {l : Launch} {e : Env} {R : Room} {s : State} {m : MethodId} {args : Array Value} {below : List Frame} {meth : Method} {c : Code} {T : State} {H : Heap} {locs : List Loc} {cells slots : Nat}
abbrev vx_CSW (R : Room) (s : State) (args : Array Value) (own : String) (index : Nat) (y : MethodName) (bytes : ByteArray) (maxL : Nat) (ret : Option FieldType) (hh : List (Nat × Nat × Nat × Nat)) (ws : List Cond) (rm : Room) (mc ms n : Nat) : Prop :=
  (rm.cells = mc ∧ rm.slots = ms ∧ rm.frames + 1 ≤ R.frames ∧ 8 + (maxL + 11) + rm.locals ≤ R.locals ∧ (∀ w ∈ ws, ∀ (a' : Array Value) (U : State), s.WarmedH U.vm → w.before a' U = true) ∧ Cond.codeWith y bytes maxL ret hh ∈ ws) ∧
  (Cond.codeWith y bytes maxL ret hh).before args s = true ∧ (Cond.initialized y.cls).before args s = true ∧ (y.cls ≠ "java/lang/invoke/MethodHandle" ∧ y.cls ≠ "java/lang/invoke/VarHandle") ∧
  (∀ sig, parseMethodDescriptor y.desc = some sig → n = sig.parameters.length) ∧ (Cond.methodLink own index y).before args s = true ∧ (Cond.static y).before args s = true
theorem vx_cwSW {own : String} {index maxL mc ms : Nat} {y : MethodName} {bytes : ByteArray} {ret : Option FieldType} {hh : List (Nat × Nat × Nat × Nat)} {Ts ws ws' : List Cond} {rm : Room} (n : Nat) (ht : ∀ w ∈ Ts, w.before args s = true) (hT : GoodIn Ts (va_wsS own index y ws)) (hw : ws = Cond.codeWith y bytes maxL ret hh :: ws') (hrc : rm.cells = mc) (hrs : rm.slots = ms)
    (hd : y.cls ≠ "java/lang/invoke/MethodHandle" ∧ y.cls ≠ "java/lang/invoke/VarHandle" ∧ (parseMethodDescriptor y.desc).map (fun d => d.parameters.length) = some n) (hR : rm.frames + 1 ≤ R.frames ∧ 8 + (maxL + 11) + rm.locals ≤ R.locals) :
    vx_CSW R s args own index y bytes maxL ret hh ws rm mc ms n := by
  have ok : ∀ w ∈ va_wsS own index y ws, w.before args s = true := fun w h => ht w (hT w h).1
  have hG : GoodIn Ts ws := fun w h => hT w (by unfold va_wsS; exact List.mem_append_right _ h)
  have hc : Cond.codeWith y bytes maxL ret hh ∈ ws := by rw [hw]; exact List.mem_cons_self
  refine ⟨⟨hrc, hrs, hR.1, hR.2, pay_in ht hG, hc⟩, ht _ (hG _ hc).1, ok _ (by simp [va_wsS]), ⟨hd.1, hd.2.1⟩, fun sig h => ?_, ok _ (by simp [va_wsS]), ok _ (by simp [va_wsS])⟩
  have h2 := hd.2.2
  rw [h] at h2
  exact (Option.some.inj h2).symm
theorem vx_callSW (X : Stand p l e R s m args below meth c T locs cells slots) (hexec : p.tables.exec = Jvm.exec) {own : String} {index : Nat} {y : MethodName} {bytes : ByteArray} {maxL : Nat} {ret : Option FieldType} {hh : List (Nat × Nat × Nat × Nat)}
    (hown : s.vm.findClass own = some m.cls) (hlink : (Cond.methodLink own index y).before args s = true) (hstat : (Cond.static y).before args s = true) (hinit : (Cond.initialized y.cls).before args s = true)
    (hcode : (Cond.codeWith y bytes maxL ret hh).before args s = true) (hy : y.cls ≠ "java/lang/invoke/MethodHandle" ∧ y.cls ≠ "java/lang/invoke/VarHandle")
    {W9 : Nat} {Pre : Pt → Array Value → Prop} {Post : Pt → Array Value → Option Value → Pt → Prop} (hK : Back l R p e below s args y 3 W9 Pre Post)
    {g : JFrame} (hg : g.method = m) (hsize : g.locals.size = c.maxLocals) {argsL rest : List Value} (hlen : ∀ sig, parseMethodDescriptor y.desc = some sig → argsL.length = sig.parameters.length)
    (hstack : g.stack = argsL.reverse ++ rest) (hW : 2 * g.monitorRoom + (rest.map fun v => v.category).sum ≤ W9) (hdg : decode c.code g.pc = .ok (.invokestatic index, 3))
    (hpre : ∀ vm₁, s.WarmedH vm₁ → Pre ⟨T.setVm vm₁, locs, cells, slots⟩ argsL.toArray) :
    ∃ (v : Option Value) (vm₁ : Vm) (B : Pt), s.WarmedH vm₁ ∧ Stand p l e R s m args below meth c B.U B.locs B.cells B.slots ∧ Post ⟨T.setVm vm₁, locs, cells, slots⟩ argsL.toArray v B ∧
      ∀ target, Steps p.tables e below (B.U.setTop { g with pc := g.pc + 3, stack := v.toList ++ rest }) target → Steps p.tables e below (T.setTop g) target := by
  obtain ⟨mk, methM, cM, hnamed, hmethM, -, -, -, -, -, -, hsigM⟩ := Cond.codeWith_spec hcode
  have hstatic : methM.isStatic = true := Cond.static_spec hnamed hmethM hstat
  obtain ⟨kP, hkP, -⟩ := className_of_methodNamed hnamed
  have hinitP : kP.init = .initialized := Cond.initialized_spec (findClass_of_methodNamed hnamed) hkP hinit
  obtain ⟨vm₁, X₁, hstep₁⟩ := X.invokestatic hexec hown hlink hnamed hmethM hstatic hkP hinitP hy (g := g) hg (argsL := argsL) (rest := rest) (hlen _ hsigM) hstack hdg
  obtain ⟨v, B, X', hpost, hsteps⟩ := hK m meth c ⟨T.setVm vm₁, locs, cells, slots⟩ { g with stack := rest } (.invokestatic index) mk argsL.toArray X₁ hg hsize hdg hW (X₁.named hnamed) (hpre vm₁ X₁.warmed)
  exact ⟨v, vm₁, B, X₁.warmed, X', hpost, fun target h => hstep₁ _ fun acts => by rw [doInvoke_state]; exact hsteps.trans h⟩
theorem vx_runSW {y : MethodName} {bytes cc : ByteArray} {maxL nL mc ms n index : Nat} {ret : Option FieldType} {hh : List (Nat × Nat × Nat × Nat)} {ws : List Cond} {rm : Room} {Pc : Array Value → State → Prop} {Qc : Array Value → State → Outcome → State → Prop} {free : Addr → Prop} {Ts : List Cond} {own : String} {As rest : List Value} {g : JFrame}
    (S : CallFix p m c cc nL s args Ts own) (hM : Met l y ws rm Pc Qc mc ms free) (cw : vx_CSW R s args own index y bytes maxL ret hh ws rm mc ms n) (hp : PreS s H Pc As)
    (hg : g.method = m) (hn : As.length = n) (hsize : g.locals.size = nL) (hstack : g.stack = As.reverse ++ rest) (hW : 2 * g.monitorRoom + (rest.map fun v => v.category).sum ≤ 8) (hdg : decode cc g.pc = .ok (.invokestatic index, 3)) (hf : cells + mc ≤ R.cells ∧ slots + ms ≤ R.slots) :
    va_Run p l e R s m args below meth c H locs cells slots mc ms g rest (Qc As.toArray) (free) := by
  obtain ⟨⟨hrc, hrs, hfr, hlo, hws, hcw⟩, hcode, hini, hy, hlen, hl, hstt⟩ := cw
  have hK : Back l R p e below s args y 3 8 (PreOf R mc ms Pc) (PostOf Qc mc ms free) := va_backW (hh := hh) (bytes := bytes) (maxL := maxL) (ret := ret) hM hp.1 hrc hrs hfr hlo hws hcw (fun a' U hW => word_at hW (Or.inl (by first | rfl | simp [Cond.onTables, Cond.keeps, Cond.steady])) hini)
  obtain ⟨hx, hb, hml, ho, -⟩ := S
  intro T hT X
  obtain ⟨v, vm₁, ⟨U', l2, c2, s2⟩, hW₁, X', ⟨g', mk, t, L, e1, e2, hq, h1, hL, h2, h3⟩, st⟩ := vx_callSW X hx (hh := hh) (bytes := bytes) (maxL := maxL) (ret := ret) ho hl hstt hini hcode hy hK hg (hsize.trans hml.symm) (argsL := As) (rest := rest) (fun sig h => hn.trans (hlen sig h)) hstack hW (by rw [hb]; exact hdg)
    (fun vm₁ hW₁ => ⟨hf.1, hf.2, hp.2 (T.setVm vm₁) hT hW₁⟩)
  dsimp only [Pt.U, Pt.locs, Pt.cells, Pt.slots] at X' e1 e2 h1 h2 h3 st
  subst h1; subst h2; subst h3
  exact ⟨v, (T.setVm vm₁).calling g' mk As.toArray, t, U', L, hT, X', hL, e1, e2, hq, st⟩
/-- not caught here, past rows that name other classes: it goes on to the caller -/
theorem vx_outP {p : Program} {l : Launch} {e : Env} {R : Room} {s : State} {m : MethodId} {args : Array Value} {below : List Frame} {meth : Method} {c : Code} {H : Heap} {locs : List Loc} {cells slots : Nat} {free : Addr → Prop} {ls : Array Slot} {rest : List Value} {Qc : Array Value → State → Outcome → State → Prop} {XC : String → State → State → Prop}
    {pc : Nat} {own E : String} {ce : Cell} {q : Addr} {mc ms : Nat} (hown : s.vm.findClass own = some m.cls) (hlocks : meth.locks = false)
    (hpass : ∀ z ∈ c.exceptionTable.toList, covers z pc = false ∨ (z.catchType ≠ 0 ∧ ∃ nm : String, (Cond.classLink own z.catchType nm).before args s = true ∧ va_Nc E nm s)) (hcell : H[q]? = some ce) (hv : ce.vm = .none) (hcl : s.vm.findClass E = some ce.cls)
    (hx : ∀ t : State, t.heap = H → s.vm.Alike t.vm → XC E s t) (hf : ∀ z ∈ locs, free z.base) (hc : cells ≤ mc) (hs : slots ≤ ms) :
    vx_W p l e R s m args below meth c H locs cells slots (vx_MQ below Qc XC args s mc ms free) (F0 m pc ls rest) q := by
  intro T hT X
  have hpl : e.platform.magicAccessors = ({} : Platform).magicAccessors := by rw [X.admits.platform]
  obtain ⟨vm', hW', X', st⟩ := X.outThrough hlocks q (g := F0 m pc ls rest) rfl rfl rfl (cell := ce) (by rw [hT]; exact hcell) (by rw [hv]; rfl)
    (by obtain ⟨k9, h9, -⟩ := Vm.findClass_spec hcl; exact ⟨k9, h9⟩) (fun z hz => by
      rcases hpass z hz with h | ⟨hz0, nm, hl1, hn1⟩
      · exact Or.inl h
      · obtain ⟨c6, hc6, hcl6⟩ := Cond.classLink_spec hown hl1 e.platform hpl
        obtain ⟨a8, b8, h1, h2, h3⟩ := hn1
        cases Option.some.inj (h1.symm.trans hcl)
        cases Option.some.inj (h2.symm.trans hc6)
        exact Or.inr ⟨hz0, _, hcl6, h3⟩)
  obtain ⟨g₀, hfr⟩ := X'.frames_eq
  have hcell9 : ((T.setVm vm').setFrames (.throwing q :: below)).heap[q]? = some ce := by
    show T.heap[q]? = some ce
    rw [hT]; exact hcell
  have hend : Ended ((T.setVm vm').setFrames (.throwing q :: below)) below (.threw q) := State.frames_setFrames _ (State.cur_lt_of_frames hfr)
  refine ⟨(T.setVm vm').setFrames (.throwing q :: below), ?_, .threw q, X'.here.running, hend, Or.inr ⟨q, rfl, E, ce, locs, hx _ hT (X'.ends _).1.alike, hcell9, hv, hcl, (X'.ends _).1, (X'.ends _).2.mono hc hs, hf⟩⟩
  rw [X.pushThrowing_eq]
  exact st
/-- a thing of a world lies in the heap -/
theorem vx_lt {D : va_G} {cl : List vw_C} {ws : va_W} {H1 : Heap} (h : va_P D cl ws H1) {k : Nat} {q : Nat × va_E} (hk : ws[k]? = some q) : q.1 < H1.size := (h k q hk).lt
end VXS
/-! ===== END ===== -/
/-! ===== BEGIN methods with a table of their own: called by a name, returning or throwing ===== -/
section VXH
/-! vx_backW, vx_callVX, vx_callSX, vx_callVW, vx_runVW, vx_runVX, vx_runSX, vx_ofWH follow the same proofs as their sisters above (Free/Laws.lean, Shelf42/LK1.lean); vx_outP calls Shelf42/NT130.lean (outThrough). -/
section
variable {l : Launch} {R : Room} {p : Program} {e : Env} {below : List Frame} {s : State} {sargs : Array Value} {y : MethodName} {len W9 : Nat}
theorem vx_backW {ws : List Cond} {rm : Room} {Pc : Array Value → State → Prop} {Qc : Array Value → State → Outcome → State → Prop} {XC : String → State → State → Prop} {mc ms : Nat} {free : Addr → Prop} {bytes : ByteArray} {maxL : Nat} {ret : Option FieldType} {hh : List (Nat × Nat × Nat × Nat)}
    (hM : vx_Met l y ws rm Pc Qc XC mc ms free) (hblind : FrameBlind Pc) (hrc : rm.cells = mc) (hrs : rm.slots = ms)
    (hframes : rm.frames + 1 ≤ R.frames) (hlocals : W9 + (maxL + 11) + rm.locals ≤ R.locals)
    (hws : ∀ w ∈ ws, ∀ a' U, s.WarmedH U.vm → w.before a' U = true) (hcode : Cond.codeWith y bytes maxL ret hh ∈ ws) (hinit : ∀ a' U, s.WarmedH U.vm → (Cond.initialized y.cls).before a' U = true) :
    vx_Back l R p e below s sargs y len W9 (PreOf R mc ms Pc) (PostOf Qc mc ms free) (vx_Post XC mc ms free) := by
  intro m meth c A g ig mk a X hg hsize hdg hW hn hp
  have h1 : (headSpec ws rm).pre.before a A.U = true := atoms_intro fun w hw => hws w hw _ _ X.warmed
  have h2 : (Cond.codeWith y bytes maxL ret hh).before a A.U = true := hws _ hcode _ _ X.warmed
  have h3 : (Cond.initialized y.cls).before a A.U = true := hinit _ _ X.warmed
  have h4 : A.cells + (headSpec ws rm).room.cells ≤ R.cells := by rw [show (headSpec ws rm).room.cells = mc from hrc]; exact hp.1
  have h5 : A.slots + (headSpec ws rm).room.slots ≤ R.slots := by rw [show (headSpec ws rm).room.slots = ms from hrs]; exact hp.2.1
  have hPc : Pc a (A.U.calling g mk a) := hblind _ _ _ _ hp.2.2
  obtain ⟨U, Ls, c0, s0⟩ := A
  dsimp only [Pt.U, Pt.locs, Pt.cells, Pt.slots] at h1 h2 h3 h4 h5 X hn hPc ⊢
  obtain ⟨m9, methY, cY, hn9, hmY, hcY, -, hlY, -⟩ := Cond.codeWith_spec h2
  cases Option.some.inj (hn9.symm.trans hn)
  obtain ⟨kY, hkY, -⟩ := className_of_methodNamed hn
  have hinitY : kY.init = .initialized := Cond.initialized_spec (findClass_of_methodNamed hn) hkY h3
  have h : At U g.method c below := by rw [hg]; exact X.here
  have hlocals9 : W9 + (maxL + 11) + (headSpec ws rm).room.locals ≤ R.locals := hlocals
  have happ : (headSpec ws rm).appliesLoose y e.platform (U.calling g mk a) = true :=
    Spec.appliesLoose_calling (g := g) h hdg hn hkY hinitY
      (X.room_calling (g := g) (R' := (headSpec ws rm).room) hsize hmY hcY hframes (by rw [hlY]; omega) h4 h5) h1
  obtain ⟨mid, hmid⟩ := h.above
  have hfr : (U.setTop g).frames = (.java g :: mid) ++ below := by rw [State.frames_setTop' g h.top, hmid]; rfl
  obtain ⟨o, s₂, hsteps, -, hend, hq⟩ := Steps.callFree hM p X.admits X.cas X.clock (acts := []) hfr happ hPc trivial
  have hq' : vx_Q Qc XC mc ms free a (U.calling g mk a) o s₂ := hq
  rw [State.frames_setTop' g h.top] at hend
  obtain ⟨g₀, hg0⟩ := Option.isSome_iff_exists.mp h.top
  obtain ⟨r, hr⟩ := State.topJava?_eq_some.mp hg0
  have hr' : (({ U with heap := s₂.heap, slotsUsed := s₂.slotsUsed } : State).setVm s₂.vm).frames = .java g₀ :: r := hr
  rcases hq' with ⟨hqc, L, hfe, hL⟩ | ⟨q, rfl, E, ce, L, hx, hce, hcv, hcl, hW₂, hsm, hL⟩
  · obtain ⟨⟨v, rfl⟩, hW₂, e2, q2, q3, q4, q5, q6⟩ := id hfe
    have e3 : s₂ = ({ (U.calling g mk a).setFrames s₂.frames with heap := s₂.heap, slotsUsed := s₂.slotsUsed } : State).setVm s₂.vm := by
      have : s₂ = ({ s₂ with vm := (U.calling g mk a).vm } : State).setVm s₂.vm := rfl
      rw [e2] at this
      exact this
    obtain ⟨c₂, i₂, len₂, hc₂, hd₂, hf₂⟩ := hend
    have hW' : U.WarmedH s₂.vm := hW₂
    have hcc : c₂ = c := by
      have h1 : s₂.code? g.method = U.code? g.method := by
        rw [State.code?_eq, State.code?_eq, hW'.alike.method?]
      exact Option.some.inj (hc₂.symm.trans (h1.trans h.code))
    subst hcc
    have hlen : len₂ = len := by rw [hdg] at hd₂; cases hd₂; rfl
    subst hlen
    have hs₂ : s₂ = (({ U with heap := s₂.heap, slotsUsed := s₂.slotsUsed } : State).setVm s₂.vm).setTop { g with pc := g.pc + len₂, stack := v.toList ++ g.stack } := by
      refine e3.trans ?_
      rw [hf₂, State.calling_eq h.top, State.setFrames_setFrames, State.setTop_of_frames _ hr', hr]
      rfl
    have hsame : U.sameButNew ({ U with heap := s₂.heap, slotsUsed := s₂.slotsUsed } : State) L mc ms := by
      refine ⟨?_, q2, q3, q4, q5, q6⟩
      obtain ⟨t, ht, -⟩ := State.frames_cons hr
      show ({ U with heap := s₂.heap, slotsUsed := s₂.slotsUsed } : State) = { U.setFrames U.frames with heap := s₂.heap, slotsUsed := s₂.slotsUsed }
      rw [State.setFrames_self ht]
    subst hg
    refine Or.inl ⟨v, ⟨(({ U with heap := s₂.heap, slotsUsed := s₂.slotsUsed } : State).setVm s₂.vm), Ls ++ L, c0 + mc, s0 + ms⟩,
      ⟨X.admits, X.cas, X.clock, X.frames, X.room, X.hears, X.method, X.code, (X.here.setHeapUsed s₂.heap s₂.slotsUsed).setVm hW'.alike, X.tail, State.WarmedH.trans X.warmed hW', X.limits, X.bytes, X.same.trans (hsame.setVm s.vm)⟩,
      ⟨g, mk, s₂, L, rfl, rfl, hqc, rfl, hL, rfl, rfl⟩, ?_⟩
    show Steps p.tables e below _ ((({ U with heap := s₂.heap, slotsUsed := s₂.slotsUsed } : State).setVm s₂.vm).setTop { g with pc := g.pc + len₂, stack := v.toList ++ g.stack })
    rw [← hs₂]
    exact hsteps
  · obtain ⟨e2, q2, q3, q4, q5, q6⟩ := id hsm
    have e3 : s₂ = ({ (U.calling g mk a).setFrames s₂.frames with heap := s₂.heap, slotsUsed := s₂.slotsUsed } : State).setVm s₂.vm := by
      have : s₂ = ({ s₂ with vm := (U.calling g mk a).vm } : State).setVm s₂.vm := rfl
      rw [e2] at this
      exact this
    have hf₂ : s₂.frames = .throwing q :: .java g :: U.frames.tail := hend
    have hW' : U.WarmedH s₂.vm := hW₂
    have hs₂ : s₂ = ((({ U with heap := s₂.heap, slotsUsed := s₂.slotsUsed } : State).setVm s₂.vm).setTop g).pushFrame (.throwing q) := by
      refine e3.trans ?_
      rw [hf₂, State.calling_eq h.top, State.setFrames_setFrames, State.pushFrame, State.frames_setTop _ hr', State.setTop_of_frames _ hr', State.setFrames_setFrames, hr]
      rfl
    have hsame : U.sameButNew ({ U with heap := s₂.heap, slotsUsed := s₂.slotsUsed } : State) L mc ms := by
      refine ⟨?_, q2, q3, q4, q5, q6⟩
      obtain ⟨t, ht, -⟩ := State.frames_cons hr
      show ({ U with heap := s₂.heap, slotsUsed := s₂.slotsUsed } : State) = { U.setFrames U.frames with heap := s₂.heap, slotsUsed := s₂.slotsUsed }
      rw [State.setFrames_self ht]
    subst hg
    refine Or.inr ⟨q, ⟨(({ U with heap := s₂.heap, slotsUsed := s₂.slotsUsed } : State).setVm s₂.vm), Ls ++ L, c0 + mc, s0 + ms⟩,
      ⟨X.admits, X.cas, X.clock, X.frames, X.room, X.hears, X.method, X.code, (X.here.setHeapUsed s₂.heap s₂.slotsUsed).setVm hW'.alike, X.tail, State.WarmedH.trans X.warmed hW', X.limits, X.bytes, X.same.trans (hsame.setVm s.vm)⟩,
      ⟨g, mk, s₂, L, E, ce, rfl, rfl, hx, hce, hcv, hcl, rfl, hL, rfl, rfl⟩, ?_⟩
    show Steps p.tables e below _ (((({ U with heap := s₂.heap, slotsUsed := s₂.slotsUsed } : State).setVm s₂.vm).setTop g).pushFrame (.throwing q))
    rw [← hs₂]
    exact hsteps
end
variable {p : Program} {l : Launch} {e : Env} {R : Room} {s : State} {m : MethodId} {args : Array Value} {below : List Frame} {meth : Method} {c : Code} {T : State} {H : Heap} {locs : List Loc} {cells slots : Nat}
theorem vx_callVX (X : Stand p l e R s m args below meth c T locs cells slots) (hexec : p.tables.exec = Jvm.exec) {own C : String} {index : Nat} {y : MethodName} {bytes : ByteArray} {maxL : Nat} {ret : Option FieldType} {hh : List (Nat × Nat × Nat × Nat)}
    (hown : s.vm.findClass own = some m.cls) (hlink : (Cond.methodLink own index y).before args s = true) (hinst : (Cond.instanceMethod y).before args s = true) (hsel : (Cond.selects C y y).before args s = true)
    (hcode : (Cond.codeWith y bytes maxL ret hh).before args s = true) (hy : y.cls ≠ "java/lang/invoke/MethodHandle" ∧ y.cls ≠ "java/lang/invoke/VarHandle")
    {W9 : Nat} {Pre : Pt → Array Value → Prop} {Post : Pt → Array Value → Option Value → Pt → Prop} {PostX : Pt → Array Value → Addr → Pt → Prop} (hK : vx_Back l R p e below s args y 3 W9 Pre Post PostX)
    {b : Addr} {cellB : Cell} (hcell : T.heap[b]? = some cellB) (hobj : cellB.vm.isStatics = false) (hcls : s.vm.findClass C = some cellB.cls)
    {g : JFrame} (hg : g.method = m) (hsize : g.locals.size = c.maxLocals) {argsL rest : List Value} (hlen : ∀ sig, parseMethodDescriptor y.desc = some sig → argsL.length = sig.parameters.length)
    (hstack : g.stack = argsL.reverse ++ .ref b :: rest) (hW : 2 * g.monitorRoom + (rest.map fun v => v.category).sum ≤ W9) (hdg : decode c.code g.pc = .ok (.invokevirtual index, 3))
    (hpre : ∀ vm₁, s.WarmedH vm₁ → Pre ⟨T.setVm vm₁, locs, cells, slots⟩ (Value.ref b :: argsL).toArray) :
    (∃ (v : Option Value) (vm₁ : Vm) (B : Pt), s.WarmedH vm₁ ∧ Stand p l e R s m args below meth c B.U B.locs B.cells B.slots ∧ Post ⟨T.setVm vm₁, locs, cells, slots⟩ (Value.ref b :: argsL).toArray v B ∧
      ∀ target, Steps p.tables e below (B.U.setTop { g with pc := g.pc + 3, stack := v.toList ++ rest }) target → Steps p.tables e below (T.setTop g) target) ∨
    (∃ (q : Addr) (vm₁ : Vm) (B : Pt), s.WarmedH vm₁ ∧ Stand p l e R s m args below meth c B.U B.locs B.cells B.slots ∧ PostX ⟨T.setVm vm₁, locs, cells, slots⟩ (Value.ref b :: argsL).toArray q B ∧
      Steps p.tables e below (T.setTop g) ((B.U.setTop { g with stack := rest }).pushFrame (.throwing q))) := by
  obtain ⟨mk, methM, hnamed, hmethM, hstM, habM⟩ := Cond.instanceMethod_spec hinst
  obtain ⟨m8, methM', cM, hn8, hmethM', -, -, -, -, -, -, hsigM⟩ := Cond.codeWith_spec hcode
  cases Option.some.inj (hn8.symm.trans hnamed)
  cases hmethM.symm.trans hmethM'
  obtain ⟨c2, r2, m2, q1, q2, q3, q4, kP, hkP, hkPi⟩ := Cond.selects_spec hsel
  cases hcls.symm.trans q1
  cases (State.methodFound?_of_named hnamed hy).symm.trans q2
  cases hnamed.symm.trans q3
  have hselP : selectMethod e.platform s.vm cellB.cls mk = .method mk := by rw [Launch.admits_selectMethod X.admits]; exact q4
  obtain ⟨vm₁, X₁, hstep₁⟩ := X.invokevirtual hexec hown hlink hnamed hmethM hstM hkP hkPi hy (a := b) (cell := cellB) hcell
    (fun z h => by rw [h] at hobj; cases hobj) hselP hmethM habM hkP hkPi (g := g) hg (argsL := argsL) (rest := rest) (hlen _ hsigM) hstack hdg
  rcases hK m meth c ⟨T.setVm vm₁, locs, cells, slots⟩ { g with stack := rest } (.invokevirtual index) mk (Value.ref b :: argsL).toArray X₁ hg hsize hdg hW (X₁.named hnamed) (hpre vm₁ X₁.warmed) with ⟨v, B, X', hpost, hsteps⟩ | ⟨q, B, X', hpost, hsteps⟩
  · exact Or.inl ⟨v, vm₁, B, X₁.warmed, X', hpost, fun target h => hstep₁ _ fun acts => by rw [doInvoke_state]; exact hsteps.trans h⟩
  · exact Or.inr ⟨q, vm₁, B, X₁.warmed, X', hpost, hstep₁ _ fun acts => by rw [doInvoke_state]; exact hsteps⟩
theorem vx_callSX (X : Stand p l e R s m args below meth c T locs cells slots) (hexec : p.tables.exec = Jvm.exec) {own : String} {index : Nat} {y : MethodName} {bytes : ByteArray} {maxL : Nat} {ret : Option FieldType} {hh : List (Nat × Nat × Nat × Nat)}
    (hown : s.vm.findClass own = some m.cls) (hlink : (Cond.methodLink own index y).before args s = true) (hstat : (Cond.static y).before args s = true) (hinit : (Cond.initialized y.cls).before args s = true)
    (hcode : (Cond.codeWith y bytes maxL ret hh).before args s = true) (hy : y.cls ≠ "java/lang/invoke/MethodHandle" ∧ y.cls ≠ "java/lang/invoke/VarHandle")
    {W9 : Nat} {Pre : Pt → Array Value → Prop} {Post : Pt → Array Value → Option Value → Pt → Prop} {PostX : Pt → Array Value → Addr → Pt → Prop} (hK : vx_Back l R p e below s args y 3 W9 Pre Post PostX)
    {g : JFrame} (hg : g.method = m) (hsize : g.locals.size = c.maxLocals) {argsL rest : List Value} (hlen : ∀ sig, parseMethodDescriptor y.desc = some sig → argsL.length = sig.parameters.length)
    (hstack : g.stack = argsL.reverse ++ rest) (hW : 2 * g.monitorRoom + (rest.map fun v => v.category).sum ≤ W9) (hdg : decode c.code g.pc = .ok (.invokestatic index, 3))
    (hpre : ∀ vm₁, s.WarmedH vm₁ → Pre ⟨T.setVm vm₁, locs, cells, slots⟩ argsL.toArray) :
    (∃ (v : Option Value) (vm₁ : Vm) (B : Pt), s.WarmedH vm₁ ∧ Stand p l e R s m args below meth c B.U B.locs B.cells B.slots ∧ Post ⟨T.setVm vm₁, locs, cells, slots⟩ argsL.toArray v B ∧
      ∀ target, Steps p.tables e below (B.U.setTop { g with pc := g.pc + 3, stack := v.toList ++ rest }) target → Steps p.tables e below (T.setTop g) target) ∨
    (∃ (q : Addr) (vm₁ : Vm) (B : Pt), s.WarmedH vm₁ ∧ Stand p l e R s m args below meth c B.U B.locs B.cells B.slots ∧ PostX ⟨T.setVm vm₁, locs, cells, slots⟩ argsL.toArray q B ∧
      Steps p.tables e below (T.setTop g) ((B.U.setTop { g with stack := rest }).pushFrame (.throwing q))) := by
  obtain ⟨mk, methM, cM, hnamed, hmethM, -, -, -, -, -, -, hsigM⟩ := Cond.codeWith_spec hcode
  have hstatic : methM.isStatic = true := Cond.static_spec hnamed hmethM hstat
  obtain ⟨kP, hkP, -⟩ := className_of_methodNamed hnamed
  have hinitP : kP.init = .initialized := Cond.initialized_spec (findClass_of_methodNamed hnamed) hkP hinit
  obtain ⟨vm₁, X₁, hstep₁⟩ := X.invokestatic hexec hown hlink hnamed hmethM hstatic hkP hinitP hy (g := g) hg (argsL := argsL) (rest := rest) (hlen _ hsigM) hstack hdg
  rcases hK m meth c ⟨T.setVm vm₁, locs, cells, slots⟩ { g with stack := rest } (.invokestatic index) mk argsL.toArray X₁ hg hsize hdg hW (X₁.named hnamed) (hpre vm₁ X₁.warmed) with ⟨v, B, X', hpost, hsteps⟩ | ⟨q, B, X', hpost, hsteps⟩
  · exact Or.inl ⟨v, vm₁, B, X₁.warmed, X', hpost, fun target h => hstep₁ _ fun acts => by rw [doInvoke_state]; exact hsteps.trans h⟩
  · exact Or.inr ⟨q, vm₁, B, X₁.warmed, X', hpost, hstep₁ _ fun acts => by rw [doInvoke_state]; exact hsteps⟩
theorem vx_callVW (X : Stand p l e R s m args below meth c T locs cells slots) (hexec : p.tables.exec = Jvm.exec) {own C : String} {index : Nat} {y : MethodName} {bytes : ByteArray} {maxL : Nat} {ret : Option FieldType} {hh : List (Nat × Nat × Nat × Nat)}
    (hown : s.vm.findClass own = some m.cls) (hlink : (Cond.methodLink own index y).before args s = true) (hinst : (Cond.instanceMethod y).before args s = true) (hsel : (Cond.selects C y y).before args s = true)
    (hcode : (Cond.codeWith y bytes maxL ret hh).before args s = true) (hy : y.cls ≠ "java/lang/invoke/MethodHandle" ∧ y.cls ≠ "java/lang/invoke/VarHandle")
    {W9 : Nat} {Pre : Pt → Array Value → Prop} {Post : Pt → Array Value → Option Value → Pt → Prop} (hK : Back l R p e below s args y 3 W9 Pre Post)
    {b : Addr} {cellB : Cell} (hcell : T.heap[b]? = some cellB) (hobj : cellB.vm.isStatics = false) (hcls : s.vm.findClass C = some cellB.cls)
    {g : JFrame} (hg : g.method = m) (hsize : g.locals.size = c.maxLocals) {argsL rest : List Value} (hlen : ∀ sig, parseMethodDescriptor y.desc = some sig → argsL.length = sig.parameters.length)
    (hstack : g.stack = argsL.reverse ++ .ref b :: rest) (hW : 2 * g.monitorRoom + (rest.map fun v => v.category).sum ≤ W9) (hdg : decode c.code g.pc = .ok (.invokevirtual index, 3))
    (hpre : ∀ vm₁, s.WarmedH vm₁ → Pre ⟨T.setVm vm₁, locs, cells, slots⟩ (Value.ref b :: argsL).toArray) :
    ∃ (v : Option Value) (vm₁ : Vm) (B : Pt), s.WarmedH vm₁ ∧ Stand p l e R s m args below meth c B.U B.locs B.cells B.slots ∧ Post ⟨T.setVm vm₁, locs, cells, slots⟩ (Value.ref b :: argsL).toArray v B ∧
      ∀ target, Steps p.tables e below (B.U.setTop { g with pc := g.pc + 3, stack := v.toList ++ rest }) target → Steps p.tables e below (T.setTop g) target := by
  obtain ⟨mk, methM, hnamed, hmethM, hstM, habM⟩ := Cond.instanceMethod_spec hinst
  obtain ⟨m8, methM', cM, hn8, hmethM', -, -, -, -, -, -, hsigM⟩ := Cond.codeWith_spec hcode
  cases Option.some.inj (hn8.symm.trans hnamed)
  cases hmethM.symm.trans hmethM'
  obtain ⟨c2, r2, m2, q1, q2, q3, q4, kP, hkP, hkPi⟩ := Cond.selects_spec hsel
  cases hcls.symm.trans q1
  cases (State.methodFound?_of_named hnamed hy).symm.trans q2
  cases hnamed.symm.trans q3
  have hselP : selectMethod e.platform s.vm cellB.cls mk = .method mk := by rw [Launch.admits_selectMethod X.admits]; exact q4
  obtain ⟨vm₁, X₁, hstep₁⟩ := X.invokevirtual hexec hown hlink hnamed hmethM hstM hkP hkPi hy (a := b) (cell := cellB) hcell
    (fun z h => by rw [h] at hobj; cases hobj) hselP hmethM habM hkP hkPi (g := g) hg (argsL := argsL) (rest := rest) (hlen _ hsigM) hstack hdg
  obtain ⟨v, B, X', hpost, hsteps⟩ := hK m meth c ⟨T.setVm vm₁, locs, cells, slots⟩ { g with stack := rest } (.invokevirtual index) mk (Value.ref b :: argsL).toArray X₁ hg hsize hdg hW (X₁.named hnamed) (hpre vm₁ X₁.warmed)
  exact ⟨v, vm₁, B, X₁.warmed, X', hpost, fun target h => hstep₁ _ fun acts => by rw [doInvoke_state]; exact hsteps.trans h⟩
abbrev vx_CVW (R : Room) (s : State) (args : Array Value) (own C : String) (index : Nat) (y : MethodName) (bytes : ByteArray) (maxL : Nat) (ret : Option FieldType) (hh : List (Nat × Nat × Nat × Nat)) (ws : List Cond) (rm : Room) (mc ms n : Nat) : Prop :=
  (rm.cells = mc ∧ rm.slots = ms ∧ rm.frames + 1 ≤ R.frames ∧ 8 + (maxL + 11) + rm.locals ≤ R.locals ∧ (∀ w ∈ ws, ∀ (a' : Array Value) (U : State), s.WarmedH U.vm → w.before a' U = true) ∧ Cond.codeWith y bytes maxL ret hh ∈ ws) ∧
  (Cond.codeWith y bytes maxL ret hh).before args s = true ∧ (Cond.initialized y.cls).before args s = true ∧ (y.cls ≠ "java/lang/invoke/MethodHandle" ∧ y.cls ≠ "java/lang/invoke/VarHandle") ∧
  (∀ sig, parseMethodDescriptor y.desc = some sig → n = sig.parameters.length) ∧ (Cond.methodLink own index y).before args s = true ∧ (Cond.instanceMethod y).before args s = true ∧ (Cond.selects C y y).before args s = true
theorem vx_cwVW {own C : String} {index maxL mc ms : Nat} {y : MethodName} {bytes : ByteArray} {ret : Option FieldType} {hh : List (Nat × Nat × Nat × Nat)} {Ts ws ws' : List Cond} {rm : Room} (n : Nat) (ht : ∀ w ∈ Ts, w.before args s = true) (hT : GoodIn Ts (wsV own index C y ws)) (hw : ws = Cond.codeWith y bytes maxL ret hh :: ws') (hrc : rm.cells = mc) (hrs : rm.slots = ms)
    (hd : y.cls = C ∧ y.cls ≠ "java/lang/invoke/MethodHandle" ∧ y.cls ≠ "java/lang/invoke/VarHandle" ∧ (parseMethodDescriptor y.desc).map (fun d => d.parameters.length) = some n) (hR : rm.frames + 1 ≤ R.frames ∧ 8 + (maxL + 11) + rm.locals ≤ R.locals) :
    vx_CVW R s args own C index y bytes maxL ret hh ws rm mc ms n := by
  obtain ⟨hC, hd⟩ := hd
  subst hC
  have ok : ∀ w ∈ wsV own index y.cls y ws, w.before args s = true := fun w h => ht w (hT w h).1
  have hG : GoodIn Ts ws := fun w h => hT w (by unfold wsV; exact List.mem_append_right _ h)
  have hc : Cond.codeWith y bytes maxL ret hh ∈ ws := by rw [hw]; exact List.mem_cons_self
  refine ⟨⟨hrc, hrs, hR.1, hR.2, pay_in ht hG, hc⟩, ht _ (hG _ hc).1, ok _ (by simp [wsV]), ⟨hd.1, hd.2.1⟩, fun sig h => ?_, ok _ (by simp [wsV]), ok _ (by simp [wsV]), ok _ (by simp [wsV])⟩
  have h2 := hd.2.2
  rw [h] at h2
  exact (Option.some.inj h2).symm
theorem vx_runVW {y : MethodName} {bytes cc : ByteArray} {maxL nL mc ms n index : Nat} {ret : Option FieldType} {hh : List (Nat × Nat × Nat × Nat)} {ws : List Cond} {rm : Room} {Pc : Array Value → State → Prop} {Qc : Array Value → State → Outcome → State → Prop} {free : Addr → Prop} {Ts : List Cond} {own C : String} {b : Addr} {As rest : List Value} {g : JFrame}
    (S : CallFix p m c cc nL s args Ts own) (hM : Met l y ws rm Pc Qc mc ms free) (cw : vx_CVW R s args own C index y bytes maxL ret hh ws rm mc ms n) (hp : PreV s H C b Pc As)
    (hg : g.method = m) (hn : As.length = n) (hsize : g.locals.size = nL) (hstack : g.stack = As.reverse ++ .ref b :: rest) (hW : 2 * g.monitorRoom + (rest.map fun v => v.category).sum ≤ 8) (hdg : decode cc g.pc = .ok (.invokevirtual index, 3)) (hf : cells + mc ≤ R.cells ∧ slots + ms ≤ R.slots) :
    va_Run p l e R s m args below meth c H locs cells slots mc ms g rest (Qc (Value.ref b :: As).toArray) free := by
  obtain ⟨⟨hrc, hrs, hfr, hlo, hws, hcw⟩, hcode, hini, hy, hlen, hl, hin, hse⟩ := cw
  have hK : Back l R p e below s args y 3 8 (PreOf R mc ms Pc) (PostOf Qc mc ms free) := va_backW (hh := hh) (bytes := bytes) (maxL := maxL) (ret := ret) hM hp.1 hrc hrs hfr hlo hws hcw (fun a' U hW => word_at hW (Or.inl (by first | rfl | simp [Cond.onTables, Cond.keeps, Cond.steady])) hini)
  obtain ⟨hx, hb, hml, ho, -⟩ := S
  obtain ⟨-, ⟨cellB, hcB, hoB, hclB⟩, hPc⟩ := hp
  intro T hT X
  obtain ⟨v, vm₁, ⟨U', l2, c2, s2⟩, hW₁, X', ⟨g', mk, t, L, e1, e2, hq, h1, hL, h2, h3⟩, st⟩ := vx_callVW X hx (C := C) (hh := hh) (bytes := bytes) (maxL := maxL) (ret := ret) ho hl hin hse hcode hy hK (by rw [hT]; exact hcB) hoB hclB hg (hsize.trans hml.symm) (argsL := As) (rest := rest) (fun sig h => hn.trans (hlen sig h)) hstack hW (by rw [hb]; exact hdg)
    (fun vm₁ hW₁ => ⟨hf.1, hf.2, hPc (T.setVm vm₁) hT hW₁⟩)
  dsimp only [Pt.U, Pt.locs, Pt.cells, Pt.slots] at X' e1 e2 h1 h2 h3 st
  subst h1; subst h2; subst h3
  exact ⟨v, (T.setVm vm₁).calling g' mk (Value.ref b :: As).toArray, t, U', L, hT, X', hL, e1, e2, hq, st⟩
section
variable {y : MethodName} {bytes cc : ByteArray} {maxL nL mc ms n index : Nat} {ret : Option FieldType} {ws : List Cond} {rm : Room} {Pc : Array Value → State → Prop} {Qc : Array Value → State → Outcome → State → Prop} {XC : String → State → State → Prop} {free : Addr → Prop} {Ts : List Cond} {own C : String} {b : Addr} {As rest : List Value} {g : JFrame}
theorem vx_runVX {hh : List (Nat × Nat × Nat × Nat)} (S : CallFix p m c cc nL s args Ts own) (hM : vx_Met l y ws rm Pc Qc XC mc ms free) (cw : vx_CVW R s args own C index y bytes maxL ret hh ws rm mc ms n) (hp : PreV s H C b Pc As)
    (hg : g.method = m) (hn : As.length = n) (hsize : g.locals.size = nL) (hstack : g.stack = As.reverse ++ .ref b :: rest) (hW : 2 * g.monitorRoom + (rest.map fun v => v.category).sum ≤ 8) (hdg : decode cc g.pc = .ok (.invokevirtual index, 3)) (hf : cells + mc ≤ R.cells ∧ slots + ms ≤ R.slots) :
    vx_Run p l e R s m args below meth c H locs cells slots mc ms g rest (Qc (Value.ref b :: As).toArray) XC free := by
  obtain ⟨⟨hrc, hrs, hfr, hlo, hws, hcw⟩, hcode, hini, hy, hlen, hl, hin, hse⟩ := cw
  have hK : vx_Back l R p e below s args y 3 8 (PreOf R mc ms Pc) (PostOf Qc mc ms free) (vx_Post XC mc ms free) := vx_backW (hh := hh) (bytes := bytes) (maxL := maxL) (ret := ret) hM hp.1 hrc hrs hfr hlo hws hcw (fun a' U hW => word_at hW (Or.inl (by first | rfl | simp [Cond.onTables, Cond.keeps, Cond.steady])) hini)
  obtain ⟨hx, hb, hml, ho, -⟩ := S
  obtain ⟨-, ⟨cellB, hcB, hoB, hclB⟩, hPc⟩ := hp
  intro T hT X
  rcases vx_callVX X hx (C := C) (hh := hh) (bytes := bytes) (maxL := maxL) (ret := ret) ho hl hin hse hcode hy hK (by rw [hT]; exact hcB) hoB hclB hg (hsize.trans hml.symm) (argsL := As) (rest := rest) (fun sig h => hn.trans (hlen sig h)) hstack hW (by rw [hb]; exact hdg)
    (fun vm₁ hW₁ => ⟨hf.1, hf.2, hPc (T.setVm vm₁) hT hW₁⟩) with ⟨v, vm₁, ⟨U', l2, c2, s2⟩, hW₁, X', ⟨g', mk, t, L, e1, e2, hq, h1, hL, h2, h3⟩, st⟩ | ⟨q, vm₁, ⟨U', l2, c2, s2⟩, hW₁, X', ⟨g', mk, t, L, E, ce, e1, e2, hq, hce, hcv, hcl, h1, hL, h2, h3⟩, st⟩
  · dsimp only [Pt.U, Pt.locs, Pt.cells, Pt.slots] at X' e1 e2 h1 h2 h3 st
    subst h1; subst h2; subst h3
    exact Or.inl ⟨v, (T.setVm vm₁).calling g' mk (Value.ref b :: As).toArray, t, U', L, hT, X', hL, e1, e2, hq, st⟩
  · dsimp only [Pt.U, Pt.locs, Pt.cells, Pt.slots] at X' e1 e2 h1 h2 h3 st hcl
    subst h1; subst h2; subst h3
    exact Or.inr ⟨q, (T.setVm vm₁).calling g' mk (Value.ref b :: As).toArray, t, U', L, E, ce, hT, X', hL, e1, e2, hq, hce, hcv, vx_cls hW₁ hcl, st⟩
theorem vx_runSX {hh : List (Nat × Nat × Nat × Nat)} (S : CallFix p m c cc nL s args Ts own) (hM : vx_Met l y ws rm Pc Qc XC mc ms free) (cw : vx_CSW R s args own index y bytes maxL ret hh ws rm mc ms n) (hp : PreS s H Pc As)
    (hg : g.method = m) (hn : As.length = n) (hsize : g.locals.size = nL) (hstack : g.stack = As.reverse ++ rest) (hW : 2 * g.monitorRoom + (rest.map fun v => v.category).sum ≤ 8) (hdg : decode cc g.pc = .ok (.invokestatic index, 3)) (hf : cells + mc ≤ R.cells ∧ slots + ms ≤ R.slots) :
    vx_Run p l e R s m args below meth c H locs cells slots mc ms g rest (Qc As.toArray) XC free := by
  obtain ⟨⟨hrc, hrs, hfr, hlo, hws, hcw⟩, hcode, hini, hy, hlen, hl, hstt⟩ := cw
  have hK : vx_Back l R p e below s args y 3 8 (PreOf R mc ms Pc) (PostOf Qc mc ms free) (vx_Post XC mc ms free) := vx_backW (hh := hh) (bytes := bytes) (maxL := maxL) (ret := ret) hM hp.1 hrc hrs hfr hlo hws hcw (fun a' U hW => word_at hW (Or.inl (by first | rfl | simp [Cond.onTables, Cond.keeps, Cond.steady])) hini)
  obtain ⟨hx, hb, hml, ho, -⟩ := S
  intro T hT X
  rcases vx_callSX X hx (hh := hh) (bytes := bytes) (maxL := maxL) (ret := ret) ho hl hstt hini hcode hy hK hg (hsize.trans hml.symm) (argsL := As) (rest := rest) (fun sig h => hn.trans (hlen sig h)) hstack hW (by rw [hb]; exact hdg)
    (fun vm₁ hW₁ => ⟨hf.1, hf.2, hp.2 (T.setVm vm₁) hT hW₁⟩) with ⟨v, vm₁, ⟨U', l2, c2, s2⟩, hW₁, X', ⟨g', mk, t, L, e1, e2, hq, h1, hL, h2, h3⟩, st⟩ | ⟨q, vm₁, ⟨U', l2, c2, s2⟩, hW₁, X', ⟨g', mk, t, L, E, ce, e1, e2, hq, hce, hcv, hcl, h1, hL, h2, h3⟩, st⟩
  · dsimp only [Pt.U, Pt.locs, Pt.cells, Pt.slots] at X' e1 e2 h1 h2 h3 st
    subst h1; subst h2; subst h3
    exact Or.inl ⟨v, (T.setVm vm₁).calling g' mk As.toArray, t, U', L, hT, X', hL, e1, e2, hq, st⟩
  · dsimp only [Pt.U, Pt.locs, Pt.cells, Pt.slots] at X' e1 e2 h1 h2 h3 st hcl
    subst h1; subst h2; subst h3
    exact Or.inr ⟨q, (T.setVm vm₁).calling g' mk As.toArray, t, U', L, E, ce, hT, X', hL, e1, e2, hq, hce, hcv, vx_cls hW₁ hcl, st⟩
end
end VXH
theorem vx_ofWH {l : Launch} {y : MethodName} {ws ws' : List Cond} {rm : Room} {Pc : Array Value → State → Prop} {Qc : Array Value → State → Outcome → State → Prop} {XC : String → State → State → Prop} {mc ms : Nat} {free : Addr → Prop} {cc : ByteArray} {maxL : Nat} {ret : Option FieldType} {hh : List (Nat × Nat × Nat × Nat)}
    (hy : plainName y.cls = true) (hw : ws = Cond.codeWith y cc maxL ret hh :: ws')
    (body : ∀ p e s m args below meth c s₁, BodyLoose p l y (headSpec ws rm) cc maxL ret e s m args below meth c s₁ → c.maxLocals = maxL → Pc args s →
      W p l e (headSpec ws rm).room s m args below meth c s.heap [] 0 0 (vx_MQ below Qc XC args s mc ms free) (entryFrame m args maxL)) : vx_Met l y ws rm Pc Qc XC mc ms free := by
  refine MetFree.of_bodyS (code := cc) (maxLocals := maxL) (ret := ret) hy ?_ ?_
  · intro args s m h hn
    obtain ⟨m9, meth, c, hn9, h1, h2, h3, h4, -, h5, h6, -⟩ := Cond.codeWith_spec (atoms_spec (ws := ws) h _ (by rw [hw]; exact List.mem_cons_self))
    cases hn.symm.trans hn9
    exact ⟨meth, c, h1, h2, h3, h4, h5, h6⟩
  · intro p e s m args below meth c s₁ B hml hP _
    have hh0 : s₁.heap = s.heap := by rw [B.state]; rfl
    obtain ⟨t, a1, o, b1, b2, b3⟩ := body p e s m args below meth c s₁ B hml hP s₁ hh0 (Stand.of_body B)
    exact ⟨t, o, a1, b1, b2, b3⟩
/-! ===== END ===== -/
end
section
def RX0 : String := "WriteBackTier"
def TX0 : u_T := fun k => match k with
  | 0 => ("WriteBackTier", "slotCount", "I", true)
  | 1 => ("WriteBackTier", "originValues", "[J", true)
  | 2 => ("WriteBackTier", "slotValues", "[J", true)
  | 3 => ("WriteBackTier", "contents", "[I", true)
  | 4 => ("WriteBackTier", "notes", "[I", true)
  | 5 => ("WriteBackTier", "lastUses", "[I", true)
  | 6 => ("WriteBackTier", "uses", "I", false)
  | 7 => ("WriteBackTier", "currentMode", "I", false)
  | 8 => ("WriteBackTier", "hand", "I", false)
  | 9 => ("WriteBackTier", "hits", "I", false)
  | 10 => ("WriteBackTier", "misses", "I", false)
  | 11 => ("WriteBackTier", "originWrites", "I", false)
  | _ => ("WriteBackTier", "notings", "I", false)
def tyX0 : Nat → FieldType := fun k => match k with
  | 0 => .int
  | 1 => .array .long
  | 2 => .array .long
  | 3 => .array .int
  | 4 => .array .int
  | 5 => .array .int
  | 6 => .int
  | 7 => .int
  | 8 => .int
  | 9 => .int
  | 10 => .int
  | 11 => .int
  | _ => .int
theorem nmX0 : ∀ a, a < 13 → ∀ b, b < 13 → a ≠ b → (TX0 a).2.1 ≠ (TX0 b).2.1 := by decide +kernel
theorem tyX0_ok : ∀ k, k < 13 → parseFieldDescriptor (TX0 k).2.2.1 = some (tyX0 k) := by decide +kernel
def RX1 : String := "WriteBackTierModel"
def TX1 : u_T := fun k => match k with
  | 0 => ("WriteBackTierModel", "code", "I", false)
  | 1 => ("WriteBackTierModel", "slots", "I", false)
  | 2 => ("WriteBackTierModel", "origin", "[J", true)
  | 3 => ("WriteBackTierModel", "block", "[I", true)
  | 4 => ("WriteBackTierModel", "value", "[J", true)
  | 5 => ("WriteBackTierModel", "dirty", "[Z", true)
  | 6 => ("WriteBackTierModel", "note", "[I", true)
  | 7 => ("WriteBackTierModel", "used", "[J", true)
  | 8 => ("WriteBackTierModel", "clock", "J", false)
  | 9 => ("WriteBackTierModel", "mode", "I", false)
  | 10 => ("WriteBackTierModel", "hand", "I", false)
  | 11 => ("WriteBackTierModel", "hits", "I", false)
  | 12 => ("WriteBackTierModel", "misses", "I", false)
  | 13 => ("WriteBackTierModel", "gets", "I", false)
  | _ => ("WriteBackTierModel", "notes", "I", false)
def tyX1 : Nat → FieldType := fun k => match k with
  | 0 => .int
  | 1 => .int
  | 2 => .array .long
  | 3 => .array .int
  | 4 => .array .long
  | 5 => .array .boolean
  | 6 => .array .int
  | 7 => .array .long
  | 8 => .long
  | 9 => .int
  | 10 => .int
  | 11 => .int
  | 12 => .int
  | 13 => .int
  | _ => .int
theorem nmX1 : ∀ a, a < 15 → ∀ b, b < 15 → a ≠ b → (TX1 a).2.1 ≠ (TX1 b).2.1 := by decide +kernel
theorem tyX1_ok : ∀ k, k < 15 → parseFieldDescriptor (TX1 k).2.2.1 = some (tyX1 k) := by decide +kernel
def RJ7 : String := "java/util/Arrays"
def RL : String := "WriteBackTierLaw"
abbrev vwCl : List vw_C := [(RX0, TX0, 13), (RX1, TX1, 15)]
def wsG : List Cond := lw_tbl.filter goodWord
theorem zw_in {w : Cond} {i : Nat} (h : tables_1[i]? = some w) (g : goodWord w = true) : w ∈ wsG := List.mem_filter.mpr ⟨List.mem_append_right _ (List.mem_of_getElem? h), g⟩
theorem zw_sel {w : Cond} (h : w ∈ k2_sels lw_privs) (g : goodWord w = true) : w ∈ wsG := List.mem_filter.mpr ⟨List.mem_append_left _ h, g⟩
theorem zw_all {c c2 : Cond} {l : List Cond} (h : ∀ w ∈ l, w ∈ wsG) (h2 : c2 ∈ wsG) : GoodIn (c :: wsG) (l ++ c2 :: wsG) := by
  intro w hw
  have hm : w ∈ wsG := by
    rcases List.mem_append.mp hw with q | q
    · exact h w q
    · rcases List.mem_cons.mp q with rfl | q
      · exact h2
      · exact q
  exact ⟨List.mem_cons_of_mem _ hm, good_of_word (List.mem_filter.mp hm).2⟩
theorem zw_V {c c2 : Cond} {own C : String} {idx : Nat} {y : MethodName} (h1 : Cond.methodLink own idx y ∈ wsG) (h2 : Cond.instanceMethod y ∈ wsG) (h3 : Cond.selects C y y ∈ wsG) (h4 : Cond.initialized C ∈ wsG) (h5 : c2 ∈ wsG) : GoodIn (c :: wsG) (wsV own idx C y (c2 :: wsG)) :=
  zw_all (l := [.methodLink own idx y, .instanceMethod y, .selects C y y, .initialized C]) (fun w hw => by simp only [List.mem_cons, List.not_mem_nil, or_false] at hw; rcases hw with rfl | rfl | rfl | rfl <;> assumption) h5
theorem zw_S {c c2 : Cond} {own : String} {idx : Nat} {y : MethodName} (h1 : Cond.methodLink own idx y ∈ wsG) (h2 : Cond.static y ∈ wsG) (h4 : Cond.initialized y.cls ∈ wsG) (h5 : c2 ∈ wsG) : GoodIn (c :: wsG) (va_wsS own idx y (c2 :: wsG)) :=
  zw_all (l := [.methodLink own idx y, .static y, .initialized y.cls]) (fun w hw => by simp only [List.mem_cons, List.not_mem_nil, or_false] at hw; rcases hw with rfl | rfl | rfl <;> assumption) h5
theorem zw_I {c c2 : Cond} (h5 : c2 ∈ wsG) : GoodIn (c :: wsG) (c2 :: wsG) := zw_all (l := []) (fun w hw => nomatch hw) h5
theorem zw_all0 {c2 : Cond} {l : List Cond} (h : ∀ w ∈ l, w ∈ wsG) (h2 : c2 ∈ wsG) : GoodIn wsG (l ++ c2 :: wsG) := by
  intro w hw
  have hm : w ∈ wsG := by
    rcases List.mem_append.mp hw with q | q
    · exact h w q
    · rcases List.mem_cons.mp q with rfl | q
      · exact h2
      · exact q
  exact ⟨hm, good_of_word (List.mem_filter.mp hm).2⟩
theorem zw_V0 {c2 : Cond} {own C : String} {idx : Nat} {y : MethodName} (h1 : Cond.methodLink own idx y ∈ wsG) (h2 : Cond.instanceMethod y ∈ wsG) (h3 : Cond.selects C y y ∈ wsG) (h4 : Cond.initialized C ∈ wsG) (h5 : c2 ∈ wsG) : GoodIn wsG (wsV own idx C y (c2 :: wsG)) :=
  zw_all0 (l := [.methodLink own idx y, .instanceMethod y, .selects C y y, .initialized C]) (fun w hw => by simp only [List.mem_cons, List.not_mem_nil, or_false] at hw; rcases hw with rfl | rfl | rfl | rfl <;> assumption) h5
theorem zw_S0 {c2 : Cond} {own : String} {idx : Nat} {y : MethodName} (h1 : Cond.methodLink own idx y ∈ wsG) (h2 : Cond.static y ∈ wsG) (h4 : Cond.initialized y.cls ∈ wsG) (h5 : c2 ∈ wsG) : GoodIn wsG (va_wsS own idx y (c2 :: wsG)) :=
  zw_all0 (l := [.methodLink own idx y, .static y, .initialized y.cls]) (fun w hw => by simp only [List.mem_cons, List.not_mem_nil, or_false] at hw; rcases hw with rfl | rfl | rfl <;> assumption) h5
theorem zw_I0 {c2 : Cond} (h5 : c2 ∈ wsG) : GoodIn wsG (c2 :: wsG) := zw_all0 (l := []) (fun w hw => nomatch hw) h5
theorem hinX0 : ∀ w ∈ u_ws RX0 TX0 13, w ∈ wsG := by decide +kernel
theorem hinX1 : ∀ w ∈ u_ws RX1 TX1 15, w ∈ wsG := by decide +kernel
abbrev cX0_init : ByteArray := prog_1_method_1_code
def yX0_init : MethodName := ⟨RX0, "<init>", "(I)V"⟩
def wsX0_init : List Cond := .code yX0_init cX0_init 2 none :: wsG
abbrev cJ7_fill : ByteArray := prog_11_method_103_code
def yJ7_fill : MethodName := ⟨RJ7, "fill", "([II)V"⟩
def wsJ7_fill : List Cond := .code yJ7_fill cJ7_fill 4 none :: wsG
abbrev cX0_check : ByteArray := prog_1_method_7_code
def yX0_check : MethodName := ⟨RX0, "check", "()I"⟩
def wsX0_check : List Cond := .code yX0_check cX0_check 3 (some .int) :: wsG
abbrev cX0_noteSlot : ByteArray := prog_1_method_23_code
def yX0_noteSlot : MethodName := ⟨RX0, "noteSlot", "(I)V"⟩
def wsX0_noteSlot : List Cond := .code yX0_noteSlot cX0_noteSlot 2 none :: wsG
abbrev cX0_crash : ByteArray := prog_1_method_8_code
def yX0_crash : MethodName := ⟨RX0, "crash", "()I"⟩
def wsX0_crash : List Cond := .code yX0_crash cX0_crash 1 (some .int) :: wsG
abbrev cX0_stopMachine : ByteArray := prog_1_method_37_code
def yX0_stopMachine : MethodName := ⟨RX0, "stopMachine", "()V"⟩
def wsX0_stopMachine : List Cond := .code yX0_stopMachine cX0_stopMachine 2 none :: wsG
abbrev cX0_countFull : ByteArray := prog_1_method_41_code
def yX0_countFull : MethodName := ⟨RX0, "countFull", "()I"⟩
def wsX0_countFull : List Cond := .code yX0_countFull cX0_countFull 3 (some .int) :: wsG
abbrev cX0_lose : ByteArray := prog_1_method_9_code
def yX0_lose : MethodName := ⟨RX0, "lose", "()I"⟩
def wsX0_lose : List Cond := .code yX0_lose cX0_lose 2 (some .int) :: wsG
abbrev cX0_countDirty : ByteArray := prog_1_method_42_code
def yX0_countDirty : MethodName := ⟨RX0, "countDirty", "()I"⟩
def wsX0_countDirty : List Cond := .code yX0_countDirty cX0_countDirty 3 (some .int) :: wsG
abbrev cX0_isDirty : ByteArray := prog_1_method_20_code
def yX0_isDirty : MethodName := ⟨RX0, "isDirty", "(I)Z"⟩
def wsX0_isDirty : List Cond := .code yX0_isDirty cX0_isDirty 1 (some .boolean) :: wsG
abbrev cL_cell : ByteArray := method_2_code
def yL_cell : MethodName := ⟨RL, "cell", "([II)I"⟩
def wsL_cell : List Cond := .code yL_cell cL_cell 2 (some .int) :: wsG
abbrev cL_read : ByteArray := method_3_code
def yL_read : MethodName := ⟨RL, "read", "(LWriteBackTier;I[J)I"⟩
def wsL_read : List Cond := .codeWith yL_read cL_read 4 (some .int) [(0, 8, 11, 13)] :: wsG
abbrev cX0_read : ByteArray := prog_1_method_2_code
def yX0_read : MethodName := ⟨RX0, "read", "(I)J"⟩
def wsX0_read : List Cond := .code yX0_read cX0_read 3 (some .long) :: wsG
abbrev cX0_requireBlock : ByteArray := prog_1_method_16_code
def yX0_requireBlock : MethodName := ⟨RX0, "requireBlock", "(I)V"⟩
def wsX0_requireBlock : List Cond := .code yX0_requireBlock cX0_requireBlock 1 none :: wsG
abbrev cX0_slotWith : ByteArray := prog_1_method_21_code
def yX0_slotWith : MethodName := ⟨RX0, "slotWith", "(I)I"⟩
def wsX0_slotWith : List Cond := .code yX0_slotWith cX0_slotWith 3 (some .int) :: wsG
abbrev cX0_blockOf : ByteArray := prog_1_method_19_code
def yX0_blockOf : MethodName := ⟨RX0, "blockOf", "(I)I"⟩
def wsX0_blockOf : List Cond := .code yX0_blockOf cX0_blockOf 1 (some .int) :: wsG
abbrev cX0_useSlot : ByteArray := prog_1_method_22_code
def yX0_useSlot : MethodName := ⟨RX0, "useSlot", "(I)V"⟩
def wsX0_useSlot : List Cond := .code yX0_useSlot cX0_useSlot 2 none :: wsG
abbrev cX0_findRoom : ByteArray := prog_1_method_29_code
def yX0_findRoom : MethodName := ⟨RX0, "findRoom", "()I"⟩
def wsX0_findRoom : List Cond := .code yX0_findRoom cX0_findRoom 3 (some .int) :: wsG
abbrev cX0_writeBackIfDirty : ByteArray := prog_1_method_27_code
def yX0_writeBackIfDirty : MethodName := ⟨RX0, "writeBackIfDirty", "(I)Z"⟩
def wsX0_writeBackIfDirty : List Cond := .code yX0_writeBackIfDirty cX0_writeBackIfDirty 2 (some .boolean) :: wsG
abbrev cX0_giveOrigin : ByteArray := prog_1_method_24_code
def yX0_giveOrigin : MethodName := ⟨RX0, "giveOrigin", "(IJ)V"⟩
def wsX0_giveOrigin : List Cond := .code yX0_giveOrigin cX0_giveOrigin 4 none :: wsG
abbrev cX0_makeClean : ByteArray := prog_1_method_25_code
def yX0_makeClean : MethodName := ⟨RX0, "makeClean", "(I)V"⟩
def wsX0_makeClean : List Cond := .code yX0_makeClean cX0_makeClean 2 none :: wsG
abbrev cX0_cleanForm : ByteArray := prog_1_method_17_code
def yX0_cleanForm : MethodName := ⟨RX0, "cleanForm", "(I)I"⟩
def wsX0_cleanForm : List Cond := .code yX0_cleanForm cX0_cleanForm 1 (some .int) :: wsG
abbrev cX0_makeEmpty : ByteArray := prog_1_method_26_code
def yX0_makeEmpty : MethodName := ⟨RX0, "makeEmpty", "(I)V"⟩
def wsX0_makeEmpty : List Cond := .code yX0_makeEmpty cX0_makeEmpty 2 none :: wsG
abbrev cX0_keepClean : ByteArray := prog_1_method_30_code
def yX0_keepClean : MethodName := ⟨RX0, "keepClean", "(II)V"⟩
def wsX0_keepClean : List Cond := .code yX0_keepClean cX0_keepClean 3 none :: wsG
abbrev cL_write : ByteArray := method_4_code
def yL_write : MethodName := ⟨RL, "write", "(LWriteBackTier;IJ)I"⟩
def wsL_write : List Cond := .codeWith yL_write cL_write 5 (some .int) [(0, 6, 9, 13)] :: wsG
abbrev cX0_write : ByteArray := prog_1_method_3_code
def yX0_write : MethodName := ⟨RX0, "write", "(IJ)V"⟩
def wsX0_write : List Cond := .code yX0_write cX0_write 4 none :: wsG
abbrev cX0_writeThrough : ByteArray := prog_1_method_31_code
def yX0_writeThrough : MethodName := ⟨RX0, "writeThrough", "(IJ)V"⟩
def wsX0_writeThrough : List Cond := .code yX0_writeThrough cX0_writeThrough 5 none :: wsG
abbrev cX0_writePast : ByteArray := prog_1_method_32_code
def yX0_writePast : MethodName := ⟨RX0, "writePast", "(IJ)V"⟩
def wsX0_writePast : List Cond := .code yX0_writePast cX0_writePast 5 none :: wsG
abbrev cX0_writeInSteps : ByteArray := prog_1_method_33_code
def yX0_writeInSteps : MethodName := ⟨RX0, "writeInSteps", "(IJI)I"⟩
def wsX0_writeInSteps : List Cond := .code yX0_writeInSteps cX0_writeInSteps 7 (some .int) :: wsG
abbrev cX0_fillInSteps : ByteArray := prog_1_method_34_code
def yX0_fillInSteps : MethodName := ⟨RX0, "fillInSteps", "(IIJI)I"⟩
def wsX0_fillInSteps : List Cond := .code yX0_fillInSteps cX0_fillInSteps 6 (some .int) :: wsG
abbrev cX0_dirtyForm : ByteArray := prog_1_method_18_code
def yX0_dirtyForm : MethodName := ⟨RX0, "dirtyForm", "(I)I"⟩
def wsX0_dirtyForm : List Cond := .code yX0_dirtyForm cX0_dirtyForm 1 (some .int) :: wsG
abbrev cX0_overwriteDirty : ByteArray := prog_1_method_35_code
def yX0_overwriteDirty : MethodName := ⟨RX0, "overwriteDirty", "(IIJI)I"⟩
def wsX0_overwriteDirty : List Cond := .code yX0_overwriteDirty cX0_overwriteDirty 6 (some .int) :: wsG
abbrev cX0_overwriteClean : ByteArray := prog_1_method_36_code
def yX0_overwriteClean : MethodName := ⟨RX0, "overwriteClean", "(IIJI)I"⟩
def wsX0_overwriteClean : List Cond := .code yX0_overwriteClean cX0_overwriteClean 6 (some .int) :: wsG
abbrev cL_cut : ByteArray := method_5_code
def yL_cut : MethodName := ⟨RL, "cut", "(LWriteBackTier;IJI[J)I"⟩
def wsL_cut : List Cond := .codeWith yL_cut cL_cut 7 (some .int) [(0, 13, 16, 13), (0, 13, 20, 23)] :: wsG
abbrev cX0_cut : ByteArray := prog_1_method_4_code
def yX0_cut : MethodName := ⟨RX0, "cut", "(IJI)I"⟩
def wsX0_cut : List Cond := .code yX0_cut cX0_cut 6 (some .int) :: wsG
abbrev cL_mode : ByteArray := method_6_code
def yL_mode : MethodName := ⟨RL, "mode", "(LWriteBackTier;I[J)I"⟩
def wsL_mode : List Cond := .codeWith yL_mode cL_mode 4 (some .int) [(0, 9, 12, 13)] :: wsG
abbrev cX0_mode : ByteArray := prog_1_method_5_code
def yX0_mode : MethodName := ⟨RX0, "mode", "(I)I"⟩
def wsX0_mode : List Cond := .code yX0_mode cX0_mode 2 (some .int) :: wsG
abbrev cX0_writeAllBack : ByteArray := prog_1_method_28_code
def yX0_writeAllBack : MethodName := ⟨RX0, "writeAllBack", "()I"⟩
def wsX0_writeAllBack : List Cond := .code yX0_writeAllBack cX0_writeAllBack 3 (some .int) :: wsG
abbrev cL_back : ByteArray := method_7_code
def yL_back : MethodName := ⟨RL, "back", "(LWriteBackTier;I[J)I"⟩
def wsL_back : List Cond := .codeWith yL_back cL_back 4 (some .int) [(0, 9, 12, 13)] :: wsG
abbrev cX0_back : ByteArray := prog_1_method_6_code
def yX0_back : MethodName := ⟨RX0, "back", "(I)I"⟩
def wsX0_back : List Cond := .code yX0_back cX0_back 4 (some .int) :: wsG
abbrev cX0_nextForHand : ByteArray := prog_1_method_38_code
def yX0_nextForHand : MethodName := ⟨RX0, "nextForHand", "()I"⟩
def wsX0_nextForHand : List Cond := .code yX0_nextForHand cX0_nextForHand 2 (some .int) :: wsG
abbrev cX0_leastDirtyFrom : ByteArray := prog_1_method_39_code
def yX0_leastDirtyFrom : MethodName := ⟨RX0, "leastDirtyFrom", "(I)I"⟩
def wsX0_leastDirtyFrom : List Cond := .code yX0_leastDirtyFrom cX0_leastDirtyFrom 6 (some .int) :: wsG
abbrev cL_slot : ByteArray := method_8_code
def yL_slot : MethodName := ⟨RL, "slot", "(LWriteBackTier;I[J)I"⟩
def wsL_slot : List Cond := .codeWith yL_slot cL_slot 4 (some .int) [(0, 9, 12, 13)] :: wsG
abbrev cX0_slot : ByteArray := prog_1_method_10_code
def yX0_slot : MethodName := ⟨RX0, "slot", "(I)I"⟩
def wsX0_slot : List Cond := .code yX0_slot cX0_slot 2 (some .int) :: wsG
abbrev cL_dirty : ByteArray := method_9_code
def yL_dirty : MethodName := ⟨RL, "dirty", "(LWriteBackTier;I[J)I"⟩
def wsL_dirty : List Cond := .codeWith yL_dirty cL_dirty 4 (some .int) [(0, 16, 19, 13), (0, 16, 22, 39)] :: wsG
abbrev cX0_dirty : ByteArray := prog_1_method_11_code
def yX0_dirty : MethodName := ⟨RX0, "dirty", "(I)Z"⟩
def wsX0_dirty : List Cond := .code yX0_dirty cX0_dirty 3 (some .boolean) :: wsG
abbrev cL_origin : ByteArray := method_10_code
def yL_origin : MethodName := ⟨RL, "origin", "(LWriteBackTier;I[J)I"⟩
def wsL_origin : List Cond := .codeWith yL_origin cL_origin 4 (some .int) [(0, 8, 11, 13)] :: wsG
abbrev cX0_origin : ByteArray := prog_1_method_12_code
def yX0_origin : MethodName := ⟨RX0, "origin", "(I)J"⟩
def wsX0_origin : List Cond := .code yX0_origin cX0_origin 2 (some .long) :: wsG
abbrev cL_order : ByteArray := method_11_code
def yL_order : MethodName := ⟨RL, "order", "(LWriteBackTier;I[J)I"⟩
def wsL_order : List Cond := .codeWith yL_order cL_order 4 (some .int) [(0, 9, 12, 47)] :: wsG
abbrev cX0_order : ByteArray := prog_1_method_13_code
def yX0_order : MethodName := ⟨RX0, "order", "(I)I"⟩
def wsX0_order : List Cond := .code yX0_order cX0_order 3 (some .int) :: wsG
abbrev cX0_countUsedAfter : ByteArray := prog_1_method_40_code
def yX0_countUsedAfter : MethodName := ⟨RX0, "countUsedAfter", "(I)I"⟩
def wsX0_countUsedAfter : List Cond := .code yX0_countUsedAfter cX0_countUsedAfter 4 (some .int) :: wsG
abbrev cL_noted : ByteArray := method_12_code
def yL_noted : MethodName := ⟨RL, "noted", "(LWriteBackTier;I[J)I"⟩
def wsL_noted : List Cond := .codeWith yL_noted cL_noted 4 (some .int) [(0, 9, 12, 47)] :: wsG
abbrev cX0_noted : ByteArray := prog_1_method_14_code
def yX0_noted : MethodName := ⟨RX0, "noted", "(I)I"⟩
def wsX0_noted : List Cond := .code yX0_noted cX0_noted 2 (some .int) :: wsG
abbrev cL_figure : ByteArray := method_13_code
def yL_figure : MethodName := ⟨RL, "figure", "(LWriteBackTier;I[J)I"⟩
def wsL_figure : List Cond := .codeWith yL_figure cL_figure 4 (some .int) [(0, 9, 12, 13)] :: wsG
abbrev cX0_figure : ByteArray := prog_1_method_15_code
def yX0_figure : MethodName := ⟨RX0, "figure", "(I)I"⟩
def wsX0_figure : List Cond := .code yX0_figure cX0_figure 2 (some .int) :: wsG
abbrev cX1_init : ByteArray := prog_3_method_1_code
def yX1_init : MethodName := ⟨RX1, "<init>", "(I)V"⟩
def wsX1_init : List Cond := .code yX1_init cX1_init 3 none :: wsG
abbrev cX1_thrown : ByteArray := prog_3_method_2_code
def yX1_thrown : MethodName := ⟨RX1, "thrown", "()I"⟩
def wsX1_thrown : List Cond := .code yX1_thrown cX1_thrown 1 (some .int) :: wsG
abbrev cX1_read : ByteArray := prog_3_method_14_code
def yX1_read : MethodName := ⟨RX1, "read", "(I)J"⟩
def wsX1_read : List Cond := .code yX1_read cX1_read 3 (some .long) :: wsG
abbrev cX1_isBlock : ByteArray := prog_3_method_3_code
def yX1_isBlock : MethodName := ⟨RX1, "isBlock", "(I)Z"⟩
def wsX1_isBlock : List Cond := .code yX1_isBlock cX1_isBlock 1 (some .boolean) :: wsG
abbrev cX1_find : ByteArray := prog_3_method_8_code
def yX1_find : MethodName := ⟨RX1, "find", "(I)I"⟩
def wsX1_find : List Cond := .code yX1_find cX1_find 4 (some .int) :: wsG
abbrev cX1_use : ByteArray := prog_3_method_7_code
def yX1_use : MethodName := ⟨RX1, "use", "(I)V"⟩
def wsX1_use : List Cond := .code yX1_use cX1_use 2 none :: wsG
abbrev cX1_room : ByteArray := prog_3_method_13_code
def yX1_room : MethodName := ⟨RX1, "room", "()I"⟩
def wsX1_room : List Cond := .code yX1_room cX1_room 3 (some .int) :: wsG
abbrev cX1_writeBack : ByteArray := prog_3_method_11_code
def yX1_writeBack : MethodName := ⟨RX1, "writeBack", "(I)V"⟩
def wsX1_writeBack : List Cond := .code yX1_writeBack cX1_writeBack 2 none :: wsG
abbrev cX1_give : ByteArray := prog_3_method_9_code
def yX1_give : MethodName := ⟨RX1, "give", "(IJ)V"⟩
def wsX1_give : List Cond := .code yX1_give cX1_give 4 none :: wsG
abbrev cX1_clean : ByteArray := prog_3_method_10_code
def yX1_clean : MethodName := ⟨RX1, "clean", "(I)V"⟩
def wsX1_clean : List Cond := .code yX1_clean cX1_clean 3 none :: wsG
abbrev cX1_isNotedDirty : ByteArray := prog_3_method_6_code
def yX1_isNotedDirty : MethodName := ⟨RX1, "isNotedDirty", "(I)Z"⟩
def wsX1_isNotedDirty : List Cond := .code yX1_isNotedDirty cX1_isNotedDirty 2 (some .boolean) :: wsG
abbrev cX1_noteSlot : ByteArray := prog_3_method_5_code
def yX1_noteSlot : MethodName := ⟨RX1, "noteSlot", "(I)V"⟩
def wsX1_noteSlot : List Cond := .code yX1_noteSlot cX1_noteSlot 2 none :: wsG
abbrev cX1_soOf : ByteArray := prog_3_method_4_code
def yX1_soOf : MethodName := ⟨RX1, "soOf", "(I)I"⟩
def wsX1_soOf : List Cond := .code yX1_soOf cX1_soOf 2 (some .int) :: wsG
abbrev cX1_empty : ByteArray := prog_3_method_12_code
def yX1_empty : MethodName := ⟨RX1, "empty", "(I)V"⟩
def wsX1_empty : List Cond := .code yX1_empty cX1_empty 2 none :: wsG
abbrev cX1_write : ByteArray := prog_3_method_16_code
def yX1_write : MethodName := ⟨RX1, "write", "(IJ)V"⟩
def wsX1_write : List Cond := .code yX1_write cX1_write 5 none :: wsG
abbrev cX1_steps : ByteArray := prog_3_method_15_code
def yX1_steps : MethodName := ⟨RX1, "steps", "(IJI)I"⟩
def wsX1_steps : List Cond := .code yX1_steps cX1_steps 8 (some .int) :: wsG
abbrev cX1_cut : ByteArray := prog_3_method_18_code
def yX1_cut : MethodName := ⟨RX1, "cut", "(IJI)I"⟩
def wsX1_cut : List Cond := .code yX1_cut cX1_cut 6 (some .int) :: wsG
abbrev cX1_stop : ByteArray := prog_3_method_17_code
def yX1_stop : MethodName := ⟨RX1, "stop", "()V"⟩
def wsX1_stop : List Cond := .code yX1_stop cX1_stop 2 none :: wsG
abbrev cX1_mode : ByteArray := prog_3_method_19_code
def yX1_mode : MethodName := ⟨RX1, "mode", "(I)I"⟩
def wsX1_mode : List Cond := .code yX1_mode cX1_mode 4 (some .int) :: wsG
abbrev cX1_back : ByteArray := prog_3_method_21_code
def yX1_back : MethodName := ⟨RX1, "back", "(I)I"⟩
def wsX1_back : List Cond := .code yX1_back cX1_back 5 (some .int) :: wsG
abbrev cX1_nextDirty : ByteArray := prog_3_method_20_code
def yX1_nextDirty : MethodName := ⟨RX1, "nextDirty", "(I)I"⟩
def wsX1_nextDirty : List Cond := .code yX1_nextDirty cX1_nextDirty 5 (some .int) :: wsG
abbrev cX1_check : ByteArray := prog_3_method_22_code
def yX1_check : MethodName := ⟨RX1, "check", "()I"⟩
def wsX1_check : List Cond := .code yX1_check cX1_check 3 (some .int) :: wsG
abbrev cX1_crash : ByteArray := prog_3_method_25_code
def yX1_crash : MethodName := ⟨RX1, "crash", "()I"⟩
def wsX1_crash : List Cond := .code yX1_crash cX1_crash 1 (some .int) :: wsG
abbrev cX1_full : ByteArray := prog_3_method_23_code
def yX1_full : MethodName := ⟨RX1, "full", "()I"⟩
def wsX1_full : List Cond := .code yX1_full cX1_full 3 (some .int) :: wsG
abbrev cX1_lose : ByteArray := prog_3_method_26_code
def yX1_lose : MethodName := ⟨RX1, "lose", "()I"⟩
def wsX1_lose : List Cond := .code yX1_lose cX1_lose 3 (some .int) :: wsG
abbrev cX1_dirties : ByteArray := prog_3_method_24_code
def yX1_dirties : MethodName := ⟨RX1, "dirties", "()I"⟩
def wsX1_dirties : List Cond := .code yX1_dirties cX1_dirties 3 (some .int) :: wsG
abbrev cX1_slot : ByteArray := prog_3_method_27_code
def yX1_slot : MethodName := ⟨RX1, "slot", "(I)I"⟩
def wsX1_slot : List Cond := .code yX1_slot cX1_slot 2 (some .int) :: wsG
abbrev cX1_dirty : ByteArray := prog_3_method_28_code
def yX1_dirty : MethodName := ⟨RX1, "dirty", "(I)Z"⟩
def wsX1_dirty : List Cond := .code yX1_dirty cX1_dirty 2 (some .boolean) :: wsG
abbrev cX1_origin : ByteArray := prog_3_method_29_code
def yX1_origin : MethodName := ⟨RX1, "origin", "(I)J"⟩
def wsX1_origin : List Cond := .code yX1_origin cX1_origin 2 (some .long) :: wsG
abbrev cX1_order : ByteArray := prog_3_method_30_code
def yX1_order : MethodName := ⟨RX1, "order", "(I)I"⟩
def wsX1_order : List Cond := .code yX1_order cX1_order 5 (some .int) :: wsG
abbrev cX1_noted : ByteArray := prog_3_method_31_code
def yX1_noted : MethodName := ⟨RX1, "noted", "(I)I"⟩
def wsX1_noted : List Cond := .code yX1_noted cX1_noted 2 (some .int) :: wsG
abbrev cX1_figure : ByteArray := prog_3_method_32_code
def yX1_figure : MethodName := ⟨RX1, "figure", "(I)I"⟩
def wsX1_figure : List Cond := .code yX1_figure cX1_figure 2 (some .int) :: wsG
abbrev cL_law : ByteArray := code
def yL_law : MethodName := ⟨RL, "law", "([I)Z"⟩
def wsL_law : List Cond := wsG
theorem ml_X0_30 : Cond.methodLink RX0 30 yJ7_fill ∈ wsG := zw_in (i := 19) (by decide +kernel) rfl
theorem mt_J7_fill : Cond.static yJ7_fill ∈ wsG := zw_in (i := 20) (by decide +kernel) rfl
theorem mi_J7 : Cond.initialized RJ7 ∈ wsG := zw_in (i := 2) (by decide +kernel) rfl
theorem mc_J7_fill : Cond.code yJ7_fill cJ7_fill 4 none ∈ wsG := zw_in (i := 21) (by decide +kernel) rfl
theorem mf_X0_9 : Cond.fieldLink RX0 9 "WriteBackTier" "slotCount" "I" ∈ wsG := zw_in (i := 22) (by decide +kernel) rfl
theorem mf_X0_13 : Cond.fieldLink RX0 13 "WriteBackTier" "originValues" "[J" ∈ wsG := zw_in (i := 23) (by decide +kernel) rfl
theorem mf_X0_17 : Cond.fieldLink RX0 17 "WriteBackTier" "slotValues" "[J" ∈ wsG := zw_in (i := 24) (by decide +kernel) rfl
theorem mf_X0_20 : Cond.fieldLink RX0 20 "WriteBackTier" "contents" "[I" ∈ wsG := zw_in (i := 25) (by decide +kernel) rfl
theorem mf_X0_24 : Cond.fieldLink RX0 24 "WriteBackTier" "notes" "[I" ∈ wsG := zw_in (i := 26) (by decide +kernel) rfl
theorem mf_X0_27 : Cond.fieldLink RX0 27 "WriteBackTier" "lastUses" "[I" ∈ wsG := zw_in (i := 27) (by decide +kernel) rfl
theorem ml_X0_110 : Cond.methodLink RX0 110 yX0_noteSlot ∈ wsG := zw_in (i := 68) (by decide +kernel) rfl
theorem mm_X0_noteSlot : Cond.instanceMethod yX0_noteSlot ∈ wsG := zw_in (i := 70) (by decide +kernel) rfl
theorem ms_X0_noteSlot : Cond.selects RX0 yX0_noteSlot yX0_noteSlot ∈ wsG := zw_sel (by decide +kernel) rfl
theorem mi_X0 : Cond.initialized RX0 ∈ wsG := zw_in (i := 1) (by decide +kernel) rfl
theorem mc_X0_noteSlot : Cond.code yX0_noteSlot cX0_noteSlot 2 none ∈ wsG := zw_in (i := 71) (by decide +kernel) rfl
theorem mf_X0_140 : Cond.fieldLink RX0 140 "WriteBackTier" "notings" "I" ∈ wsG := zw_in (i := 34) (by decide +kernel) rfl
theorem ml_X0_87 : Cond.methodLink RX0 87 yX0_stopMachine ∈ wsG := zw_in (i := 76) (by decide +kernel) rfl
theorem mm_X0_stopMachine : Cond.instanceMethod yX0_stopMachine ∈ wsG := zw_in (i := 78) (by decide +kernel) rfl
theorem ms_X0_stopMachine : Cond.selects RX0 yX0_stopMachine yX0_stopMachine ∈ wsG := zw_sel (by decide +kernel) rfl
theorem mc_X0_stopMachine : Cond.code yX0_stopMachine cX0_stopMachine 2 none ∈ wsG := zw_in (i := 79) (by decide +kernel) rfl
theorem ml_X0_113 : Cond.methodLink RX0 113 yX0_countFull ∈ wsG := zw_in (i := 80) (by decide +kernel) rfl
theorem mm_X0_countFull : Cond.instanceMethod yX0_countFull ∈ wsG := zw_in (i := 82) (by decide +kernel) rfl
theorem ms_X0_countFull : Cond.selects RX0 yX0_countFull yX0_countFull ∈ wsG := zw_sel (by decide +kernel) rfl
theorem mc_X0_countFull : Cond.code yX0_countFull cX0_countFull 3 (some .int) ∈ wsG := zw_in (i := 83) (by decide +kernel) rfl
theorem mf_X0_53 : Cond.fieldLink RX0 53 "WriteBackTier" "currentMode" "I" ∈ wsG := zw_in (i := 29) (by decide +kernel) rfl
theorem mf_X0_107 : Cond.fieldLink RX0 107 "WriteBackTier" "hand" "I" ∈ wsG := zw_in (i := 30) (by decide +kernel) rfl
theorem ml_X0_116 : Cond.methodLink RX0 116 yX0_countDirty ∈ wsG := zw_in (i := 88) (by decide +kernel) rfl
theorem mm_X0_countDirty : Cond.instanceMethod yX0_countDirty ∈ wsG := zw_in (i := 90) (by decide +kernel) rfl
theorem ms_X0_countDirty : Cond.selects RX0 yX0_countDirty yX0_countDirty ∈ wsG := zw_sel (by decide +kernel) rfl
theorem mc_X0_countDirty : Cond.code yX0_countDirty cX0_countDirty 3 (some .int) ∈ wsG := zw_in (i := 91) (by decide +kernel) rfl
theorem ml_X0_124 : Cond.methodLink RX0 124 yX0_isDirty ∈ wsG := zw_in (i := 92) (by decide +kernel) rfl
theorem mt_X0_isDirty : Cond.static yX0_isDirty ∈ wsG := zw_in (i := 93) (by decide +kernel) rfl
theorem mc_X0_isDirty : Cond.code yX0_isDirty cX0_isDirty 1 (some .boolean) ∈ wsG := zw_in (i := 94) (by decide +kernel) rfl
theorem ml_L_7 : Cond.methodLink RL 7 yX0_read ∈ wsG := zw_in (i := 102) (by decide +kernel) rfl
theorem mm_X0_read : Cond.instanceMethod yX0_read ∈ wsG := zw_in (i := 103) (by decide +kernel) rfl
theorem ms_X0_read : Cond.selects RX0 yX0_read yX0_read ∈ wsG := zw_in (i := 104) (by decide +kernel) rfl
theorem mc_X0_read : Cond.code yX0_read cX0_read 3 (some .long) ∈ wsG := zw_in (i := 105) (by decide +kernel) rfl
theorem ml_X0_36 : Cond.methodLink RX0 36 yX0_requireBlock ∈ wsG := zw_in (i := 106) (by decide +kernel) rfl
theorem mt_X0_requireBlock : Cond.static yX0_requireBlock ∈ wsG := zw_in (i := 107) (by decide +kernel) rfl
theorem mc_X0_requireBlock : Cond.code yX0_requireBlock cX0_requireBlock 1 none ∈ wsG := zw_in (i := 108) (by decide +kernel) rfl
theorem ml_X0_40 : Cond.methodLink RX0 40 yX0_slotWith ∈ wsG := zw_in (i := 178) (by decide +kernel) rfl
theorem mm_X0_slotWith : Cond.instanceMethod yX0_slotWith ∈ wsG := zw_in (i := 180) (by decide +kernel) rfl
theorem ms_X0_slotWith : Cond.selects RX0 yX0_slotWith yX0_slotWith ∈ wsG := zw_sel (by decide +kernel) rfl
theorem mc_X0_slotWith : Cond.code yX0_slotWith cX0_slotWith 3 (some .int) ∈ wsG := zw_in (i := 181) (by decide +kernel) rfl
theorem ml_X0_47 : Cond.methodLink RX0 47 yX0_useSlot ∈ wsG := zw_in (i := 185) (by decide +kernel) rfl
theorem mm_X0_useSlot : Cond.instanceMethod yX0_useSlot ∈ wsG := zw_in (i := 187) (by decide +kernel) rfl
theorem ms_X0_useSlot : Cond.selects RX0 yX0_useSlot yX0_useSlot ∈ wsG := zw_sel (by decide +kernel) rfl
theorem mc_X0_useSlot : Cond.code yX0_useSlot cX0_useSlot 2 none ∈ wsG := zw_in (i := 188) (by decide +kernel) rfl
theorem ml_X0_56 : Cond.methodLink RX0 56 yX0_findRoom ∈ wsG := zw_in (i := 189) (by decide +kernel) rfl
theorem mm_X0_findRoom : Cond.instanceMethod yX0_findRoom ∈ wsG := zw_in (i := 191) (by decide +kernel) rfl
theorem ms_X0_findRoom : Cond.selects RX0 yX0_findRoom yX0_findRoom ∈ wsG := zw_sel (by decide +kernel) rfl
theorem mc_X0_findRoom : Cond.code yX0_findRoom cX0_findRoom 3 (some .int) ∈ wsG := zw_in (i := 192) (by decide +kernel) rfl
theorem ml_X0_60 : Cond.methodLink RX0 60 yX0_keepClean ∈ wsG := zw_in (i := 212) (by decide +kernel) rfl
theorem mm_X0_keepClean : Cond.instanceMethod yX0_keepClean ∈ wsG := zw_in (i := 214) (by decide +kernel) rfl
theorem ms_X0_keepClean : Cond.selects RX0 yX0_keepClean yX0_keepClean ∈ wsG := zw_sel (by decide +kernel) rfl
theorem mc_X0_keepClean : Cond.code yX0_keepClean cX0_keepClean 3 none ∈ wsG := zw_in (i := 215) (by decide +kernel) rfl
theorem mf_X0_44 : Cond.fieldLink RX0 44 "WriteBackTier" "hits" "I" ∈ wsG := zw_in (i := 31) (by decide +kernel) rfl
theorem mf_X0_50 : Cond.fieldLink RX0 50 "WriteBackTier" "misses" "I" ∈ wsG := zw_in (i := 32) (by decide +kernel) rfl
theorem ml_X0_104 : Cond.methodLink RX0 104 yX0_blockOf ∈ wsG := zw_in (i := 182) (by decide +kernel) rfl
theorem mt_X0_blockOf : Cond.static yX0_blockOf ∈ wsG := zw_in (i := 183) (by decide +kernel) rfl
theorem mc_X0_blockOf : Cond.code yX0_blockOf cX0_blockOf 1 (some .int) ∈ wsG := zw_in (i := 184) (by decide +kernel) rfl
theorem mf_X0_147 : Cond.fieldLink RX0 147 "WriteBackTier" "uses" "I" ∈ wsG := zw_in (i := 28) (by decide +kernel) rfl
theorem ml_X0_100 : Cond.methodLink RX0 100 yX0_writeBackIfDirty ∈ wsG := zw_in (i := 193) (by decide +kernel) rfl
theorem mm_X0_writeBackIfDirty : Cond.instanceMethod yX0_writeBackIfDirty ∈ wsG := zw_in (i := 195) (by decide +kernel) rfl
theorem ms_X0_writeBackIfDirty : Cond.selects RX0 yX0_writeBackIfDirty yX0_writeBackIfDirty ∈ wsG := zw_sel (by decide +kernel) rfl
theorem mc_X0_writeBackIfDirty : Cond.code yX0_writeBackIfDirty cX0_writeBackIfDirty 2 (some .boolean) ∈ wsG := zw_in (i := 196) (by decide +kernel) rfl
theorem ml_X0_159 : Cond.methodLink RX0 159 yX0_makeEmpty ∈ wsG := zw_in (i := 208) (by decide +kernel) rfl
theorem mm_X0_makeEmpty : Cond.instanceMethod yX0_makeEmpty ∈ wsG := zw_in (i := 210) (by decide +kernel) rfl
theorem ms_X0_makeEmpty : Cond.selects RX0 yX0_makeEmpty yX0_makeEmpty ∈ wsG := zw_sel (by decide +kernel) rfl
theorem mc_X0_makeEmpty : Cond.code yX0_makeEmpty cX0_makeEmpty 2 none ∈ wsG := zw_in (i := 211) (by decide +kernel) rfl
theorem ml_X0_153 : Cond.methodLink RX0 153 yX0_giveOrigin ∈ wsG := zw_in (i := 197) (by decide +kernel) rfl
theorem mm_X0_giveOrigin : Cond.instanceMethod yX0_giveOrigin ∈ wsG := zw_in (i := 199) (by decide +kernel) rfl
theorem ms_X0_giveOrigin : Cond.selects RX0 yX0_giveOrigin yX0_giveOrigin ∈ wsG := zw_sel (by decide +kernel) rfl
theorem mc_X0_giveOrigin : Cond.code yX0_giveOrigin cX0_giveOrigin 4 none ∈ wsG := zw_in (i := 200) (by decide +kernel) rfl
theorem ml_X0_156 : Cond.methodLink RX0 156 yX0_makeClean ∈ wsG := zw_in (i := 201) (by decide +kernel) rfl
theorem mm_X0_makeClean : Cond.instanceMethod yX0_makeClean ∈ wsG := zw_in (i := 203) (by decide +kernel) rfl
theorem ms_X0_makeClean : Cond.selects RX0 yX0_makeClean yX0_makeClean ∈ wsG := zw_sel (by decide +kernel) rfl
theorem mc_X0_makeClean : Cond.code yX0_makeClean cX0_makeClean 2 none ∈ wsG := zw_in (i := 204) (by decide +kernel) rfl
theorem mf_X0_137 : Cond.fieldLink RX0 137 "WriteBackTier" "originWrites" "I" ∈ wsG := zw_in (i := 33) (by decide +kernel) rfl
theorem ml_X0_150 : Cond.methodLink RX0 150 yX0_cleanForm ∈ wsG := zw_in (i := 205) (by decide +kernel) rfl
theorem mt_X0_cleanForm : Cond.static yX0_cleanForm ∈ wsG := zw_in (i := 206) (by decide +kernel) rfl
theorem mc_X0_cleanForm : Cond.code yX0_cleanForm cX0_cleanForm 1 (some .int) ∈ wsG := zw_in (i := 207) (by decide +kernel) rfl
theorem ml_L_15 : Cond.methodLink RL 15 yX0_write ∈ wsG := zw_in (i := 219) (by decide +kernel) rfl
theorem mm_X0_write : Cond.instanceMethod yX0_write ∈ wsG := zw_in (i := 220) (by decide +kernel) rfl
theorem ms_X0_write : Cond.selects RX0 yX0_write yX0_write ∈ wsG := zw_in (i := 221) (by decide +kernel) rfl
theorem mc_X0_write : Cond.code yX0_write cX0_write 4 none ∈ wsG := zw_in (i := 222) (by decide +kernel) rfl
theorem ml_X0_64 : Cond.methodLink RX0 64 yX0_writeThrough ∈ wsG := zw_in (i := 223) (by decide +kernel) rfl
theorem mm_X0_writeThrough : Cond.instanceMethod yX0_writeThrough ∈ wsG := zw_in (i := 225) (by decide +kernel) rfl
theorem ms_X0_writeThrough : Cond.selects RX0 yX0_writeThrough yX0_writeThrough ∈ wsG := zw_sel (by decide +kernel) rfl
theorem mc_X0_writeThrough : Cond.code yX0_writeThrough cX0_writeThrough 5 none ∈ wsG := zw_in (i := 226) (by decide +kernel) rfl
theorem ml_X0_68 : Cond.methodLink RX0 68 yX0_writePast ∈ wsG := zw_in (i := 227) (by decide +kernel) rfl
theorem mm_X0_writePast : Cond.instanceMethod yX0_writePast ∈ wsG := zw_in (i := 229) (by decide +kernel) rfl
theorem ms_X0_writePast : Cond.selects RX0 yX0_writePast yX0_writePast ∈ wsG := zw_sel (by decide +kernel) rfl
theorem mc_X0_writePast : Cond.code yX0_writePast cX0_writePast 5 none ∈ wsG := zw_in (i := 230) (by decide +kernel) rfl
theorem ml_X0_71 : Cond.methodLink RX0 71 yX0_writeInSteps ∈ wsG := zw_in (i := 231) (by decide +kernel) rfl
theorem mm_X0_writeInSteps : Cond.instanceMethod yX0_writeInSteps ∈ wsG := zw_in (i := 233) (by decide +kernel) rfl
theorem ms_X0_writeInSteps : Cond.selects RX0 yX0_writeInSteps yX0_writeInSteps ∈ wsG := zw_sel (by decide +kernel) rfl
theorem mc_X0_writeInSteps : Cond.code yX0_writeInSteps cX0_writeInSteps 7 (some .int) ∈ wsG := zw_in (i := 234) (by decide +kernel) rfl
theorem ml_X0_162 : Cond.methodLink RX0 162 yX0_fillInSteps ∈ wsG := zw_in (i := 235) (by decide +kernel) rfl
theorem mm_X0_fillInSteps : Cond.instanceMethod yX0_fillInSteps ∈ wsG := zw_in (i := 237) (by decide +kernel) rfl
theorem ms_X0_fillInSteps : Cond.selects RX0 yX0_fillInSteps yX0_fillInSteps ∈ wsG := zw_sel (by decide +kernel) rfl
theorem mc_X0_fillInSteps : Cond.code yX0_fillInSteps cX0_fillInSteps 6 (some .int) ∈ wsG := zw_in (i := 238) (by decide +kernel) rfl
theorem ml_X0_166 : Cond.methodLink RX0 166 yX0_dirtyForm ∈ wsG := zw_in (i := 239) (by decide +kernel) rfl
theorem mt_X0_dirtyForm : Cond.static yX0_dirtyForm ∈ wsG := zw_in (i := 240) (by decide +kernel) rfl
theorem mc_X0_dirtyForm : Cond.code yX0_dirtyForm cX0_dirtyForm 1 (some .int) ∈ wsG := zw_in (i := 241) (by decide +kernel) rfl
theorem ml_X0_169 : Cond.methodLink RX0 169 yX0_overwriteDirty ∈ wsG := zw_in (i := 242) (by decide +kernel) rfl
theorem mm_X0_overwriteDirty : Cond.instanceMethod yX0_overwriteDirty ∈ wsG := zw_in (i := 244) (by decide +kernel) rfl
theorem ms_X0_overwriteDirty : Cond.selects RX0 yX0_overwriteDirty yX0_overwriteDirty ∈ wsG := zw_sel (by decide +kernel) rfl
theorem mc_X0_overwriteDirty : Cond.code yX0_overwriteDirty cX0_overwriteDirty 6 (some .int) ∈ wsG := zw_in (i := 245) (by decide +kernel) rfl
theorem ml_X0_172 : Cond.methodLink RX0 172 yX0_overwriteClean ∈ wsG := zw_in (i := 246) (by decide +kernel) rfl
theorem mm_X0_overwriteClean : Cond.instanceMethod yX0_overwriteClean ∈ wsG := zw_in (i := 248) (by decide +kernel) rfl
theorem ms_X0_overwriteClean : Cond.selects RX0 yX0_overwriteClean yX0_overwriteClean ∈ wsG := zw_sel (by decide +kernel) rfl
theorem mc_X0_overwriteClean : Cond.code yX0_overwriteClean cX0_overwriteClean 6 (some .int) ∈ wsG := zw_in (i := 249) (by decide +kernel) rfl
theorem ml_L_19 : Cond.methodLink RL 19 yX0_cut ∈ wsG := zw_in (i := 254) (by decide +kernel) rfl
theorem mm_X0_cut : Cond.instanceMethod yX0_cut ∈ wsG := zw_in (i := 255) (by decide +kernel) rfl
theorem ms_X0_cut : Cond.selects RX0 yX0_cut yX0_cut ∈ wsG := zw_in (i := 256) (by decide +kernel) rfl
theorem mc_X0_cut : Cond.code yX0_cut cX0_cut 6 (some .int) ∈ wsG := zw_in (i := 257) (by decide +kernel) rfl
theorem ml_L_25 : Cond.methodLink RL 25 yX0_mode ∈ wsG := zw_in (i := 278) (by decide +kernel) rfl
theorem mm_X0_mode : Cond.instanceMethod yX0_mode ∈ wsG := zw_in (i := 279) (by decide +kernel) rfl
theorem ms_X0_mode : Cond.selects RX0 yX0_mode yX0_mode ∈ wsG := zw_in (i := 280) (by decide +kernel) rfl
theorem mc_X0_mode : Cond.code yX0_mode cX0_mode 2 (some .int) ∈ wsG := zw_in (i := 281) (by decide +kernel) rfl
theorem ml_X0_92 : Cond.methodLink RX0 92 yX0_writeAllBack ∈ wsG := zw_in (i := 283) (by decide +kernel) rfl
theorem mm_X0_writeAllBack : Cond.instanceMethod yX0_writeAllBack ∈ wsG := zw_in (i := 285) (by decide +kernel) rfl
theorem ms_X0_writeAllBack : Cond.selects RX0 yX0_writeAllBack yX0_writeAllBack ∈ wsG := zw_sel (by decide +kernel) rfl
theorem mc_X0_writeAllBack : Cond.code yX0_writeAllBack cX0_writeAllBack 3 (some .int) ∈ wsG := zw_in (i := 286) (by decide +kernel) rfl
theorem ml_L_29 : Cond.methodLink RL 29 yX0_back ∈ wsG := zw_in (i := 290) (by decide +kernel) rfl
theorem mm_X0_back : Cond.instanceMethod yX0_back ∈ wsG := zw_in (i := 291) (by decide +kernel) rfl
theorem ms_X0_back : Cond.selects RX0 yX0_back yX0_back ∈ wsG := zw_in (i := 292) (by decide +kernel) rfl
theorem mc_X0_back : Cond.code yX0_back cX0_back 4 (some .int) ∈ wsG := zw_in (i := 293) (by decide +kernel) rfl
theorem ml_X0_97 : Cond.methodLink RX0 97 yX0_nextForHand ∈ wsG := zw_in (i := 295) (by decide +kernel) rfl
theorem mm_X0_nextForHand : Cond.instanceMethod yX0_nextForHand ∈ wsG := zw_in (i := 297) (by decide +kernel) rfl
theorem ms_X0_nextForHand : Cond.selects RX0 yX0_nextForHand yX0_nextForHand ∈ wsG := zw_sel (by decide +kernel) rfl
theorem mc_X0_nextForHand : Cond.code yX0_nextForHand cX0_nextForHand 2 (some .int) ∈ wsG := zw_in (i := 298) (by decide +kernel) rfl
theorem ml_X0_175 : Cond.methodLink RX0 175 yX0_leastDirtyFrom ∈ wsG := zw_in (i := 299) (by decide +kernel) rfl
theorem mm_X0_leastDirtyFrom : Cond.instanceMethod yX0_leastDirtyFrom ∈ wsG := zw_in (i := 301) (by decide +kernel) rfl
theorem ms_X0_leastDirtyFrom : Cond.selects RX0 yX0_leastDirtyFrom yX0_leastDirtyFrom ∈ wsG := zw_sel (by decide +kernel) rfl
theorem mc_X0_leastDirtyFrom : Cond.code yX0_leastDirtyFrom cX0_leastDirtyFrom 6 (some .int) ∈ wsG := zw_in (i := 302) (by decide +kernel) rfl
theorem ml_L_32 : Cond.methodLink RL 32 yX0_slot ∈ wsG := zw_in (i := 306) (by decide +kernel) rfl
theorem mm_X0_slot : Cond.instanceMethod yX0_slot ∈ wsG := zw_in (i := 307) (by decide +kernel) rfl
theorem ms_X0_slot : Cond.selects RX0 yX0_slot yX0_slot ∈ wsG := zw_in (i := 308) (by decide +kernel) rfl
theorem mc_X0_slot : Cond.code yX0_slot cX0_slot 2 (some .int) ∈ wsG := zw_in (i := 309) (by decide +kernel) rfl
theorem ml_L_35 : Cond.methodLink RL 35 yX0_dirty ∈ wsG := zw_in (i := 314) (by decide +kernel) rfl
theorem mm_X0_dirty : Cond.instanceMethod yX0_dirty ∈ wsG := zw_in (i := 315) (by decide +kernel) rfl
theorem ms_X0_dirty : Cond.selects RX0 yX0_dirty yX0_dirty ∈ wsG := zw_in (i := 316) (by decide +kernel) rfl
theorem mc_X0_dirty : Cond.code yX0_dirty cX0_dirty 3 (some .boolean) ∈ wsG := zw_in (i := 317) (by decide +kernel) rfl
theorem ml_L_41 : Cond.methodLink RL 41 yX0_origin ∈ wsG := zw_in (i := 337) (by decide +kernel) rfl
theorem mm_X0_origin : Cond.instanceMethod yX0_origin ∈ wsG := zw_in (i := 338) (by decide +kernel) rfl
theorem ms_X0_origin : Cond.selects RX0 yX0_origin yX0_origin ∈ wsG := zw_in (i := 339) (by decide +kernel) rfl
theorem mc_X0_origin : Cond.code yX0_origin cX0_origin 2 (some .long) ∈ wsG := zw_in (i := 340) (by decide +kernel) rfl
theorem ml_L_44 : Cond.methodLink RL 44 yX0_order ∈ wsG := zw_in (i := 345) (by decide +kernel) rfl
theorem mm_X0_order : Cond.instanceMethod yX0_order ∈ wsG := zw_in (i := 346) (by decide +kernel) rfl
theorem ms_X0_order : Cond.selects RX0 yX0_order yX0_order ∈ wsG := zw_in (i := 347) (by decide +kernel) rfl
theorem mc_X0_order : Cond.code yX0_order cX0_order 3 (some .int) ∈ wsG := zw_in (i := 348) (by decide +kernel) rfl
theorem ml_X0_127 : Cond.methodLink RX0 127 yX0_countUsedAfter ∈ wsG := zw_in (i := 349) (by decide +kernel) rfl
theorem mm_X0_countUsedAfter : Cond.instanceMethod yX0_countUsedAfter ∈ wsG := zw_in (i := 351) (by decide +kernel) rfl
theorem ms_X0_countUsedAfter : Cond.selects RX0 yX0_countUsedAfter yX0_countUsedAfter ∈ wsG := zw_sel (by decide +kernel) rfl
theorem mc_X0_countUsedAfter : Cond.code yX0_countUsedAfter cX0_countUsedAfter 4 (some .int) ∈ wsG := zw_in (i := 352) (by decide +kernel) rfl
theorem ml_L_49 : Cond.methodLink RL 49 yX0_noted ∈ wsG := zw_in (i := 372) (by decide +kernel) rfl
theorem mm_X0_noted : Cond.instanceMethod yX0_noted ∈ wsG := zw_in (i := 373) (by decide +kernel) rfl
theorem ms_X0_noted : Cond.selects RX0 yX0_noted yX0_noted ∈ wsG := zw_in (i := 374) (by decide +kernel) rfl
theorem mc_X0_noted : Cond.code yX0_noted cX0_noted 2 (some .int) ∈ wsG := zw_in (i := 375) (by decide +kernel) rfl
theorem ml_L_52 : Cond.methodLink RL 52 yX0_figure ∈ wsG := zw_in (i := 380) (by decide +kernel) rfl
theorem mm_X0_figure : Cond.instanceMethod yX0_figure ∈ wsG := zw_in (i := 381) (by decide +kernel) rfl
theorem ms_X0_figure : Cond.selects RX0 yX0_figure yX0_figure ∈ wsG := zw_in (i := 382) (by decide +kernel) rfl
theorem mc_X0_figure : Cond.code yX0_figure cX0_figure 2 (some .int) ∈ wsG := zw_in (i := 383) (by decide +kernel) rfl
theorem mf_X1_7 : Cond.fieldLink RX1 7 "WriteBackTierModel" "origin" "[J" ∈ wsG := zw_in (i := 393) (by decide +kernel) rfl
theorem mf_X1_13 : Cond.fieldLink RX1 13 "WriteBackTierModel" "block" "[I" ∈ wsG := zw_in (i := 394) (by decide +kernel) rfl
theorem mf_X1_17 : Cond.fieldLink RX1 17 "WriteBackTierModel" "value" "[J" ∈ wsG := zw_in (i := 395) (by decide +kernel) rfl
theorem mf_X1_20 : Cond.fieldLink RX1 20 "WriteBackTierModel" "dirty" "[Z" ∈ wsG := zw_in (i := 396) (by decide +kernel) rfl
theorem mf_X1_24 : Cond.fieldLink RX1 24 "WriteBackTierModel" "note" "[I" ∈ wsG := zw_in (i := 397) (by decide +kernel) rfl
theorem mf_X1_27 : Cond.fieldLink RX1 27 "WriteBackTierModel" "used" "[J" ∈ wsG := zw_in (i := 398) (by decide +kernel) rfl
theorem mf_X1_30 : Cond.fieldLink RX1 30 "WriteBackTierModel" "slots" "I" ∈ wsG := zw_in (i := 392) (by decide +kernel) rfl
theorem mf_X1_34 : Cond.fieldLink RX1 34 "WriteBackTierModel" "code" "I" ∈ wsG := zw_in (i := 391) (by decide +kernel) rfl
theorem ml_X1_72 : Cond.methodLink RX1 72 yX1_isBlock ∈ wsG := zw_in (i := 446) (by decide +kernel) rfl
theorem mt_X1_isBlock : Cond.static yX1_isBlock ∈ wsG := zw_in (i := 447) (by decide +kernel) rfl
theorem mi_X1 : Cond.initialized RX1 ∈ wsG := zw_in (i := 3) (by decide +kernel) rfl
theorem mc_X1_isBlock : Cond.code yX1_isBlock cX1_isBlock 1 (some .boolean) ∈ wsG := zw_in (i := 448) (by decide +kernel) rfl
theorem ml_X1_75 : Cond.methodLink RX1 75 yX1_find ∈ wsG := zw_in (i := 449) (by decide +kernel) rfl
theorem mm_X1_find : Cond.instanceMethod yX1_find ∈ wsG := zw_in (i := 451) (by decide +kernel) rfl
theorem ms_X1_find : Cond.selects RX1 yX1_find yX1_find ∈ wsG := zw_sel (by decide +kernel) rfl
theorem mc_X1_find : Cond.code yX1_find cX1_find 4 (some .int) ∈ wsG := zw_in (i := 452) (by decide +kernel) rfl
theorem ml_X1_81 : Cond.methodLink RX1 81 yX1_use ∈ wsG := zw_in (i := 453) (by decide +kernel) rfl
theorem mm_X1_use : Cond.instanceMethod yX1_use ∈ wsG := zw_in (i := 455) (by decide +kernel) rfl
theorem ms_X1_use : Cond.selects RX1 yX1_use yX1_use ∈ wsG := zw_sel (by decide +kernel) rfl
theorem mc_X1_use : Cond.code yX1_use cX1_use 2 none ∈ wsG := zw_in (i := 456) (by decide +kernel) rfl
theorem ml_X1_90 : Cond.methodLink RX1 90 yX1_room ∈ wsG := zw_in (i := 457) (by decide +kernel) rfl
theorem mm_X1_room : Cond.instanceMethod yX1_room ∈ wsG := zw_in (i := 459) (by decide +kernel) rfl
theorem ms_X1_room : Cond.selects RX1 yX1_room yX1_room ∈ wsG := zw_sel (by decide +kernel) rfl
theorem mc_X1_room : Cond.code yX1_room cX1_room 3 (some .int) ∈ wsG := zw_in (i := 460) (by decide +kernel) rfl
theorem mf_X1_78 : Cond.fieldLink RX1 78 "WriteBackTierModel" "hits" "I" ∈ wsG := zw_in (i := 402) (by decide +kernel) rfl
theorem mf_X1_84 : Cond.fieldLink RX1 84 "WriteBackTierModel" "misses" "I" ∈ wsG := zw_in (i := 403) (by decide +kernel) rfl
theorem mf_X1_87 : Cond.fieldLink RX1 87 "WriteBackTierModel" "mode" "I" ∈ wsG := zw_in (i := 400) (by decide +kernel) rfl
theorem mf_X1_44 : Cond.fieldLink RX1 44 "WriteBackTierModel" "clock" "J" ∈ wsG := zw_in (i := 399) (by decide +kernel) rfl
theorem ml_X1_66 : Cond.methodLink RX1 66 yX1_writeBack ∈ wsG := zw_in (i := 461) (by decide +kernel) rfl
theorem mm_X1_writeBack : Cond.instanceMethod yX1_writeBack ∈ wsG := zw_in (i := 463) (by decide +kernel) rfl
theorem ms_X1_writeBack : Cond.selects RX1 yX1_writeBack yX1_writeBack ∈ wsG := zw_sel (by decide +kernel) rfl
theorem mc_X1_writeBack : Cond.code yX1_writeBack cX1_writeBack 2 none ∈ wsG := zw_in (i := 464) (by decide +kernel) rfl
theorem ml_X1_69 : Cond.methodLink RX1 69 yX1_empty ∈ wsG := zw_in (i := 485) (by decide +kernel) rfl
theorem mm_X1_empty : Cond.instanceMethod yX1_empty ∈ wsG := zw_in (i := 487) (by decide +kernel) rfl
theorem ms_X1_empty : Cond.selects RX1 yX1_empty yX1_empty ∈ wsG := zw_sel (by decide +kernel) rfl
theorem mc_X1_empty : Cond.code yX1_empty cX1_empty 2 none ∈ wsG := zw_in (i := 488) (by decide +kernel) rfl
theorem ml_X1_59 : Cond.methodLink RX1 59 yX1_give ∈ wsG := zw_in (i := 465) (by decide +kernel) rfl
theorem mm_X1_give : Cond.instanceMethod yX1_give ∈ wsG := zw_in (i := 467) (by decide +kernel) rfl
theorem ms_X1_give : Cond.selects RX1 yX1_give yX1_give ∈ wsG := zw_sel (by decide +kernel) rfl
theorem mc_X1_give : Cond.code yX1_give cX1_give 4 none ∈ wsG := zw_in (i := 468) (by decide +kernel) rfl
theorem ml_X1_63 : Cond.methodLink RX1 63 yX1_clean ∈ wsG := zw_in (i := 469) (by decide +kernel) rfl
theorem mm_X1_clean : Cond.instanceMethod yX1_clean ∈ wsG := zw_in (i := 471) (by decide +kernel) rfl
theorem ms_X1_clean : Cond.selects RX1 yX1_clean yX1_clean ∈ wsG := zw_sel (by decide +kernel) rfl
theorem mc_X1_clean : Cond.code yX1_clean cX1_clean 3 none ∈ wsG := zw_in (i := 472) (by decide +kernel) rfl
theorem mf_X1_48 : Cond.fieldLink RX1 48 "WriteBackTierModel" "gets" "I" ∈ wsG := zw_in (i := 404) (by decide +kernel) rfl
theorem ml_X1_51 : Cond.methodLink RX1 51 yX1_isNotedDirty ∈ wsG := zw_in (i := 473) (by decide +kernel) rfl
theorem mm_X1_isNotedDirty : Cond.instanceMethod yX1_isNotedDirty ∈ wsG := zw_in (i := 475) (by decide +kernel) rfl
theorem ms_X1_isNotedDirty : Cond.selects RX1 yX1_isNotedDirty yX1_isNotedDirty ∈ wsG := zw_sel (by decide +kernel) rfl
theorem mc_X1_isNotedDirty : Cond.code yX1_isNotedDirty cX1_isNotedDirty 2 (some .boolean) ∈ wsG := zw_in (i := 476) (by decide +kernel) rfl
theorem ml_X1_55 : Cond.methodLink RX1 55 yX1_noteSlot ∈ wsG := zw_in (i := 477) (by decide +kernel) rfl
theorem mm_X1_noteSlot : Cond.instanceMethod yX1_noteSlot ∈ wsG := zw_in (i := 479) (by decide +kernel) rfl
theorem ms_X1_noteSlot : Cond.selects RX1 yX1_noteSlot yX1_noteSlot ∈ wsG := zw_sel (by decide +kernel) rfl
theorem mc_X1_noteSlot : Cond.code yX1_noteSlot cX1_noteSlot 2 none ∈ wsG := zw_in (i := 480) (by decide +kernel) rfl
theorem ml_X1_37 : Cond.methodLink RX1 37 yX1_soOf ∈ wsG := zw_in (i := 481) (by decide +kernel) rfl
theorem mm_X1_soOf : Cond.instanceMethod yX1_soOf ∈ wsG := zw_in (i := 483) (by decide +kernel) rfl
theorem ms_X1_soOf : Cond.selects RX1 yX1_soOf yX1_soOf ∈ wsG := zw_sel (by decide +kernel) rfl
theorem mc_X1_soOf : Cond.code yX1_soOf cX1_soOf 2 (some .int) ∈ wsG := zw_in (i := 484) (by decide +kernel) rfl
theorem mf_X1_41 : Cond.fieldLink RX1 41 "WriteBackTierModel" "notes" "I" ∈ wsG := zw_in (i := 405) (by decide +kernel) rfl
theorem ml_X1_94 : Cond.methodLink RX1 94 yX1_steps ∈ wsG := zw_in (i := 493) (by decide +kernel) rfl
theorem mm_X1_steps : Cond.instanceMethod yX1_steps ∈ wsG := zw_in (i := 495) (by decide +kernel) rfl
theorem ms_X1_steps : Cond.selects RX1 yX1_steps yX1_steps ∈ wsG := zw_sel (by decide +kernel) rfl
theorem mc_X1_steps : Cond.code yX1_steps cX1_steps 8 (some .int) ∈ wsG := zw_in (i := 496) (by decide +kernel) rfl
theorem ml_X1_101 : Cond.methodLink RX1 101 yX1_stop ∈ wsG := zw_in (i := 501) (by decide +kernel) rfl
theorem mm_X1_stop : Cond.instanceMethod yX1_stop ∈ wsG := zw_in (i := 503) (by decide +kernel) rfl
theorem ms_X1_stop : Cond.selects RX1 yX1_stop yX1_stop ∈ wsG := zw_sel (by decide +kernel) rfl
theorem mc_X1_stop : Cond.code yX1_stop cX1_stop 2 none ∈ wsG := zw_in (i := 504) (by decide +kernel) rfl
theorem mf_X1_98 : Cond.fieldLink RX1 98 "WriteBackTierModel" "hand" "I" ∈ wsG := zw_in (i := 401) (by decide +kernel) rfl
theorem ml_X1_104 : Cond.methodLink RX1 104 yX1_nextDirty ∈ wsG := zw_in (i := 513) (by decide +kernel) rfl
theorem mm_X1_nextDirty : Cond.instanceMethod yX1_nextDirty ∈ wsG := zw_in (i := 515) (by decide +kernel) rfl
theorem ms_X1_nextDirty : Cond.selects RX1 yX1_nextDirty yX1_nextDirty ∈ wsG := zw_sel (by decide +kernel) rfl
theorem mc_X1_nextDirty : Cond.code yX1_nextDirty cX1_nextDirty 5 (some .int) ∈ wsG := zw_in (i := 516) (by decide +kernel) rfl
theorem ml_X1_107 : Cond.methodLink RX1 107 yX1_full ∈ wsG := zw_in (i := 525) (by decide +kernel) rfl
theorem mm_X1_full : Cond.instanceMethod yX1_full ∈ wsG := zw_in (i := 527) (by decide +kernel) rfl
theorem ms_X1_full : Cond.selects RX1 yX1_full yX1_full ∈ wsG := zw_sel (by decide +kernel) rfl
theorem mc_X1_full : Cond.code yX1_full cX1_full 3 (some .int) ∈ wsG := zw_in (i := 528) (by decide +kernel) rfl
theorem ml_X1_110 : Cond.methodLink RX1 110 yX1_dirties ∈ wsG := zw_in (i := 533) (by decide +kernel) rfl
theorem mm_X1_dirties : Cond.instanceMethod yX1_dirties ∈ wsG := zw_in (i := 535) (by decide +kernel) rfl
theorem ms_X1_dirties : Cond.selects RX1 yX1_dirties yX1_dirties ∈ wsG := zw_sel (by decide +kernel) rfl
theorem mc_X1_dirties : Cond.code yX1_dirties cX1_dirties 3 (some .int) ∈ wsG := zw_in (i := 536) (by decide +kernel) rfl
theorem ml_L_55 : Cond.methodLink RL 55 yL_cell ∈ wsG := zw_in (i := 95) (by decide +kernel) rfl
theorem mt_L_cell : Cond.static yL_cell ∈ wsG := zw_in (i := 96) (by decide +kernel) rfl
theorem mi_L : Cond.initialized RL ∈ wsG := zw_in (i := 0) (by decide +kernel) rfl
theorem mc_L_cell : Cond.code yL_cell cL_cell 2 (some .int) ∈ wsG := zw_in (i := 97) (by decide +kernel) rfl
theorem mc_X0_init : Cond.code yX0_init cX0_init 2 none ∈ wsG := zw_in (i := 15) (by decide +kernel) rfl
theorem ml_L_61 : Cond.methodLink RL 61 yX0_init ∈ wsG := zw_in (i := 13) (by decide +kernel) rfl
theorem mm_X0_init : Cond.instanceMethod yX0_init ∈ wsG := zw_in (i := 14) (by decide +kernel) rfl
theorem mc_X1_init : Cond.code yX1_init cX1_init 3 none ∈ wsG := zw_in (i := 389) (by decide +kernel) rfl
theorem ml_L_66 : Cond.methodLink RL 66 yX1_init ∈ wsG := zw_in (i := 387) (by decide +kernel) rfl
theorem mm_X1_init : Cond.instanceMethod yX1_init ∈ wsG := zw_in (i := 388) (by decide +kernel) rfl
theorem ml_L_67 : Cond.methodLink RL 67 yL_read ∈ wsG := zw_in (i := 98) (by decide +kernel) rfl
theorem mt_L_read : Cond.static yL_read ∈ wsG := zw_in (i := 99) (by decide +kernel) rfl
theorem mc_L_read : Cond.codeWith yL_read cL_read 4 (some .int) [(0, 8, 11, 13)] ∈ wsG := zw_in (i := 100) (by decide +kernel) rfl
theorem ml_L_70 : Cond.methodLink RL 70 yX1_read ∈ wsG := zw_in (i := 442) (by decide +kernel) rfl
theorem mm_X1_read : Cond.instanceMethod yX1_read ∈ wsG := zw_in (i := 443) (by decide +kernel) rfl
theorem ms_X1_read : Cond.selects RX1 yX1_read yX1_read ∈ wsG := zw_in (i := 444) (by decide +kernel) rfl
theorem mc_X1_read : Cond.code yX1_read cX1_read 3 (some .long) ∈ wsG := zw_in (i := 445) (by decide +kernel) rfl
theorem ml_L_71 : Cond.methodLink RL 71 yX1_thrown ∈ wsG := zw_in (i := 438) (by decide +kernel) rfl
theorem mm_X1_thrown : Cond.instanceMethod yX1_thrown ∈ wsG := zw_in (i := 439) (by decide +kernel) rfl
theorem ms_X1_thrown : Cond.selects RX1 yX1_thrown yX1_thrown ∈ wsG := zw_in (i := 440) (by decide +kernel) rfl
theorem mc_X1_thrown : Cond.code yX1_thrown cX1_thrown 1 (some .int) ∈ wsG := zw_in (i := 441) (by decide +kernel) rfl
theorem ml_L_77 : Cond.methodLink RL 77 yL_write ∈ wsG := zw_in (i := 216) (by decide +kernel) rfl
theorem mt_L_write : Cond.static yL_write ∈ wsG := zw_in (i := 217) (by decide +kernel) rfl
theorem mc_L_write : Cond.codeWith yL_write cL_write 5 (some .int) [(0, 6, 9, 13)] ∈ wsG := zw_in (i := 218) (by decide +kernel) rfl
theorem ml_L_80 : Cond.methodLink RL 80 yX1_write ∈ wsG := zw_in (i := 489) (by decide +kernel) rfl
theorem mm_X1_write : Cond.instanceMethod yX1_write ∈ wsG := zw_in (i := 490) (by decide +kernel) rfl
theorem ms_X1_write : Cond.selects RX1 yX1_write yX1_write ∈ wsG := zw_in (i := 491) (by decide +kernel) rfl
theorem mc_X1_write : Cond.code yX1_write cX1_write 5 none ∈ wsG := zw_in (i := 492) (by decide +kernel) rfl
theorem ml_L_81 : Cond.methodLink RL 81 yL_cut ∈ wsG := zw_in (i := 250) (by decide +kernel) rfl
theorem mt_L_cut : Cond.static yL_cut ∈ wsG := zw_in (i := 251) (by decide +kernel) rfl
theorem mc_L_cut : Cond.codeWith yL_cut cL_cut 7 (some .int) [(0, 13, 16, 13), (0, 13, 20, 23)] ∈ wsG := zw_in (i := 252) (by decide +kernel) rfl
theorem ml_L_84 : Cond.methodLink RL 84 yX1_cut ∈ wsG := zw_in (i := 497) (by decide +kernel) rfl
theorem mm_X1_cut : Cond.instanceMethod yX1_cut ∈ wsG := zw_in (i := 498) (by decide +kernel) rfl
theorem ms_X1_cut : Cond.selects RX1 yX1_cut yX1_cut ∈ wsG := zw_in (i := 499) (by decide +kernel) rfl
theorem mc_X1_cut : Cond.code yX1_cut cX1_cut 6 (some .int) ∈ wsG := zw_in (i := 500) (by decide +kernel) rfl
theorem ml_L_85 : Cond.methodLink RL 85 yL_mode ∈ wsG := zw_in (i := 275) (by decide +kernel) rfl
theorem mt_L_mode : Cond.static yL_mode ∈ wsG := zw_in (i := 276) (by decide +kernel) rfl
theorem mc_L_mode : Cond.codeWith yL_mode cL_mode 4 (some .int) [(0, 9, 12, 13)] ∈ wsG := zw_in (i := 277) (by decide +kernel) rfl
theorem ml_L_87 : Cond.methodLink RL 87 yX1_mode ∈ wsG := zw_in (i := 505) (by decide +kernel) rfl
theorem mm_X1_mode : Cond.instanceMethod yX1_mode ∈ wsG := zw_in (i := 506) (by decide +kernel) rfl
theorem ms_X1_mode : Cond.selects RX1 yX1_mode yX1_mode ∈ wsG := zw_in (i := 507) (by decide +kernel) rfl
theorem mc_X1_mode : Cond.code yX1_mode cX1_mode 4 (some .int) ∈ wsG := zw_in (i := 508) (by decide +kernel) rfl
theorem ml_L_88 : Cond.methodLink RL 88 yL_back ∈ wsG := zw_in (i := 287) (by decide +kernel) rfl
theorem mt_L_back : Cond.static yL_back ∈ wsG := zw_in (i := 288) (by decide +kernel) rfl
theorem mc_L_back : Cond.codeWith yL_back cL_back 4 (some .int) [(0, 9, 12, 13)] ∈ wsG := zw_in (i := 289) (by decide +kernel) rfl
theorem ml_L_90 : Cond.methodLink RL 90 yX1_back ∈ wsG := zw_in (i := 509) (by decide +kernel) rfl
theorem mm_X1_back : Cond.instanceMethod yX1_back ∈ wsG := zw_in (i := 510) (by decide +kernel) rfl
theorem ms_X1_back : Cond.selects RX1 yX1_back yX1_back ∈ wsG := zw_in (i := 511) (by decide +kernel) rfl
theorem mc_X1_back : Cond.code yX1_back cX1_back 5 (some .int) ∈ wsG := zw_in (i := 512) (by decide +kernel) rfl
theorem ml_L_91 : Cond.methodLink RL 91 yX0_check ∈ wsG := zw_in (i := 64) (by decide +kernel) rfl
theorem mm_X0_check : Cond.instanceMethod yX0_check ∈ wsG := zw_in (i := 65) (by decide +kernel) rfl
theorem ms_X0_check : Cond.selects RX0 yX0_check yX0_check ∈ wsG := zw_in (i := 66) (by decide +kernel) rfl
theorem mc_X0_check : Cond.code yX0_check cX0_check 3 (some .int) ∈ wsG := zw_in (i := 67) (by decide +kernel) rfl
theorem ml_L_94 : Cond.methodLink RL 94 yX1_check ∈ wsG := zw_in (i := 517) (by decide +kernel) rfl
theorem mm_X1_check : Cond.instanceMethod yX1_check ∈ wsG := zw_in (i := 518) (by decide +kernel) rfl
theorem ms_X1_check : Cond.selects RX1 yX1_check yX1_check ∈ wsG := zw_in (i := 519) (by decide +kernel) rfl
theorem mc_X1_check : Cond.code yX1_check cX1_check 3 (some .int) ∈ wsG := zw_in (i := 520) (by decide +kernel) rfl
theorem ml_L_95 : Cond.methodLink RL 95 yX0_crash ∈ wsG := zw_in (i := 72) (by decide +kernel) rfl
theorem mm_X0_crash : Cond.instanceMethod yX0_crash ∈ wsG := zw_in (i := 73) (by decide +kernel) rfl
theorem ms_X0_crash : Cond.selects RX0 yX0_crash yX0_crash ∈ wsG := zw_in (i := 74) (by decide +kernel) rfl
theorem mc_X0_crash : Cond.code yX0_crash cX0_crash 1 (some .int) ∈ wsG := zw_in (i := 75) (by decide +kernel) rfl
theorem ml_L_98 : Cond.methodLink RL 98 yX1_crash ∈ wsG := zw_in (i := 521) (by decide +kernel) rfl
theorem mm_X1_crash : Cond.instanceMethod yX1_crash ∈ wsG := zw_in (i := 522) (by decide +kernel) rfl
theorem ms_X1_crash : Cond.selects RX1 yX1_crash yX1_crash ∈ wsG := zw_in (i := 523) (by decide +kernel) rfl
theorem mc_X1_crash : Cond.code yX1_crash cX1_crash 1 (some .int) ∈ wsG := zw_in (i := 524) (by decide +kernel) rfl
theorem ml_L_99 : Cond.methodLink RL 99 yX0_lose ∈ wsG := zw_in (i := 84) (by decide +kernel) rfl
theorem mm_X0_lose : Cond.instanceMethod yX0_lose ∈ wsG := zw_in (i := 85) (by decide +kernel) rfl
theorem ms_X0_lose : Cond.selects RX0 yX0_lose yX0_lose ∈ wsG := zw_in (i := 86) (by decide +kernel) rfl
theorem mc_X0_lose : Cond.code yX0_lose cX0_lose 2 (some .int) ∈ wsG := zw_in (i := 87) (by decide +kernel) rfl
theorem ml_L_102 : Cond.methodLink RL 102 yX1_lose ∈ wsG := zw_in (i := 529) (by decide +kernel) rfl
theorem mm_X1_lose : Cond.instanceMethod yX1_lose ∈ wsG := zw_in (i := 530) (by decide +kernel) rfl
theorem ms_X1_lose : Cond.selects RX1 yX1_lose yX1_lose ∈ wsG := zw_in (i := 531) (by decide +kernel) rfl
theorem mc_X1_lose : Cond.code yX1_lose cX1_lose 3 (some .int) ∈ wsG := zw_in (i := 532) (by decide +kernel) rfl
theorem ml_L_103 : Cond.methodLink RL 103 yL_slot ∈ wsG := zw_in (i := 303) (by decide +kernel) rfl
theorem mt_L_slot : Cond.static yL_slot ∈ wsG := zw_in (i := 304) (by decide +kernel) rfl
theorem mc_L_slot : Cond.codeWith yL_slot cL_slot 4 (some .int) [(0, 9, 12, 13)] ∈ wsG := zw_in (i := 305) (by decide +kernel) rfl
theorem ml_L_105 : Cond.methodLink RL 105 yX1_slot ∈ wsG := zw_in (i := 537) (by decide +kernel) rfl
theorem mm_X1_slot : Cond.instanceMethod yX1_slot ∈ wsG := zw_in (i := 538) (by decide +kernel) rfl
theorem ms_X1_slot : Cond.selects RX1 yX1_slot yX1_slot ∈ wsG := zw_in (i := 539) (by decide +kernel) rfl
theorem mc_X1_slot : Cond.code yX1_slot cX1_slot 2 (some .int) ∈ wsG := zw_in (i := 540) (by decide +kernel) rfl
theorem ml_L_106 : Cond.methodLink RL 106 yL_dirty ∈ wsG := zw_in (i := 310) (by decide +kernel) rfl
theorem mt_L_dirty : Cond.static yL_dirty ∈ wsG := zw_in (i := 311) (by decide +kernel) rfl
theorem mc_L_dirty : Cond.codeWith yL_dirty cL_dirty 4 (some .int) [(0, 16, 19, 13), (0, 16, 22, 39)] ∈ wsG := zw_in (i := 312) (by decide +kernel) rfl
theorem ml_L_108 : Cond.methodLink RL 108 yX1_dirty ∈ wsG := zw_in (i := 541) (by decide +kernel) rfl
theorem mm_X1_dirty : Cond.instanceMethod yX1_dirty ∈ wsG := zw_in (i := 542) (by decide +kernel) rfl
theorem ms_X1_dirty : Cond.selects RX1 yX1_dirty yX1_dirty ∈ wsG := zw_in (i := 543) (by decide +kernel) rfl
theorem mc_X1_dirty : Cond.code yX1_dirty cX1_dirty 2 (some .boolean) ∈ wsG := zw_in (i := 544) (by decide +kernel) rfl
theorem ml_L_109 : Cond.methodLink RL 109 yL_origin ∈ wsG := zw_in (i := 334) (by decide +kernel) rfl
theorem mt_L_origin : Cond.static yL_origin ∈ wsG := zw_in (i := 335) (by decide +kernel) rfl
theorem mc_L_origin : Cond.codeWith yL_origin cL_origin 4 (some .int) [(0, 8, 11, 13)] ∈ wsG := zw_in (i := 336) (by decide +kernel) rfl
theorem ml_L_111 : Cond.methodLink RL 111 yX1_origin ∈ wsG := zw_in (i := 545) (by decide +kernel) rfl
theorem mm_X1_origin : Cond.instanceMethod yX1_origin ∈ wsG := zw_in (i := 546) (by decide +kernel) rfl
theorem ms_X1_origin : Cond.selects RX1 yX1_origin yX1_origin ∈ wsG := zw_in (i := 547) (by decide +kernel) rfl
theorem mc_X1_origin : Cond.code yX1_origin cX1_origin 2 (some .long) ∈ wsG := zw_in (i := 548) (by decide +kernel) rfl
theorem ml_L_112 : Cond.methodLink RL 112 yL_order ∈ wsG := zw_in (i := 341) (by decide +kernel) rfl
theorem mt_L_order : Cond.static yL_order ∈ wsG := zw_in (i := 342) (by decide +kernel) rfl
theorem mc_L_order : Cond.codeWith yL_order cL_order 4 (some .int) [(0, 9, 12, 47)] ∈ wsG := zw_in (i := 343) (by decide +kernel) rfl
theorem ml_L_114 : Cond.methodLink RL 114 yX1_order ∈ wsG := zw_in (i := 549) (by decide +kernel) rfl
theorem mm_X1_order : Cond.instanceMethod yX1_order ∈ wsG := zw_in (i := 550) (by decide +kernel) rfl
theorem ms_X1_order : Cond.selects RX1 yX1_order yX1_order ∈ wsG := zw_in (i := 551) (by decide +kernel) rfl
theorem mc_X1_order : Cond.code yX1_order cX1_order 5 (some .int) ∈ wsG := zw_in (i := 552) (by decide +kernel) rfl
theorem ml_L_115 : Cond.methodLink RL 115 yL_noted ∈ wsG := zw_in (i := 369) (by decide +kernel) rfl
theorem mt_L_noted : Cond.static yL_noted ∈ wsG := zw_in (i := 370) (by decide +kernel) rfl
theorem mc_L_noted : Cond.codeWith yL_noted cL_noted 4 (some .int) [(0, 9, 12, 47)] ∈ wsG := zw_in (i := 371) (by decide +kernel) rfl
theorem ml_L_117 : Cond.methodLink RL 117 yX1_noted ∈ wsG := zw_in (i := 553) (by decide +kernel) rfl
theorem mm_X1_noted : Cond.instanceMethod yX1_noted ∈ wsG := zw_in (i := 554) (by decide +kernel) rfl
theorem ms_X1_noted : Cond.selects RX1 yX1_noted yX1_noted ∈ wsG := zw_in (i := 555) (by decide +kernel) rfl
theorem mc_X1_noted : Cond.code yX1_noted cX1_noted 2 (some .int) ∈ wsG := zw_in (i := 556) (by decide +kernel) rfl
theorem ml_L_118 : Cond.methodLink RL 118 yL_figure ∈ wsG := zw_in (i := 377) (by decide +kernel) rfl
theorem mt_L_figure : Cond.static yL_figure ∈ wsG := zw_in (i := 378) (by decide +kernel) rfl
theorem mc_L_figure : Cond.codeWith yL_figure cL_figure 4 (some .int) [(0, 9, 12, 13)] ∈ wsG := zw_in (i := 379) (by decide +kernel) rfl
theorem ml_L_120 : Cond.methodLink RL 120 yX1_figure ∈ wsG := zw_in (i := 557) (by decide +kernel) rfl
theorem mm_X1_figure : Cond.instanceMethod yX1_figure ∈ wsG := zw_in (i := 558) (by decide +kernel) rfl
theorem ms_X1_figure : Cond.selects RX1 yX1_figure yX1_figure ∈ wsG := zw_in (i := 559) (by decide +kernel) rfl
theorem mc_X1_figure : Cond.code yX1_figure cX1_figure 2 (some .int) ∈ wsG := zw_in (i := 560) (by decide +kernel) rfl
theorem mn_X0 : Cond.instantiable RX0 13 ∈ wsG := zw_in (i := 12) (by decide +kernel) rfl
theorem mn_X1 : Cond.instantiable RX1 15 ∈ wsG := zw_in (i := 386) (by decide +kernel) rfl
theorem mk_LX0 : Cond.classLink RL 8 RX0 ∈ wsG := zw_in (i := 11) (by decide +kernel) rfl
theorem mk_LX1 : Cond.classLink RL 64 RX1 ∈ wsG := zw_in (i := 385) (by decide +kernel) rfl
theorem mcl_75 : Cond.constantLong RL 75 4294967295 ∈ wsG := zw_in (i := 561) (by decide +kernel) rfl
theorem ma_long : Cond.arrayClass .long ∈ wsG := zw_in (i := 62) (by decide +kernel) rfl
theorem ma_int : Cond.arrayClass .int ∈ wsG := zw_in (i := 63) (by decide +kernel) rfl
theorem ma_boolean : Cond.arrayClass .boolean ∈ wsG := zw_in (i := 437) (by decide +kernel) rfl
theorem gX0_init_J7_fill : GoodIn wsX0_init (va_wsS RX0 30 yJ7_fill wsJ7_fill) := zw_S ml_X0_30 mt_J7_fill mi_J7 mc_J7_fill
theorem gX0_check_X0_noteSlot : GoodIn wsX0_check (wsV RX0 110 RX0 yX0_noteSlot wsX0_noteSlot) := zw_V ml_X0_110 mm_X0_noteSlot ms_X0_noteSlot mi_X0 mc_X0_noteSlot
theorem gX0_crash_X0_stopMachine : GoodIn wsX0_crash (wsV RX0 87 RX0 yX0_stopMachine wsX0_stopMachine) := zw_V ml_X0_87 mm_X0_stopMachine ms_X0_stopMachine mi_X0 mc_X0_stopMachine
theorem gX0_crash_X0_countFull : GoodIn wsX0_crash (wsV RX0 113 RX0 yX0_countFull wsX0_countFull) := zw_V ml_X0_113 mm_X0_countFull ms_X0_countFull mi_X0 mc_X0_countFull
theorem gX0_lose_X0_countDirty : GoodIn wsX0_lose (wsV RX0 116 RX0 yX0_countDirty wsX0_countDirty) := zw_V ml_X0_116 mm_X0_countDirty ms_X0_countDirty mi_X0 mc_X0_countDirty
theorem gX0_lose_J7_fill : GoodIn wsX0_lose (va_wsS RX0 30 yJ7_fill wsJ7_fill) := zw_S ml_X0_30 mt_J7_fill mi_J7 mc_J7_fill
theorem gX0_lose_X0_stopMachine : GoodIn wsX0_lose (wsV RX0 87 RX0 yX0_stopMachine wsX0_stopMachine) := zw_V ml_X0_87 mm_X0_stopMachine ms_X0_stopMachine mi_X0 mc_X0_stopMachine
theorem gX0_countDirty_X0_isDirty : GoodIn wsX0_countDirty (va_wsS RX0 124 yX0_isDirty wsX0_isDirty) := zw_S ml_X0_124 mt_X0_isDirty mi_X0 mc_X0_isDirty
theorem gL_read_X0_read : GoodIn wsL_read (wsV RL 7 RX0 yX0_read wsX0_read) := zw_V ml_L_7 mm_X0_read ms_X0_read mi_X0 mc_X0_read
theorem gX0_read_X0_requireBlock : GoodIn wsX0_read (va_wsS RX0 36 yX0_requireBlock wsX0_requireBlock) := zw_S ml_X0_36 mt_X0_requireBlock mi_X0 mc_X0_requireBlock
theorem gX0_read_X0_slotWith : GoodIn wsX0_read (wsV RX0 40 RX0 yX0_slotWith wsX0_slotWith) := zw_V ml_X0_40 mm_X0_slotWith ms_X0_slotWith mi_X0 mc_X0_slotWith
theorem gX0_read_X0_useSlot : GoodIn wsX0_read (wsV RX0 47 RX0 yX0_useSlot wsX0_useSlot) := zw_V ml_X0_47 mm_X0_useSlot ms_X0_useSlot mi_X0 mc_X0_useSlot
theorem gX0_read_X0_findRoom : GoodIn wsX0_read (wsV RX0 56 RX0 yX0_findRoom wsX0_findRoom) := zw_V ml_X0_56 mm_X0_findRoom ms_X0_findRoom mi_X0 mc_X0_findRoom
theorem gX0_read_X0_keepClean : GoodIn wsX0_read (wsV RX0 60 RX0 yX0_keepClean wsX0_keepClean) := zw_V ml_X0_60 mm_X0_keepClean ms_X0_keepClean mi_X0 mc_X0_keepClean
theorem gX0_slotWith_X0_blockOf : GoodIn wsX0_slotWith (va_wsS RX0 104 yX0_blockOf wsX0_blockOf) := zw_S ml_X0_104 mt_X0_blockOf mi_X0 mc_X0_blockOf
theorem gX0_findRoom_X0_writeBackIfDirty : GoodIn wsX0_findRoom (wsV RX0 100 RX0 yX0_writeBackIfDirty wsX0_writeBackIfDirty) := zw_V ml_X0_100 mm_X0_writeBackIfDirty ms_X0_writeBackIfDirty mi_X0 mc_X0_writeBackIfDirty
theorem gX0_findRoom_X0_makeEmpty : GoodIn wsX0_findRoom (wsV RX0 159 RX0 yX0_makeEmpty wsX0_makeEmpty) := zw_V ml_X0_159 mm_X0_makeEmpty ms_X0_makeEmpty mi_X0 mc_X0_makeEmpty
theorem gX0_writeBackIfDirty_X0_isDirty : GoodIn wsX0_writeBackIfDirty (va_wsS RX0 124 yX0_isDirty wsX0_isDirty) := zw_S ml_X0_124 mt_X0_isDirty mi_X0 mc_X0_isDirty
theorem gX0_writeBackIfDirty_X0_blockOf : GoodIn wsX0_writeBackIfDirty (va_wsS RX0 104 yX0_blockOf wsX0_blockOf) := zw_S ml_X0_104 mt_X0_blockOf mi_X0 mc_X0_blockOf
theorem gX0_writeBackIfDirty_X0_giveOrigin : GoodIn wsX0_writeBackIfDirty (wsV RX0 153 RX0 yX0_giveOrigin wsX0_giveOrigin) := zw_V ml_X0_153 mm_X0_giveOrigin ms_X0_giveOrigin mi_X0 mc_X0_giveOrigin
theorem gX0_writeBackIfDirty_X0_makeClean : GoodIn wsX0_writeBackIfDirty (wsV RX0 156 RX0 yX0_makeClean wsX0_makeClean) := zw_V ml_X0_156 mm_X0_makeClean ms_X0_makeClean mi_X0 mc_X0_makeClean
theorem gX0_makeClean_X0_blockOf : GoodIn wsX0_makeClean (va_wsS RX0 104 yX0_blockOf wsX0_blockOf) := zw_S ml_X0_104 mt_X0_blockOf mi_X0 mc_X0_blockOf
theorem gX0_makeClean_X0_cleanForm : GoodIn wsX0_makeClean (va_wsS RX0 150 yX0_cleanForm wsX0_cleanForm) := zw_S ml_X0_150 mt_X0_cleanForm mi_X0 mc_X0_cleanForm
theorem gX0_makeClean_X0_isDirty : GoodIn wsX0_makeClean (va_wsS RX0 124 yX0_isDirty wsX0_isDirty) := zw_S ml_X0_124 mt_X0_isDirty mi_X0 mc_X0_isDirty
theorem gX0_makeClean_X0_noteSlot : GoodIn wsX0_makeClean (wsV RX0 110 RX0 yX0_noteSlot wsX0_noteSlot) := zw_V ml_X0_110 mm_X0_noteSlot ms_X0_noteSlot mi_X0 mc_X0_noteSlot
theorem gX0_makeEmpty_X0_noteSlot : GoodIn wsX0_makeEmpty (wsV RX0 110 RX0 yX0_noteSlot wsX0_noteSlot) := zw_V ml_X0_110 mm_X0_noteSlot ms_X0_noteSlot mi_X0 mc_X0_noteSlot
theorem gX0_keepClean_X0_cleanForm : GoodIn wsX0_keepClean (va_wsS RX0 150 yX0_cleanForm wsX0_cleanForm) := zw_S ml_X0_150 mt_X0_cleanForm mi_X0 mc_X0_cleanForm
theorem gX0_keepClean_X0_useSlot : GoodIn wsX0_keepClean (wsV RX0 47 RX0 yX0_useSlot wsX0_useSlot) := zw_V ml_X0_47 mm_X0_useSlot ms_X0_useSlot mi_X0 mc_X0_useSlot
theorem gL_write_X0_write : GoodIn wsL_write (wsV RL 15 RX0 yX0_write wsX0_write) := zw_V ml_L_15 mm_X0_write ms_X0_write mi_X0 mc_X0_write
theorem gX0_write_X0_requireBlock : GoodIn wsX0_write (va_wsS RX0 36 yX0_requireBlock wsX0_requireBlock) := zw_S ml_X0_36 mt_X0_requireBlock mi_X0 mc_X0_requireBlock
theorem gX0_write_X0_writeThrough : GoodIn wsX0_write (wsV RX0 64 RX0 yX0_writeThrough wsX0_writeThrough) := zw_V ml_X0_64 mm_X0_writeThrough ms_X0_writeThrough mi_X0 mc_X0_writeThrough
theorem gX0_write_X0_writePast : GoodIn wsX0_write (wsV RX0 68 RX0 yX0_writePast wsX0_writePast) := zw_V ml_X0_68 mm_X0_writePast ms_X0_writePast mi_X0 mc_X0_writePast
theorem gX0_write_X0_writeInSteps : GoodIn wsX0_write (wsV RX0 71 RX0 yX0_writeInSteps wsX0_writeInSteps) := zw_V ml_X0_71 mm_X0_writeInSteps ms_X0_writeInSteps mi_X0 mc_X0_writeInSteps
theorem gX0_writeThrough_X0_giveOrigin : GoodIn wsX0_writeThrough (wsV RX0 153 RX0 yX0_giveOrigin wsX0_giveOrigin) := zw_V ml_X0_153 mm_X0_giveOrigin ms_X0_giveOrigin mi_X0 mc_X0_giveOrigin
theorem gX0_writeThrough_X0_slotWith : GoodIn wsX0_writeThrough (wsV RX0 40 RX0 yX0_slotWith wsX0_slotWith) := zw_V ml_X0_40 mm_X0_slotWith ms_X0_slotWith mi_X0 mc_X0_slotWith
theorem gX0_writeThrough_X0_makeClean : GoodIn wsX0_writeThrough (wsV RX0 156 RX0 yX0_makeClean wsX0_makeClean) := zw_V ml_X0_156 mm_X0_makeClean ms_X0_makeClean mi_X0 mc_X0_makeClean
theorem gX0_writeThrough_X0_useSlot : GoodIn wsX0_writeThrough (wsV RX0 47 RX0 yX0_useSlot wsX0_useSlot) := zw_V ml_X0_47 mm_X0_useSlot ms_X0_useSlot mi_X0 mc_X0_useSlot
theorem gX0_writePast_X0_giveOrigin : GoodIn wsX0_writePast (wsV RX0 153 RX0 yX0_giveOrigin wsX0_giveOrigin) := zw_V ml_X0_153 mm_X0_giveOrigin ms_X0_giveOrigin mi_X0 mc_X0_giveOrigin
theorem gX0_writePast_X0_slotWith : GoodIn wsX0_writePast (wsV RX0 40 RX0 yX0_slotWith wsX0_slotWith) := zw_V ml_X0_40 mm_X0_slotWith ms_X0_slotWith mi_X0 mc_X0_slotWith
theorem gX0_writePast_X0_makeEmpty : GoodIn wsX0_writePast (wsV RX0 159 RX0 yX0_makeEmpty wsX0_makeEmpty) := zw_V ml_X0_159 mm_X0_makeEmpty ms_X0_makeEmpty mi_X0 mc_X0_makeEmpty
theorem gX0_writeInSteps_X0_slotWith : GoodIn wsX0_writeInSteps (wsV RX0 40 RX0 yX0_slotWith wsX0_slotWith) := zw_V ml_X0_40 mm_X0_slotWith ms_X0_slotWith mi_X0 mc_X0_slotWith
theorem gX0_writeInSteps_X0_findRoom : GoodIn wsX0_writeInSteps (wsV RX0 56 RX0 yX0_findRoom wsX0_findRoom) := zw_V ml_X0_56 mm_X0_findRoom ms_X0_findRoom mi_X0 mc_X0_findRoom
theorem gX0_writeInSteps_X0_fillInSteps : GoodIn wsX0_writeInSteps (wsV RX0 162 RX0 yX0_fillInSteps wsX0_fillInSteps) := zw_V ml_X0_162 mm_X0_fillInSteps ms_X0_fillInSteps mi_X0 mc_X0_fillInSteps
theorem gX0_writeInSteps_X0_dirtyForm : GoodIn wsX0_writeInSteps (va_wsS RX0 166 yX0_dirtyForm wsX0_dirtyForm) := zw_S ml_X0_166 mt_X0_dirtyForm mi_X0 mc_X0_dirtyForm
theorem gX0_writeInSteps_X0_overwriteDirty : GoodIn wsX0_writeInSteps (wsV RX0 169 RX0 yX0_overwriteDirty wsX0_overwriteDirty) := zw_V ml_X0_169 mm_X0_overwriteDirty ms_X0_overwriteDirty mi_X0 mc_X0_overwriteDirty
theorem gX0_writeInSteps_X0_overwriteClean : GoodIn wsX0_writeInSteps (wsV RX0 172 RX0 yX0_overwriteClean wsX0_overwriteClean) := zw_V ml_X0_172 mm_X0_overwriteClean ms_X0_overwriteClean mi_X0 mc_X0_overwriteClean
theorem gX0_writeInSteps_X0_useSlot : GoodIn wsX0_writeInSteps (wsV RX0 47 RX0 yX0_useSlot wsX0_useSlot) := zw_V ml_X0_47 mm_X0_useSlot ms_X0_useSlot mi_X0 mc_X0_useSlot
theorem gX0_fillInSteps_X0_dirtyForm : GoodIn wsX0_fillInSteps (va_wsS RX0 166 yX0_dirtyForm wsX0_dirtyForm) := zw_S ml_X0_166 mt_X0_dirtyForm mi_X0 mc_X0_dirtyForm
theorem gX0_fillInSteps_X0_noteSlot : GoodIn wsX0_fillInSteps (wsV RX0 110 RX0 yX0_noteSlot wsX0_noteSlot) := zw_V ml_X0_110 mm_X0_noteSlot ms_X0_noteSlot mi_X0 mc_X0_noteSlot
theorem gX0_overwriteDirty_X0_dirtyForm : GoodIn wsX0_overwriteDirty (va_wsS RX0 166 yX0_dirtyForm wsX0_dirtyForm) := zw_S ml_X0_166 mt_X0_dirtyForm mi_X0 mc_X0_dirtyForm
theorem gX0_overwriteClean_X0_dirtyForm : GoodIn wsX0_overwriteClean (va_wsS RX0 166 yX0_dirtyForm wsX0_dirtyForm) := zw_S ml_X0_166 mt_X0_dirtyForm mi_X0 mc_X0_dirtyForm
theorem gX0_overwriteClean_X0_noteSlot : GoodIn wsX0_overwriteClean (wsV RX0 110 RX0 yX0_noteSlot wsX0_noteSlot) := zw_V ml_X0_110 mm_X0_noteSlot ms_X0_noteSlot mi_X0 mc_X0_noteSlot
theorem gL_cut_X0_cut : GoodIn wsL_cut (wsV RL 19 RX0 yX0_cut wsX0_cut) := zw_V ml_L_19 mm_X0_cut ms_X0_cut mi_X0 mc_X0_cut
theorem gX0_cut_X0_requireBlock : GoodIn wsX0_cut (va_wsS RX0 36 yX0_requireBlock wsX0_requireBlock) := zw_S ml_X0_36 mt_X0_requireBlock mi_X0 mc_X0_requireBlock
theorem gX0_cut_X0_writeInSteps : GoodIn wsX0_cut (wsV RX0 71 RX0 yX0_writeInSteps wsX0_writeInSteps) := zw_V ml_X0_71 mm_X0_writeInSteps ms_X0_writeInSteps mi_X0 mc_X0_writeInSteps
theorem gX0_cut_X0_stopMachine : GoodIn wsX0_cut (wsV RX0 87 RX0 yX0_stopMachine wsX0_stopMachine) := zw_V ml_X0_87 mm_X0_stopMachine ms_X0_stopMachine mi_X0 mc_X0_stopMachine
theorem gL_mode_X0_mode : GoodIn wsL_mode (wsV RL 25 RX0 yX0_mode wsX0_mode) := zw_V ml_L_25 mm_X0_mode ms_X0_mode mi_X0 mc_X0_mode
theorem gX0_mode_X0_writeAllBack : GoodIn wsX0_mode (wsV RX0 92 RX0 yX0_writeAllBack wsX0_writeAllBack) := zw_V ml_X0_92 mm_X0_writeAllBack ms_X0_writeAllBack mi_X0 mc_X0_writeAllBack
theorem gX0_writeAllBack_X0_writeBackIfDirty : GoodIn wsX0_writeAllBack (wsV RX0 100 RX0 yX0_writeBackIfDirty wsX0_writeBackIfDirty) := zw_V ml_X0_100 mm_X0_writeBackIfDirty ms_X0_writeBackIfDirty mi_X0 mc_X0_writeBackIfDirty
theorem gL_back_X0_back : GoodIn wsL_back (wsV RL 29 RX0 yX0_back wsX0_back) := zw_V ml_L_29 mm_X0_back ms_X0_back mi_X0 mc_X0_back
theorem gX0_back_X0_nextForHand : GoodIn wsX0_back (wsV RX0 97 RX0 yX0_nextForHand wsX0_nextForHand) := zw_V ml_X0_97 mm_X0_nextForHand ms_X0_nextForHand mi_X0 mc_X0_nextForHand
theorem gX0_back_X0_writeBackIfDirty : GoodIn wsX0_back (wsV RX0 100 RX0 yX0_writeBackIfDirty wsX0_writeBackIfDirty) := zw_V ml_X0_100 mm_X0_writeBackIfDirty ms_X0_writeBackIfDirty mi_X0 mc_X0_writeBackIfDirty
theorem gX0_back_X0_blockOf : GoodIn wsX0_back (va_wsS RX0 104 yX0_blockOf wsX0_blockOf) := zw_S ml_X0_104 mt_X0_blockOf mi_X0 mc_X0_blockOf
theorem gX0_nextForHand_X0_leastDirtyFrom : GoodIn wsX0_nextForHand (wsV RX0 175 RX0 yX0_leastDirtyFrom wsX0_leastDirtyFrom) := zw_V ml_X0_175 mm_X0_leastDirtyFrom ms_X0_leastDirtyFrom mi_X0 mc_X0_leastDirtyFrom
theorem gX0_leastDirtyFrom_X0_blockOf : GoodIn wsX0_leastDirtyFrom (va_wsS RX0 104 yX0_blockOf wsX0_blockOf) := zw_S ml_X0_104 mt_X0_blockOf mi_X0 mc_X0_blockOf
theorem gX0_leastDirtyFrom_X0_isDirty : GoodIn wsX0_leastDirtyFrom (va_wsS RX0 124 yX0_isDirty wsX0_isDirty) := zw_S ml_X0_124 mt_X0_isDirty mi_X0 mc_X0_isDirty
theorem gL_slot_X0_slot : GoodIn wsL_slot (wsV RL 32 RX0 yX0_slot wsX0_slot) := zw_V ml_L_32 mm_X0_slot ms_X0_slot mi_X0 mc_X0_slot
theorem gX0_slot_X0_requireBlock : GoodIn wsX0_slot (va_wsS RX0 36 yX0_requireBlock wsX0_requireBlock) := zw_S ml_X0_36 mt_X0_requireBlock mi_X0 mc_X0_requireBlock
theorem gX0_slot_X0_slotWith : GoodIn wsX0_slot (wsV RX0 40 RX0 yX0_slotWith wsX0_slotWith) := zw_V ml_X0_40 mm_X0_slotWith ms_X0_slotWith mi_X0 mc_X0_slotWith
theorem gL_dirty_X0_dirty : GoodIn wsL_dirty (wsV RL 35 RX0 yX0_dirty wsX0_dirty) := zw_V ml_L_35 mm_X0_dirty ms_X0_dirty mi_X0 mc_X0_dirty
theorem gX0_dirty_X0_requireBlock : GoodIn wsX0_dirty (va_wsS RX0 36 yX0_requireBlock wsX0_requireBlock) := zw_S ml_X0_36 mt_X0_requireBlock mi_X0 mc_X0_requireBlock
theorem gX0_dirty_X0_slotWith : GoodIn wsX0_dirty (wsV RX0 40 RX0 yX0_slotWith wsX0_slotWith) := zw_V ml_X0_40 mm_X0_slotWith ms_X0_slotWith mi_X0 mc_X0_slotWith
theorem gX0_dirty_X0_isDirty : GoodIn wsX0_dirty (va_wsS RX0 124 yX0_isDirty wsX0_isDirty) := zw_S ml_X0_124 mt_X0_isDirty mi_X0 mc_X0_isDirty
theorem gL_origin_X0_origin : GoodIn wsL_origin (wsV RL 41 RX0 yX0_origin wsX0_origin) := zw_V ml_L_41 mm_X0_origin ms_X0_origin mi_X0 mc_X0_origin
theorem gX0_origin_X0_requireBlock : GoodIn wsX0_origin (va_wsS RX0 36 yX0_requireBlock wsX0_requireBlock) := zw_S ml_X0_36 mt_X0_requireBlock mi_X0 mc_X0_requireBlock
theorem gL_order_X0_order : GoodIn wsL_order (wsV RL 44 RX0 yX0_order wsX0_order) := zw_V ml_L_44 mm_X0_order ms_X0_order mi_X0 mc_X0_order
theorem gX0_order_X0_countUsedAfter : GoodIn wsX0_order (wsV RX0 127 RX0 yX0_countUsedAfter wsX0_countUsedAfter) := zw_V ml_X0_127 mm_X0_countUsedAfter ms_X0_countUsedAfter mi_X0 mc_X0_countUsedAfter
theorem gX0_order_X0_blockOf : GoodIn wsX0_order (va_wsS RX0 104 yX0_blockOf wsX0_blockOf) := zw_S ml_X0_104 mt_X0_blockOf mi_X0 mc_X0_blockOf
theorem gL_noted_X0_noted : GoodIn wsL_noted (wsV RL 49 RX0 yX0_noted wsX0_noted) := zw_V ml_L_49 mm_X0_noted ms_X0_noted mi_X0 mc_X0_noted
theorem gL_figure_X0_figure : GoodIn wsL_figure (wsV RL 52 RX0 yX0_figure wsX0_figure) := zw_V ml_L_52 mm_X0_figure ms_X0_figure mi_X0 mc_X0_figure
theorem gX0_figure_X0_countFull : GoodIn wsX0_figure (wsV RX0 113 RX0 yX0_countFull wsX0_countFull) := zw_V ml_X0_113 mm_X0_countFull ms_X0_countFull mi_X0 mc_X0_countFull
theorem gX0_figure_X0_countDirty : GoodIn wsX0_figure (wsV RX0 116 RX0 yX0_countDirty wsX0_countDirty) := zw_V ml_X0_116 mm_X0_countDirty ms_X0_countDirty mi_X0 mc_X0_countDirty
theorem gX1_read_X1_isBlock : GoodIn wsX1_read (va_wsS RX1 72 yX1_isBlock wsX1_isBlock) := zw_S ml_X1_72 mt_X1_isBlock mi_X1 mc_X1_isBlock
theorem gX1_read_X1_find : GoodIn wsX1_read (wsV RX1 75 RX1 yX1_find wsX1_find) := zw_V ml_X1_75 mm_X1_find ms_X1_find mi_X1 mc_X1_find
theorem gX1_read_X1_use : GoodIn wsX1_read (wsV RX1 81 RX1 yX1_use wsX1_use) := zw_V ml_X1_81 mm_X1_use ms_X1_use mi_X1 mc_X1_use
theorem gX1_read_X1_room : GoodIn wsX1_read (wsV RX1 90 RX1 yX1_room wsX1_room) := zw_V ml_X1_90 mm_X1_room ms_X1_room mi_X1 mc_X1_room
theorem gX1_room_X1_writeBack : GoodIn wsX1_room (wsV RX1 66 RX1 yX1_writeBack wsX1_writeBack) := zw_V ml_X1_66 mm_X1_writeBack ms_X1_writeBack mi_X1 mc_X1_writeBack
theorem gX1_room_X1_empty : GoodIn wsX1_room (wsV RX1 69 RX1 yX1_empty wsX1_empty) := zw_V ml_X1_69 mm_X1_empty ms_X1_empty mi_X1 mc_X1_empty
theorem gX1_writeBack_X1_give : GoodIn wsX1_writeBack (wsV RX1 59 RX1 yX1_give wsX1_give) := zw_V ml_X1_59 mm_X1_give ms_X1_give mi_X1 mc_X1_give
theorem gX1_writeBack_X1_clean : GoodIn wsX1_writeBack (wsV RX1 63 RX1 yX1_clean wsX1_clean) := zw_V ml_X1_63 mm_X1_clean ms_X1_clean mi_X1 mc_X1_clean
theorem gX1_clean_X1_isNotedDirty : GoodIn wsX1_clean (wsV RX1 51 RX1 yX1_isNotedDirty wsX1_isNotedDirty) := zw_V ml_X1_51 mm_X1_isNotedDirty ms_X1_isNotedDirty mi_X1 mc_X1_isNotedDirty
theorem gX1_clean_X1_noteSlot : GoodIn wsX1_clean (wsV RX1 55 RX1 yX1_noteSlot wsX1_noteSlot) := zw_V ml_X1_55 mm_X1_noteSlot ms_X1_noteSlot mi_X1 mc_X1_noteSlot
theorem gX1_noteSlot_X1_soOf : GoodIn wsX1_noteSlot (wsV RX1 37 RX1 yX1_soOf wsX1_soOf) := zw_V ml_X1_37 mm_X1_soOf ms_X1_soOf mi_X1 mc_X1_soOf
theorem gX1_empty_X1_noteSlot : GoodIn wsX1_empty (wsV RX1 55 RX1 yX1_noteSlot wsX1_noteSlot) := zw_V ml_X1_55 mm_X1_noteSlot ms_X1_noteSlot mi_X1 mc_X1_noteSlot
theorem gX1_write_X1_isBlock : GoodIn wsX1_write (va_wsS RX1 72 yX1_isBlock wsX1_isBlock) := zw_S ml_X1_72 mt_X1_isBlock mi_X1 mc_X1_isBlock
theorem gX1_write_X1_find : GoodIn wsX1_write (wsV RX1 75 RX1 yX1_find wsX1_find) := zw_V ml_X1_75 mm_X1_find ms_X1_find mi_X1 mc_X1_find
theorem gX1_write_X1_steps : GoodIn wsX1_write (wsV RX1 94 RX1 yX1_steps wsX1_steps) := zw_V ml_X1_94 mm_X1_steps ms_X1_steps mi_X1 mc_X1_steps
theorem gX1_write_X1_give : GoodIn wsX1_write (wsV RX1 59 RX1 yX1_give wsX1_give) := zw_V ml_X1_59 mm_X1_give ms_X1_give mi_X1 mc_X1_give
theorem gX1_write_X1_clean : GoodIn wsX1_write (wsV RX1 63 RX1 yX1_clean wsX1_clean) := zw_V ml_X1_63 mm_X1_clean ms_X1_clean mi_X1 mc_X1_clean
theorem gX1_write_X1_use : GoodIn wsX1_write (wsV RX1 81 RX1 yX1_use wsX1_use) := zw_V ml_X1_81 mm_X1_use ms_X1_use mi_X1 mc_X1_use
theorem gX1_write_X1_empty : GoodIn wsX1_write (wsV RX1 69 RX1 yX1_empty wsX1_empty) := zw_V ml_X1_69 mm_X1_empty ms_X1_empty mi_X1 mc_X1_empty
theorem gX1_steps_X1_find : GoodIn wsX1_steps (wsV RX1 75 RX1 yX1_find wsX1_find) := zw_V ml_X1_75 mm_X1_find ms_X1_find mi_X1 mc_X1_find
theorem gX1_steps_X1_room : GoodIn wsX1_steps (wsV RX1 90 RX1 yX1_room wsX1_room) := zw_V ml_X1_90 mm_X1_room ms_X1_room mi_X1 mc_X1_room
theorem gX1_steps_X1_noteSlot : GoodIn wsX1_steps (wsV RX1 55 RX1 yX1_noteSlot wsX1_noteSlot) := zw_V ml_X1_55 mm_X1_noteSlot ms_X1_noteSlot mi_X1 mc_X1_noteSlot
theorem gX1_steps_X1_use : GoodIn wsX1_steps (wsV RX1 81 RX1 yX1_use wsX1_use) := zw_V ml_X1_81 mm_X1_use ms_X1_use mi_X1 mc_X1_use
theorem gX1_cut_X1_isBlock : GoodIn wsX1_cut (va_wsS RX1 72 yX1_isBlock wsX1_isBlock) := zw_S ml_X1_72 mt_X1_isBlock mi_X1 mc_X1_isBlock
theorem gX1_cut_X1_steps : GoodIn wsX1_cut (wsV RX1 94 RX1 yX1_steps wsX1_steps) := zw_V ml_X1_94 mm_X1_steps ms_X1_steps mi_X1 mc_X1_steps
theorem gX1_cut_X1_stop : GoodIn wsX1_cut (wsV RX1 101 RX1 yX1_stop wsX1_stop) := zw_V ml_X1_101 mm_X1_stop ms_X1_stop mi_X1 mc_X1_stop
theorem gX1_stop_X1_isNotedDirty : GoodIn wsX1_stop (wsV RX1 51 RX1 yX1_isNotedDirty wsX1_isNotedDirty) := zw_V ml_X1_51 mm_X1_isNotedDirty ms_X1_isNotedDirty mi_X1 mc_X1_isNotedDirty
theorem gX1_mode_X1_writeBack : GoodIn wsX1_mode (wsV RX1 66 RX1 yX1_writeBack wsX1_writeBack) := zw_V ml_X1_66 mm_X1_writeBack ms_X1_writeBack mi_X1 mc_X1_writeBack
theorem gX1_back_X1_nextDirty : GoodIn wsX1_back (wsV RX1 104 RX1 yX1_nextDirty wsX1_nextDirty) := zw_V ml_X1_104 mm_X1_nextDirty ms_X1_nextDirty mi_X1 mc_X1_nextDirty
theorem gX1_back_X1_writeBack : GoodIn wsX1_back (wsV RX1 66 RX1 yX1_writeBack wsX1_writeBack) := zw_V ml_X1_66 mm_X1_writeBack ms_X1_writeBack mi_X1 mc_X1_writeBack
theorem gX1_check_X1_soOf : GoodIn wsX1_check (wsV RX1 37 RX1 yX1_soOf wsX1_soOf) := zw_V ml_X1_37 mm_X1_soOf ms_X1_soOf mi_X1 mc_X1_soOf
theorem gX1_check_X1_noteSlot : GoodIn wsX1_check (wsV RX1 55 RX1 yX1_noteSlot wsX1_noteSlot) := zw_V ml_X1_55 mm_X1_noteSlot ms_X1_noteSlot mi_X1 mc_X1_noteSlot
theorem gX1_crash_X1_stop : GoodIn wsX1_crash (wsV RX1 101 RX1 yX1_stop wsX1_stop) := zw_V ml_X1_101 mm_X1_stop ms_X1_stop mi_X1 mc_X1_stop
theorem gX1_crash_X1_full : GoodIn wsX1_crash (wsV RX1 107 RX1 yX1_full wsX1_full) := zw_V ml_X1_107 mm_X1_full ms_X1_full mi_X1 mc_X1_full
theorem gX1_lose_X1_dirties : GoodIn wsX1_lose (wsV RX1 110 RX1 yX1_dirties wsX1_dirties) := zw_V ml_X1_110 mm_X1_dirties ms_X1_dirties mi_X1 mc_X1_dirties
theorem gX1_lose_X1_stop : GoodIn wsX1_lose (wsV RX1 101 RX1 yX1_stop wsX1_stop) := zw_V ml_X1_101 mm_X1_stop ms_X1_stop mi_X1 mc_X1_stop
theorem gX1_slot_X1_isBlock : GoodIn wsX1_slot (va_wsS RX1 72 yX1_isBlock wsX1_isBlock) := zw_S ml_X1_72 mt_X1_isBlock mi_X1 mc_X1_isBlock
theorem gX1_slot_X1_find : GoodIn wsX1_slot (wsV RX1 75 RX1 yX1_find wsX1_find) := zw_V ml_X1_75 mm_X1_find ms_X1_find mi_X1 mc_X1_find
theorem gX1_dirty_X1_isBlock : GoodIn wsX1_dirty (va_wsS RX1 72 yX1_isBlock wsX1_isBlock) := zw_S ml_X1_72 mt_X1_isBlock mi_X1 mc_X1_isBlock
theorem gX1_dirty_X1_find : GoodIn wsX1_dirty (wsV RX1 75 RX1 yX1_find wsX1_find) := zw_V ml_X1_75 mm_X1_find ms_X1_find mi_X1 mc_X1_find
theorem gX1_origin_X1_isBlock : GoodIn wsX1_origin (va_wsS RX1 72 yX1_isBlock wsX1_isBlock) := zw_S ml_X1_72 mt_X1_isBlock mi_X1 mc_X1_isBlock
theorem gX1_figure_X1_full : GoodIn wsX1_figure (wsV RX1 107 RX1 yX1_full wsX1_full) := zw_V ml_X1_107 mm_X1_full ms_X1_full mi_X1 mc_X1_full
theorem gX1_figure_X1_dirties : GoodIn wsX1_figure (wsV RX1 110 RX1 yX1_dirties wsX1_dirties) := zw_V ml_X1_110 mm_X1_dirties ms_X1_dirties mi_X1 mc_X1_dirties
theorem gL_law_L_cell : GoodIn wsL_law (va_wsS RL 55 yL_cell wsL_cell) := zw_S0 ml_L_55 mt_L_cell mi_L mc_L_cell
theorem gL_law_X0_init : GoodIn wsL_law wsX0_init := zw_I0 mc_X0_init
theorem gL_law_X1_init : GoodIn wsL_law wsX1_init := zw_I0 mc_X1_init
theorem gL_law_L_read : GoodIn wsL_law (va_wsS RL 67 yL_read wsL_read) := zw_S0 ml_L_67 mt_L_read mi_L mc_L_read
theorem gL_law_X1_read : GoodIn wsL_law (wsV RL 70 RX1 yX1_read wsX1_read) := zw_V0 ml_L_70 mm_X1_read ms_X1_read mi_X1 mc_X1_read
theorem gL_law_X1_thrown : GoodIn wsL_law (wsV RL 71 RX1 yX1_thrown wsX1_thrown) := zw_V0 ml_L_71 mm_X1_thrown ms_X1_thrown mi_X1 mc_X1_thrown
theorem gL_law_L_write : GoodIn wsL_law (va_wsS RL 77 yL_write wsL_write) := zw_S0 ml_L_77 mt_L_write mi_L mc_L_write
theorem gL_law_X1_write : GoodIn wsL_law (wsV RL 80 RX1 yX1_write wsX1_write) := zw_V0 ml_L_80 mm_X1_write ms_X1_write mi_X1 mc_X1_write
theorem gL_law_L_cut : GoodIn wsL_law (va_wsS RL 81 yL_cut wsL_cut) := zw_S0 ml_L_81 mt_L_cut mi_L mc_L_cut
theorem gL_law_X1_cut : GoodIn wsL_law (wsV RL 84 RX1 yX1_cut wsX1_cut) := zw_V0 ml_L_84 mm_X1_cut ms_X1_cut mi_X1 mc_X1_cut
theorem gL_law_L_mode : GoodIn wsL_law (va_wsS RL 85 yL_mode wsL_mode) := zw_S0 ml_L_85 mt_L_mode mi_L mc_L_mode
theorem gL_law_X1_mode : GoodIn wsL_law (wsV RL 87 RX1 yX1_mode wsX1_mode) := zw_V0 ml_L_87 mm_X1_mode ms_X1_mode mi_X1 mc_X1_mode
theorem gL_law_L_back : GoodIn wsL_law (va_wsS RL 88 yL_back wsL_back) := zw_S0 ml_L_88 mt_L_back mi_L mc_L_back
theorem gL_law_X1_back : GoodIn wsL_law (wsV RL 90 RX1 yX1_back wsX1_back) := zw_V0 ml_L_90 mm_X1_back ms_X1_back mi_X1 mc_X1_back
theorem gL_law_X0_check : GoodIn wsL_law (wsV RL 91 RX0 yX0_check wsX0_check) := zw_V0 ml_L_91 mm_X0_check ms_X0_check mi_X0 mc_X0_check
theorem gL_law_X1_check : GoodIn wsL_law (wsV RL 94 RX1 yX1_check wsX1_check) := zw_V0 ml_L_94 mm_X1_check ms_X1_check mi_X1 mc_X1_check
theorem gL_law_X0_crash : GoodIn wsL_law (wsV RL 95 RX0 yX0_crash wsX0_crash) := zw_V0 ml_L_95 mm_X0_crash ms_X0_crash mi_X0 mc_X0_crash
theorem gL_law_X1_crash : GoodIn wsL_law (wsV RL 98 RX1 yX1_crash wsX1_crash) := zw_V0 ml_L_98 mm_X1_crash ms_X1_crash mi_X1 mc_X1_crash
theorem gL_law_X0_lose : GoodIn wsL_law (wsV RL 99 RX0 yX0_lose wsX0_lose) := zw_V0 ml_L_99 mm_X0_lose ms_X0_lose mi_X0 mc_X0_lose
theorem gL_law_X1_lose : GoodIn wsL_law (wsV RL 102 RX1 yX1_lose wsX1_lose) := zw_V0 ml_L_102 mm_X1_lose ms_X1_lose mi_X1 mc_X1_lose
theorem gL_law_L_slot : GoodIn wsL_law (va_wsS RL 103 yL_slot wsL_slot) := zw_S0 ml_L_103 mt_L_slot mi_L mc_L_slot
theorem gL_law_X1_slot : GoodIn wsL_law (wsV RL 105 RX1 yX1_slot wsX1_slot) := zw_V0 ml_L_105 mm_X1_slot ms_X1_slot mi_X1 mc_X1_slot
theorem gL_law_L_dirty : GoodIn wsL_law (va_wsS RL 106 yL_dirty wsL_dirty) := zw_S0 ml_L_106 mt_L_dirty mi_L mc_L_dirty
theorem gL_law_X1_dirty : GoodIn wsL_law (wsV RL 108 RX1 yX1_dirty wsX1_dirty) := zw_V0 ml_L_108 mm_X1_dirty ms_X1_dirty mi_X1 mc_X1_dirty
theorem gL_law_L_origin : GoodIn wsL_law (va_wsS RL 109 yL_origin wsL_origin) := zw_S0 ml_L_109 mt_L_origin mi_L mc_L_origin
theorem gL_law_X1_origin : GoodIn wsL_law (wsV RL 111 RX1 yX1_origin wsX1_origin) := zw_V0 ml_L_111 mm_X1_origin ms_X1_origin mi_X1 mc_X1_origin
theorem gL_law_L_order : GoodIn wsL_law (va_wsS RL 112 yL_order wsL_order) := zw_S0 ml_L_112 mt_L_order mi_L mc_L_order
theorem gL_law_X1_order : GoodIn wsL_law (wsV RL 114 RX1 yX1_order wsX1_order) := zw_V0 ml_L_114 mm_X1_order ms_X1_order mi_X1 mc_X1_order
theorem gL_law_L_noted : GoodIn wsL_law (va_wsS RL 115 yL_noted wsL_noted) := zw_S0 ml_L_115 mt_L_noted mi_L mc_L_noted
theorem gL_law_X1_noted : GoodIn wsL_law (wsV RL 117 RX1 yX1_noted wsX1_noted) := zw_V0 ml_L_117 mm_X1_noted ms_X1_noted mi_X1 mc_X1_noted
theorem gL_law_L_figure : GoodIn wsL_law (va_wsS RL 118 yL_figure wsL_figure) := zw_S0 ml_L_118 mt_L_figure mi_L mc_L_figure
theorem gL_law_X1_figure : GoodIn wsL_law (wsV RL 120 RX1 yX1_figure wsX1_figure) := zw_V0 ml_L_120 mm_X1_figure ms_X1_figure mi_X1 mc_X1_figure
end
section
theorem dX0_init_0 : decode cX0_init 0 = .ok (.aload_n 0, 1) := by decide +kernel
theorem dX0_init_1 : decode cX0_init 1 = .ok (.invokespecial 1, 3) := by decide +kernel
theorem dX0_init_4 : decode cX0_init 4 = .ok (.aload_n 0, 1) := by decide +kernel
theorem dX0_init_5 : decode cX0_init 5 = .ok (.iload_n 1, 1) := by decide +kernel
theorem dX0_init_6 : decode cX0_init 6 = .ok (.iconst 1, 1) := by decide +kernel
theorem dX0_init_7 : decode cX0_init 7 = .ok (.if_icmp .lt 13, 3) := by decide +kernel
theorem dX0_init_10 : decode cX0_init 10 = .ok (.iload_n 1, 1) := by decide +kernel
theorem dX0_init_11 : decode cX0_init 11 = .ok (.bipush 12, 2) := by decide +kernel
theorem dX0_init_13 : decode cX0_init 13 = .ok (.if_icmp .gt 7, 3) := by decide +kernel
theorem dX0_init_16 : decode cX0_init 16 = .ok (.iload_n 1, 1) := by decide +kernel
theorem dX0_init_17 : decode cX0_init 17 = .ok (.goto 5, 3) := by decide +kernel
theorem dX0_init_20 : decode cX0_init 20 = .ok (.bipush 6, 2) := by decide +kernel
theorem dX0_init_22 : decode cX0_init 22 = .ok (.putfield 9, 3) := by decide +kernel
theorem dX0_init_25 : decode cX0_init 25 = .ok (.aload_n 0, 1) := by decide +kernel
theorem dX0_init_26 : decode cX0_init 26 = .ok (.bipush 64, 2) := by decide +kernel
theorem dX0_init_28 : decode cX0_init 28 = .ok (.newarray .long, 2) := by decide +kernel
theorem dX0_init_30 : decode cX0_init 30 = .ok (.putfield 13, 3) := by decide +kernel
theorem dX0_init_33 : decode cX0_init 33 = .ok (.aload_n 0, 1) := by decide +kernel
theorem dX0_init_34 : decode cX0_init 34 = .ok (.aload_n 0, 1) := by decide +kernel
theorem dX0_init_35 : decode cX0_init 35 = .ok (.getfield 9, 3) := by decide +kernel
theorem dX0_init_38 : decode cX0_init 38 = .ok (.newarray .long, 2) := by decide +kernel
theorem dX0_init_40 : decode cX0_init 40 = .ok (.putfield 17, 3) := by decide +kernel
theorem dX0_init_43 : decode cX0_init 43 = .ok (.aload_n 0, 1) := by decide +kernel
theorem dX0_init_44 : decode cX0_init 44 = .ok (.aload_n 0, 1) := by decide +kernel
theorem dX0_init_45 : decode cX0_init 45 = .ok (.getfield 9, 3) := by decide +kernel
theorem dX0_init_48 : decode cX0_init 48 = .ok (.newarray .int, 2) := by decide +kernel
theorem dX0_init_50 : decode cX0_init 50 = .ok (.putfield 20, 3) := by decide +kernel
theorem dX0_init_53 : decode cX0_init 53 = .ok (.aload_n 0, 1) := by decide +kernel
theorem dX0_init_54 : decode cX0_init 54 = .ok (.aload_n 0, 1) := by decide +kernel
theorem dX0_init_55 : decode cX0_init 55 = .ok (.getfield 9, 3) := by decide +kernel
theorem dX0_init_58 : decode cX0_init 58 = .ok (.newarray .int, 2) := by decide +kernel
theorem dX0_init_60 : decode cX0_init 60 = .ok (.putfield 24, 3) := by decide +kernel
theorem dX0_init_63 : decode cX0_init 63 = .ok (.aload_n 0, 1) := by decide +kernel
theorem dX0_init_64 : decode cX0_init 64 = .ok (.aload_n 0, 1) := by decide +kernel
theorem dX0_init_65 : decode cX0_init 65 = .ok (.getfield 9, 3) := by decide +kernel
theorem dX0_init_68 : decode cX0_init 68 = .ok (.newarray .int, 2) := by decide +kernel
theorem dX0_init_70 : decode cX0_init 70 = .ok (.putfield 27, 3) := by decide +kernel
theorem dX0_init_73 : decode cX0_init 73 = .ok (.aload_n 0, 1) := by decide +kernel
theorem dX0_init_74 : decode cX0_init 74 = .ok (.getfield 20, 3) := by decide +kernel
theorem dX0_init_77 : decode cX0_init 77 = .ok (.iconst (-1), 1) := by decide +kernel
theorem dX0_init_78 : decode cX0_init 78 = .ok (.invokestatic 30, 3) := by decide +kernel
theorem dX0_init_81 : decode cX0_init 81 = .ok (.aload_n 0, 1) := by decide +kernel
theorem dX0_init_82 : decode cX0_init 82 = .ok (.getfield 24, 3) := by decide +kernel
theorem dX0_init_85 : decode cX0_init 85 = .ok (.iconst (-1), 1) := by decide +kernel
theorem dX0_init_86 : decode cX0_init 86 = .ok (.invokestatic 30, 3) := by decide +kernel
theorem dX0_init_89 : decode cX0_init 89 = .ok (.return_, 1) := by decide +kernel
theorem dJ7_fill_0 : decode cJ7_fill 0 = .ok (.iconst 0, 1) := by decide +kernel
theorem dJ7_fill_1 : decode cJ7_fill 1 = .ok (.istore_n 2, 1) := by decide +kernel
theorem dJ7_fill_2 : decode cJ7_fill 2 = .ok (.aload_n 0, 1) := by decide +kernel
theorem dJ7_fill_3 : decode cJ7_fill 3 = .ok (.arraylength, 1) := by decide +kernel
theorem dJ7_fill_4 : decode cJ7_fill 4 = .ok (.istore_n 3, 1) := by decide +kernel
theorem dJ7_fill_5 : decode cJ7_fill 5 = .ok (.iload_n 2, 1) := by decide +kernel
theorem dJ7_fill_6 : decode cJ7_fill 6 = .ok (.iload_n 3, 1) := by decide +kernel
theorem dJ7_fill_7 : decode cJ7_fill 7 = .ok (.if_icmp .ge 13, 3) := by decide +kernel
theorem dJ7_fill_10 : decode cJ7_fill 10 = .ok (.aload_n 0, 1) := by decide +kernel
theorem dJ7_fill_11 : decode cJ7_fill 11 = .ok (.iload_n 2, 1) := by decide +kernel
theorem dJ7_fill_12 : decode cJ7_fill 12 = .ok (.iload_n 1, 1) := by decide +kernel
theorem dJ7_fill_13 : decode cJ7_fill 13 = .ok (.iastore, 1) := by decide +kernel
theorem dJ7_fill_14 : decode cJ7_fill 14 = .ok (.iinc 2 1, 3) := by decide +kernel
theorem dJ7_fill_17 : decode cJ7_fill 17 = .ok (.goto (-12), 3) := by decide +kernel
theorem dJ7_fill_20 : decode cJ7_fill 20 = .ok (.return_, 1) := by decide +kernel
theorem dX0_check_0 : decode cX0_check 0 = .ok (.iconst 0, 1) := by decide +kernel
theorem dX0_check_1 : decode cX0_check 1 = .ok (.istore_n 1, 1) := by decide +kernel
theorem dX0_check_2 : decode cX0_check 2 = .ok (.iconst 0, 1) := by decide +kernel
theorem dX0_check_3 : decode cX0_check 3 = .ok (.istore_n 2, 1) := by decide +kernel
theorem dX0_check_4 : decode cX0_check 4 = .ok (.iload_n 2, 1) := by decide +kernel
theorem dX0_check_5 : decode cX0_check 5 = .ok (.aload_n 0, 1) := by decide +kernel
theorem dX0_check_6 : decode cX0_check 6 = .ok (.getfield 9, 3) := by decide +kernel
theorem dX0_check_9 : decode cX0_check 9 = .ok (.if_icmp .ge 32, 3) := by decide +kernel
theorem dX0_check_12 : decode cX0_check 12 = .ok (.aload_n 0, 1) := by decide +kernel
theorem dX0_check_13 : decode cX0_check 13 = .ok (.getfield 24, 3) := by decide +kernel
theorem dX0_check_16 : decode cX0_check 16 = .ok (.iload_n 2, 1) := by decide +kernel
theorem dX0_check_17 : decode cX0_check 17 = .ok (.iaload, 1) := by decide +kernel
theorem dX0_check_18 : decode cX0_check 18 = .ok (.aload_n 0, 1) := by decide +kernel
theorem dX0_check_19 : decode cX0_check 19 = .ok (.getfield 20, 3) := by decide +kernel
theorem dX0_check_22 : decode cX0_check 22 = .ok (.iload_n 2, 1) := by decide +kernel
theorem dX0_check_23 : decode cX0_check 23 = .ok (.iaload, 1) := by decide +kernel
theorem dX0_check_24 : decode cX0_check 24 = .ok (.if_icmp .eq 11, 3) := by decide +kernel
theorem dX0_check_27 : decode cX0_check 27 = .ok (.aload_n 0, 1) := by decide +kernel
theorem dX0_check_28 : decode cX0_check 28 = .ok (.iload_n 2, 1) := by decide +kernel
theorem dX0_check_29 : decode cX0_check 29 = .ok (.invokevirtual 110, 3) := by decide +kernel
theorem dX0_check_32 : decode cX0_check 32 = .ok (.iinc 1 1, 3) := by decide +kernel
theorem dX0_check_35 : decode cX0_check 35 = .ok (.iinc 2 1, 3) := by decide +kernel
theorem dX0_check_38 : decode cX0_check 38 = .ok (.goto (-34), 3) := by decide +kernel
theorem dX0_check_41 : decode cX0_check 41 = .ok (.iload_n 1, 1) := by decide +kernel
theorem dX0_check_42 : decode cX0_check 42 = .ok (.ireturn, 1) := by decide +kernel
theorem dX0_noteSlot_0 : decode cX0_noteSlot 0 = .ok (.aload_n 0, 1) := by decide +kernel
theorem dX0_noteSlot_1 : decode cX0_noteSlot 1 = .ok (.getfield 24, 3) := by decide +kernel
theorem dX0_noteSlot_4 : decode cX0_noteSlot 4 = .ok (.iload_n 1, 1) := by decide +kernel
theorem dX0_noteSlot_5 : decode cX0_noteSlot 5 = .ok (.aload_n 0, 1) := by decide +kernel
theorem dX0_noteSlot_6 : decode cX0_noteSlot 6 = .ok (.getfield 20, 3) := by decide +kernel
theorem dX0_noteSlot_9 : decode cX0_noteSlot 9 = .ok (.iload_n 1, 1) := by decide +kernel
theorem dX0_noteSlot_10 : decode cX0_noteSlot 10 = .ok (.iaload, 1) := by decide +kernel
theorem dX0_noteSlot_11 : decode cX0_noteSlot 11 = .ok (.iastore, 1) := by decide +kernel
theorem dX0_noteSlot_12 : decode cX0_noteSlot 12 = .ok (.aload_n 0, 1) := by decide +kernel
theorem dX0_noteSlot_13 : decode cX0_noteSlot 13 = .ok (.dup, 1) := by decide +kernel
theorem dX0_noteSlot_14 : decode cX0_noteSlot 14 = .ok (.getfield 140, 3) := by decide +kernel
theorem dX0_noteSlot_17 : decode cX0_noteSlot 17 = .ok (.iconst 1, 1) := by decide +kernel
theorem dX0_noteSlot_18 : decode cX0_noteSlot 18 = .ok (.iadd, 1) := by decide +kernel
theorem dX0_noteSlot_19 : decode cX0_noteSlot 19 = .ok (.putfield 140, 3) := by decide +kernel
theorem dX0_noteSlot_22 : decode cX0_noteSlot 22 = .ok (.return_, 1) := by decide +kernel
theorem dX0_crash_0 : decode cX0_crash 0 = .ok (.aload_n 0, 1) := by decide +kernel
theorem dX0_crash_1 : decode cX0_crash 1 = .ok (.invokevirtual 87, 3) := by decide +kernel
theorem dX0_crash_4 : decode cX0_crash 4 = .ok (.aload_n 0, 1) := by decide +kernel
theorem dX0_crash_5 : decode cX0_crash 5 = .ok (.invokevirtual 113, 3) := by decide +kernel
theorem dX0_crash_8 : decode cX0_crash 8 = .ok (.ireturn, 1) := by decide +kernel
theorem dX0_stopMachine_0 : decode cX0_stopMachine 0 = .ok (.iconst 0, 1) := by decide +kernel
theorem dX0_stopMachine_1 : decode cX0_stopMachine 1 = .ok (.istore_n 1, 1) := by decide +kernel
theorem dX0_stopMachine_2 : decode cX0_stopMachine 2 = .ok (.iload_n 1, 1) := by decide +kernel
theorem dX0_stopMachine_3 : decode cX0_stopMachine 3 = .ok (.aload_n 0, 1) := by decide +kernel
theorem dX0_stopMachine_4 : decode cX0_stopMachine 4 = .ok (.getfield 9, 3) := by decide +kernel
theorem dX0_stopMachine_7 : decode cX0_stopMachine 7 = .ok (.if_icmp .ge 29, 3) := by decide +kernel
theorem dX0_stopMachine_10 : decode cX0_stopMachine 10 = .ok (.aload_n 0, 1) := by decide +kernel
theorem dX0_stopMachine_11 : decode cX0_stopMachine 11 = .ok (.getfield 20, 3) := by decide +kernel
theorem dX0_stopMachine_14 : decode cX0_stopMachine 14 = .ok (.iload_n 1, 1) := by decide +kernel
theorem dX0_stopMachine_15 : decode cX0_stopMachine 15 = .ok (.aload_n 0, 1) := by decide +kernel
theorem dX0_stopMachine_16 : decode cX0_stopMachine 16 = .ok (.getfield 24, 3) := by decide +kernel
theorem dX0_stopMachine_19 : decode cX0_stopMachine 19 = .ok (.iload_n 1, 1) := by decide +kernel
theorem dX0_stopMachine_20 : decode cX0_stopMachine 20 = .ok (.iaload, 1) := by decide +kernel
theorem dX0_stopMachine_21 : decode cX0_stopMachine 21 = .ok (.iastore, 1) := by decide +kernel
theorem dX0_stopMachine_22 : decode cX0_stopMachine 22 = .ok (.aload_n 0, 1) := by decide +kernel
theorem dX0_stopMachine_23 : decode cX0_stopMachine 23 = .ok (.getfield 27, 3) := by decide +kernel
theorem dX0_stopMachine_26 : decode cX0_stopMachine 26 = .ok (.iload_n 1, 1) := by decide +kernel
theorem dX0_stopMachine_27 : decode cX0_stopMachine 27 = .ok (.iload_n 1, 1) := by decide +kernel
theorem dX0_stopMachine_28 : decode cX0_stopMachine 28 = .ok (.ineg, 1) := by decide +kernel
theorem dX0_stopMachine_29 : decode cX0_stopMachine 29 = .ok (.iastore, 1) := by decide +kernel
theorem dX0_stopMachine_30 : decode cX0_stopMachine 30 = .ok (.iinc 1 1, 3) := by decide +kernel
theorem dX0_stopMachine_33 : decode cX0_stopMachine 33 = .ok (.goto (-31), 3) := by decide +kernel
theorem dX0_stopMachine_36 : decode cX0_stopMachine 36 = .ok (.aload_n 0, 1) := by decide +kernel
theorem dX0_stopMachine_37 : decode cX0_stopMachine 37 = .ok (.iconst 0, 1) := by decide +kernel
theorem dX0_stopMachine_38 : decode cX0_stopMachine 38 = .ok (.putfield 53, 3) := by decide +kernel
theorem dX0_stopMachine_41 : decode cX0_stopMachine 41 = .ok (.aload_n 0, 1) := by decide +kernel
theorem dX0_stopMachine_42 : decode cX0_stopMachine 42 = .ok (.iconst 0, 1) := by decide +kernel
theorem dX0_stopMachine_43 : decode cX0_stopMachine 43 = .ok (.putfield 107, 3) := by decide +kernel
theorem dX0_stopMachine_46 : decode cX0_stopMachine 46 = .ok (.return_, 1) := by decide +kernel
theorem dX0_countFull_0 : decode cX0_countFull 0 = .ok (.iconst 0, 1) := by decide +kernel
theorem dX0_countFull_1 : decode cX0_countFull 1 = .ok (.istore_n 1, 1) := by decide +kernel
theorem dX0_countFull_2 : decode cX0_countFull 2 = .ok (.iconst 0, 1) := by decide +kernel
theorem dX0_countFull_3 : decode cX0_countFull 3 = .ok (.istore_n 2, 1) := by decide +kernel
theorem dX0_countFull_4 : decode cX0_countFull 4 = .ok (.iload_n 2, 1) := by decide +kernel
theorem dX0_countFull_5 : decode cX0_countFull 5 = .ok (.aload_n 0, 1) := by decide +kernel
theorem dX0_countFull_6 : decode cX0_countFull 6 = .ok (.getfield 9, 3) := by decide +kernel
theorem dX0_countFull_9 : decode cX0_countFull 9 = .ok (.if_icmp .ge 22, 3) := by decide +kernel
theorem dX0_countFull_12 : decode cX0_countFull 12 = .ok (.aload_n 0, 1) := by decide +kernel
theorem dX0_countFull_13 : decode cX0_countFull 13 = .ok (.getfield 20, 3) := by decide +kernel
theorem dX0_countFull_16 : decode cX0_countFull 16 = .ok (.iload_n 2, 1) := by decide +kernel
theorem dX0_countFull_17 : decode cX0_countFull 17 = .ok (.iaload, 1) := by decide +kernel
theorem dX0_countFull_18 : decode cX0_countFull 18 = .ok (.iconst (-1), 1) := by decide +kernel
theorem dX0_countFull_19 : decode cX0_countFull 19 = .ok (.if_icmp .eq 6, 3) := by decide +kernel
theorem dX0_countFull_22 : decode cX0_countFull 22 = .ok (.iinc 1 1, 3) := by decide +kernel
theorem dX0_countFull_25 : decode cX0_countFull 25 = .ok (.iinc 2 1, 3) := by decide +kernel
theorem dX0_countFull_28 : decode cX0_countFull 28 = .ok (.goto (-24), 3) := by decide +kernel
theorem dX0_countFull_31 : decode cX0_countFull 31 = .ok (.iload_n 1, 1) := by decide +kernel
theorem dX0_countFull_32 : decode cX0_countFull 32 = .ok (.ireturn, 1) := by decide +kernel
theorem dX0_lose_0 : decode cX0_lose 0 = .ok (.aload_n 0, 1) := by decide +kernel
theorem dX0_lose_1 : decode cX0_lose 1 = .ok (.invokevirtual 116, 3) := by decide +kernel
theorem dX0_lose_4 : decode cX0_lose 4 = .ok (.istore_n 1, 1) := by decide +kernel
theorem dX0_lose_5 : decode cX0_lose 5 = .ok (.aload_n 0, 1) := by decide +kernel
theorem dX0_lose_6 : decode cX0_lose 6 = .ok (.getfield 24, 3) := by decide +kernel
theorem dX0_lose_9 : decode cX0_lose 9 = .ok (.iconst (-1), 1) := by decide +kernel
theorem dX0_lose_10 : decode cX0_lose 10 = .ok (.invokestatic 30, 3) := by decide +kernel
theorem dX0_lose_13 : decode cX0_lose 13 = .ok (.aload_n 0, 1) := by decide +kernel
theorem dX0_lose_14 : decode cX0_lose 14 = .ok (.invokevirtual 87, 3) := by decide +kernel
theorem dX0_lose_17 : decode cX0_lose 17 = .ok (.iload_n 1, 1) := by decide +kernel
theorem dX0_lose_18 : decode cX0_lose 18 = .ok (.ireturn, 1) := by decide +kernel
theorem dX0_countDirty_0 : decode cX0_countDirty 0 = .ok (.iconst 0, 1) := by decide +kernel
theorem dX0_countDirty_1 : decode cX0_countDirty 1 = .ok (.istore_n 1, 1) := by decide +kernel
theorem dX0_countDirty_2 : decode cX0_countDirty 2 = .ok (.iconst 0, 1) := by decide +kernel
theorem dX0_countDirty_3 : decode cX0_countDirty 3 = .ok (.istore_n 2, 1) := by decide +kernel
theorem dX0_countDirty_4 : decode cX0_countDirty 4 = .ok (.iload_n 2, 1) := by decide +kernel
theorem dX0_countDirty_5 : decode cX0_countDirty 5 = .ok (.aload_n 0, 1) := by decide +kernel
theorem dX0_countDirty_6 : decode cX0_countDirty 6 = .ok (.getfield 9, 3) := by decide +kernel
theorem dX0_countDirty_9 : decode cX0_countDirty 9 = .ok (.if_icmp .ge 24, 3) := by decide +kernel
theorem dX0_countDirty_12 : decode cX0_countDirty 12 = .ok (.aload_n 0, 1) := by decide +kernel
theorem dX0_countDirty_13 : decode cX0_countDirty 13 = .ok (.getfield 20, 3) := by decide +kernel
theorem dX0_countDirty_16 : decode cX0_countDirty 16 = .ok (.iload_n 2, 1) := by decide +kernel
theorem dX0_countDirty_17 : decode cX0_countDirty 17 = .ok (.iaload, 1) := by decide +kernel
theorem dX0_countDirty_18 : decode cX0_countDirty 18 = .ok (.invokestatic 124, 3) := by decide +kernel
theorem dX0_countDirty_21 : decode cX0_countDirty 21 = .ok (.ifCond .eq 6, 3) := by decide +kernel
theorem dX0_countDirty_24 : decode cX0_countDirty 24 = .ok (.iinc 1 1, 3) := by decide +kernel
theorem dX0_countDirty_27 : decode cX0_countDirty 27 = .ok (.iinc 2 1, 3) := by decide +kernel
theorem dX0_countDirty_30 : decode cX0_countDirty 30 = .ok (.goto (-26), 3) := by decide +kernel
theorem dX0_countDirty_33 : decode cX0_countDirty 33 = .ok (.iload_n 1, 1) := by decide +kernel
theorem dX0_countDirty_34 : decode cX0_countDirty 34 = .ok (.ireturn, 1) := by decide +kernel
theorem dX0_isDirty_0 : decode cX0_isDirty 0 = .ok (.iload_n 0, 1) := by decide +kernel
theorem dX0_isDirty_1 : decode cX0_isDirty 1 = .ok (.iconst (-1), 1) := by decide +kernel
theorem dX0_isDirty_2 : decode cX0_isDirty 2 = .ok (.if_icmp .eq 14, 3) := by decide +kernel
theorem dX0_isDirty_5 : decode cX0_isDirty 5 = .ok (.iload_n 0, 1) := by decide +kernel
theorem dX0_isDirty_6 : decode cX0_isDirty 6 = .ok (.iconst 1, 1) := by decide +kernel
theorem dX0_isDirty_7 : decode cX0_isDirty 7 = .ok (.iand, 1) := by decide +kernel
theorem dX0_isDirty_8 : decode cX0_isDirty 8 = .ok (.iconst 1, 1) := by decide +kernel
theorem dX0_isDirty_9 : decode cX0_isDirty 9 = .ok (.if_icmp .ne 7, 3) := by decide +kernel
theorem dX0_isDirty_12 : decode cX0_isDirty 12 = .ok (.iconst 1, 1) := by decide +kernel
theorem dX0_isDirty_13 : decode cX0_isDirty 13 = .ok (.goto 4, 3) := by decide +kernel
theorem dX0_isDirty_16 : decode cX0_isDirty 16 = .ok (.iconst 0, 1) := by decide +kernel
theorem dX0_isDirty_17 : decode cX0_isDirty 17 = .ok (.ireturn, 1) := by decide +kernel
theorem dX0_read_0 : decode cX0_read 0 = .ok (.iload_n 1, 1) := by decide +kernel
theorem dX0_read_1 : decode cX0_read 1 = .ok (.invokestatic 36, 3) := by decide +kernel
theorem dX0_read_4 : decode cX0_read 4 = .ok (.aload_n 0, 1) := by decide +kernel
theorem dX0_read_5 : decode cX0_read 5 = .ok (.iload_n 1, 1) := by decide +kernel
theorem dX0_read_6 : decode cX0_read 6 = .ok (.invokevirtual 40, 3) := by decide +kernel
theorem dX0_read_9 : decode cX0_read 9 = .ok (.istore_n 2, 1) := by decide +kernel
theorem dX0_read_10 : decode cX0_read 10 = .ok (.iload_n 2, 1) := by decide +kernel
theorem dX0_read_11 : decode cX0_read 11 = .ok (.iconst (-1), 1) := by decide +kernel
theorem dX0_read_12 : decode cX0_read 12 = .ok (.if_icmp .eq 25, 3) := by decide +kernel
theorem dX0_read_15 : decode cX0_read 15 = .ok (.aload_n 0, 1) := by decide +kernel
theorem dX0_read_16 : decode cX0_read 16 = .ok (.dup, 1) := by decide +kernel
theorem dX0_read_17 : decode cX0_read 17 = .ok (.getfield 44, 3) := by decide +kernel
theorem dX0_read_20 : decode cX0_read 20 = .ok (.iconst 1, 1) := by decide +kernel
theorem dX0_read_21 : decode cX0_read 21 = .ok (.iadd, 1) := by decide +kernel
theorem dX0_read_22 : decode cX0_read 22 = .ok (.putfield 44, 3) := by decide +kernel
theorem dX0_read_25 : decode cX0_read 25 = .ok (.aload_n 0, 1) := by decide +kernel
theorem dX0_read_26 : decode cX0_read 26 = .ok (.iload_n 2, 1) := by decide +kernel
theorem dX0_read_27 : decode cX0_read 27 = .ok (.invokevirtual 47, 3) := by decide +kernel
theorem dX0_read_30 : decode cX0_read 30 = .ok (.aload_n 0, 1) := by decide +kernel
theorem dX0_read_31 : decode cX0_read 31 = .ok (.getfield 17, 3) := by decide +kernel
theorem dX0_read_34 : decode cX0_read 34 = .ok (.iload_n 2, 1) := by decide +kernel
theorem dX0_read_35 : decode cX0_read 35 = .ok (.laload, 1) := by decide +kernel
theorem dX0_read_36 : decode cX0_read 36 = .ok (.lreturn, 1) := by decide +kernel
theorem dX0_read_37 : decode cX0_read 37 = .ok (.aload_n 0, 1) := by decide +kernel
theorem dX0_read_38 : decode cX0_read 38 = .ok (.dup, 1) := by decide +kernel
theorem dX0_read_39 : decode cX0_read 39 = .ok (.getfield 50, 3) := by decide +kernel
theorem dX0_read_42 : decode cX0_read 42 = .ok (.iconst 1, 1) := by decide +kernel
theorem dX0_read_43 : decode cX0_read 43 = .ok (.iadd, 1) := by decide +kernel
theorem dX0_read_44 : decode cX0_read 44 = .ok (.putfield 50, 3) := by decide +kernel
theorem dX0_read_47 : decode cX0_read 47 = .ok (.aload_n 0, 1) := by decide +kernel
theorem dX0_read_48 : decode cX0_read 48 = .ok (.getfield 53, 3) := by decide +kernel
theorem dX0_read_51 : decode cX0_read 51 = .ok (.iconst 2, 1) := by decide +kernel
theorem dX0_read_52 : decode cX0_read 52 = .ok (.if_icmp .eq 12, 3) := by decide +kernel
theorem dX0_read_55 : decode cX0_read 55 = .ok (.aload_n 0, 1) := by decide +kernel
theorem dX0_read_56 : decode cX0_read 56 = .ok (.aload_n 0, 1) := by decide +kernel
theorem dX0_read_57 : decode cX0_read 57 = .ok (.invokevirtual 56, 3) := by decide +kernel
theorem dX0_read_60 : decode cX0_read 60 = .ok (.iload_n 1, 1) := by decide +kernel
theorem dX0_read_61 : decode cX0_read 61 = .ok (.invokevirtual 60, 3) := by decide +kernel
theorem dX0_read_64 : decode cX0_read 64 = .ok (.aload_n 0, 1) := by decide +kernel
theorem dX0_read_65 : decode cX0_read 65 = .ok (.getfield 13, 3) := by decide +kernel
theorem dX0_read_68 : decode cX0_read 68 = .ok (.iload_n 1, 1) := by decide +kernel
theorem dX0_read_69 : decode cX0_read 69 = .ok (.laload, 1) := by decide +kernel
theorem dX0_read_70 : decode cX0_read 70 = .ok (.lreturn, 1) := by decide +kernel
theorem dX0_requireBlock_0 : decode cX0_requireBlock 0 = .ok (.iload_n 0, 1) := by decide +kernel
theorem dX0_requireBlock_1 : decode cX0_requireBlock 1 = .ok (.ifCond .lt 9, 3) := by decide +kernel
theorem dX0_requireBlock_4 : decode cX0_requireBlock 4 = .ok (.iload_n 0, 1) := by decide +kernel
theorem dX0_requireBlock_5 : decode cX0_requireBlock 5 = .ok (.bipush 64, 2) := by decide +kernel
theorem dX0_requireBlock_7 : decode cX0_requireBlock 7 = .ok (.if_icmp .lt 13, 3) := by decide +kernel
theorem dX0_requireBlock_10 : decode cX0_requireBlock 10 = .ok (.new 75, 3) := by decide +kernel
theorem dX0_requireBlock_13 : decode cX0_requireBlock 13 = .ok (.dup, 1) := by decide +kernel
theorem dX0_requireBlock_14 : decode cX0_requireBlock 14 = .ok (.ldc 145, 2) := by decide +kernel
theorem dX0_requireBlock_16 : decode cX0_requireBlock 16 = .ok (.invokespecial 79, 3) := by decide +kernel
theorem dX0_requireBlock_19 : decode cX0_requireBlock 19 = .ok (.athrow, 1) := by decide +kernel
theorem dX0_requireBlock_20 : decode cX0_requireBlock 20 = .ok (.return_, 1) := by decide +kernel
theorem dX0_slotWith_0 : decode cX0_slotWith 0 = .ok (.iconst 0, 1) := by decide +kernel
theorem dX0_slotWith_1 : decode cX0_slotWith 1 = .ok (.istore_n 2, 1) := by decide +kernel
theorem dX0_slotWith_2 : decode cX0_slotWith 2 = .ok (.iload_n 2, 1) := by decide +kernel
theorem dX0_slotWith_3 : decode cX0_slotWith 3 = .ok (.aload_n 0, 1) := by decide +kernel
theorem dX0_slotWith_4 : decode cX0_slotWith 4 = .ok (.getfield 9, 3) := by decide +kernel
theorem dX0_slotWith_7 : decode cX0_slotWith 7 = .ok (.if_icmp .ge 34, 3) := by decide +kernel
theorem dX0_slotWith_10 : decode cX0_slotWith 10 = .ok (.aload_n 0, 1) := by decide +kernel
theorem dX0_slotWith_11 : decode cX0_slotWith 11 = .ok (.getfield 20, 3) := by decide +kernel
theorem dX0_slotWith_14 : decode cX0_slotWith 14 = .ok (.iload_n 2, 1) := by decide +kernel
theorem dX0_slotWith_15 : decode cX0_slotWith 15 = .ok (.iaload, 1) := by decide +kernel
theorem dX0_slotWith_16 : decode cX0_slotWith 16 = .ok (.iconst (-1), 1) := by decide +kernel
theorem dX0_slotWith_17 : decode cX0_slotWith 17 = .ok (.if_icmp .eq 18, 3) := by decide +kernel
theorem dX0_slotWith_20 : decode cX0_slotWith 20 = .ok (.aload_n 0, 1) := by decide +kernel
theorem dX0_slotWith_21 : decode cX0_slotWith 21 = .ok (.getfield 20, 3) := by decide +kernel
theorem dX0_slotWith_24 : decode cX0_slotWith 24 = .ok (.iload_n 2, 1) := by decide +kernel
theorem dX0_slotWith_25 : decode cX0_slotWith 25 = .ok (.iaload, 1) := by decide +kernel
theorem dX0_slotWith_26 : decode cX0_slotWith 26 = .ok (.invokestatic 104, 3) := by decide +kernel
theorem dX0_slotWith_29 : decode cX0_slotWith 29 = .ok (.iload_n 1, 1) := by decide +kernel
theorem dX0_slotWith_30 : decode cX0_slotWith 30 = .ok (.if_icmp .ne 5, 3) := by decide +kernel
theorem dX0_slotWith_33 : decode cX0_slotWith 33 = .ok (.iload_n 2, 1) := by decide +kernel
theorem dX0_slotWith_34 : decode cX0_slotWith 34 = .ok (.ireturn, 1) := by decide +kernel
theorem dX0_slotWith_35 : decode cX0_slotWith 35 = .ok (.iinc 2 1, 3) := by decide +kernel
theorem dX0_slotWith_38 : decode cX0_slotWith 38 = .ok (.goto (-36), 3) := by decide +kernel
theorem dX0_slotWith_41 : decode cX0_slotWith 41 = .ok (.iconst (-1), 1) := by decide +kernel
theorem dX0_slotWith_42 : decode cX0_slotWith 42 = .ok (.ireturn, 1) := by decide +kernel
theorem dX0_blockOf_0 : decode cX0_blockOf 0 = .ok (.iload_n 0, 1) := by decide +kernel
theorem dX0_blockOf_1 : decode cX0_blockOf 1 = .ok (.iconst 1, 1) := by decide +kernel
theorem dX0_blockOf_2 : decode cX0_blockOf 2 = .ok (.ishr, 1) := by decide +kernel
theorem dX0_blockOf_3 : decode cX0_blockOf 3 = .ok (.ireturn, 1) := by decide +kernel
theorem dX0_useSlot_0 : decode cX0_useSlot 0 = .ok (.aload_n 0, 1) := by decide +kernel
theorem dX0_useSlot_1 : decode cX0_useSlot 1 = .ok (.dup, 1) := by decide +kernel
theorem dX0_useSlot_2 : decode cX0_useSlot 2 = .ok (.getfield 147, 3) := by decide +kernel
theorem dX0_useSlot_5 : decode cX0_useSlot 5 = .ok (.iconst 1, 1) := by decide +kernel
theorem dX0_useSlot_6 : decode cX0_useSlot 6 = .ok (.iadd, 1) := by decide +kernel
theorem dX0_useSlot_7 : decode cX0_useSlot 7 = .ok (.putfield 147, 3) := by decide +kernel
theorem dX0_useSlot_10 : decode cX0_useSlot 10 = .ok (.aload_n 0, 1) := by decide +kernel
theorem dX0_useSlot_11 : decode cX0_useSlot 11 = .ok (.getfield 27, 3) := by decide +kernel
theorem dX0_useSlot_14 : decode cX0_useSlot 14 = .ok (.iload_n 1, 1) := by decide +kernel
theorem dX0_useSlot_15 : decode cX0_useSlot 15 = .ok (.aload_n 0, 1) := by decide +kernel
theorem dX0_useSlot_16 : decode cX0_useSlot 16 = .ok (.getfield 147, 3) := by decide +kernel
theorem dX0_useSlot_19 : decode cX0_useSlot 19 = .ok (.iastore, 1) := by decide +kernel
theorem dX0_useSlot_20 : decode cX0_useSlot 20 = .ok (.return_, 1) := by decide +kernel
theorem dX0_findRoom_0 : decode cX0_findRoom 0 = .ok (.iconst 0, 1) := by decide +kernel
theorem dX0_findRoom_1 : decode cX0_findRoom 1 = .ok (.istore_n 1, 1) := by decide +kernel
theorem dX0_findRoom_2 : decode cX0_findRoom 2 = .ok (.iconst 0, 1) := by decide +kernel
theorem dX0_findRoom_3 : decode cX0_findRoom 3 = .ok (.istore_n 2, 1) := by decide +kernel
theorem dX0_findRoom_4 : decode cX0_findRoom 4 = .ok (.iload_n 2, 1) := by decide +kernel
theorem dX0_findRoom_5 : decode cX0_findRoom 5 = .ok (.aload_n 0, 1) := by decide +kernel
theorem dX0_findRoom_6 : decode cX0_findRoom 6 = .ok (.getfield 9, 3) := by decide +kernel
theorem dX0_findRoom_9 : decode cX0_findRoom 9 = .ok (.if_icmp .ge 38, 3) := by decide +kernel
theorem dX0_findRoom_12 : decode cX0_findRoom 12 = .ok (.aload_n 0, 1) := by decide +kernel
theorem dX0_findRoom_13 : decode cX0_findRoom 13 = .ok (.getfield 20, 3) := by decide +kernel
theorem dX0_findRoom_16 : decode cX0_findRoom 16 = .ok (.iload_n 2, 1) := by decide +kernel
theorem dX0_findRoom_17 : decode cX0_findRoom 17 = .ok (.iaload, 1) := by decide +kernel
theorem dX0_findRoom_18 : decode cX0_findRoom 18 = .ok (.iconst (-1), 1) := by decide +kernel
theorem dX0_findRoom_19 : decode cX0_findRoom 19 = .ok (.if_icmp .ne 5, 3) := by decide +kernel
theorem dX0_findRoom_22 : decode cX0_findRoom 22 = .ok (.iload_n 2, 1) := by decide +kernel
theorem dX0_findRoom_23 : decode cX0_findRoom 23 = .ok (.ireturn, 1) := by decide +kernel
theorem dX0_findRoom_24 : decode cX0_findRoom 24 = .ok (.aload_n 0, 1) := by decide +kernel
theorem dX0_findRoom_25 : decode cX0_findRoom 25 = .ok (.getfield 27, 3) := by decide +kernel
theorem dX0_findRoom_28 : decode cX0_findRoom 28 = .ok (.iload_n 2, 1) := by decide +kernel
theorem dX0_findRoom_29 : decode cX0_findRoom 29 = .ok (.iaload, 1) := by decide +kernel
theorem dX0_findRoom_30 : decode cX0_findRoom 30 = .ok (.aload_n 0, 1) := by decide +kernel
theorem dX0_findRoom_31 : decode cX0_findRoom 31 = .ok (.getfield 27, 3) := by decide +kernel
theorem dX0_findRoom_34 : decode cX0_findRoom 34 = .ok (.iload_n 1, 1) := by decide +kernel
theorem dX0_findRoom_35 : decode cX0_findRoom 35 = .ok (.iaload, 1) := by decide +kernel
theorem dX0_findRoom_36 : decode cX0_findRoom 36 = .ok (.if_icmp .ge 5, 3) := by decide +kernel
theorem dX0_findRoom_39 : decode cX0_findRoom 39 = .ok (.iload_n 2, 1) := by decide +kernel
theorem dX0_findRoom_40 : decode cX0_findRoom 40 = .ok (.istore_n 1, 1) := by decide +kernel
theorem dX0_findRoom_41 : decode cX0_findRoom 41 = .ok (.iinc 2 1, 3) := by decide +kernel
theorem dX0_findRoom_44 : decode cX0_findRoom 44 = .ok (.goto (-40), 3) := by decide +kernel
theorem dX0_findRoom_47 : decode cX0_findRoom 47 = .ok (.aload_n 0, 1) := by decide +kernel
theorem dX0_findRoom_48 : decode cX0_findRoom 48 = .ok (.iload_n 1, 1) := by decide +kernel
theorem dX0_findRoom_49 : decode cX0_findRoom 49 = .ok (.invokevirtual 100, 3) := by decide +kernel
theorem dX0_findRoom_52 : decode cX0_findRoom 52 = .ok (.pop, 1) := by decide +kernel
theorem dX0_findRoom_53 : decode cX0_findRoom 53 = .ok (.aload_n 0, 1) := by decide +kernel
theorem dX0_findRoom_54 : decode cX0_findRoom 54 = .ok (.iload_n 1, 1) := by decide +kernel
theorem dX0_findRoom_55 : decode cX0_findRoom 55 = .ok (.invokevirtual 159, 3) := by decide +kernel
theorem dX0_findRoom_58 : decode cX0_findRoom 58 = .ok (.iload_n 1, 1) := by decide +kernel
theorem dX0_findRoom_59 : decode cX0_findRoom 59 = .ok (.ireturn, 1) := by decide +kernel
theorem dX0_writeBackIfDirty_0 : decode cX0_writeBackIfDirty 0 = .ok (.aload_n 0, 1) := by decide +kernel
theorem dX0_writeBackIfDirty_1 : decode cX0_writeBackIfDirty 1 = .ok (.getfield 20, 3) := by decide +kernel
theorem dX0_writeBackIfDirty_4 : decode cX0_writeBackIfDirty 4 = .ok (.iload_n 1, 1) := by decide +kernel
theorem dX0_writeBackIfDirty_5 : decode cX0_writeBackIfDirty 5 = .ok (.iaload, 1) := by decide +kernel
theorem dX0_writeBackIfDirty_6 : decode cX0_writeBackIfDirty 6 = .ok (.invokestatic 124, 3) := by decide +kernel
theorem dX0_writeBackIfDirty_9 : decode cX0_writeBackIfDirty 9 = .ok (.ifCond .ne 5, 3) := by decide +kernel
theorem dX0_writeBackIfDirty_12 : decode cX0_writeBackIfDirty 12 = .ok (.iconst 0, 1) := by decide +kernel
theorem dX0_writeBackIfDirty_13 : decode cX0_writeBackIfDirty 13 = .ok (.ireturn, 1) := by decide +kernel
theorem dX0_writeBackIfDirty_14 : decode cX0_writeBackIfDirty 14 = .ok (.aload_n 0, 1) := by decide +kernel
theorem dX0_writeBackIfDirty_15 : decode cX0_writeBackIfDirty 15 = .ok (.aload_n 0, 1) := by decide +kernel
theorem dX0_writeBackIfDirty_16 : decode cX0_writeBackIfDirty 16 = .ok (.getfield 20, 3) := by decide +kernel
theorem dX0_writeBackIfDirty_19 : decode cX0_writeBackIfDirty 19 = .ok (.iload_n 1, 1) := by decide +kernel
theorem dX0_writeBackIfDirty_20 : decode cX0_writeBackIfDirty 20 = .ok (.iaload, 1) := by decide +kernel
theorem dX0_writeBackIfDirty_21 : decode cX0_writeBackIfDirty 21 = .ok (.invokestatic 104, 3) := by decide +kernel
theorem dX0_writeBackIfDirty_24 : decode cX0_writeBackIfDirty 24 = .ok (.aload_n 0, 1) := by decide +kernel
theorem dX0_writeBackIfDirty_25 : decode cX0_writeBackIfDirty 25 = .ok (.getfield 17, 3) := by decide +kernel
theorem dX0_writeBackIfDirty_28 : decode cX0_writeBackIfDirty 28 = .ok (.iload_n 1, 1) := by decide +kernel
theorem dX0_writeBackIfDirty_29 : decode cX0_writeBackIfDirty 29 = .ok (.laload, 1) := by decide +kernel
theorem dX0_writeBackIfDirty_30 : decode cX0_writeBackIfDirty 30 = .ok (.invokevirtual 153, 3) := by decide +kernel
theorem dX0_writeBackIfDirty_33 : decode cX0_writeBackIfDirty 33 = .ok (.aload_n 0, 1) := by decide +kernel
theorem dX0_writeBackIfDirty_34 : decode cX0_writeBackIfDirty 34 = .ok (.iload_n 1, 1) := by decide +kernel
theorem dX0_writeBackIfDirty_35 : decode cX0_writeBackIfDirty 35 = .ok (.invokevirtual 156, 3) := by decide +kernel
theorem dX0_writeBackIfDirty_38 : decode cX0_writeBackIfDirty 38 = .ok (.iconst 1, 1) := by decide +kernel
theorem dX0_writeBackIfDirty_39 : decode cX0_writeBackIfDirty 39 = .ok (.ireturn, 1) := by decide +kernel
theorem dX0_giveOrigin_0 : decode cX0_giveOrigin 0 = .ok (.aload_n 0, 1) := by decide +kernel
theorem dX0_giveOrigin_1 : decode cX0_giveOrigin 1 = .ok (.getfield 13, 3) := by decide +kernel
theorem dX0_giveOrigin_4 : decode cX0_giveOrigin 4 = .ok (.iload_n 1, 1) := by decide +kernel
theorem dX0_giveOrigin_5 : decode cX0_giveOrigin 5 = .ok (.lload_n 2, 1) := by decide +kernel
theorem dX0_giveOrigin_6 : decode cX0_giveOrigin 6 = .ok (.lastore, 1) := by decide +kernel
theorem dX0_giveOrigin_7 : decode cX0_giveOrigin 7 = .ok (.aload_n 0, 1) := by decide +kernel
theorem dX0_giveOrigin_8 : decode cX0_giveOrigin 8 = .ok (.dup, 1) := by decide +kernel
theorem dX0_giveOrigin_9 : decode cX0_giveOrigin 9 = .ok (.getfield 137, 3) := by decide +kernel
theorem dX0_giveOrigin_12 : decode cX0_giveOrigin 12 = .ok (.iconst 1, 1) := by decide +kernel
theorem dX0_giveOrigin_13 : decode cX0_giveOrigin 13 = .ok (.iadd, 1) := by decide +kernel
theorem dX0_giveOrigin_14 : decode cX0_giveOrigin 14 = .ok (.putfield 137, 3) := by decide +kernel
theorem dX0_giveOrigin_17 : decode cX0_giveOrigin 17 = .ok (.return_, 1) := by decide +kernel
theorem dX0_makeClean_0 : decode cX0_makeClean 0 = .ok (.aload_n 0, 1) := by decide +kernel
theorem dX0_makeClean_1 : decode cX0_makeClean 1 = .ok (.getfield 20, 3) := by decide +kernel
theorem dX0_makeClean_4 : decode cX0_makeClean 4 = .ok (.iload_n 1, 1) := by decide +kernel
theorem dX0_makeClean_5 : decode cX0_makeClean 5 = .ok (.aload_n 0, 1) := by decide +kernel
theorem dX0_makeClean_6 : decode cX0_makeClean 6 = .ok (.getfield 20, 3) := by decide +kernel
theorem dX0_makeClean_9 : decode cX0_makeClean 9 = .ok (.iload_n 1, 1) := by decide +kernel
theorem dX0_makeClean_10 : decode cX0_makeClean 10 = .ok (.iaload, 1) := by decide +kernel
theorem dX0_makeClean_11 : decode cX0_makeClean 11 = .ok (.invokestatic 104, 3) := by decide +kernel
theorem dX0_makeClean_14 : decode cX0_makeClean 14 = .ok (.invokestatic 150, 3) := by decide +kernel
theorem dX0_makeClean_17 : decode cX0_makeClean 17 = .ok (.iastore, 1) := by decide +kernel
theorem dX0_makeClean_18 : decode cX0_makeClean 18 = .ok (.aload_n 0, 1) := by decide +kernel
theorem dX0_makeClean_19 : decode cX0_makeClean 19 = .ok (.getfield 24, 3) := by decide +kernel
theorem dX0_makeClean_22 : decode cX0_makeClean 22 = .ok (.iload_n 1, 1) := by decide +kernel
theorem dX0_makeClean_23 : decode cX0_makeClean 23 = .ok (.iaload, 1) := by decide +kernel
theorem dX0_makeClean_24 : decode cX0_makeClean 24 = .ok (.invokestatic 124, 3) := by decide +kernel
theorem dX0_makeClean_27 : decode cX0_makeClean 27 = .ok (.ifCond .eq 8, 3) := by decide +kernel
theorem dX0_makeClean_30 : decode cX0_makeClean 30 = .ok (.aload_n 0, 1) := by decide +kernel
theorem dX0_makeClean_31 : decode cX0_makeClean 31 = .ok (.iload_n 1, 1) := by decide +kernel
theorem dX0_makeClean_32 : decode cX0_makeClean 32 = .ok (.invokevirtual 110, 3) := by decide +kernel
theorem dX0_makeClean_35 : decode cX0_makeClean 35 = .ok (.return_, 1) := by decide +kernel
theorem dX0_cleanForm_0 : decode cX0_cleanForm 0 = .ok (.iconst 2, 1) := by decide +kernel
theorem dX0_cleanForm_1 : decode cX0_cleanForm 1 = .ok (.iload_n 0, 1) := by decide +kernel
theorem dX0_cleanForm_2 : decode cX0_cleanForm 2 = .ok (.imul, 1) := by decide +kernel
theorem dX0_cleanForm_3 : decode cX0_cleanForm 3 = .ok (.ireturn, 1) := by decide +kernel
theorem dX0_makeEmpty_0 : decode cX0_makeEmpty 0 = .ok (.aload_n 0, 1) := by decide +kernel
theorem dX0_makeEmpty_1 : decode cX0_makeEmpty 1 = .ok (.getfield 20, 3) := by decide +kernel
theorem dX0_makeEmpty_4 : decode cX0_makeEmpty 4 = .ok (.iload_n 1, 1) := by decide +kernel
theorem dX0_makeEmpty_5 : decode cX0_makeEmpty 5 = .ok (.iconst (-1), 1) := by decide +kernel
theorem dX0_makeEmpty_6 : decode cX0_makeEmpty 6 = .ok (.iastore, 1) := by decide +kernel
theorem dX0_makeEmpty_7 : decode cX0_makeEmpty 7 = .ok (.aload_n 0, 1) := by decide +kernel
theorem dX0_makeEmpty_8 : decode cX0_makeEmpty 8 = .ok (.getfield 24, 3) := by decide +kernel
theorem dX0_makeEmpty_11 : decode cX0_makeEmpty 11 = .ok (.iload_n 1, 1) := by decide +kernel
theorem dX0_makeEmpty_12 : decode cX0_makeEmpty 12 = .ok (.iaload, 1) := by decide +kernel
theorem dX0_makeEmpty_13 : decode cX0_makeEmpty 13 = .ok (.iconst (-1), 1) := by decide +kernel
theorem dX0_makeEmpty_14 : decode cX0_makeEmpty 14 = .ok (.if_icmp .eq 8, 3) := by decide +kernel
theorem dX0_makeEmpty_17 : decode cX0_makeEmpty 17 = .ok (.aload_n 0, 1) := by decide +kernel
theorem dX0_makeEmpty_18 : decode cX0_makeEmpty 18 = .ok (.iload_n 1, 1) := by decide +kernel
theorem dX0_makeEmpty_19 : decode cX0_makeEmpty 19 = .ok (.invokevirtual 110, 3) := by decide +kernel
theorem dX0_makeEmpty_22 : decode cX0_makeEmpty 22 = .ok (.return_, 1) := by decide +kernel
theorem dX0_keepClean_0 : decode cX0_keepClean 0 = .ok (.aload_n 0, 1) := by decide +kernel
theorem dX0_keepClean_1 : decode cX0_keepClean 1 = .ok (.getfield 20, 3) := by decide +kernel
theorem dX0_keepClean_4 : decode cX0_keepClean 4 = .ok (.iload_n 1, 1) := by decide +kernel
theorem dX0_keepClean_5 : decode cX0_keepClean 5 = .ok (.iload_n 2, 1) := by decide +kernel
theorem dX0_keepClean_6 : decode cX0_keepClean 6 = .ok (.invokestatic 150, 3) := by decide +kernel
theorem dX0_keepClean_9 : decode cX0_keepClean 9 = .ok (.iastore, 1) := by decide +kernel
theorem dX0_keepClean_10 : decode cX0_keepClean 10 = .ok (.aload_n 0, 1) := by decide +kernel
theorem dX0_keepClean_11 : decode cX0_keepClean 11 = .ok (.getfield 17, 3) := by decide +kernel
theorem dX0_keepClean_14 : decode cX0_keepClean 14 = .ok (.iload_n 1, 1) := by decide +kernel
theorem dX0_keepClean_15 : decode cX0_keepClean 15 = .ok (.aload_n 0, 1) := by decide +kernel
theorem dX0_keepClean_16 : decode cX0_keepClean 16 = .ok (.getfield 13, 3) := by decide +kernel
theorem dX0_keepClean_19 : decode cX0_keepClean 19 = .ok (.iload_n 2, 1) := by decide +kernel
theorem dX0_keepClean_20 : decode cX0_keepClean 20 = .ok (.laload, 1) := by decide +kernel
theorem dX0_keepClean_21 : decode cX0_keepClean 21 = .ok (.lastore, 1) := by decide +kernel
theorem dX0_keepClean_22 : decode cX0_keepClean 22 = .ok (.aload_n 0, 1) := by decide +kernel
theorem dX0_keepClean_23 : decode cX0_keepClean 23 = .ok (.iload_n 1, 1) := by decide +kernel
theorem dX0_keepClean_24 : decode cX0_keepClean 24 = .ok (.invokevirtual 47, 3) := by decide +kernel
theorem dX0_keepClean_27 : decode cX0_keepClean 27 = .ok (.return_, 1) := by decide +kernel
theorem dX0_write_0 : decode cX0_write 0 = .ok (.iload_n 1, 1) := by decide +kernel
theorem dX0_write_1 : decode cX0_write 1 = .ok (.invokestatic 36, 3) := by decide +kernel
theorem dX0_write_4 : decode cX0_write 4 = .ok (.aload_n 0, 1) := by decide +kernel
theorem dX0_write_5 : decode cX0_write 5 = .ok (.getfield 53, 3) := by decide +kernel
theorem dX0_write_8 : decode cX0_write 8 = .ok (.iconst 1, 1) := by decide +kernel
theorem dX0_write_9 : decode cX0_write 9 = .ok (.if_icmp .ne 12, 3) := by decide +kernel
theorem dX0_write_12 : decode cX0_write 12 = .ok (.aload_n 0, 1) := by decide +kernel
theorem dX0_write_13 : decode cX0_write 13 = .ok (.iload_n 1, 1) := by decide +kernel
theorem dX0_write_14 : decode cX0_write 14 = .ok (.lload_n 2, 1) := by decide +kernel
theorem dX0_write_15 : decode cX0_write 15 = .ok (.invokevirtual 64, 3) := by decide +kernel
theorem dX0_write_18 : decode cX0_write 18 = .ok (.goto 28, 3) := by decide +kernel
theorem dX0_write_21 : decode cX0_write 21 = .ok (.aload_n 0, 1) := by decide +kernel
theorem dX0_write_22 : decode cX0_write 22 = .ok (.getfield 53, 3) := by decide +kernel
theorem dX0_write_25 : decode cX0_write 25 = .ok (.iconst 2, 1) := by decide +kernel
theorem dX0_write_26 : decode cX0_write 26 = .ok (.if_icmp .ne 12, 3) := by decide +kernel
theorem dX0_write_29 : decode cX0_write 29 = .ok (.aload_n 0, 1) := by decide +kernel
theorem dX0_write_30 : decode cX0_write 30 = .ok (.iload_n 1, 1) := by decide +kernel
theorem dX0_write_31 : decode cX0_write 31 = .ok (.lload_n 2, 1) := by decide +kernel
theorem dX0_write_32 : decode cX0_write 32 = .ok (.invokevirtual 68, 3) := by decide +kernel
theorem dX0_write_35 : decode cX0_write 35 = .ok (.goto 11, 3) := by decide +kernel
theorem dX0_write_38 : decode cX0_write 38 = .ok (.aload_n 0, 1) := by decide +kernel
theorem dX0_write_39 : decode cX0_write 39 = .ok (.iload_n 1, 1) := by decide +kernel
theorem dX0_write_40 : decode cX0_write 40 = .ok (.lload_n 2, 1) := by decide +kernel
theorem dX0_write_41 : decode cX0_write 41 = .ok (.iconst 2, 1) := by decide +kernel
theorem dX0_write_42 : decode cX0_write 42 = .ok (.invokevirtual 71, 3) := by decide +kernel
theorem dX0_write_45 : decode cX0_write 45 = .ok (.pop, 1) := by decide +kernel
theorem dX0_write_46 : decode cX0_write 46 = .ok (.return_, 1) := by decide +kernel
theorem dX0_writeThrough_0 : decode cX0_writeThrough 0 = .ok (.aload_n 0, 1) := by decide +kernel
theorem dX0_writeThrough_1 : decode cX0_writeThrough 1 = .ok (.iload_n 1, 1) := by decide +kernel
theorem dX0_writeThrough_2 : decode cX0_writeThrough 2 = .ok (.lload_n 2, 1) := by decide +kernel
theorem dX0_writeThrough_3 : decode cX0_writeThrough 3 = .ok (.invokevirtual 153, 3) := by decide +kernel
theorem dX0_writeThrough_6 : decode cX0_writeThrough 6 = .ok (.aload_n 0, 1) := by decide +kernel
theorem dX0_writeThrough_7 : decode cX0_writeThrough 7 = .ok (.iload_n 1, 1) := by decide +kernel
theorem dX0_writeThrough_8 : decode cX0_writeThrough 8 = .ok (.invokevirtual 40, 3) := by decide +kernel
theorem dX0_writeThrough_11 : decode cX0_writeThrough 11 = .ok (.istore 4, 2) := by decide +kernel
theorem dX0_writeThrough_13 : decode cX0_writeThrough 13 = .ok (.iload 4, 2) := by decide +kernel
theorem dX0_writeThrough_15 : decode cX0_writeThrough 15 = .ok (.iconst (-1), 1) := by decide +kernel
theorem dX0_writeThrough_16 : decode cX0_writeThrough 16 = .ok (.if_icmp .eq 23, 3) := by decide +kernel
theorem dX0_writeThrough_19 : decode cX0_writeThrough 19 = .ok (.aload_n 0, 1) := by decide +kernel
theorem dX0_writeThrough_20 : decode cX0_writeThrough 20 = .ok (.getfield 17, 3) := by decide +kernel
theorem dX0_writeThrough_23 : decode cX0_writeThrough 23 = .ok (.iload 4, 2) := by decide +kernel
theorem dX0_writeThrough_25 : decode cX0_writeThrough 25 = .ok (.lload_n 2, 1) := by decide +kernel
theorem dX0_writeThrough_26 : decode cX0_writeThrough 26 = .ok (.lastore, 1) := by decide +kernel
theorem dX0_writeThrough_27 : decode cX0_writeThrough 27 = .ok (.aload_n 0, 1) := by decide +kernel
theorem dX0_writeThrough_28 : decode cX0_writeThrough 28 = .ok (.iload 4, 2) := by decide +kernel
theorem dX0_writeThrough_30 : decode cX0_writeThrough 30 = .ok (.invokevirtual 156, 3) := by decide +kernel
theorem dX0_writeThrough_33 : decode cX0_writeThrough 33 = .ok (.aload_n 0, 1) := by decide +kernel
theorem dX0_writeThrough_34 : decode cX0_writeThrough 34 = .ok (.iload 4, 2) := by decide +kernel
theorem dX0_writeThrough_36 : decode cX0_writeThrough 36 = .ok (.invokevirtual 47, 3) := by decide +kernel
theorem dX0_writeThrough_39 : decode cX0_writeThrough 39 = .ok (.return_, 1) := by decide +kernel
theorem dX0_writePast_0 : decode cX0_writePast 0 = .ok (.aload_n 0, 1) := by decide +kernel
theorem dX0_writePast_1 : decode cX0_writePast 1 = .ok (.iload_n 1, 1) := by decide +kernel
theorem dX0_writePast_2 : decode cX0_writePast 2 = .ok (.lload_n 2, 1) := by decide +kernel
theorem dX0_writePast_3 : decode cX0_writePast 3 = .ok (.invokevirtual 153, 3) := by decide +kernel
theorem dX0_writePast_6 : decode cX0_writePast 6 = .ok (.aload_n 0, 1) := by decide +kernel
theorem dX0_writePast_7 : decode cX0_writePast 7 = .ok (.iload_n 1, 1) := by decide +kernel
theorem dX0_writePast_8 : decode cX0_writePast 8 = .ok (.invokevirtual 40, 3) := by decide +kernel
theorem dX0_writePast_11 : decode cX0_writePast 11 = .ok (.istore 4, 2) := by decide +kernel
theorem dX0_writePast_13 : decode cX0_writePast 13 = .ok (.iload 4, 2) := by decide +kernel
theorem dX0_writePast_15 : decode cX0_writePast 15 = .ok (.iconst (-1), 1) := by decide +kernel
theorem dX0_writePast_16 : decode cX0_writePast 16 = .ok (.if_icmp .eq 9, 3) := by decide +kernel
theorem dX0_writePast_19 : decode cX0_writePast 19 = .ok (.aload_n 0, 1) := by decide +kernel
theorem dX0_writePast_20 : decode cX0_writePast 20 = .ok (.iload 4, 2) := by decide +kernel
theorem dX0_writePast_22 : decode cX0_writePast 22 = .ok (.invokevirtual 159, 3) := by decide +kernel
theorem dX0_writePast_25 : decode cX0_writePast 25 = .ok (.return_, 1) := by decide +kernel
theorem dX0_writeInSteps_0 : decode cX0_writeInSteps 0 = .ok (.aload_n 0, 1) := by decide +kernel
theorem dX0_writeInSteps_1 : decode cX0_writeInSteps 1 = .ok (.iload_n 1, 1) := by decide +kernel
theorem dX0_writeInSteps_2 : decode cX0_writeInSteps 2 = .ok (.invokevirtual 40, 3) := by decide +kernel
theorem dX0_writeInSteps_5 : decode cX0_writeInSteps 5 = .ok (.istore 5, 2) := by decide +kernel
theorem dX0_writeInSteps_7 : decode cX0_writeInSteps 7 = .ok (.iload 5, 2) := by decide +kernel
theorem dX0_writeInSteps_9 : decode cX0_writeInSteps 9 = .ok (.iconst (-1), 1) := by decide +kernel
theorem dX0_writeInSteps_10 : decode cX0_writeInSteps 10 = .ok (.if_icmp .ne 24, 3) := by decide +kernel
theorem dX0_writeInSteps_13 : decode cX0_writeInSteps 13 = .ok (.aload_n 0, 1) := by decide +kernel
theorem dX0_writeInSteps_14 : decode cX0_writeInSteps 14 = .ok (.invokevirtual 56, 3) := by decide +kernel
theorem dX0_writeInSteps_17 : decode cX0_writeInSteps 17 = .ok (.istore 5, 2) := by decide +kernel
theorem dX0_writeInSteps_19 : decode cX0_writeInSteps 19 = .ok (.aload_n 0, 1) := by decide +kernel
theorem dX0_writeInSteps_20 : decode cX0_writeInSteps 20 = .ok (.iload 5, 2) := by decide +kernel
theorem dX0_writeInSteps_22 : decode cX0_writeInSteps 22 = .ok (.iload_n 1, 1) := by decide +kernel
theorem dX0_writeInSteps_23 : decode cX0_writeInSteps 23 = .ok (.lload_n 2, 1) := by decide +kernel
theorem dX0_writeInSteps_24 : decode cX0_writeInSteps 24 = .ok (.iload 4, 2) := by decide +kernel
theorem dX0_writeInSteps_26 : decode cX0_writeInSteps 26 = .ok (.invokevirtual 162, 3) := by decide +kernel
theorem dX0_writeInSteps_29 : decode cX0_writeInSteps 29 = .ok (.istore 6, 2) := by decide +kernel
theorem dX0_writeInSteps_31 : decode cX0_writeInSteps 31 = .ok (.goto 44, 3) := by decide +kernel
theorem dX0_writeInSteps_34 : decode cX0_writeInSteps 34 = .ok (.aload_n 0, 1) := by decide +kernel
theorem dX0_writeInSteps_35 : decode cX0_writeInSteps 35 = .ok (.getfield 24, 3) := by decide +kernel
theorem dX0_writeInSteps_38 : decode cX0_writeInSteps 38 = .ok (.iload 5, 2) := by decide +kernel
theorem dX0_writeInSteps_40 : decode cX0_writeInSteps 40 = .ok (.iaload, 1) := by decide +kernel
theorem dX0_writeInSteps_41 : decode cX0_writeInSteps 41 = .ok (.iload_n 1, 1) := by decide +kernel
theorem dX0_writeInSteps_42 : decode cX0_writeInSteps 42 = .ok (.invokestatic 166, 3) := by decide +kernel
theorem dX0_writeInSteps_45 : decode cX0_writeInSteps 45 = .ok (.if_icmp .ne 18, 3) := by decide +kernel
theorem dX0_writeInSteps_48 : decode cX0_writeInSteps 48 = .ok (.aload_n 0, 1) := by decide +kernel
theorem dX0_writeInSteps_49 : decode cX0_writeInSteps 49 = .ok (.iload 5, 2) := by decide +kernel
theorem dX0_writeInSteps_51 : decode cX0_writeInSteps 51 = .ok (.iload_n 1, 1) := by decide +kernel
theorem dX0_writeInSteps_52 : decode cX0_writeInSteps 52 = .ok (.lload_n 2, 1) := by decide +kernel
theorem dX0_writeInSteps_53 : decode cX0_writeInSteps 53 = .ok (.iload 4, 2) := by decide +kernel
theorem dX0_writeInSteps_55 : decode cX0_writeInSteps 55 = .ok (.invokevirtual 169, 3) := by decide +kernel
theorem dX0_writeInSteps_58 : decode cX0_writeInSteps 58 = .ok (.istore 6, 2) := by decide +kernel
theorem dX0_writeInSteps_60 : decode cX0_writeInSteps 60 = .ok (.goto 15, 3) := by decide +kernel
theorem dX0_writeInSteps_63 : decode cX0_writeInSteps 63 = .ok (.aload_n 0, 1) := by decide +kernel
theorem dX0_writeInSteps_64 : decode cX0_writeInSteps 64 = .ok (.iload 5, 2) := by decide +kernel
theorem dX0_writeInSteps_66 : decode cX0_writeInSteps 66 = .ok (.iload_n 1, 1) := by decide +kernel
theorem dX0_writeInSteps_67 : decode cX0_writeInSteps 67 = .ok (.lload_n 2, 1) := by decide +kernel
theorem dX0_writeInSteps_68 : decode cX0_writeInSteps 68 = .ok (.iload 4, 2) := by decide +kernel
theorem dX0_writeInSteps_70 : decode cX0_writeInSteps 70 = .ok (.invokevirtual 172, 3) := by decide +kernel
theorem dX0_writeInSteps_73 : decode cX0_writeInSteps 73 = .ok (.istore 6, 2) := by decide +kernel
theorem dX0_writeInSteps_75 : decode cX0_writeInSteps 75 = .ok (.aload_n 0, 1) := by decide +kernel
theorem dX0_writeInSteps_76 : decode cX0_writeInSteps 76 = .ok (.iload 5, 2) := by decide +kernel
theorem dX0_writeInSteps_78 : decode cX0_writeInSteps 78 = .ok (.invokevirtual 47, 3) := by decide +kernel
theorem dX0_writeInSteps_81 : decode cX0_writeInSteps 81 = .ok (.iload 6, 2) := by decide +kernel
theorem dX0_writeInSteps_83 : decode cX0_writeInSteps 83 = .ok (.ireturn, 1) := by decide +kernel
theorem dX0_fillInSteps_0 : decode cX0_fillInSteps 0 = .ok (.iload 5, 2) := by decide +kernel
theorem dX0_fillInSteps_2 : decode cX0_fillInSteps 2 = .ok (.iconst 1, 1) := by decide +kernel
theorem dX0_fillInSteps_3 : decode cX0_fillInSteps 3 = .ok (.if_icmp .ge 5, 3) := by decide +kernel
theorem dX0_fillInSteps_6 : decode cX0_fillInSteps 6 = .ok (.iconst 0, 1) := by decide +kernel
theorem dX0_fillInSteps_7 : decode cX0_fillInSteps 7 = .ok (.ireturn, 1) := by decide +kernel
theorem dX0_fillInSteps_8 : decode cX0_fillInSteps 8 = .ok (.aload_n 0, 1) := by decide +kernel
theorem dX0_fillInSteps_9 : decode cX0_fillInSteps 9 = .ok (.getfield 20, 3) := by decide +kernel
theorem dX0_fillInSteps_12 : decode cX0_fillInSteps 12 = .ok (.iload_n 1, 1) := by decide +kernel
theorem dX0_fillInSteps_13 : decode cX0_fillInSteps 13 = .ok (.iload_n 2, 1) := by decide +kernel
theorem dX0_fillInSteps_14 : decode cX0_fillInSteps 14 = .ok (.invokestatic 166, 3) := by decide +kernel
theorem dX0_fillInSteps_17 : decode cX0_fillInSteps 17 = .ok (.iastore, 1) := by decide +kernel
theorem dX0_fillInSteps_18 : decode cX0_fillInSteps 18 = .ok (.aload_n 0, 1) := by decide +kernel
theorem dX0_fillInSteps_19 : decode cX0_fillInSteps 19 = .ok (.getfield 17, 3) := by decide +kernel
theorem dX0_fillInSteps_22 : decode cX0_fillInSteps 22 = .ok (.iload_n 1, 1) := by decide +kernel
theorem dX0_fillInSteps_23 : decode cX0_fillInSteps 23 = .ok (.lload_n 3, 1) := by decide +kernel
theorem dX0_fillInSteps_24 : decode cX0_fillInSteps 24 = .ok (.lastore, 1) := by decide +kernel
theorem dX0_fillInSteps_25 : decode cX0_fillInSteps 25 = .ok (.iload 5, 2) := by decide +kernel
theorem dX0_fillInSteps_27 : decode cX0_fillInSteps 27 = .ok (.iconst 2, 1) := by decide +kernel
theorem dX0_fillInSteps_28 : decode cX0_fillInSteps 28 = .ok (.if_icmp .ge 5, 3) := by decide +kernel
theorem dX0_fillInSteps_31 : decode cX0_fillInSteps 31 = .ok (.iconst 1, 1) := by decide +kernel
theorem dX0_fillInSteps_32 : decode cX0_fillInSteps 32 = .ok (.ireturn, 1) := by decide +kernel
theorem dX0_fillInSteps_33 : decode cX0_fillInSteps 33 = .ok (.aload_n 0, 1) := by decide +kernel
theorem dX0_fillInSteps_34 : decode cX0_fillInSteps 34 = .ok (.iload_n 1, 1) := by decide +kernel
theorem dX0_fillInSteps_35 : decode cX0_fillInSteps 35 = .ok (.invokevirtual 110, 3) := by decide +kernel
theorem dX0_fillInSteps_38 : decode cX0_fillInSteps 38 = .ok (.iconst 2, 1) := by decide +kernel
theorem dX0_fillInSteps_39 : decode cX0_fillInSteps 39 = .ok (.ireturn, 1) := by decide +kernel
theorem dX0_dirtyForm_0 : decode cX0_dirtyForm 0 = .ok (.iconst 2, 1) := by decide +kernel
theorem dX0_dirtyForm_1 : decode cX0_dirtyForm 1 = .ok (.iload_n 0, 1) := by decide +kernel
theorem dX0_dirtyForm_2 : decode cX0_dirtyForm 2 = .ok (.imul, 1) := by decide +kernel
theorem dX0_dirtyForm_3 : decode cX0_dirtyForm 3 = .ok (.iconst 1, 1) := by decide +kernel
theorem dX0_dirtyForm_4 : decode cX0_dirtyForm 4 = .ok (.iadd, 1) := by decide +kernel
theorem dX0_dirtyForm_5 : decode cX0_dirtyForm 5 = .ok (.ireturn, 1) := by decide +kernel
theorem dX0_overwriteDirty_0 : decode cX0_overwriteDirty 0 = .ok (.iload 5, 2) := by decide +kernel
theorem dX0_overwriteDirty_2 : decode cX0_overwriteDirty 2 = .ok (.iconst 1, 1) := by decide +kernel
theorem dX0_overwriteDirty_3 : decode cX0_overwriteDirty 3 = .ok (.if_icmp .ge 5, 3) := by decide +kernel
theorem dX0_overwriteDirty_6 : decode cX0_overwriteDirty 6 = .ok (.iconst 0, 1) := by decide +kernel
theorem dX0_overwriteDirty_7 : decode cX0_overwriteDirty 7 = .ok (.ireturn, 1) := by decide +kernel
theorem dX0_overwriteDirty_8 : decode cX0_overwriteDirty 8 = .ok (.aload_n 0, 1) := by decide +kernel
theorem dX0_overwriteDirty_9 : decode cX0_overwriteDirty 9 = .ok (.getfield 20, 3) := by decide +kernel
theorem dX0_overwriteDirty_12 : decode cX0_overwriteDirty 12 = .ok (.iload_n 1, 1) := by decide +kernel
theorem dX0_overwriteDirty_13 : decode cX0_overwriteDirty 13 = .ok (.iload_n 2, 1) := by decide +kernel
theorem dX0_overwriteDirty_14 : decode cX0_overwriteDirty 14 = .ok (.invokestatic 166, 3) := by decide +kernel
theorem dX0_overwriteDirty_17 : decode cX0_overwriteDirty 17 = .ok (.iastore, 1) := by decide +kernel
theorem dX0_overwriteDirty_18 : decode cX0_overwriteDirty 18 = .ok (.aload_n 0, 1) := by decide +kernel
theorem dX0_overwriteDirty_19 : decode cX0_overwriteDirty 19 = .ok (.getfield 17, 3) := by decide +kernel
theorem dX0_overwriteDirty_22 : decode cX0_overwriteDirty 22 = .ok (.iload_n 1, 1) := by decide +kernel
theorem dX0_overwriteDirty_23 : decode cX0_overwriteDirty 23 = .ok (.lload_n 3, 1) := by decide +kernel
theorem dX0_overwriteDirty_24 : decode cX0_overwriteDirty 24 = .ok (.lastore, 1) := by decide +kernel
theorem dX0_overwriteDirty_25 : decode cX0_overwriteDirty 25 = .ok (.iconst 1, 1) := by decide +kernel
theorem dX0_overwriteDirty_26 : decode cX0_overwriteDirty 26 = .ok (.ireturn, 1) := by decide +kernel
theorem dX0_overwriteClean_0 : decode cX0_overwriteClean 0 = .ok (.iload 5, 2) := by decide +kernel
theorem dX0_overwriteClean_2 : decode cX0_overwriteClean 2 = .ok (.iconst 1, 1) := by decide +kernel
theorem dX0_overwriteClean_3 : decode cX0_overwriteClean 3 = .ok (.if_icmp .ge 5, 3) := by decide +kernel
theorem dX0_overwriteClean_6 : decode cX0_overwriteClean 6 = .ok (.iconst 0, 1) := by decide +kernel
theorem dX0_overwriteClean_7 : decode cX0_overwriteClean 7 = .ok (.ireturn, 1) := by decide +kernel
theorem dX0_overwriteClean_8 : decode cX0_overwriteClean 8 = .ok (.aload_n 0, 1) := by decide +kernel
theorem dX0_overwriteClean_9 : decode cX0_overwriteClean 9 = .ok (.getfield 20, 3) := by decide +kernel
theorem dX0_overwriteClean_12 : decode cX0_overwriteClean 12 = .ok (.iload_n 1, 1) := by decide +kernel
theorem dX0_overwriteClean_13 : decode cX0_overwriteClean 13 = .ok (.iload_n 2, 1) := by decide +kernel
theorem dX0_overwriteClean_14 : decode cX0_overwriteClean 14 = .ok (.invokestatic 166, 3) := by decide +kernel
theorem dX0_overwriteClean_17 : decode cX0_overwriteClean 17 = .ok (.iastore, 1) := by decide +kernel
theorem dX0_overwriteClean_18 : decode cX0_overwriteClean 18 = .ok (.aload_n 0, 1) := by decide +kernel
theorem dX0_overwriteClean_19 : decode cX0_overwriteClean 19 = .ok (.iload_n 1, 1) := by decide +kernel
theorem dX0_overwriteClean_20 : decode cX0_overwriteClean 20 = .ok (.invokevirtual 110, 3) := by decide +kernel
theorem dX0_overwriteClean_23 : decode cX0_overwriteClean 23 = .ok (.iload 5, 2) := by decide +kernel
theorem dX0_overwriteClean_25 : decode cX0_overwriteClean 25 = .ok (.iconst 2, 1) := by decide +kernel
theorem dX0_overwriteClean_26 : decode cX0_overwriteClean 26 = .ok (.if_icmp .ge 5, 3) := by decide +kernel
theorem dX0_overwriteClean_29 : decode cX0_overwriteClean 29 = .ok (.iconst 1, 1) := by decide +kernel
theorem dX0_overwriteClean_30 : decode cX0_overwriteClean 30 = .ok (.ireturn, 1) := by decide +kernel
theorem dX0_overwriteClean_31 : decode cX0_overwriteClean 31 = .ok (.aload_n 0, 1) := by decide +kernel
theorem dX0_overwriteClean_32 : decode cX0_overwriteClean 32 = .ok (.getfield 17, 3) := by decide +kernel
theorem dX0_overwriteClean_35 : decode cX0_overwriteClean 35 = .ok (.iload_n 1, 1) := by decide +kernel
theorem dX0_overwriteClean_36 : decode cX0_overwriteClean 36 = .ok (.lload_n 3, 1) := by decide +kernel
theorem dX0_overwriteClean_37 : decode cX0_overwriteClean 37 = .ok (.lastore, 1) := by decide +kernel
theorem dX0_overwriteClean_38 : decode cX0_overwriteClean 38 = .ok (.iconst 2, 1) := by decide +kernel
theorem dX0_overwriteClean_39 : decode cX0_overwriteClean 39 = .ok (.ireturn, 1) := by decide +kernel
theorem dX0_cut_0 : decode cX0_cut 0 = .ok (.iload_n 1, 1) := by decide +kernel
theorem dX0_cut_1 : decode cX0_cut 1 = .ok (.invokestatic 36, 3) := by decide +kernel
theorem dX0_cut_4 : decode cX0_cut 4 = .ok (.iload 4, 2) := by decide +kernel
theorem dX0_cut_6 : decode cX0_cut 6 = .ok (.ifCond .lt 9, 3) := by decide +kernel
theorem dX0_cut_9 : decode cX0_cut 9 = .ok (.iload 4, 2) := by decide +kernel
theorem dX0_cut_11 : decode cX0_cut 11 = .ok (.iconst 2, 1) := by decide +kernel
theorem dX0_cut_12 : decode cX0_cut 12 = .ok (.if_icmp .le 13, 3) := by decide +kernel
theorem dX0_cut_15 : decode cX0_cut 15 = .ok (.new 75, 3) := by decide +kernel
theorem dX0_cut_18 : decode cX0_cut 18 = .ok (.dup, 1) := by decide +kernel
theorem dX0_cut_19 : decode cX0_cut 19 = .ok (.ldc 77, 2) := by decide +kernel
theorem dX0_cut_21 : decode cX0_cut 21 = .ok (.invokespecial 79, 3) := by decide +kernel
theorem dX0_cut_24 : decode cX0_cut 24 = .ok (.athrow, 1) := by decide +kernel
theorem dX0_cut_25 : decode cX0_cut 25 = .ok (.aload_n 0, 1) := by decide +kernel
theorem dX0_cut_26 : decode cX0_cut 26 = .ok (.getfield 53, 3) := by decide +kernel
theorem dX0_cut_29 : decode cX0_cut 29 = .ok (.ifCond .eq 13, 3) := by decide +kernel
theorem dX0_cut_32 : decode cX0_cut 32 = .ok (.new 82, 3) := by decide +kernel
theorem dX0_cut_35 : decode cX0_cut 35 = .ok (.dup, 1) := by decide +kernel
theorem dX0_cut_36 : decode cX0_cut 36 = .ok (.ldc 84, 2) := by decide +kernel
theorem dX0_cut_38 : decode cX0_cut 38 = .ok (.invokespecial 86, 3) := by decide +kernel
theorem dX0_cut_41 : decode cX0_cut 41 = .ok (.athrow, 1) := by decide +kernel
theorem dX0_cut_42 : decode cX0_cut 42 = .ok (.aload_n 0, 1) := by decide +kernel
theorem dX0_cut_43 : decode cX0_cut 43 = .ok (.iload_n 1, 1) := by decide +kernel
theorem dX0_cut_44 : decode cX0_cut 44 = .ok (.lload_n 2, 1) := by decide +kernel
theorem dX0_cut_45 : decode cX0_cut 45 = .ok (.iload 4, 2) := by decide +kernel
theorem dX0_cut_47 : decode cX0_cut 47 = .ok (.invokevirtual 71, 3) := by decide +kernel
theorem dX0_cut_50 : decode cX0_cut 50 = .ok (.istore 5, 2) := by decide +kernel
theorem dX0_cut_52 : decode cX0_cut 52 = .ok (.aload_n 0, 1) := by decide +kernel
theorem dX0_cut_53 : decode cX0_cut 53 = .ok (.invokevirtual 87, 3) := by decide +kernel
theorem dX0_cut_56 : decode cX0_cut 56 = .ok (.iload 5, 2) := by decide +kernel
theorem dX0_cut_58 : decode cX0_cut 58 = .ok (.ireturn, 1) := by decide +kernel
theorem dX0_mode_0 : decode cX0_mode 0 = .ok (.iload_n 1, 1) := by decide +kernel
theorem dX0_mode_1 : decode cX0_mode 1 = .ok (.ifCond .eq 23, 3) := by decide +kernel
theorem dX0_mode_4 : decode cX0_mode 4 = .ok (.iload_n 1, 1) := by decide +kernel
theorem dX0_mode_5 : decode cX0_mode 5 = .ok (.iconst 1, 1) := by decide +kernel
theorem dX0_mode_6 : decode cX0_mode 6 = .ok (.if_icmp .eq 18, 3) := by decide +kernel
theorem dX0_mode_9 : decode cX0_mode 9 = .ok (.iload_n 1, 1) := by decide +kernel
theorem dX0_mode_10 : decode cX0_mode 10 = .ok (.iconst 2, 1) := by decide +kernel
theorem dX0_mode_11 : decode cX0_mode 11 = .ok (.if_icmp .eq 13, 3) := by decide +kernel
theorem dX0_mode_14 : decode cX0_mode 14 = .ok (.new 75, 3) := by decide +kernel
theorem dX0_mode_17 : decode cX0_mode 17 = .ok (.dup, 1) := by decide +kernel
theorem dX0_mode_18 : decode cX0_mode 18 = .ok (.ldc 90, 2) := by decide +kernel
theorem dX0_mode_20 : decode cX0_mode 20 = .ok (.invokespecial 79, 3) := by decide +kernel
theorem dX0_mode_23 : decode cX0_mode 23 = .ok (.athrow, 1) := by decide +kernel
theorem dX0_mode_24 : decode cX0_mode 24 = .ok (.aload_n 0, 1) := by decide +kernel
theorem dX0_mode_25 : decode cX0_mode 25 = .ok (.iload_n 1, 1) := by decide +kernel
theorem dX0_mode_26 : decode cX0_mode 26 = .ok (.putfield 53, 3) := by decide +kernel
theorem dX0_mode_29 : decode cX0_mode 29 = .ok (.iload_n 1, 1) := by decide +kernel
theorem dX0_mode_30 : decode cX0_mode 30 = .ok (.ifCond .ne 7, 3) := by decide +kernel
theorem dX0_mode_33 : decode cX0_mode 33 = .ok (.iconst 0, 1) := by decide +kernel
theorem dX0_mode_34 : decode cX0_mode 34 = .ok (.goto 7, 3) := by decide +kernel
theorem dX0_mode_37 : decode cX0_mode 37 = .ok (.aload_n 0, 1) := by decide +kernel
theorem dX0_mode_38 : decode cX0_mode 38 = .ok (.invokevirtual 92, 3) := by decide +kernel
theorem dX0_mode_41 : decode cX0_mode 41 = .ok (.ireturn, 1) := by decide +kernel
theorem dX0_writeAllBack_0 : decode cX0_writeAllBack 0 = .ok (.iconst 0, 1) := by decide +kernel
theorem dX0_writeAllBack_1 : decode cX0_writeAllBack 1 = .ok (.istore_n 1, 1) := by decide +kernel
theorem dX0_writeAllBack_2 : decode cX0_writeAllBack 2 = .ok (.iconst 0, 1) := by decide +kernel
theorem dX0_writeAllBack_3 : decode cX0_writeAllBack 3 = .ok (.istore_n 2, 1) := by decide +kernel
theorem dX0_writeAllBack_4 : decode cX0_writeAllBack 4 = .ok (.iload_n 2, 1) := by decide +kernel
theorem dX0_writeAllBack_5 : decode cX0_writeAllBack 5 = .ok (.aload_n 0, 1) := by decide +kernel
theorem dX0_writeAllBack_6 : decode cX0_writeAllBack 6 = .ok (.getfield 9, 3) := by decide +kernel
theorem dX0_writeAllBack_9 : decode cX0_writeAllBack 9 = .ok (.if_icmp .ge 20, 3) := by decide +kernel
theorem dX0_writeAllBack_12 : decode cX0_writeAllBack 12 = .ok (.aload_n 0, 1) := by decide +kernel
theorem dX0_writeAllBack_13 : decode cX0_writeAllBack 13 = .ok (.iload_n 2, 1) := by decide +kernel
theorem dX0_writeAllBack_14 : decode cX0_writeAllBack 14 = .ok (.invokevirtual 100, 3) := by decide +kernel
theorem dX0_writeAllBack_17 : decode cX0_writeAllBack 17 = .ok (.ifCond .eq 6, 3) := by decide +kernel
theorem dX0_writeAllBack_20 : decode cX0_writeAllBack 20 = .ok (.iinc 1 1, 3) := by decide +kernel
theorem dX0_writeAllBack_23 : decode cX0_writeAllBack 23 = .ok (.iinc 2 1, 3) := by decide +kernel
theorem dX0_writeAllBack_26 : decode cX0_writeAllBack 26 = .ok (.goto (-22), 3) := by decide +kernel
theorem dX0_writeAllBack_29 : decode cX0_writeAllBack 29 = .ok (.iload_n 1, 1) := by decide +kernel
theorem dX0_writeAllBack_30 : decode cX0_writeAllBack 30 = .ok (.ireturn, 1) := by decide +kernel
theorem dX0_back_0 : decode cX0_back 0 = .ok (.iload_n 1, 1) := by decide +kernel
theorem dX0_back_1 : decode cX0_back 1 = .ok (.ifCond .lt 9, 3) := by decide +kernel
theorem dX0_back_4 : decode cX0_back 4 = .ok (.iload_n 1, 1) := by decide +kernel
theorem dX0_back_5 : decode cX0_back 5 = .ok (.bipush 12, 2) := by decide +kernel
theorem dX0_back_7 : decode cX0_back 7 = .ok (.if_icmp .le 13, 3) := by decide +kernel
theorem dX0_back_10 : decode cX0_back 10 = .ok (.new 75, 3) := by decide +kernel
theorem dX0_back_13 : decode cX0_back 13 = .ok (.dup, 1) := by decide +kernel
theorem dX0_back_14 : decode cX0_back 14 = .ok (.ldc 95, 2) := by decide +kernel
theorem dX0_back_16 : decode cX0_back 16 = .ok (.invokespecial 79, 3) := by decide +kernel
theorem dX0_back_19 : decode cX0_back 19 = .ok (.athrow, 1) := by decide +kernel
theorem dX0_back_20 : decode cX0_back 20 = .ok (.iconst 0, 1) := by decide +kernel
theorem dX0_back_21 : decode cX0_back 21 = .ok (.istore_n 2, 1) := by decide +kernel
theorem dX0_back_22 : decode cX0_back 22 = .ok (.iload_n 2, 1) := by decide +kernel
theorem dX0_back_23 : decode cX0_back 23 = .ok (.iload_n 1, 1) := by decide +kernel
theorem dX0_back_24 : decode cX0_back 24 = .ok (.if_icmp .ge 42, 3) := by decide +kernel
theorem dX0_back_27 : decode cX0_back 27 = .ok (.aload_n 0, 1) := by decide +kernel
theorem dX0_back_28 : decode cX0_back 28 = .ok (.invokevirtual 97, 3) := by decide +kernel
theorem dX0_back_31 : decode cX0_back 31 = .ok (.istore_n 3, 1) := by decide +kernel
theorem dX0_back_32 : decode cX0_back 32 = .ok (.iload_n 3, 1) := by decide +kernel
theorem dX0_back_33 : decode cX0_back 33 = .ok (.iconst (-1), 1) := by decide +kernel
theorem dX0_back_34 : decode cX0_back 34 = .ok (.if_icmp .ne 5, 3) := by decide +kernel
theorem dX0_back_37 : decode cX0_back 37 = .ok (.iload_n 2, 1) := by decide +kernel
theorem dX0_back_38 : decode cX0_back 38 = .ok (.ireturn, 1) := by decide +kernel
theorem dX0_back_39 : decode cX0_back 39 = .ok (.aload_n 0, 1) := by decide +kernel
theorem dX0_back_40 : decode cX0_back 40 = .ok (.iload_n 3, 1) := by decide +kernel
theorem dX0_back_41 : decode cX0_back 41 = .ok (.invokevirtual 100, 3) := by decide +kernel
theorem dX0_back_44 : decode cX0_back 44 = .ok (.pop, 1) := by decide +kernel
theorem dX0_back_45 : decode cX0_back 45 = .ok (.aload_n 0, 1) := by decide +kernel
theorem dX0_back_46 : decode cX0_back 46 = .ok (.aload_n 0, 1) := by decide +kernel
theorem dX0_back_47 : decode cX0_back 47 = .ok (.getfield 20, 3) := by decide +kernel
theorem dX0_back_50 : decode cX0_back 50 = .ok (.iload_n 3, 1) := by decide +kernel
theorem dX0_back_51 : decode cX0_back 51 = .ok (.iaload, 1) := by decide +kernel
theorem dX0_back_52 : decode cX0_back 52 = .ok (.invokestatic 104, 3) := by decide +kernel
theorem dX0_back_55 : decode cX0_back 55 = .ok (.iconst 1, 1) := by decide +kernel
theorem dX0_back_56 : decode cX0_back 56 = .ok (.iadd, 1) := by decide +kernel
theorem dX0_back_57 : decode cX0_back 57 = .ok (.putfield 107, 3) := by decide +kernel
theorem dX0_back_60 : decode cX0_back 60 = .ok (.iinc 2 1, 3) := by decide +kernel
theorem dX0_back_63 : decode cX0_back 63 = .ok (.goto (-41), 3) := by decide +kernel
theorem dX0_back_66 : decode cX0_back 66 = .ok (.iload_n 1, 1) := by decide +kernel
theorem dX0_back_67 : decode cX0_back 67 = .ok (.ireturn, 1) := by decide +kernel
theorem dX0_nextForHand_0 : decode cX0_nextForHand 0 = .ok (.aload_n 0, 1) := by decide +kernel
theorem dX0_nextForHand_1 : decode cX0_nextForHand 1 = .ok (.aload_n 0, 1) := by decide +kernel
theorem dX0_nextForHand_2 : decode cX0_nextForHand 2 = .ok (.getfield 107, 3) := by decide +kernel
theorem dX0_nextForHand_5 : decode cX0_nextForHand 5 = .ok (.invokevirtual 175, 3) := by decide +kernel
theorem dX0_nextForHand_8 : decode cX0_nextForHand 8 = .ok (.istore_n 1, 1) := by decide +kernel
theorem dX0_nextForHand_9 : decode cX0_nextForHand 9 = .ok (.iload_n 1, 1) := by decide +kernel
theorem dX0_nextForHand_10 : decode cX0_nextForHand 10 = .ok (.iconst (-1), 1) := by decide +kernel
theorem dX0_nextForHand_11 : decode cX0_nextForHand 11 = .ok (.if_icmp .eq 7, 3) := by decide +kernel
theorem dX0_nextForHand_14 : decode cX0_nextForHand 14 = .ok (.iload_n 1, 1) := by decide +kernel
theorem dX0_nextForHand_15 : decode cX0_nextForHand 15 = .ok (.goto 8, 3) := by decide +kernel
theorem dX0_nextForHand_18 : decode cX0_nextForHand 18 = .ok (.aload_n 0, 1) := by decide +kernel
theorem dX0_nextForHand_19 : decode cX0_nextForHand 19 = .ok (.iconst 0, 1) := by decide +kernel
theorem dX0_nextForHand_20 : decode cX0_nextForHand 20 = .ok (.invokevirtual 175, 3) := by decide +kernel
theorem dX0_nextForHand_23 : decode cX0_nextForHand 23 = .ok (.ireturn, 1) := by decide +kernel
theorem dX0_leastDirtyFrom_0 : decode cX0_leastDirtyFrom 0 = .ok (.iconst (-1), 1) := by decide +kernel
theorem dX0_leastDirtyFrom_1 : decode cX0_leastDirtyFrom 1 = .ok (.istore_n 2, 1) := by decide +kernel
theorem dX0_leastDirtyFrom_2 : decode cX0_leastDirtyFrom 2 = .ok (.bipush 64, 2) := by decide +kernel
theorem dX0_leastDirtyFrom_4 : decode cX0_leastDirtyFrom 4 = .ok (.istore_n 3, 1) := by decide +kernel
theorem dX0_leastDirtyFrom_5 : decode cX0_leastDirtyFrom 5 = .ok (.iconst 0, 1) := by decide +kernel
theorem dX0_leastDirtyFrom_6 : decode cX0_leastDirtyFrom 6 = .ok (.istore 4, 2) := by decide +kernel
theorem dX0_leastDirtyFrom_8 : decode cX0_leastDirtyFrom 8 = .ok (.iload 4, 2) := by decide +kernel
theorem dX0_leastDirtyFrom_10 : decode cX0_leastDirtyFrom 10 = .ok (.aload_n 0, 1) := by decide +kernel
theorem dX0_leastDirtyFrom_11 : decode cX0_leastDirtyFrom 11 = .ok (.getfield 9, 3) := by decide +kernel
theorem dX0_leastDirtyFrom_14 : decode cX0_leastDirtyFrom 14 = .ok (.if_icmp .ge 52, 3) := by decide +kernel
theorem dX0_leastDirtyFrom_17 : decode cX0_leastDirtyFrom 17 = .ok (.aload_n 0, 1) := by decide +kernel
theorem dX0_leastDirtyFrom_18 : decode cX0_leastDirtyFrom 18 = .ok (.getfield 20, 3) := by decide +kernel
theorem dX0_leastDirtyFrom_21 : decode cX0_leastDirtyFrom 21 = .ok (.iload 4, 2) := by decide +kernel
theorem dX0_leastDirtyFrom_23 : decode cX0_leastDirtyFrom 23 = .ok (.iaload, 1) := by decide +kernel
theorem dX0_leastDirtyFrom_24 : decode cX0_leastDirtyFrom 24 = .ok (.invokestatic 104, 3) := by decide +kernel
theorem dX0_leastDirtyFrom_27 : decode cX0_leastDirtyFrom 27 = .ok (.istore 5, 2) := by decide +kernel
theorem dX0_leastDirtyFrom_29 : decode cX0_leastDirtyFrom 29 = .ok (.aload_n 0, 1) := by decide +kernel
theorem dX0_leastDirtyFrom_30 : decode cX0_leastDirtyFrom 30 = .ok (.getfield 20, 3) := by decide +kernel
theorem dX0_leastDirtyFrom_33 : decode cX0_leastDirtyFrom 33 = .ok (.iload 4, 2) := by decide +kernel
theorem dX0_leastDirtyFrom_35 : decode cX0_leastDirtyFrom 35 = .ok (.iaload, 1) := by decide +kernel
theorem dX0_leastDirtyFrom_36 : decode cX0_leastDirtyFrom 36 = .ok (.invokestatic 124, 3) := by decide +kernel
theorem dX0_leastDirtyFrom_39 : decode cX0_leastDirtyFrom 39 = .ok (.ifCond .eq 21, 3) := by decide +kernel
theorem dX0_leastDirtyFrom_42 : decode cX0_leastDirtyFrom 42 = .ok (.iload 5, 2) := by decide +kernel
theorem dX0_leastDirtyFrom_44 : decode cX0_leastDirtyFrom 44 = .ok (.iload_n 1, 1) := by decide +kernel
theorem dX0_leastDirtyFrom_45 : decode cX0_leastDirtyFrom 45 = .ok (.if_icmp .lt 15, 3) := by decide +kernel
theorem dX0_leastDirtyFrom_48 : decode cX0_leastDirtyFrom 48 = .ok (.iload 5, 2) := by decide +kernel
theorem dX0_leastDirtyFrom_50 : decode cX0_leastDirtyFrom 50 = .ok (.iload_n 3, 1) := by decide +kernel
theorem dX0_leastDirtyFrom_51 : decode cX0_leastDirtyFrom 51 = .ok (.if_icmp .ge 9, 3) := by decide +kernel
theorem dX0_leastDirtyFrom_54 : decode cX0_leastDirtyFrom 54 = .ok (.iload 4, 2) := by decide +kernel
theorem dX0_leastDirtyFrom_56 : decode cX0_leastDirtyFrom 56 = .ok (.istore_n 2, 1) := by decide +kernel
theorem dX0_leastDirtyFrom_57 : decode cX0_leastDirtyFrom 57 = .ok (.iload 5, 2) := by decide +kernel
theorem dX0_leastDirtyFrom_59 : decode cX0_leastDirtyFrom 59 = .ok (.istore_n 3, 1) := by decide +kernel
theorem dX0_leastDirtyFrom_60 : decode cX0_leastDirtyFrom 60 = .ok (.iinc 4 1, 3) := by decide +kernel
theorem dX0_leastDirtyFrom_63 : decode cX0_leastDirtyFrom 63 = .ok (.goto (-55), 3) := by decide +kernel
theorem dX0_leastDirtyFrom_66 : decode cX0_leastDirtyFrom 66 = .ok (.iload_n 2, 1) := by decide +kernel
theorem dX0_leastDirtyFrom_67 : decode cX0_leastDirtyFrom 67 = .ok (.ireturn, 1) := by decide +kernel
theorem dX0_slot_0 : decode cX0_slot 0 = .ok (.iload_n 1, 1) := by decide +kernel
theorem dX0_slot_1 : decode cX0_slot 1 = .ok (.invokestatic 36, 3) := by decide +kernel
theorem dX0_slot_4 : decode cX0_slot 4 = .ok (.aload_n 0, 1) := by decide +kernel
theorem dX0_slot_5 : decode cX0_slot 5 = .ok (.iload_n 1, 1) := by decide +kernel
theorem dX0_slot_6 : decode cX0_slot 6 = .ok (.invokevirtual 40, 3) := by decide +kernel
theorem dX0_slot_9 : decode cX0_slot 9 = .ok (.ireturn, 1) := by decide +kernel
theorem dX0_dirty_0 : decode cX0_dirty 0 = .ok (.iload_n 1, 1) := by decide +kernel
theorem dX0_dirty_1 : decode cX0_dirty 1 = .ok (.invokestatic 36, 3) := by decide +kernel
theorem dX0_dirty_4 : decode cX0_dirty 4 = .ok (.aload_n 0, 1) := by decide +kernel
theorem dX0_dirty_5 : decode cX0_dirty 5 = .ok (.iload_n 1, 1) := by decide +kernel
theorem dX0_dirty_6 : decode cX0_dirty 6 = .ok (.invokevirtual 40, 3) := by decide +kernel
theorem dX0_dirty_9 : decode cX0_dirty 9 = .ok (.istore_n 2, 1) := by decide +kernel
theorem dX0_dirty_10 : decode cX0_dirty 10 = .ok (.iload_n 2, 1) := by decide +kernel
theorem dX0_dirty_11 : decode cX0_dirty 11 = .ok (.iconst (-1), 1) := by decide +kernel
theorem dX0_dirty_12 : decode cX0_dirty 12 = .ok (.if_icmp .ne 13, 3) := by decide +kernel
theorem dX0_dirty_15 : decode cX0_dirty 15 = .ok (.new 119, 3) := by decide +kernel
theorem dX0_dirty_18 : decode cX0_dirty 18 = .ok (.dup, 1) := by decide +kernel
theorem dX0_dirty_19 : decode cX0_dirty 19 = .ok (.ldc 121, 2) := by decide +kernel
theorem dX0_dirty_21 : decode cX0_dirty 21 = .ok (.invokespecial 123, 3) := by decide +kernel
theorem dX0_dirty_24 : decode cX0_dirty 24 = .ok (.athrow, 1) := by decide +kernel
theorem dX0_dirty_25 : decode cX0_dirty 25 = .ok (.aload_n 0, 1) := by decide +kernel
theorem dX0_dirty_26 : decode cX0_dirty 26 = .ok (.getfield 20, 3) := by decide +kernel
theorem dX0_dirty_29 : decode cX0_dirty 29 = .ok (.iload_n 2, 1) := by decide +kernel
theorem dX0_dirty_30 : decode cX0_dirty 30 = .ok (.iaload, 1) := by decide +kernel
theorem dX0_dirty_31 : decode cX0_dirty 31 = .ok (.invokestatic 124, 3) := by decide +kernel
theorem dX0_dirty_34 : decode cX0_dirty 34 = .ok (.ireturn, 1) := by decide +kernel
theorem dX0_origin_0 : decode cX0_origin 0 = .ok (.iload_n 1, 1) := by decide +kernel
theorem dX0_origin_1 : decode cX0_origin 1 = .ok (.invokestatic 36, 3) := by decide +kernel
theorem dX0_origin_4 : decode cX0_origin 4 = .ok (.aload_n 0, 1) := by decide +kernel
theorem dX0_origin_5 : decode cX0_origin 5 = .ok (.getfield 13, 3) := by decide +kernel
theorem dX0_origin_8 : decode cX0_origin 8 = .ok (.iload_n 1, 1) := by decide +kernel
theorem dX0_origin_9 : decode cX0_origin 9 = .ok (.laload, 1) := by decide +kernel
theorem dX0_origin_10 : decode cX0_origin 10 = .ok (.lreturn, 1) := by decide +kernel
theorem dX0_order_0 : decode cX0_order 0 = .ok (.iconst 0, 1) := by decide +kernel
theorem dX0_order_1 : decode cX0_order 1 = .ok (.istore_n 2, 1) := by decide +kernel
theorem dX0_order_2 : decode cX0_order 2 = .ok (.iload_n 2, 1) := by decide +kernel
theorem dX0_order_3 : decode cX0_order 3 = .ok (.aload_n 0, 1) := by decide +kernel
theorem dX0_order_4 : decode cX0_order 4 = .ok (.getfield 9, 3) := by decide +kernel
theorem dX0_order_7 : decode cX0_order 7 = .ok (.if_icmp .ge 38, 3) := by decide +kernel
theorem dX0_order_10 : decode cX0_order 10 = .ok (.aload_n 0, 1) := by decide +kernel
theorem dX0_order_11 : decode cX0_order 11 = .ok (.getfield 20, 3) := by decide +kernel
theorem dX0_order_14 : decode cX0_order 14 = .ok (.iload_n 2, 1) := by decide +kernel
theorem dX0_order_15 : decode cX0_order 15 = .ok (.iaload, 1) := by decide +kernel
theorem dX0_order_16 : decode cX0_order 16 = .ok (.iconst (-1), 1) := by decide +kernel
theorem dX0_order_17 : decode cX0_order 17 = .ok (.if_icmp .eq 22, 3) := by decide +kernel
theorem dX0_order_20 : decode cX0_order 20 = .ok (.aload_n 0, 1) := by decide +kernel
theorem dX0_order_21 : decode cX0_order 21 = .ok (.iload_n 2, 1) := by decide +kernel
theorem dX0_order_22 : decode cX0_order 22 = .ok (.invokevirtual 127, 3) := by decide +kernel
theorem dX0_order_25 : decode cX0_order 25 = .ok (.iload_n 1, 1) := by decide +kernel
theorem dX0_order_26 : decode cX0_order 26 = .ok (.if_icmp .ne 13, 3) := by decide +kernel
theorem dX0_order_29 : decode cX0_order 29 = .ok (.aload_n 0, 1) := by decide +kernel
theorem dX0_order_30 : decode cX0_order 30 = .ok (.getfield 20, 3) := by decide +kernel
theorem dX0_order_33 : decode cX0_order 33 = .ok (.iload_n 2, 1) := by decide +kernel
theorem dX0_order_34 : decode cX0_order 34 = .ok (.iaload, 1) := by decide +kernel
theorem dX0_order_35 : decode cX0_order 35 = .ok (.invokestatic 104, 3) := by decide +kernel
theorem dX0_order_38 : decode cX0_order 38 = .ok (.ireturn, 1) := by decide +kernel
theorem dX0_order_39 : decode cX0_order 39 = .ok (.iinc 2 1, 3) := by decide +kernel
theorem dX0_order_42 : decode cX0_order 42 = .ok (.goto (-40), 3) := by decide +kernel
theorem dX0_order_45 : decode cX0_order 45 = .ok (.new 130, 3) := by decide +kernel
theorem dX0_order_48 : decode cX0_order 48 = .ok (.dup, 1) := by decide +kernel
theorem dX0_order_49 : decode cX0_order 49 = .ok (.ldc 132, 2) := by decide +kernel
theorem dX0_order_51 : decode cX0_order 51 = .ok (.invokespecial 134, 3) := by decide +kernel
theorem dX0_order_54 : decode cX0_order 54 = .ok (.athrow, 1) := by decide +kernel
theorem dX0_countUsedAfter_0 : decode cX0_countUsedAfter 0 = .ok (.iconst 0, 1) := by decide +kernel
theorem dX0_countUsedAfter_1 : decode cX0_countUsedAfter 1 = .ok (.istore_n 2, 1) := by decide +kernel
theorem dX0_countUsedAfter_2 : decode cX0_countUsedAfter 2 = .ok (.iconst 0, 1) := by decide +kernel
theorem dX0_countUsedAfter_3 : decode cX0_countUsedAfter 3 = .ok (.istore_n 3, 1) := by decide +kernel
theorem dX0_countUsedAfter_4 : decode cX0_countUsedAfter 4 = .ok (.iload_n 3, 1) := by decide +kernel
theorem dX0_countUsedAfter_5 : decode cX0_countUsedAfter 5 = .ok (.aload_n 0, 1) := by decide +kernel
theorem dX0_countUsedAfter_6 : decode cX0_countUsedAfter 6 = .ok (.getfield 9, 3) := by decide +kernel
theorem dX0_countUsedAfter_9 : decode cX0_countUsedAfter 9 = .ok (.if_icmp .ge 37, 3) := by decide +kernel
theorem dX0_countUsedAfter_12 : decode cX0_countUsedAfter 12 = .ok (.aload_n 0, 1) := by decide +kernel
theorem dX0_countUsedAfter_13 : decode cX0_countUsedAfter 13 = .ok (.getfield 20, 3) := by decide +kernel
theorem dX0_countUsedAfter_16 : decode cX0_countUsedAfter 16 = .ok (.iload_n 3, 1) := by decide +kernel
theorem dX0_countUsedAfter_17 : decode cX0_countUsedAfter 17 = .ok (.iaload, 1) := by decide +kernel
theorem dX0_countUsedAfter_18 : decode cX0_countUsedAfter 18 = .ok (.iconst (-1), 1) := by decide +kernel
theorem dX0_countUsedAfter_19 : decode cX0_countUsedAfter 19 = .ok (.if_icmp .eq 21, 3) := by decide +kernel
theorem dX0_countUsedAfter_22 : decode cX0_countUsedAfter 22 = .ok (.aload_n 0, 1) := by decide +kernel
theorem dX0_countUsedAfter_23 : decode cX0_countUsedAfter 23 = .ok (.getfield 27, 3) := by decide +kernel
theorem dX0_countUsedAfter_26 : decode cX0_countUsedAfter 26 = .ok (.iload_n 3, 1) := by decide +kernel
theorem dX0_countUsedAfter_27 : decode cX0_countUsedAfter 27 = .ok (.iaload, 1) := by decide +kernel
theorem dX0_countUsedAfter_28 : decode cX0_countUsedAfter 28 = .ok (.aload_n 0, 1) := by decide +kernel
theorem dX0_countUsedAfter_29 : decode cX0_countUsedAfter 29 = .ok (.getfield 27, 3) := by decide +kernel
theorem dX0_countUsedAfter_32 : decode cX0_countUsedAfter 32 = .ok (.iload_n 1, 1) := by decide +kernel
theorem dX0_countUsedAfter_33 : decode cX0_countUsedAfter 33 = .ok (.iaload, 1) := by decide +kernel
theorem dX0_countUsedAfter_34 : decode cX0_countUsedAfter 34 = .ok (.if_icmp .le 6, 3) := by decide +kernel
theorem dX0_countUsedAfter_37 : decode cX0_countUsedAfter 37 = .ok (.iinc 2 1, 3) := by decide +kernel
theorem dX0_countUsedAfter_40 : decode cX0_countUsedAfter 40 = .ok (.iinc 3 1, 3) := by decide +kernel
theorem dX0_countUsedAfter_43 : decode cX0_countUsedAfter 43 = .ok (.goto (-39), 3) := by decide +kernel
theorem dX0_countUsedAfter_46 : decode cX0_countUsedAfter 46 = .ok (.iload_n 2, 1) := by decide +kernel
theorem dX0_countUsedAfter_47 : decode cX0_countUsedAfter 47 = .ok (.ireturn, 1) := by decide +kernel
theorem dX0_noted_0 : decode cX0_noted 0 = .ok (.iload_n 1, 1) := by decide +kernel
theorem dX0_noted_1 : decode cX0_noted 1 = .ok (.ifCond .lt 11, 3) := by decide +kernel
theorem dX0_noted_4 : decode cX0_noted 4 = .ok (.iload_n 1, 1) := by decide +kernel
theorem dX0_noted_5 : decode cX0_noted 5 = .ok (.aload_n 0, 1) := by decide +kernel
theorem dX0_noted_6 : decode cX0_noted 6 = .ok (.getfield 9, 3) := by decide +kernel
theorem dX0_noted_9 : decode cX0_noted 9 = .ok (.if_icmp .lt 13, 3) := by decide +kernel
theorem dX0_noted_12 : decode cX0_noted 12 = .ok (.new 130, 3) := by decide +kernel
theorem dX0_noted_15 : decode cX0_noted 15 = .ok (.dup, 1) := by decide +kernel
theorem dX0_noted_16 : decode cX0_noted 16 = .ok (.ldc 135, 2) := by decide +kernel
theorem dX0_noted_18 : decode cX0_noted 18 = .ok (.invokespecial 134, 3) := by decide +kernel
theorem dX0_noted_21 : decode cX0_noted 21 = .ok (.athrow, 1) := by decide +kernel
theorem dX0_noted_22 : decode cX0_noted 22 = .ok (.aload_n 0, 1) := by decide +kernel
theorem dX0_noted_23 : decode cX0_noted 23 = .ok (.getfield 24, 3) := by decide +kernel
theorem dX0_noted_26 : decode cX0_noted 26 = .ok (.iload_n 1, 1) := by decide +kernel
theorem dX0_noted_27 : decode cX0_noted 27 = .ok (.iaload, 1) := by decide +kernel
theorem dX0_noted_28 : decode cX0_noted 28 = .ok (.ireturn, 1) := by decide +kernel
theorem dX0_figure_0 : decode cX0_figure 0 = .ok (.iload_n 1, 1) := by decide +kernel
theorem dX0_figure_1 : decode cX0_figure 1 = .ok (.tableswitch 87 0 7 #[47, 52, 57, 62, 67, 72, 77, 82], 47) := by decide +kernel
theorem dX0_figure_48 : decode cX0_figure 48 = .ok (.aload_n 0, 1) := by decide +kernel
theorem dX0_figure_49 : decode cX0_figure 49 = .ok (.getfield 44, 3) := by decide +kernel
theorem dX0_figure_52 : decode cX0_figure 52 = .ok (.ireturn, 1) := by decide +kernel
theorem dX0_figure_53 : decode cX0_figure 53 = .ok (.aload_n 0, 1) := by decide +kernel
theorem dX0_figure_54 : decode cX0_figure 54 = .ok (.getfield 50, 3) := by decide +kernel
theorem dX0_figure_57 : decode cX0_figure 57 = .ok (.ireturn, 1) := by decide +kernel
theorem dX0_figure_58 : decode cX0_figure 58 = .ok (.aload_n 0, 1) := by decide +kernel
theorem dX0_figure_59 : decode cX0_figure 59 = .ok (.getfield 137, 3) := by decide +kernel
theorem dX0_figure_62 : decode cX0_figure 62 = .ok (.ireturn, 1) := by decide +kernel
theorem dX0_figure_63 : decode cX0_figure 63 = .ok (.aload_n 0, 1) := by decide +kernel
theorem dX0_figure_64 : decode cX0_figure 64 = .ok (.getfield 140, 3) := by decide +kernel
theorem dX0_figure_67 : decode cX0_figure 67 = .ok (.ireturn, 1) := by decide +kernel
theorem dX0_figure_68 : decode cX0_figure 68 = .ok (.aload_n 0, 1) := by decide +kernel
theorem dX0_figure_69 : decode cX0_figure 69 = .ok (.invokevirtual 113, 3) := by decide +kernel
theorem dX0_figure_72 : decode cX0_figure 72 = .ok (.ireturn, 1) := by decide +kernel
theorem dX0_figure_73 : decode cX0_figure 73 = .ok (.aload_n 0, 1) := by decide +kernel
theorem dX0_figure_74 : decode cX0_figure 74 = .ok (.invokevirtual 116, 3) := by decide +kernel
theorem dX0_figure_77 : decode cX0_figure 77 = .ok (.ireturn, 1) := by decide +kernel
theorem dX0_figure_78 : decode cX0_figure 78 = .ok (.aload_n 0, 1) := by decide +kernel
theorem dX0_figure_79 : decode cX0_figure 79 = .ok (.getfield 53, 3) := by decide +kernel
theorem dX0_figure_82 : decode cX0_figure 82 = .ok (.ireturn, 1) := by decide +kernel
theorem dX0_figure_83 : decode cX0_figure 83 = .ok (.aload_n 0, 1) := by decide +kernel
theorem dX0_figure_84 : decode cX0_figure 84 = .ok (.getfield 107, 3) := by decide +kernel
theorem dX0_figure_87 : decode cX0_figure 87 = .ok (.ireturn, 1) := by decide +kernel
theorem dX0_figure_88 : decode cX0_figure 88 = .ok (.new 75, 3) := by decide +kernel
theorem dX0_figure_91 : decode cX0_figure 91 = .ok (.dup, 1) := by decide +kernel
theorem dX0_figure_92 : decode cX0_figure 92 = .ok (.ldc 143, 2) := by decide +kernel
theorem dX0_figure_94 : decode cX0_figure 94 = .ok (.invokespecial 79, 3) := by decide +kernel
theorem dX0_figure_97 : decode cX0_figure 97 = .ok (.athrow, 1) := by decide +kernel
end
section
theorem dX1_init_0 : decode cX1_init 0 = .ok (.aload_n 0, 1) := by decide +kernel
theorem dX1_init_1 : decode cX1_init 1 = .ok (.invokespecial 1, 3) := by decide +kernel
theorem dX1_init_4 : decode cX1_init 4 = .ok (.aload_n 0, 1) := by decide +kernel
theorem dX1_init_5 : decode cX1_init 5 = .ok (.bipush 64, 2) := by decide +kernel
theorem dX1_init_7 : decode cX1_init 7 = .ok (.newarray .long, 2) := by decide +kernel
theorem dX1_init_9 : decode cX1_init 9 = .ok (.putfield 7, 3) := by decide +kernel
theorem dX1_init_12 : decode cX1_init 12 = .ok (.aload_n 0, 1) := by decide +kernel
theorem dX1_init_13 : decode cX1_init 13 = .ok (.bipush 12, 2) := by decide +kernel
theorem dX1_init_15 : decode cX1_init 15 = .ok (.newarray .int, 2) := by decide +kernel
theorem dX1_init_17 : decode cX1_init 17 = .ok (.putfield 13, 3) := by decide +kernel
theorem dX1_init_20 : decode cX1_init 20 = .ok (.aload_n 0, 1) := by decide +kernel
theorem dX1_init_21 : decode cX1_init 21 = .ok (.bipush 12, 2) := by decide +kernel
theorem dX1_init_23 : decode cX1_init 23 = .ok (.newarray .long, 2) := by decide +kernel
theorem dX1_init_25 : decode cX1_init 25 = .ok (.putfield 17, 3) := by decide +kernel
theorem dX1_init_28 : decode cX1_init 28 = .ok (.aload_n 0, 1) := by decide +kernel
theorem dX1_init_29 : decode cX1_init 29 = .ok (.bipush 12, 2) := by decide +kernel
theorem dX1_init_31 : decode cX1_init 31 = .ok (.newarray .boolean, 2) := by decide +kernel
theorem dX1_init_33 : decode cX1_init 33 = .ok (.putfield 20, 3) := by decide +kernel
theorem dX1_init_36 : decode cX1_init 36 = .ok (.aload_n 0, 1) := by decide +kernel
theorem dX1_init_37 : decode cX1_init 37 = .ok (.bipush 12, 2) := by decide +kernel
theorem dX1_init_39 : decode cX1_init 39 = .ok (.newarray .int, 2) := by decide +kernel
theorem dX1_init_41 : decode cX1_init 41 = .ok (.putfield 24, 3) := by decide +kernel
theorem dX1_init_44 : decode cX1_init 44 = .ok (.aload_n 0, 1) := by decide +kernel
theorem dX1_init_45 : decode cX1_init 45 = .ok (.bipush 12, 2) := by decide +kernel
theorem dX1_init_47 : decode cX1_init 47 = .ok (.newarray .long, 2) := by decide +kernel
theorem dX1_init_49 : decode cX1_init 49 = .ok (.putfield 27, 3) := by decide +kernel
theorem dX1_init_52 : decode cX1_init 52 = .ok (.aload_n 0, 1) := by decide +kernel
theorem dX1_init_53 : decode cX1_init 53 = .ok (.iload_n 1, 1) := by decide +kernel
theorem dX1_init_54 : decode cX1_init 54 = .ok (.iconst 1, 1) := by decide +kernel
theorem dX1_init_55 : decode cX1_init 55 = .ok (.if_icmp .lt 9, 3) := by decide +kernel
theorem dX1_init_58 : decode cX1_init 58 = .ok (.iload_n 1, 1) := by decide +kernel
theorem dX1_init_59 : decode cX1_init 59 = .ok (.bipush 12, 2) := by decide +kernel
theorem dX1_init_61 : decode cX1_init 61 = .ok (.if_icmp .le 8, 3) := by decide +kernel
theorem dX1_init_64 : decode cX1_init 64 = .ok (.bipush 6, 2) := by decide +kernel
theorem dX1_init_66 : decode cX1_init 66 = .ok (.goto 4, 3) := by decide +kernel
theorem dX1_init_69 : decode cX1_init 69 = .ok (.iload_n 1, 1) := by decide +kernel
theorem dX1_init_70 : decode cX1_init 70 = .ok (.putfield 30, 3) := by decide +kernel
theorem dX1_init_73 : decode cX1_init 73 = .ok (.iconst 0, 1) := by decide +kernel
theorem dX1_init_74 : decode cX1_init 74 = .ok (.istore_n 2, 1) := by decide +kernel
theorem dX1_init_75 : decode cX1_init 75 = .ok (.iload_n 2, 1) := by decide +kernel
theorem dX1_init_76 : decode cX1_init 76 = .ok (.bipush 12, 2) := by decide +kernel
theorem dX1_init_78 : decode cX1_init 78 = .ok (.if_icmp .ge 23, 3) := by decide +kernel
theorem dX1_init_81 : decode cX1_init 81 = .ok (.aload_n 0, 1) := by decide +kernel
theorem dX1_init_82 : decode cX1_init 82 = .ok (.getfield 13, 3) := by decide +kernel
theorem dX1_init_85 : decode cX1_init 85 = .ok (.iload_n 2, 1) := by decide +kernel
theorem dX1_init_86 : decode cX1_init 86 = .ok (.iconst (-1), 1) := by decide +kernel
theorem dX1_init_87 : decode cX1_init 87 = .ok (.iastore, 1) := by decide +kernel
theorem dX1_init_88 : decode cX1_init 88 = .ok (.aload_n 0, 1) := by decide +kernel
theorem dX1_init_89 : decode cX1_init 89 = .ok (.getfield 24, 3) := by decide +kernel
theorem dX1_init_92 : decode cX1_init 92 = .ok (.iload_n 2, 1) := by decide +kernel
theorem dX1_init_93 : decode cX1_init 93 = .ok (.iconst (-1), 1) := by decide +kernel
theorem dX1_init_94 : decode cX1_init 94 = .ok (.iastore, 1) := by decide +kernel
theorem dX1_init_95 : decode cX1_init 95 = .ok (.iinc 2 1, 3) := by decide +kernel
theorem dX1_init_98 : decode cX1_init 98 = .ok (.goto (-23), 3) := by decide +kernel
theorem dX1_init_101 : decode cX1_init 101 = .ok (.return_, 1) := by decide +kernel
theorem dX1_thrown_0 : decode cX1_thrown 0 = .ok (.aload_n 0, 1) := by decide +kernel
theorem dX1_thrown_1 : decode cX1_thrown 1 = .ok (.getfield 34, 3) := by decide +kernel
theorem dX1_thrown_4 : decode cX1_thrown 4 = .ok (.ireturn, 1) := by decide +kernel
theorem dX1_read_0 : decode cX1_read 0 = .ok (.aload_n 0, 1) := by decide +kernel
theorem dX1_read_1 : decode cX1_read 1 = .ok (.iload_n 1, 1) := by decide +kernel
theorem dX1_read_2 : decode cX1_read 2 = .ok (.invokestatic 72, 3) := by decide +kernel
theorem dX1_read_5 : decode cX1_read 5 = .ok (.ifCond .eq 7, 3) := by decide +kernel
theorem dX1_read_8 : decode cX1_read 8 = .ok (.iconst 0, 1) := by decide +kernel
theorem dX1_read_9 : decode cX1_read 9 = .ok (.goto 4, 3) := by decide +kernel
theorem dX1_read_12 : decode cX1_read 12 = .ok (.iconst 1, 1) := by decide +kernel
theorem dX1_read_13 : decode cX1_read 13 = .ok (.putfield 34, 3) := by decide +kernel
theorem dX1_read_16 : decode cX1_read 16 = .ok (.aload_n 0, 1) := by decide +kernel
theorem dX1_read_17 : decode cX1_read 17 = .ok (.getfield 34, 3) := by decide +kernel
theorem dX1_read_20 : decode cX1_read 20 = .ok (.ifCond .le 5, 3) := by decide +kernel
theorem dX1_read_23 : decode cX1_read 23 = .ok (.lconst 0, 1) := by decide +kernel
theorem dX1_read_24 : decode cX1_read 24 = .ok (.lreturn, 1) := by decide +kernel
theorem dX1_read_25 : decode cX1_read 25 = .ok (.aload_n 0, 1) := by decide +kernel
theorem dX1_read_26 : decode cX1_read 26 = .ok (.iload_n 1, 1) := by decide +kernel
theorem dX1_read_27 : decode cX1_read 27 = .ok (.invokevirtual 75, 3) := by decide +kernel
theorem dX1_read_30 : decode cX1_read 30 = .ok (.istore_n 2, 1) := by decide +kernel
theorem dX1_read_31 : decode cX1_read 31 = .ok (.iload_n 2, 1) := by decide +kernel
theorem dX1_read_32 : decode cX1_read 32 = .ok (.ifCond .lt 25, 3) := by decide +kernel
theorem dX1_read_35 : decode cX1_read 35 = .ok (.aload_n 0, 1) := by decide +kernel
theorem dX1_read_36 : decode cX1_read 36 = .ok (.dup, 1) := by decide +kernel
theorem dX1_read_37 : decode cX1_read 37 = .ok (.getfield 78, 3) := by decide +kernel
theorem dX1_read_40 : decode cX1_read 40 = .ok (.iconst 1, 1) := by decide +kernel
theorem dX1_read_41 : decode cX1_read 41 = .ok (.iadd, 1) := by decide +kernel
theorem dX1_read_42 : decode cX1_read 42 = .ok (.putfield 78, 3) := by decide +kernel
theorem dX1_read_45 : decode cX1_read 45 = .ok (.aload_n 0, 1) := by decide +kernel
theorem dX1_read_46 : decode cX1_read 46 = .ok (.iload_n 2, 1) := by decide +kernel
theorem dX1_read_47 : decode cX1_read 47 = .ok (.invokevirtual 81, 3) := by decide +kernel
theorem dX1_read_50 : decode cX1_read 50 = .ok (.aload_n 0, 1) := by decide +kernel
theorem dX1_read_51 : decode cX1_read 51 = .ok (.getfield 17, 3) := by decide +kernel
theorem dX1_read_54 : decode cX1_read 54 = .ok (.iload_n 2, 1) := by decide +kernel
theorem dX1_read_55 : decode cX1_read 55 = .ok (.laload, 1) := by decide +kernel
theorem dX1_read_56 : decode cX1_read 56 = .ok (.lreturn, 1) := by decide +kernel
theorem dX1_read_57 : decode cX1_read 57 = .ok (.aload_n 0, 1) := by decide +kernel
theorem dX1_read_58 : decode cX1_read 58 = .ok (.dup, 1) := by decide +kernel
theorem dX1_read_59 : decode cX1_read 59 = .ok (.getfield 84, 3) := by decide +kernel
theorem dX1_read_62 : decode cX1_read 62 = .ok (.iconst 1, 1) := by decide +kernel
theorem dX1_read_63 : decode cX1_read 63 = .ok (.iadd, 1) := by decide +kernel
theorem dX1_read_64 : decode cX1_read 64 = .ok (.putfield 84, 3) := by decide +kernel
theorem dX1_read_67 : decode cX1_read 67 = .ok (.aload_n 0, 1) := by decide +kernel
theorem dX1_read_68 : decode cX1_read 68 = .ok (.getfield 87, 3) := by decide +kernel
theorem dX1_read_71 : decode cX1_read 71 = .ok (.iconst 2, 1) := by decide +kernel
theorem dX1_read_72 : decode cX1_read 72 = .ok (.if_icmp .eq 39, 3) := by decide +kernel
theorem dX1_read_75 : decode cX1_read 75 = .ok (.aload_n 0, 1) := by decide +kernel
theorem dX1_read_76 : decode cX1_read 76 = .ok (.invokevirtual 90, 3) := by decide +kernel
theorem dX1_read_79 : decode cX1_read 79 = .ok (.istore_n 2, 1) := by decide +kernel
theorem dX1_read_80 : decode cX1_read 80 = .ok (.aload_n 0, 1) := by decide +kernel
theorem dX1_read_81 : decode cX1_read 81 = .ok (.getfield 13, 3) := by decide +kernel
theorem dX1_read_84 : decode cX1_read 84 = .ok (.iload_n 2, 1) := by decide +kernel
theorem dX1_read_85 : decode cX1_read 85 = .ok (.iload_n 1, 1) := by decide +kernel
theorem dX1_read_86 : decode cX1_read 86 = .ok (.iastore, 1) := by decide +kernel
theorem dX1_read_87 : decode cX1_read 87 = .ok (.aload_n 0, 1) := by decide +kernel
theorem dX1_read_88 : decode cX1_read 88 = .ok (.getfield 17, 3) := by decide +kernel
theorem dX1_read_91 : decode cX1_read 91 = .ok (.iload_n 2, 1) := by decide +kernel
theorem dX1_read_92 : decode cX1_read 92 = .ok (.aload_n 0, 1) := by decide +kernel
theorem dX1_read_93 : decode cX1_read 93 = .ok (.getfield 7, 3) := by decide +kernel
theorem dX1_read_96 : decode cX1_read 96 = .ok (.iload_n 1, 1) := by decide +kernel
theorem dX1_read_97 : decode cX1_read 97 = .ok (.laload, 1) := by decide +kernel
theorem dX1_read_98 : decode cX1_read 98 = .ok (.lastore, 1) := by decide +kernel
theorem dX1_read_99 : decode cX1_read 99 = .ok (.aload_n 0, 1) := by decide +kernel
theorem dX1_read_100 : decode cX1_read 100 = .ok (.getfield 20, 3) := by decide +kernel
theorem dX1_read_103 : decode cX1_read 103 = .ok (.iload_n 2, 1) := by decide +kernel
theorem dX1_read_104 : decode cX1_read 104 = .ok (.iconst 0, 1) := by decide +kernel
theorem dX1_read_105 : decode cX1_read 105 = .ok (.bastore, 1) := by decide +kernel
theorem dX1_read_106 : decode cX1_read 106 = .ok (.aload_n 0, 1) := by decide +kernel
theorem dX1_read_107 : decode cX1_read 107 = .ok (.iload_n 2, 1) := by decide +kernel
theorem dX1_read_108 : decode cX1_read 108 = .ok (.invokevirtual 81, 3) := by decide +kernel
theorem dX1_read_111 : decode cX1_read 111 = .ok (.aload_n 0, 1) := by decide +kernel
theorem dX1_read_112 : decode cX1_read 112 = .ok (.getfield 7, 3) := by decide +kernel
theorem dX1_read_115 : decode cX1_read 115 = .ok (.iload_n 1, 1) := by decide +kernel
theorem dX1_read_116 : decode cX1_read 116 = .ok (.laload, 1) := by decide +kernel
theorem dX1_read_117 : decode cX1_read 117 = .ok (.lreturn, 1) := by decide +kernel
theorem dX1_isBlock_0 : decode cX1_isBlock 0 = .ok (.iload_n 0, 1) := by decide +kernel
theorem dX1_isBlock_1 : decode cX1_isBlock 1 = .ok (.ifCond .lt 13, 3) := by decide +kernel
theorem dX1_isBlock_4 : decode cX1_isBlock 4 = .ok (.iload_n 0, 1) := by decide +kernel
theorem dX1_isBlock_5 : decode cX1_isBlock 5 = .ok (.bipush 63, 2) := by decide +kernel
theorem dX1_isBlock_7 : decode cX1_isBlock 7 = .ok (.if_icmp .gt 7, 3) := by decide +kernel
theorem dX1_isBlock_10 : decode cX1_isBlock 10 = .ok (.iconst 1, 1) := by decide +kernel
theorem dX1_isBlock_11 : decode cX1_isBlock 11 = .ok (.goto 4, 3) := by decide +kernel
theorem dX1_isBlock_14 : decode cX1_isBlock 14 = .ok (.iconst 0, 1) := by decide +kernel
theorem dX1_isBlock_15 : decode cX1_isBlock 15 = .ok (.ireturn, 1) := by decide +kernel
theorem dX1_find_0 : decode cX1_find 0 = .ok (.iconst (-1), 1) := by decide +kernel
theorem dX1_find_1 : decode cX1_find 1 = .ok (.istore_n 2, 1) := by decide +kernel
theorem dX1_find_2 : decode cX1_find 2 = .ok (.iconst 0, 1) := by decide +kernel
theorem dX1_find_3 : decode cX1_find 3 = .ok (.istore_n 3, 1) := by decide +kernel
theorem dX1_find_4 : decode cX1_find 4 = .ok (.iload_n 3, 1) := by decide +kernel
theorem dX1_find_5 : decode cX1_find 5 = .ok (.aload_n 0, 1) := by decide +kernel
theorem dX1_find_6 : decode cX1_find 6 = .ok (.getfield 30, 3) := by decide +kernel
theorem dX1_find_9 : decode cX1_find 9 = .ok (.if_icmp .ge 25, 3) := by decide +kernel
theorem dX1_find_12 : decode cX1_find 12 = .ok (.aload_n 0, 1) := by decide +kernel
theorem dX1_find_13 : decode cX1_find 13 = .ok (.getfield 13, 3) := by decide +kernel
theorem dX1_find_16 : decode cX1_find 16 = .ok (.iload_n 3, 1) := by decide +kernel
theorem dX1_find_17 : decode cX1_find 17 = .ok (.iaload, 1) := by decide +kernel
theorem dX1_find_18 : decode cX1_find 18 = .ok (.iload_n 1, 1) := by decide +kernel
theorem dX1_find_19 : decode cX1_find 19 = .ok (.if_icmp .ne 7, 3) := by decide +kernel
theorem dX1_find_22 : decode cX1_find 22 = .ok (.iload_n 3, 1) := by decide +kernel
theorem dX1_find_23 : decode cX1_find 23 = .ok (.goto 4, 3) := by decide +kernel
theorem dX1_find_26 : decode cX1_find 26 = .ok (.iload_n 2, 1) := by decide +kernel
theorem dX1_find_27 : decode cX1_find 27 = .ok (.istore_n 2, 1) := by decide +kernel
theorem dX1_find_28 : decode cX1_find 28 = .ok (.iinc 3 1, 3) := by decide +kernel
theorem dX1_find_31 : decode cX1_find 31 = .ok (.goto (-27), 3) := by decide +kernel
theorem dX1_find_34 : decode cX1_find 34 = .ok (.iload_n 2, 1) := by decide +kernel
theorem dX1_find_35 : decode cX1_find 35 = .ok (.ireturn, 1) := by decide +kernel
theorem dX1_use_0 : decode cX1_use 0 = .ok (.aload_n 0, 1) := by decide +kernel
theorem dX1_use_1 : decode cX1_use 1 = .ok (.dup, 1) := by decide +kernel
theorem dX1_use_2 : decode cX1_use 2 = .ok (.getfield 44, 3) := by decide +kernel
theorem dX1_use_5 : decode cX1_use 5 = .ok (.lconst 1, 1) := by decide +kernel
theorem dX1_use_6 : decode cX1_use 6 = .ok (.ladd, 1) := by decide +kernel
theorem dX1_use_7 : decode cX1_use 7 = .ok (.putfield 44, 3) := by decide +kernel
theorem dX1_use_10 : decode cX1_use 10 = .ok (.aload_n 0, 1) := by decide +kernel
theorem dX1_use_11 : decode cX1_use 11 = .ok (.getfield 27, 3) := by decide +kernel
theorem dX1_use_14 : decode cX1_use 14 = .ok (.iload_n 1, 1) := by decide +kernel
theorem dX1_use_15 : decode cX1_use 15 = .ok (.aload_n 0, 1) := by decide +kernel
theorem dX1_use_16 : decode cX1_use 16 = .ok (.getfield 44, 3) := by decide +kernel
theorem dX1_use_19 : decode cX1_use 19 = .ok (.lastore, 1) := by decide +kernel
theorem dX1_use_20 : decode cX1_use 20 = .ok (.return_, 1) := by decide +kernel
theorem dX1_room_0 : decode cX1_room 0 = .ok (.iconst (-1), 1) := by decide +kernel
theorem dX1_room_1 : decode cX1_room 1 = .ok (.istore_n 1, 1) := by decide +kernel
theorem dX1_room_2 : decode cX1_room 2 = .ok (.aload_n 0, 1) := by decide +kernel
theorem dX1_room_3 : decode cX1_room 3 = .ok (.getfield 30, 3) := by decide +kernel
theorem dX1_room_6 : decode cX1_room 6 = .ok (.iconst 1, 1) := by decide +kernel
theorem dX1_room_7 : decode cX1_room 7 = .ok (.isub, 1) := by decide +kernel
theorem dX1_room_8 : decode cX1_room 8 = .ok (.istore_n 2, 1) := by decide +kernel
theorem dX1_room_9 : decode cX1_room 9 = .ok (.iload_n 2, 1) := by decide +kernel
theorem dX1_room_10 : decode cX1_room 10 = .ok (.ifCond .lt 24, 3) := by decide +kernel
theorem dX1_room_13 : decode cX1_room 13 = .ok (.aload_n 0, 1) := by decide +kernel
theorem dX1_room_14 : decode cX1_room 14 = .ok (.getfield 13, 3) := by decide +kernel
theorem dX1_room_17 : decode cX1_room 17 = .ok (.iload_n 2, 1) := by decide +kernel
theorem dX1_room_18 : decode cX1_room 18 = .ok (.iaload, 1) := by decide +kernel
theorem dX1_room_19 : decode cX1_room 19 = .ok (.ifCond .ge 7, 3) := by decide +kernel
theorem dX1_room_22 : decode cX1_room 22 = .ok (.iload_n 2, 1) := by decide +kernel
theorem dX1_room_23 : decode cX1_room 23 = .ok (.goto 4, 3) := by decide +kernel
theorem dX1_room_26 : decode cX1_room 26 = .ok (.iload_n 1, 1) := by decide +kernel
theorem dX1_room_27 : decode cX1_room 27 = .ok (.istore_n 1, 1) := by decide +kernel
theorem dX1_room_28 : decode cX1_room 28 = .ok (.iinc 2 (-1), 3) := by decide +kernel
theorem dX1_room_31 : decode cX1_room 31 = .ok (.goto (-22), 3) := by decide +kernel
theorem dX1_room_34 : decode cX1_room 34 = .ok (.iload_n 1, 1) := by decide +kernel
theorem dX1_room_35 : decode cX1_room 35 = .ok (.ifCond .lt 5, 3) := by decide +kernel
theorem dX1_room_38 : decode cX1_room 38 = .ok (.iload_n 1, 1) := by decide +kernel
theorem dX1_room_39 : decode cX1_room 39 = .ok (.ireturn, 1) := by decide +kernel
theorem dX1_room_40 : decode cX1_room 40 = .ok (.iconst 0, 1) := by decide +kernel
theorem dX1_room_41 : decode cX1_room 41 = .ok (.istore_n 1, 1) := by decide +kernel
theorem dX1_room_42 : decode cX1_room 42 = .ok (.iconst 1, 1) := by decide +kernel
theorem dX1_room_43 : decode cX1_room 43 = .ok (.istore_n 2, 1) := by decide +kernel
theorem dX1_room_44 : decode cX1_room 44 = .ok (.iload_n 2, 1) := by decide +kernel
theorem dX1_room_45 : decode cX1_room 45 = .ok (.aload_n 0, 1) := by decide +kernel
theorem dX1_room_46 : decode cX1_room 46 = .ok (.getfield 30, 3) := by decide +kernel
theorem dX1_room_49 : decode cX1_room 49 = .ok (.if_icmp .ge 31, 3) := by decide +kernel
theorem dX1_room_52 : decode cX1_room 52 = .ok (.aload_n 0, 1) := by decide +kernel
theorem dX1_room_53 : decode cX1_room 53 = .ok (.getfield 27, 3) := by decide +kernel
theorem dX1_room_56 : decode cX1_room 56 = .ok (.iload_n 2, 1) := by decide +kernel
theorem dX1_room_57 : decode cX1_room 57 = .ok (.laload, 1) := by decide +kernel
theorem dX1_room_58 : decode cX1_room 58 = .ok (.aload_n 0, 1) := by decide +kernel
theorem dX1_room_59 : decode cX1_room 59 = .ok (.getfield 27, 3) := by decide +kernel
theorem dX1_room_62 : decode cX1_room 62 = .ok (.iload_n 1, 1) := by decide +kernel
theorem dX1_room_63 : decode cX1_room 63 = .ok (.laload, 1) := by decide +kernel
theorem dX1_room_64 : decode cX1_room 64 = .ok (.lcmp, 1) := by decide +kernel
theorem dX1_room_65 : decode cX1_room 65 = .ok (.ifCond .ge 7, 3) := by decide +kernel
theorem dX1_room_68 : decode cX1_room 68 = .ok (.iload_n 2, 1) := by decide +kernel
theorem dX1_room_69 : decode cX1_room 69 = .ok (.goto 4, 3) := by decide +kernel
theorem dX1_room_72 : decode cX1_room 72 = .ok (.iload_n 1, 1) := by decide +kernel
theorem dX1_room_73 : decode cX1_room 73 = .ok (.istore_n 1, 1) := by decide +kernel
theorem dX1_room_74 : decode cX1_room 74 = .ok (.iinc 2 1, 3) := by decide +kernel
theorem dX1_room_77 : decode cX1_room 77 = .ok (.goto (-33), 3) := by decide +kernel
theorem dX1_room_80 : decode cX1_room 80 = .ok (.aload_n 0, 1) := by decide +kernel
theorem dX1_room_81 : decode cX1_room 81 = .ok (.getfield 20, 3) := by decide +kernel
theorem dX1_room_84 : decode cX1_room 84 = .ok (.iload_n 1, 1) := by decide +kernel
theorem dX1_room_85 : decode cX1_room 85 = .ok (.baload, 1) := by decide +kernel
theorem dX1_room_86 : decode cX1_room 86 = .ok (.ifCond .eq 8, 3) := by decide +kernel
theorem dX1_room_89 : decode cX1_room 89 = .ok (.aload_n 0, 1) := by decide +kernel
theorem dX1_room_90 : decode cX1_room 90 = .ok (.iload_n 1, 1) := by decide +kernel
theorem dX1_room_91 : decode cX1_room 91 = .ok (.invokevirtual 66, 3) := by decide +kernel
theorem dX1_room_94 : decode cX1_room 94 = .ok (.aload_n 0, 1) := by decide +kernel
theorem dX1_room_95 : decode cX1_room 95 = .ok (.iload_n 1, 1) := by decide +kernel
theorem dX1_room_96 : decode cX1_room 96 = .ok (.invokevirtual 69, 3) := by decide +kernel
theorem dX1_room_99 : decode cX1_room 99 = .ok (.iload_n 1, 1) := by decide +kernel
theorem dX1_room_100 : decode cX1_room 100 = .ok (.ireturn, 1) := by decide +kernel
theorem dX1_writeBack_0 : decode cX1_writeBack 0 = .ok (.aload_n 0, 1) := by decide +kernel
theorem dX1_writeBack_1 : decode cX1_writeBack 1 = .ok (.aload_n 0, 1) := by decide +kernel
theorem dX1_writeBack_2 : decode cX1_writeBack 2 = .ok (.getfield 13, 3) := by decide +kernel
theorem dX1_writeBack_5 : decode cX1_writeBack 5 = .ok (.iload_n 1, 1) := by decide +kernel
theorem dX1_writeBack_6 : decode cX1_writeBack 6 = .ok (.iaload, 1) := by decide +kernel
theorem dX1_writeBack_7 : decode cX1_writeBack 7 = .ok (.aload_n 0, 1) := by decide +kernel
theorem dX1_writeBack_8 : decode cX1_writeBack 8 = .ok (.getfield 17, 3) := by decide +kernel
theorem dX1_writeBack_11 : decode cX1_writeBack 11 = .ok (.iload_n 1, 1) := by decide +kernel
theorem dX1_writeBack_12 : decode cX1_writeBack 12 = .ok (.laload, 1) := by decide +kernel
theorem dX1_writeBack_13 : decode cX1_writeBack 13 = .ok (.invokevirtual 59, 3) := by decide +kernel
theorem dX1_writeBack_16 : decode cX1_writeBack 16 = .ok (.aload_n 0, 1) := by decide +kernel
theorem dX1_writeBack_17 : decode cX1_writeBack 17 = .ok (.iload_n 1, 1) := by decide +kernel
theorem dX1_writeBack_18 : decode cX1_writeBack 18 = .ok (.invokevirtual 63, 3) := by decide +kernel
theorem dX1_writeBack_21 : decode cX1_writeBack 21 = .ok (.return_, 1) := by decide +kernel
theorem dX1_give_0 : decode cX1_give 0 = .ok (.aload_n 0, 1) := by decide +kernel
theorem dX1_give_1 : decode cX1_give 1 = .ok (.getfield 7, 3) := by decide +kernel
theorem dX1_give_4 : decode cX1_give 4 = .ok (.iload_n 1, 1) := by decide +kernel
theorem dX1_give_5 : decode cX1_give 5 = .ok (.lload_n 2, 1) := by decide +kernel
theorem dX1_give_6 : decode cX1_give 6 = .ok (.lastore, 1) := by decide +kernel
theorem dX1_give_7 : decode cX1_give 7 = .ok (.aload_n 0, 1) := by decide +kernel
theorem dX1_give_8 : decode cX1_give 8 = .ok (.dup, 1) := by decide +kernel
theorem dX1_give_9 : decode cX1_give 9 = .ok (.getfield 48, 3) := by decide +kernel
theorem dX1_give_12 : decode cX1_give 12 = .ok (.iconst 1, 1) := by decide +kernel
theorem dX1_give_13 : decode cX1_give 13 = .ok (.iadd, 1) := by decide +kernel
theorem dX1_give_14 : decode cX1_give 14 = .ok (.putfield 48, 3) := by decide +kernel
theorem dX1_give_17 : decode cX1_give 17 = .ok (.return_, 1) := by decide +kernel
theorem dX1_clean_0 : decode cX1_clean 0 = .ok (.aload_n 0, 1) := by decide +kernel
theorem dX1_clean_1 : decode cX1_clean 1 = .ok (.iload_n 1, 1) := by decide +kernel
theorem dX1_clean_2 : decode cX1_clean 2 = .ok (.invokevirtual 51, 3) := by decide +kernel
theorem dX1_clean_5 : decode cX1_clean 5 = .ok (.istore_n 2, 1) := by decide +kernel
theorem dX1_clean_6 : decode cX1_clean 6 = .ok (.aload_n 0, 1) := by decide +kernel
theorem dX1_clean_7 : decode cX1_clean 7 = .ok (.getfield 20, 3) := by decide +kernel
theorem dX1_clean_10 : decode cX1_clean 10 = .ok (.iload_n 1, 1) := by decide +kernel
theorem dX1_clean_11 : decode cX1_clean 11 = .ok (.iconst 0, 1) := by decide +kernel
theorem dX1_clean_12 : decode cX1_clean 12 = .ok (.bastore, 1) := by decide +kernel
theorem dX1_clean_13 : decode cX1_clean 13 = .ok (.iload_n 2, 1) := by decide +kernel
theorem dX1_clean_14 : decode cX1_clean 14 = .ok (.ifCond .eq 8, 3) := by decide +kernel
theorem dX1_clean_17 : decode cX1_clean 17 = .ok (.aload_n 0, 1) := by decide +kernel
theorem dX1_clean_18 : decode cX1_clean 18 = .ok (.iload_n 1, 1) := by decide +kernel
theorem dX1_clean_19 : decode cX1_clean 19 = .ok (.invokevirtual 55, 3) := by decide +kernel
theorem dX1_clean_22 : decode cX1_clean 22 = .ok (.return_, 1) := by decide +kernel
theorem dX1_isNotedDirty_0 : decode cX1_isNotedDirty 0 = .ok (.aload_n 0, 1) := by decide +kernel
theorem dX1_isNotedDirty_1 : decode cX1_isNotedDirty 1 = .ok (.getfield 24, 3) := by decide +kernel
theorem dX1_isNotedDirty_4 : decode cX1_isNotedDirty 4 = .ok (.iload_n 1, 1) := by decide +kernel
theorem dX1_isNotedDirty_5 : decode cX1_isNotedDirty 5 = .ok (.iaload, 1) := by decide +kernel
theorem dX1_isNotedDirty_6 : decode cX1_isNotedDirty 6 = .ok (.ifCond .lt 19, 3) := by decide +kernel
theorem dX1_isNotedDirty_9 : decode cX1_isNotedDirty 9 = .ok (.aload_n 0, 1) := by decide +kernel
theorem dX1_isNotedDirty_10 : decode cX1_isNotedDirty 10 = .ok (.getfield 24, 3) := by decide +kernel
theorem dX1_isNotedDirty_13 : decode cX1_isNotedDirty 13 = .ok (.iload_n 1, 1) := by decide +kernel
theorem dX1_isNotedDirty_14 : decode cX1_isNotedDirty 14 = .ok (.iaload, 1) := by decide +kernel
theorem dX1_isNotedDirty_15 : decode cX1_isNotedDirty 15 = .ok (.iconst 2, 1) := by decide +kernel
theorem dX1_isNotedDirty_16 : decode cX1_isNotedDirty 16 = .ok (.irem, 1) := by decide +kernel
theorem dX1_isNotedDirty_17 : decode cX1_isNotedDirty 17 = .ok (.iconst 1, 1) := by decide +kernel
theorem dX1_isNotedDirty_18 : decode cX1_isNotedDirty 18 = .ok (.if_icmp .ne 7, 3) := by decide +kernel
theorem dX1_isNotedDirty_21 : decode cX1_isNotedDirty 21 = .ok (.iconst 1, 1) := by decide +kernel
theorem dX1_isNotedDirty_22 : decode cX1_isNotedDirty 22 = .ok (.goto 4, 3) := by decide +kernel
theorem dX1_isNotedDirty_25 : decode cX1_isNotedDirty 25 = .ok (.iconst 0, 1) := by decide +kernel
theorem dX1_isNotedDirty_26 : decode cX1_isNotedDirty 26 = .ok (.ireturn, 1) := by decide +kernel
theorem dX1_noteSlot_0 : decode cX1_noteSlot 0 = .ok (.aload_n 0, 1) := by decide +kernel
theorem dX1_noteSlot_1 : decode cX1_noteSlot 1 = .ok (.getfield 24, 3) := by decide +kernel
theorem dX1_noteSlot_4 : decode cX1_noteSlot 4 = .ok (.iload_n 1, 1) := by decide +kernel
theorem dX1_noteSlot_5 : decode cX1_noteSlot 5 = .ok (.aload_n 0, 1) := by decide +kernel
theorem dX1_noteSlot_6 : decode cX1_noteSlot 6 = .ok (.iload_n 1, 1) := by decide +kernel
theorem dX1_noteSlot_7 : decode cX1_noteSlot 7 = .ok (.invokevirtual 37, 3) := by decide +kernel
theorem dX1_noteSlot_10 : decode cX1_noteSlot 10 = .ok (.iastore, 1) := by decide +kernel
theorem dX1_noteSlot_11 : decode cX1_noteSlot 11 = .ok (.aload_n 0, 1) := by decide +kernel
theorem dX1_noteSlot_12 : decode cX1_noteSlot 12 = .ok (.dup, 1) := by decide +kernel
theorem dX1_noteSlot_13 : decode cX1_noteSlot 13 = .ok (.getfield 41, 3) := by decide +kernel
theorem dX1_noteSlot_16 : decode cX1_noteSlot 16 = .ok (.iconst 1, 1) := by decide +kernel
theorem dX1_noteSlot_17 : decode cX1_noteSlot 17 = .ok (.iadd, 1) := by decide +kernel
theorem dX1_noteSlot_18 : decode cX1_noteSlot 18 = .ok (.putfield 41, 3) := by decide +kernel
theorem dX1_noteSlot_21 : decode cX1_noteSlot 21 = .ok (.return_, 1) := by decide +kernel
theorem dX1_soOf_0 : decode cX1_soOf 0 = .ok (.aload_n 0, 1) := by decide +kernel
theorem dX1_soOf_1 : decode cX1_soOf 1 = .ok (.getfield 13, 3) := by decide +kernel
theorem dX1_soOf_4 : decode cX1_soOf 4 = .ok (.iload_n 1, 1) := by decide +kernel
theorem dX1_soOf_5 : decode cX1_soOf 5 = .ok (.iaload, 1) := by decide +kernel
theorem dX1_soOf_6 : decode cX1_soOf 6 = .ok (.ifCond .ge 7, 3) := by decide +kernel
theorem dX1_soOf_9 : decode cX1_soOf 9 = .ok (.iconst (-1), 1) := by decide +kernel
theorem dX1_soOf_10 : decode cX1_soOf 10 = .ok (.goto 26, 3) := by decide +kernel
theorem dX1_soOf_13 : decode cX1_soOf 13 = .ok (.iconst 2, 1) := by decide +kernel
theorem dX1_soOf_14 : decode cX1_soOf 14 = .ok (.aload_n 0, 1) := by decide +kernel
theorem dX1_soOf_15 : decode cX1_soOf 15 = .ok (.getfield 13, 3) := by decide +kernel
theorem dX1_soOf_18 : decode cX1_soOf 18 = .ok (.iload_n 1, 1) := by decide +kernel
theorem dX1_soOf_19 : decode cX1_soOf 19 = .ok (.iaload, 1) := by decide +kernel
theorem dX1_soOf_20 : decode cX1_soOf 20 = .ok (.imul, 1) := by decide +kernel
theorem dX1_soOf_21 : decode cX1_soOf 21 = .ok (.aload_n 0, 1) := by decide +kernel
theorem dX1_soOf_22 : decode cX1_soOf 22 = .ok (.getfield 20, 3) := by decide +kernel
theorem dX1_soOf_25 : decode cX1_soOf 25 = .ok (.iload_n 1, 1) := by decide +kernel
theorem dX1_soOf_26 : decode cX1_soOf 26 = .ok (.baload, 1) := by decide +kernel
theorem dX1_soOf_27 : decode cX1_soOf 27 = .ok (.ifCond .eq 7, 3) := by decide +kernel
theorem dX1_soOf_30 : decode cX1_soOf 30 = .ok (.iconst 1, 1) := by decide +kernel
theorem dX1_soOf_31 : decode cX1_soOf 31 = .ok (.goto 4, 3) := by decide +kernel
theorem dX1_soOf_34 : decode cX1_soOf 34 = .ok (.iconst 0, 1) := by decide +kernel
theorem dX1_soOf_35 : decode cX1_soOf 35 = .ok (.iadd, 1) := by decide +kernel
theorem dX1_soOf_36 : decode cX1_soOf 36 = .ok (.ireturn, 1) := by decide +kernel
theorem dX1_empty_0 : decode cX1_empty 0 = .ok (.aload_n 0, 1) := by decide +kernel
theorem dX1_empty_1 : decode cX1_empty 1 = .ok (.getfield 13, 3) := by decide +kernel
theorem dX1_empty_4 : decode cX1_empty 4 = .ok (.iload_n 1, 1) := by decide +kernel
theorem dX1_empty_5 : decode cX1_empty 5 = .ok (.iconst (-1), 1) := by decide +kernel
theorem dX1_empty_6 : decode cX1_empty 6 = .ok (.iastore, 1) := by decide +kernel
theorem dX1_empty_7 : decode cX1_empty 7 = .ok (.aload_n 0, 1) := by decide +kernel
theorem dX1_empty_8 : decode cX1_empty 8 = .ok (.getfield 20, 3) := by decide +kernel
theorem dX1_empty_11 : decode cX1_empty 11 = .ok (.iload_n 1, 1) := by decide +kernel
theorem dX1_empty_12 : decode cX1_empty 12 = .ok (.iconst 0, 1) := by decide +kernel
theorem dX1_empty_13 : decode cX1_empty 13 = .ok (.bastore, 1) := by decide +kernel
theorem dX1_empty_14 : decode cX1_empty 14 = .ok (.aload_n 0, 1) := by decide +kernel
theorem dX1_empty_15 : decode cX1_empty 15 = .ok (.getfield 24, 3) := by decide +kernel
theorem dX1_empty_18 : decode cX1_empty 18 = .ok (.iload_n 1, 1) := by decide +kernel
theorem dX1_empty_19 : decode cX1_empty 19 = .ok (.iaload, 1) := by decide +kernel
theorem dX1_empty_20 : decode cX1_empty 20 = .ok (.ifCond .lt 8, 3) := by decide +kernel
theorem dX1_empty_23 : decode cX1_empty 23 = .ok (.aload_n 0, 1) := by decide +kernel
theorem dX1_empty_24 : decode cX1_empty 24 = .ok (.iload_n 1, 1) := by decide +kernel
theorem dX1_empty_25 : decode cX1_empty 25 = .ok (.invokevirtual 55, 3) := by decide +kernel
theorem dX1_empty_28 : decode cX1_empty 28 = .ok (.return_, 1) := by decide +kernel
theorem dX1_write_0 : decode cX1_write 0 = .ok (.aload_n 0, 1) := by decide +kernel
theorem dX1_write_1 : decode cX1_write 1 = .ok (.iload_n 1, 1) := by decide +kernel
theorem dX1_write_2 : decode cX1_write 2 = .ok (.invokestatic 72, 3) := by decide +kernel
theorem dX1_write_5 : decode cX1_write 5 = .ok (.ifCond .eq 7, 3) := by decide +kernel
theorem dX1_write_8 : decode cX1_write 8 = .ok (.iconst 0, 1) := by decide +kernel
theorem dX1_write_9 : decode cX1_write 9 = .ok (.goto 4, 3) := by decide +kernel
theorem dX1_write_12 : decode cX1_write 12 = .ok (.iconst 1, 1) := by decide +kernel
theorem dX1_write_13 : decode cX1_write 13 = .ok (.putfield 34, 3) := by decide +kernel
theorem dX1_write_16 : decode cX1_write 16 = .ok (.aload_n 0, 1) := by decide +kernel
theorem dX1_write_17 : decode cX1_write 17 = .ok (.getfield 34, 3) := by decide +kernel
theorem dX1_write_20 : decode cX1_write 20 = .ok (.ifCond .le 4, 3) := by decide +kernel
theorem dX1_write_23 : decode cX1_write 23 = .ok (.return_, 1) := by decide +kernel
theorem dX1_write_24 : decode cX1_write 24 = .ok (.aload_n 0, 1) := by decide +kernel
theorem dX1_write_25 : decode cX1_write 25 = .ok (.iload_n 1, 1) := by decide +kernel
theorem dX1_write_26 : decode cX1_write 26 = .ok (.invokevirtual 75, 3) := by decide +kernel
theorem dX1_write_29 : decode cX1_write 29 = .ok (.istore 4, 2) := by decide +kernel
theorem dX1_write_31 : decode cX1_write 31 = .ok (.aload_n 0, 1) := by decide +kernel
theorem dX1_write_32 : decode cX1_write 32 = .ok (.getfield 87, 3) := by decide +kernel
theorem dX1_write_35 : decode cX1_write 35 = .ok (.ifCond .ne 12, 3) := by decide +kernel
theorem dX1_write_38 : decode cX1_write 38 = .ok (.aload_n 0, 1) := by decide +kernel
theorem dX1_write_39 : decode cX1_write 39 = .ok (.iload_n 1, 1) := by decide +kernel
theorem dX1_write_40 : decode cX1_write 40 = .ok (.lload_n 2, 1) := by decide +kernel
theorem dX1_write_41 : decode cX1_write 41 = .ok (.iconst 2, 1) := by decide +kernel
theorem dX1_write_42 : decode cX1_write 42 = .ok (.invokevirtual 94, 3) := by decide +kernel
theorem dX1_write_45 : decode cX1_write 45 = .ok (.pop, 1) := by decide +kernel
theorem dX1_write_46 : decode cX1_write 46 = .ok (.return_, 1) := by decide +kernel
theorem dX1_write_47 : decode cX1_write 47 = .ok (.aload_n 0, 1) := by decide +kernel
theorem dX1_write_48 : decode cX1_write 48 = .ok (.iload_n 1, 1) := by decide +kernel
theorem dX1_write_49 : decode cX1_write 49 = .ok (.lload_n 2, 1) := by decide +kernel
theorem dX1_write_50 : decode cX1_write 50 = .ok (.invokevirtual 59, 3) := by decide +kernel
theorem dX1_write_53 : decode cX1_write 53 = .ok (.iload 4, 2) := by decide +kernel
theorem dX1_write_55 : decode cX1_write 55 = .ok (.ifCond .lt 34, 3) := by decide +kernel
theorem dX1_write_58 : decode cX1_write 58 = .ok (.aload_n 0, 1) := by decide +kernel
theorem dX1_write_59 : decode cX1_write 59 = .ok (.getfield 87, 3) := by decide +kernel
theorem dX1_write_62 : decode cX1_write 62 = .ok (.iconst 1, 1) := by decide +kernel
theorem dX1_write_63 : decode cX1_write 63 = .ok (.if_icmp .ne 26, 3) := by decide +kernel
theorem dX1_write_66 : decode cX1_write 66 = .ok (.aload_n 0, 1) := by decide +kernel
theorem dX1_write_67 : decode cX1_write 67 = .ok (.getfield 17, 3) := by decide +kernel
theorem dX1_write_70 : decode cX1_write 70 = .ok (.iload 4, 2) := by decide +kernel
theorem dX1_write_72 : decode cX1_write 72 = .ok (.lload_n 2, 1) := by decide +kernel
theorem dX1_write_73 : decode cX1_write 73 = .ok (.lastore, 1) := by decide +kernel
theorem dX1_write_74 : decode cX1_write 74 = .ok (.aload_n 0, 1) := by decide +kernel
theorem dX1_write_75 : decode cX1_write 75 = .ok (.iload 4, 2) := by decide +kernel
theorem dX1_write_77 : decode cX1_write 77 = .ok (.invokevirtual 63, 3) := by decide +kernel
theorem dX1_write_80 : decode cX1_write 80 = .ok (.aload_n 0, 1) := by decide +kernel
theorem dX1_write_81 : decode cX1_write 81 = .ok (.iload 4, 2) := by decide +kernel
theorem dX1_write_83 : decode cX1_write 83 = .ok (.invokevirtual 81, 3) := by decide +kernel
theorem dX1_write_86 : decode cX1_write 86 = .ok (.goto 14, 3) := by decide +kernel
theorem dX1_write_89 : decode cX1_write 89 = .ok (.iload 4, 2) := by decide +kernel
theorem dX1_write_91 : decode cX1_write 91 = .ok (.ifCond .lt 9, 3) := by decide +kernel
theorem dX1_write_94 : decode cX1_write 94 = .ok (.aload_n 0, 1) := by decide +kernel
theorem dX1_write_95 : decode cX1_write 95 = .ok (.iload 4, 2) := by decide +kernel
theorem dX1_write_97 : decode cX1_write 97 = .ok (.invokevirtual 69, 3) := by decide +kernel
theorem dX1_write_100 : decode cX1_write 100 = .ok (.return_, 1) := by decide +kernel
theorem dX1_steps_0 : decode cX1_steps 0 = .ok (.aload_n 0, 1) := by decide +kernel
theorem dX1_steps_1 : decode cX1_steps 1 = .ok (.iload_n 1, 1) := by decide +kernel
theorem dX1_steps_2 : decode cX1_steps 2 = .ok (.invokevirtual 75, 3) := by decide +kernel
theorem dX1_steps_5 : decode cX1_steps 5 = .ok (.istore 5, 2) := by decide +kernel
theorem dX1_steps_7 : decode cX1_steps 7 = .ok (.iconst 0, 1) := by decide +kernel
theorem dX1_steps_8 : decode cX1_steps 8 = .ok (.istore 6, 2) := by decide +kernel
theorem dX1_steps_10 : decode cX1_steps 10 = .ok (.iload 5, 2) := by decide +kernel
theorem dX1_steps_12 : decode cX1_steps 12 = .ok (.ifCond .ge 59, 3) := by decide +kernel
theorem dX1_steps_15 : decode cX1_steps 15 = .ok (.aload_n 0, 1) := by decide +kernel
theorem dX1_steps_16 : decode cX1_steps 16 = .ok (.invokevirtual 90, 3) := by decide +kernel
theorem dX1_steps_19 : decode cX1_steps 19 = .ok (.istore 5, 2) := by decide +kernel
theorem dX1_steps_21 : decode cX1_steps 21 = .ok (.iload 4, 2) := by decide +kernel
theorem dX1_steps_23 : decode cX1_steps 23 = .ok (.ifCond .le 30, 3) := by decide +kernel
theorem dX1_steps_26 : decode cX1_steps 26 = .ok (.aload_n 0, 1) := by decide +kernel
theorem dX1_steps_27 : decode cX1_steps 27 = .ok (.getfield 13, 3) := by decide +kernel
theorem dX1_steps_30 : decode cX1_steps 30 = .ok (.iload 5, 2) := by decide +kernel
theorem dX1_steps_32 : decode cX1_steps 32 = .ok (.iload_n 1, 1) := by decide +kernel
theorem dX1_steps_33 : decode cX1_steps 33 = .ok (.iastore, 1) := by decide +kernel
theorem dX1_steps_34 : decode cX1_steps 34 = .ok (.aload_n 0, 1) := by decide +kernel
theorem dX1_steps_35 : decode cX1_steps 35 = .ok (.getfield 17, 3) := by decide +kernel
theorem dX1_steps_38 : decode cX1_steps 38 = .ok (.iload 5, 2) := by decide +kernel
theorem dX1_steps_40 : decode cX1_steps 40 = .ok (.lload_n 2, 1) := by decide +kernel
theorem dX1_steps_41 : decode cX1_steps 41 = .ok (.lastore, 1) := by decide +kernel
theorem dX1_steps_42 : decode cX1_steps 42 = .ok (.aload_n 0, 1) := by decide +kernel
theorem dX1_steps_43 : decode cX1_steps 43 = .ok (.getfield 20, 3) := by decide +kernel
theorem dX1_steps_46 : decode cX1_steps 46 = .ok (.iload 5, 2) := by decide +kernel
theorem dX1_steps_48 : decode cX1_steps 48 = .ok (.iconst 1, 1) := by decide +kernel
theorem dX1_steps_49 : decode cX1_steps 49 = .ok (.bastore, 1) := by decide +kernel
theorem dX1_steps_50 : decode cX1_steps 50 = .ok (.iinc 6 1, 3) := by decide +kernel
theorem dX1_steps_53 : decode cX1_steps 53 = .ok (.iload 4, 2) := by decide +kernel
theorem dX1_steps_55 : decode cX1_steps 55 = .ok (.iconst 1, 1) := by decide +kernel
theorem dX1_steps_56 : decode cX1_steps 56 = .ok (.if_icmp .le 90, 3) := by decide +kernel
theorem dX1_steps_59 : decode cX1_steps 59 = .ok (.aload_n 0, 1) := by decide +kernel
theorem dX1_steps_60 : decode cX1_steps 60 = .ok (.iload 5, 2) := by decide +kernel
theorem dX1_steps_62 : decode cX1_steps 62 = .ok (.invokevirtual 55, 3) := by decide +kernel
theorem dX1_steps_65 : decode cX1_steps 65 = .ok (.iinc 6 1, 3) := by decide +kernel
theorem dX1_steps_68 : decode cX1_steps 68 = .ok (.goto 78, 3) := by decide +kernel
theorem dX1_steps_71 : decode cX1_steps 71 = .ok (.aload_n 0, 1) := by decide +kernel
theorem dX1_steps_72 : decode cX1_steps 72 = .ok (.getfield 24, 3) := by decide +kernel
theorem dX1_steps_75 : decode cX1_steps 75 = .ok (.iload 5, 2) := by decide +kernel
theorem dX1_steps_77 : decode cX1_steps 77 = .ok (.iaload, 1) := by decide +kernel
theorem dX1_steps_78 : decode cX1_steps 78 = .ok (.iconst 2, 1) := by decide +kernel
theorem dX1_steps_79 : decode cX1_steps 79 = .ok (.iload_n 1, 1) := by decide +kernel
theorem dX1_steps_80 : decode cX1_steps 80 = .ok (.imul, 1) := by decide +kernel
theorem dX1_steps_81 : decode cX1_steps 81 = .ok (.iconst 1, 1) := by decide +kernel
theorem dX1_steps_82 : decode cX1_steps 82 = .ok (.iadd, 1) := by decide +kernel
theorem dX1_steps_83 : decode cX1_steps 83 = .ok (.if_icmp .ne 7, 3) := by decide +kernel
theorem dX1_steps_86 : decode cX1_steps 86 = .ok (.iconst 1, 1) := by decide +kernel
theorem dX1_steps_87 : decode cX1_steps 87 = .ok (.goto 4, 3) := by decide +kernel
theorem dX1_steps_90 : decode cX1_steps 90 = .ok (.iconst 0, 1) := by decide +kernel
theorem dX1_steps_91 : decode cX1_steps 91 = .ok (.istore 7, 2) := by decide +kernel
theorem dX1_steps_93 : decode cX1_steps 93 = .ok (.iload 7, 2) := by decide +kernel
theorem dX1_steps_95 : decode cX1_steps 95 = .ok (.ifCond .ne 25, 3) := by decide +kernel
theorem dX1_steps_98 : decode cX1_steps 98 = .ok (.iload 4, 2) := by decide +kernel
theorem dX1_steps_100 : decode cX1_steps 100 = .ok (.ifCond .le 20, 3) := by decide +kernel
theorem dX1_steps_103 : decode cX1_steps 103 = .ok (.aload_n 0, 1) := by decide +kernel
theorem dX1_steps_104 : decode cX1_steps 104 = .ok (.getfield 20, 3) := by decide +kernel
theorem dX1_steps_107 : decode cX1_steps 107 = .ok (.iload 5, 2) := by decide +kernel
theorem dX1_steps_109 : decode cX1_steps 109 = .ok (.iconst 1, 1) := by decide +kernel
theorem dX1_steps_110 : decode cX1_steps 110 = .ok (.bastore, 1) := by decide +kernel
theorem dX1_steps_111 : decode cX1_steps 111 = .ok (.aload_n 0, 1) := by decide +kernel
theorem dX1_steps_112 : decode cX1_steps 112 = .ok (.iload 5, 2) := by decide +kernel
theorem dX1_steps_114 : decode cX1_steps 114 = .ok (.invokevirtual 55, 3) := by decide +kernel
theorem dX1_steps_117 : decode cX1_steps 117 = .ok (.iinc 6 1, 3) := by decide +kernel
theorem dX1_steps_120 : decode cX1_steps 120 = .ok (.iload 4, 2) := by decide +kernel
theorem dX1_steps_122 : decode cX1_steps 122 = .ok (.iload 6, 2) := by decide +kernel
theorem dX1_steps_124 : decode cX1_steps 124 = .ok (.if_icmp .le 22, 3) := by decide +kernel
theorem dX1_steps_127 : decode cX1_steps 127 = .ok (.aload_n 0, 1) := by decide +kernel
theorem dX1_steps_128 : decode cX1_steps 128 = .ok (.getfield 17, 3) := by decide +kernel
theorem dX1_steps_131 : decode cX1_steps 131 = .ok (.iload 5, 2) := by decide +kernel
theorem dX1_steps_133 : decode cX1_steps 133 = .ok (.lload_n 2, 1) := by decide +kernel
theorem dX1_steps_134 : decode cX1_steps 134 = .ok (.lastore, 1) := by decide +kernel
theorem dX1_steps_135 : decode cX1_steps 135 = .ok (.aload_n 0, 1) := by decide +kernel
theorem dX1_steps_136 : decode cX1_steps 136 = .ok (.getfield 20, 3) := by decide +kernel
theorem dX1_steps_139 : decode cX1_steps 139 = .ok (.iload 5, 2) := by decide +kernel
theorem dX1_steps_141 : decode cX1_steps 141 = .ok (.iconst 1, 1) := by decide +kernel
theorem dX1_steps_142 : decode cX1_steps 142 = .ok (.bastore, 1) := by decide +kernel
theorem dX1_steps_143 : decode cX1_steps 143 = .ok (.iinc 6 1, 3) := by decide +kernel
theorem dX1_steps_146 : decode cX1_steps 146 = .ok (.aload_n 0, 1) := by decide +kernel
theorem dX1_steps_147 : decode cX1_steps 147 = .ok (.iload 5, 2) := by decide +kernel
theorem dX1_steps_149 : decode cX1_steps 149 = .ok (.invokevirtual 81, 3) := by decide +kernel
theorem dX1_steps_152 : decode cX1_steps 152 = .ok (.iload 6, 2) := by decide +kernel
theorem dX1_steps_154 : decode cX1_steps 154 = .ok (.ireturn, 1) := by decide +kernel
theorem dX1_cut_0 : decode cX1_cut 0 = .ok (.aload_n 0, 1) := by decide +kernel
theorem dX1_cut_1 : decode cX1_cut 1 = .ok (.iload_n 1, 1) := by decide +kernel
theorem dX1_cut_2 : decode cX1_cut 2 = .ok (.invokestatic 72, 3) := by decide +kernel
theorem dX1_cut_5 : decode cX1_cut 5 = .ok (.ifCond .eq 14, 3) := by decide +kernel
theorem dX1_cut_8 : decode cX1_cut 8 = .ok (.iload 4, 2) := by decide +kernel
theorem dX1_cut_10 : decode cX1_cut 10 = .ok (.ifCond .lt 9, 3) := by decide +kernel
theorem dX1_cut_13 : decode cX1_cut 13 = .ok (.iload 4, 2) := by decide +kernel
theorem dX1_cut_15 : decode cX1_cut 15 = .ok (.iconst 2, 1) := by decide +kernel
theorem dX1_cut_16 : decode cX1_cut 16 = .ok (.if_icmp .le 7, 3) := by decide +kernel
theorem dX1_cut_19 : decode cX1_cut 19 = .ok (.iconst 1, 1) := by decide +kernel
theorem dX1_cut_20 : decode cX1_cut 20 = .ok (.goto 15, 3) := by decide +kernel
theorem dX1_cut_23 : decode cX1_cut 23 = .ok (.aload_n 0, 1) := by decide +kernel
theorem dX1_cut_24 : decode cX1_cut 24 = .ok (.getfield 87, 3) := by decide +kernel
theorem dX1_cut_27 : decode cX1_cut 27 = .ok (.ifCond .eq 7, 3) := by decide +kernel
theorem dX1_cut_30 : decode cX1_cut 30 = .ok (.iconst 2, 1) := by decide +kernel
theorem dX1_cut_31 : decode cX1_cut 31 = .ok (.goto 4, 3) := by decide +kernel
theorem dX1_cut_34 : decode cX1_cut 34 = .ok (.iconst 0, 1) := by decide +kernel
theorem dX1_cut_35 : decode cX1_cut 35 = .ok (.putfield 34, 3) := by decide +kernel
theorem dX1_cut_38 : decode cX1_cut 38 = .ok (.aload_n 0, 1) := by decide +kernel
theorem dX1_cut_39 : decode cX1_cut 39 = .ok (.getfield 34, 3) := by decide +kernel
theorem dX1_cut_42 : decode cX1_cut 42 = .ok (.ifCond .le 5, 3) := by decide +kernel
theorem dX1_cut_45 : decode cX1_cut 45 = .ok (.iconst 0, 1) := by decide +kernel
theorem dX1_cut_46 : decode cX1_cut 46 = .ok (.ireturn, 1) := by decide +kernel
theorem dX1_cut_47 : decode cX1_cut 47 = .ok (.aload_n 0, 1) := by decide +kernel
theorem dX1_cut_48 : decode cX1_cut 48 = .ok (.iload_n 1, 1) := by decide +kernel
theorem dX1_cut_49 : decode cX1_cut 49 = .ok (.lload_n 2, 1) := by decide +kernel
theorem dX1_cut_50 : decode cX1_cut 50 = .ok (.iload 4, 2) := by decide +kernel
theorem dX1_cut_52 : decode cX1_cut 52 = .ok (.invokevirtual 94, 3) := by decide +kernel
theorem dX1_cut_55 : decode cX1_cut 55 = .ok (.istore 5, 2) := by decide +kernel
theorem dX1_cut_57 : decode cX1_cut 57 = .ok (.aload_n 0, 1) := by decide +kernel
theorem dX1_cut_58 : decode cX1_cut 58 = .ok (.invokevirtual 101, 3) := by decide +kernel
theorem dX1_cut_61 : decode cX1_cut 61 = .ok (.iload 5, 2) := by decide +kernel
theorem dX1_cut_63 : decode cX1_cut 63 = .ok (.ireturn, 1) := by decide +kernel
theorem dX1_stop_0 : decode cX1_stop 0 = .ok (.iconst 0, 1) := by decide +kernel
theorem dX1_stop_1 : decode cX1_stop 1 = .ok (.istore_n 1, 1) := by decide +kernel
theorem dX1_stop_2 : decode cX1_stop 2 = .ok (.iload_n 1, 1) := by decide +kernel
theorem dX1_stop_3 : decode cX1_stop 3 = .ok (.aload_n 0, 1) := by decide +kernel
theorem dX1_stop_4 : decode cX1_stop 4 = .ok (.getfield 30, 3) := by decide +kernel
theorem dX1_stop_7 : decode cX1_stop 7 = .ok (.if_icmp .ge 74, 3) := by decide +kernel
theorem dX1_stop_10 : decode cX1_stop 10 = .ok (.aload_n 0, 1) := by decide +kernel
theorem dX1_stop_11 : decode cX1_stop 11 = .ok (.getfield 13, 3) := by decide +kernel
theorem dX1_stop_14 : decode cX1_stop 14 = .ok (.iload_n 1, 1) := by decide +kernel
theorem dX1_stop_15 : decode cX1_stop 15 = .ok (.aload_n 0, 1) := by decide +kernel
theorem dX1_stop_16 : decode cX1_stop 16 = .ok (.getfield 24, 3) := by decide +kernel
theorem dX1_stop_19 : decode cX1_stop 19 = .ok (.iload_n 1, 1) := by decide +kernel
theorem dX1_stop_20 : decode cX1_stop 20 = .ok (.iaload, 1) := by decide +kernel
theorem dX1_stop_21 : decode cX1_stop 21 = .ok (.ifCond .ge 7, 3) := by decide +kernel
theorem dX1_stop_24 : decode cX1_stop 24 = .ok (.iconst (-1), 1) := by decide +kernel
theorem dX1_stop_25 : decode cX1_stop 25 = .ok (.goto 11, 3) := by decide +kernel
theorem dX1_stop_28 : decode cX1_stop 28 = .ok (.aload_n 0, 1) := by decide +kernel
theorem dX1_stop_29 : decode cX1_stop 29 = .ok (.getfield 24, 3) := by decide +kernel
theorem dX1_stop_32 : decode cX1_stop 32 = .ok (.iload_n 1, 1) := by decide +kernel
theorem dX1_stop_33 : decode cX1_stop 33 = .ok (.iaload, 1) := by decide +kernel
theorem dX1_stop_34 : decode cX1_stop 34 = .ok (.iconst 2, 1) := by decide +kernel
theorem dX1_stop_35 : decode cX1_stop 35 = .ok (.idiv, 1) := by decide +kernel
theorem dX1_stop_36 : decode cX1_stop 36 = .ok (.iastore, 1) := by decide +kernel
theorem dX1_stop_37 : decode cX1_stop 37 = .ok (.aload_n 0, 1) := by decide +kernel
theorem dX1_stop_38 : decode cX1_stop 38 = .ok (.getfield 20, 3) := by decide +kernel
theorem dX1_stop_41 : decode cX1_stop 41 = .ok (.iload_n 1, 1) := by decide +kernel
theorem dX1_stop_42 : decode cX1_stop 42 = .ok (.aload_n 0, 1) := by decide +kernel
theorem dX1_stop_43 : decode cX1_stop 43 = .ok (.iload_n 1, 1) := by decide +kernel
theorem dX1_stop_44 : decode cX1_stop 44 = .ok (.invokevirtual 51, 3) := by decide +kernel
theorem dX1_stop_47 : decode cX1_stop 47 = .ok (.bastore, 1) := by decide +kernel
theorem dX1_stop_48 : decode cX1_stop 48 = .ok (.aload_n 0, 1) := by decide +kernel
theorem dX1_stop_49 : decode cX1_stop 49 = .ok (.dup, 1) := by decide +kernel
theorem dX1_stop_50 : decode cX1_stop 50 = .ok (.getfield 44, 3) := by decide +kernel
theorem dX1_stop_53 : decode cX1_stop 53 = .ok (.lconst 1, 1) := by decide +kernel
theorem dX1_stop_54 : decode cX1_stop 54 = .ok (.ladd, 1) := by decide +kernel
theorem dX1_stop_55 : decode cX1_stop 55 = .ok (.putfield 44, 3) := by decide +kernel
theorem dX1_stop_58 : decode cX1_stop 58 = .ok (.aload_n 0, 1) := by decide +kernel
theorem dX1_stop_59 : decode cX1_stop 59 = .ok (.getfield 27, 3) := by decide +kernel
theorem dX1_stop_62 : decode cX1_stop 62 = .ok (.aload_n 0, 1) := by decide +kernel
theorem dX1_stop_63 : decode cX1_stop 63 = .ok (.getfield 30, 3) := by decide +kernel
theorem dX1_stop_66 : decode cX1_stop 66 = .ok (.iconst 1, 1) := by decide +kernel
theorem dX1_stop_67 : decode cX1_stop 67 = .ok (.isub, 1) := by decide +kernel
theorem dX1_stop_68 : decode cX1_stop 68 = .ok (.iload_n 1, 1) := by decide +kernel
theorem dX1_stop_69 : decode cX1_stop 69 = .ok (.isub, 1) := by decide +kernel
theorem dX1_stop_70 : decode cX1_stop 70 = .ok (.aload_n 0, 1) := by decide +kernel
theorem dX1_stop_71 : decode cX1_stop 71 = .ok (.getfield 44, 3) := by decide +kernel
theorem dX1_stop_74 : decode cX1_stop 74 = .ok (.lastore, 1) := by decide +kernel
theorem dX1_stop_75 : decode cX1_stop 75 = .ok (.iinc 1 1, 3) := by decide +kernel
theorem dX1_stop_78 : decode cX1_stop 78 = .ok (.goto (-76), 3) := by decide +kernel
theorem dX1_stop_81 : decode cX1_stop 81 = .ok (.aload_n 0, 1) := by decide +kernel
theorem dX1_stop_82 : decode cX1_stop 82 = .ok (.iconst 0, 1) := by decide +kernel
theorem dX1_stop_83 : decode cX1_stop 83 = .ok (.putfield 87, 3) := by decide +kernel
theorem dX1_stop_86 : decode cX1_stop 86 = .ok (.aload_n 0, 1) := by decide +kernel
theorem dX1_stop_87 : decode cX1_stop 87 = .ok (.iconst 0, 1) := by decide +kernel
theorem dX1_stop_88 : decode cX1_stop 88 = .ok (.putfield 98, 3) := by decide +kernel
theorem dX1_stop_91 : decode cX1_stop 91 = .ok (.return_, 1) := by decide +kernel
theorem dX1_mode_0 : decode cX1_mode 0 = .ok (.aload_n 0, 1) := by decide +kernel
theorem dX1_mode_1 : decode cX1_mode 1 = .ok (.iload_n 1, 1) := by decide +kernel
theorem dX1_mode_2 : decode cX1_mode 2 = .ok (.ifCond .lt 8, 3) := by decide +kernel
theorem dX1_mode_5 : decode cX1_mode 5 = .ok (.iload_n 1, 1) := by decide +kernel
theorem dX1_mode_6 : decode cX1_mode 6 = .ok (.iconst 2, 1) := by decide +kernel
theorem dX1_mode_7 : decode cX1_mode 7 = .ok (.if_icmp .le 7, 3) := by decide +kernel
theorem dX1_mode_10 : decode cX1_mode 10 = .ok (.iconst 1, 1) := by decide +kernel
theorem dX1_mode_11 : decode cX1_mode 11 = .ok (.goto 4, 3) := by decide +kernel
theorem dX1_mode_14 : decode cX1_mode 14 = .ok (.iconst 0, 1) := by decide +kernel
theorem dX1_mode_15 : decode cX1_mode 15 = .ok (.putfield 34, 3) := by decide +kernel
theorem dX1_mode_18 : decode cX1_mode 18 = .ok (.iconst 0, 1) := by decide +kernel
theorem dX1_mode_19 : decode cX1_mode 19 = .ok (.istore_n 2, 1) := by decide +kernel
theorem dX1_mode_20 : decode cX1_mode 20 = .ok (.aload_n 0, 1) := by decide +kernel
theorem dX1_mode_21 : decode cX1_mode 21 = .ok (.getfield 34, 3) := by decide +kernel
theorem dX1_mode_24 : decode cX1_mode 24 = .ok (.ifCond .ne 45, 3) := by decide +kernel
theorem dX1_mode_27 : decode cX1_mode 27 = .ok (.aload_n 0, 1) := by decide +kernel
theorem dX1_mode_28 : decode cX1_mode 28 = .ok (.iload_n 1, 1) := by decide +kernel
theorem dX1_mode_29 : decode cX1_mode 29 = .ok (.putfield 87, 3) := by decide +kernel
theorem dX1_mode_32 : decode cX1_mode 32 = .ok (.iconst 0, 1) := by decide +kernel
theorem dX1_mode_33 : decode cX1_mode 33 = .ok (.istore_n 3, 1) := by decide +kernel
theorem dX1_mode_34 : decode cX1_mode 34 = .ok (.iload_n 3, 1) := by decide +kernel
theorem dX1_mode_35 : decode cX1_mode 35 = .ok (.aload_n 0, 1) := by decide +kernel
theorem dX1_mode_36 : decode cX1_mode 36 = .ok (.getfield 30, 3) := by decide +kernel
theorem dX1_mode_39 : decode cX1_mode 39 = .ok (.if_icmp .ge 30, 3) := by decide +kernel
theorem dX1_mode_42 : decode cX1_mode 42 = .ok (.iload_n 1, 1) := by decide +kernel
theorem dX1_mode_43 : decode cX1_mode 43 = .ok (.ifCond .eq 26, 3) := by decide +kernel
theorem dX1_mode_46 : decode cX1_mode 46 = .ok (.aload_n 0, 1) := by decide +kernel
theorem dX1_mode_47 : decode cX1_mode 47 = .ok (.getfield 20, 3) := by decide +kernel
theorem dX1_mode_50 : decode cX1_mode 50 = .ok (.iload_n 3, 1) := by decide +kernel
theorem dX1_mode_51 : decode cX1_mode 51 = .ok (.baload, 1) := by decide +kernel
theorem dX1_mode_52 : decode cX1_mode 52 = .ok (.ifCond .eq 11, 3) := by decide +kernel
theorem dX1_mode_55 : decode cX1_mode 55 = .ok (.aload_n 0, 1) := by decide +kernel
theorem dX1_mode_56 : decode cX1_mode 56 = .ok (.iload_n 3, 1) := by decide +kernel
theorem dX1_mode_57 : decode cX1_mode 57 = .ok (.invokevirtual 66, 3) := by decide +kernel
theorem dX1_mode_60 : decode cX1_mode 60 = .ok (.iinc 2 1, 3) := by decide +kernel
theorem dX1_mode_63 : decode cX1_mode 63 = .ok (.iinc 3 1, 3) := by decide +kernel
theorem dX1_mode_66 : decode cX1_mode 66 = .ok (.goto (-32), 3) := by decide +kernel
theorem dX1_mode_69 : decode cX1_mode 69 = .ok (.iload_n 2, 1) := by decide +kernel
theorem dX1_mode_70 : decode cX1_mode 70 = .ok (.ireturn, 1) := by decide +kernel
theorem dX1_back_0 : decode cX1_back 0 = .ok (.aload_n 0, 1) := by decide +kernel
theorem dX1_back_1 : decode cX1_back 1 = .ok (.iload_n 1, 1) := by decide +kernel
theorem dX1_back_2 : decode cX1_back 2 = .ok (.ifCond .lt 9, 3) := by decide +kernel
theorem dX1_back_5 : decode cX1_back 5 = .ok (.iload_n 1, 1) := by decide +kernel
theorem dX1_back_6 : decode cX1_back 6 = .ok (.bipush 12, 2) := by decide +kernel
theorem dX1_back_8 : decode cX1_back 8 = .ok (.if_icmp .le 7, 3) := by decide +kernel
theorem dX1_back_11 : decode cX1_back 11 = .ok (.iconst 1, 1) := by decide +kernel
theorem dX1_back_12 : decode cX1_back 12 = .ok (.goto 4, 3) := by decide +kernel
theorem dX1_back_15 : decode cX1_back 15 = .ok (.iconst 0, 1) := by decide +kernel
theorem dX1_back_16 : decode cX1_back 16 = .ok (.putfield 34, 3) := by decide +kernel
theorem dX1_back_19 : decode cX1_back 19 = .ok (.iconst 0, 1) := by decide +kernel
theorem dX1_back_20 : decode cX1_back 20 = .ok (.istore_n 2, 1) := by decide +kernel
theorem dX1_back_21 : decode cX1_back 21 = .ok (.iconst 0, 1) := by decide +kernel
theorem dX1_back_22 : decode cX1_back 22 = .ok (.istore_n 3, 1) := by decide +kernel
theorem dX1_back_23 : decode cX1_back 23 = .ok (.iload_n 3, 1) := by decide +kernel
theorem dX1_back_24 : decode cX1_back 24 = .ok (.iload_n 1, 1) := by decide +kernel
theorem dX1_back_25 : decode cX1_back 25 = .ok (.if_icmp .ge 70, 3) := by decide +kernel
theorem dX1_back_28 : decode cX1_back 28 = .ok (.aload_n 0, 1) := by decide +kernel
theorem dX1_back_29 : decode cX1_back 29 = .ok (.getfield 34, 3) := by decide +kernel
theorem dX1_back_32 : decode cX1_back 32 = .ok (.ifCond .ne 63, 3) := by decide +kernel
theorem dX1_back_35 : decode cX1_back 35 = .ok (.aload_n 0, 1) := by decide +kernel
theorem dX1_back_36 : decode cX1_back 36 = .ok (.aload_n 0, 1) := by decide +kernel
theorem dX1_back_37 : decode cX1_back 37 = .ok (.getfield 98, 3) := by decide +kernel
theorem dX1_back_40 : decode cX1_back 40 = .ok (.invokevirtual 104, 3) := by decide +kernel
theorem dX1_back_43 : decode cX1_back 43 = .ok (.istore 4, 2) := by decide +kernel
theorem dX1_back_45 : decode cX1_back 45 = .ok (.iload 4, 2) := by decide +kernel
theorem dX1_back_47 : decode cX1_back 47 = .ok (.ifCond .ge 11, 3) := by decide +kernel
theorem dX1_back_50 : decode cX1_back 50 = .ok (.aload_n 0, 1) := by decide +kernel
theorem dX1_back_51 : decode cX1_back 51 = .ok (.iconst 0, 1) := by decide +kernel
theorem dX1_back_52 : decode cX1_back 52 = .ok (.invokevirtual 104, 3) := by decide +kernel
theorem dX1_back_55 : decode cX1_back 55 = .ok (.goto 5, 3) := by decide +kernel
theorem dX1_back_58 : decode cX1_back 58 = .ok (.iload 4, 2) := by decide +kernel
theorem dX1_back_60 : decode cX1_back 60 = .ok (.istore 4, 2) := by decide +kernel
theorem dX1_back_62 : decode cX1_back 62 = .ok (.iload 4, 2) := by decide +kernel
theorem dX1_back_64 : decode cX1_back 64 = .ok (.ifCond .lt 25, 3) := by decide +kernel
theorem dX1_back_67 : decode cX1_back 67 = .ok (.aload_n 0, 1) := by decide +kernel
theorem dX1_back_68 : decode cX1_back 68 = .ok (.iload 4, 2) := by decide +kernel
theorem dX1_back_70 : decode cX1_back 70 = .ok (.invokevirtual 66, 3) := by decide +kernel
theorem dX1_back_73 : decode cX1_back 73 = .ok (.aload_n 0, 1) := by decide +kernel
theorem dX1_back_74 : decode cX1_back 74 = .ok (.aload_n 0, 1) := by decide +kernel
theorem dX1_back_75 : decode cX1_back 75 = .ok (.getfield 13, 3) := by decide +kernel
theorem dX1_back_78 : decode cX1_back 78 = .ok (.iload 4, 2) := by decide +kernel
theorem dX1_back_80 : decode cX1_back 80 = .ok (.iaload, 1) := by decide +kernel
theorem dX1_back_81 : decode cX1_back 81 = .ok (.iconst 1, 1) := by decide +kernel
theorem dX1_back_82 : decode cX1_back 82 = .ok (.iadd, 1) := by decide +kernel
theorem dX1_back_83 : decode cX1_back 83 = .ok (.putfield 98, 3) := by decide +kernel
theorem dX1_back_86 : decode cX1_back 86 = .ok (.iinc 2 1, 3) := by decide +kernel
theorem dX1_back_89 : decode cX1_back 89 = .ok (.iinc 3 1, 3) := by decide +kernel
theorem dX1_back_92 : decode cX1_back 92 = .ok (.goto (-69), 3) := by decide +kernel
theorem dX1_back_95 : decode cX1_back 95 = .ok (.iload_n 2, 1) := by decide +kernel
theorem dX1_back_96 : decode cX1_back 96 = .ok (.ireturn, 1) := by decide +kernel
theorem dX1_nextDirty_0 : decode cX1_nextDirty 0 = .ok (.iconst (-1), 1) := by decide +kernel
theorem dX1_nextDirty_1 : decode cX1_nextDirty 1 = .ok (.istore_n 2, 1) := by decide +kernel
theorem dX1_nextDirty_2 : decode cX1_nextDirty 2 = .ok (.iconst 0, 1) := by decide +kernel
theorem dX1_nextDirty_3 : decode cX1_nextDirty 3 = .ok (.istore_n 3, 1) := by decide +kernel
theorem dX1_nextDirty_4 : decode cX1_nextDirty 4 = .ok (.iload_n 3, 1) := by decide +kernel
theorem dX1_nextDirty_5 : decode cX1_nextDirty 5 = .ok (.aload_n 0, 1) := by decide +kernel
theorem dX1_nextDirty_6 : decode cX1_nextDirty 6 = .ok (.getfield 30, 3) := by decide +kernel
theorem dX1_nextDirty_9 : decode cX1_nextDirty 9 = .ok (.if_icmp .ge 65, 3) := by decide +kernel
theorem dX1_nextDirty_12 : decode cX1_nextDirty 12 = .ok (.aload_n 0, 1) := by decide +kernel
theorem dX1_nextDirty_13 : decode cX1_nextDirty 13 = .ok (.getfield 13, 3) := by decide +kernel
theorem dX1_nextDirty_16 : decode cX1_nextDirty 16 = .ok (.iload_n 3, 1) := by decide +kernel
theorem dX1_nextDirty_17 : decode cX1_nextDirty 17 = .ok (.iaload, 1) := by decide +kernel
theorem dX1_nextDirty_18 : decode cX1_nextDirty 18 = .ok (.iload_n 1, 1) := by decide +kernel
theorem dX1_nextDirty_19 : decode cX1_nextDirty 19 = .ok (.if_icmp .lt 16, 3) := by decide +kernel
theorem dX1_nextDirty_22 : decode cX1_nextDirty 22 = .ok (.aload_n 0, 1) := by decide +kernel
theorem dX1_nextDirty_23 : decode cX1_nextDirty 23 = .ok (.getfield 20, 3) := by decide +kernel
theorem dX1_nextDirty_26 : decode cX1_nextDirty 26 = .ok (.iload_n 3, 1) := by decide +kernel
theorem dX1_nextDirty_27 : decode cX1_nextDirty 27 = .ok (.baload, 1) := by decide +kernel
theorem dX1_nextDirty_28 : decode cX1_nextDirty 28 = .ok (.ifCond .eq 7, 3) := by decide +kernel
theorem dX1_nextDirty_31 : decode cX1_nextDirty 31 = .ok (.iconst 1, 1) := by decide +kernel
theorem dX1_nextDirty_32 : decode cX1_nextDirty 32 = .ok (.goto 4, 3) := by decide +kernel
theorem dX1_nextDirty_35 : decode cX1_nextDirty 35 = .ok (.iconst 0, 1) := by decide +kernel
theorem dX1_nextDirty_36 : decode cX1_nextDirty 36 = .ok (.istore 4, 2) := by decide +kernel
theorem dX1_nextDirty_38 : decode cX1_nextDirty 38 = .ok (.iload 4, 2) := by decide +kernel
theorem dX1_nextDirty_40 : decode cX1_nextDirty 40 = .ok (.ifCond .eq 26, 3) := by decide +kernel
theorem dX1_nextDirty_43 : decode cX1_nextDirty 43 = .ok (.iload_n 2, 1) := by decide +kernel
theorem dX1_nextDirty_44 : decode cX1_nextDirty 44 = .ok (.ifCond .lt 18, 3) := by decide +kernel
theorem dX1_nextDirty_47 : decode cX1_nextDirty 47 = .ok (.aload_n 0, 1) := by decide +kernel
theorem dX1_nextDirty_48 : decode cX1_nextDirty 48 = .ok (.getfield 13, 3) := by decide +kernel
theorem dX1_nextDirty_51 : decode cX1_nextDirty 51 = .ok (.iload_n 3, 1) := by decide +kernel
theorem dX1_nextDirty_52 : decode cX1_nextDirty 52 = .ok (.iaload, 1) := by decide +kernel
theorem dX1_nextDirty_53 : decode cX1_nextDirty 53 = .ok (.aload_n 0, 1) := by decide +kernel
theorem dX1_nextDirty_54 : decode cX1_nextDirty 54 = .ok (.getfield 13, 3) := by decide +kernel
theorem dX1_nextDirty_57 : decode cX1_nextDirty 57 = .ok (.iload_n 2, 1) := by decide +kernel
theorem dX1_nextDirty_58 : decode cX1_nextDirty 58 = .ok (.iaload, 1) := by decide +kernel
theorem dX1_nextDirty_59 : decode cX1_nextDirty 59 = .ok (.if_icmp .ge 7, 3) := by decide +kernel
theorem dX1_nextDirty_62 : decode cX1_nextDirty 62 = .ok (.iload_n 3, 1) := by decide +kernel
theorem dX1_nextDirty_63 : decode cX1_nextDirty 63 = .ok (.goto 4, 3) := by decide +kernel
theorem dX1_nextDirty_66 : decode cX1_nextDirty 66 = .ok (.iload_n 2, 1) := by decide +kernel
theorem dX1_nextDirty_67 : decode cX1_nextDirty 67 = .ok (.istore_n 2, 1) := by decide +kernel
theorem dX1_nextDirty_68 : decode cX1_nextDirty 68 = .ok (.iinc 3 1, 3) := by decide +kernel
theorem dX1_nextDirty_71 : decode cX1_nextDirty 71 = .ok (.goto (-67), 3) := by decide +kernel
theorem dX1_nextDirty_74 : decode cX1_nextDirty 74 = .ok (.iload_n 2, 1) := by decide +kernel
theorem dX1_nextDirty_75 : decode cX1_nextDirty 75 = .ok (.ireturn, 1) := by decide +kernel
theorem dX1_check_0 : decode cX1_check 0 = .ok (.aload_n 0, 1) := by decide +kernel
theorem dX1_check_1 : decode cX1_check 1 = .ok (.iconst 0, 1) := by decide +kernel
theorem dX1_check_2 : decode cX1_check 2 = .ok (.putfield 34, 3) := by decide +kernel
theorem dX1_check_5 : decode cX1_check 5 = .ok (.iconst 0, 1) := by decide +kernel
theorem dX1_check_6 : decode cX1_check 6 = .ok (.istore_n 1, 1) := by decide +kernel
theorem dX1_check_7 : decode cX1_check 7 = .ok (.iconst 0, 1) := by decide +kernel
theorem dX1_check_8 : decode cX1_check 8 = .ok (.istore_n 2, 1) := by decide +kernel
theorem dX1_check_9 : decode cX1_check 9 = .ok (.iload_n 2, 1) := by decide +kernel
theorem dX1_check_10 : decode cX1_check 10 = .ok (.aload_n 0, 1) := by decide +kernel
theorem dX1_check_11 : decode cX1_check 11 = .ok (.getfield 30, 3) := by decide +kernel
theorem dX1_check_14 : decode cX1_check 14 = .ok (.if_icmp .ge 31, 3) := by decide +kernel
theorem dX1_check_17 : decode cX1_check 17 = .ok (.aload_n 0, 1) := by decide +kernel
theorem dX1_check_18 : decode cX1_check 18 = .ok (.getfield 24, 3) := by decide +kernel
theorem dX1_check_21 : decode cX1_check 21 = .ok (.iload_n 2, 1) := by decide +kernel
theorem dX1_check_22 : decode cX1_check 22 = .ok (.iaload, 1) := by decide +kernel
theorem dX1_check_23 : decode cX1_check 23 = .ok (.aload_n 0, 1) := by decide +kernel
theorem dX1_check_24 : decode cX1_check 24 = .ok (.iload_n 2, 1) := by decide +kernel
theorem dX1_check_25 : decode cX1_check 25 = .ok (.invokevirtual 37, 3) := by decide +kernel
theorem dX1_check_28 : decode cX1_check 28 = .ok (.if_icmp .eq 11, 3) := by decide +kernel
theorem dX1_check_31 : decode cX1_check 31 = .ok (.aload_n 0, 1) := by decide +kernel
theorem dX1_check_32 : decode cX1_check 32 = .ok (.iload_n 2, 1) := by decide +kernel
theorem dX1_check_33 : decode cX1_check 33 = .ok (.invokevirtual 55, 3) := by decide +kernel
theorem dX1_check_36 : decode cX1_check 36 = .ok (.iinc 1 1, 3) := by decide +kernel
theorem dX1_check_39 : decode cX1_check 39 = .ok (.iinc 2 1, 3) := by decide +kernel
theorem dX1_check_42 : decode cX1_check 42 = .ok (.goto (-33), 3) := by decide +kernel
theorem dX1_check_45 : decode cX1_check 45 = .ok (.iload_n 1, 1) := by decide +kernel
theorem dX1_check_46 : decode cX1_check 46 = .ok (.ireturn, 1) := by decide +kernel
theorem dX1_crash_0 : decode cX1_crash 0 = .ok (.aload_n 0, 1) := by decide +kernel
theorem dX1_crash_1 : decode cX1_crash 1 = .ok (.iconst 0, 1) := by decide +kernel
theorem dX1_crash_2 : decode cX1_crash 2 = .ok (.putfield 34, 3) := by decide +kernel
theorem dX1_crash_5 : decode cX1_crash 5 = .ok (.aload_n 0, 1) := by decide +kernel
theorem dX1_crash_6 : decode cX1_crash 6 = .ok (.invokevirtual 101, 3) := by decide +kernel
theorem dX1_crash_9 : decode cX1_crash 9 = .ok (.aload_n 0, 1) := by decide +kernel
theorem dX1_crash_10 : decode cX1_crash 10 = .ok (.invokevirtual 107, 3) := by decide +kernel
theorem dX1_crash_13 : decode cX1_crash 13 = .ok (.ireturn, 1) := by decide +kernel
theorem dX1_full_0 : decode cX1_full 0 = .ok (.iconst 0, 1) := by decide +kernel
theorem dX1_full_1 : decode cX1_full 1 = .ok (.istore_n 1, 1) := by decide +kernel
theorem dX1_full_2 : decode cX1_full 2 = .ok (.iconst 0, 1) := by decide +kernel
theorem dX1_full_3 : decode cX1_full 3 = .ok (.istore_n 2, 1) := by decide +kernel
theorem dX1_full_4 : decode cX1_full 4 = .ok (.iload_n 2, 1) := by decide +kernel
theorem dX1_full_5 : decode cX1_full 5 = .ok (.aload_n 0, 1) := by decide +kernel
theorem dX1_full_6 : decode cX1_full 6 = .ok (.getfield 30, 3) := by decide +kernel
theorem dX1_full_9 : decode cX1_full 9 = .ok (.if_icmp .ge 26, 3) := by decide +kernel
theorem dX1_full_12 : decode cX1_full 12 = .ok (.iload_n 1, 1) := by decide +kernel
theorem dX1_full_13 : decode cX1_full 13 = .ok (.aload_n 0, 1) := by decide +kernel
theorem dX1_full_14 : decode cX1_full 14 = .ok (.getfield 13, 3) := by decide +kernel
theorem dX1_full_17 : decode cX1_full 17 = .ok (.iload_n 2, 1) := by decide +kernel
theorem dX1_full_18 : decode cX1_full 18 = .ok (.iaload, 1) := by decide +kernel
theorem dX1_full_19 : decode cX1_full 19 = .ok (.ifCond .lt 7, 3) := by decide +kernel
theorem dX1_full_22 : decode cX1_full 22 = .ok (.iconst 1, 1) := by decide +kernel
theorem dX1_full_23 : decode cX1_full 23 = .ok (.goto 4, 3) := by decide +kernel
theorem dX1_full_26 : decode cX1_full 26 = .ok (.iconst 0, 1) := by decide +kernel
theorem dX1_full_27 : decode cX1_full 27 = .ok (.iadd, 1) := by decide +kernel
theorem dX1_full_28 : decode cX1_full 28 = .ok (.istore_n 1, 1) := by decide +kernel
theorem dX1_full_29 : decode cX1_full 29 = .ok (.iinc 2 1, 3) := by decide +kernel
theorem dX1_full_32 : decode cX1_full 32 = .ok (.goto (-28), 3) := by decide +kernel
theorem dX1_full_35 : decode cX1_full 35 = .ok (.iload_n 1, 1) := by decide +kernel
theorem dX1_full_36 : decode cX1_full 36 = .ok (.ireturn, 1) := by decide +kernel
theorem dX1_lose_0 : decode cX1_lose 0 = .ok (.aload_n 0, 1) := by decide +kernel
theorem dX1_lose_1 : decode cX1_lose 1 = .ok (.iconst 0, 1) := by decide +kernel
theorem dX1_lose_2 : decode cX1_lose 2 = .ok (.putfield 34, 3) := by decide +kernel
theorem dX1_lose_5 : decode cX1_lose 5 = .ok (.aload_n 0, 1) := by decide +kernel
theorem dX1_lose_6 : decode cX1_lose 6 = .ok (.invokevirtual 110, 3) := by decide +kernel
theorem dX1_lose_9 : decode cX1_lose 9 = .ok (.istore_n 1, 1) := by decide +kernel
theorem dX1_lose_10 : decode cX1_lose 10 = .ok (.iconst 0, 1) := by decide +kernel
theorem dX1_lose_11 : decode cX1_lose 11 = .ok (.istore_n 2, 1) := by decide +kernel
theorem dX1_lose_12 : decode cX1_lose 12 = .ok (.iload_n 2, 1) := by decide +kernel
theorem dX1_lose_13 : decode cX1_lose 13 = .ok (.aload_n 0, 1) := by decide +kernel
theorem dX1_lose_14 : decode cX1_lose 14 = .ok (.getfield 30, 3) := by decide +kernel
theorem dX1_lose_17 : decode cX1_lose 17 = .ok (.if_icmp .ge 16, 3) := by decide +kernel
theorem dX1_lose_20 : decode cX1_lose 20 = .ok (.aload_n 0, 1) := by decide +kernel
theorem dX1_lose_21 : decode cX1_lose 21 = .ok (.getfield 24, 3) := by decide +kernel
theorem dX1_lose_24 : decode cX1_lose 24 = .ok (.iload_n 2, 1) := by decide +kernel
theorem dX1_lose_25 : decode cX1_lose 25 = .ok (.iconst (-1), 1) := by decide +kernel
theorem dX1_lose_26 : decode cX1_lose 26 = .ok (.iastore, 1) := by decide +kernel
theorem dX1_lose_27 : decode cX1_lose 27 = .ok (.iinc 2 1, 3) := by decide +kernel
theorem dX1_lose_30 : decode cX1_lose 30 = .ok (.goto (-18), 3) := by decide +kernel
theorem dX1_lose_33 : decode cX1_lose 33 = .ok (.aload_n 0, 1) := by decide +kernel
theorem dX1_lose_34 : decode cX1_lose 34 = .ok (.invokevirtual 101, 3) := by decide +kernel
theorem dX1_lose_37 : decode cX1_lose 37 = .ok (.iload_n 1, 1) := by decide +kernel
theorem dX1_lose_38 : decode cX1_lose 38 = .ok (.ireturn, 1) := by decide +kernel
theorem dX1_dirties_0 : decode cX1_dirties 0 = .ok (.iconst 0, 1) := by decide +kernel
theorem dX1_dirties_1 : decode cX1_dirties 1 = .ok (.istore_n 1, 1) := by decide +kernel
theorem dX1_dirties_2 : decode cX1_dirties 2 = .ok (.iconst 0, 1) := by decide +kernel
theorem dX1_dirties_3 : decode cX1_dirties 3 = .ok (.istore_n 2, 1) := by decide +kernel
theorem dX1_dirties_4 : decode cX1_dirties 4 = .ok (.iload_n 2, 1) := by decide +kernel
theorem dX1_dirties_5 : decode cX1_dirties 5 = .ok (.aload_n 0, 1) := by decide +kernel
theorem dX1_dirties_6 : decode cX1_dirties 6 = .ok (.getfield 30, 3) := by decide +kernel
theorem dX1_dirties_9 : decode cX1_dirties 9 = .ok (.if_icmp .ge 35, 3) := by decide +kernel
theorem dX1_dirties_12 : decode cX1_dirties 12 = .ok (.iload_n 1, 1) := by decide +kernel
theorem dX1_dirties_13 : decode cX1_dirties 13 = .ok (.aload_n 0, 1) := by decide +kernel
theorem dX1_dirties_14 : decode cX1_dirties 14 = .ok (.getfield 13, 3) := by decide +kernel
theorem dX1_dirties_17 : decode cX1_dirties 17 = .ok (.iload_n 2, 1) := by decide +kernel
theorem dX1_dirties_18 : decode cX1_dirties 18 = .ok (.iaload, 1) := by decide +kernel
theorem dX1_dirties_19 : decode cX1_dirties 19 = .ok (.ifCond .lt 16, 3) := by decide +kernel
theorem dX1_dirties_22 : decode cX1_dirties 22 = .ok (.aload_n 0, 1) := by decide +kernel
theorem dX1_dirties_23 : decode cX1_dirties 23 = .ok (.getfield 20, 3) := by decide +kernel
theorem dX1_dirties_26 : decode cX1_dirties 26 = .ok (.iload_n 2, 1) := by decide +kernel
theorem dX1_dirties_27 : decode cX1_dirties 27 = .ok (.baload, 1) := by decide +kernel
theorem dX1_dirties_28 : decode cX1_dirties 28 = .ok (.ifCond .eq 7, 3) := by decide +kernel
theorem dX1_dirties_31 : decode cX1_dirties 31 = .ok (.iconst 1, 1) := by decide +kernel
theorem dX1_dirties_32 : decode cX1_dirties 32 = .ok (.goto 4, 3) := by decide +kernel
theorem dX1_dirties_35 : decode cX1_dirties 35 = .ok (.iconst 0, 1) := by decide +kernel
theorem dX1_dirties_36 : decode cX1_dirties 36 = .ok (.iadd, 1) := by decide +kernel
theorem dX1_dirties_37 : decode cX1_dirties 37 = .ok (.istore_n 1, 1) := by decide +kernel
theorem dX1_dirties_38 : decode cX1_dirties 38 = .ok (.iinc 2 1, 3) := by decide +kernel
theorem dX1_dirties_41 : decode cX1_dirties 41 = .ok (.goto (-37), 3) := by decide +kernel
theorem dX1_dirties_44 : decode cX1_dirties 44 = .ok (.iload_n 1, 1) := by decide +kernel
theorem dX1_dirties_45 : decode cX1_dirties 45 = .ok (.ireturn, 1) := by decide +kernel
theorem dX1_slot_0 : decode cX1_slot 0 = .ok (.aload_n 0, 1) := by decide +kernel
theorem dX1_slot_1 : decode cX1_slot 1 = .ok (.iload_n 1, 1) := by decide +kernel
theorem dX1_slot_2 : decode cX1_slot 2 = .ok (.invokestatic 72, 3) := by decide +kernel
theorem dX1_slot_5 : decode cX1_slot 5 = .ok (.ifCond .eq 7, 3) := by decide +kernel
theorem dX1_slot_8 : decode cX1_slot 8 = .ok (.iconst 0, 1) := by decide +kernel
theorem dX1_slot_9 : decode cX1_slot 9 = .ok (.goto 4, 3) := by decide +kernel
theorem dX1_slot_12 : decode cX1_slot 12 = .ok (.iconst 1, 1) := by decide +kernel
theorem dX1_slot_13 : decode cX1_slot 13 = .ok (.putfield 34, 3) := by decide +kernel
theorem dX1_slot_16 : decode cX1_slot 16 = .ok (.aload_n 0, 1) := by decide +kernel
theorem dX1_slot_17 : decode cX1_slot 17 = .ok (.getfield 34, 3) := by decide +kernel
theorem dX1_slot_20 : decode cX1_slot 20 = .ok (.ifCond .ne 11, 3) := by decide +kernel
theorem dX1_slot_23 : decode cX1_slot 23 = .ok (.aload_n 0, 1) := by decide +kernel
theorem dX1_slot_24 : decode cX1_slot 24 = .ok (.iload_n 1, 1) := by decide +kernel
theorem dX1_slot_25 : decode cX1_slot 25 = .ok (.invokevirtual 75, 3) := by decide +kernel
theorem dX1_slot_28 : decode cX1_slot 28 = .ok (.goto 4, 3) := by decide +kernel
theorem dX1_slot_31 : decode cX1_slot 31 = .ok (.iconst 0, 1) := by decide +kernel
theorem dX1_slot_32 : decode cX1_slot 32 = .ok (.ireturn, 1) := by decide +kernel
theorem dX1_dirty_0 : decode cX1_dirty 0 = .ok (.aload_n 0, 1) := by decide +kernel
theorem dX1_dirty_1 : decode cX1_dirty 1 = .ok (.iload_n 1, 1) := by decide +kernel
theorem dX1_dirty_2 : decode cX1_dirty 2 = .ok (.invokestatic 72, 3) := by decide +kernel
theorem dX1_dirty_5 : decode cX1_dirty 5 = .ok (.ifCond .ne 7, 3) := by decide +kernel
theorem dX1_dirty_8 : decode cX1_dirty 8 = .ok (.iconst 1, 1) := by decide +kernel
theorem dX1_dirty_9 : decode cX1_dirty 9 = .ok (.goto 16, 3) := by decide +kernel
theorem dX1_dirty_12 : decode cX1_dirty 12 = .ok (.aload_n 0, 1) := by decide +kernel
theorem dX1_dirty_13 : decode cX1_dirty 13 = .ok (.iload_n 1, 1) := by decide +kernel
theorem dX1_dirty_14 : decode cX1_dirty 14 = .ok (.invokevirtual 75, 3) := by decide +kernel
theorem dX1_dirty_17 : decode cX1_dirty 17 = .ok (.ifCond .ge 7, 3) := by decide +kernel
theorem dX1_dirty_20 : decode cX1_dirty 20 = .ok (.iconst 2, 1) := by decide +kernel
theorem dX1_dirty_21 : decode cX1_dirty 21 = .ok (.goto 4, 3) := by decide +kernel
theorem dX1_dirty_24 : decode cX1_dirty 24 = .ok (.iconst 0, 1) := by decide +kernel
theorem dX1_dirty_25 : decode cX1_dirty 25 = .ok (.putfield 34, 3) := by decide +kernel
theorem dX1_dirty_28 : decode cX1_dirty 28 = .ok (.aload_n 0, 1) := by decide +kernel
theorem dX1_dirty_29 : decode cX1_dirty 29 = .ok (.getfield 34, 3) := by decide +kernel
theorem dX1_dirty_32 : decode cX1_dirty 32 = .ok (.ifCond .ne 20, 3) := by decide +kernel
theorem dX1_dirty_35 : decode cX1_dirty 35 = .ok (.aload_n 0, 1) := by decide +kernel
theorem dX1_dirty_36 : decode cX1_dirty 36 = .ok (.getfield 20, 3) := by decide +kernel
theorem dX1_dirty_39 : decode cX1_dirty 39 = .ok (.aload_n 0, 1) := by decide +kernel
theorem dX1_dirty_40 : decode cX1_dirty 40 = .ok (.iload_n 1, 1) := by decide +kernel
theorem dX1_dirty_41 : decode cX1_dirty 41 = .ok (.invokevirtual 75, 3) := by decide +kernel
theorem dX1_dirty_44 : decode cX1_dirty 44 = .ok (.baload, 1) := by decide +kernel
theorem dX1_dirty_45 : decode cX1_dirty 45 = .ok (.ifCond .eq 7, 3) := by decide +kernel
theorem dX1_dirty_48 : decode cX1_dirty 48 = .ok (.iconst 1, 1) := by decide +kernel
theorem dX1_dirty_49 : decode cX1_dirty 49 = .ok (.goto 4, 3) := by decide +kernel
theorem dX1_dirty_52 : decode cX1_dirty 52 = .ok (.iconst 0, 1) := by decide +kernel
theorem dX1_dirty_53 : decode cX1_dirty 53 = .ok (.ireturn, 1) := by decide +kernel
theorem dX1_origin_0 : decode cX1_origin 0 = .ok (.aload_n 0, 1) := by decide +kernel
theorem dX1_origin_1 : decode cX1_origin 1 = .ok (.iload_n 1, 1) := by decide +kernel
theorem dX1_origin_2 : decode cX1_origin 2 = .ok (.invokestatic 72, 3) := by decide +kernel
theorem dX1_origin_5 : decode cX1_origin 5 = .ok (.ifCond .eq 7, 3) := by decide +kernel
theorem dX1_origin_8 : decode cX1_origin 8 = .ok (.iconst 0, 1) := by decide +kernel
theorem dX1_origin_9 : decode cX1_origin 9 = .ok (.goto 4, 3) := by decide +kernel
theorem dX1_origin_12 : decode cX1_origin 12 = .ok (.iconst 1, 1) := by decide +kernel
theorem dX1_origin_13 : decode cX1_origin 13 = .ok (.putfield 34, 3) := by decide +kernel
theorem dX1_origin_16 : decode cX1_origin 16 = .ok (.aload_n 0, 1) := by decide +kernel
theorem dX1_origin_17 : decode cX1_origin 17 = .ok (.getfield 34, 3) := by decide +kernel
theorem dX1_origin_20 : decode cX1_origin 20 = .ok (.ifCond .ne 12, 3) := by decide +kernel
theorem dX1_origin_23 : decode cX1_origin 23 = .ok (.aload_n 0, 1) := by decide +kernel
theorem dX1_origin_24 : decode cX1_origin 24 = .ok (.getfield 7, 3) := by decide +kernel
theorem dX1_origin_27 : decode cX1_origin 27 = .ok (.iload_n 1, 1) := by decide +kernel
theorem dX1_origin_28 : decode cX1_origin 28 = .ok (.laload, 1) := by decide +kernel
theorem dX1_origin_29 : decode cX1_origin 29 = .ok (.goto 4, 3) := by decide +kernel
theorem dX1_origin_32 : decode cX1_origin 32 = .ok (.lconst 0, 1) := by decide +kernel
theorem dX1_origin_33 : decode cX1_origin 33 = .ok (.lreturn, 1) := by decide +kernel
theorem dX1_order_0 : decode cX1_order 0 = .ok (.iconst 0, 1) := by decide +kernel
theorem dX1_order_1 : decode cX1_order 1 = .ok (.istore_n 2, 1) := by decide +kernel
theorem dX1_order_2 : decode cX1_order 2 = .ok (.iload_n 2, 1) := by decide +kernel
theorem dX1_order_3 : decode cX1_order 3 = .ok (.aload_n 0, 1) := by decide +kernel
theorem dX1_order_4 : decode cX1_order 4 = .ok (.getfield 30, 3) := by decide +kernel
theorem dX1_order_7 : decode cX1_order 7 = .ok (.if_icmp .ge 90, 3) := by decide +kernel
theorem dX1_order_10 : decode cX1_order 10 = .ok (.iconst 0, 1) := by decide +kernel
theorem dX1_order_11 : decode cX1_order 11 = .ok (.istore_n 3, 1) := by decide +kernel
theorem dX1_order_12 : decode cX1_order 12 = .ok (.iconst 0, 1) := by decide +kernel
theorem dX1_order_13 : decode cX1_order 13 = .ok (.istore 4, 2) := by decide +kernel
theorem dX1_order_15 : decode cX1_order 15 = .ok (.iload 4, 2) := by decide +kernel
theorem dX1_order_17 : decode cX1_order 17 = .ok (.aload_n 0, 1) := by decide +kernel
theorem dX1_order_18 : decode cX1_order 18 = .ok (.getfield 30, 3) := by decide +kernel
theorem dX1_order_21 : decode cX1_order 21 = .ok (.if_icmp .ge 44, 3) := by decide +kernel
theorem dX1_order_24 : decode cX1_order 24 = .ok (.iload_n 3, 1) := by decide +kernel
theorem dX1_order_25 : decode cX1_order 25 = .ok (.aload_n 0, 1) := by decide +kernel
theorem dX1_order_26 : decode cX1_order 26 = .ok (.getfield 13, 3) := by decide +kernel
theorem dX1_order_29 : decode cX1_order 29 = .ok (.iload 4, 2) := by decide +kernel
theorem dX1_order_31 : decode cX1_order 31 = .ok (.iaload, 1) := by decide +kernel
theorem dX1_order_32 : decode cX1_order 32 = .ok (.ifCond .lt 24, 3) := by decide +kernel
theorem dX1_order_35 : decode cX1_order 35 = .ok (.aload_n 0, 1) := by decide +kernel
theorem dX1_order_36 : decode cX1_order 36 = .ok (.getfield 27, 3) := by decide +kernel
theorem dX1_order_39 : decode cX1_order 39 = .ok (.iload 4, 2) := by decide +kernel
theorem dX1_order_41 : decode cX1_order 41 = .ok (.laload, 1) := by decide +kernel
theorem dX1_order_42 : decode cX1_order 42 = .ok (.aload_n 0, 1) := by decide +kernel
theorem dX1_order_43 : decode cX1_order 43 = .ok (.getfield 27, 3) := by decide +kernel
theorem dX1_order_46 : decode cX1_order 46 = .ok (.iload_n 2, 1) := by decide +kernel
theorem dX1_order_47 : decode cX1_order 47 = .ok (.laload, 1) := by decide +kernel
theorem dX1_order_48 : decode cX1_order 48 = .ok (.lcmp, 1) := by decide +kernel
theorem dX1_order_49 : decode cX1_order 49 = .ok (.ifCond .le 7, 3) := by decide +kernel
theorem dX1_order_52 : decode cX1_order 52 = .ok (.iconst 1, 1) := by decide +kernel
theorem dX1_order_53 : decode cX1_order 53 = .ok (.goto 4, 3) := by decide +kernel
theorem dX1_order_56 : decode cX1_order 56 = .ok (.iconst 0, 1) := by decide +kernel
theorem dX1_order_57 : decode cX1_order 57 = .ok (.iadd, 1) := by decide +kernel
theorem dX1_order_58 : decode cX1_order 58 = .ok (.istore_n 3, 1) := by decide +kernel
theorem dX1_order_59 : decode cX1_order 59 = .ok (.iinc 4 1, 3) := by decide +kernel
theorem dX1_order_62 : decode cX1_order 62 = .ok (.goto (-47), 3) := by decide +kernel
theorem dX1_order_65 : decode cX1_order 65 = .ok (.aload_n 0, 1) := by decide +kernel
theorem dX1_order_66 : decode cX1_order 66 = .ok (.getfield 13, 3) := by decide +kernel
theorem dX1_order_69 : decode cX1_order 69 = .ok (.iload_n 2, 1) := by decide +kernel
theorem dX1_order_70 : decode cX1_order 70 = .ok (.iaload, 1) := by decide +kernel
theorem dX1_order_71 : decode cX1_order 71 = .ok (.ifCond .lt 20, 3) := by decide +kernel
theorem dX1_order_74 : decode cX1_order 74 = .ok (.iload_n 3, 1) := by decide +kernel
theorem dX1_order_75 : decode cX1_order 75 = .ok (.iload_n 1, 1) := by decide +kernel
theorem dX1_order_76 : decode cX1_order 76 = .ok (.if_icmp .ne 15, 3) := by decide +kernel
theorem dX1_order_79 : decode cX1_order 79 = .ok (.aload_n 0, 1) := by decide +kernel
theorem dX1_order_80 : decode cX1_order 80 = .ok (.iconst 0, 1) := by decide +kernel
theorem dX1_order_81 : decode cX1_order 81 = .ok (.putfield 34, 3) := by decide +kernel
theorem dX1_order_84 : decode cX1_order 84 = .ok (.aload_n 0, 1) := by decide +kernel
theorem dX1_order_85 : decode cX1_order 85 = .ok (.getfield 13, 3) := by decide +kernel
theorem dX1_order_88 : decode cX1_order 88 = .ok (.iload_n 2, 1) := by decide +kernel
theorem dX1_order_89 : decode cX1_order 89 = .ok (.iaload, 1) := by decide +kernel
theorem dX1_order_90 : decode cX1_order 90 = .ok (.ireturn, 1) := by decide +kernel
theorem dX1_order_91 : decode cX1_order 91 = .ok (.iinc 2 1, 3) := by decide +kernel
theorem dX1_order_94 : decode cX1_order 94 = .ok (.goto (-92), 3) := by decide +kernel
theorem dX1_order_97 : decode cX1_order 97 = .ok (.aload_n 0, 1) := by decide +kernel
theorem dX1_order_98 : decode cX1_order 98 = .ok (.iconst 1, 1) := by decide +kernel
theorem dX1_order_99 : decode cX1_order 99 = .ok (.putfield 34, 3) := by decide +kernel
theorem dX1_order_102 : decode cX1_order 102 = .ok (.iconst 0, 1) := by decide +kernel
theorem dX1_order_103 : decode cX1_order 103 = .ok (.ireturn, 1) := by decide +kernel
theorem dX1_noted_0 : decode cX1_noted 0 = .ok (.aload_n 0, 1) := by decide +kernel
theorem dX1_noted_1 : decode cX1_noted 1 = .ok (.iload_n 1, 1) := by decide +kernel
theorem dX1_noted_2 : decode cX1_noted 2 = .ok (.ifCond .lt 11, 3) := by decide +kernel
theorem dX1_noted_5 : decode cX1_noted 5 = .ok (.iload_n 1, 1) := by decide +kernel
theorem dX1_noted_6 : decode cX1_noted 6 = .ok (.aload_n 0, 1) := by decide +kernel
theorem dX1_noted_7 : decode cX1_noted 7 = .ok (.getfield 30, 3) := by decide +kernel
theorem dX1_noted_10 : decode cX1_noted 10 = .ok (.if_icmp .lt 7, 3) := by decide +kernel
theorem dX1_noted_13 : decode cX1_noted 13 = .ok (.iconst 1, 1) := by decide +kernel
theorem dX1_noted_14 : decode cX1_noted 14 = .ok (.goto 4, 3) := by decide +kernel
theorem dX1_noted_17 : decode cX1_noted 17 = .ok (.iconst 0, 1) := by decide +kernel
theorem dX1_noted_18 : decode cX1_noted 18 = .ok (.putfield 34, 3) := by decide +kernel
theorem dX1_noted_21 : decode cX1_noted 21 = .ok (.aload_n 0, 1) := by decide +kernel
theorem dX1_noted_22 : decode cX1_noted 22 = .ok (.getfield 34, 3) := by decide +kernel
theorem dX1_noted_25 : decode cX1_noted 25 = .ok (.ifCond .ne 12, 3) := by decide +kernel
theorem dX1_noted_28 : decode cX1_noted 28 = .ok (.aload_n 0, 1) := by decide +kernel
theorem dX1_noted_29 : decode cX1_noted 29 = .ok (.getfield 24, 3) := by decide +kernel
theorem dX1_noted_32 : decode cX1_noted 32 = .ok (.iload_n 1, 1) := by decide +kernel
theorem dX1_noted_33 : decode cX1_noted 33 = .ok (.iaload, 1) := by decide +kernel
theorem dX1_noted_34 : decode cX1_noted 34 = .ok (.goto 4, 3) := by decide +kernel
theorem dX1_noted_37 : decode cX1_noted 37 = .ok (.iconst 0, 1) := by decide +kernel
theorem dX1_noted_38 : decode cX1_noted 38 = .ok (.ireturn, 1) := by decide +kernel
theorem dX1_figure_0 : decode cX1_figure 0 = .ok (.aload_n 0, 1) := by decide +kernel
theorem dX1_figure_1 : decode cX1_figure 1 = .ok (.iload_n 1, 1) := by decide +kernel
theorem dX1_figure_2 : decode cX1_figure 2 = .ok (.ifCond .lt 9, 3) := by decide +kernel
theorem dX1_figure_5 : decode cX1_figure 5 = .ok (.iload_n 1, 1) := by decide +kernel
theorem dX1_figure_6 : decode cX1_figure 6 = .ok (.bipush 7, 2) := by decide +kernel
theorem dX1_figure_8 : decode cX1_figure 8 = .ok (.if_icmp .le 7, 3) := by decide +kernel
theorem dX1_figure_11 : decode cX1_figure 11 = .ok (.iconst 1, 1) := by decide +kernel
theorem dX1_figure_12 : decode cX1_figure 12 = .ok (.goto 4, 3) := by decide +kernel
theorem dX1_figure_15 : decode cX1_figure 15 = .ok (.iconst 0, 1) := by decide +kernel
theorem dX1_figure_16 : decode cX1_figure 16 = .ok (.putfield 34, 3) := by decide +kernel
theorem dX1_figure_19 : decode cX1_figure 19 = .ok (.iload_n 1, 1) := by decide +kernel
theorem dX1_figure_20 : decode cX1_figure 20 = .ok (.tableswitch 88 0 7 #[48, 53, 58, 63, 68, 73, 78, 83], 48) := by decide +kernel
theorem dX1_figure_68 : decode cX1_figure 68 = .ok (.aload_n 0, 1) := by decide +kernel
theorem dX1_figure_69 : decode cX1_figure 69 = .ok (.getfield 78, 3) := by decide +kernel
theorem dX1_figure_72 : decode cX1_figure 72 = .ok (.ireturn, 1) := by decide +kernel
theorem dX1_figure_73 : decode cX1_figure 73 = .ok (.aload_n 0, 1) := by decide +kernel
theorem dX1_figure_74 : decode cX1_figure 74 = .ok (.getfield 84, 3) := by decide +kernel
theorem dX1_figure_77 : decode cX1_figure 77 = .ok (.ireturn, 1) := by decide +kernel
theorem dX1_figure_78 : decode cX1_figure 78 = .ok (.aload_n 0, 1) := by decide +kernel
theorem dX1_figure_79 : decode cX1_figure 79 = .ok (.getfield 48, 3) := by decide +kernel
theorem dX1_figure_82 : decode cX1_figure 82 = .ok (.ireturn, 1) := by decide +kernel
theorem dX1_figure_83 : decode cX1_figure 83 = .ok (.aload_n 0, 1) := by decide +kernel
theorem dX1_figure_84 : decode cX1_figure 84 = .ok (.getfield 41, 3) := by decide +kernel
theorem dX1_figure_87 : decode cX1_figure 87 = .ok (.ireturn, 1) := by decide +kernel
theorem dX1_figure_88 : decode cX1_figure 88 = .ok (.aload_n 0, 1) := by decide +kernel
theorem dX1_figure_89 : decode cX1_figure 89 = .ok (.invokevirtual 107, 3) := by decide +kernel
theorem dX1_figure_92 : decode cX1_figure 92 = .ok (.ireturn, 1) := by decide +kernel
theorem dX1_figure_93 : decode cX1_figure 93 = .ok (.aload_n 0, 1) := by decide +kernel
theorem dX1_figure_94 : decode cX1_figure 94 = .ok (.invokevirtual 110, 3) := by decide +kernel
theorem dX1_figure_97 : decode cX1_figure 97 = .ok (.ireturn, 1) := by decide +kernel
theorem dX1_figure_98 : decode cX1_figure 98 = .ok (.aload_n 0, 1) := by decide +kernel
theorem dX1_figure_99 : decode cX1_figure 99 = .ok (.getfield 87, 3) := by decide +kernel
theorem dX1_figure_102 : decode cX1_figure 102 = .ok (.ireturn, 1) := by decide +kernel
theorem dX1_figure_103 : decode cX1_figure 103 = .ok (.aload_n 0, 1) := by decide +kernel
theorem dX1_figure_104 : decode cX1_figure 104 = .ok (.getfield 98, 3) := by decide +kernel
theorem dX1_figure_107 : decode cX1_figure 107 = .ok (.ireturn, 1) := by decide +kernel
theorem dX1_figure_108 : decode cX1_figure 108 = .ok (.iconst 0, 1) := by decide +kernel
theorem dX1_figure_109 : decode cX1_figure 109 = .ok (.ireturn, 1) := by decide +kernel
end
section
abbrev StC : Type := (Nat → Int64) × (Nat → Int64) × (Nat → Int32) × (Nat → Int32) × (Nat → Int32) × (Int32) × (Int32) × (Int32) × (Int32) × (Int32) × (Int32) × (Int32)
abbrev cs_o (u : StC) : Nat → Int64 := u.1
abbrev cs_v (u : StC) : Nat → Int64 := u.2.1
abbrev cs_k (u : StC) : Nat → Int32 := u.2.2.1
abbrev cs_n (u : StC) : Nat → Int32 := u.2.2.2.1
abbrev cs_l (u : StC) : Nat → Int32 := u.2.2.2.2.1
abbrev cs_u (u : StC) : Int32 := u.2.2.2.2.2.1
abbrev cs_m (u : StC) : Int32 := u.2.2.2.2.2.2.1
abbrev cs_h (u : StC) : Int32 := u.2.2.2.2.2.2.2.1
abbrev cs_i (u : StC) : Int32 := u.2.2.2.2.2.2.2.2.1
abbrev cs_j (u : StC) : Int32 := u.2.2.2.2.2.2.2.2.2.1
abbrev cs_w (u : StC) : Int32 := u.2.2.2.2.2.2.2.2.2.2.1
abbrev cs_t (u : StC) : Int32 := u.2.2.2.2.2.2.2.2.2.2.2
abbrev StM : Type := (Int32) × (Nat → Int64) × (Nat → Int32) × (Nat → Int64) × (Nat → Int32) × (Nat → Int32) × (Nat → Int64) × (Int64) × (Int32) × (Int32) × (Int32) × (Int32) × (Int32) × (Int32)
abbrev ms_c (u : StM) : Int32 := u.1
abbrev ms_o (u : StM) : Nat → Int64 := u.2.1
abbrev ms_b (u : StM) : Nat → Int32 := u.2.2.1
abbrev ms_v (u : StM) : Nat → Int64 := u.2.2.2.1
abbrev ms_d (u : StM) : Nat → Int32 := u.2.2.2.2.1
abbrev ms_n (u : StM) : Nat → Int32 := u.2.2.2.2.2.1
abbrev ms_l (u : StM) : Nat → Int64 := u.2.2.2.2.2.2.1
abbrev ms_u (u : StM) : Int64 := u.2.2.2.2.2.2.2.1
abbrev ms_m (u : StM) : Int32 := u.2.2.2.2.2.2.2.2.1
abbrev ms_h (u : StM) : Int32 := u.2.2.2.2.2.2.2.2.2.1
abbrev ms_i (u : StM) : Int32 := u.2.2.2.2.2.2.2.2.2.2.1
abbrev ms_j (u : StM) : Int32 := u.2.2.2.2.2.2.2.2.2.2.2.1
abbrev ms_w (u : StM) : Int32 := u.2.2.2.2.2.2.2.2.2.2.2.2.1
abbrev ms_t (u : StM) : Int32 := u.2.2.2.2.2.2.2.2.2.2.2.2.2
def fc_enc : Option Nat → Int32
  | none => -1
  | some k => nI k
def fc_blk (x : Int32) : Int32 := x >>> (1 &&& 31)
def fc_isd (x : Int32) : Int32 := if x = -1 then 0 else if x &&& 1 = 1 then 1 else 0
def fc_find (f : Nat → Int32) (b : Nat) : Nat → Nat → Option Nat
  | 0, _ => none
  | r + 1, k => if f k = -1 then fc_find f b r (k + 1) else if fc_blk (f k) = nI b then some k else fc_find f b r (k + 1)
def fc_use (u : StC) (s : Nat) : StC := (cs_o u, cs_v u, cs_k u, cs_n u, upd (cs_l u) s (cs_u u + 1), cs_u u + 1, cs_m u, cs_h u, cs_i u, cs_j u, cs_w u, cs_t u)
def fc_note (u : StC) (s : Nat) : StC := (cs_o u, cs_v u, cs_k u, upd (cs_n u) s (cs_k u s), cs_l u, cs_u u, cs_m u, cs_h u, cs_i u, cs_j u, cs_w u, cs_t u + 1)
def fc_give (u : StC) (b : Nat) (v : Int64) : StC := (vp_updL (cs_o u) b v, cs_v u, cs_k u, cs_n u, cs_l u, cs_u u, cs_m u, cs_h u, cs_i u, cs_j u, cs_w u + 1, cs_t u)
def fc_setk (u : StC) (s : Nat) (x : Int32) : StC := (cs_o u, cs_v u, upd (cs_k u) s x, cs_n u, cs_l u, cs_u u, cs_m u, cs_h u, cs_i u, cs_j u, cs_w u, cs_t u)
def fc_setv (u : StC) (s : Nat) (x : Int64) : StC := (cs_o u, vp_updL (cs_v u) s x, cs_k u, cs_n u, cs_l u, cs_u u, cs_m u, cs_h u, cs_i u, cs_j u, cs_w u, cs_t u)
def fc_clean (u : StC) (s : Nat) : StC := if fc_isd (cs_n u s) = 0 then fc_setk u s (2 * fc_blk (cs_k u s)) else fc_note (fc_setk u s (2 * fc_blk (cs_k u s))) s
def fc_empty (u : StC) (s : Nat) : StC := if cs_n u s = -1 then fc_setk u s (-1) else fc_note (fc_setk u s (-1)) s
def fc_wbd (u : StC) (s : Nat) : Int32 × StC := if fc_isd (cs_k u s) = 0 then (0, u) else (1, fc_clean (fc_give u (fc_blk (cs_k u s)).toNatClampNeg (cs_v u s)) s)
def fc_wab : Nat → Nat → Int32 → StC → Int32 × StC
  | 0, _, c, u => (c, u)
  | r + 1, k, c, u => if (fc_wbd u k).1 = 0 then fc_wab r (k + 1) c (fc_wbd u k).2 else fc_wab r (k + 1) (c + 1) (fc_wbd u k).2
def fc_room : Nat → Nat → Nat → StC → Nat × StC
  | 0, _, lo, u => (lo, fc_empty (fc_wbd u lo).2 lo)
  | r + 1, k, lo, u => if cs_k u k = -1 then (k, u) else if cs_l u lo ≤ cs_l u k then fc_room r (k + 1) lo u else fc_room r (k + 1) k u
def fc_keep (u : StC) (s b : Nat) : StC := fc_use (fc_setv (fc_setk u s (2 * nI b)) s (cs_o u b)) s
def fc_thru (n : Nat) (u : StC) (b : Nat) (v : Int64) : StC := match fc_find (cs_k u) b n 0 with
  | none => fc_give u b v
  | some s => fc_use (fc_clean (fc_setv (fc_give u b v) s v) s) s
def fc_past (n : Nat) (u : StC) (b : Nat) (v : Int64) : StC := match fc_find (cs_k u) b n 0 with
  | none => fc_give u b v
  | some s => fc_empty (fc_give u b v) s
def fc_fill (u : StC) (s b : Nat) (v : Int64) (q : Int32) : Int32 × StC := if 1 ≤ q then (if 2 ≤ q then (2, fc_note (fc_setv (fc_setk u s (2 * nI b + 1)) s v) s) else (1, fc_setv (fc_setk u s (2 * nI b + 1)) s v)) else (0, u)
def fc_owd (u : StC) (s b : Nat) (v : Int64) (q : Int32) : Int32 × StC := if 1 ≤ q then (1, fc_setv (fc_setk u s (2 * nI b + 1)) s v) else (0, u)
def fc_owc (u : StC) (s b : Nat) (v : Int64) (q : Int32) : Int32 × StC := if 1 ≤ q then (if 2 ≤ q then (2, fc_setv (fc_note (fc_setk u s (2 * nI b + 1)) s) s v) else (1, fc_note (fc_setk u s (2 * nI b + 1)) s)) else (0, u)
def fc_wis (n : Nat) (u : StC) (b : Nat) (v : Int64) (q : Int32) : Int32 × StC := match fc_find (cs_k u) b n 0 with
  | none => ((fc_fill (fc_room n 0 0 u).2 (fc_room n 0 0 u).1 b v q).1, fc_use (fc_fill (fc_room n 0 0 u).2 (fc_room n 0 0 u).1 b v q).2 (fc_room n 0 0 u).1)
  | some s => if cs_n u s = 2 * nI b + 1 then ((fc_owd u s b v q).1, fc_use (fc_owd u s b v q).2 s) else ((fc_owc u s b v q).1, fc_use (fc_owc u s b v q).2 s)
def fc_stop1 (u : StC) (k : Nat) : StC := (cs_o u, cs_v u, upd (cs_k u) k (cs_n u k), cs_n u, upd (cs_l u) k (-(nI k)), cs_u u, cs_m u, cs_h u, cs_i u, cs_j u, cs_w u, cs_t u)
def fc_stopL : Nat → Nat → StC → StC
  | 0, _, u => (cs_o u, cs_v u, cs_k u, cs_n u, cs_l u, cs_u u, 0, 0, cs_i u, cs_j u, cs_w u, cs_t u)
  | r + 1, k, u => fc_stopL r (k + 1) (fc_stop1 u k)
def fc_stop (n : Nat) (u : StC) : StC := fc_stopL n 0 u
def fc_least (f : Nat → Int32) (lo : Int32) : Nat → Nat → Option Nat → Int32 → Option Nat
  | 0, _, a, _ => a
  | r + 1, k, a, lb => if fc_isd (f k) = 0 then fc_least f lo r (k + 1) a lb else if fc_blk (f k) < lo then fc_least f lo r (k + 1) a lb else if lb ≤ fc_blk (f k) then fc_least f lo r (k + 1) a lb else fc_least f lo r (k + 1) (some k) (fc_blk (f k))
def fc_next (n : Nat) (u : StC) : Option Nat := match fc_least (cs_k u) (cs_h u) n 0 none 64 with
  | none => fc_least (cs_k u) 0 n 0 none 64
  | some s => some s
def fc_cua (f g : Nat → Int32) (s : Nat) : Nat → Nat → Int32 → Int32
  | 0, _, c => c
  | r + 1, k, c => if f k = -1 then fc_cua f g s r (k + 1) c else if g k ≤ g s then fc_cua f g s r (k + 1) c else fc_cua f g s r (k + 1) (c + 1)
def fc_full (f : Nat → Int32) : Nat → Nat → Int32 → Int32
  | 0, _, c => c
  | r + 1, k, c => if f k = -1 then fc_full f r (k + 1) c else fc_full f r (k + 1) (c + 1)
def fc_cdty (f : Nat → Int32) : Nat → Nat → Int32 → Int32
  | 0, _, c => c
  | r + 1, k, c => if fc_isd (f k) = 0 then fc_cdty f r (k + 1) c else fc_cdty f r (k + 1) (c + 1)
def fc_hit (u : StC) : StC := (cs_o u, cs_v u, cs_k u, cs_n u, cs_l u, cs_u u, cs_m u, cs_h u, cs_i u + 1, cs_j u, cs_w u, cs_t u)
def fc_mis (u : StC) : StC := (cs_o u, cs_v u, cs_k u, cs_n u, cs_l u, cs_u u, cs_m u, cs_h u, cs_i u, cs_j u + 1, cs_w u, cs_t u)
def fc_read (n : Nat) (u : StC) (b : Nat) : Int64 × StC := match fc_find (cs_k u) b n 0 with
  | none => if cs_m u = 2 then (cs_o u b, fc_mis u) else (cs_o (fc_keep (fc_room n 0 0 (fc_mis u)).2 (fc_room n 0 0 (fc_mis u)).1 b) b, fc_keep (fc_room n 0 0 (fc_mis u)).2 (fc_room n 0 0 (fc_mis u)).1 b)
  | some s => (cs_v u s, fc_use (fc_hit u) s)
def fc_write (n : Nat) (u : StC) (b : Nat) (v : Int64) : StC := if cs_m u = 1 then fc_thru n u b v else if cs_m u = 2 then fc_past n u b v else (fc_wis n u b v 2).2
def fc_cut (n : Nat) (u : StC) (b : Nat) (v : Int64) (q : Int32) : Int32 × StC := ((fc_wis n u b v q).1, fc_stop n (fc_wis n u b v q).2)
def fc_setm (u : StC) (x : Int32) : StC := (cs_o u, cs_v u, cs_k u, cs_n u, cs_l u, cs_u u, x, cs_h u, cs_i u, cs_j u, cs_w u, cs_t u)
def fc_seth (u : StC) (x : Int32) : StC := (cs_o u, cs_v u, cs_k u, cs_n u, cs_l u, cs_u u, cs_m u, x, cs_i u, cs_j u, cs_w u, cs_t u)
def fc_mode (n : Nat) (u : StC) (x : Int32) : Int32 × StC := if x = 0 then (0, fc_setm u x) else fc_wab n 0 0 (fc_setm u x)
def fc_back1 (u : StC) (s : Nat) : StC := fc_seth (fc_wbd u s).2 (fc_blk (cs_k (fc_wbd u s).2 s) + 1)
def fc_back (n : Nat) : Nat → Nat → StC → Int32 × StC
  | 0, d, u => (nI d, u)
  | r + 1, d, u => match fc_next n u with
    | none => (nI d, u)
    | some s => fc_back n r (d + 1) (fc_back1 u s)
def fc_check : Nat → Nat → Int32 → StC → Int32 × StC
  | 0, _, c, u => (c, u)
  | r + 1, k, c, u => if cs_n u k = cs_k u k then fc_check r (k + 1) c u else fc_check r (k + 1) (c + 1) (fc_note u k)
def fc_setn (u : StC) (f : Nat → Int32) : StC := (cs_o u, cs_v u, cs_k u, f, cs_l u, cs_u u, cs_m u, cs_h u, cs_i u, cs_j u, cs_w u, cs_t u)
def fc_crash (n : Nat) (u : StC) : Int32 × StC := (fc_full (cs_k (fc_stop n u)) n 0 0, fc_stop n u)
def fc_fil (x : Int32) : Nat → Nat → (Nat → Int32) → (Nat → Int32)
  | 0, _, f => f
  | r + 1, k, f => fc_fil x r (k + 1) (upd f k x)
def fc_lose (n : Nat) (u : StC) : Int32 × StC := (fc_cdty (cs_k u) n 0 0, fc_stop n (fc_setn u (fc_fil (-1) n 0 (cs_n u))))
def fc_order (f g : Nat → Int32) (n : Nat) (q : Int32) : Nat → Nat → Option Int32
  | 0, _ => none
  | r + 1, k => if f k = -1 then fc_order f g n q r (k + 1) else if fc_cua f g k n 0 0 = q then some (fc_blk (f k)) else fc_order f g n q r (k + 1)
def fm_so (b d : Int32) : Int32 := if 0 ≤ b then (if d = 0 then 2 * b + 0 else 2 * b + 1) else -1
def fm_isb (b : Int32) : Int32 := if b < 0 then 0 else if 63 < b then 0 else 1
def fm_ind (x : Int32) : Int32 := if x < 0 then 0 else if x - x / 2 * 2 = 1 then 1 else 0
def fm_note (u : StM) (s : Nat) : StM := (ms_c u, ms_o u, ms_b u, ms_v u, ms_d u, upd (ms_n u) s (fm_so (ms_b u s) (ms_d u s)), ms_l u, ms_u u, ms_m u, ms_h u, ms_i u, ms_j u, ms_w u, ms_t u + 1)
def fm_use (u : StM) (s : Nat) : StM := (ms_c u, ms_o u, ms_b u, ms_v u, ms_d u, ms_n u, vp_updL (ms_l u) s (ms_u u + 1), ms_u u + 1, ms_m u, ms_h u, ms_i u, ms_j u, ms_w u, ms_t u)
def fm_give (u : StM) (b : Nat) (v : Int64) : StM := (ms_c u, vp_updL (ms_o u) b v, ms_b u, ms_v u, ms_d u, ms_n u, ms_l u, ms_u u, ms_m u, ms_h u, ms_i u, ms_j u, ms_w u + 1, ms_t u)
def fm_setd (u : StM) (s : Nat) (x : Int32) : StM := (ms_c u, ms_o u, ms_b u, ms_v u, upd (ms_d u) s (vp_nar .boolean x), ms_n u, ms_l u, ms_u u, ms_m u, ms_h u, ms_i u, ms_j u, ms_w u, ms_t u)
def fm_setb (u : StM) (s : Nat) (x : Int32) : StM := (ms_c u, ms_o u, upd (ms_b u) s x, ms_v u, ms_d u, ms_n u, ms_l u, ms_u u, ms_m u, ms_h u, ms_i u, ms_j u, ms_w u, ms_t u)
def fm_setv (u : StM) (s : Nat) (x : Int64) : StM := (ms_c u, ms_o u, ms_b u, vp_updL (ms_v u) s x, ms_d u, ms_n u, ms_l u, ms_u u, ms_m u, ms_h u, ms_i u, ms_j u, ms_w u, ms_t u)
def fm_setc (u : StM) (x : Int32) : StM := (x, ms_o u, ms_b u, ms_v u, ms_d u, ms_n u, ms_l u, ms_u u, ms_m u, ms_h u, ms_i u, ms_j u, ms_w u, ms_t u)
def fm_clean (u : StM) (s : Nat) : StM := if fm_ind (ms_n u s) = 0 then fm_setd u s 0 else fm_note (fm_setd u s 0) s
def fm_wb (u : StM) (s : Nat) : StM := fm_clean (fm_give u (ms_b u s).toNatClampNeg (ms_v u s)) s
def fm_empty (u : StM) (s : Nat) : StM := if ms_n u s < 0 then fm_setd (fm_setb u s (-1)) s 0 else fm_note (fm_setd (fm_setb u s (-1)) s 0) s
def fm_find (f : Nat → Int32) (b : Nat) : Nat → Nat → Option Nat → Option Nat
  | 0, _, a => a
  | r + 1, k, a => if f k = nI b then fm_find f b r (k + 1) (some k) else fm_find f b r (k + 1) a
def fm_emp (f : Nat → Int32) : Nat → Option Nat → Option Nat
  | 0, a => a
  | k + 1, a => if 0 ≤ f k then fm_emp f k a else fm_emp f k (some k)
def fm_lru (g : Nat → Int64) : Nat → Nat → Nat → Nat
  | 0, _, lo => lo
  | r + 1, k, lo => if 0 ≤ lg_cmp (g k) (g lo) then fm_lru g r (k + 1) lo else fm_lru g r (k + 1) k
def fm_drop (u : StM) (lo : Nat) : StM := if ms_d u lo = 0 then fm_empty u lo else fm_empty (fm_wb u lo) lo
def fm_room (n : Nat) (u : StM) : Nat × StM := match fm_emp (ms_b u) n none with
  | some s => (s, u)
  | none => (fm_lru (ms_l u) (n - 1) 1 0, fm_drop u (fm_lru (ms_l u) (n - 1) 1 0))
def fm_hit (u : StM) : StM := (ms_c u, ms_o u, ms_b u, ms_v u, ms_d u, ms_n u, ms_l u, ms_u u, ms_m u, ms_h u, ms_i u + 1, ms_j u, ms_w u, ms_t u)
def fm_mis (u : StM) : StM := (ms_c u, ms_o u, ms_b u, ms_v u, ms_d u, ms_n u, ms_l u, ms_u u, ms_m u, ms_h u, ms_i u, ms_j u + 1, ms_w u, ms_t u)
def fm_keep (u : StM) (s b : Nat) : StM := fm_use (fm_setd (fm_setv (fm_setb u s (nI b)) s (ms_o u b)) s 0) s
def fm_readB (n : Nat) (u : StM) (b : Nat) : Int64 × StM := match fm_find (ms_b u) b n 0 none with
  | some s => (ms_v u s, fm_use (fm_hit u) s)
  | none => if ms_m u = 2 then (ms_o u b, fm_mis u) else (ms_o (fm_keep (fm_room n (fm_mis u)).2 (fm_room n (fm_mis u)).1 b) b, fm_keep (fm_room n (fm_mis u)).2 (fm_room n (fm_mis u)).1 b)
def fm_read (n : Nat) (u : StM) (b : Int32) : Int64 × StM := if fm_isb b = 0 then (0, fm_setc u 1) else fm_readB n (fm_setc u 0) b.toNatClampNeg
def fm_stF (u : StM) (s b : Nat) (v : Int64) (q : Int32) : Int32 × StM := if q ≤ 0 then (if q ≤ 1 then (0, u) else (0 + 1, fm_note u s)) else (if q ≤ 1 then (0 + 1, fm_setd (fm_setv (fm_setb u s (nI b)) s v) s 1) else (0 + 1 + 1, fm_note (fm_setd (fm_setv (fm_setb u s (nI b)) s v) s 1) s))
def fm_stW (u : StM) (s : Nat) (v : Int64) (q d : Int32) : Int32 × StM := if q ≤ d then (d, u) else (d + 1, fm_setd (fm_setv u s v) s 1)
def fm_stO (u : StM) (s b : Nat) (v : Int64) (q : Int32) : Int32 × StM := if ms_n u s = 2 * nI b + 1 then fm_stW u s v q 0 else if q ≤ 0 then fm_stW u s v q 0 else fm_stW (fm_note (fm_setd u s 1) s) s v q (0 + 1)
def fm_steps (n : Nat) (u : StM) (b : Nat) (v : Int64) (q : Int32) : Int32 × StM := match fm_find (ms_b u) b n 0 none with
  | none => ((fm_stF (fm_room n u).2 (fm_room n u).1 b v q).1, fm_use (fm_stF (fm_room n u).2 (fm_room n u).1 b v q).2 (fm_room n u).1)
  | some s => ((fm_stO u s b v q).1, fm_use (fm_stO u s b v q).2 s)
def fm_writeB (n : Nat) (u : StM) (b : Nat) (v : Int64) : StM := if ms_m u = 0 then (fm_steps n u b v 2).2 else match fm_find (ms_b u) b n 0 none with
  | none => fm_give u b v
  | some s => if ms_m u = 1 then fm_use (fm_clean (fm_setv (fm_give u b v) s v) s) s else fm_empty (fm_give u b v) s
def fm_write (n : Nat) (u : StM) (b : Int32) (v : Int64) : StM := if fm_isb b = 0 then fm_setc u 1 else fm_writeB n (fm_setc u 0) b.toNatClampNeg v
def fm_stop1 (n : Nat) (u : StM) (k : Nat) : StM := (ms_c u, ms_o u, upd (ms_b u) k (if 0 ≤ ms_n u k then ms_n u k / 2 else -1), ms_v u, upd (ms_d u) k (vp_nar .boolean (fm_ind (ms_n u k))), ms_n u, vp_updL (ms_l u) (n - 1 - k) (ms_u u + 1), ms_u u + 1, ms_m u, ms_h u, ms_i u, ms_j u, ms_w u, ms_t u)
def fm_stopL (n : Nat) : Nat → Nat → StM → StM
  | 0, _, u => (ms_c u, ms_o u, ms_b u, ms_v u, ms_d u, ms_n u, ms_l u, ms_u u, 0, 0, ms_i u, ms_j u, ms_w u, ms_t u)
  | r + 1, k, u => fm_stopL n r (k + 1) (fm_stop1 n u k)
def fm_stop (n : Nat) (u : StM) : StM := fm_stopL n n 0 u
def fm_cutc (m b q : Int32) : Int32 := if fm_isb b = 0 then 1 else if q < 0 then 1 else if q ≤ 2 then (if m = 0 then 0 else 2) else 1
def fm_cut (n : Nat) (u : StM) (b : Int32) (v : Int64) (q : Int32) : Int32 × StM := if fm_cutc (ms_m u) b q = 0 then ((fm_steps n (fm_setc u 0) b.toNatClampNeg v q).1, fm_stop n (fm_steps n (fm_setc u 0) b.toNatClampNeg v q).2) else (0, fm_setc u (fm_cutc (ms_m u) b q))
def fm_setm (u : StM) (x : Int32) : StM := (ms_c u, ms_o u, ms_b u, ms_v u, ms_d u, ms_n u, ms_l u, ms_u u, x, ms_h u, ms_i u, ms_j u, ms_w u, ms_t u)
def fm_seth (u : StM) (x : Int32) : StM := (ms_c u, ms_o u, ms_b u, ms_v u, ms_d u, ms_n u, ms_l u, ms_u u, ms_m u, x, ms_i u, ms_j u, ms_w u, ms_t u)
def fm_modeL (x : Int32) : Nat → Nat → Int32 → StM → Int32 × StM
  | 0, _, c, u => (c, u)
  | r + 1, k, c, u => if x = 0 then (c, u) else if ms_d u k = 0 then fm_modeL x r (k + 1) c u else fm_modeL x r (k + 1) (c + 1) (fm_wb u k)
def fm_mode (n : Nat) (u : StM) (x : Int32) : Int32 × StM := if x < 0 then (0, fm_setc u 1) else if x ≤ 2 then fm_modeL x n 0 0 (fm_setm (fm_setc u 0) x) else (0, fm_setc u 1)
def fm_next (f g : Nat → Int32) (lo : Int32) : Nat → Nat → Option Nat → Option Nat
  | 0, _, a => a
  | r + 1, k, a => if f k < lo then fm_next f g lo r (k + 1) a else if g k = 0 then fm_next f g lo r (k + 1) a else match a with
    | none => fm_next f g lo r (k + 1) (some k)
    | some j => if f j ≤ f k then fm_next f g lo r (k + 1) a else fm_next f g lo r (k + 1) (some k)
def fm_nxt (n : Nat) (u : StM) : Option Nat := match fm_next (ms_b u) (ms_d u) (ms_h u) n 0 none with
  | none => fm_next (ms_b u) (ms_d u) 0 n 0 none
  | some s => some s
def fm_back1 (u : StM) (s : Nat) : StM := fm_seth (fm_wb u s) (ms_b (fm_wb u s) s + 1)
def fm_backL (n : Nat) : Nat → Int32 → StM → Int32 × StM
  | 0, c, u => (c, u)
  | r + 1, c, u => match fm_nxt n u with
    | none => fm_backL n r c u
    | some s => fm_backL n r (c + 1) (fm_back1 u s)
def fm_back (n : Nat) (u : StM) (q : Int32) : Int32 × StM := if q < 0 then (0, fm_setc u 1) else if q ≤ 12 then fm_backL n q.toNatClampNeg 0 (fm_setc u 0) else (0, fm_setc u 1)
def fm_checkL : Nat → Nat → Int32 → StM → Int32 × StM
  | 0, _, c, u => (c, u)
  | r + 1, k, c, u => if ms_n u k = fm_so (ms_b u k) (ms_d u k) then fm_checkL r (k + 1) c u else fm_checkL r (k + 1) (c + 1) (fm_note u k)
def fm_check (n : Nat) (u : StM) : Int32 × StM := fm_checkL n 0 0 (fm_setc u 0)
def fm_full (f : Nat → Int32) : Nat → Nat → Int32 → Int32
  | 0, _, c => c
  | r + 1, k, c => if f k < 0 then fm_full f r (k + 1) (c + 0) else fm_full f r (k + 1) (c + 1)
def fm_dts (f g : Nat → Int32) : Nat → Nat → Int32 → Int32
  | 0, _, c => c
  | r + 1, k, c => if f k < 0 then fm_dts f g r (k + 1) (c + 0) else if g k = 0 then fm_dts f g r (k + 1) (c + 0) else fm_dts f g r (k + 1) (c + 1)
def fm_crash (n : Nat) (u : StM) : Int32 × StM := (fm_full (ms_b (fm_stop n (fm_setc u 0))) n 0 0, fm_stop n (fm_setc u 0))
def fm_clrL : Nat → Nat → StM → StM
  | 0, _, u => u
  | r + 1, k, u => fm_clrL r (k + 1) (ms_c u, ms_o u, ms_b u, ms_v u, ms_d u, upd (ms_n u) k (-1), ms_l u, ms_u u, ms_m u, ms_h u, ms_i u, ms_j u, ms_w u, ms_t u)
def fm_lose (n : Nat) (u : StM) : Int32 × StM := (fm_dts (ms_b u) (ms_d u) n 0 0, fm_stop n (fm_clrL n 0 (fm_setc u 0)))
def fm_slot (n : Nat) (u : StM) (b : Int32) : Int32 × StM := if fm_isb b = 0 then (0, fm_setc u 1) else (fc_enc (fm_find (ms_b u) b.toNatClampNeg n 0 none), fm_setc u 0)
def fm_dirty (n : Nat) (u : StM) (b : Int32) : Int32 × StM := if fm_isb b = 0 then (0, fm_setc u 1) else match fm_find (ms_b u) b.toNatClampNeg n 0 none with
  | none => (0, fm_setc u 2)
  | some s => if ms_d u s = 0 then (0, fm_setc u 0) else (1, fm_setc u 0)
def fm_origin (u : StM) (b : Int32) : Int64 × StM := if fm_isb b = 0 then (0, fm_setc u 1) else (ms_o u b.toNatClampNeg, fm_setc u 0)
def fm_bef (f : Nat → Int32) (g : Nat → Int64) (s : Nat) : Nat → Nat → Int32 → Int32
  | 0, _, c => c
  | r + 1, k, c => if f k < 0 then fm_bef f g s r (k + 1) (c + 0) else if lg_cmp (g k) (g s) ≤ 0 then fm_bef f g s r (k + 1) (c + 0) else fm_bef f g s r (k + 1) (c + 1)
def fm_orderL (f : Nat → Int32) (g : Nat → Int64) (n : Nat) (q : Int32) : Nat → Nat → Option Int32
  | 0, _ => none
  | r + 1, k => if f k < 0 then fm_orderL f g n q r (k + 1) else if fm_bef f g k n 0 0 = q then some (f k) else fm_orderL f g n q r (k + 1)
def fm_order (n : Nat) (u : StM) (q : Int32) : Int32 × StM := match fm_orderL (ms_b u) (ms_l u) n q n 0 with
  | none => (0, fm_setc u 1)
  | some x => (x, fm_setc u 0)
def fm_noted (n : Nat) (u : StM) (q : Int32) : Int32 × StM := if q < 0 then (0, fm_setc u 1) else if q < nI n then (ms_n u q.toNatClampNeg, fm_setc u 0) else (0, fm_setc u 1)
def fm_fig (n : Nat) (u : StM) (q : Int32) : Int32 := if q = 0 then ms_i u else if q = 1 then ms_j u else if q = 2 then ms_w u else if q = 3 then ms_t u else if q = 4 then fm_full (ms_b u) n 0 0 else if q = 5 then fm_dts (ms_b u) (ms_d u) n 0 0 else if q = 6 then ms_m u else if q = 7 then ms_h u else 0
def fm_figure (n : Nat) (u : StM) (q : Int32) : Int32 × StM := (fm_fig n u q, fm_setc u (if q < 0 then 1 else if q ≤ 7 then 0 else 1))
def fc_fig (n : Nat) (u : StC) (q : Int32) : Int32 := if q = 0 then cs_i u else if q = 1 then cs_j u else if q = 2 then cs_w u else if q = 3 then cs_t u else if q = 4 then fc_full (cs_k u) n 0 0 else if q = 5 then fc_cdty (cs_k u) n 0 0 else if q = 6 then cs_m u else cs_h u
def fc_ini (n : Nat) : StC := (fun _ => 0, fun _ => 0, fc_fil (-1) n 0 (fun _ => 0), fc_fil (-1) n 0 (fun _ => 0), fun _ => 0, 0, 0, 0, 0, 0, 0, 0)
def fm_iniL : Nat → Nat → StM → StM
  | 0, _, u => u
  | r + 1, k, u => fm_iniL r (k + 1) (ms_c u, ms_o u, upd (ms_b u) k (-1), ms_v u, ms_d u, upd (ms_n u) k (-1), ms_l u, ms_u u, ms_m u, ms_h u, ms_i u, ms_j u, ms_w u, ms_t u)
def fm_ini : StM := fm_iniL 12 0 (0, fun _ => 0, fun _ => 0, fun _ => 0, fun _ => 0, fun _ => 0, fun _ => 0, 0, 0, 0, 0, 0, 0, 0)
def fc_slots (x : Int32) : Nat := if x < 1 then 6 else if 12 < x then 6 else x.toNatClampNeg
end
section
def okf (x : Int32) : Prop := x = -1 ∨ ∃ b d : Nat, b < 64 ∧ d < 2 ∧ x = nI (2 * b + d)
def okK (n : Nat) (f : Nat → Int32) : Prop := ∀ k, k < n → okf (f k)
theorem zq_at (f : Nat → Int32) (k : Nat) (x : Int32) : upd f k x k = x := if_pos rfl
theorem zq_ne (f : Nat → Int32) {k j : Nat} (x : Int32) (h : j ≠ k) : upd f k x j = f j := if_neg h
theorem zl_at (f : Nat → Int64) (k : Nat) (x : Int64) : vp_updL f k x k = x := if_pos rfl
theorem zl_ne (f : Nat → Int64) {k j : Nat} (x : Int64) (h : j ≠ k) : vp_updL f k x j = f j := if_neg h
theorem pf_tab : ∀ b : Fin 64, ∀ d : Fin 2, fc_blk (nI (2 * b.val + d.val)) = nI b.val ∧ fc_isd (nI (2 * b.val + d.val)) = nI d.val ∧ ¬ nI (2 * b.val + d.val) = -1 ∧ 0 ≤ nI (2 * b.val + d.val) ∧ nI (2 * b.val + d.val) / 2 = nI b.val ∧ fm_ind (nI (2 * b.val + d.val)) = nI d.val ∧ fm_so (nI b.val) (nI d.val) = nI (2 * b.val + d.val) := by decide +kernel
theorem pf_tb2 : ∀ b : Fin 64, 2 * nI b.val = nI (2 * b.val) ∧ 2 * nI b.val + 1 = nI (2 * b.val + 1) ∧ ¬ nI b.val = -1 ∧ 0 ≤ nI b.val ∧ ¬ nI b.val < 0 := by decide +kernel
theorem pf_tb3 : vp_nar .boolean 0 = 0 ∧ vp_nar .boolean 1 = 1 ∧ nI 0 = 0 ∧ nI 1 = 1 ∧ fc_isd (-1) = 0 ∧ fm_so (-1) 0 = -1 ∧ fm_ind (-1) = 0 := by decide +kernel
theorem pf {b d : Nat} (hb : b < 64) (hd : d < 2) : fc_blk (nI (2 * b + d)) = nI b ∧ fc_isd (nI (2 * b + d)) = nI d ∧ ¬ nI (2 * b + d) = -1 ∧ 0 ≤ nI (2 * b + d) ∧ nI (2 * b + d) / 2 = nI b ∧ fm_ind (nI (2 * b + d)) = nI d ∧ fm_so (nI b) (nI d) = nI (2 * b + d) := pf_tab ⟨b, hb⟩ ⟨d, hd⟩
theorem pf2 {b : Nat} (hb : b < 64) : 2 * nI b = nI (2 * b) ∧ 2 * nI b + 1 = nI (2 * b + 1) ∧ ¬ nI b = -1 ∧ 0 ≤ nI b ∧ ¬ nI b < 0 := pf_tb2 ⟨b, hb⟩
theorem d01 {d : Nat} (hd : d < 2) : d = 0 ∨ d = 1 := by omega
theorem okf_blk {x : Int32} (h : okf x) (hd : ¬ fc_isd x = 0) : ∃ b, b < 64 ∧ fc_blk x = nI b := by
  rcases h with rfl | ⟨b, d, hb, hd2, rfl⟩
  · exact absurd pf_tb3.2.2.2.2.1 hd
  · exact ⟨b, hb, (pf hb hd2).1⟩
theorem okf_cln {x : Int32} (h : okf x) (hd : ¬ fc_isd x = 0) : okf (2 * fc_blk x) := by
  obtain ⟨b, hb, e⟩ := okf_blk h hd
  exact Or.inr ⟨b, 0, hb, by omega, by rw [e]; exact (pf2 hb).1⟩
theorem isd_01 (x : Int32) : fc_isd x = 0 ∨ fc_isd x = 1 := by
  unfold fc_isd
  split
  · exact Or.inl rfl
  · split
    · exact Or.inr rfl
    · exact Or.inl rfl
theorem fc_find_sp (f : Nat → Int32) (b : Nat) : ∀ r k j, fc_find f b r k = some j → k ≤ j ∧ j < k + r ∧ ¬ f j = -1 ∧ fc_blk (f j) = nI b := by
  intro r
  induction r with
  | zero => intro k j h; cases h
  | succ r ih =>
    intro k j h
    rw [fc_find] at h
    split at h
    · obtain ⟨h1, h2, h3⟩ := ih _ _ h
      exact ⟨by omega, by omega, h3⟩
    · split at h
      · cases h
        rename_i h1 h2
        exact ⟨Nat.le_refl _, by omega, h1, h2⟩
      · obtain ⟨h1, h2, h3⟩ := ih _ _ h
        exact ⟨by omega, by omega, h3⟩
theorem fc_find_no (f : Nat → Int32) (b : Nat) : ∀ r k, fc_find f b r k = none → ∀ i, k ≤ i → i < k + r → f i = -1 ∨ ¬ fc_blk (f i) = nI b := by
  intro r
  induction r with
  | zero => intro k _ i h1 h2; omega
  | succ r ih =>
    intro k h i h1 h2
    rw [fc_find] at h
    split at h
    · rename_i q1
      by_cases e : i = k
      · subst e; exact Or.inl q1
      · exact ih _ h i (by omega) (by omega)
    · split at h
      · cases h
      · rename_i q1 q2
        by_cases e : i = k
        · subst e; exact Or.inr q2
        · exact ih _ h i (by omega) (by omega)
theorem fc_find_lt {f : Nat → Int32} {b n j : Nat} (h : fc_find f b n 0 = some j) : j < n := by
  have := (fc_find_sp f b n 0 j h).2.1
  omega
theorem fc_room_lt0 (n : Nat) (u : StC) : ∀ r k lo, r + k = n → lo < n → (fc_room r k lo u).1 < n := by
  intro r
  induction r with
  | zero => intro k lo _ h; exact h
  | succ r ih =>
    intro k lo h1 h2
    rw [fc_room]
    split
    · show k < n
      omega
    · split
      · exact ih _ _ (by omega) h2
      · exact ih _ _ (by omega) (by omega)
theorem fc_room_lt {n : Nat} (h : 0 < n) (u : StC) : (fc_room n 0 0 u).1 < n := fc_room_lt0 n u n 0 0 rfl h
theorem fc_least_lt0 (f : Nat → Int32) (q : Int32) (n : Nat) : ∀ r k a lb, r + k = n → (∀ j, a = some j → j < n) → ∀ j, fc_least f q r k a lb = some j → j < n := by
  intro r
  induction r with
  | zero => intro k a lb _ h j hj; exact h j hj
  | succ r ih =>
    intro k a lb h1 h2 j hj
    rw [fc_least] at hj
    split at hj
    · exact ih _ _ _ (by omega) h2 j hj
    · split at hj
      · exact ih _ _ _ (by omega) h2 j hj
      · split at hj
        · exact ih _ _ _ (by omega) h2 j hj
        · exact ih _ _ _ (by omega) (fun j h => by cases h; omega) j hj
theorem fc_least_lt {f : Nat → Int32} {q : Int32} {n j : Nat} (h : fc_least f q n 0 none 64 = some j) : j < n := fc_least_lt0 f q n n 0 none 64 rfl (fun _ h => nomatch h) j h
theorem fc_next_lt {n j : Nat} {u : StC} (h : fc_next n u = some j) : j < n := by
  unfold fc_next at h
  split at h
  · exact fc_least_lt h
  · rename_i q1
    cases h
    exact fc_least_lt q1
theorem ck_note (u : StC) (s : Nat) : cs_k (fc_note u s) = cs_k u := rfl
theorem ck_clean (u : StC) (s : Nat) : cs_k (fc_clean u s) = upd (cs_k u) s (2 * fc_blk (cs_k u s)) := by
  unfold fc_clean
  split <;> rfl
theorem ck_empty (u : StC) (s : Nat) : cs_k (fc_empty u s) = upd (cs_k u) s (-1) := by
  unfold fc_empty
  split <;> rfl
theorem ck_wbd (u : StC) (s : Nat) : cs_k (fc_wbd u s).2 = if fc_isd (cs_k u s) = 0 then cs_k u else upd (cs_k u) s (2 * fc_blk (cs_k u s)) := by
  unfold fc_wbd
  split
  · rfl
  · exact ck_clean _ _
theorem ok_wbd {n s : Nat} {u : StC} (h : okK n (cs_k u)) (hs : s < n) : okK n (cs_k (fc_wbd u s).2) := by
  rw [ck_wbd]
  split
  · exact h
  · rename_i q
    intro k hk
    by_cases e : k = s
    · subst e; rw [zq_at]; exact okf_cln (h k hk) q
    · rw [zq_ne _ _ e]; exact h k hk
theorem isb_nI {b : Int32} (h : ¬ fm_isb b = 0) : ∃ j, j < 64 ∧ b = nI j := by
  unfold fm_isb at h
  by_cases h1 : b < 0
  · rw [if_pos h1] at h; exact absurd rfl h
  · rw [if_neg h1] at h
    by_cases h2 : 63 < b
    · rw [if_pos h2] at h; exact absurd rfl h
    · obtain ⟨j, hj, e⟩ := nI_of2 (M := 63) (n := 63) (by decide) h1 (Int32.not_lt.mp h2)
      exact ⟨j, by omega, e⟩
theorem isb_of {j : Nat} (h : j < 64) : ¬ fm_isb (nI j) = 0 := by
  unfold fm_isb
  have h2 : ¬ (63 : Int32) < nI j := Int32.not_lt.mpr ((nI_leI (a := j) (b := 63) (by omega) (by omega)).mpr (by omega))
  rw [if_neg (nI_pos (by omega)), if_neg h2]
  decide
theorem fm_find_lt0 (f : Nat → Int32) (b n : Nat) : ∀ r k a, r + k = n → (∀ j, a = some j → j < n) → ∀ j, fm_find f b r k a = some j → j < n := by
  intro r
  induction r with
  | zero => intro k a _ h j hj; exact h j hj
  | succ r ih =>
    intro k a h1 h2 j hj
    rw [fm_find] at hj
    split at hj
    · exact ih _ _ (by omega) (fun j h => by cases h; omega) j hj
    · exact ih _ _ (by omega) h2 j hj
theorem fm_find_lt {f : Nat → Int32} {b n j : Nat} (h : fm_find f b n 0 none = some j) : j < n := fm_find_lt0 f b n n 0 none rfl (fun _ h => nomatch h) j h
def okM (n : Nat) (v : StM) : Prop := ∀ s, s < n → ¬ ms_d v s = 0 → ∃ B, B < 64 ∧ ms_b v s = nI B
theorem mb_wb (v : StM) (s : Nat) : ms_b (fm_wb v s) = ms_b v := by unfold fm_wb fm_clean; split <;> rfl
theorem md_wb (v : StM) (s : Nat) : ms_d (fm_wb v s) = upd (ms_d v) s (vp_nar .boolean 0) := by unfold fm_wb fm_clean; split <;> rfl
theorem cM_wb (v : StM) (s : Nat) : ms_c (fm_wb v s) = ms_c v := by unfold fm_wb fm_clean; split <;> rfl
theorem okM_wb {n : Nat} {v : StM} (h : okM n v) (s : Nat) : okM n (fm_wb v s) := by
  intro t ht
  rw [mb_wb, md_wb]
  by_cases e : t = s
  · subst e; rw [zq_at]; exact fun q => absurd pf_tb3.1 q
  · rw [zq_ne _ _ e]; exact h t ht
theorem fm_emp_lt (f : Nat → Int32) (n : Nat) : ∀ m a, m ≤ n → (∀ j, a = some j → j < n) → ∀ j, fm_emp f m a = some j → j < n := by
  intro m
  induction m with
  | zero => intro a _ h j hj; exact h j hj
  | succ m ih =>
    intro a h1 h2 j hj
    rw [fm_emp] at hj
    split at hj
    · exact ih _ (by omega) h2 j hj
    · exact ih _ (by omega) (fun j h => by cases h; omega) j hj
theorem fm_lru_lt (g : Nat → Int64) (n : Nat) : ∀ r k lo, r + k = n → lo < n → fm_lru g r k lo < n := by
  intro r
  induction r with
  | zero => intro k lo _ h; exact h
  | succ r ih =>
    intro k lo h1 h2
    rw [fm_lru]
    split
    · exact ih _ _ (by omega) h2
    · exact ih _ _ (by omega) (by omega)
theorem fm_room_lt {n : Nat} (h : 0 < n) (v : StM) : (fm_room n v).1 < n := by
  unfold fm_room
  split
  · rename_i q
    exact fm_emp_lt _ n n none (Nat.le_refl _) (fun _ h => nomatch h) _ q
  · exact fm_lru_lt _ n _ _ _ (by omega) h
theorem zr_p0 {k : Nat} (hk : k ≤ 64) (h : nI k - 1 < 0) : k = 0 := by
  cases k with
  | zero => rfl
  | succ k => rw [nI_pred] at h; exact absurd h (nI_pos (by omega))
theorem zr_p1 {k : Nat} (hk : k ≤ 64) (h : ¬ nI k - 1 < 0) : 0 < k := by
  cases k with
  | zero => exact absurd (by decide) h
  | succ k => omega
theorem zr_rev {n k : Nat} (h : k < n) (hn : n ≤ 64) : nI n - 1 - nI k = nI (n - 1 - k) := by
  obtain ⟨m, rfl⟩ : ∃ m, n = m + 1 := ⟨n - 1, by omega⟩
  rw [nI_pred]
  exact (Int32.ofNat_sub m k (by omega)).symm
theorem fm_next_lt0 (f g : Nat → Int32) (lo : Int32) (n : Nat) : ∀ r k a, r + k = n → (∀ j, a = some j → j < n) → ∀ j, fm_next f g lo r k a = some j → j < n := by
  intro r
  induction r with
  | zero => intro k a _ h j hj; exact h j hj
  | succ r ih =>
    intro k a h1 h2 j hj
    have hk : ∀ j, some k = some j → j < n := fun j h => by cases h; omega
    cases a with
    | none =>
      rw [fm_next] at hj
      split at hj
      · exact ih _ _ (by omega) h2 j hj
      · split at hj
        · exact ih _ _ (by omega) h2 j hj
        · exact ih _ _ (by omega) hk j hj
    | some i =>
      rw [fm_next] at hj
      split at hj
      · exact ih _ _ (by omega) h2 j hj
      · split at hj
        · exact ih _ _ (by omega) h2 j hj
        · split at hj
          · exact ih _ _ (by omega) h2 j hj
          · exact ih _ _ (by omega) hk j hj
theorem fm_next_lt {f g : Nat → Int32} {lo : Int32} {n j : Nat} (h : fm_next f g lo n 0 none = some j) : j < n := fm_next_lt0 f g lo n n 0 none rfl (fun _ h => nomatch h) j h
theorem fm_next_d (f g : Nat → Int32) (lo : Int32) : ∀ r k a, (∀ j, a = some j → ¬ g j = 0) → ∀ j, fm_next f g lo r k a = some j → ¬ g j = 0 := by
  intro r
  induction r with
  | zero => intro k a h j hj; exact h j hj
  | succ r ih =>
    intro k a h j hj
    cases a with
    | none =>
      rw [fm_next] at hj
      split at hj
      · exact ih _ _ h j hj
      · split at hj
        · exact ih _ _ h j hj
        · rename_i q1 q2
          exact ih _ _ (fun j hj => by cases hj; exact q2) j hj
    | some i =>
      rw [fm_next] at hj
      split at hj
      · exact ih _ _ h j hj
      · split at hj
        · exact ih _ _ h j hj
        · rename_i q1 q2
          split at hj
          · exact ih _ _ h j hj
          · exact ih _ _ (fun j hj => by cases hj; exact q2) j hj
theorem zr_q {n : Nat} {q : Int32} (hn : n ≤ 12) (h1 : ¬ q < 0) (h2 : q < nI n) : ∃ j, j < n ∧ q = nI j := by
  obtain ⟨j, hj, rfl⟩ := nI_of h1
  exact ⟨j, (nI_ltI hj (by omega)).mp h2, rfl⟩
theorem zr_out8 {q : Int32} (e0 : ¬ q = 0) (e1 : ¬ q = 1) (e2 : ¬ q = 2) (e3 : ¬ q = 3) (e4 : ¬ q = 4) (e5 : ¬ q = 5) (e6 : ¬ q = 6) (e7 : ¬ q = 7) : q.toInt < 0 ∨ 7 < q.toInt := by
  have f0 : ¬ q.toInt = 0 := lv_neT e0 (by decide)
  have f1 : ¬ q.toInt = 1 := lv_neT e1 (by decide)
  have f2 : ¬ q.toInt = 2 := lv_neT e2 (by decide)
  have f3 : ¬ q.toInt = 3 := lv_neT e3 (by decide)
  have f4 : ¬ q.toInt = 4 := lv_neT e4 (by decide)
  have f5 : ¬ q.toInt = 5 := lv_neT e5 (by decide)
  have f6 : ¬ q.toInt = 6 := lv_neT e6 (by decide)
  have f7 : ¬ q.toInt = 7 := lv_neT e7 (by decide)
  omega
end
section
abbrev zr_P (D : va_G) (cl : List vw_C) (tys : List (ClassId × FieldType)) (ws : va_W) (sz : Nat) : State → Prop := fun U => U.heap.size = sz ∧ va_P D cl ws U.heap ∧ va_K D cl tys U ∧ va_D (fun _ => True) ws
abbrev zr_B (D : va_G) (cl : List vw_C) (tys : List (ClassId × FieldType)) (A : Nat → Prop) (ws : va_W) : State → Prop := fun t => va_P D cl ws t.heap ∧ va_K D cl tys t ∧ va_D A ws
theorem zr_rng {α : Type} (l : List α) : (List.range l.length).map (fun i => l[i]?) = l.map some := by
  apply List.ext_getElem?
  intro i
  rw [List.getElem?_map, List.getElem?_map]
  by_cases h : i < l.length
  · rw [List.getElem?_range h, List.getElem?_eq_getElem h]
    simp [List.getElem?_eq_getElem h]
  · rw [List.getElem?_eq_none (by simpa using h), List.getElem?_eq_none (by simpa using h)]
    rfl
theorem zr_incN (k : Nat) : nI k + Int32.ofInt 1 = nI (k + 1) := (congrArg (nI k + ·) (by decide)).trans (nI_1 k)
theorem zr_inc1 (x : Int32) : x + Int32.ofInt 1 = x + 1 := congrArg (x + ·) (by decide)
theorem zr_dec1 (x : Int32) : x + Int32.ofInt (-1) = x - 1 := by
  rw [show Int32.ofInt (-1) = -1 by decide, Int32.sub_eq_add_neg]
theorem zr_nem {k : Nat} (h : k ≤ 64) : ¬ nI k = -1 := by
  intro q
  have h1 := congrArg Int32.toInt q
  rw [nI_toInt (by omega)] at h1
  have h2 : (-1 : Int32).toInt = -1 := by decide
  omega
theorem zr_ge {a b : Nat} (ha : a ≤ 64) (hb : b ≤ 64) (h : nI a ≤ nI b) : a ≤ b := (nI_leI (by omega) (by omega)).mp h
theorem zr_lt {a b : Nat} (ha : a ≤ 64) (hb : b ≤ 64) (h : ¬ nI a ≤ nI b) : b < a := Nat.lt_of_not_le fun q => h ((nI_leI (by omega) (by omega)).mpr q)
theorem zr_nneg {k : Nat} (h : k ≤ 64) : ¬ nI k < 0 := nI_pos (by omega)
section ZR
variable {p : Program} {l : Launch} {e : Env} {R : Room} {s : State} {m : MethodId} {args : Array Value} {below : List Frame} {meth : Method} {c : Code} {H H0 : Heap} {locs : List Loc} {cells slots : Nat} {Q : State → Prop}
variable {cc : ByteArray} {pc : Nat} {ls : Array Slot} {rest st0 : List Value} {D : va_G} {cl : List vw_C} {ws : va_W} {tys : List (ClassId × FieldType)} {A : Nat → Prop} {a : Nat}
theorem zr_iald (hx : p.tables.exec = Jvm.exec) (hb : c.code = cc) (hK : va_K D cl tys s) (hP : va_P D cl ws H) (q0 t0 : Nat) {cA : ClassId} {n : Nat} {f : Nat → Int32} (ha : ws[q0]? = some (a, .inl (cA, n, .inl f))) (ht : tys[t0]? = some (cA, .int)) {k : Nat} (hk : k < n) (hn : n ≤ 64) (d : decode cc pc = .ok (.iaload, 1))
    (kk : W p l e R s m args below meth c H locs cells slots Q (F0 m (pc + 1) ls (.int (f k) :: rest))) : W p l e R s m args below meth c H locs cells slots Q (F0 m pc ls (.int (nI k) :: .ref a :: rest)) := by
  refine va_iald hx hb hK hP q0 t0 ha ht (vp_in_nI hk (by omega)) d ?_
  rw [nI_clamp (by omega)]
  exact kk
theorem zr_zald (hx : p.tables.exec = Jvm.exec) (hb : c.code = cc) (hK : va_K D cl tys s) (hP : va_P D cl ws H) (q0 t0 : Nat) {cA : ClassId} {n : Nat} {f : Nat → Int32} (ha : ws[q0]? = some (a, .inl (cA, n, .inl f))) (ht : tys[t0]? = some (cA, .boolean)) {k : Nat} (hk : k < n) (hn : n ≤ 64) (d : decode cc pc = .ok (.baload, 1))
    (kk : W p l e R s m args below meth c H locs cells slots Q (F0 m (pc + 1) ls (.int (f k) :: rest))) : W p l e R s m args below meth c H locs cells slots Q (F0 m pc ls (.int (nI k) :: .ref a :: rest)) := by
  refine va_zald hx hb hK hP q0 t0 ha ht (vp_in_nI hk (by omega)) d ?_
  rw [nI_clamp (by omega)]
  exact kk
theorem zr_lald (hx : p.tables.exec = Jvm.exec) (hb : c.code = cc) (hK : va_K D cl tys s) (hP : va_P D cl ws H) (q0 t0 : Nat) {cA : ClassId} {n : Nat} {f : Nat → Int64} (ha : ws[q0]? = some (a, .inl (cA, n, .inr (.inl f)))) (ht : tys[t0]? = some (cA, .long)) {k : Nat} (hk : k < n) (hn : n ≤ 64) (d : decode cc pc = .ok (.laload, 1))
    (kk : W p l e R s m args below meth c H locs cells slots Q (F0 m (pc + 1) ls (.long (f k) :: rest))) : W p l e R s m args below meth c H locs cells slots Q (F0 m pc ls (.int (nI k) :: .ref a :: rest)) := by
  refine va_lald hx hb hK hP q0 t0 ha ht (vp_in_nI hk (by omega)) d ?_
  rw [nI_clamp (by omega)]
  exact kk
theorem zr_iast (hx : p.tables.exec = Jvm.exec) (hb : c.code = cc) (hK : va_K D cl tys s) (hP : va_P D cl ws H) (hD : va_D A ws) (hS : va_S A H0 H locs) (q0 t0 : Nat) {cA : ClassId} {n : Nat} {f : Nat → Int32} (ha : ws[q0]? = some (a, .inl (cA, n, .inl f))) (ht : tys[t0]? = some (cA, .int)) {k : Nat} {x : Int32} (hk : k < n) (hn : n ≤ 64) (d : decode cc pc = .ok (.iastore, 1))
    (kk : ∀ (H1 : Heap) (locs1 : List Loc), va_P D cl (ws.set q0 (a, .inl (cA, n, .inl (upd f k x)))) H1 → va_D A (ws.set q0 (a, .inl (cA, n, .inl (upd f k x)))) → va_S A H0 H1 locs1 → W p l e R s m args below meth c H1 locs1 cells slots Q (F0 m (pc + 1) ls rest)) : W p l e R s m args below meth c H locs cells slots Q (F0 m pc ls (.int x :: .int (nI k) :: .ref a :: rest)) := by
  refine va_iast hx hb hK hP hD hS q0 t0 ha ht (vp_in_nI hk (by omega)) d ?_
  rw [nI_clamp (by omega)]
  exact kk
theorem zr_zast (hx : p.tables.exec = Jvm.exec) (hb : c.code = cc) (hK : va_K D cl tys s) (hP : va_P D cl ws H) (hD : va_D A ws) (hS : va_S A H0 H locs) (q0 t0 : Nat) {cA : ClassId} {n : Nat} {f : Nat → Int32} (ha : ws[q0]? = some (a, .inl (cA, n, .inl f))) (ht : tys[t0]? = some (cA, .boolean)) {k : Nat} {x : Int32} (hk : k < n) (hn : n ≤ 64) (d : decode cc pc = .ok (.bastore, 1))
    (kk : ∀ (H1 : Heap) (locs1 : List Loc), va_P D cl (ws.set q0 (a, .inl (cA, n, .inl (upd f k (vp_nar .boolean x))))) H1 → va_D A (ws.set q0 (a, .inl (cA, n, .inl (upd f k (vp_nar .boolean x))))) → va_S A H0 H1 locs1 → W p l e R s m args below meth c H1 locs1 cells slots Q (F0 m (pc + 1) ls rest)) : W p l e R s m args below meth c H locs cells slots Q (F0 m pc ls (.int x :: .int (nI k) :: .ref a :: rest)) := by
  refine va_zast hx hb hK hP hD hS q0 t0 ha ht (vp_in_nI hk (by omega)) d ?_
  rw [nI_clamp (by omega)]
  exact kk
theorem zr_last (hx : p.tables.exec = Jvm.exec) (hb : c.code = cc) (hK : va_K D cl tys s) (hP : va_P D cl ws H) (hD : va_D A ws) (hS : va_S A H0 H locs) (q0 t0 : Nat) {cA : ClassId} {n : Nat} {f : Nat → Int64} (ha : ws[q0]? = some (a, .inl (cA, n, .inr (.inl f)))) (ht : tys[t0]? = some (cA, .long)) {k : Nat} {x : Int64} (hk : k < n) (hn : n ≤ 64) (d : decode cc pc = .ok (.lastore, 1))
    (kk : ∀ (H1 : Heap) (locs1 : List Loc), va_P D cl (ws.set q0 (a, .inl (cA, n, .inr (.inl (vp_updL f k x))))) H1 → va_D A (ws.set q0 (a, .inl (cA, n, .inr (.inl (vp_updL f k x))))) → va_S A H0 H1 locs1 → W p l e R s m args below meth c H1 locs1 cells slots Q (F0 m (pc + 1) ls rest)) : W p l e R s m args below meth c H locs cells slots Q (F0 m pc ls (.long x :: .int (nI k) :: .ref a :: rest)) := by
  refine va_last hx hb hK hP hD hS q0 t0 ha ht (vp_in_nI hk (by omega)) d ?_
  rw [nI_clamp (by omega)]
  exact kk
theorem zr_loop {σ : Type} (I : Nat → σ → Array Slot → Heap → List Loc → Prop) (g : Array Slot → JFrame)
    (step : ∀ (r : Nat) (x : σ) (ls : Array Slot) (H : Heap) (locs : List Loc), (∀ (r' : Nat) (x' : σ) (ls' : Array Slot) (H' : Heap) (locs' : List Loc), r' < r → I r' x' ls' H' locs' → W p l e R s m args below meth c H' locs' cells slots Q (g ls')) → I r x ls H locs → W p l e R s m args below meth c H locs cells slots Q (g ls))
    (r : Nat) (x : σ) (ls : Array Slot) (H : Heap) (locs : List Loc) (h : I r x ls H locs) : W p l e R s m args below meth c H locs cells slots Q (g ls) := by
  have key : ∀ (N r : Nat) (x : σ) (ls : Array Slot) (H : Heap) (locs : List Loc), r < N → I r x ls H locs → W p l e R s m args below meth c H locs cells slots Q (g ls) := by
    intro N
    induction N with
    | zero => intro r x ls H locs h0; omega
    | succ N ih => intro r x ls H locs h0 hI; exact step r x ls H locs (fun r' x' ls' H' locs' h1 h2 => ih r' x' ls' H' locs' (by omega) h2) hI
  exact key (r + 1) r x ls H locs (by omega) h
section ZC
variable {Ts ws9 : List Cond} {bytes : ByteArray} {nL maxL index n9 : Nat} {own C : String} {y : MethodName} {ret : Option FieldType} {rm : Room} {b : Addr} {As : List Value}
theorem zr_blind {av : List Value} {w0 : va_W} {sz : Nat} : FrameBlind (va_Pc av (zr_P D cl tys w0 sz)) := fun a U g mk q => by
  obtain ⟨q0, q1, qP, qK, qD⟩ := q
  exact ⟨q0, q1, qP, va_K.moved (u := U) (U := U.calling g mk a) (Vm.Alike.refl U.vm) qK, qD⟩
theorem zr_pre {As : List Value} {w0 : va_W} (hK : va_K D cl tys s) (hP : va_P D cl w0 H) (hD : va_D A w0) : ∀ U : State, U.heap = H → s.WarmedH U.vm → va_Pc As (zr_P D cl tys w0 H.size) As.toArray U := fun U hU hW =>
  ⟨rfl, by rw [hU], by rw [hU]; exact hP, va_K.moved hW.alike hK, hD.weaken (fun _ _ _ _ => trivial)⟩
theorem zr_fre {w0 : va_W} (hD : va_D A w0) (hS : va_S A H0 H locs) (hA : ∀ q, H0.size ≤ q → A q) : ∀ q, va_A w0 H.size q → A q := va_free (wc := w0) hD hS hA (List.range w0.length) (zr_rng w0)
theorem zr_Vi {σ : Type} {w : σ → va_W} {u u1 : σ} {v : Int32} (S : CallFix p m c cc nL s args Ts own)
    (hM : Met l y ws9 rm (va_Pc (.ref b :: As) (zr_P D cl tys (w u) H.size)) (va_Qi (fun r u' => r = v ∧ u' = u1) (fun u' => zr_B D cl tys (va_A (w u) H.size) (w u')) (va_A (w u) H.size)) 0 0 (va_A (w u) H.size))
    (cw : CallW R s args own C index y bytes maxL ret ws9 rm 0 0 n9)
    (hK : va_K D cl tys s) (hP : va_P D cl (w u) H) (hD : va_D A (w u)) (hS : va_S A H0 H locs) (hA : ∀ q, H0.size ≤ q → A q)
    (hrecv : ∃ cell : Cell, H[b]? = some cell ∧ cell.vm.isStatics = false ∧ s.vm.findClass C = some cell.cls)
    (hn : As.length = n9) (hsize : ls.size = nL) (hst : st0 = As.reverse ++ .ref b :: rest) (hW : (rest.map fun v => v.category).sum ≤ 8) (hdg : decode cc pc = .ok (.invokevirtual index, 3))
    (kk : ∀ (H1 : Heap) (locs1 : List Loc), va_P D cl (w u1) H1 → va_D A (w u1) → va_S A H0 H1 locs1 → W p l e R s m args below meth c H1 locs1 cells slots Q (F0 m (pc + 3) ls (.int v :: rest)))
    (hc : cells ≤ R.cells ∧ slots ≤ R.slots) : W p l e R s m args below meth c H locs cells slots Q (F0 m pc ls st0) := by
  have hFc := zr_fre hD hS hA
  refine va_calli (va_runV (As := As) (rest := rest) S hM cw ⟨zr_blind, hrecv, zr_pre hK hP hD⟩ rfl hn hsize hst (lv_room hW) hdg hc) hS (fun q _ h => hFc q h) hFc (fun r u' t H1 locs1 ht hvm hp hB hz hk hS1 => ?_)
  obtain ⟨rfl, rfl⟩ := hp
  obtain ⟨hP1, hK1, hD1⟩ := hB
  rw [ht] at hP1
  exact kk H1 locs1 hP1 (hD1.weaken (fun _ _ _ hq => hFc _ hq)) hS1
theorem zr_Vv {σ : Type} {w : σ → va_W} {u u1 : σ} (S : CallFix p m c cc nL s args Ts own)
    (hM : Met l y ws9 rm (va_Pc (.ref b :: As) (zr_P D cl tys (w u) H.size)) (va_Qv (fun u' => u' = u1) (fun u' => zr_B D cl tys (va_A (w u) H.size) (w u')) (va_A (w u) H.size)) 0 0 (va_A (w u) H.size))
    (cw : CallW R s args own C index y bytes maxL ret ws9 rm 0 0 n9)
    (hK : va_K D cl tys s) (hP : va_P D cl (w u) H) (hD : va_D A (w u)) (hS : va_S A H0 H locs) (hA : ∀ q, H0.size ≤ q → A q)
    (hrecv : ∃ cell : Cell, H[b]? = some cell ∧ cell.vm.isStatics = false ∧ s.vm.findClass C = some cell.cls)
    (hn : As.length = n9) (hsize : ls.size = nL) (hst : st0 = As.reverse ++ .ref b :: rest) (hW : (rest.map fun v => v.category).sum ≤ 8) (hdg : decode cc pc = .ok (.invokevirtual index, 3))
    (kk : ∀ (H1 : Heap) (locs1 : List Loc), va_P D cl (w u1) H1 → va_D A (w u1) → va_S A H0 H1 locs1 → W p l e R s m args below meth c H1 locs1 cells slots Q (F0 m (pc + 3) ls rest))
    (hc : cells ≤ R.cells ∧ slots ≤ R.slots) : W p l e R s m args below meth c H locs cells slots Q (F0 m pc ls st0) := by
  have hFc := zr_fre hD hS hA
  refine va_callv (va_runV (As := As) (rest := rest) S hM cw ⟨zr_blind, hrecv, zr_pre hK hP hD⟩ rfl hn hsize hst (lv_room hW) hdg hc) hS (fun q _ h => hFc q h) hFc (fun u' t H1 locs1 ht hvm hp hB hz hk hS1 => ?_)
  obtain rfl := hp
  obtain ⟨hP1, hK1, hD1⟩ := hB
  rw [ht] at hP1
  exact kk H1 locs1 hP1 (hD1.weaken (fun _ _ _ hq => hFc _ hq)) hS1
theorem zr_Si {v : Int32} (S : CallFix p m c cc nL s args Ts own)
    (hM : Met l y ws9 rm (va_Pc As (fun U => U.heap.size = H.size)) (va_Qi (fun r (_ : Unit) => r = v) (fun _ _ => True) (fun q => H.size ≤ q)) 0 0 (fun q => H.size ≤ q))
    (cw : CallB R s args own index y bytes maxL ret ws9 rm 0 0 n9 ∧ (Cond.static y).before args s = true)
    (hP : va_P D cl ws H) (hS : va_S A H0 H locs) (hA : ∀ q, H0.size ≤ q → A q)
    (hn : As.length = n9) (hsize : ls.size = nL) (hst : st0 = As.reverse ++ rest) (hW : (rest.map fun v => v.category).sum ≤ 8) (hdg : decode cc pc = .ok (.invokestatic index, 3))
    (kk : ∀ (H1 : Heap) (locs1 : List Loc), va_P D cl ws H1 → va_S A H0 H1 locs1 → W p l e R s m args below meth c H1 locs1 cells slots Q (F0 m (pc + 3) ls (.int v :: rest)))
    (hc : cells ≤ R.cells ∧ slots ≤ R.slots) : W p l e R s m args below meth c H locs cells slots Q (F0 m pc ls st0) := by
  refine va_calli (va_runS (As := As) (rest := rest) S hM cw ⟨fun a U g mk q => q, fun U hU hW => ⟨rfl, congrArg Array.size hU⟩⟩ rfl hn hsize hst (lv_room hW) hdg hc) hS (fun q h1 h2 => absurd h1 (Nat.not_lt.mpr h2)) (fun q h => hA q (Nat.le_trans hS.1 h)) (fun r u' t H1 locs1 ht hvm hp hB hz hk hS1 => ?_)
  obtain rfl := hp
  exact kk H1 locs1 (hP.kept fun k q hq => hk q.1 (hP k q hq).lt (fun z => absurd (hP k q hq).lt (Nat.not_lt.mpr z))) hS1
end ZC
end ZR
end
section
abbrev wC (n : Nat) (a : Nat → Nat) (ca : Nat → ClassId) (u : StC) : va_W := [(a 0, .inr (0, [.int (nI n), .ref (a 1), .ref (a 2), .ref (a 3), .ref (a 4), .ref (a 5), .int (cs_u u), .int (cs_m u), .int (cs_h u), .int (cs_i u), .int (cs_j u), .int (cs_w u), .int (cs_t u)])), (a 1, .inl (ca 1, 64, .inr (.inl (cs_o u)))), (a 2, .inl (ca 2, n, .inr (.inl (cs_v u)))), (a 3, .inl (ca 3, n, .inl (cs_k u))), (a 4, .inl (ca 4, n, .inl (cs_n u))), (a 5, .inl (ca 5, n, .inl (cs_l u)))]
abbrev tC (ca : Nat → ClassId) : List (ClassId × FieldType) := [(ca 1, .long), (ca 2, .long), (ca 3, .int), (ca 4, .int), (ca 5, .int)]
abbrev wM (n : Nat) (a : Nat → Nat) (ca : Nat → ClassId) (u : StM) : va_W := [(a 0, .inr (1, [.int (ms_c u), .int (nI n), .ref (a 1), .ref (a 2), .ref (a 3), .ref (a 4), .ref (a 5), .ref (a 6), .long (ms_u u), .int (ms_m u), .int (ms_h u), .int (ms_i u), .int (ms_j u), .int (ms_w u), .int (ms_t u)])), (a 1, .inl (ca 1, 64, .inr (.inl (ms_o u)))), (a 2, .inl (ca 2, 12, .inl (ms_b u))), (a 3, .inl (ca 3, 12, .inr (.inl (ms_v u)))), (a 4, .inl (ca 4, 12, .inl (ms_d u))), (a 5, .inl (ca 5, 12, .inl (ms_n u))), (a 6, .inl (ca 6, 12, .inr (.inl (ms_l u))))]
abbrev tM (ca : Nat → ClassId) : List (ClassId × FieldType) := [(ca 1, .long), (ca 2, .int), (ca 3, .long), (ca 4, .boolean), (ca 5, .int), (ca 6, .long)]
end
section
def kc_b (b : Int32) : Int32 := if b < 0 then 1 else if b < 64 then 0 else 1
def kc_cut (m b q : Int32) : Int32 := if kc_b b = 0 then (if q < 0 then 1 else if q ≤ 2 then (if m = 0 then 0 else 2) else 1) else 1
def kc_mode (x : Int32) : Int32 := if x = 0 then 0 else if x = 1 then 0 else if x = 2 then 0 else 1
def kc_back (q : Int32) : Int32 := if q < 0 then 1 else if q ≤ 12 then 0 else 1
def kc_dirty (n : Nat) (f : Nat → Int32) (b : Int32) : Int32 := if kc_b b = 0 then (match fc_find f b.toNatClampNeg n 0 with
  | none => 2
  | some _ => 0) else 1
def kc_order (o : Option Int32) : Int32 := match o with
  | none => 1
  | some _ => 0
def kc_noted (n : Nat) (q : Int32) : Int32 := if q < 0 then 1 else if q < nI n then 0 else 1
def kc_fig (q : Int32) : Int32 := if q = 0 then 0 else if q = 1 then 0 else if q = 2 then 0 else if q = 3 then 0 else if q = 4 then 0 else if q = 5 then 0 else if q = 6 then 0 else if q = 7 then 0 else 1
theorem kb_nI {b : Int32} (h : kc_b b = 0) : ∃ j, j < 64 ∧ b = nI j := by
  unfold kc_b at h
  by_cases h1 : b < 0
  · rw [if_pos h1] at h; exact absurd h (by decide)
  · rw [if_neg h1] at h
    by_cases h2 : b < 64
    · obtain ⟨j, hj, rfl⟩ := nI_of h1
      exact ⟨j, (nI_ltI (b := 64) hj (by omega)).mp h2, rfl⟩
    · rw [if_neg h2] at h; exact absurd h (by decide)
theorem kb_10 (b : Int32) : kc_b b = 0 ∨ kc_b b = 1 := by
  unfold kc_b
  split
  · exact Or.inr rfl
  · split
    · exact Or.inl rfl
    · exact Or.inr rfl
theorem k_ne {x : Int32} (h : x = 1) : ¬ x = 0 := by rw [h]; decide
theorem k_ne2 {x : Int32} (h : x = 2) : ¬ x = 0 := by rw [h]; decide
def eIA : String := "java/lang/IllegalArgumentException"
def eIS : String := "java/lang/IllegalStateException"
def eNS : String := "java/util/NoSuchElementException"
def eIO : String := "java/lang/IndexOutOfBoundsException"
def zD (C : String) : Cond := .declares ⟨C, "<init>", "(Ljava/lang/String;)V"⟩
def zS (sa : Nat → Nat) (U : State) : Prop := vk_R RX0 145 "no such block" (sa 0) U ∧ vk_R RX0 77 "no such number of steps" (sa 1) U ∧ vk_R RX0 84 "the mode is not BACK" (sa 2) U ∧ vk_R RX0 90 "no such mode" (sa 3) U ∧ vk_R RX0 95 "no such number of slots" (sa 4) U ∧ vk_R RX0 121 "the block is not cached" (sa 5) U ∧ vk_R RX0 132 "no such place in the order" (sa 6) U ∧ vk_R RX0 135 "no such slot" (sa 7) U ∧ vk_R RX0 143 "no such figure" (sa 8) U
def zN (U : State) : Prop := va_Nw (.castable "java/lang/IllegalArgumentException" "java/lang/IllegalArgumentException") U ∧ va_Nw (.castable "java/lang/IllegalStateException" "java/lang/IllegalStateException") U ∧ va_Nw (.castable "java/util/NoSuchElementException" "java/util/NoSuchElementException") U ∧ va_Nw (.castable "java/lang/IndexOutOfBoundsException" "java/lang/IndexOutOfBoundsException") U ∧ va_Nw (.declares ⟨"java/lang/RuntimeException", "<init>", "(Ljava/lang/String;)V"⟩) U ∧ va_Nw (.declares ⟨"java/lang/Exception", "<init>", "(Ljava/lang/String;)V"⟩) U ∧ va_Nw (.declares ⟨"java/lang/Throwable", "<init>", "(Ljava/lang/String;)V"⟩) U
def zT (A : Nat → Prop) (U : State) : Prop := vx_Zq Bundle.tN "UNASSIGNED_STACK" Bundle.steD A U U.heap ∧ vx_Zq Bundle.tN "SUPPRESSED_SENTINEL" Bundle.listD A U U.heap
def zE (sa : Nat → Nat) (A : Nat → Prop) (U : State) : Prop := zT A U ∧ zN U ∧ zS sa U
theorem zE.to {sa : Nat → Nat} {s U : State} {A B : Nat → Prop} (h : zE sa A s) (hW : s.WarmedH U.vm) (hS : ∀ q : Nat, q < s.heap.size → ¬ A q → U.heap[q]? = s.heap[q]?) (hAB : ∀ q, B q → A q) : zE sa B U := by
  obtain ⟨⟨h1, h2⟩, ⟨n1, n2, n3, n4, n5, n6, n7⟩, ⟨s1, s2, s3, s4, s5, s6, s7, s8, s9⟩⟩ := h
  exact ⟨⟨vx_Zq.moved hW.alike ((h1.kept hS).narrow hAB), vx_Zq.moved hW.alike ((h2.kept hS).narrow hAB)⟩, ⟨n1.warmC hW, n2.warmC hW, n3.warmC hW, n4.warmC hW, n5.warmD hW, n6.warmD hW, n7.warmD hW⟩, ⟨s1.warm hW, s2.warm hW, s3.warm hW, s4.warm hW, s5.warm hW, s6.warm hW, s7.warm hW, s8.warm hW, s9.warm hW⟩⟩
theorem zE.call {sa : Nat → Nat} {A : Nat → Prop} {U : State} {g : JFrame} {mk : MethodId} {a : Array Value} (h : zE sa A U) : zE sa A (U.calling g mk a) := zE.to (U := U.calling g mk a) h (State.WarmedH.refl U) (fun _ _ _ => rfl) (fun _ h => h)
theorem zr_F {A : Nat → Prop} {s t : State} {H : Heap} {locs : List Loc} (hS : va_S A s.heap H locs) (h1 : H.size ≤ t.heap.size) (h2 : ∀ q : Nat, q < H.size → t.heap[q]? = H[q]?) : va_F A s t :=
  ⟨Nat.le_trans hS.1 h1, fun q q1 q2 => (h2 q (Nat.lt_of_lt_of_le q1 hS.1)).trans (hS.2.1 q q1 q2)⟩
theorem mk_75 : Cond.classLink RX0 75 "java/lang/IllegalArgumentException" ∈ wsG := zw_in (i := 109) (by decide +kernel) rfl
theorem mi_e79 : Cond.initialized "java/lang/IllegalArgumentException" ∈ wsG := zw_in (i := 7) (by decide +kernel) rfl
theorem zat_79 {args : Array Value} {s : State} (hts : ∀ w ∈ wsG, w.before args s = true) (hN : zN s) : ∀ w ∈ vx_atS RX0 79 "java/lang/IllegalArgumentException" ["java/lang/RuntimeException", "java/lang/Exception"], w.before args s = true := vx_hat (B := [.castable "java/lang/IllegalArgumentException" "java/lang/IllegalArgumentException", .declares ⟨"java/lang/RuntimeException", "<init>", "(Ljava/lang/String;)V"⟩, .declares ⟨"java/lang/Exception", "<init>", "(Ljava/lang/String;)V"⟩, .declares ⟨"java/lang/Throwable", "<init>", "(Ljava/lang/String;)V"⟩]) (fun w hw => hts w ((by decide +kernel : ∀ w ∈ (vx_atS RX0 79 "java/lang/IllegalArgumentException" ["java/lang/RuntimeException", "java/lang/Exception"]).filter goodWord, w ∈ wsG) w hw)) (by decide +kernel) (vx_c (va_Nw.use rfl hN.1) (vx_c (va_Nw.use rfl hN.2.2.2.2.1) (vx_c (va_Nw.use rfl hN.2.2.2.2.2.1) (vx_c (va_Nw.use rfl hN.2.2.2.2.2.2) vx_n))))
theorem zgd_79 : ∀ w ∈ Cond.classLink RX0 75 "java/lang/IllegalArgumentException" :: Cond.initialized "java/lang/IllegalArgumentException" :: vx_atS RX0 79 "java/lang/IllegalArgumentException" ["java/lang/RuntimeException", "java/lang/Exception"], vx_ot w = true := by decide +kernel
theorem mk_82 : Cond.classLink RX0 82 "java/lang/IllegalStateException" ∈ wsG := zw_in (i := 259) (by decide +kernel) rfl
theorem mi_e86 : Cond.initialized "java/lang/IllegalStateException" ∈ wsG := zw_in (i := 8) (by decide +kernel) rfl
theorem zat_86 {args : Array Value} {s : State} (hts : ∀ w ∈ wsG, w.before args s = true) (hN : zN s) : ∀ w ∈ vx_atS RX0 86 "java/lang/IllegalStateException" ["java/lang/RuntimeException", "java/lang/Exception"], w.before args s = true := vx_hat (B := [.castable "java/lang/IllegalStateException" "java/lang/IllegalStateException", .declares ⟨"java/lang/RuntimeException", "<init>", "(Ljava/lang/String;)V"⟩, .declares ⟨"java/lang/Exception", "<init>", "(Ljava/lang/String;)V"⟩, .declares ⟨"java/lang/Throwable", "<init>", "(Ljava/lang/String;)V"⟩]) (fun w hw => hts w ((by decide +kernel : ∀ w ∈ (vx_atS RX0 86 "java/lang/IllegalStateException" ["java/lang/RuntimeException", "java/lang/Exception"]).filter goodWord, w ∈ wsG) w hw)) (by decide +kernel) (vx_c (va_Nw.use rfl hN.2.1) (vx_c (va_Nw.use rfl hN.2.2.2.2.1) (vx_c (va_Nw.use rfl hN.2.2.2.2.2.1) (vx_c (va_Nw.use rfl hN.2.2.2.2.2.2) vx_n))))
theorem zgd_86 : ∀ w ∈ Cond.classLink RX0 82 "java/lang/IllegalStateException" :: Cond.initialized "java/lang/IllegalStateException" :: vx_atS RX0 86 "java/lang/IllegalStateException" ["java/lang/RuntimeException", "java/lang/Exception"], vx_ot w = true := by decide +kernel
theorem mk_119 : Cond.classLink RX0 119 "java/util/NoSuchElementException" ∈ wsG := zw_in (i := 318) (by decide +kernel) rfl
theorem mi_e123 : Cond.initialized "java/util/NoSuchElementException" ∈ wsG := zw_in (i := 9) (by decide +kernel) rfl
theorem mk_130 : Cond.classLink RX0 130 "java/lang/IndexOutOfBoundsException" ∈ wsG := zw_in (i := 353) (by decide +kernel) rfl
theorem mi_e134 : Cond.initialized "java/lang/IndexOutOfBoundsException" ∈ wsG := zw_in (i := 10) (by decide +kernel) rfl
theorem zat_134 {args : Array Value} {s : State} (hts : ∀ w ∈ wsG, w.before args s = true) (hN : zN s) : ∀ w ∈ vx_atS RX0 134 "java/lang/IndexOutOfBoundsException" ["java/lang/RuntimeException", "java/lang/Exception"], w.before args s = true := vx_hat (B := [.castable "java/lang/IndexOutOfBoundsException" "java/lang/IndexOutOfBoundsException", .declares ⟨"java/lang/RuntimeException", "<init>", "(Ljava/lang/String;)V"⟩, .declares ⟨"java/lang/Exception", "<init>", "(Ljava/lang/String;)V"⟩, .declares ⟨"java/lang/Throwable", "<init>", "(Ljava/lang/String;)V"⟩]) (fun w hw => hts w ((by decide +kernel : ∀ w ∈ (vx_atS RX0 134 "java/lang/IndexOutOfBoundsException" ["java/lang/RuntimeException", "java/lang/Exception"]).filter goodWord, w ∈ wsG) w hw)) (by decide +kernel) (vx_c (va_Nw.use rfl hN.2.2.2.1) (vx_c (va_Nw.use rfl hN.2.2.2.2.1) (vx_c (va_Nw.use rfl hN.2.2.2.2.2.1) (vx_c (va_Nw.use rfl hN.2.2.2.2.2.2) vx_n))))
theorem zgd_134 : ∀ w ∈ Cond.classLink RX0 130 "java/lang/IndexOutOfBoundsException" :: Cond.initialized "java/lang/IndexOutOfBoundsException" :: vx_atS RX0 134 "java/lang/IndexOutOfBoundsException" ["java/lang/RuntimeException", "java/lang/Exception"], vx_ot w = true := by decide +kernel
section ZX
variable {p : Program} {l : Launch} {e : Env} {R : Room} {s : State} {m : MethodId} {args : Array Value} {below : List Frame} {meth : Method} {c : Code} {H : Heap} {locs : List Loc} {cells slots : Nat} {Q : State → Prop}
variable {cc : ByteArray} {pc : Nat} {ls : Array Slot} {rest st0 : List Value} {D : va_G} {cl : List vw_C} {ws : va_W} {A : Nat → Prop}
variable {Ts ws9 : List Cond} {bytes : ByteArray} {nL maxL index n9 : Nat} {own : String} {y : MethodName} {ret : Option FieldType} {rm : Room} {As : List Value}
theorem zr_SX {p0 p1 : Prop} {E0 : String} {sa : Nat → Nat} (S : CallFix p m c cc nL s args Ts own)
    (hM : vx_Met l y ws9 rm (va_Pc As (fun U => U.heap.size = H.size ∧ zE sa (fun q => H.size ≤ q) U)) (va_Qv (fun (_ : Unit) => p0) (fun _ _ => True) (fun q => H.size ≤ q)) (vx_X (fun (_ : Unit) => p1) (fun E _ _ => E = E0) (fun q => H.size ≤ q)) 1 6 (fun q => H.size ≤ q))
    (cw : CallB R s args own index y bytes maxL ret ws9 rm 1 6 n9 ∧ (Cond.static y).before args s = true)
    (hE : zE sa A s) (hP : va_P D cl ws H) (hS : va_S A s.heap H locs) (hA : ∀ q, s.heap.size ≤ q → A q)
    (hn : As.length = n9) (hsize : ls.size = nL) (hst : st0 = As.reverse ++ rest) (hW : (rest.map fun v => v.category).sum ≤ 8) (hdg : decode cc pc = .ok (.invokestatic index, 3))
    (kx : ∀ (ce : Cell) (q9 : Addr) (H1 : Heap) (locs1 : List Loc), p1 → va_P D cl ws H1 → va_S A s.heap H1 locs1 → H1[q9]? = some ce → ce.vm = .none → s.vm.findClass E0 = some ce.cls → vx_W p l e R s m args below meth c H1 locs1 (cells + 1) (slots + 6) Q (F0 m pc ls rest) q9)
    (kk : ∀ (H1 : Heap) (locs1 : List Loc), p0 → va_P D cl ws H1 → va_S A s.heap H1 locs1 → W p l e R s m args below meth c H1 locs1 (cells + 1) (slots + 6) Q (F0 m (pc + 3) ls rest))
    (hc : cells + 1 ≤ R.cells ∧ slots + 6 ≤ R.slots) : W p l e R s m args below meth c H locs cells slots Q (F0 m pc ls st0) := by
  have hin : ∀ q, H.size ≤ q → A q := fun q h => hA q (Nat.le_trans hS.1 h)
  have hkp : ∀ H1 : Heap, (∀ q : Nat, q < H.size → ¬ (H.size ≤ q) → H1[q]? = H[q]?) → va_P D cl ws H1 := fun H1 hk => hP.kept fun k q hq => hk q.1 (hP k q hq).lt (fun z => absurd (hP k q hq).lt (Nat.not_lt.mpr z))
  refine vx_callv (vx_runS (As := As) (rest := rest) S hM cw ⟨fun a U g mk q => ⟨q.1, q.2.1, q.2.2.call⟩, fun U hU hW => ⟨rfl, congrArg Array.size hU, hE.to hW (fun q h1 h2 => by rw [hU]; exact hS.2.1 q h1 h2) hin⟩⟩ rfl hn hsize hst (lv_room hW) hdg hc) hS (fun q h1 h2 => absurd h1 (Nat.not_lt.mpr h2)) hin (fun q h1 h2 => absurd h1 (Nat.not_lt.mpr h2)) (fun E ce q9 u t H1 locs1 ht hvm hp hB hz hk hS1 hce hcv hcl => ?_) (fun u t H1 locs1 ht hvm hp hB hz hk hS1 => ?_)
  · subst hB
    exact kx ce q9 H1 locs1 hp (hkp H1 hk) hS1 hce hcv hcl
  · exact kk H1 locs1 hp (hkp H1 hk) hS1
end ZX
end
section
theorem zs_a {x : Int32} (h : x < 1) : ∃ n, 1 ≤ n ∧ n ≤ 12 ∧ fc_slots x = n ∧ (6 : Int32) = nI n := ⟨6, by decide, by decide, by unfold fc_slots; rw [if_pos h], by decide⟩
theorem zs_b {x : Int32} (h1 : ¬ x < 1) (h : 12 < x) : ∃ n, 1 ≤ n ∧ n ≤ 12 ∧ fc_slots x = n ∧ (6 : Int32) = nI n := ⟨6, by decide, by decide, by unfold fc_slots; rw [if_neg h1, if_pos h], by decide⟩
theorem zs_c {x : Int32} (h1 : ¬ x < 1) (h : ¬ 12 < x) : ∃ n, 1 ≤ n ∧ n ≤ 12 ∧ fc_slots x = n ∧ x = nI n := by
  have h0 : ¬ x < 0 := fun q => h1 (by
    rw [Int32.lt_iff_toInt_lt] at q ⊢
    have e0 : (0 : Int32).toInt = 0 := by decide
    have e1 : (1 : Int32).toInt = 1 := by decide
    omega)
  obtain ⟨j, hj, rfl⟩ := nI_of2 (M := 12) (n := 12) (by decide) h0 (Int32.not_lt.mp h)
  have hj1 : 1 ≤ j := Nat.le_of_not_lt fun q => h1 ((nI_ltI (a := j) (b := 1) (by omega) (by omega)).mpr q)
  exact ⟨j, hj1, hj, by unfold fc_slots; rw [if_neg h1, if_neg h, nI_clamp (by omega)], rfl⟩
section ZF
variable {p : Program} {l : Launch} {e : Env} {R : Room} {s : State} {m : MethodId} {args : Array Value} {below : List Frame} {meth : Method} {c : Code} {H H0 : Heap} {locs : List Loc} {cells slots mc ms : Nat} {Q : State → Prop}
variable {pc : Nat} {ls : Array Slot} {rest st0 : List Value} {D : va_G} {cl : List vw_C} {A : Nat → Prop} {a : Array Value} {σ : Type} {tys1 : σ → List (ClassId × FieldType)} {w1 : σ → va_W} {w0 wr ws : va_W}
theorem zf_i {post : Int32 → σ → Prop} (hr : va_Run p l e R s m args below meth c H locs cells slots mc ms (F0 m pc ls st0) rest (va_Qi post (fun z => zr_B D cl (tys1 z) (va_A w0 H.size) (w1 z)) (va_A w0 H.size) a) (va_A w0 H.size))
    (hP : va_P D cl ws H) (hD : va_D A ws) (hS : va_S A H0 H locs) (hA : ∀ q, H0.size ≤ q → A q) (isC isR : List Nat) (hC : isC.map (fun i => ws[i]?) = w0.map some) (hR : isR.map (fun i => ws[i]?) = wr.map some) (hn : va_nd isR = true) (hdis : ∀ i ∈ isR, i ∉ isC)
    (kk : ∀ (r : Int32) (z : σ) (H1 : Heap) (locs1 : List Loc), post r z → va_P D cl (wr ++ w1 z) H1 → va_D A (wr ++ w1 z) → va_K D cl (tys1 z) s → va_S A H0 H1 locs1 → W p l e R s m args below meth c H1 locs1 (cells + mc) (slots + ms) Q (F0 m (pc + 3) ls (.int r :: rest))) : W p l e R s m args below meth c H locs cells slots Q (F0 m pc ls st0) := by
  have hF := va_free (wc := w0) hD hS hA isC hC
  refine va_calli hr hS (fun q _ h => hF q h) hF (fun r z t H1 locs1 ht hvm hp hB hz hk hS1 => ?_)
  obtain ⟨hP1, hK1, hD1⟩ := hB
  rw [ht] at hP1
  obtain ⟨hP2, hD2⟩ := va_join (wr := wr) (w1 := w1 z) hP hD isC isR hC hR hn hdis hk hF hP1 hD1
  exact kk r z H1 locs1 hp hP2 hD2 (va_K.moved hvm.symm hK1) hS1
theorem zf_l {post : Int64 → σ → Prop} (hr : va_Run p l e R s m args below meth c H locs cells slots mc ms (F0 m pc ls st0) rest (va_Ql post (fun z => zr_B D cl (tys1 z) (va_A w0 H.size) (w1 z)) (va_A w0 H.size) a) (va_A w0 H.size))
    (hP : va_P D cl ws H) (hD : va_D A ws) (hS : va_S A H0 H locs) (hA : ∀ q, H0.size ≤ q → A q) (isC isR : List Nat) (hC : isC.map (fun i => ws[i]?) = w0.map some) (hR : isR.map (fun i => ws[i]?) = wr.map some) (hn : va_nd isR = true) (hdis : ∀ i ∈ isR, i ∉ isC)
    (kk : ∀ (r : Int64) (z : σ) (H1 : Heap) (locs1 : List Loc), post r z → va_P D cl (wr ++ w1 z) H1 → va_D A (wr ++ w1 z) → va_K D cl (tys1 z) s → va_S A H0 H1 locs1 → W p l e R s m args below meth c H1 locs1 (cells + mc) (slots + ms) Q (F0 m (pc + 3) ls (.long r :: rest))) : W p l e R s m args below meth c H locs cells slots Q (F0 m pc ls st0) := by
  have hF := va_free (wc := w0) hD hS hA isC hC
  refine va_calll hr hS (fun q _ h => hF q h) hF (fun r z t H1 locs1 ht hvm hp hB hz hk hS1 => ?_)
  obtain ⟨hP1, hK1, hD1⟩ := hB
  rw [ht] at hP1
  obtain ⟨hP2, hD2⟩ := va_join (wr := wr) (w1 := w1 z) hP hD isC isR hC hR hn hdis hk hF hP1 hD1
  exact kk r z H1 locs1 hp hP2 hD2 (va_K.moved hvm.symm hK1) hS1
theorem zf_v {post : σ → Prop} (hr : va_Run p l e R s m args below meth c H locs cells slots mc ms (F0 m pc ls st0) rest (va_Qv post (fun z => zr_B D cl (tys1 z) (va_A w0 H.size) (w1 z)) (va_A w0 H.size) a) (va_A w0 H.size))
    (hP : va_P D cl ws H) (hD : va_D A ws) (hS : va_S A H0 H locs) (hA : ∀ q, H0.size ≤ q → A q) (isC isR : List Nat) (hC : isC.map (fun i => ws[i]?) = w0.map some) (hR : isR.map (fun i => ws[i]?) = wr.map some) (hn : va_nd isR = true) (hdis : ∀ i ∈ isR, i ∉ isC)
    (kk : ∀ (z : σ) (H1 : Heap) (locs1 : List Loc), post z → va_P D cl (wr ++ w1 z) H1 → va_D A (wr ++ w1 z) → va_K D cl (tys1 z) s → va_S A H0 H1 locs1 → W p l e R s m args below meth c H1 locs1 (cells + mc) (slots + ms) Q (F0 m (pc + 3) ls rest)) : W p l e R s m args below meth c H locs cells slots Q (F0 m pc ls st0) := by
  have hF := va_free (wc := w0) hD hS hA isC hC
  refine va_callv hr hS (fun q _ h => hF q h) hF (fun z t H1 locs1 ht hvm hp hB hz hk hS1 => ?_)
  obtain ⟨hP1, hK1, hD1⟩ := hB
  rw [ht] at hP1
  obtain ⟨hP2, hD2⟩ := va_join (wr := wr) (w1 := w1 z) hP hD isC isR hC hR hn hdis hk hF hP1 hD1
  exact kk z H1 locs1 hp hP2 hD2 (va_K.moved hvm.symm hK1) hS1
variable {τ : Type} {px : τ → Prop} {tyX : τ → List (ClassId × FieldType)} {wX : τ → va_W} {EX : String → τ → Prop}
theorem zx_i {post : Int32 → σ → Prop} (hr : vx_Run p l e R s m args below meth c H locs cells slots mc ms (F0 m pc ls st0) rest (va_Qi post (fun z => zr_B D cl (tys1 z) (va_A w0 H.size) (w1 z)) (va_A w0 H.size) a) (vx_X px (fun E z t => EX E z ∧ zr_B D cl (tyX z) (va_A w0 H.size) (wX z) t) (va_A w0 H.size)) (va_A w0 H.size))
    (hP : va_P D cl ws H) (hD : va_D A ws) (hS : va_S A H0 H locs) (hA : ∀ q, H0.size ≤ q → A q) (isC isR : List Nat) (hC : isC.map (fun i => ws[i]?) = w0.map some) (hR : isR.map (fun i => ws[i]?) = wr.map some) (hn : va_nd isR = true) (hdis : ∀ i ∈ isR, i ∉ isC)
    (kx : ∀ (E : String) (ce : Cell) (q9 : Addr) (z : τ) (H1 : Heap) (locs1 : List Loc), px z → EX E z → va_P D cl (wr ++ wX z) H1 → va_D A (wr ++ wX z) → va_K D cl (tyX z) s → va_S A H0 H1 locs1 → H1[q9]? = some ce → ce.vm = .none → s.vm.findClass E = some ce.cls → vx_W p l e R s m args below meth c H1 locs1 (cells + mc) (slots + ms) Q (F0 m pc ls rest) q9)
    (kk : ∀ (r : Int32) (z : σ) (H1 : Heap) (locs1 : List Loc), post r z → va_P D cl (wr ++ w1 z) H1 → va_D A (wr ++ w1 z) → va_K D cl (tys1 z) s → va_S A H0 H1 locs1 → W p l e R s m args below meth c H1 locs1 (cells + mc) (slots + ms) Q (F0 m (pc + 3) ls (.int r :: rest))) : W p l e R s m args below meth c H locs cells slots Q (F0 m pc ls st0) := by
  have hF := va_free (wc := w0) hD hS hA isC hC
  refine vx_calli hr hS (fun q _ h => hF q h) hF (fun q _ h => hF q h) (fun E ce q9 z t H1 locs1 ht hvm hp hB hz hk hS1 hce hcv hcl => ?_) (fun r z t H1 locs1 ht hvm hp hB hz hk hS1 => ?_)
  · obtain ⟨hEX, hP1, hK1, hD1⟩ := hB
    rw [ht] at hP1
    obtain ⟨hP2, hD2⟩ := va_join (wr := wr) (w1 := wX z) hP hD isC isR hC hR hn hdis hk hF hP1 hD1
    exact kx E ce q9 z H1 locs1 hp hEX hP2 hD2 (va_K.moved hvm.symm hK1) hS1 hce hcv hcl
  · obtain ⟨hP1, hK1, hD1⟩ := hB
    rw [ht] at hP1
    obtain ⟨hP2, hD2⟩ := va_join (wr := wr) (w1 := w1 z) hP hD isC isR hC hR hn hdis hk hF hP1 hD1
    exact kk r z H1 locs1 hp hP2 hD2 (va_K.moved hvm.symm hK1) hS1
theorem zx_l {post : Int64 → σ → Prop} (hr : vx_Run p l e R s m args below meth c H locs cells slots mc ms (F0 m pc ls st0) rest (va_Ql post (fun z => zr_B D cl (tys1 z) (va_A w0 H.size) (w1 z)) (va_A w0 H.size) a) (vx_X px (fun E z t => EX E z ∧ zr_B D cl (tyX z) (va_A w0 H.size) (wX z) t) (va_A w0 H.size)) (va_A w0 H.size))
    (hP : va_P D cl ws H) (hD : va_D A ws) (hS : va_S A H0 H locs) (hA : ∀ q, H0.size ≤ q → A q) (isC isR : List Nat) (hC : isC.map (fun i => ws[i]?) = w0.map some) (hR : isR.map (fun i => ws[i]?) = wr.map some) (hn : va_nd isR = true) (hdis : ∀ i ∈ isR, i ∉ isC)
    (kx : ∀ (E : String) (ce : Cell) (q9 : Addr) (z : τ) (H1 : Heap) (locs1 : List Loc), px z → EX E z → va_P D cl (wr ++ wX z) H1 → va_D A (wr ++ wX z) → va_K D cl (tyX z) s → va_S A H0 H1 locs1 → H1[q9]? = some ce → ce.vm = .none → s.vm.findClass E = some ce.cls → vx_W p l e R s m args below meth c H1 locs1 (cells + mc) (slots + ms) Q (F0 m pc ls rest) q9)
    (kk : ∀ (r : Int64) (z : σ) (H1 : Heap) (locs1 : List Loc), post r z → va_P D cl (wr ++ w1 z) H1 → va_D A (wr ++ w1 z) → va_K D cl (tys1 z) s → va_S A H0 H1 locs1 → W p l e R s m args below meth c H1 locs1 (cells + mc) (slots + ms) Q (F0 m (pc + 3) ls (.long r :: rest))) : W p l e R s m args below meth c H locs cells slots Q (F0 m pc ls st0) := by
  have hF := va_free (wc := w0) hD hS hA isC hC
  refine vx_calll hr hS (fun q _ h => hF q h) hF (fun q _ h => hF q h) (fun E ce q9 z t H1 locs1 ht hvm hp hB hz hk hS1 hce hcv hcl => ?_) (fun r z t H1 locs1 ht hvm hp hB hz hk hS1 => ?_)
  · obtain ⟨hEX, hP1, hK1, hD1⟩ := hB
    rw [ht] at hP1
    obtain ⟨hP2, hD2⟩ := va_join (wr := wr) (w1 := wX z) hP hD isC isR hC hR hn hdis hk hF hP1 hD1
    exact kx E ce q9 z H1 locs1 hp hEX hP2 hD2 (va_K.moved hvm.symm hK1) hS1 hce hcv hcl
  · obtain ⟨hP1, hK1, hD1⟩ := hB
    rw [ht] at hP1
    obtain ⟨hP2, hD2⟩ := va_join (wr := wr) (w1 := w1 z) hP hD isC isR hC hR hn hdis hk hF hP1 hD1
    exact kk r z H1 locs1 hp hP2 hD2 (va_K.moved hvm.symm hK1) hS1
theorem zx_v {post : σ → Prop} (hr : vx_Run p l e R s m args below meth c H locs cells slots mc ms (F0 m pc ls st0) rest (va_Qv post (fun z => zr_B D cl (tys1 z) (va_A w0 H.size) (w1 z)) (va_A w0 H.size) a) (vx_X px (fun E z t => EX E z ∧ zr_B D cl (tyX z) (va_A w0 H.size) (wX z) t) (va_A w0 H.size)) (va_A w0 H.size))
    (hP : va_P D cl ws H) (hD : va_D A ws) (hS : va_S A H0 H locs) (hA : ∀ q, H0.size ≤ q → A q) (isC isR : List Nat) (hC : isC.map (fun i => ws[i]?) = w0.map some) (hR : isR.map (fun i => ws[i]?) = wr.map some) (hn : va_nd isR = true) (hdis : ∀ i ∈ isR, i ∉ isC)
    (kx : ∀ (E : String) (ce : Cell) (q9 : Addr) (z : τ) (H1 : Heap) (locs1 : List Loc), px z → EX E z → va_P D cl (wr ++ wX z) H1 → va_D A (wr ++ wX z) → va_K D cl (tyX z) s → va_S A H0 H1 locs1 → H1[q9]? = some ce → ce.vm = .none → s.vm.findClass E = some ce.cls → vx_W p l e R s m args below meth c H1 locs1 (cells + mc) (slots + ms) Q (F0 m pc ls rest) q9)
    (kk : ∀ (z : σ) (H1 : Heap) (locs1 : List Loc), post z → va_P D cl (wr ++ w1 z) H1 → va_D A (wr ++ w1 z) → va_K D cl (tys1 z) s → va_S A H0 H1 locs1 → W p l e R s m args below meth c H1 locs1 (cells + mc) (slots + ms) Q (F0 m (pc + 3) ls rest)) : W p l e R s m args below meth c H locs cells slots Q (F0 m pc ls st0) := by
  have hF := va_free (wc := w0) hD hS hA isC hC
  refine vx_callv hr hS (fun q _ h => hF q h) hF (fun q _ h => hF q h) (fun E ce q9 z t H1 locs1 ht hvm hp hB hz hk hS1 hce hcv hcl => ?_) (fun z t H1 locs1 ht hvm hp hB hz hk hS1 => ?_)
  · obtain ⟨hEX, hP1, hK1, hD1⟩ := hB
    rw [ht] at hP1
    obtain ⟨hP2, hD2⟩ := va_join (wr := wr) (w1 := wX z) hP hD isC isR hC hR hn hdis hk hF hP1 hD1
    exact kx E ce q9 z H1 locs1 hp hEX hP2 hD2 (va_K.moved hvm.symm hK1) hS1 hce hcv hcl
  · obtain ⟨hP1, hK1, hD1⟩ := hB
    rw [ht] at hP1
    obtain ⟨hP2, hD2⟩ := va_join (wr := wr) (w1 := w1 z) hP hD isC isR hC hR hn hdis hk hF hP1 hD1
    exact kk z H1 locs1 hp hP2 hD2 (va_K.moved hvm.symm hK1) hS1
end ZF
abbrev wF (q : Nat) (cA : ClassId) (n : Nat) (u : Nat → Int32) : va_W := [(q, .inl (cA, n, .inl u))]
abbrev tF (cA : ClassId) : List (ClassId × FieldType) := [(cA, .int)]
abbrev fs_f (u : Nat → Int32) : Nat → Int32 := u
end
section
abbrev wL (n : Nat) (a : Nat → Nat) (ca : Nat → ClassId) (qo : Nat) (co : ClassId) (z : StC × (Nat → Int64)) : va_W := wC n a ca z.1 ++ [(qo, .inl (co, 1, .inr (.inl z.2)))]
def zC (U : State) : Prop := va_Nc "java/lang/IllegalStateException" "java/lang/IllegalArgumentException" U ∧ va_Nc "java/util/NoSuchElementException" "java/lang/IllegalArgumentException" U
theorem zC.to {s U : State} (h : zC s) (hv : s.vm.Alike U.vm) : zC U := ⟨h.1.moved hv, h.2.moved hv⟩
theorem mk_L13 : Cond.classLink RL 13 "java/lang/IllegalArgumentException" ∈ wsG := zw_in (i := 101) (by decide +kernel) rfl
theorem mk_L23 : Cond.classLink RL 23 "java/lang/IllegalStateException" ∈ wsG := zw_in (i := 253) (by decide +kernel) rfl
theorem mk_L39 : Cond.classLink RL 39 "java/util/NoSuchElementException" ∈ wsG := zw_in (i := 313) (by decide +kernel) rfl
theorem mk_L47 : Cond.classLink RL 47 "java/lang/IndexOutOfBoundsException" ∈ wsG := zw_in (i := 344) (by decide +kernel) rfl
end
section
def slR (k n b d m : Int32) : Prop := m = n ∧ ((k = -1 ∧ n = -1 ∧ b = -1 ∧ d = 0) ∨ ∃ B D : Nat, B < 64 ∧ D < 2 ∧ k = nI (2 * B + D) ∧ b = nI B ∧ d = nI D ∧ (n = -1 ∨ ∃ E : Nat, E < 2 ∧ n = nI (2 * B + E)))
theorem slR.ok {k n b d m : Int32} (h : slR k n b d m) : okf k := by
  rcases h.2 with ⟨h1, -⟩ | ⟨B, D, hB, hD, h1, -⟩
  · exact Or.inl h1
  · exact Or.inr ⟨B, D, hB, hD, h1⟩
theorem slR.so {k n b d m : Int32} (h : slR k n b d m) : fm_so b d = k := by
  rcases h.2 with ⟨rfl, -, rfl, rfl⟩ | ⟨B, D, hB, hD, rfl, rfl, rfl, -⟩
  · exact pf_tb3.2.2.2.2.2.1
  · exact (pf hB hD).2.2.2.2.2.2
theorem slR.isd {k n b d m : Int32} (h : slR k n b d m) : fc_isd k = d := by
  rcases h.2 with ⟨rfl, -, rfl, rfl⟩ | ⟨B, D, hB, hD, rfl, rfl, rfl, -⟩
  · exact pf_tb3.2.2.2.2.1
  · exact (pf hB hD).2.1
theorem slR.ind {k n b d m : Int32} (h : slR k n b d m) : fc_isd n = fm_ind m := by
  obtain ⟨rfl, h⟩ := h
  rcases h with ⟨-, rfl, -⟩ | ⟨B, D, hB, hD, -, -, -, rfl | ⟨E, hE, rfl⟩⟩
  · exact pf_tb3.2.2.2.2.1.trans pf_tb3.2.2.2.2.2.2.symm
  · exact pf_tb3.2.2.2.2.1.trans pf_tb3.2.2.2.2.2.2.symm
  · exact (pf hB hE).2.1.trans (pf hB hE).2.2.2.2.2.1.symm
theorem slR.emp {k n b d m : Int32} (h : slR k n b d m) : k = -1 ↔ b < 0 := by
  rcases h.2 with ⟨rfl, -, rfl, rfl⟩ | ⟨B, D, hB, hD, rfl, rfl, rfl, -⟩
  · exact ⟨fun _ => by decide, fun _ => rfl⟩
  · exact ⟨fun q => absurd q (pf hB hD).2.2.1, fun q => absurd q (pf2 hB).2.2.2.2⟩
theorem slR.emq {k n b d m : Int32} (h : slR k n b d m) : k = -1 ↔ b = -1 := by
  rcases h.2 with ⟨rfl, -, rfl, rfl⟩ | ⟨B, D, hB, hD, rfl, rfl, rfl, -⟩
  · exact ⟨fun _ => rfl, fun _ => rfl⟩
  · exact ⟨fun q => absurd q (pf hB hD).2.2.1, fun q => absurd q (pf2 hB).2.2.1⟩
theorem slR.emn {k n b d m : Int32} (h : slR k n b d m) : k = -1 ↔ ¬ 0 ≤ b := by
  rcases h.2 with ⟨rfl, -, rfl, rfl⟩ | ⟨B, D, hB, hD, rfl, rfl, rfl, -⟩
  · exact ⟨fun _ => by decide, fun _ => rfl⟩
  · exact ⟨fun q => absurd q (pf hB hD).2.2.1, fun q => absurd (pf2 hB).2.2.2.1 q⟩
theorem slR.nem {k n b d m : Int32} (h : slR k n b d m) : n = -1 ↔ m < 0 := by
  obtain ⟨rfl, h⟩ := h
  rcases h with ⟨-, rfl, -⟩ | ⟨B, D, hB, hD, -, -, -, rfl | ⟨E, hE, rfl⟩⟩
  · exact ⟨fun _ => by decide, fun _ => rfl⟩
  · exact ⟨fun _ => by decide, fun _ => rfl⟩
  · exact ⟨fun q => absurd q (pf hB hE).2.2.1, fun q => absurd (pf hB hE).2.2.2.1 (Int32.not_le.mpr q)⟩
theorem slR.blk {k n b d m : Int32} (h : slR k n b d m) (hk : ¬ k = -1) : fc_blk k = b ∧ ∃ B, B < 64 ∧ b = nI B := by
  rcases h.2 with ⟨rfl, -⟩ | ⟨B, D, hB, hD, rfl, rfl, rfl, -⟩
  · exact absurd rfl hk
  · exact ⟨(pf hB hD).1, B, hB, rfl⟩
theorem slR.fnd {k n b d m : Int32} {B0 : Nat} (h : slR k n b d m) (h0 : B0 < 64) : (¬ k = -1 ∧ fc_blk k = nI B0) ↔ b = nI B0 := by
  rcases h.2 with ⟨rfl, -, rfl, rfl⟩ | ⟨B, D, hB, hD, rfl, rfl, rfl, -⟩
  · exact ⟨fun q => absurd rfl q.1, fun q => absurd q.symm (pf2 h0).2.2.1⟩
  · rw [(pf hB hD).1]
    exact ⟨fun q => q.2, fun q => ⟨(pf hB hD).2.2.1, q⟩⟩
theorem slR.note {k n b d m : Int32} (h : slR k n b d m) : slR k k b d (fm_so b d) := by
  refine ⟨h.so, ?_⟩
  rcases h.2 with ⟨rfl, -, rfl, rfl⟩ | ⟨B, D, hB, hD, rfl, rfl, rfl, -⟩
  · exact Or.inl ⟨rfl, rfl, rfl, rfl⟩
  · exact Or.inr ⟨B, D, hB, hD, rfl, rfl, rfl, Or.inr ⟨D, hD, rfl⟩⟩
theorem slR.cln {k n b d m : Int32} (h : slR k n b d m) (hk : ¬ k = -1) : slR (2 * fc_blk k) n b (vp_nar .boolean 0) m := by
  refine ⟨h.1, ?_⟩
  rcases h.2 with ⟨rfl, -⟩ | ⟨B, D, hB, hD, rfl, rfl, rfl, h9⟩
  · exact absurd rfl hk
  · exact Or.inr ⟨B, 0, hB, by omega, by rw [(pf hB hD).1]; exact (pf2 hB).1, rfl, by rw [pf_tb3.1, pf_tb3.2.2.1], h9⟩
theorem slR.mty {k n b d m : Int32} (h : slR k n b d m) (hn : n = -1) : slR (-1) n (-1) (vp_nar .boolean 0) m :=
  ⟨h.1, Or.inl ⟨rfl, hn, rfl, pf_tb3.1⟩⟩
theorem slR_e : slR (-1) (-1) (-1) (vp_nar .boolean 0) (fm_so (-1) (vp_nar .boolean 0)) := by
  rw [pf_tb3.1]
  exact ⟨pf_tb3.2.2.2.2.2.1, Or.inl ⟨rfl, rfl, rfl, rfl⟩⟩
theorem slR.stp {k n b d m : Int32} (h : slR k n b d m) : slR n n (if 0 ≤ m then m / 2 else -1) (vp_nar .boolean (fm_ind m)) m := by
  obtain ⟨rfl, h⟩ := h
  refine ⟨rfl, ?_⟩
  rcases h with ⟨-, rfl, -⟩ | ⟨B, D, hB, hD, -, -, -, rfl | ⟨E, hE, rfl⟩⟩
  · exact Or.inl ⟨rfl, rfl, rfl, by rw [pf_tb3.2.2.2.2.2.2]; exact pf_tb3.1⟩
  · exact Or.inl ⟨rfl, rfl, rfl, by rw [pf_tb3.2.2.2.2.2.2]; exact pf_tb3.1⟩
  · refine Or.inr ⟨B, E, hB, hE, rfl, ?_, ?_, Or.inr ⟨E, hE, rfl⟩⟩
    · rw [if_pos (pf hB hE).2.2.2.1]; exact (pf hB hE).2.2.2.2.1
    · rw [(pf hB hE).2.2.2.2.2.1]
      rcases d01 hE with rfl | rfl
      · rw [pf_tb3.2.2.1]; exact pf_tb3.1
      · rw [pf_tb3.2.2.2.1]; exact pf_tb3.2.1
/-- both sides hold the same: all but the order -/
def rA (n : Nat) (u : StC) (v : StM) : Prop :=
  (∀ b, b < 64 → cs_o u b = ms_o v b) ∧ (∀ s, s < n → cs_v u s = ms_v v s) ∧ (∀ s, s < n → slR (cs_k u s) (cs_n u s) (ms_b v s) (ms_d v s) (ms_n v s)) ∧
  (∀ s t, s < n → t < n → ms_b v s = ms_b v t → ¬ ms_b v s = -1 → s = t) ∧ cs_m u = ms_m v ∧ (cs_m u = 0 ∨ cs_m u = 1 ∨ cs_m u = 2) ∧ cs_h u = ms_h v ∧ cs_i u = ms_i v ∧ cs_j u = ms_j v ∧ cs_w u = ms_w v ∧ cs_t u = ms_t v
theorem rA.ok {n : Nat} {u : StC} {v : StM} (h : rA n u v) : okK n (cs_k u) := fun k hk => (h.2.2.1 k hk).ok
theorem rA.setc {n : Nat} {u : StC} {v : StM} (h : rA n u v) (x : Int32) : rA n u (fm_setc v x) := h
theorem rA.hit {n : Nat} {u : StC} {v : StM} (h : rA n u v) : rA n (fc_hit u) (fm_hit v) := by
  obtain ⟨h1, h2, h3, h4, h5, h6, h7, h8, h9, h10, h11⟩ := h
  exact ⟨h1, h2, h3, h4, h5, h6, h7, congrArg (· + 1) h8, h9, h10, h11⟩
theorem rA.mis {n : Nat} {u : StC} {v : StM} (h : rA n u v) : rA n (fc_mis u) (fm_mis v) := by
  obtain ⟨h1, h2, h3, h4, h5, h6, h7, h8, h9, h10, h11⟩ := h
  exact ⟨h1, h2, h3, h4, h5, h6, h7, h8, congrArg (· + 1) h9, h10, h11⟩
theorem rA.use {n : Nat} {u : StC} {v : StM} (h : rA n u v) (s : Nat) : rA n (fc_use u s) (fm_use v s) := h
theorem rA.note {n s : Nat} {u : StC} {v : StM} (h : rA n u v) : rA n (fc_note u s) (fm_note v s) := by
  obtain ⟨h1, h2, h3, h4, h5, h6, h7, h8, h9, h10, h11⟩ := h
  refine ⟨h1, h2, fun t ht => ?_, h4, h5, h6, h7, h8, h9, h10, congrArg (· + 1) h11⟩
  show slR (cs_k u t) (upd (cs_n u) s (cs_k u s) t) (ms_b v t) (ms_d v t) (upd (ms_n v) s (fm_so (ms_b v s) (ms_d v s)) t)
  by_cases e : t = s
  · subst e; rw [zq_at, zq_at]; exact (h3 t ht).note
  · rw [zq_ne _ _ e, zq_ne _ _ e]; exact h3 t ht
theorem rA.give {n b : Nat} {u : StC} {v : StM} (h : rA n u v) (x : Int64) : rA n (fc_give u b x) (fm_give v b x) := by
  obtain ⟨h1, h2, h3, h4, h5, h6, h7, h8, h9, h10, h11⟩ := h
  refine ⟨fun t ht => ?_, h2, h3, h4, h5, h6, h7, h8, h9, congrArg (· + 1) h10, h11⟩
  show vp_updL (cs_o u) b x t = vp_updL (ms_o v) b x t
  by_cases e : t = b
  · subst e; rw [zl_at, zl_at]
  · rw [zl_ne _ _ e, zl_ne _ _ e]; exact h1 t ht
theorem rA.setv {n s : Nat} {u : StC} {v : StM} (h : rA n u v) (x : Int64) : rA n (fc_setv u s x) (fm_setv v s x) := by
  obtain ⟨h1, h2, h3, h4, h5, h6, h7, h8, h9, h10, h11⟩ := h
  refine ⟨h1, fun t ht => ?_, h3, h4, h5, h6, h7, h8, h9, h10, h11⟩
  show vp_updL (cs_v u) s x t = vp_updL (ms_v v) s x t
  by_cases e : t = s
  · subst e; rw [zl_at, zl_at]
  · rw [zl_ne _ _ e, zl_ne _ _ e]; exact h2 t ht
/-- the contents of one slot change on both sides -/
theorem rA.slot {n s : Nat} {u : StC} {v : StM} {k b d : Int32} (h : rA n u v) (hn : s < n → slR k (cs_n u s) b (vp_nar .boolean d) (ms_n v s)) (hb : s < n → b = ms_b v s ∨ b = -1 ∨ ∀ t, t < n → ¬ t = s → ¬ ms_b v t = b) :
    rA n (fc_setk u s k) (fm_setd (fm_setb v s b) s d) := by
  obtain ⟨h1, h2, h3, h4, h5, h6, h7, h8, h9, h10, h11⟩ := h
  refine ⟨h1, h2, fun t ht => ?_, ?_, h5, h6, h7, h8, h9, h10, h11⟩
  · show slR (upd (cs_k u) s k t) (cs_n u t) (upd (ms_b v) s b t) (upd (ms_d v) s (vp_nar .boolean d) t) (ms_n v t)
    by_cases e : t = s
    · subst e; rw [zq_at, zq_at, zq_at]; exact hn ht
    · rw [zq_ne _ _ e, zq_ne _ _ e, zq_ne _ _ e]; exact h3 t ht
  · show ∀ x y, x < n → y < n → upd (ms_b v) s b x = upd (ms_b v) s b y → ¬ upd (ms_b v) s b x = -1 → x = y
    intro x y hx hy
    by_cases ex : x = s
    · by_cases ey : y = s
      · intro _ _; omega
      · subst ex
        rw [zq_at, zq_ne _ _ ey]
        intro q1 q2
        rcases hb hx with e1 | e1 | e1
        · exact h4 x y hx hy (e1.symm.trans q1) (fun z => q2 (e1.trans z))
        · exact absurd e1 q2
        · exact absurd q1.symm (e1 y hy ey)
    · by_cases ey : y = s
      · subst ey
        rw [zq_at, zq_ne _ _ ex]
        intro q1 q2
        rcases hb hy with e1 | e1 | e1
        · exact h4 x y hx hy (q1.trans e1) q2
        · exact absurd (q1.trans e1) q2
        · exact absurd q1 (e1 x hx ex)
      · rw [zq_ne _ _ ex, zq_ne _ _ ey]
        exact h4 x y hx hy
theorem upd_self (f : Nat → Int32) (s : Nat) : upd f s (f s) = f := by
  funext t
  by_cases e : t = s
  · subst e; rw [zq_at]
  · rw [zq_ne _ _ e]
theorem fm_setb_self (v : StM) (s : Nat) : fm_setb v s (ms_b v s) = v := by
  unfold fm_setb
  rw [upd_self]
/-- dirty alone changes on the reference's side -/
theorem rA.slotd {n s : Nat} {u : StC} {v : StM} {k d : Int32} (h : rA n u v) (hn : s < n → slR k (cs_n u s) (ms_b v s) (vp_nar .boolean d) (ms_n v s)) : rA n (fc_setk u s k) (fm_setd v s d) := by
  have := h.slot (s := s) (k := k) (b := ms_b v s) (d := d) hn (fun _ => Or.inl rfl)
  rw [fm_setb_self] at this
  exact this
theorem rA.clean {n s : Nat} {u : StC} {v : StM} (h : rA n u v) (hs : s < n) (hk : ¬ cs_k u s = -1) : rA n (fc_clean u s) (fm_clean v s) := by
  have h3 := h.2.2.1 s hs
  have h0 : rA n (fc_setk u s (2 * fc_blk (cs_k u s))) (fm_setd v s 0) := h.slotd fun _ => h3.cln hk
  unfold fc_clean fm_clean
  rw [← h3.ind]
  split
  · exact h0
  · exact h0.note
theorem rA.empty {n s : Nat} {u : StC} {v : StM} (h : rA n u v) (hs : s < n) : rA n (fc_empty u s) (fm_empty v s) := by
  have h3 := h.2.2.1 s hs
  unfold fc_empty fm_empty
  by_cases e : cs_n u s = -1
  · rw [if_pos e, if_pos (h3.nem.mp e)]
    exact h.slot (fun _ => h3.mty e) (fun _ => Or.inr (Or.inl rfl))
  · rw [if_neg e, if_neg (fun q => e (h3.nem.mpr q))]
    obtain ⟨h1, h2, h3, h4, h5, h6, h7, h8, h9, h10, h11⟩ := h
    refine ⟨h1, h2, fun t ht => ?_, ?_, h5, h6, h7, h8, h9, h10, congrArg (· + 1) h11⟩
    · show slR (upd (cs_k u) s (-1) t) (upd (cs_n u) s (upd (cs_k u) s (-1) s) t) (upd (ms_b v) s (-1) t) (upd (ms_d v) s (vp_nar .boolean 0) t) (upd (ms_n v) s (fm_so (upd (ms_b v) s (-1) s) (upd (ms_d v) s (vp_nar .boolean 0) s)) t)
      by_cases e : t = s
      · subst e; simp only [zq_at]; exact slR_e
      · simp only [zq_ne _ _ e]; exact h3 t ht
    · show ∀ x y, x < n → y < n → upd (ms_b v) s (-1) x = upd (ms_b v) s (-1) y → ¬ upd (ms_b v) s (-1) x = -1 → x = y
      intro x y hx hy
      by_cases ex : x = s
      · subst ex; rw [zq_at]; intro _ q; exact absurd rfl q
      · rw [zq_ne _ _ ex]
        by_cases ey : y = s
        · subst ey; rw [zq_at]; intro q1 q2; exact absurd q1 q2
        · rw [zq_ne _ _ ey]; exact h4 x y hx hy
def fm_wbd (v : StM) (s : Nat) : StM := if ms_d v s = 0 then v else fm_wb v s
theorem rA.wbd {n s : Nat} {u : StC} {v : StM} (h : rA n u v) (hs : s < n) : (fc_wbd u s).1 = (if ms_d v s = 0 then 0 else 1) ∧ rA n (fc_wbd u s).2 (fm_wbd v s) := by
  have h3 := h.2.2.1 s hs
  unfold fc_wbd fm_wbd
  rw [h3.isd]
  by_cases e : ms_d v s = 0
  · rw [if_pos e, if_pos e, if_pos e]; exact ⟨rfl, h⟩
  · rw [if_neg e, if_neg e, if_neg e]
    refine ⟨rfl, ?_⟩
    have hk : ¬ cs_k u s = -1 := fun q => by
      rcases h3.2 with ⟨-, -, -, q4⟩ | ⟨B, D, hB, hD, q1, -⟩
      · exact e q4
      · exact (pf hB hD).2.2.1 (q1.symm.trans q)
    show rA n (fc_clean (fc_give u (fc_blk (cs_k u s)).toNatClampNeg (cs_v u s)) s) (fm_clean (fm_give v (ms_b v s).toNatClampNeg (ms_v v s)) s)
    rw [(h3.blk hk).1, h.2.1 s hs]
    exact (h.give _).clean hs hk
theorem fm_find_none (f : Nat → Int32) (b : Nat) : ∀ r k a, (∀ i, k ≤ i → i < k + r → ¬ f i = nI b) → fm_find f b r k a = a := by
  intro r
  induction r with
  | zero => intro k a _; rfl
  | succ r ih =>
    intro k a h
    rw [fm_find, if_neg (h k (Nat.le_refl _) (by omega))]
    exact ih _ _ (fun i h1 h2 => h i (by omega) (by omega))
theorem fm_find_some (f : Nat → Int32) (b j : Nat) (hj : f j = nI b) : ∀ r k a, (∀ i, k ≤ i → i < k + r → f i = nI b → i = j) → k ≤ j → j < k + r → fm_find f b r k a = some j := by
  intro r
  induction r with
  | zero => intro k a _ _ _; omega
  | succ r ih =>
    intro k a h h1 h2
    rw [fm_find]
    by_cases e : k = j
    · subst e
      rw [if_pos hj]
      exact fm_find_none _ _ _ _ _ (fun i q1 q2 q3 => by have := h i (by omega) (by omega) q3; omega)
    · rw [if_neg (fun q => e (h k (Nat.le_refl _) (by omega) q))]
      exact ih _ _ (fun i q1 q2 => h i (by omega) (by omega)) (by omega) (by omega)
theorem rA.find {n b : Nat} {u : StC} {v : StM} (h : rA n u v) (hb : b < 64) : fm_find (ms_b v) b n 0 none = fc_find (cs_k u) b n 0 := by
  rcases hf : fc_find (cs_k u) b n 0 with _ | j
  · refine fm_find_none _ _ _ _ _ fun i _ h2 q => ?_
    have := (h.2.2.1 i (by omega)).fnd hb |>.mpr q
    rcases fc_find_no _ _ _ _ hf i (Nat.zero_le _) h2 with q1 | q1
    · exact this.1 q1
    · exact q1 this.2
  · obtain ⟨-, h2, h3, h4⟩ := fc_find_sp _ _ _ _ _ hf
    have hj : ms_b v j = nI b := ((h.2.2.1 j (by omega)).fnd hb).mp ⟨h3, h4⟩
    refine fm_find_some _ _ _ hj _ _ _ (fun i _ q2 q3 => ?_) (Nat.zero_le _) h2
    exact h.2.2.2.1 i j (by omega) (by omega) (q3.trans hj.symm) (fun q => (pf2 hb).2.2.1 (q3.symm.trans q))
theorem rA.fnd {n b j : Nat} {u : StC} {v : StM} (h : rA n u v) (hb : b < 64) (hf : fc_find (cs_k u) b n 0 = some j) : j < n ∧ ¬ cs_k u j = -1 ∧ ms_b v j = nI b ∧ fc_blk (cs_k u j) = nI b := by
  obtain ⟨-, h2, h3, h4⟩ := fc_find_sp _ _ _ _ _ hf
  exact ⟨by omega, h3, ((h.2.2.1 j (by omega)).fnd hb).mp ⟨h3, h4⟩, h4⟩
theorem rA.fno {n b : Nat} {u : StC} {v : StM} (h : rA n u v) (hb : b < 64) (hf : fc_find (cs_k u) b n 0 = none) : ∀ t, t < n → ¬ ms_b v t = nI b := fun t ht q => by
  have := (h.2.2.1 t ht).fnd hb |>.mpr q
  rcases fc_find_no _ _ _ _ hf t (Nat.zero_le _) (by omega) with q1 | q1
  · exact this.1 q1
  · exact q1 this.2
def rO (n x : Nat) (u : StC) (v : StM) : Prop :=
  (∀ s t, s < n → t < n → ¬ s = x → ¬ t = x → ¬ cs_k u s = -1 → ¬ cs_k u t = -1 → (cs_l u s < cs_l u t ↔ ms_l v s < ms_l v t)) ∧ (∀ s, s < n → (cs_l u s).toInt ≤ (cs_u u).toInt) ∧ (∀ s, s < n → (ms_l v s).toInt ≤ (ms_u v).toInt)
def rB (K : Nat) (u : StC) (v : StM) : Prop := 0 ≤ (cs_u u).toInt ∧ (cs_u u).toInt ≤ K ∧ 0 ≤ (ms_u v).toInt ∧ (ms_u v).toInt ≤ 13 * K
theorem p_one : (1 : Int32).toInt = 1 ∧ (1 : Int64).toInt = 1 := by decide
theorem add1_32 {x : Int32} (h0 : 0 ≤ x.toInt) (h : x.toInt ≤ 100000) : (x + 1).toInt = x.toInt + 1 := by
  rw [Jvm.Kit.i32_add (by rw [p_one.1]; omega) (by rw [p_one.1]; omega), p_one.1]
theorem add1_64 {x : Int64} (h0 : 0 ≤ x.toInt) (h : x.toInt ≤ 100000) : (x + 1).toInt = x.toInt + 1 := by
  rw [Jvm.Kit.i64_add (by rw [p_one.2]; omega) (by rw [p_one.2]; omega), p_one.2]
theorem rO.use {n s K : Nat} {u : StC} {v : StM} (h : rO n s u v) (hB : rB K u v) (hK : K < 5000) : rO n n (fc_use u s) (fm_use v s) ∧ rB (K + 1) (fc_use u s) (fm_use v s) := by
  obtain ⟨h1, h2, h3⟩ := h
  obtain ⟨b1, b2, b3, b4⟩ := hB
  have e1 : (cs_u u + 1).toInt = (cs_u u).toInt + 1 := add1_32 b1 (by omega)
  have e2 : (ms_u v + 1).toInt = (ms_u v).toInt + 1 := add1_64 b3 (by omega)
  refine ⟨⟨?_, ?_, ?_⟩, ?_⟩
  · show ∀ x t, x < n → t < n → ¬ x = n → ¬ t = n → ¬ cs_k u x = -1 → ¬ cs_k u t = -1 → (upd (cs_l u) s (cs_u u + 1) x < upd (cs_l u) s (cs_u u + 1) t ↔ vp_updL (ms_l v) s (ms_u v + 1) x < vp_updL (ms_l v) s (ms_u v + 1) t)
    intro x t hx ht _ _ kx kt
    by_cases ex : x = s
    · by_cases et : t = s
      · subst ex; subst et
        exact ⟨fun q => absurd q Int32.lt_irrefl, fun q => absurd q Int64.lt_irrefl⟩
      · subst ex
        rw [zq_at, zl_at, zq_ne _ _ et, zl_ne _ _ et, Int32.lt_iff_toInt_lt, Int64.lt_iff_toInt_lt, e1, e2]
        have q1 := h2 t ht
        have q2 := h3 t ht
        constructor <;> intro <;> omega
    · by_cases et : t = s
      · subst et
        rw [zq_at, zl_at, zq_ne _ _ ex, zl_ne _ _ ex, Int32.lt_iff_toInt_lt, Int64.lt_iff_toInt_lt, e1, e2]
        have q1 := h2 x hx
        have q2 := h3 x hx
        constructor <;> intro <;> omega
      · rw [zq_ne _ _ ex, zq_ne _ _ et, zl_ne _ _ ex, zl_ne _ _ et]
        exact h1 x t hx ht ex et kx kt
  · show ∀ x, x < n → (upd (cs_l u) s (cs_u u + 1) x).toInt ≤ (cs_u u + 1).toInt
    intro x hx
    by_cases ex : x = s
    · subst ex; rw [zq_at]; exact Int.le_refl _
    · rw [zq_ne _ _ ex, e1]; have := h2 x hx; omega
  · show ∀ x, x < n → (vp_updL (ms_l v) s (ms_u v + 1) x).toInt ≤ (ms_u v + 1).toInt
    intro x hx
    by_cases ex : x = s
    · subst ex; rw [zl_at]; exact Int.le_refl _
    · rw [zl_ne _ _ ex, e2]; have := h3 x hx; omega
  · show 0 ≤ (cs_u u + 1).toInt ∧ (cs_u u + 1).toInt ≤ ((K + 1 : Nat) : Int) ∧ 0 ≤ (ms_u v + 1).toInt ∧ (ms_u v + 1).toInt ≤ 13 * ((K + 1 : Nat) : Int)
    rw [e1, e2]
    omega
/-- the order's words look at contents (empty or not), last uses and the clocks alone -/
theorem rO.to {n x y : Nat} {u u' : StC} {v v' : StM} (h : rO n x u v) (hl : cs_l u' = cs_l u) (hu : cs_u u' = cs_u u) (hl' : ms_l v' = ms_l v) (hu' : ms_u v' = ms_u v) (hk : ∀ s, s < n → ¬ s = y → ¬ cs_k u' s = -1 → ¬ s = x ∧ ¬ cs_k u s = -1) : rO n y u' v' := by
  obtain ⟨h1, h2, h3⟩ := h
  refine ⟨fun s t hs ht ys yt ks kt => ?_, fun s hs => ?_, fun s hs => ?_⟩
  · rw [hl, hl']
    exact h1 s t hs ht (hk s hs ys ks).1 (hk t ht yt kt).1 (hk s hs ys ks).2 (hk t ht yt kt).2
  · rw [hl, hu]; exact h2 s hs
  · rw [hl', hu']; exact h3 s hs
theorem rB.to {K : Nat} {u u' : StC} {v v' : StM} (h : rB K u v) (hu : cs_u u' = cs_u u) (hu' : ms_u v' = ms_u v) : rB K u' v' := by
  obtain ⟨h1, h2, h3, h4⟩ := h
  exact ⟨by rw [hu]; exact h1, by rw [hu]; exact h2, by rw [hu']; exact h3, by rw [hu']; exact h4⟩
theorem rB.up {K L : Nat} {u : StC} {v : StM} (h : rB K u v) (hl : K ≤ L) : rB L u v := ⟨h.1, by have := h.2.1; omega, h.2.2.1, by have := h.2.2.2; omega⟩
/-- what a method leaves: last uses and clock -/
def keC (u u' : StC) : Prop := cs_l u' = cs_l u ∧ cs_u u' = cs_u u
def keM (v v' : StM) : Prop := ms_l v' = ms_l v ∧ ms_u v' = ms_u v
theorem ke_clean (u : StC) (s : Nat) : keC u (fc_clean u s) := by unfold fc_clean; split <;> exact ⟨rfl, rfl⟩
theorem ke_empty (u : StC) (s : Nat) : keC u (fc_empty u s) := by unfold fc_empty; split <;> exact ⟨rfl, rfl⟩
theorem keC.trans {a b c : StC} (h : keC a b) (g : keC b c) : keC a c := ⟨g.1.trans h.1, g.2.trans h.2⟩
theorem keM.trans {a b c : StM} (h : keM a b) (g : keM b c) : keM a c := ⟨g.1.trans h.1, g.2.trans h.2⟩
theorem ke_wbd (u : StC) (s : Nat) : keC u (fc_wbd u s).2 := by
  unfold fc_wbd
  split
  · exact ⟨rfl, rfl⟩
  · exact (show keC u (fc_give u _ _) from ⟨rfl, rfl⟩).trans (ke_clean _ _)
theorem kem_clean (v : StM) (s : Nat) : keM v (fm_clean v s) := by unfold fm_clean; split <;> exact ⟨rfl, rfl⟩
theorem kem_empty (v : StM) (s : Nat) : keM v (fm_empty v s) := by unfold fm_empty; split <;> exact ⟨rfl, rfl⟩
theorem kem_wb (v : StM) (s : Nat) : keM v (fm_wb v s) := (show keM v (fm_give v _ _) from ⟨rfl, rfl⟩).trans (kem_clean _ _)
theorem kem_wbd (v : StM) (s : Nat) : keM v (fm_wbd v s) := by
  unfold fm_wbd
  split
  · exact ⟨rfl, rfl⟩
  · exact kem_wb _ _
def fc_lru (g : Nat → Int32) : Nat → Nat → Nat → Nat
  | 0, _, lo => lo
  | r + 1, k, lo => if g lo ≤ g k then fc_lru g r (k + 1) lo else fc_lru g r (k + 1) k
theorem lru_eq {g : Nat → Int32} {g' : Nat → Int64} {n : Nat} (h : ∀ s t, s < n → t < n → (g s < g t ↔ g' s < g' t)) : ∀ r k lo, r + k = n → lo < n → fc_lru g r k lo = fm_lru g' r k lo := by
  intro r
  induction r with
  | zero => intro k lo _ _; rfl
  | succ r ih =>
    intro k lo h1 h2
    rw [fc_lru, fm_lru]
    have e := h k lo (by omega) h2
    by_cases q : g lo ≤ g k
    · rw [if_pos q, if_pos ((lg_cmp_ge _ _).mpr (Int64.not_lt.mp fun z => Int32.not_lt.mpr q (e.mpr z)))]
      exact ih _ _ (by omega) h2
    · rw [if_neg q, if_neg (fun z => absurd (e.mp (Int32.not_le.mp q)) (Int64.not_lt.mpr ((lg_cmp_ge _ _).mp z)))]
      exact ih _ _ (by omega) (by omega)
theorem fc_room_emp (n e : Nat) (u : StC) (he : cs_k u e = -1) (hf : ∀ i, i < e → ¬ cs_k u i = -1) (hen : e < n) : ∀ r k lo, r + k = n → k ≤ e → fc_room r k lo u = (e, u) := by
  intro r
  induction r with
  | zero => intro k lo h1 h2; omega
  | succ r ih =>
    intro k lo h1 h2
    rw [fc_room]
    by_cases q : k = e
    · subst q; rw [if_pos he]
    · rw [if_neg (hf k (by omega))]
      split
      · exact ih _ _ (by omega) (by omega)
      · exact ih _ _ (by omega) (by omega)
theorem fc_room_ful (n : Nat) (u : StC) (hf : ∀ i, i < n → ¬ cs_k u i = -1) : ∀ r k lo, r + k = n → fc_room r k lo u = (fc_lru (cs_l u) r k lo, fc_empty (fc_wbd u (fc_lru (cs_l u) r k lo)).2 (fc_lru (cs_l u) r k lo)) := by
  intro r
  induction r with
  | zero => intro k lo h1; rfl
  | succ r ih =>
    intro k lo h1
    rw [fc_room, if_neg (hf k (by omega)), fc_lru]
    split
    · exact ih _ _ (by omega)
    · exact ih _ _ (by omega)
theorem fm_emp_no (f : Nat → Int32) : ∀ m a, (∀ i, i < m → 0 ≤ f i) → fm_emp f m a = a := by
  intro m
  induction m with
  | zero => intro a _; rfl
  | succ m ih =>
    intro a h
    rw [fm_emp, if_pos (h m (by omega))]
    exact ih _ (fun i hi => h i (by omega))
theorem fm_emp_so (f : Nat → Int32) (e : Nat) (he : ¬ 0 ≤ f e) (hf : ∀ i, i < e → 0 ≤ f i) : ∀ m a, e < m → fm_emp f m a = some e := by
  intro m
  induction m with
  | zero => intro a h; omega
  | succ m ih =>
    intro a h
    rw [fm_emp]
    by_cases q : m = e
    · subst q; rw [if_neg he]; exact fm_emp_no _ _ _ hf
    · split
      · exact ih _ (by omega)
      · exact ih _ (by omega)
theorem first_emp (f : Nat → Int32) : ∀ n, (∀ i, i < n → ¬ f i = -1) ∨ ∃ e, e < n ∧ f e = -1 ∧ ∀ i, i < e → ¬ f i = -1 := by
  intro n
  induction n with
  | zero => exact Or.inl fun i h => by omega
  | succ n ih =>
    rcases ih with h | ⟨e, h1, h2, h3⟩
    · by_cases q : f n = -1
      · exact Or.inr ⟨n, by omega, q, h⟩
      · refine Or.inl fun i hi => ?_
        by_cases z : i = n
        · subst z; exact q
        · exact h i (by omega)
    · exact Or.inr ⟨e, by omega, h2, h3⟩
/-- finding room, both sides: the same slot, empty then; no other slot's contents change; what is found nowhere stays so -/
theorem room_sim {n : Nat} {u : StC} {v : StM} (hn : 0 < n) (h : rA n u v) (hO : rO n n u v) : ∃ (e : Nat) (u' : StC) (v' : StM), fc_room n 0 0 u = (e, u') ∧ fm_room n v = (e, v') ∧ e < n ∧ rA n u' v' ∧ cs_k u' e = -1 ∧ keC u u' ∧ keM v v' ∧ (∀ t, t < n → ¬ t = e → ¬ cs_k u' t = -1 → ¬ cs_k u t = -1) ∧ (∀ t x, t < n → ¬ x = -1 → ¬ ms_b v t = x → ¬ ms_b v' t = x) := by
  have hs := h.2.2.1
  rcases first_emp (cs_k u) n with hf | ⟨e, he, h1, h2⟩
  · have hlru : fc_lru (cs_l u) n 0 0 = fm_lru (ms_l v) (n - 1) 1 0 := by
      obtain ⟨m, rfl⟩ : ∃ m, n = m + 1 := ⟨n - 1, by omega⟩
      rw [fc_lru, if_pos (Int32.le_refl _)]
      exact lru_eq (n := m + 1) (fun s t h1 h2 => hO.1 s t h1 h2 (by omega) (by omega) (hf s h1) (hf t h2)) m 1 0 (by omega) (by omega)
    have hlt : fm_lru (ms_l v) (n - 1) 1 0 < n := fm_lru_lt _ n _ _ _ (by omega) hn
    have hemp : fm_emp (ms_b v) n none = none := fm_emp_no _ _ _ fun i hi => Classical.byContradiction fun q => hf i hi ((hs i hi).emn.mpr q)
    refine ⟨fm_lru (ms_l v) (n - 1) 1 0, _, _, (fc_room_ful n u hf n 0 0 rfl).trans (by rw [hlru]), by unfold fm_room; rw [hemp], hlt, ?_, ?_, ?_, ?_, ?_, ?_⟩
    · have hw := (h.wbd hlt).2
      have := hw.empty hlt
      unfold fm_wbd at this
      unfold fm_drop
      split <;> rename_i q
      · rw [if_pos q] at this; exact this
      · rw [if_neg q] at this; exact this
    · rw [ck_empty]; exact zq_at _ _ _
    · exact (ke_wbd _ _).trans (ke_empty _ _)
    · unfold fm_drop
      split
      · exact kem_empty _ _
      · exact (kem_wb _ _).trans (kem_empty _ _)
    · intro t ht _ _
      exact hf t ht
    · intro t x ht hx hq
      have key : ∀ (v' : StM) (e : Nat), (∀ t, ms_b v' t = ms_b v t) → ¬ ms_b (fm_empty v' e) t = x := by
        intro v' e hv'
        have : ms_b (fm_empty v' e) = upd (ms_b v') e (-1) := by unfold fm_empty; split <;> rfl
        rw [this]
        by_cases z : t = e
        · subst z; rw [zq_at]; exact fun z => hx z.symm
        · rw [zq_ne _ _ z, hv']; exact hq
      unfold fm_drop
      split
      · exact key _ _ (fun _ => rfl)
      · exact key _ _ (fun t => by unfold fm_wb fm_clean; split <;> rfl)
  · refine ⟨e, u, v, fc_room_emp n e u h1 h2 he n 0 0 rfl (Nat.zero_le _), ?_, he, h, h1, ⟨rfl, rfl⟩, ⟨rfl, rfl⟩, fun _ _ _ q => q, fun _ _ _ _ q => q⟩
    have hemp : fm_emp (ms_b v) n none = some e := fm_emp_so _ e ((hs e he).emn.mp h1) (fun i hi => Classical.byContradiction fun q => h2 i hi ((hs i (by omega)).emn.mpr q)) n none he
    unfold fm_room
    rw [hemp]
/-- the whole relation -/
def rR (n K : Nat) (u : StC) (v : StM) : Prop := rA n u v ∧ rO n n u v ∧ rB K u v
theorem rR.up {n K L : Nat} {u : StC} {v : StM} (h : rR n K u v) (hl : K ≤ L) : rR n L u v := ⟨h.1, h.2.1, h.2.2.up hl⟩
theorem rR.setc {n K : Nat} {u : StC} {v : StM} (h : rR n K u v) (x : Int32) : rR n K u (fm_setc v x) := h
theorem slR.fil {n m k b d : Int32} {B D : Nat} (h : slR k n b d m) (hk : k = -1) (hB : B < 64) (hD : D < 2) : slR (nI (2 * B + D)) n (nI B) (vp_nar .boolean (nI D)) m := by
  refine ⟨h.1, Or.inr ⟨B, D, hB, hD, rfl, rfl, ?_, Or.inl ?_⟩⟩
  · rcases d01 hD with rfl | rfl
    · rw [pf_tb3.2.2.1]; exact pf_tb3.1
    · rw [pf_tb3.2.2.2.1]; exact pf_tb3.2.1
  · rcases h.2 with ⟨-, q, -⟩ | ⟨B', D', hB', hD', q, -⟩
    · exact q
    · exact absurd (q.symm.trans hk) (pf hB' hD').2.2.1
theorem slR.ovr {n m k b d : Int32} {B D : Nat} (h : slR k n b d m) (hb : b = nI B) (hB : B < 64) (hD : D < 2) : slR (nI (2 * B + D)) n b (vp_nar .boolean (nI D)) m := by
  refine ⟨h.1, Or.inr ⟨B, D, hB, hD, rfl, hb, ?_, ?_⟩⟩
  · rcases d01 hD with rfl | rfl
    · rw [pf_tb3.2.2.1]; exact pf_tb3.1
    · rw [pf_tb3.2.2.2.1]; exact pf_tb3.2.1
  · rcases h.2 with ⟨-, q, -⟩ | ⟨B', D', hB', hD', -, q, -, q9⟩
    · exact Or.inl q
    · have e : B' = B := (nI_eq (by omega) (by omega)).mp (q.symm.trans hb)
      subst e
      exact q9
theorem fill0 (u : StC) (s b : Nat) (x : Int64) : fc_fill u s b x 0 = (0, u) := if_neg (by decide)
theorem fill1 (u : StC) (s b : Nat) (x : Int64) : fc_fill u s b x 1 = (1, fc_setv (fc_setk u s (2 * nI b + 1)) s x) := (if_pos (by decide)).trans (if_neg (by decide))
theorem fill2 (u : StC) (s b : Nat) (x : Int64) : fc_fill u s b x 2 = (2, fc_note (fc_setv (fc_setk u s (2 * nI b + 1)) s x) s) := (if_pos (by decide)).trans (if_pos (by decide))
theorem owd0 (u : StC) (s b : Nat) (x : Int64) : fc_owd u s b x 0 = (0, u) := if_neg (by decide)
theorem owd1 (u : StC) (s b : Nat) (x : Int64) : fc_owd u s b x 1 = (1, fc_setv (fc_setk u s (2 * nI b + 1)) s x) := if_pos (by decide)
theorem owd2 (u : StC) (s b : Nat) (x : Int64) : fc_owd u s b x 2 = (1, fc_setv (fc_setk u s (2 * nI b + 1)) s x) := if_pos (by decide)
theorem owc0 (u : StC) (s b : Nat) (x : Int64) : fc_owc u s b x 0 = (0, u) := if_neg (by decide)
theorem owc1 (u : StC) (s b : Nat) (x : Int64) : fc_owc u s b x 1 = (1, fc_note (fc_setk u s (2 * nI b + 1)) s) := (if_pos (by decide)).trans (if_neg (by decide))
theorem owc2 (u : StC) (s b : Nat) (x : Int64) : fc_owc u s b x 2 = (2, fc_setv (fc_note (fc_setk u s (2 * nI b + 1)) s) s x) := (if_pos (by decide)).trans (if_pos (by decide))
theorem stF0 (v : StM) (s b : Nat) (x : Int64) : fm_stF v s b x 0 = (0, v) := (if_pos (by decide)).trans (if_pos (by decide))
theorem stF1 (v : StM) (s b : Nat) (x : Int64) : fm_stF v s b x 1 = (0 + 1, fm_setd (fm_setv (fm_setb v s (nI b)) s x) s 1) := (if_neg (by decide)).trans (if_pos (by decide))
theorem stF2 (v : StM) (s b : Nat) (x : Int64) : fm_stF v s b x 2 = (0 + 1 + 1, fm_note (fm_setd (fm_setv (fm_setb v s (nI b)) s x) s 1) s) := (if_neg (by decide)).trans (if_neg (by decide))
theorem stW00 (v : StM) (s : Nat) (x : Int64) : fm_stW v s x 0 0 = (0, v) := if_pos (by decide)
theorem stW10 (v : StM) (s : Nat) (x : Int64) : fm_stW v s x 1 0 = (0 + 1, fm_setd (fm_setv v s x) s 1) := if_neg (by decide)
theorem stW20 (v : StM) (s : Nat) (x : Int64) : fm_stW v s x 2 0 = (0 + 1, fm_setd (fm_setv v s x) s 1) := if_neg (by decide)
theorem stW11 (v : StM) (s : Nat) (x : Int64) : fm_stW v s x 1 (0 + 1) = (0 + 1, v) := if_pos (by decide)
theorem stW21 (v : StM) (s : Nat) (x : Int64) : fm_stW v s x 2 (0 + 1) = (0 + 1 + 1, fm_setd (fm_setv v s x) s 1) := if_neg (by decide)
theorem fm_setd_self (v : StM) (s : Nat) (d : Int32) (h : ms_d v s = vp_nar .boolean d) : fm_setd v s d = v := by
  unfold fm_setd
  rw [← h, upd_self]
theorem n_one : nI 1 = 1 ∧ (0 : Int32) + 1 = 1 ∧ (0 : Int32) + 1 + 1 = 2 := by decide
theorem rA.fill {n s b : Nat} {u : StC} {v : StM} (h : rA n u v) (hs : s < n) (hk : cs_k u s = -1) (hb : b < 64) (hno : ∀ t, t < n → ¬ ms_b v t = nI b) (x : Int64) : rA n (fc_setv (fc_setk u s (2 * nI b + 1)) s x) (fm_setd (fm_setv (fm_setb v s (nI b)) s x) s 1) := by
  have h3 := h.2.2.1 s hs
  have := (h.slot (s := s) (k := nI (2 * b + 1)) (b := nI b) (d := 1) (fun _ => by have := h3.fil hk hb (D := 1) (by omega); rw [n_one.1] at this; exact this) (fun _ => Or.inr (Or.inr fun t ht _ => hno t ht))).setv (s := s) x
  rw [(pf2 hb).2.1]
  exact this
theorem rA.kept {n s b : Nat} {u : StC} {v : StM} (h : rA n u v) (hs : s < n) (hk : cs_k u s = -1) (hb : b < 64) (hno : ∀ t, t < n → ¬ ms_b v t = nI b) (x : Int64) : rA n (fc_setv (fc_setk u s (2 * nI b)) s x) (fm_setd (fm_setv (fm_setb v s (nI b)) s x) s 0) := by
  have h3 := h.2.2.1 s hs
  have := (h.slot (s := s) (k := nI (2 * b)) (b := nI b) (d := 0) (fun _ => by have := h3.fil hk hb (D := 0) (by omega); rw [pf_tb3.2.2.1] at this; exact this) (fun _ => Or.inr (Or.inr fun t ht _ => hno t ht))).setv (s := s) x
  rw [(pf2 hb).1]
  exact this
theorem rA.over {n s b : Nat} {u : StC} {v : StM} (h : rA n u v) (hs : s < n) (hb : b < 64) (hf : ms_b v s = nI b) : rA n (fc_setk u s (2 * nI b + 1)) (fm_setd v s 1) := by
  have h3 := h.2.2.1 s hs
  rw [(pf2 hb).2.1]
  exact h.slotd fun _ => by have := h3.ovr hf hb (D := 1) (by omega); rw [n_one.1] at this; exact this
theorem ord_k {n y : Nat} {u u' : StC} {v v' : StM} (hO : rO n n u v) (hc : keC u u') (hm : keM v v') (hk : ∀ t, t < n → ¬ t = y → ¬ cs_k u' t = -1 → ¬ cs_k u t = -1) : rO n y u' v' :=
  hO.to hc.1 hc.2 hm.1 hm.2 fun s hs hy q => ⟨by omega, hk s hs hy q⟩
theorem use_sim {n s K : Nat} {u u' : StC} {v v' : StM} (hA : rA n u' v') (hO : rO n n u v) (hB : rB K u v) (hK : K < 5000) (hc : keC u u') (hm : keM v v') (hk : ∀ t, t < n → ¬ t = s → ¬ cs_k u' t = -1 → ¬ cs_k u t = -1) : rR n (K + 1) (fc_use u' s) (fm_use v' s) := by
  have h1 := (ord_k (y := s) hO hc hm hk).use (hB.to hc.2 hm.2) hK
  exact ⟨hA.use s, h1.1, h1.2⟩
theorem setk_k {u : StC} {s : Nat} {x : Int32} : ∀ t, ¬ t = s → cs_k (fc_setk u s x) t = cs_k u t := fun t h => zq_ne _ _ h
theorem sim_read {n K b : Nat} {u : StC} {v : StM} (hn : 0 < n) (h : rR n K u v) (hK : K < 5000) (hb : b < 64) : (fm_readB n v b).1 = (fc_read n u b).1 ∧ rR n (K + 1) (fc_read n u b).2 (fm_readB n v b).2 := by
  obtain ⟨hA, hO, hB⟩ := h
  unfold fm_readB fc_read
  rw [hA.find hb]
  rcases hf : fc_find (cs_k u) b n 0 with _ | j
  · dsimp only
    rw [hA.2.2.2.2.1]
    by_cases q : ms_m v = 2
    · rw [if_pos q, if_pos q]
      exact ⟨(hA.1 b hb).symm, hA.mis, hO, hB.up (by omega)⟩
    · rw [if_neg q, if_neg q]
      obtain ⟨e, u', v', e1, e2, he, hA', hk', hc, hm, hk, hno⟩ := room_sim hn hA.mis (show rO n n (fc_mis u) (fm_mis v) from hO)
      rw [e1, e2]
      dsimp only
      have ho : ms_o v' b = cs_o u' b := (hA'.1 b hb).symm
      refine ⟨ho, ?_⟩
      have hA2 := hA'.kept he hk' hb (fun t ht => hno t (nI b) ht (pf2 hb).2.2.1 (hA.fno hb hf t ht)) (cs_o u' b)
      unfold fc_keep fm_keep
      rw [ho]
      refine use_sim hA2 hO hB hK hc hm fun t ht hte q => hk t ht hte ?_
      exact fun z => q ((setk_k t hte).trans z)
  · obtain ⟨hj, hkj, hbj, -⟩ := hA.fnd hb hf
    exact ⟨(hA.2.1 j hj).symm, use_sim hA.hit hO hB hK ⟨rfl, rfl⟩ ⟨rfl, rfl⟩ fun _ _ _ q => q⟩
theorem sim_steps {n K b : Nat} {u : StC} {v : StM} {x : Int64} {q : Int32} (hn : 0 < n) (h : rR n K u v) (hK : K < 5000) (hb : b < 64) (hq : q = 0 ∨ q = 1 ∨ q = 2) : (fm_steps n v b x q).1 = (fc_wis n u b x q).1 ∧ rR n (K + 1) (fc_wis n u b x q).2 (fm_steps n v b x q).2 := by
  obtain ⟨hA, hO, hB⟩ := h
  unfold fm_steps fc_wis
  rw [hA.find hb]
  rcases hf : fc_find (cs_k u) b n 0 with _ | j
  · dsimp only
    obtain ⟨e, u', v', e1, e2, he, hA', hk', hc, hm, hk, hno⟩ := room_sim hn hA hO
    rw [e1, e2]
    dsimp only
    have hA2 := hA'.fill he hk' hb (fun t ht => hno t (nI b) ht (pf2 hb).2.2.1 (hA.fno hb hf t ht)) x
    rcases hq with rfl | rfl | rfl
    · rw [fill0, stF0]
      exact ⟨rfl, use_sim hA' hO hB hK hc hm hk⟩
    · rw [fill1, stF1]
      exact ⟨n_one.2.1, use_sim hA2 hO hB hK hc hm fun t ht hte q => hk t ht hte fun z => q ((setk_k t hte).trans z)⟩
    · rw [fill2, stF2]
      exact ⟨n_one.2.2, use_sim hA2.note hO hB hK hc hm fun t ht hte q => hk t ht hte fun z => q ((setk_k t hte).trans z)⟩
  · obtain ⟨hj, hkj, hbj, -⟩ := hA.fnd hb hf
    dsimp only
    have hkk : ∀ (u1 : StC) (y : Int32), cs_k u1 = cs_k (fc_setk u j y) → ∀ t, t < n → ¬ t = j → ¬ cs_k u1 t = -1 → ¬ cs_k u t = -1 := fun u1 y e t ht hte q z => q (by rw [e]; exact (setk_k t hte).trans z)
    unfold fm_stO
    rw [(hA.2.2.1 j hj).1]
    by_cases e : cs_n u j = 2 * nI b + 1
    · rw [if_pos e, if_pos e]
      have hA2 := (hA.over hj hb hbj).setv (s := j) x
      rcases hq with rfl | rfl | rfl
      · rw [owd0, stW00]
        exact ⟨rfl, use_sim hA hO hB hK ⟨rfl, rfl⟩ ⟨rfl, rfl⟩ fun _ _ _ q => q⟩
      · rw [owd1, stW10]
        exact ⟨n_one.2.1, use_sim hA2 hO hB hK ⟨rfl, rfl⟩ ⟨rfl, rfl⟩ (hkk _ _ rfl)⟩
      · rw [owd2, stW20]
        exact ⟨n_one.2.1, use_sim hA2 hO hB hK ⟨rfl, rfl⟩ ⟨rfl, rfl⟩ (hkk _ _ rfl)⟩
    · rw [if_neg e, if_neg e]
      have hA2 := (hA.over hj hb hbj).note (s := j)
      have hA3 := hA2.setv (s := j) x
      rcases hq with rfl | rfl | rfl
      · rw [if_pos (by decide), owc0, stW00]
        exact ⟨rfl, use_sim hA hO hB hK ⟨rfl, rfl⟩ ⟨rfl, rfl⟩ fun _ _ _ q => q⟩
      · rw [if_neg (by decide), owc1, stW11]
        exact ⟨n_one.2.1, use_sim hA2 hO hB hK ⟨rfl, rfl⟩ ⟨rfl, rfl⟩ (hkk _ _ rfl)⟩
      · rw [if_neg (by decide), owc2, stW21, fm_setd_self _ _ _ (show upd (ms_d v) j (vp_nar .boolean 1) j = vp_nar .boolean 1 from zq_at _ _ _)]
        exact ⟨n_one.2.2, use_sim hA3 hO hB hK ⟨rfl, rfl⟩ ⟨rfl, rfl⟩ (hkk _ _ rfl)⟩
theorem sim_write {n K b : Nat} {u : StC} {v : StM} {x : Int64} (hn : 0 < n) (h : rR n K u v) (hK : K < 5000) (hb : b < 64) : rR n (K + 1) (fc_write n u b x) (fm_writeB n v b x) := by
  have hst := (sim_steps (x := x) hn h hK hb (Or.inr (Or.inr rfl))).2
  obtain ⟨hA, hO, hB⟩ := h
  unfold fm_writeB fc_write
  rw [hA.find hb, ← hA.2.2.2.2.1]
  rcases hA.2.2.2.2.2.1 with e | e | e
  · rw [e, if_neg (by decide), if_neg (by decide), if_pos rfl]
    exact hst
  · rw [e, if_pos rfl, if_neg (by decide)]
    unfold fc_thru
    rcases hf : fc_find (cs_k u) b n 0 with _ | j
    · exact ⟨hA.give _, hO, hB.up (by omega)⟩
    · obtain ⟨hj, hkj, hbj, -⟩ := hA.fnd hb hf
      dsimp only
      rw [if_pos rfl]
      refine use_sim (((hA.give (b := b) x).setv (s := j) x).clean hj hkj) hO hB hK ?_ ?_ ?_
      · exact (show keC u (fc_setv (fc_give u b x) j x) from ⟨rfl, rfl⟩).trans (ke_clean _ _)
      · exact (show keM v (fm_setv (fm_give v b x) j x) from ⟨rfl, rfl⟩).trans (kem_clean _ _)
      · intro t ht hte q z
        refine q ?_
        rw [ck_clean]
        exact (zq_ne _ _ hte).trans z
  · rw [e, if_neg (by decide), if_pos rfl, if_neg (by decide)]
    unfold fc_past
    rcases hf : fc_find (cs_k u) b n 0 with _ | j
    · exact ⟨hA.give _, hO, hB.up (by omega)⟩
    · obtain ⟨hj, hkj, hbj, -⟩ := hA.fnd hb hf
      dsimp only
      rw [if_neg (by decide)]
      refine ⟨(hA.give (b := b) x).empty hj, ord_k hO ((show keC u (fc_give u b x) from ⟨rfl, rfl⟩).trans (ke_empty _ _)) ((show keM v (fm_give v b x) from ⟨rfl, rfl⟩).trans (kem_empty _ _)) ?_, (hB.to (ke_empty (fc_give u b x) j).2 (kem_empty (fm_give v b x) j).2).up (by omega)⟩
      intro t ht _ q z
      refine q ?_
      rw [ck_empty]
      by_cases hte : t = j
      · subst hte; exact zq_at _ _ _
      · exact (zq_ne _ _ hte).trans z
theorem stopC : ∀ r k (u : StC), (∀ t, cs_k (fc_stopL r k u) t = if k ≤ t ∧ t < k + r then cs_n u t else cs_k u t) ∧ (∀ t, cs_l (fc_stopL r k u) t = if k ≤ t ∧ t < k + r then -(nI t) else cs_l u t) ∧ cs_o (fc_stopL r k u) = cs_o u ∧ cs_v (fc_stopL r k u) = cs_v u ∧ cs_n (fc_stopL r k u) = cs_n u ∧ cs_u (fc_stopL r k u) = cs_u u ∧ cs_m (fc_stopL r k u) = 0 ∧ cs_h (fc_stopL r k u) = 0 ∧ cs_i (fc_stopL r k u) = cs_i u ∧ cs_j (fc_stopL r k u) = cs_j u ∧ cs_w (fc_stopL r k u) = cs_w u ∧ cs_t (fc_stopL r k u) = cs_t u := by
  intro r
  induction r with
  | zero =>
    intro k u
    exact ⟨fun t => (if_neg (by omega)).symm, fun t => (if_neg (by omega)).symm, rfl, rfl, rfl, rfl, rfl, rfl, rfl, rfl, rfl, rfl⟩
  | succ r ih =>
    intro k u
    rw [fc_stopL]
    obtain ⟨h1, h2, h3, h4, h5, h6, h7, h8, h9, h10, h11, h12⟩ := ih (k + 1) (fc_stop1 u k)
    refine ⟨fun t => ?_, fun t => ?_, h3, h4, h5, h6, h7, h8, h9, h10, h11, h12⟩
    · rw [h1]
      show (if k + 1 ≤ t ∧ t < k + 1 + r then cs_n u t else upd (cs_k u) k (cs_n u k) t) = _
      by_cases e : t = k
      · subst e; rw [if_neg (by omega), if_pos (by omega), zq_at]
      · rw [zq_ne _ _ e]
        by_cases q : k + 1 ≤ t ∧ t < k + 1 + r
        · rw [if_pos q, if_pos (by omega)]
        · rw [if_neg q, if_neg (by omega)]
    · rw [h2]
      show (if k + 1 ≤ t ∧ t < k + 1 + r then -(nI t) else upd (cs_l u) k (-(nI k)) t) = _
      by_cases e : t = k
      · subst e; rw [if_neg (by omega), if_pos (by omega), zq_at]
      · rw [zq_ne _ _ e]
        by_cases q : k + 1 ≤ t ∧ t < k + 1 + r
        · rw [if_pos q, if_pos (by omega)]
        · rw [if_neg q, if_neg (by omega)]
theorem stopM (n : Nat) : ∀ r k (v : StM), r + k = n → 0 ≤ (ms_u v).toInt → (ms_u v).toInt + r ≤ 90000 → (∀ t, ms_b (fm_stopL n r k v) t = if k ≤ t ∧ t < n then (if 0 ≤ ms_n v t then ms_n v t / 2 else -1) else ms_b v t) ∧ (∀ t, ms_d (fm_stopL n r k v) t = if k ≤ t ∧ t < n then vp_nar .boolean (fm_ind (ms_n v t)) else ms_d v t) ∧
    (∀ t, t < n → (ms_l (fm_stopL n r k v) t).toInt = if k + t < n then (ms_u v).toInt + (n - t - k : Int) else (ms_l v t).toInt) ∧ (ms_u (fm_stopL n r k v)).toInt = (ms_u v).toInt + r ∧
    ms_o (fm_stopL n r k v) = ms_o v ∧ ms_v (fm_stopL n r k v) = ms_v v ∧ ms_n (fm_stopL n r k v) = ms_n v ∧ ms_m (fm_stopL n r k v) = 0 ∧ ms_h (fm_stopL n r k v) = 0 ∧ ms_i (fm_stopL n r k v) = ms_i v ∧ ms_j (fm_stopL n r k v) = ms_j v ∧ ms_w (fm_stopL n r k v) = ms_w v ∧ ms_t (fm_stopL n r k v) = ms_t v ∧ ms_c (fm_stopL n r k v) = ms_c v := by
  intro r
  induction r with
  | zero =>
    intro k v h _ _
    exact ⟨fun t => (if_neg (by omega)).symm, fun t => (if_neg (by omega)).symm, fun t ht => (if_neg (by omega)).symm, (by show (ms_u v).toInt = (ms_u v).toInt + ((0 : Nat) : Int); omega), rfl, rfl, rfl, rfl, rfl, rfl, rfl, rfl, rfl, rfl⟩
  | succ r ih =>
    intro k v h h0 hb
    rw [fm_stopL]
    have e1 : (ms_u v + 1).toInt = (ms_u v).toInt + 1 := add1_64 h0 (by omega)
    obtain ⟨h1, h2, h3, h4, h5, h6, h7, h8, h9, h10, h11, h12, h13, h14⟩ := ih (k + 1) (fm_stop1 n v k) (by omega) (show 0 ≤ (ms_u v + 1).toInt by omega) (show (ms_u v + 1).toInt + r ≤ 90000 by omega)
    refine ⟨fun t => ?_, fun t => ?_, fun t ht => ?_, ?_, h5, h6, h7, h8, h9, h10, h11, h12, h13, h14⟩
    · rw [h1]
      show (if k + 1 ≤ t ∧ t < n then (if 0 ≤ ms_n v t then ms_n v t / 2 else -1) else upd (ms_b v) k (if 0 ≤ ms_n v k then ms_n v k / 2 else -1) t) = _
      by_cases e : t = k
      · subst e
        rw [if_neg (show ¬ (t + 1 ≤ t ∧ t < n) by omega), zq_at]
        exact (if_pos (by omega)).symm
      · rw [zq_ne _ _ e]
        by_cases q : k + 1 ≤ t ∧ t < n
        · rw [if_pos q]
          exact (if_pos (by omega)).symm
        · rw [if_neg q]
          exact (if_neg (by omega)).symm
    · rw [h2]
      show (if k + 1 ≤ t ∧ t < n then vp_nar .boolean (fm_ind (ms_n v t)) else upd (ms_d v) k (vp_nar .boolean (fm_ind (ms_n v k))) t) = _
      by_cases e : t = k
      · subst e; rw [if_neg (by omega), if_pos (by omega), zq_at]
      · rw [zq_ne _ _ e]
        by_cases q : k + 1 ≤ t ∧ t < n
        · rw [if_pos q, if_pos (by omega)]
        · rw [if_neg q, if_neg (by omega)]
    · rw [h3 t ht]
      show (if k + 1 + t < n then (ms_u v + 1).toInt + (n - t - (k + 1 : Nat) : Int) else (vp_updL (ms_l v) (n - 1 - k) (ms_u v + 1) t).toInt) = _
      by_cases e : t = n - 1 - k
      · rw [if_neg (by omega), if_pos (by omega), e, zl_at, e1]
        omega
      · rw [zl_ne _ _ e]
        by_cases q : k + 1 + t < n
        · rw [if_pos q, if_pos (by omega), e1]; omega
        · rw [if_neg q, if_neg (by omega)]
    · rw [h4]
      show (ms_u v + 1).toInt + r = (ms_u v).toInt + ((r + 1 : Nat) : Int)
      omega
theorem neg_nI {t : Nat} (h : t ≤ 64) : (-(nI t)).toInt = -(t : Int) := by
  rw [Jvm.Kit.i32_neg (by rw [nI_toInt (by omega)]; omega), nI_toInt (by omega)]
theorem sim_stop {n K : Nat} {u : StC} {v : StM} (hn : n ≤ 12) (hA : rA n u v) (hB : rB K u v) (hK : K < 5000) : rR n (K + 1) (fc_stop n u) (fm_stop n v) := by
  obtain ⟨h1, h2, h3, h4, h5, h6, h7, h8, h9, h10, h11⟩ := hA
  obtain ⟨b1, b2, b3, b4⟩ := hB
  obtain ⟨c1, c2, c3, c4, c5, c6, c7, c8, c9, c10, c11, c12⟩ := stopC n 0 u
  obtain ⟨m1, m2, m3, m4, m5, m6, m7, m8, m9, m10, m11, m12, m13, m14⟩ := stopM n n 0 v (by omega) b3 (by omega)
  unfold fc_stop fm_stop
  refine ⟨⟨?_, ?_, ?_, ?_, ?_, ?_, ?_, ?_, ?_, ?_, ?_⟩, ⟨?_, ?_, ?_⟩, ?_, ?_, ?_, ?_⟩
  · intro b hb; rw [c3, m5]; exact h1 b hb
  · intro s hs; rw [c4, m6]; exact h2 s hs
  · intro s hs
    have i1 : 0 ≤ s ∧ s < 0 + n := by omega
    have i2 : 0 ≤ s ∧ s < n := by omega
    rw [c1, if_pos i1, c5, m1, if_pos i2, m2, if_pos i2, m7]
    exact (h3 s hs).stp
  · intro s t hs ht
    have i1 : 0 ≤ s ∧ s < n := by omega
    have i2 : 0 ≤ t ∧ t < n := by omega
    rw [m1, m1, if_pos i1, if_pos i2]
    intro q1 q2
    have key : ∀ s, s < n → ¬ (if 0 ≤ ms_n v s then ms_n v s / 2 else -1) = -1 → (if 0 ≤ ms_n v s then ms_n v s / 2 else -1) = ms_b v s ∧ ¬ ms_b v s = -1 := by
      intro s hs q
      obtain ⟨e0, q9⟩ := h3 s hs
      rcases q9 with ⟨-, z, -⟩ | ⟨B, D, hB, hD, -, z1, -, z | ⟨E, hE, z⟩⟩
      · rw [e0, z] at q; exact absurd rfl q
      · rw [e0, z] at q; exact absurd rfl q
      · rw [e0, z, if_pos (pf hB hE).2.2.2.1, (pf hB hE).2.2.2.2.1, z1]
        exact ⟨rfl, (pf2 hB).2.2.1⟩
    have k1 := key s hs q2
    have k2 := key t ht (fun z => q2 (q1.trans z))
    exact h4 s t hs ht (k1.1.symm.trans (q1.trans k2.1)) k1.2
  · rw [c7, m8]
  · rw [c7]; exact Or.inl rfl
  · rw [c8, m9]
  · rw [c9, m10]; exact h8
  · rw [c10, m11]; exact h9
  · rw [c11, m12]; exact h10
  · rw [c12, m13]; exact h11
  · intro s t hs ht _ _ _ _
    rw [c2, c2, if_pos (by omega), if_pos (by omega), Int32.lt_iff_toInt_lt, Int64.lt_iff_toInt_lt, neg_nI (by omega), neg_nI (by omega), m3 s hs, m3 t ht, if_pos (by omega), if_pos (by omega)]
    omega
  · intro s hs
    rw [c2, if_pos (by omega), neg_nI (by omega), c6]
    omega
  · intro s hs
    rw [m3 s hs, if_pos (by omega), m4]
    omega
  · rw [c6]; exact b1
  · rw [c6]; omega
  · rw [m4]; omega
  · rw [m4]; omega
theorem wbd_ne {u : StC} {s t : Nat} (h : ¬ cs_k (fc_wbd u s).2 t = -1) : ¬ cs_k u t = -1 := by
  intro q
  refine h ?_
  rw [ck_wbd]
  split
  · exact q
  · rename_i z
    by_cases e : t = s
    · subst e; rw [q] at z; exact absurd pf_tb3.2.2.2.2.1 z
    · exact (zq_ne _ _ e).trans q
theorem wab_sim {n : Nat} {x : Int32} (hx : ¬ x = 0) : ∀ r k c (u : StC) (v : StM), r + k = n → rA n u v → (fm_modeL x r k c v).1 = (fc_wab r k c u).1 ∧ rA n (fc_wab r k c u).2 (fm_modeL x r k c v).2 ∧ keC u (fc_wab r k c u).2 ∧ keM v (fm_modeL x r k c v).2 ∧ ∀ t, ¬ cs_k (fc_wab r k c u).2 t = -1 → ¬ cs_k u t = -1 := by
  intro r
  induction r with
  | zero => intro k c u v _ h; exact ⟨rfl, h, ⟨rfl, rfl⟩, ⟨rfl, rfl⟩, fun _ q => q⟩
  | succ r ih =>
    intro k c u v hk h
    rw [fm_modeL, fc_wab, if_neg hx]
    obtain ⟨w1, w2⟩ := h.wbd (s := k) (by omega)
    unfold fm_wbd at w2
    by_cases e : ms_d v k = 0
    · rw [if_pos e] at w1 w2 ⊢
      rw [if_pos w1]
      obtain ⟨i1, i2, i3, i4, i5⟩ := ih (k + 1) c _ _ (by omega) w2
      exact ⟨i1, i2, (ke_wbd _ _).trans i3, i4, fun t q => wbd_ne (i5 t q)⟩
    · rw [if_neg e] at w1 w2 ⊢
      rw [if_neg (by rw [w1]; decide)]
      obtain ⟨i1, i2, i3, i4, i5⟩ := ih (k + 1) (c + 1) _ _ (by omega) w2
      exact ⟨i1, i2, (ke_wbd _ _).trans i3, (kem_wb _ _).trans i4, fun t q => wbd_ne (i5 t q)⟩
theorem rA.setm {n : Nat} {u : StC} {v : StM} {x : Int32} (h : rA n u v) (hx : x = 0 ∨ x = 1 ∨ x = 2) : rA n (fc_setm u x) (fm_setm v x) := by
  obtain ⟨h1, h2, h3, h4, h5, h6, h7, h8, h9, h10, h11⟩ := h
  exact ⟨h1, h2, h3, h4, rfl, hx, h7, h8, h9, h10, h11⟩
theorem sim_mode {n K : Nat} {u : StC} {v : StM} {x : Int32} (h : rR n K u v) (hx : x = 0 ∨ x = 1 ∨ x = 2) : (fm_modeL x n 0 0 (fm_setm v x)).1 = (fc_mode n u x).1 ∧ rR n K (fc_mode n u x).2 (fm_modeL x n 0 0 (fm_setm v x)).2 := by
  obtain ⟨hA, hO, hB⟩ := h
  unfold fc_mode
  by_cases e : x = 0
  · rw [if_pos e]
    have : fm_modeL x n 0 0 (fm_setm v x) = (0, fm_setm v x) := by
      cases n with
      | zero => rfl
      | succ n => rw [fm_modeL, if_pos e]
    rw [this]
    exact ⟨rfl, hA.setm hx, hO, hB⟩
  · rw [if_neg e]
    obtain ⟨i1, i2, i3, i4, i5⟩ := wab_sim e n 0 0 _ _ (by omega) (hA.setm hx)
    exact ⟨i1, i2, ord_k hO i3 i4 (fun t _ _ q => i5 t q), hB.to i3.2 i4.2⟩
def fm_lb (v : StM) : Option Nat → Int32
  | none => 64
  | some j => ms_b v j
theorem least_sim {n : Nat} {u : StC} {v : StM} (hA : rA n u v) (lo : Int32) : ∀ r k a, r + k = n → (∀ j, a = some j → j < n ∧ ∃ B, B < 64 ∧ ms_b v j = nI B) → fm_next (ms_b v) (ms_d v) lo r k a = fc_least (cs_k u) lo r k a (fm_lb v a) := by
  intro r
  induction r with
  | zero => intro k a _ _; rfl
  | succ r ih =>
    intro k a h1 h2
    have h3 := hA.2.2.1 k (by omega)
    have e0 : fm_next (ms_b v) (ms_d v) lo (r + 1) k a = if ms_b v k < lo then fm_next (ms_b v) (ms_d v) lo r (k + 1) a else if ms_d v k = 0 then fm_next (ms_b v) (ms_d v) lo r (k + 1) a else if fm_lb v a ≤ ms_b v k ∧ ¬ a = none then fm_next (ms_b v) (ms_d v) lo r (k + 1) a else fm_next (ms_b v) (ms_d v) lo r (k + 1) (some k) := by
      cases a with
      | none => rw [fm_next]; simp
      | some j => rw [fm_next]; simp [fm_lb]
    rw [e0, fc_least, h3.isd]
    by_cases e : ms_d v k = 0
    · rw [if_pos e, if_pos e, ih _ _ (by omega) h2]
      split <;> rfl
    · rw [if_neg e, if_neg e]
      have hk : ¬ cs_k u k = -1 := fun q => by
        rcases h3.2 with ⟨-, -, -, q4⟩ | ⟨B, D, hB, hD, q1, -⟩
        · exact e q4
        · exact (pf hB hD).2.2.1 (q1.symm.trans q)
      obtain ⟨hb, B, hB, eB⟩ := h3.blk hk
      rw [hb]
      have hk2 : ∀ j, some k = some j → j < n ∧ ∃ B, B < 64 ∧ ms_b v j = nI B := fun j hj => by cases hj; exact ⟨by omega, B, hB, eB⟩
      by_cases q : ms_b v k < lo
      · rw [if_pos q, if_pos q]; exact ih _ _ (by omega) h2
      · rw [if_neg q, if_neg q]
        cases a with
        | none =>
          have : ¬ fm_lb v none ≤ ms_b v k := by
            rw [eB]
            exact fun z => by
              have := (nI_leI (a := 64) (b := B) (by omega) (by omega)).mp z
              omega
          rw [if_neg this, if_neg (fun z => this z.1)]
          exact ih _ (some k) (by omega) hk2
        | some j =>
          by_cases z : fm_lb v (some j) ≤ ms_b v k
          · rw [if_pos z, if_pos ⟨z, by simp⟩]; exact ih _ (some j) (by omega) h2
          · rw [if_neg z, if_neg (fun z2 => z z2.1)]; exact ih _ (some k) (by omega) hk2
theorem next_sim {n : Nat} {u : StC} {v : StM} (hA : rA n u v) : fm_nxt n v = fc_next n u := by
  have h := fun lo => least_sim hA lo n 0 none (by omega) (fun _ h => nomatch h)
  unfold fm_nxt fc_next
  rw [h, h, hA.2.2.2.2.2.2.1]
  rfl
theorem fm_nxt_d {n j : Nat} {v : StM} (h : fm_nxt n v = some j) : ¬ ms_d v j = 0 := by
  unfold fm_nxt at h
  split at h
  · exact fm_next_d _ _ _ _ _ none (fun _ h => nomatch h) j h
  · rename_i q
    cases h
    exact fm_next_d _ _ _ _ _ none (fun _ h => nomatch h) j q
theorem backL_no {n : Nat} {v : StM} (h : fm_nxt n v = none) : ∀ r c, fm_backL n r c v = (c, v) := by
  intro r
  induction r with
  | zero => intro c; rfl
  | succ r ih => intro c; rw [fm_backL, h]; exact ih c
theorem back_sim {n : Nat} : ∀ r d (u : StC) (v : StM), rA n u v → (fm_backL n r (nI d) v).1 = (fc_back n r d u).1 ∧ rA n (fc_back n r d u).2 (fm_backL n r (nI d) v).2 ∧ keC u (fc_back n r d u).2 ∧ keM v (fm_backL n r (nI d) v).2 ∧ ∀ t, ¬ cs_k (fc_back n r d u).2 t = -1 → ¬ cs_k u t = -1 := by
  intro r
  induction r with
  | zero => intro d u v h; exact ⟨rfl, h, ⟨rfl, rfl⟩, ⟨rfl, rfl⟩, fun _ q => q⟩
  | succ r ih =>
    intro d u v h
    rcases hf : fc_next n u with _ | j
    · rw [backL_no ((next_sim h).trans hf), fc_back, hf]
      exact ⟨rfl, h, ⟨rfl, rfl⟩, ⟨rfl, rfl⟩, fun _ q => q⟩
    · have hm := (next_sim h).trans hf
      have hd := fm_nxt_d hm
      have hj := fc_next_lt hf
      rw [fc_back, fm_backL, hf, hm]
      dsimp only
      rw [nI_1]
      obtain ⟨-, w2⟩ := h.wbd hj
      unfold fm_wbd at w2
      rw [if_neg hd] at w2
      have h3 := w2.2.2.1 j hj
      have hk0 : ¬ cs_k u j = -1 := fun q => by
        rcases (h.2.2.1 j hj).2 with ⟨-, -, -, q4⟩ | ⟨B, D, hB, hD, q1, -⟩
        · exact hd q4
        · exact (pf hB hD).2.2.1 (q1.symm.trans q)
      have hk : ¬ cs_k (fc_wbd u j).2 j = -1 := by
        have hid : ¬ fc_isd (cs_k u j) = 0 := by rw [(h.2.2.1 j hj).isd]; exact hd
        rw [ck_wbd, if_neg hid, zq_at]
        obtain ⟨hb, B, hB, eB⟩ := (h.2.2.1 j hj).blk hk0
        rw [hb, eB, (pf2 hB).1]
        exact (pf hB (d := 0) (by omega)).2.2.1
      have hR : rA n (fc_back1 u j) (fm_back1 v j) := by
        obtain ⟨h1, h2, h3', h4, h5, h6, h7, h8, h9, h10, h11⟩ := w2
        exact ⟨h1, h2, h3', h4, h5, h6, congrArg (· + 1) (h3.blk hk).1, h8, h9, h10, h11⟩
      obtain ⟨i1, i2, i3, i4, i5⟩ := ih (d + 1) _ _ hR
      exact ⟨i1, i2, (show keC u (fc_back1 u j) from ke_wbd u j).trans i3, (show keM v (fm_back1 v j) from kem_wb v j).trans i4, fun t q => wbd_ne (i5 t q)⟩
theorem sim_back {n K d : Nat} {u : StC} {v : StM} (h : rR n K u v) : (fm_backL n d 0 v).1 = (fc_back n d 0 u).1 ∧ rR n K (fc_back n d 0 u).2 (fm_backL n d 0 v).2 := by
  obtain ⟨hA, hO, hB⟩ := h
  have := back_sim d 0 u v hA
  rw [pf_tb3.2.2.1] at this
  obtain ⟨i1, i2, i3, i4, i5⟩ := this
  exact ⟨i1, i2, ord_k hO i3 i4 (fun t _ _ q => i5 t q), hB.to i3.2 i4.2⟩
theorem check_sim {n : Nat} : ∀ r k c (u : StC) (v : StM), r + k = n → rA n u v → (fm_checkL r k c v).1 = (fc_check r k c u).1 ∧ rA n (fc_check r k c u).2 (fm_checkL r k c v).2 ∧ keC u (fc_check r k c u).2 ∧ keM v (fm_checkL r k c v).2 ∧ cs_k (fc_check r k c u).2 = cs_k u := by
  intro r
  induction r with
  | zero => intro k c u v _ h; exact ⟨rfl, h, ⟨rfl, rfl⟩, ⟨rfl, rfl⟩, rfl⟩
  | succ r ih =>
    intro k c u v hk h
    have h3 := h.2.2.1 k (by omega)
    rw [fm_checkL, fc_check, h3.so, h3.1]
    by_cases e : cs_n u k = cs_k u k
    · rw [if_pos e, if_pos e]; exact ih _ _ _ _ (by omega) h
    · rw [if_neg e, if_neg e]
      obtain ⟨i1, i2, i3, i4, i5⟩ := ih (k + 1) (c + 1) _ _ (by omega) (h.note (s := k))
      exact ⟨i1, i2, i3, i4, i5⟩
theorem sim_check {n K : Nat} {u : StC} {v : StM} (h : rR n K u v) : (fm_check n v).1 = (fc_check n 0 0 u).1 ∧ rR n K (fc_check n 0 0 u).2 (fm_check n v).2 := by
  obtain ⟨hA, hO, hB⟩ := h
  obtain ⟨i1, i2, i3, i4, i5⟩ := check_sim n 0 0 u (fm_setc v 0) (by omega) (hA.setc 0)
  exact ⟨i1, i2, ord_k hO i3 i4 (fun t _ _ q => by rw [i5] at q; exact q), hB.to i3.2 i4.2⟩
theorem full_sim {n : Nat} {u : StC} {v : StM} (h : rA n u v) : ∀ r k c, r + k = n → fm_full (ms_b v) r k c = fc_full (cs_k u) r k c := by
  intro r
  induction r with
  | zero => intro k c _; rfl
  | succ r ih =>
    intro k c hk
    have h3 := h.2.2.1 k (by omega)
    rw [fm_full, fc_full, Int32.add_zero]
    by_cases e : cs_k u k = -1
    · rw [if_pos e, if_pos (h3.emp.mp e)]; exact ih _ _ (by omega)
    · rw [if_neg e, if_neg (fun q => e (h3.emp.mpr q))]; exact ih _ _ (by omega)
theorem dts_sim {n : Nat} {u : StC} {v : StM} (h : rA n u v) : ∀ r k c, r + k = n → fm_dts (ms_b v) (ms_d v) r k c = fc_cdty (cs_k u) r k c := by
  intro r
  induction r with
  | zero => intro k c _; rfl
  | succ r ih =>
    intro k c hk
    have h3 := h.2.2.1 k (by omega)
    rw [fm_dts, fc_cdty, Int32.add_zero, h3.isd]
    by_cases e : ms_d v k = 0
    · rw [if_pos e, if_pos e]
      split <;> exact ih _ _ (by omega)
    · rw [if_neg e, if_neg e, if_neg (fun q => by
        rcases h3.2 with ⟨-, -, -, q4⟩ | ⟨B, D, hB, hD, -, q1, -⟩
        · exact e q4
        · rw [q1] at q; exact absurd q (pf2 hB).2.2.2.2)]
      exact ih _ _ (by omega)
theorem sim_crash {n K : Nat} {u : StC} {v : StM} (hn : n ≤ 12) (h : rR n K u v) (hK : K < 5000) : (fm_crash n v).1 = (fc_crash n u).1 ∧ rR n (K + 1) (fc_crash n u).2 (fm_crash n v).2 := by
  have hs := sim_stop hn (h.1.setc 0) h.2.2 hK
  exact ⟨full_sim hs.1 n 0 0 (by omega), hs⟩
theorem clrM : ∀ r k (v : StM), (∀ t, ms_n (fm_clrL r k v) t = if k ≤ t ∧ t < k + r then -1 else ms_n v t) ∧ ms_c (fm_clrL r k v) = ms_c v ∧ ms_o (fm_clrL r k v) = ms_o v ∧ ms_b (fm_clrL r k v) = ms_b v ∧ ms_v (fm_clrL r k v) = ms_v v ∧ ms_d (fm_clrL r k v) = ms_d v ∧ ms_l (fm_clrL r k v) = ms_l v ∧ ms_u (fm_clrL r k v) = ms_u v ∧ ms_m (fm_clrL r k v) = ms_m v ∧ ms_h (fm_clrL r k v) = ms_h v ∧ ms_i (fm_clrL r k v) = ms_i v ∧ ms_j (fm_clrL r k v) = ms_j v ∧ ms_w (fm_clrL r k v) = ms_w v ∧ ms_t (fm_clrL r k v) = ms_t v := by
  intro r
  induction r with
  | zero => intro k v; exact ⟨fun t => (if_neg (by omega)).symm, rfl, rfl, rfl, rfl, rfl, rfl, rfl, rfl, rfl, rfl, rfl, rfl, rfl⟩
  | succ r ih =>
    intro k v
    rw [fm_clrL]
    obtain ⟨h1, h2⟩ := ih (k + 1) (ms_c v, ms_o v, ms_b v, ms_v v, ms_d v, upd (ms_n v) k (-1), ms_l v, ms_u v, ms_m v, ms_h v, ms_i v, ms_j v, ms_w v, ms_t v)
    refine ⟨fun t => ?_, h2⟩
    rw [h1]
    show (if k + 1 ≤ t ∧ t < k + 1 + r then -1 else upd (ms_n v) k (-1) t) = _
    by_cases e : t = k
    · subst e; rw [if_neg (by omega), if_pos (by omega), zq_at]
    · rw [zq_ne _ _ e]
      by_cases q : k + 1 ≤ t ∧ t < k + 1 + r
      · rw [if_pos q, if_pos (by omega)]
      · rw [if_neg q, if_neg (by omega)]
theorem filC (x : Int32) : ∀ r k f t, fc_fil x r k f t = if k ≤ t ∧ t < k + r then x else f t := by
  intro r
  induction r with
  | zero => intro k f t; exact (if_neg (by omega)).symm
  | succ r ih =>
    intro k f t
    rw [fc_fil, ih]
    by_cases e : t = k
    · subst e; rw [if_neg (by omega), if_pos (by omega), zq_at]
    · rw [zq_ne _ _ e]
      by_cases q : k + 1 ≤ t ∧ t < k + 1 + r
      · rw [if_pos q, if_pos (by omega)]
      · rw [if_neg q, if_neg (by omega)]
theorem slR.los {k n b d m : Int32} (h : slR k n b d m) : slR k (-1) b d (-1) := by
  refine ⟨rfl, ?_⟩
  rcases h.2 with ⟨h1, -, h3, h4⟩ | ⟨B, D, hB, hD, h1, h2, h3, -⟩
  · exact Or.inl ⟨h1, rfl, h3, h4⟩
  · exact Or.inr ⟨B, D, hB, hD, h1, h2, h3, Or.inl rfl⟩
theorem sim_lose {n K : Nat} {u : StC} {v : StM} (hn : n ≤ 12) (h : rR n K u v) (hK : K < 5000) : (fm_lose n v).1 = (fc_lose n u).1 ∧ rR n (K + 1) (fc_lose n u).2 (fm_lose n v).2 := by
  obtain ⟨hA, hO, hB⟩ := h
  refine ⟨dts_sim hA n 0 0 (by omega), ?_⟩
  obtain ⟨m1, m2, m3, m4, m5, m6, m7, m8, m9, m10, m11, m12, m13, m14⟩ := clrM n 0 (fm_setc v 0)
  unfold fc_lose fm_lose
  refine sim_stop hn ?_ ?_ hK
  · obtain ⟨h1, h2, h3, h4, h5, h6, h7, h8, h9, h10, h11⟩ := hA
    refine ⟨?_, ?_, fun s hs => ?_, ?_, ?_, h6, ?_, ?_, ?_, ?_, ?_⟩
    · rw [m3]; exact h1
    · rw [m5]; exact h2
    · show slR (cs_k u s) (fc_fil (-1) n 0 (cs_n u) s) _ _ _
      rw [filC, if_pos (by omega), m1, if_pos (by omega), m4, m6]
      exact (h3 s hs).los
    · rw [m4]; exact h4
    · rw [m9]; exact h5
    · rw [m10]; exact h7
    · rw [m11]; exact h8
    · rw [m12]; exact h9
    · rw [m13]; exact h10
    · rw [m14]; exact h11
  · exact ⟨hB.1, hB.2.1, by rw [m8]; exact hB.2.2.1, by rw [m8]; exact hB.2.2.2⟩
theorem cua_sim {n s : Nat} {u : StC} {v : StM} (hA : rA n u v) (hO : rO n n u v) (hs : s < n) (hk : ¬ cs_k u s = -1) : ∀ r k c, r + k = n → fm_bef (ms_b v) (ms_l v) s r k c = fc_cua (cs_k u) (cs_l u) s r k c := by
  intro r
  induction r with
  | zero => intro k c _; rfl
  | succ r ih =>
    intro k c h1
    have h3 := hA.2.2.1 k (by omega)
    rw [fm_bef, fc_cua, Int32.add_zero]
    by_cases e : cs_k u k = -1
    · rw [if_pos e, if_pos (h3.emp.mp e)]; exact ih _ _ (by omega)
    · rw [if_neg e, if_neg (fun q => e (h3.emp.mpr q))]
      have o := hO.1 s k hs (by omega) (by omega) (by omega) hk e
      by_cases q : cs_l u k ≤ cs_l u s
      · rw [if_pos q, if_pos ((lg_cmp_le _ _).mpr (Int64.not_lt.mp fun z => Int32.not_lt.mpr q (o.mpr z)))]; exact ih _ _ (by omega)
      · rw [if_neg q, if_neg (fun z => absurd (o.mp (Int32.not_le.mp q)) (Int64.not_lt.mpr ((lg_cmp_le _ _).mp z)))]; exact ih _ _ (by omega)
theorem order_sim {n : Nat} {u : StC} {v : StM} {q : Int32} (hA : rA n u v) (hO : rO n n u v) : ∀ r k, r + k = n → fm_orderL (ms_b v) (ms_l v) n q r k = fc_order (cs_k u) (cs_l u) n q r k := by
  intro r
  induction r with
  | zero => intro k _; rfl
  | succ r ih =>
    intro k h1
    have h3 := hA.2.2.1 k (by omega)
    rw [fm_orderL, fc_order]
    by_cases e : cs_k u k = -1
    · rw [if_pos e, if_pos (h3.emp.mp e)]; exact ih _ (by omega)
    · rw [if_neg e, if_neg (fun q => e (h3.emp.mpr q)), cua_sim hA hO (by omega) e n 0 0 (by omega), (h3.blk e).1]
      split
      · rfl
      · exact ih _ (by omega)
end
section
theorem kb_of {j : Nat} (h : j < 64) : kc_b (nI j) = 0 := by
  unfold kc_b
  rw [if_neg (nI_pos (by omega))]
  exact if_pos ((nI_ltI (b := 64) (by omega) (by omega)).mpr h)
theorem kb_no {b : Int32} (h : ¬ kc_b b = 0) : fm_isb b = 0 ∧ kc_b b = 1 := by
  refine ⟨Classical.byContradiction fun q => ?_, (kb_10 b).resolve_left h⟩
  obtain ⟨j, hj, rfl⟩ := isb_nI q
  exact h (kb_of hj)
theorem mc_clean (v : StM) (s : Nat) : ms_c (fm_clean v s) = ms_c v := by unfold fm_clean; split <;> rfl
theorem mc_empty (v : StM) (s : Nat) : ms_c (fm_empty v s) = ms_c v := by unfold fm_empty; split <;> rfl
theorem mc_drop (v : StM) (s : Nat) : ms_c (fm_drop v s) = ms_c v := by
  unfold fm_drop
  split
  · exact mc_empty _ _
  · exact (mc_empty _ _).trans (cM_wb _ _)
theorem mc_room (n : Nat) (v : StM) : ms_c (fm_room n v).2 = ms_c v := by
  unfold fm_room
  split
  · rfl
  · exact mc_drop _ _
theorem mc_readB (n : Nat) (v : StM) (b : Nat) : ms_c (fm_readB n v b).2 = ms_c v := by
  unfold fm_readB
  split
  · rfl
  · split
    · rfl
    · exact mc_room n (fm_mis v)
theorem mc_stF (v : StM) (s b : Nat) (x : Int64) (q : Int32) : ms_c (fm_stF v s b x q).2 = ms_c v := by
  unfold fm_stF
  split <;> split <;> rfl
theorem mc_stW (v : StM) (s : Nat) (x : Int64) (q d : Int32) : ms_c (fm_stW v s x q d).2 = ms_c v := by
  unfold fm_stW
  split <;> rfl
theorem mc_stO (v : StM) (s b : Nat) (x : Int64) (q : Int32) : ms_c (fm_stO v s b x q).2 = ms_c v := by
  unfold fm_stO
  split
  · exact mc_stW _ _ _ _ _
  · split
    · exact mc_stW _ _ _ _ _
    · exact mc_stW _ _ _ _ _
theorem mc_steps (n : Nat) (v : StM) (b : Nat) (x : Int64) (q : Int32) : ms_c (fm_steps n v b x q).2 = ms_c v := by
  unfold fm_steps
  split
  · exact (mc_stF _ _ _ _ _).trans (mc_room n v)
  · exact mc_stO _ _ _ _ _
theorem mc_writeB (n : Nat) (v : StM) (b : Nat) (x : Int64) : ms_c (fm_writeB n v b x) = ms_c v := by
  unfold fm_writeB
  split
  · exact mc_steps _ _ _ _ _
  · split
    · rfl
    · split
      · exact mc_clean _ _
      · exact mc_empty _ _
theorem mc_stopL (n : Nat) : ∀ r k (v : StM), ms_c (fm_stopL n r k v) = ms_c v := by
  intro r
  induction r with
  | zero => intro k v; rfl
  | succ r ih => intro k v; rw [fm_stopL]; exact ih _ _
theorem mc_modeL (x : Int32) : ∀ r k c (v : StM), ms_c (fm_modeL x r k c v).2 = ms_c v := by
  intro r
  induction r with
  | zero => intro k c v; rfl
  | succ r ih =>
    intro k c v
    rw [fm_modeL]
    split
    · rfl
    · split
      · exact ih _ _ _
      · exact (ih _ _ _).trans (cM_wb _ _)
theorem mc_backL (n : Nat) : ∀ r c (v : StM), ms_c (fm_backL n r c v).2 = ms_c v := by
  intro r
  induction r with
  | zero => intro c v; rfl
  | succ r ih =>
    intro c v
    rw [fm_backL]
    split
    · exact ih _ _
    · exact (ih _ _).trans (cM_wb v _)
abbrev lwP (kc : Int32) (r : Int32) (z : StC × (Nat → Int64)) (ok : StC × (Nat → Int64)) (u : StC) (f : Nat → Int64) : Prop := (kc = 0 ∧ r = 0 ∧ z = ok) ∨ (¬ kc = 0 ∧ r = kc ∧ z = (u, f))
section LP
variable {n K : Nat} {u : StC} {v : StM} {f : Nat → Int64} {r : Int32} {z : StC × (Nat → Int64)}
theorem law_read (hn : 0 < n) (h : rR n K u v) (hK : K < 5000) (b : Int32) (hp : lwP (kc_b b) r z ((fc_read n u b.toNatClampNeg).2, vp_updL f 0 (fc_read n u b.toNatClampNeg).1) u f) :
    ms_c (fm_read n v b).2 = r ∧ (r = 0 → z.2 0 = (fm_read n v b).1) ∧ rR n (K + 1) z.1 (fm_read n v b).2 := by
  unfold fm_read
  rcases hp with ⟨hk, rfl, rfl⟩ | ⟨hk, rfl, rfl⟩
  · obtain ⟨j, hj, rfl⟩ := kb_nI hk
    rw [if_neg (isb_of hj), nI_clamp (by omega)]
    obtain ⟨h1, h2⟩ := sim_read hn (h.setc 0) hK hj
    exact ⟨mc_readB _ _ _, fun _ => h1.symm, h2⟩
  · obtain ⟨h1, h2⟩ := kb_no hk
    rw [if_pos h1]
    exact ⟨h2.symm, fun q => absurd q hk, (h.setc 1).up (by omega)⟩
theorem law_write (hn : 0 < n) (h : rR n K u v) (hK : K < 5000) (b : Int32) (x : Int64) {z : StC} (hp : (kc_b b = 0 ∧ r = 0 ∧ z = fc_write n u b.toNatClampNeg x) ∨ (¬ kc_b b = 0 ∧ r = kc_b b ∧ z = u)) :
    ms_c (fm_write n v b x) = r ∧ rR n (K + 1) z (fm_write n v b x) := by
  unfold fm_write
  rcases hp with ⟨hk, rfl, rfl⟩ | ⟨hk, rfl, rfl⟩
  · obtain ⟨j, hj, rfl⟩ := kb_nI hk
    rw [if_neg (isb_of hj), nI_clamp (by omega)]
    exact ⟨mc_writeB _ _ _ _, sim_write hn (h.setc 0) hK hj⟩
  · obtain ⟨h1, h2⟩ := kb_no hk
    rw [if_pos h1]
    exact ⟨h2.symm, (h.setc 1).up (by omega)⟩
theorem cutc_eq (m b q : Int32) : fm_cutc m b q = kc_cut m b q := by
  unfold fm_cutc kc_cut
  by_cases e : kc_b b = 0
  · obtain ⟨j, hj, rfl⟩ := kb_nI e
    rw [if_neg (isb_of hj), if_pos e]
  · rw [if_pos (kb_no e).1, if_neg e]
theorem cut_q {m b q : Int32} (h : kc_cut m b q = 0) : kc_b b = 0 ∧ (q = 0 ∨ q = 1 ∨ q = 2) := by
  unfold kc_cut at h
  by_cases e : kc_b b = 0
  · refine ⟨e, ?_⟩
    rw [if_pos e] at h
    by_cases h1 : q < 0
    · rw [if_pos h1] at h; exact absurd h (by decide)
    · rw [if_neg h1] at h
      by_cases h2 : q ≤ 2
      · obtain ⟨j, hj, rfl⟩ := nI_of2 (M := 2) (n := 2) (by decide) h1 h2
        rcases (show j = 0 ∨ j = 1 ∨ j = 2 by omega) with rfl | rfl | rfl
        · exact Or.inl (by decide)
        · exact Or.inr (Or.inl (by decide))
        · exact Or.inr (Or.inr (by decide))
      · rw [if_neg h2] at h; exact absurd h (by decide)
  · rw [if_neg e] at h; exact absurd h (by decide)
theorem law_cut (hn : 0 < n) (hn12 : n ≤ 12) (h : rR n K u v) (hK : K < 4000) (b : Int32) (x : Int64) (q : Int32) (hp : lwP (kc_cut (cs_m u) b q) r z ((fc_cut n u b.toNatClampNeg x q).2, vp_updL f 0 ((fc_cut n u b.toNatClampNeg x q).1).toInt64) u f) :
    ms_c (fm_cut n v b x q).2 = r ∧ (r = 0 → z.2 0 = (fm_cut n v b x q).1.toInt64) ∧ rR n (K + 2) z.1 (fm_cut n v b x q).2 := by
  unfold fm_cut
  rw [cutc_eq, ← h.1.2.2.2.2.1]
  rcases hp with ⟨hk, rfl, rfl⟩ | ⟨hk, rfl, rfl⟩
  · obtain ⟨hb, hq⟩ := cut_q hk
    obtain ⟨j, hj, rfl⟩ := kb_nI hb
    rw [if_pos hk, nI_clamp (by omega)]
    obtain ⟨h1, h2⟩ := sim_steps (x := x) hn (h.setc 0) (by omega) hj hq
    have h3 := sim_stop hn12 h2.1 h2.2.2 (by omega)
    exact ⟨(mc_stopL _ _ _ _).trans (mc_steps _ _ _ _ _), fun _ => (congrArg Int32.toInt64 h1).symm, h3⟩
  · rw [if_neg hk]
    exact ⟨rfl, fun q => absurd q hk, (h.setc _).up (by omega)⟩
theorem law_mode (h : rR n K u v) (x : Int32) (hp : lwP (kc_mode x) r z ((fc_mode n u x).2, vp_updL f 0 ((fc_mode n u x).1).toInt64) u f) :
    ms_c (fm_mode n v x).2 = r ∧ (r = 0 → z.2 0 = (fm_mode n v x).1.toInt64) ∧ rR n K z.1 (fm_mode n v x).2 := by
  have hv : kc_mode x = 0 → x = 0 ∨ x = 1 ∨ x = 2 := by
    unfold kc_mode
    intro q
    by_cases e0 : x = 0
    · exact Or.inl e0
    · by_cases e1 : x = 1
      · exact Or.inr (Or.inl e1)
      · by_cases e2 : x = 2
        · exact Or.inr (Or.inr e2)
        · rw [if_neg e0, if_neg e1, if_neg e2] at q; exact absurd q (by decide)
  unfold fm_mode
  rcases hp with ⟨hk, rfl, rfl⟩ | ⟨hk, rfl, rfl⟩
  · have hx := hv hk
    have h1 : ¬ x < 0 := by rcases hx with rfl | rfl | rfl <;> decide
    have h2 : x ≤ 2 := by rcases hx with rfl | rfl | rfl <;> decide
    rw [if_neg h1, if_pos h2]
    obtain ⟨i1, i2⟩ := sim_mode (h.setc 0) hx
    exact ⟨mc_modeL _ _ _ _ _, fun _ => (congrArg Int32.toInt64 i1).symm, i2⟩
  · have hk1 : kc_mode x = 1 := by
      unfold kc_mode at hk ⊢
      by_cases e0 : x = 0
      · rw [if_pos e0] at hk; exact absurd rfl hk
      · rw [if_neg e0] at hk ⊢
        by_cases e1 : x = 1
        · rw [if_pos e1] at hk; exact absurd rfl hk
        · rw [if_neg e1] at hk ⊢
          by_cases e2 : x = 2
          · rw [if_pos e2] at hk; exact absurd rfl hk
          · rw [if_neg e2]
    by_cases h1 : x < 0
    · rw [if_pos h1]; exact ⟨hk1.symm, fun q => absurd q hk, h.setc 1⟩
    · by_cases h2 : x ≤ 2
      · exfalso
        obtain ⟨j, hj, rfl⟩ := nI_of2 (M := 2) (n := 2) (by decide) h1 h2
        rcases (show j = 0 ∨ j = 1 ∨ j = 2 by omega) with rfl | rfl | rfl
        · exact hk (by decide)
        · exact hk (by decide)
        · exact hk (by decide)
      · rw [if_neg h1, if_neg h2]; exact ⟨hk1.symm, fun q => absurd q hk, h.setc 1⟩
theorem law_back (h : rR n K u v) (q : Int32) (hp : lwP (kc_back q) r z ((fc_back n q.toNatClampNeg 0 u).2, vp_updL f 0 ((fc_back n q.toNatClampNeg 0 u).1).toInt64) u f) :
    ms_c (fm_back n v q).2 = r ∧ (r = 0 → z.2 0 = (fm_back n v q).1.toInt64) ∧ rR n K z.1 (fm_back n v q).2 := by
  unfold fm_back
  by_cases h1 : q < 0
  · have hk1 : kc_back q = 1 := by unfold kc_back; rw [if_pos h1]
    rcases hp with ⟨hk, -⟩ | ⟨hk, rfl, rfl⟩
    · exact absurd (hk1.symm.trans hk) (by decide)
    · rw [if_pos h1]; exact ⟨hk1.symm, fun q => absurd q hk, h.setc 1⟩
  · by_cases h2 : q ≤ 12
    · have hk1 : kc_back q = 0 := by unfold kc_back; rw [if_neg h1, if_pos h2]
      rcases hp with ⟨hk, rfl, rfl⟩ | ⟨hk, rfl, rfl⟩
      · rw [if_neg h1, if_pos h2]
        obtain ⟨i1, i2⟩ := sim_back (d := q.toNatClampNeg) (h.setc 0)
        exact ⟨mc_backL _ _ _ _, fun _ => (congrArg Int32.toInt64 i1).symm, i2⟩
      · exact absurd hk1 hk
    · have hk1 : kc_back q = 1 := by unfold kc_back; rw [if_neg h1, if_neg h2]
      rcases hp with ⟨hk, -⟩ | ⟨hk, rfl, rfl⟩
      · exact absurd (hk1.symm.trans hk) (by decide)
      · rw [if_neg h1, if_neg h2]; exact ⟨hk1.symm, fun q => absurd q hk, h.setc 1⟩
theorem law_slot (h : rR n K u v) (b : Int32) (hp : lwP (kc_b b) r z (u, vp_updL f 0 (fc_enc (fc_find (cs_k u) b.toNatClampNeg n 0)).toInt64) u f) :
    ms_c (fm_slot n v b).2 = r ∧ (r = 0 → z.2 0 = (fm_slot n v b).1.toInt64) ∧ rR n K z.1 (fm_slot n v b).2 := by
  unfold fm_slot
  rcases hp with ⟨hk, rfl, rfl⟩ | ⟨hk, rfl, rfl⟩
  · obtain ⟨j, hj, rfl⟩ := kb_nI hk
    rw [if_neg (isb_of hj), nI_clamp (by omega), h.1.find hj]
    exact ⟨rfl, fun _ => rfl, h.setc 0⟩
  · obtain ⟨h1, h2⟩ := kb_no hk
    rw [if_pos h1]
    exact ⟨h2.symm, fun q => absurd q hk, h.setc 1⟩
theorem law_dirty (h : rR n K u v) (b : Int32) (hp : lwP (kc_dirty n (cs_k u) b) r z (u, vp_updL f 0 (if fc_isd (cs_k u ((fc_find (cs_k u) b.toNatClampNeg n 0).getD 0)) = 0 then 0 else 1)) u f) :
    ms_c (fm_dirty n v b).2 = r ∧ (r = 0 → z.2 0 = if (fm_dirty n v b).1 = 0 then 0 else 1) ∧ rR n K z.1 (fm_dirty n v b).2 := by
  unfold fm_dirty
  by_cases e : kc_b b = 0
  · obtain ⟨j, hj, rfl⟩ := kb_nI e
    rw [if_neg (isb_of hj), nI_clamp (by omega), h.1.find hj]
    unfold kc_dirty at hp
    rw [if_pos e, nI_clamp (by omega)] at hp
    rcases hf : fc_find (cs_k u) j n 0 with _ | s
    · rw [hf] at hp
      rcases hp with ⟨hk, -⟩ | ⟨hk, rfl, rfl⟩
      · exact absurd hk (by decide)
      · exact ⟨rfl, fun q => absurd q (by decide), h.setc 2⟩
    · rw [hf] at hp
      rcases hp with ⟨hk, rfl, rfl⟩ | ⟨hk, rfl, rfl⟩
      · have h3 := (h.1.2.2.1 s (h.1.fnd hj hf).1).isd
        dsimp only
        by_cases q : ms_d v s = 0
        · simp only [if_pos q]
          refine ⟨rfl, fun _ => ?_, h.setc 0⟩
          show (if fc_isd (cs_k u s) = 0 then (0 : Int64) else 1) = _
          rw [h3, if_pos q]; rfl
        · simp only [if_neg q]
          refine ⟨rfl, fun _ => ?_, h.setc 0⟩
          show (if fc_isd (cs_k u s) = 0 then (0 : Int64) else 1) = _
          rw [h3, if_neg q]; rfl
      · exact absurd rfl hk
  · obtain ⟨h1, h2⟩ := kb_no e
    have hk1 : kc_dirty n (cs_k u) b = 1 := by unfold kc_dirty; rw [if_neg e]
    rcases hp with ⟨hk, -⟩ | ⟨hk, rfl, rfl⟩
    · exact absurd (hk1.symm.trans hk) (by decide)
    · rw [if_pos h1]; exact ⟨hk1.symm, fun q => absurd q hk, h.setc 1⟩
theorem law_origin (h : rR n K u v) (b : Int32) (hp : lwP (kc_b b) r z (u, vp_updL f 0 (cs_o u b.toNatClampNeg)) u f) :
    ms_c (fm_origin v b).2 = r ∧ (r = 0 → z.2 0 = (fm_origin v b).1) ∧ rR n K z.1 (fm_origin v b).2 := by
  unfold fm_origin
  rcases hp with ⟨hk, rfl, rfl⟩ | ⟨hk, rfl, rfl⟩
  · obtain ⟨j, hj, rfl⟩ := kb_nI hk
    rw [if_neg (isb_of hj), nI_clamp (by omega)]
    exact ⟨rfl, fun _ => h.1.1 j hj, h.setc 0⟩
  · obtain ⟨h1, h2⟩ := kb_no hk
    rw [if_pos h1]
    exact ⟨h2.symm, fun q => absurd q hk, h.setc 1⟩
theorem law_order (h : rR n K u v) (q : Int32) (hp : lwP (kc_order (fc_order (cs_k u) (cs_l u) n q n 0)) r z (u, vp_updL f 0 (((fc_order (cs_k u) (cs_l u) n q n 0).getD 0)).toInt64) u f) :
    ms_c (fm_order n v q).2 = r ∧ (r = 0 → z.2 0 = (fm_order n v q).1.toInt64) ∧ rR n K z.1 (fm_order n v q).2 := by
  unfold fm_order
  rw [order_sim h.1 h.2.1 n 0 (by omega)]
  rcases hf : fc_order (cs_k u) (cs_l u) n q n 0 with _ | x
  · rw [hf] at hp
    rcases hp with ⟨hk, -⟩ | ⟨hk, rfl, rfl⟩
    · exact absurd hk (by decide)
    · exact ⟨rfl, fun q => absurd q (by decide), h.setc 1⟩
  · rw [hf] at hp
    rcases hp with ⟨hk, rfl, rfl⟩ | ⟨hk, -⟩
    · exact ⟨rfl, fun _ => rfl, h.setc 0⟩
    · exact absurd rfl hk
theorem law_noted (hn : n ≤ 12) (h : rR n K u v) (q : Int32) (hp : lwP (kc_noted n q) r z (u, vp_updL f 0 (cs_n u q.toNatClampNeg).toInt64) u f) :
    ms_c (fm_noted n v q).2 = r ∧ (r = 0 → z.2 0 = (fm_noted n v q).1.toInt64) ∧ rR n K z.1 (fm_noted n v q).2 := by
  unfold fm_noted
  unfold kc_noted at hp
  by_cases h1 : q < 0
  · rw [if_pos h1] at hp ⊢
    rcases hp with ⟨hk, -⟩ | ⟨hk, rfl, rfl⟩
    · exact absurd hk (by decide)
    · exact ⟨rfl, fun q => absurd q (by decide), h.setc 1⟩
  · rw [if_neg h1] at hp ⊢
    by_cases h2 : q < nI n
    · rw [if_pos h2] at hp ⊢
      obtain ⟨j, hj, rfl⟩ := zr_q hn h1 h2
      rcases hp with ⟨hk, rfl, rfl⟩ | ⟨hk, -⟩
      · rw [nI_clamp (by omega)]
        exact ⟨rfl, fun _ => congrArg Int32.toInt64 (h.1.2.2.1 j hj).1.symm, h.setc 0⟩
      · exact absurd rfl hk
    · rw [if_neg h2] at hp ⊢
      rcases hp with ⟨hk, -⟩ | ⟨hk, rfl, rfl⟩
      · exact absurd hk (by decide)
      · exact ⟨rfl, fun q => absurd q (by decide), h.setc 1⟩
theorem law_figure (h : rR n K u v) (q : Int32) (hp : lwP (kc_fig q) r z (u, vp_updL f 0 (fc_fig n u q).toInt64) u f) :
    ms_c (fm_figure n v q).2 = r ∧ (r = 0 → z.2 0 = (fm_figure n v q).1.toInt64) ∧ rR n K z.1 (fm_figure n v q).2 := by
  have hkc : (if q < 0 then (1 : Int32) else if q ≤ 7 then 0 else 1) = kc_fig q := by
    by_cases h1 : q < 0
    · rw [if_pos h1]
      unfold kc_fig
      iterate 8 rw [if_neg (fun z => by rw [z] at h1; exact absurd h1 (by decide))]
    · rw [if_neg h1]
      by_cases h2 : q ≤ 7
      · rw [if_pos h2]
        obtain ⟨j, hj, rfl⟩ := nI_of2 (M := 7) (n := 7) (by decide) h1 h2
        rcases (show j = 0 ∨ j = 1 ∨ j = 2 ∨ j = 3 ∨ j = 4 ∨ j = 5 ∨ j = 6 ∨ j = 7 by omega) with rfl | rfl | rfl | rfl | rfl | rfl | rfl | rfl <;> decide
      · rw [if_neg h2]
        unfold kc_fig
        iterate 8 rw [if_neg (fun z => by rw [z] at h2; exact absurd (by decide) h2)]
  have hfig : kc_fig q = 0 → fm_fig n v q = fc_fig n u q := by
    intro hk
    unfold fm_fig fc_fig
    rw [h.1.2.2.2.2.2.2.2.1, h.1.2.2.2.2.2.2.2.2.1, h.1.2.2.2.2.2.2.2.2.2.1, h.1.2.2.2.2.2.2.2.2.2.2, full_sim h.1 n 0 0 (by omega), dts_sim h.1 n 0 0 (by omega), h.1.2.2.2.2.1, h.1.2.2.2.2.2.2.1]
    unfold kc_fig at hk
    by_cases e7 : q = 7
    · rw [if_pos e7]
    · by_cases e0 : q = 0
      · rw [if_pos e0, if_pos e0]
      · by_cases e1 : q = 1
        · rw [if_neg e0, if_neg e0, if_pos e1, if_pos e1]
        · by_cases e2 : q = 2
          · rw [if_neg e0, if_neg e0, if_neg e1, if_neg e1, if_pos e2, if_pos e2]
          · by_cases e3 : q = 3
            · rw [if_neg e0, if_neg e0, if_neg e1, if_neg e1, if_neg e2, if_neg e2, if_pos e3, if_pos e3]
            · by_cases e4 : q = 4
              · rw [if_neg e0, if_neg e0, if_neg e1, if_neg e1, if_neg e2, if_neg e2, if_neg e3, if_neg e3, if_pos e4, if_pos e4]
              · by_cases e5 : q = 5
                · rw [if_neg e0, if_neg e0, if_neg e1, if_neg e1, if_neg e2, if_neg e2, if_neg e3, if_neg e3, if_neg e4, if_neg e4, if_pos e5, if_pos e5]
                · by_cases e6 : q = 6
                  · rw [if_neg e0, if_neg e0, if_neg e1, if_neg e1, if_neg e2, if_neg e2, if_neg e3, if_neg e3, if_neg e4, if_neg e4, if_neg e5, if_neg e5, if_pos e6, if_pos e6]
                  · rw [if_neg e0, if_neg e1, if_neg e2, if_neg e3, if_neg e4, if_neg e5, if_neg e6, if_neg e7] at hk
                    exact absurd hk (by decide)
  show (if q < 0 then (1 : Int32) else if q ≤ 7 then 0 else 1) = r ∧ (r = 0 → z.2 0 = (fm_fig n v q).toInt64) ∧ rR n K z.1 (fm_setc v (if q < 0 then 1 else if q ≤ 7 then 0 else 1))
  rw [hkc]
  rcases hp with ⟨hk, rfl, rfl⟩ | ⟨hk, rfl, rfl⟩
  · exact ⟨hk, fun _ => congrArg Int32.toInt64 (hfig hk).symm, h.setc _⟩
  · exact ⟨rfl, fun q => absurd q hk, h.setc _⟩
end LP
theorem okM_of {n : Nat} {u : StC} {v : StM} (h : rA n u v) : okM n v := fun s hs hd => by
  rcases (h.2.2.1 s hs).2 with ⟨-, -, -, q⟩ | ⟨B, D, hB, hD, -, q, -⟩
  · exact absurd q hd
  · exact ⟨B, hB, q⟩
theorem iniL_sp : ∀ r k (v : StM), (∀ t, ms_b (fm_iniL r k v) t = if k ≤ t ∧ t < k + r then -1 else ms_b v t) ∧ (∀ t, ms_n (fm_iniL r k v) t = if k ≤ t ∧ t < k + r then -1 else ms_n v t) ∧ ms_c (fm_iniL r k v) = ms_c v ∧ ms_o (fm_iniL r k v) = ms_o v ∧ ms_v (fm_iniL r k v) = ms_v v ∧ ms_d (fm_iniL r k v) = ms_d v ∧ ms_l (fm_iniL r k v) = ms_l v ∧ ms_u (fm_iniL r k v) = ms_u v ∧ ms_m (fm_iniL r k v) = ms_m v ∧ ms_h (fm_iniL r k v) = ms_h v ∧ ms_i (fm_iniL r k v) = ms_i v ∧ ms_j (fm_iniL r k v) = ms_j v ∧ ms_w (fm_iniL r k v) = ms_w v ∧ ms_t (fm_iniL r k v) = ms_t v := by
  intro r
  induction r with
  | zero => intro k v; exact ⟨fun t => (if_neg (by omega)).symm, fun t => (if_neg (by omega)).symm, rfl, rfl, rfl, rfl, rfl, rfl, rfl, rfl, rfl, rfl, rfl, rfl⟩
  | succ r ih =>
    intro k v
    rw [fm_iniL]
    obtain ⟨h1, h2, h3⟩ := ih (k + 1) (ms_c v, ms_o v, upd (ms_b v) k (-1), ms_v v, ms_d v, upd (ms_n v) k (-1), ms_l v, ms_u v, ms_m v, ms_h v, ms_i v, ms_j v, ms_w v, ms_t v)
    refine ⟨fun t => ?_, fun t => ?_, h3⟩
    · rw [h1]
      show (if k + 1 ≤ t ∧ t < k + 1 + r then -1 else upd (ms_b v) k (-1) t) = _
      by_cases e : t = k
      · subst e; rw [if_neg (by omega), if_pos (by omega), zq_at]
      · rw [zq_ne _ _ e]
        by_cases q : k + 1 ≤ t ∧ t < k + 1 + r
        · rw [if_pos q, if_pos (by omega)]
        · rw [if_neg q, if_neg (by omega)]
    · rw [h2]
      show (if k + 1 ≤ t ∧ t < k + 1 + r then -1 else upd (ms_n v) k (-1) t) = _
      by_cases e : t = k
      · subst e; rw [if_neg (by omega), if_pos (by omega), zq_at]
      · rw [zq_ne _ _ e]
        by_cases q : k + 1 ≤ t ∧ t < k + 1 + r
        · rw [if_pos q, if_pos (by omega)]
        · rw [if_neg q, if_neg (by omega)]
theorem ini_sim {n : Nat} (hn : n ≤ 12) : rR n 0 (fc_ini n) fm_ini := by
  obtain ⟨h1, h2, h3, h4, h5, h6, h7, h8, h9, h10, h11, h12, h13, h14⟩ := iniL_sp 12 0 (0, fun _ => 0, fun _ => 0, fun _ => 0, fun _ => 0, fun _ => 0, fun _ => 0, 0, 0, 0, 0, 0, 0, 0)
  have hk : ∀ s, s < n → cs_k (fc_ini n) s = -1 := fun s hs => (filC (-1) n 0 _ s).trans (if_pos (by omega))
  have hb : ∀ s, s < n → ms_b fm_ini s = -1 := fun s hs => (h1 s).trans (if_pos (by omega))
  have z32 : (0 : Int32).toInt = 0 := by decide
  have z64 : (0 : Int64).toInt = 0 := by decide
  refine ⟨⟨fun b _ => ?_, fun s _ => ?_, fun s hs => ?_, fun s t hs _ _ q => absurd (hb s hs) q, ?_, Or.inl rfl, ?_, ?_, ?_, ?_, ?_⟩, ⟨fun s t hs _ _ _ q _ => absurd (hk s hs) q, fun s _ => ?_, fun s _ => ?_⟩, ?_, ?_, ?_, ?_⟩
  · exact (congrFun h4 b).symm
  · exact (congrFun h5 s).symm
  · rw [hk s hs, hb s hs, show ms_n fm_ini s = -1 from (h2 s).trans (if_pos (by omega)), show cs_n (fc_ini n) s = -1 from (filC (-1) n 0 _ s).trans (if_pos (by omega)), show ms_d fm_ini s = 0 from congrFun h6 s]
    exact ⟨rfl, Or.inl ⟨rfl, rfl, rfl, rfl⟩⟩
  · exact h9.symm
  · exact h10.symm
  · exact h11.symm
  · exact h12.symm
  · exact h13.symm
  · exact h14.symm
  · exact Int.le_refl _
  · show (ms_l fm_ini s).toInt ≤ (ms_u fm_ini).toInt
    rw [show ms_l fm_ini s = 0 from congrFun h7 s, show ms_u fm_ini = 0 from h8]
    exact Int.le_refl _
  · show (0 : Int) ≤ (0 : Int32).toInt
    rw [z32]; exact Int.le_refl _
  · show (0 : Int32).toInt ≤ ((0 : Nat) : Int)
    rw [z32]; exact Int.le_refl _
  · show (0 : Int) ≤ (ms_u fm_ini).toInt
    rw [show ms_u fm_ini = 0 from h8, z64]; exact Int.le_refl _
  · show (ms_u fm_ini).toInt ≤ 13 * ((0 : Nat) : Int)
    rw [show ms_u fm_ini = 0 from h8, z64]; omega
end
section
theorem dL_cell_0 : decode cL_cell 0 = .ok (.iload_n 1, 1) := by decide +kernel
theorem dL_cell_1 : decode cL_cell 1 = .ok (.aload_n 0, 1) := by decide +kernel
theorem dL_cell_2 : decode cL_cell 2 = .ok (.arraylength, 1) := by decide +kernel
theorem dL_cell_3 : decode cL_cell 3 = .ok (.if_icmp .ge 9, 3) := by decide +kernel
theorem dL_cell_6 : decode cL_cell 6 = .ok (.aload_n 0, 1) := by decide +kernel
theorem dL_cell_7 : decode cL_cell 7 = .ok (.iload_n 1, 1) := by decide +kernel
theorem dL_cell_8 : decode cL_cell 8 = .ok (.iaload, 1) := by decide +kernel
theorem dL_cell_9 : decode cL_cell 9 = .ok (.goto 4, 3) := by decide +kernel
theorem dL_cell_12 : decode cL_cell 12 = .ok (.iconst 0, 1) := by decide +kernel
theorem dL_cell_13 : decode cL_cell 13 = .ok (.ireturn, 1) := by decide +kernel
theorem dL_read_0 : decode cL_read 0 = .ok (.aload_n 2, 1) := by decide +kernel
theorem dL_read_1 : decode cL_read 1 = .ok (.iconst 0, 1) := by decide +kernel
theorem dL_read_2 : decode cL_read 2 = .ok (.aload_n 0, 1) := by decide +kernel
theorem dL_read_3 : decode cL_read 3 = .ok (.iload_n 1, 1) := by decide +kernel
theorem dL_read_4 : decode cL_read 4 = .ok (.invokevirtual 7, 3) := by decide +kernel
theorem dL_read_7 : decode cL_read 7 = .ok (.lastore, 1) := by decide +kernel
theorem dL_read_8 : decode cL_read 8 = .ok (.goto 6, 3) := by decide +kernel
theorem dL_read_11 : decode cL_read 11 = .ok (.astore_n 3, 1) := by decide +kernel
theorem dL_read_12 : decode cL_read 12 = .ok (.iconst 1, 1) := by decide +kernel
theorem dL_read_13 : decode cL_read 13 = .ok (.ireturn, 1) := by decide +kernel
theorem dL_read_14 : decode cL_read 14 = .ok (.iconst 0, 1) := by decide +kernel
theorem dL_read_15 : decode cL_read 15 = .ok (.ireturn, 1) := by decide +kernel
theorem dL_write_0 : decode cL_write 0 = .ok (.aload_n 0, 1) := by decide +kernel
theorem dL_write_1 : decode cL_write 1 = .ok (.iload_n 1, 1) := by decide +kernel
theorem dL_write_2 : decode cL_write 2 = .ok (.lload_n 2, 1) := by decide +kernel
theorem dL_write_3 : decode cL_write 3 = .ok (.invokevirtual 15, 3) := by decide +kernel
theorem dL_write_6 : decode cL_write 6 = .ok (.goto 7, 3) := by decide +kernel
theorem dL_write_9 : decode cL_write 9 = .ok (.astore 4, 2) := by decide +kernel
theorem dL_write_11 : decode cL_write 11 = .ok (.iconst 1, 1) := by decide +kernel
theorem dL_write_12 : decode cL_write 12 = .ok (.ireturn, 1) := by decide +kernel
theorem dL_write_13 : decode cL_write 13 = .ok (.iconst 0, 1) := by decide +kernel
theorem dL_write_14 : decode cL_write 14 = .ok (.ireturn, 1) := by decide +kernel
theorem dL_cut_0 : decode cL_cut 0 = .ok (.aload 5, 2) := by decide +kernel
theorem dL_cut_2 : decode cL_cut 2 = .ok (.iconst 0, 1) := by decide +kernel
theorem dL_cut_3 : decode cL_cut 3 = .ok (.aload_n 0, 1) := by decide +kernel
theorem dL_cut_4 : decode cL_cut 4 = .ok (.iload_n 1, 1) := by decide +kernel
theorem dL_cut_5 : decode cL_cut 5 = .ok (.lload_n 2, 1) := by decide +kernel
theorem dL_cut_6 : decode cL_cut 6 = .ok (.iload 4, 2) := by decide +kernel
theorem dL_cut_8 : decode cL_cut 8 = .ok (.invokevirtual 19, 3) := by decide +kernel
theorem dL_cut_11 : decode cL_cut 11 = .ok (.i2l, 1) := by decide +kernel
theorem dL_cut_12 : decode cL_cut 12 = .ok (.lastore, 1) := by decide +kernel
theorem dL_cut_13 : decode cL_cut 13 = .ok (.goto 11, 3) := by decide +kernel
theorem dL_cut_16 : decode cL_cut 16 = .ok (.astore 6, 2) := by decide +kernel
theorem dL_cut_18 : decode cL_cut 18 = .ok (.iconst 1, 1) := by decide +kernel
theorem dL_cut_19 : decode cL_cut 19 = .ok (.ireturn, 1) := by decide +kernel
theorem dL_cut_20 : decode cL_cut 20 = .ok (.astore 6, 2) := by decide +kernel
theorem dL_cut_22 : decode cL_cut 22 = .ok (.iconst 2, 1) := by decide +kernel
theorem dL_cut_23 : decode cL_cut 23 = .ok (.ireturn, 1) := by decide +kernel
theorem dL_cut_24 : decode cL_cut 24 = .ok (.iconst 0, 1) := by decide +kernel
theorem dL_cut_25 : decode cL_cut 25 = .ok (.ireturn, 1) := by decide +kernel
theorem dL_mode_0 : decode cL_mode 0 = .ok (.aload_n 2, 1) := by decide +kernel
theorem dL_mode_1 : decode cL_mode 1 = .ok (.iconst 0, 1) := by decide +kernel
theorem dL_mode_2 : decode cL_mode 2 = .ok (.aload_n 0, 1) := by decide +kernel
theorem dL_mode_3 : decode cL_mode 3 = .ok (.iload_n 1, 1) := by decide +kernel
theorem dL_mode_4 : decode cL_mode 4 = .ok (.invokevirtual 25, 3) := by decide +kernel
theorem dL_mode_7 : decode cL_mode 7 = .ok (.i2l, 1) := by decide +kernel
theorem dL_mode_8 : decode cL_mode 8 = .ok (.lastore, 1) := by decide +kernel
theorem dL_mode_9 : decode cL_mode 9 = .ok (.goto 6, 3) := by decide +kernel
theorem dL_mode_12 : decode cL_mode 12 = .ok (.astore_n 3, 1) := by decide +kernel
theorem dL_mode_13 : decode cL_mode 13 = .ok (.iconst 1, 1) := by decide +kernel
theorem dL_mode_14 : decode cL_mode 14 = .ok (.ireturn, 1) := by decide +kernel
theorem dL_mode_15 : decode cL_mode 15 = .ok (.iconst 0, 1) := by decide +kernel
theorem dL_mode_16 : decode cL_mode 16 = .ok (.ireturn, 1) := by decide +kernel
theorem dL_back_0 : decode cL_back 0 = .ok (.aload_n 2, 1) := by decide +kernel
theorem dL_back_1 : decode cL_back 1 = .ok (.iconst 0, 1) := by decide +kernel
theorem dL_back_2 : decode cL_back 2 = .ok (.aload_n 0, 1) := by decide +kernel
theorem dL_back_3 : decode cL_back 3 = .ok (.iload_n 1, 1) := by decide +kernel
theorem dL_back_4 : decode cL_back 4 = .ok (.invokevirtual 29, 3) := by decide +kernel
theorem dL_back_7 : decode cL_back 7 = .ok (.i2l, 1) := by decide +kernel
theorem dL_back_8 : decode cL_back 8 = .ok (.lastore, 1) := by decide +kernel
theorem dL_back_9 : decode cL_back 9 = .ok (.goto 6, 3) := by decide +kernel
theorem dL_back_12 : decode cL_back 12 = .ok (.astore_n 3, 1) := by decide +kernel
theorem dL_back_13 : decode cL_back 13 = .ok (.iconst 1, 1) := by decide +kernel
theorem dL_back_14 : decode cL_back 14 = .ok (.ireturn, 1) := by decide +kernel
theorem dL_back_15 : decode cL_back 15 = .ok (.iconst 0, 1) := by decide +kernel
theorem dL_back_16 : decode cL_back 16 = .ok (.ireturn, 1) := by decide +kernel
theorem dL_slot_0 : decode cL_slot 0 = .ok (.aload_n 2, 1) := by decide +kernel
theorem dL_slot_1 : decode cL_slot 1 = .ok (.iconst 0, 1) := by decide +kernel
theorem dL_slot_2 : decode cL_slot 2 = .ok (.aload_n 0, 1) := by decide +kernel
theorem dL_slot_3 : decode cL_slot 3 = .ok (.iload_n 1, 1) := by decide +kernel
theorem dL_slot_4 : decode cL_slot 4 = .ok (.invokevirtual 32, 3) := by decide +kernel
theorem dL_slot_7 : decode cL_slot 7 = .ok (.i2l, 1) := by decide +kernel
theorem dL_slot_8 : decode cL_slot 8 = .ok (.lastore, 1) := by decide +kernel
theorem dL_slot_9 : decode cL_slot 9 = .ok (.goto 6, 3) := by decide +kernel
theorem dL_slot_12 : decode cL_slot 12 = .ok (.astore_n 3, 1) := by decide +kernel
theorem dL_slot_13 : decode cL_slot 13 = .ok (.iconst 1, 1) := by decide +kernel
theorem dL_slot_14 : decode cL_slot 14 = .ok (.ireturn, 1) := by decide +kernel
theorem dL_slot_15 : decode cL_slot 15 = .ok (.iconst 0, 1) := by decide +kernel
theorem dL_slot_16 : decode cL_slot 16 = .ok (.ireturn, 1) := by decide +kernel
theorem dL_dirty_0 : decode cL_dirty 0 = .ok (.aload_n 2, 1) := by decide +kernel
theorem dL_dirty_1 : decode cL_dirty 1 = .ok (.iconst 0, 1) := by decide +kernel
theorem dL_dirty_2 : decode cL_dirty 2 = .ok (.aload_n 0, 1) := by decide +kernel
theorem dL_dirty_3 : decode cL_dirty 3 = .ok (.iload_n 1, 1) := by decide +kernel
theorem dL_dirty_4 : decode cL_dirty 4 = .ok (.invokevirtual 35, 3) := by decide +kernel
theorem dL_dirty_7 : decode cL_dirty 7 = .ok (.ifCond .eq 7, 3) := by decide +kernel
theorem dL_dirty_10 : decode cL_dirty 10 = .ok (.lconst 1, 1) := by decide +kernel
theorem dL_dirty_11 : decode cL_dirty 11 = .ok (.goto 4, 3) := by decide +kernel
theorem dL_dirty_14 : decode cL_dirty 14 = .ok (.lconst 0, 1) := by decide +kernel
theorem dL_dirty_15 : decode cL_dirty 15 = .ok (.lastore, 1) := by decide +kernel
theorem dL_dirty_16 : decode cL_dirty 16 = .ok (.goto 9, 3) := by decide +kernel
theorem dL_dirty_19 : decode cL_dirty 19 = .ok (.astore_n 3, 1) := by decide +kernel
theorem dL_dirty_20 : decode cL_dirty 20 = .ok (.iconst 1, 1) := by decide +kernel
theorem dL_dirty_21 : decode cL_dirty 21 = .ok (.ireturn, 1) := by decide +kernel
theorem dL_dirty_22 : decode cL_dirty 22 = .ok (.astore_n 3, 1) := by decide +kernel
theorem dL_dirty_23 : decode cL_dirty 23 = .ok (.iconst 2, 1) := by decide +kernel
theorem dL_dirty_24 : decode cL_dirty 24 = .ok (.ireturn, 1) := by decide +kernel
theorem dL_dirty_25 : decode cL_dirty 25 = .ok (.iconst 0, 1) := by decide +kernel
theorem dL_dirty_26 : decode cL_dirty 26 = .ok (.ireturn, 1) := by decide +kernel
theorem dL_origin_0 : decode cL_origin 0 = .ok (.aload_n 2, 1) := by decide +kernel
theorem dL_origin_1 : decode cL_origin 1 = .ok (.iconst 0, 1) := by decide +kernel
theorem dL_origin_2 : decode cL_origin 2 = .ok (.aload_n 0, 1) := by decide +kernel
theorem dL_origin_3 : decode cL_origin 3 = .ok (.iload_n 1, 1) := by decide +kernel
theorem dL_origin_4 : decode cL_origin 4 = .ok (.invokevirtual 41, 3) := by decide +kernel
theorem dL_origin_7 : decode cL_origin 7 = .ok (.lastore, 1) := by decide +kernel
theorem dL_origin_8 : decode cL_origin 8 = .ok (.goto 6, 3) := by decide +kernel
theorem dL_origin_11 : decode cL_origin 11 = .ok (.astore_n 3, 1) := by decide +kernel
theorem dL_origin_12 : decode cL_origin 12 = .ok (.iconst 1, 1) := by decide +kernel
theorem dL_origin_13 : decode cL_origin 13 = .ok (.ireturn, 1) := by decide +kernel
theorem dL_origin_14 : decode cL_origin 14 = .ok (.iconst 0, 1) := by decide +kernel
theorem dL_origin_15 : decode cL_origin 15 = .ok (.ireturn, 1) := by decide +kernel
theorem dL_order_0 : decode cL_order 0 = .ok (.aload_n 2, 1) := by decide +kernel
theorem dL_order_1 : decode cL_order 1 = .ok (.iconst 0, 1) := by decide +kernel
theorem dL_order_2 : decode cL_order 2 = .ok (.aload_n 0, 1) := by decide +kernel
theorem dL_order_3 : decode cL_order 3 = .ok (.iload_n 1, 1) := by decide +kernel
theorem dL_order_4 : decode cL_order 4 = .ok (.invokevirtual 44, 3) := by decide +kernel
theorem dL_order_7 : decode cL_order 7 = .ok (.i2l, 1) := by decide +kernel
theorem dL_order_8 : decode cL_order 8 = .ok (.lastore, 1) := by decide +kernel
theorem dL_order_9 : decode cL_order 9 = .ok (.goto 6, 3) := by decide +kernel
theorem dL_order_12 : decode cL_order 12 = .ok (.astore_n 3, 1) := by decide +kernel
theorem dL_order_13 : decode cL_order 13 = .ok (.iconst 1, 1) := by decide +kernel
theorem dL_order_14 : decode cL_order 14 = .ok (.ireturn, 1) := by decide +kernel
theorem dL_order_15 : decode cL_order 15 = .ok (.iconst 0, 1) := by decide +kernel
theorem dL_order_16 : decode cL_order 16 = .ok (.ireturn, 1) := by decide +kernel
theorem dL_noted_0 : decode cL_noted 0 = .ok (.aload_n 2, 1) := by decide +kernel
theorem dL_noted_1 : decode cL_noted 1 = .ok (.iconst 0, 1) := by decide +kernel
theorem dL_noted_2 : decode cL_noted 2 = .ok (.aload_n 0, 1) := by decide +kernel
theorem dL_noted_3 : decode cL_noted 3 = .ok (.iload_n 1, 1) := by decide +kernel
theorem dL_noted_4 : decode cL_noted 4 = .ok (.invokevirtual 49, 3) := by decide +kernel
theorem dL_noted_7 : decode cL_noted 7 = .ok (.i2l, 1) := by decide +kernel
theorem dL_noted_8 : decode cL_noted 8 = .ok (.lastore, 1) := by decide +kernel
theorem dL_noted_9 : decode cL_noted 9 = .ok (.goto 6, 3) := by decide +kernel
theorem dL_noted_12 : decode cL_noted 12 = .ok (.astore_n 3, 1) := by decide +kernel
theorem dL_noted_13 : decode cL_noted 13 = .ok (.iconst 1, 1) := by decide +kernel
theorem dL_noted_14 : decode cL_noted 14 = .ok (.ireturn, 1) := by decide +kernel
theorem dL_noted_15 : decode cL_noted 15 = .ok (.iconst 0, 1) := by decide +kernel
theorem dL_noted_16 : decode cL_noted 16 = .ok (.ireturn, 1) := by decide +kernel
theorem dL_figure_0 : decode cL_figure 0 = .ok (.aload_n 2, 1) := by decide +kernel
theorem dL_figure_1 : decode cL_figure 1 = .ok (.iconst 0, 1) := by decide +kernel
theorem dL_figure_2 : decode cL_figure 2 = .ok (.aload_n 0, 1) := by decide +kernel
theorem dL_figure_3 : decode cL_figure 3 = .ok (.iload_n 1, 1) := by decide +kernel
theorem dL_figure_4 : decode cL_figure 4 = .ok (.invokevirtual 52, 3) := by decide +kernel
theorem dL_figure_7 : decode cL_figure 7 = .ok (.i2l, 1) := by decide +kernel
theorem dL_figure_8 : decode cL_figure 8 = .ok (.lastore, 1) := by decide +kernel
theorem dL_figure_9 : decode cL_figure 9 = .ok (.goto 6, 3) := by decide +kernel
theorem dL_figure_12 : decode cL_figure 12 = .ok (.astore_n 3, 1) := by decide +kernel
theorem dL_figure_13 : decode cL_figure 13 = .ok (.iconst 1, 1) := by decide +kernel
theorem dL_figure_14 : decode cL_figure 14 = .ok (.ireturn, 1) := by decide +kernel
theorem dL_figure_15 : decode cL_figure 15 = .ok (.iconst 0, 1) := by decide +kernel
theorem dL_figure_16 : decode cL_figure 16 = .ok (.ireturn, 1) := by decide +kernel
end
section
abbrev wA (n : Nat) (a : Nat → Nat) (ca : Nat → ClassId) (a2 : Nat → Nat) (ca2 : Nat → ClassId) (qo : Nat) (co : ClassId) (z : StC × StM × (Nat → Int64)) : va_W := wC n a ca z.1 ++ (wM n a2 ca2 z.2.1 ++ [(qo, .inl (co, 1, .inr (.inl z.2.2)))])
abbrev tA (ca ca2 : Nat → ClassId) (co : ClassId) : List (ClassId × FieldType) := tC ca ++ (tM ca2 ++ [(co, .long)])
theorem slots_le (x : Int32) : 1 ≤ fc_slots x ∧ fc_slots x ≤ 12 := by
  by_cases h1 : x < 1
  · obtain ⟨n, a, b, e, -⟩ := zs_a h1; omega
  · by_cases h2 : 12 < x
    · obtain ⟨n, a, b, e, -⟩ := zs_b h1 h2; omega
    · obtain ⟨n, a, b, e, -⟩ := zs_c h1 h2; omega
theorem zr_lc {L j : Nat} (hL : L ≤ 2561) (hj : j ≤ 3000) (h : ¬ Int32.ofNat L - 5 < nI j) : j + 5 ≤ L := by
  have e1 : (Int32.ofNat L).toInt = (L : Int) := nI_toInt (n := L) (by omega)
  have e5 : (5 : Int32).toInt = 5 := by decide
  have e2 : (Int32.ofNat L - 5).toInt = (L : Int) - 5 := by
    rw [Jvm.Kit.i32_sub (by rw [e1, e5]; omega) (by rw [e1, e5]; omega), e1, e5]
  rw [Int32.lt_iff_toInt_lt, e2, nI_toInt (by omega)] at h
  omega
theorem zr_out14 {q : Int32} (e0 : ¬ q = 0) (e1 : ¬ q = 1) (e2 : ¬ q = 2) (e3 : ¬ q = 3) (e4 : ¬ q = 4) (e5 : ¬ q = 5) (e6 : ¬ q = 6) (e7 : ¬ q = 7) (e8 : ¬ q = 8) (e9 : ¬ q = 9) (e10 : ¬ q = 10) (e11 : ¬ q = 11) (e12 : ¬ q = 12) (e13 : ¬ q = 13) : q.toInt < 0 ∨ 13 < q.toInt := by
  have f0 : ¬ q.toInt = 0 := lv_neT e0 (by decide)
  have f1 : ¬ q.toInt = 1 := lv_neT e1 (by decide)
  have f2 : ¬ q.toInt = 2 := lv_neT e2 (by decide)
  have f3 : ¬ q.toInt = 3 := lv_neT e3 (by decide)
  have f4 : ¬ q.toInt = 4 := lv_neT e4 (by decide)
  have f5 : ¬ q.toInt = 5 := lv_neT e5 (by decide)
  have f6 : ¬ q.toInt = 6 := lv_neT e6 (by decide)
  have f7 : ¬ q.toInt = 7 := lv_neT e7 (by decide)
  have f8 : ¬ q.toInt = 8 := lv_neT e8 (by decide)
  have f9 : ¬ q.toInt = 9 := lv_neT e9 (by decide)
  have f10 : ¬ q.toInt = 10 := lv_neT e10 (by decide)
  have f11 : ¬ q.toInt = 11 := lv_neT e11 (by decide)
  have f12 : ¬ q.toInt = 12 := lv_neT e12 (by decide)
  have f13 : ¬ q.toInt = 13 := lv_neT e13 (by decide)
  omega
section ZL
variable {p : Program} {l : Launch} {e : Env} {R : Room} {s : State} {m : MethodId} {args : Array Value} {below : List Frame} {meth : Method} {c : Code} {H H0 : Heap} {locs : List Loc} {cells slots : Nat} {Q : State → Prop}
variable {cc : ByteArray} {pc : Nat} {ls : Array Slot} {rest : List Value} {A : Nat → Prop}
theorem zr_loopC {σ : Type} (kc ks : σ → Nat) (I : Nat → σ → Array Slot → Heap → List Loc → Prop) (g : Array Slot → JFrame)
    (step : ∀ (r : Nat) (x : σ) (ls : Array Slot) (H : Heap) (locs : List Loc), (∀ (r' : Nat) (x' : σ) (ls' : Array Slot) (H' : Heap) (locs' : List Loc), r' < r → I r' x' ls' H' locs' → W p l e R s m args below meth c H' locs' (kc x') (ks x') Q (g ls')) → I r x ls H locs → W p l e R s m args below meth c H locs (kc x) (ks x) Q (g ls))
    (r : Nat) (x : σ) (ls : Array Slot) (H : Heap) (locs : List Loc) (h : I r x ls H locs) : W p l e R s m args below meth c H locs (kc x) (ks x) Q (g ls) := by
  have key : ∀ (N r : Nat) (x : σ) (ls : Array Slot) (H : Heap) (locs : List Loc), r < N → I r x ls H locs → W p l e R s m args below meth c H locs (kc x) (ks x) Q (g ls) := by
    intro N
    induction N with
    | zero => intro r x ls H locs h0; omega
    | succ N ih => intro r x ls H locs h0 hI; exact step r x ls H locs (fun r' x' ls' H' locs' h1 h2 => ih r' x' ls' H' locs' (by omega) h2) hI
  exact key (r + 1) r x ls H locs (by omega) h
theorem zr_sld0 (hx : p.tables.exec = Jvm.exec) (hb : c.code = cc) {b L : Nat} {xs : Nat → Int32} (hX : va_X b L xs s H0) (hbl : b < H0.size) (hbA : ¬ A b) (hS : va_S A H0 H locs) {j : Nat} (hj : j < L) (hL : L ≤ 2561) (d : decode cc pc = .ok (.iaload, 1))
    (kk : W p l e R s m args below meth c H locs cells slots Q (F0 m (pc + 1) ls (.int (xs j) :: rest))) : W p l e R s m args below meth c H locs cells slots Q (F0 m pc ls (.int (nI j) :: .ref b :: rest)) := by
  refine va_sld hx hb hX hbl hbA hS (vp_in_nI hj (by omega)) d ?_
  rw [nI_clamp (by omega)]
  exact kk
theorem zr_sldk (hx : p.tables.exec = Jvm.exec) (hb : c.code = cc) {b L : Nat} {xs : Nat → Int32} (hX : va_X b L xs s H0) (hbl : b < H0.size) (hbA : ¬ A b) (hS : va_S A H0 H locs) {j : Nat} (k : Nat) {q : Int32} (hq : q = nI k) (hj : j + k < L) (hL : L ≤ 2561) (d : decode cc pc = .ok (.iaload, 1))
    (kk : W p l e R s m args below meth c H locs cells slots Q (F0 m (pc + 1) ls (.int (xs (j + k)) :: rest))) : W p l e R s m args below meth c H locs cells slots Q (F0 m pc ls (.int (nI j + q) :: .ref b :: rest)) := by
  rw [hq, nI_add]
  exact zr_sld0 hx hb hX hbl hbA hS hj hL d kk
end ZL
set_option maxHeartbeats 4000000 in
set_option maxRecDepth 100000 in
theorem c_L_cell (l : Launch) (b L : Nat) (xs : Nat → Int32) (hL : L ≤ 2561) (sz : Nat) : Met l yL_cell wsL_cell ({ frames := 0, cells := 0, slots := 0, locals := 0 }) (va_Pc [.ref b, .int 0] (fun U => U.heap.size = sz ∧ va_X b L xs U U.heap ∧ b < sz)) (va_Qi (fun r (_ : Unit) => r = if L = 0 then 0 else xs 0) (fun _ _ => True) (fun q => sz ≤ q)) 0 0 (fun q => sz ≤ q) := by
  refine Met.ofW (cc := cL_cell) (maxL := 2) (ret := (some .int)) (by decide) rfl ?_
  intro p e s m args below meth c s₁ B hml hv
  obtain ⟨rfl, hsz, hX, hbs⟩ := hv
  have hx := B.exec
  have hb := B.bytes
  have hr := B.returns
  have hlocks := B.notSynchronized
  have hbl : b < s.heap.size := by omega
  have hbA : ¬ sz ≤ b := by omega
  obtain ⟨H, hH, hS⟩ : ∃ H, H = s.heap ∧ va_S (fun q => sz ≤ q) s.heap H [] := ⟨_, rfl, va_S.rf⟩
  rw [← hH]
  have hl := lv_entry ([.ref b, .int 0]) (n := 2) (Nat.le_of_ble_eq_true rfl)
  rw [lg_entry_eq]
  generalize (lg_sl ([.ref b, .int 0]) ++ List.replicate (2 - (lg_sl ([.ref b, .int 0])).length) Slot.unset).toArray = ls at hl ⊢
  have hl : lv_has ls 2 [(0, .ref b), (1, .int 0)] := hl
  refine lv_iload_n hx hb dL_cell_0 rfl (lv_at hl 1 rfl) ?_
  refine lv_aload_n hx hb dL_cell_1 rfl (lv_at hl 0 rfl) ?_
  refine va_slen hx hb hX hbl hbA hS dL_cell_2 ?_
  refine lv_icmp_ge hx hb dL_cell_3 (tgt := 12) rfl (fun h => ?_) (fun h => ?_)
  · have h0 : L = 0 := by
      have := (nI_leI (a := L) (b := 0) (by omega) (by omega)).mp h
      omega
    refine lv_iconst (v := 0) hx hb dL_cell_12 (by decide) ?_
    exact W.iret (v := 0) hx hb hr (fun t ht hW => ⟨⟨0, (), rfl, (if_pos h0).symm, trivial⟩, hS.F ht⟩) hS.2.2 dL_cell_13
  · have h0 : 0 < L := Nat.pos_of_ne_zero fun z => h (by subst z; decide)
    refine lv_aload_n hx hb dL_cell_6 rfl (lv_at hl 0 rfl) ?_
    refine lv_iload_n hx hb dL_cell_7 rfl (lv_at hl 1 rfl) ?_
    refine zr_sld0 (j := 0) hx hb hX hbl hbA hS h0 hL dL_cell_8 ?_
    refine lv_goto hx hb dL_cell_9 (tgt := 13) rfl ?_
    exact W.iret (v := xs 0) hx hb hr (fun t ht hW => ⟨⟨xs 0, (), rfl, (if_neg (by omega)).symm, trivial⟩, hS.F ht⟩) hS.2.2 dL_cell_13
theorem st_str {b k : Nat} {s : State} (h : (Cond.exactly (.string "WriteBackTier" k) "java/lang/String").before #[Value.ref b] s = true) : ∃ a : Nat, (Term.string "WriteBackTier" k).eval #[Value.ref b] s none [] s = some (.ref a) := by
  obtain ⟨a, c, cA, kA, q1, -⟩ := Cond.exactly_spec (args := #[Value.ref b]) (first := s) (o := none) (s := s) (idx := []) (t := .string "WriteBackTier" k) (cls := "java/lang/String") h
  exact ⟨a, q1⟩
set_option maxHeartbeats 4000000 in
set_option maxRecDepth 100000 in
theorem st_E {b : Nat} {s : State} (hts : ∀ w ∈ lw_tbl, w.before #[Value.ref b] s = true) (hgv : (Jvm.Cond.and given_1 narrow_1).before #[Value.ref b] s = true) : ∃ sa : Nat → Nat, zE sa (fun q => s.heap.size ≤ q) s ∧ zC s := by
  have hs := flat_of_before _ hgv
  obtain ⟨a0, g0⟩ := st_str (k := 145) (hs _ (by decide +kernel))
  obtain ⟨a1, g1⟩ := st_str (k := 77) (hs _ (by decide +kernel))
  obtain ⟨a2, g2⟩ := st_str (k := 84) (hs _ (by decide +kernel))
  obtain ⟨a3, g3⟩ := st_str (k := 90) (hs _ (by decide +kernel))
  obtain ⟨a4, g4⟩ := st_str (k := 95) (hs _ (by decide +kernel))
  obtain ⟨a5, g5⟩ := st_str (k := 121) (hs _ (by decide +kernel))
  obtain ⟨a6, g6⟩ := st_str (k := 132) (hs _ (by decide +kernel))
  obtain ⟨a7, g7⟩ := st_str (k := 135) (hs _ (by decide +kernel))
  obtain ⟨a8, g8⟩ := st_str (k := 143) (hs _ (by decide +kernel))
  refine ⟨fun i => match i with | 0 => a0 | 1 => a1 | 2 => a2 | 3 => a3 | 4 => a4 | 5 => a5 | 6 => a6 | 7 => a7 | _ => a8, ⟨⟨?_, ?_⟩, ⟨?_, ?_, ?_, ?_, ?_, ?_, ?_⟩, ⟨?_, ?_, ?_, ?_, ?_, ?_, ?_, ?_, ?_⟩⟩, ?_, ?_⟩
  · exact vx_Zqof (hts (.laysStatic Bundle.tN "UNASSIGNED_STACK" Bundle.steD) (by decide +kernel)) (hts (.initialized Bundle.tN) (by decide +kernel)) (hs (.isRef (.static Bundle.tN "UNASSIGNED_STACK" Bundle.steD)) (by decide +kernel)) (fun a h9 => Nat.not_le.mpr h9)
  · exact vx_Zqof (hts (.laysStatic Bundle.tN "SUPPRESSED_SENTINEL" Bundle.listD) (by decide +kernel)) (hts (.initialized Bundle.tN) (by decide +kernel)) (hs (.isRef (.static Bundle.tN "SUPPRESSED_SENTINEL" Bundle.listD)) (by decide +kernel)) (fun a h9 => Nat.not_le.mpr h9)
  · exact va_Nw.of rfl (hts _ (by decide +kernel))
  · exact va_Nw.of rfl (hts _ (by decide +kernel))
  · exact va_Nw.of rfl (hts _ (by decide +kernel))
  · exact va_Nw.of rfl (hts _ (by decide +kernel))
  · exact va_Nw.of rfl (hts _ (by decide +kernel))
  · exact va_Nw.of rfl (hts _ (by decide +kernel))
  · exact va_Nw.of rfl (hts _ (by decide +kernel))
  · exact vk_R.of (A := #[Value.ref b]) (hts (.stringRef "WriteBackTier" 145 "no such block") (by decide +kernel)) g0
  · exact vk_R.of (A := #[Value.ref b]) (hts (.stringRef "WriteBackTier" 77 "no such number of steps") (by decide +kernel)) g1
  · exact vk_R.of (A := #[Value.ref b]) (hts (.stringRef "WriteBackTier" 84 "the mode is not BACK") (by decide +kernel)) g2
  · exact vk_R.of (A := #[Value.ref b]) (hts (.stringRef "WriteBackTier" 90 "no such mode") (by decide +kernel)) g3
  · exact vk_R.of (A := #[Value.ref b]) (hts (.stringRef "WriteBackTier" 95 "no such number of slots") (by decide +kernel)) g4
  · exact vk_R.of (A := #[Value.ref b]) (hts (.stringRef "WriteBackTier" 121 "the block is not cached") (by decide +kernel)) g5
  · exact vk_R.of (A := #[Value.ref b]) (hts (.stringRef "WriteBackTier" 132 "no such place in the order") (by decide +kernel)) g6
  · exact vk_R.of (A := #[Value.ref b]) (hts (.stringRef "WriteBackTier" 135 "no such slot") (by decide +kernel)) g7
  · exact vk_R.of (A := #[Value.ref b]) (hts (.stringRef "WriteBackTier" 143 "no such figure") (by decide +kernel)) g8
  · exact va_Nc.of (hs _ (by decide +kernel))
  · exact va_Nc.of (hs _ (by decide +kernel))
end
