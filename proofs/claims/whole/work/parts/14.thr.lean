def kc_b (b : Int32) : Int32 := if b < 0 then 1 else if b < 64 then 0 else 1
def kc_cut (m b q : Int32) : Int32 := if kc_b b = 0 then (if q < 0 then 1 else if q ≤ 2 then (if m = 0 then 0 else 2) else 1) else 1
def kc_mode (x : Int32) : Int32 := if x = 0 then 0 else if x = 1 then 0 else if x = 2 then 0 else 1
def kc_back (q : Int32) : Int32 := if q < 0 then 1 else if q ≤ 12 then 0 else 1
def kc_dirty (n : Nat) (f : Nat → Int32) (b : Int32) : Int32 := if kc_b b = 0 then (match fc_find f b.toNatClampNeg n 0 with
  | none => 2
  | some _ => 0) else 1
def kc_order (o : Option Int32) : Int32 := match o with
  | none => 1
  | some _ => 0
def kc_noted (n : Nat) (q : Int32) : Int32 := if q < 0 then 1 else if q < nI n then 0 else 1
def kc_fig (q : Int32) : Int32 := if q = 0 then 0 else if q = 1 then 0 else if q = 2 then 0 else if q = 3 then 0 else if q = 4 then 0 else if q = 5 then 0 else if q = 6 then 0 else if q = 7 then 0 else 1
theorem kb_nI {b : Int32} (h : kc_b b = 0) : ∃ j, j < 64 ∧ b = nI j := by
  unfold kc_b at h
  by_cases h1 : b < 0
  · rw [if_pos h1] at h; exact absurd h (by decide)
  · rw [if_neg h1] at h
    by_cases h2 : b < 64
    · obtain ⟨j, hj, rfl⟩ := nI_of h1
      exact ⟨j, (nI_ltI (b := 64) hj (by omega)).mp h2, rfl⟩
    · rw [if_neg h2] at h; exact absurd h (by decide)
theorem kb_10 (b : Int32) : kc_b b = 0 ∨ kc_b b = 1 := by
  unfold kc_b
  split
  · exact Or.inr rfl
  · split
    · exact Or.inl rfl
    · exact Or.inr rfl
theorem k_ne {x : Int32} (h : x = 1) : ¬ x = 0 := by rw [h]; decide
theorem k_ne2 {x : Int32} (h : x = 2) : ¬ x = 0 := by rw [h]; decide
def eIA : String := "java/lang/IllegalArgumentException"
def eIS : String := "java/lang/IllegalStateException"
def eNS : String := "java/util/NoSuchElementException"
def eIO : String := "java/lang/IndexOutOfBoundsException"
def zD (C : String) : Cond := .declares ⟨C, "<init>", "(Ljava/lang/String;)V"⟩
def zS (sa : Nat → Nat) (U : State) : Prop := vk_R RX0 145 "no such block" (sa 0) U ∧ vk_R RX0 77 "no such number of steps" (sa 1) U ∧ vk_R RX0 84 "the mode is not BACK" (sa 2) U ∧ vk_R RX0 90 "no such mode" (sa 3) U ∧ vk_R RX0 95 "no such number of slots" (sa 4) U ∧ vk_R RX0 121 "the block is not cached" (sa 5) U ∧ vk_R RX0 132 "no such place in the order" (sa 6) U ∧ vk_R RX0 135 "no such slot" (sa 7) U ∧ vk_R RX0 143 "no such figure" (sa 8) U
def zN (U : State) : Prop := va_Nw (.castable "java/lang/IllegalArgumentException" "java/lang/IllegalArgumentException") U ∧ va_Nw (.castable "java/lang/IllegalStateException" "java/lang/IllegalStateException") U ∧ va_Nw (.castable "java/util/NoSuchElementException" "java/util/NoSuchElementException") U ∧ va_Nw (.castable "java/lang/IndexOutOfBoundsException" "java/lang/IndexOutOfBoundsException") U ∧ va_Nw (.declares ⟨"java/lang/RuntimeException", "<init>", "(Ljava/lang/String;)V"⟩) U ∧ va_Nw (.declares ⟨"java/lang/Exception", "<init>", "(Ljava/lang/String;)V"⟩) U ∧ va_Nw (.declares ⟨"java/lang/Throwable", "<init>", "(Ljava/lang/String;)V"⟩) U
def zT (A : Nat → Prop) (U : State) : Prop := vx_Zq Bundle.tN "UNASSIGNED_STACK" Bundle.steD A U U.heap ∧ vx_Zq Bundle.tN "SUPPRESSED_SENTINEL" Bundle.listD A U U.heap
def zE (sa : Nat → Nat) (A : Nat → Prop) (U : State) : Prop := zT A U ∧ zN U ∧ zS sa U
theorem zE.to {sa : Nat → Nat} {s U : State} {A B : Nat → Prop} (h : zE sa A s) (hW : s.WarmedH U.vm) (hS : ∀ q : Nat, q < s.heap.size → ¬ A q → U.heap[q]? = s.heap[q]?) (hAB : ∀ q, B q → A q) : zE sa B U := by
  obtain ⟨⟨h1, h2⟩, ⟨n1, n2, n3, n4, n5, n6, n7⟩, ⟨s1, s2, s3, s4, s5, s6, s7, s8, s9⟩⟩ := h
  exact ⟨⟨vx_Zq.moved hW.alike ((h1.kept hS).narrow hAB), vx_Zq.moved hW.alike ((h2.kept hS).narrow hAB)⟩, ⟨n1.warmC hW, n2.warmC hW, n3.warmC hW, n4.warmC hW, n5.warmD hW, n6.warmD hW, n7.warmD hW⟩, ⟨s1.warm hW, s2.warm hW, s3.warm hW, s4.warm hW, s5.warm hW, s6.warm hW, s7.warm hW, s8.warm hW, s9.warm hW⟩⟩
theorem zE.call {sa : Nat → Nat} {A : Nat → Prop} {U : State} {g : JFrame} {mk : MethodId} {a : Array Value} (h : zE sa A U) : zE sa A (U.calling g mk a) := zE.to (U := U.calling g mk a) h (State.WarmedH.refl U) (fun _ _ _ => rfl) (fun _ h => h)
theorem zr_F {A : Nat → Prop} {s t : State} {H : Heap} {locs : List Loc} (hS : va_S A s.heap H locs) (h1 : H.size ≤ t.heap.size) (h2 : ∀ q : Nat, q < H.size → t.heap[q]? = H[q]?) : va_F A s t :=
  ⟨Nat.le_trans hS.1 h1, fun q q1 q2 => (h2 q (Nat.lt_of_lt_of_le q1 hS.1)).trans (hS.2.1 q q1 q2)⟩
theorem mk_75 : Cond.classLink RX0 75 "java/lang/IllegalArgumentException" ∈ wsG := zw_in (i := 109) (by decide +kernel) rfl
theorem mi_e79 : Cond.initialized "java/lang/IllegalArgumentException" ∈ wsG := zw_in (i := 7) (by decide +kernel) rfl
theorem zat_79 {args : Array Value} {s : State} (hts : ∀ w ∈ wsG, w.before args s = true) (hN : zN s) : ∀ w ∈ vx_atS RX0 79 "java/lang/IllegalArgumentException" ["java/lang/RuntimeException", "java/lang/Exception"], w.before args s = true := vx_hat (B := [.castable "java/lang/IllegalArgumentException" "java/lang/IllegalArgumentException", .declares ⟨"java/lang/RuntimeException", "<init>", "(Ljava/lang/String;)V"⟩, .declares ⟨"java/lang/Exception", "<init>", "(Ljava/lang/String;)V"⟩, .declares ⟨"java/lang/Throwable", "<init>", "(Ljava/lang/String;)V"⟩]) (fun w hw => hts w ((by decide +kernel : ∀ w ∈ (vx_atS RX0 79 "java/lang/IllegalArgumentException" ["java/lang/RuntimeException", "java/lang/Exception"]).filter goodWord, w ∈ wsG) w hw)) (by decide +kernel) (vx_c (va_Nw.use rfl hN.1) (vx_c (va_Nw.use rfl hN.2.2.2.2.1) (vx_c (va_Nw.use rfl hN.2.2.2.2.2.1) (vx_c (va_Nw.use rfl hN.2.2.2.2.2.2) vx_n))))
theorem zgd_79 : ∀ w ∈ Cond.classLink RX0 75 "java/lang/IllegalArgumentException" :: Cond.initialized "java/lang/IllegalArgumentException" :: vx_atS RX0 79 "java/lang/IllegalArgumentException" ["java/lang/RuntimeException", "java/lang/Exception"], vx_ot w = true := by decide +kernel
theorem mk_82 : Cond.classLink RX0 82 "java/lang/IllegalStateException" ∈ wsG := zw_in (i := 259) (by decide +kernel) rfl
theorem mi_e86 : Cond.initialized "java/lang/IllegalStateException" ∈ wsG := zw_in (i := 8) (by decide +kernel) rfl
theorem zat_86 {args : Array Value} {s : State} (hts : ∀ w ∈ wsG, w.before args s = true) (hN : zN s) : ∀ w ∈ vx_atS RX0 86 "java/lang/IllegalStateException" ["java/lang/RuntimeException", "java/lang/Exception"], w.before args s = true := vx_hat (B := [.castable "java/lang/IllegalStateException" "java/lang/IllegalStateException", .declares ⟨"java/lang/RuntimeException", "<init>", "(Ljava/lang/String;)V"⟩, .declares ⟨"java/lang/Exception", "<init>", "(Ljava/lang/String;)V"⟩, .declares ⟨"java/lang/Throwable", "<init>", "(Ljava/lang/String;)V"⟩]) (fun w hw => hts w ((by decide +kernel : ∀ w ∈ (vx_atS RX0 86 "java/lang/IllegalStateException" ["java/lang/RuntimeException", "java/lang/Exception"]).filter goodWord, w ∈ wsG) w hw)) (by decide +kernel) (vx_c (va_Nw.use rfl hN.2.1) (vx_c (va_Nw.use rfl hN.2.2.2.2.1) (vx_c (va_Nw.use rfl hN.2.2.2.2.2.1) (vx_c (va_Nw.use rfl hN.2.2.2.2.2.2) vx_n))))
theorem zgd_86 : ∀ w ∈ Cond.classLink RX0 82 "java/lang/IllegalStateException" :: Cond.initialized "java/lang/IllegalStateException" :: vx_atS RX0 86 "java/lang/IllegalStateException" ["java/lang/RuntimeException", "java/lang/Exception"], vx_ot w = true := by decide +kernel
theorem mk_119 : Cond.classLink RX0 119 "java/util/NoSuchElementException" ∈ wsG := zw_in (i := 318) (by decide +kernel) rfl
theorem mi_e123 : Cond.initialized "java/util/NoSuchElementException" ∈ wsG := zw_in (i := 9) (by decide +kernel) rfl
theorem mk_130 : Cond.classLink RX0 130 "java/lang/IndexOutOfBoundsException" ∈ wsG := zw_in (i := 353) (by decide +kernel) rfl
theorem mi_e134 : Cond.initialized "java/lang/IndexOutOfBoundsException" ∈ wsG := zw_in (i := 10) (by decide +kernel) rfl
theorem zat_134 {args : Array Value} {s : State} (hts : ∀ w ∈ wsG, w.before args s = true) (hN : zN s) : ∀ w ∈ vx_atS RX0 134 "java/lang/IndexOutOfBoundsException" ["java/lang/RuntimeException", "java/lang/Exception"], w.before args s = true := vx_hat (B := [.castable "java/lang/IndexOutOfBoundsException" "java/lang/IndexOutOfBoundsException", .declares ⟨"java/lang/RuntimeException", "<init>", "(Ljava/lang/String;)V"⟩, .declares ⟨"java/lang/Exception", "<init>", "(Ljava/lang/String;)V"⟩, .declares ⟨"java/lang/Throwable", "<init>", "(Ljava/lang/String;)V"⟩]) (fun w hw => hts w ((by decide +kernel : ∀ w ∈ (vx_atS RX0 134 "java/lang/IndexOutOfBoundsException" ["java/lang/RuntimeException", "java/lang/Exception"]).filter goodWord, w ∈ wsG) w hw)) (by decide +kernel) (vx_c (va_Nw.use rfl hN.2.2.2.1) (vx_c (va_Nw.use rfl hN.2.2.2.2.1) (vx_c (va_Nw.use rfl hN.2.2.2.2.2.1) (vx_c (va_Nw.use rfl hN.2.2.2.2.2.2) vx_n))))
theorem zgd_134 : ∀ w ∈ Cond.classLink RX0 130 "java/lang/IndexOutOfBoundsException" :: Cond.initialized "java/lang/IndexOutOfBoundsException" :: vx_atS RX0 134 "java/lang/IndexOutOfBoundsException" ["java/lang/RuntimeException", "java/lang/Exception"], vx_ot w = true := by decide +kernel
section ZX
variable {p : Program} {l : Launch} {e : Env} {R : Room} {s : State} {m : MethodId} {args : Array Value} {below : List Frame} {meth : Method} {c : Code} {H : Heap} {locs : List Loc} {cells slots : Nat} {Q : State → Prop}
variable {cc : ByteArray} {pc : Nat} {ls : Array Slot} {rest st0 : List Value} {D : va_G} {cl : List vw_C} {ws : va_W} {A : Nat → Prop}
variable {Ts ws9 : List Cond} {bytes : ByteArray} {nL maxL index n9 : Nat} {own : String} {y : MethodName} {ret : Option FieldType} {rm : Room} {As : List Value}
theorem zr_SX {p0 p1 : Prop} {E0 : String} {sa : Nat → Nat} (S : CallFix p m c cc nL s args Ts own)
    (hM : vx_Met l y ws9 rm (va_Pc As (fun U => U.heap.size = H.size ∧ zE sa (fun q => H.size ≤ q) U)) (va_Qv (fun (_ : Unit) => p0) (fun _ _ => True) (fun q => H.size ≤ q)) (vx_X (fun (_ : Unit) => p1) (fun E _ _ => E = E0) (fun q => H.size ≤ q)) 1 6 (fun q => H.size ≤ q))
    (cw : CallB R s args own index y bytes maxL ret ws9 rm 1 6 n9 ∧ (Cond.static y).before args s = true)
    (hE : zE sa A s) (hP : va_P D cl ws H) (hS : va_S A s.heap H locs) (hA : ∀ q, s.heap.size ≤ q → A q)
    (hn : As.length = n9) (hsize : ls.size = nL) (hst : st0 = As.reverse ++ rest) (hW : (rest.map fun v => v.category).sum ≤ 8) (hdg : decode cc pc = .ok (.invokestatic index, 3))
    (kx : ∀ (ce : Cell) (q9 : Addr) (H1 : Heap) (locs1 : List Loc), p1 → va_P D cl ws H1 → va_S A s.heap H1 locs1 → H1[q9]? = some ce → ce.vm = .none → s.vm.findClass E0 = some ce.cls → vx_W p l e R s m args below meth c H1 locs1 (cells + 1) (slots + 6) Q (F0 m pc ls rest) q9)
    (kk : ∀ (H1 : Heap) (locs1 : List Loc), p0 → va_P D cl ws H1 → va_S A s.heap H1 locs1 → W p l e R s m args below meth c H1 locs1 (cells + 1) (slots + 6) Q (F0 m (pc + 3) ls rest))
    (hc : cells + 1 ≤ R.cells ∧ slots + 6 ≤ R.slots) : W p l e R s m args below meth c H locs cells slots Q (F0 m pc ls st0) := by
  have hin : ∀ q, H.size ≤ q → A q := fun q h => hA q (Nat.le_trans hS.1 h)
  have hkp : ∀ H1 : Heap, (∀ q : Nat, q < H.size → ¬ (H.size ≤ q) → H1[q]? = H[q]?) → va_P D cl ws H1 := fun H1 hk => hP.kept fun k q hq => hk q.1 (hP k q hq).lt (fun z => absurd (hP k q hq).lt (Nat.not_lt.mpr z))
  refine vx_callv (vx_runS (As := As) (rest := rest) S hM cw ⟨fun a U g mk q => ⟨q.1, q.2.1, q.2.2.call⟩, fun U hU hW => ⟨rfl, congrArg Array.size hU, hE.to hW (fun q h1 h2 => by rw [hU]; exact hS.2.1 q h1 h2) hin⟩⟩ rfl hn hsize hst (lv_room hW) hdg hc) hS (fun q h1 h2 => absurd h1 (Nat.not_lt.mpr h2)) hin (fun q h1 h2 => absurd h1 (Nat.not_lt.mpr h2)) (fun E ce q9 u t H1 locs1 ht hvm hp hB hz hk hS1 hce hcv hcl => ?_) (fun u t H1 locs1 ht hvm hp hB hz hk hS1 => ?_)
  · subst hB
    exact kx ce q9 H1 locs1 hp (hkp H1 hk) hS1 hce hcv hcl
  · exact kk H1 locs1 hp (hkp H1 hk) hS1
end ZX
