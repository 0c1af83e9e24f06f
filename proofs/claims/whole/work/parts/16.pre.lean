abbrev wL (n : Nat) (a : Nat → Nat) (ca : Nat → ClassId) (qo : Nat) (co : ClassId) (z : StC × (Nat → Int64)) : va_W := wC n a ca z.1 ++ [(qo, .inl (co, 1, .inr (.inl z.2)))]
def zC (U : State) : Prop := va_Nc "java/lang/IllegalStateException" "java/lang/IllegalArgumentException" U ∧ va_Nc "java/util/NoSuchElementException" "java/lang/IllegalArgumentException" U
theorem zC.to {s U : State} (h : zC s) (hv : s.vm.Alike U.vm) : zC U := ⟨h.1.moved hv, h.2.moved hv⟩
theorem mk_L13 : Cond.classLink RL 13 "java/lang/IllegalArgumentException" ∈ wsG := zw_in (i := 101) (by decide +kernel) rfl
theorem mk_L23 : Cond.classLink RL 23 "java/lang/IllegalStateException" ∈ wsG := zw_in (i := 253) (by decide +kernel) rfl
theorem mk_L39 : Cond.classLink RL 39 "java/util/NoSuchElementException" ∈ wsG := zw_in (i := 313) (by decide +kernel) rfl
theorem mk_L47 : Cond.classLink RL 47 "java/lang/IndexOutOfBoundsException" ∈ wsG := zw_in (i := 344) (by decide +kernel) rfl
