abbrev zr_P (D : va_G) (cl : List vw_C) (tys : List (ClassId × FieldType)) (ws : va_W) (sz : Nat) : State → Prop := fun U => U.heap.size = sz ∧ va_P D cl ws U.heap ∧ va_K D cl tys U ∧ va_D (fun _ => True) ws
abbrev zr_B (D : va_G) (cl : List vw_C) (tys : List (ClassId × FieldType)) (A : Nat → Prop) (ws : va_W) : State → Prop := fun t => va_P D cl ws t.heap ∧ va_K D cl tys t ∧ va_D A ws
theorem zr_rng {α : Type} (l : List α) : (List.range l.length).map (fun i => l[i]?) = l.map some := by
  apply List.ext_getElem?
  intro i
  rw [List.getElem?_map, List.getElem?_map]
  by_cases h : i < l.length
  · rw [List.getElem?_range h, List.getElem?_eq_getElem h]
    simp [List.getElem?_eq_getElem h]
  · rw [List.getElem?_eq_none (by simpa using h), List.getElem?_eq_none (by simpa using h)]
    rfl
theorem zr_incN (k : Nat) : nI k + Int32.ofInt 1 = nI (k + 1) := (congrArg (nI k + ·) (by decide)).trans (nI_1 k)
theorem zr_inc1 (x : Int32) : x + Int32.ofInt 1 = x + 1 := congrArg (x + ·) (by decide)
theorem zr_dec1 (x : Int32) : x + Int32.ofInt (-1) = x - 1 := by
  rw [show Int32.ofInt (-1) = -1 by decide, Int32.sub_eq_add_neg]
theorem zr_nem {k : Nat} (h : k ≤ 64) : ¬ nI k = -1 := by
  intro q
  have h1 := congrArg Int32.toInt q
  rw [nI_toInt (by omega)] at h1
  have h2 : (-1 : Int32).toInt = -1 := by decide
  omega
theorem zr_ge {a b : Nat} (ha : a ≤ 64) (hb : b ≤ 64) (h : nI a ≤ nI b) : a ≤ b := (nI_leI (by omega) (by omega)).mp h
theorem zr_lt {a b : Nat} (ha : a ≤ 64) (hb : b ≤ 64) (h : ¬ nI a ≤ nI b) : b < a := Nat.lt_of_not_le fun q => h ((nI_leI (by omega) (by omega)).mpr q)
theorem zr_nneg {k : Nat} (h : k ≤ 64) : ¬ nI k < 0 := nI_pos (by omega)
section ZR
variable {p : Program} {l : Launch} {e : Env} {R : Room} {s : State} {m : MethodId} {args : Array Value} {below : List Frame} {meth : Method} {c : Code} {H H0 : Heap} {locs : List Loc} {cells slots : Nat} {Q : State → Prop}
variable {cc : ByteArray} {pc : Nat} {ls : Array Slot} {rest st0 : List Value} {D : va_G} {cl : List vw_C} {ws : va_W} {tys : List (ClassId × FieldType)} {A : Nat → Prop} {a : Nat}
theorem zr_iald (hx : p.tables.exec = Jvm.exec) (hb : c.code = cc) (hK : va_K D cl tys s) (hP : va_P D cl ws H) (q0 t0 : Nat) {cA : ClassId} {n : Nat} {f : Nat → Int32} (ha : ws[q0]? = some (a, .inl (cA, n, .inl f))) (ht : tys[t0]? = some (cA, .int)) {k : Nat} (hk : k < n) (hn : n ≤ 64) (d : decode cc pc = .ok (.iaload, 1))
    (kk : W p l e R s m args below meth c H locs cells slots Q (F0 m (pc + 1) ls (.int (f k) :: rest))) : W p l e R s m args below meth c H locs cells slots Q (F0 m pc ls (.int (nI k) :: .ref a :: rest)) := by
  refine va_iald hx hb hK hP q0 t0 ha ht (vp_in_nI hk (by omega)) d ?_
  rw [nI_clamp (by omega)]
  exact kk
theorem zr_zald (hx : p.tables.exec = Jvm.exec) (hb : c.code = cc) (hK : va_K D cl tys s) (hP : va_P D cl ws H) (q0 t0 : Nat) {cA : ClassId} {n : Nat} {f : Nat → Int32} (ha : ws[q0]? = some (a, .inl (cA, n, .inl f))) (ht : tys[t0]? = some (cA, .boolean)) {k : Nat} (hk : k < n) (hn : n ≤ 64) (d : decode cc pc = .ok (.baload, 1))
    (kk : W p l e R s m args below meth c H locs cells slots Q (F0 m (pc + 1) ls (.int (f k) :: rest))) : W p l e R s m args below meth c H locs cells slots Q (F0 m pc ls (.int (nI k) :: .ref a :: rest)) := by
  refine va_zald hx hb hK hP q0 t0 ha ht (vp_in_nI hk (by omega)) d ?_
  rw [nI_clamp (by omega)]
  exact kk
theorem zr_lald (hx : p.tables.exec = Jvm.exec) (hb : c.code = cc) (hK : va_K D cl tys s) (hP : va_P D cl ws H) (q0 t0 : Nat) {cA : ClassId} {n : Nat} {f : Nat → Int64} (ha : ws[q0]? = some (a, .inl (cA, n, .inr (.inl f)))) (ht : tys[t0]? = some (cA, .long)) {k : Nat} (hk : k < n) (hn : n ≤ 64) (d : decode cc pc = .ok (.laload, 1))
    (kk : W p l e R s m args below meth c H locs cells slots Q (F0 m (pc + 1) ls (.long (f k) :: rest))) : W p l e R s m args below meth c H locs cells slots Q (F0 m pc ls (.int (nI k) :: .ref a :: rest)) := by
  refine va_lald hx hb hK hP q0 t0 ha ht (vp_in_nI hk (by omega)) d ?_
  rw [nI_clamp (by omega)]
  exact kk
theorem zr_iast (hx : p.tables.exec = Jvm.exec) (hb : c.code = cc) (hK : va_K D cl tys s) (hP : va_P D cl ws H) (hD : va_D A ws) (hS : va_S A H0 H locs) (q0 t0 : Nat) {cA : ClassId} {n : Nat} {f : Nat → Int32} (ha : ws[q0]? = some (a, .inl (cA, n, .inl f))) (ht : tys[t0]? = some (cA, .int)) {k : Nat} {x : Int32} (hk : k < n) (hn : n ≤ 64) (d : decode cc pc = .ok (.iastore, 1))
    (kk : ∀ (H1 : Heap) (locs1 : List Loc), va_P D cl (ws.set q0 (a, .inl (cA, n, .inl (upd f k x)))) H1 → va_D A (ws.set q0 (a, .inl (cA, n, .inl (upd f k x)))) → va_S A H0 H1 locs1 → W p l e R s m args below meth c H1 locs1 cells slots Q (F0 m (pc + 1) ls rest)) : W p l e R s m args below meth c H locs cells slots Q (F0 m pc ls (.int x :: .int (nI k) :: .ref a :: rest)) := by
  refine va_iast hx hb hK hP hD hS q0 t0 ha ht (vp_in_nI hk (by omega)) d ?_
  rw [nI_clamp (by omega)]
  exact kk
theorem zr_zast (hx : p.tables.exec = Jvm.exec) (hb : c.code = cc) (hK : va_K D cl tys s) (hP : va_P D cl ws H) (hD : va_D A ws) (hS : va_S A H0 H locs) (q0 t0 : Nat) {cA : ClassId} {n : Nat} {f : Nat → Int32} (ha : ws[q0]? = some (a, .inl (cA, n, .inl f))) (ht : tys[t0]? = some (cA, .boolean)) {k : Nat} {x : Int32} (hk : k < n) (hn : n ≤ 64) (d : decode cc pc = .ok (.bastore, 1))
    (kk : ∀ (H1 : Heap) (locs1 : List Loc), va_P D cl (ws.set q0 (a, .inl (cA, n, .inl (upd f k (vp_nar .boolean x))))) H1 → va_D A (ws.set q0 (a, .inl (cA, n, .inl (upd f k (vp_nar .boolean x))))) → va_S A H0 H1 locs1 → W p l e R s m args below meth c H1 locs1 cells slots Q (F0 m (pc + 1) ls rest)) : W p l e R s m args below meth c H locs cells slots Q (F0 m pc ls (.int x :: .int (nI k) :: .ref a :: rest)) := by
  refine va_zast hx hb hK hP hD hS q0 t0 ha ht (vp_in_nI hk (by omega)) d ?_
  rw [nI_clamp (by omega)]
  exact kk
theorem zr_last (hx : p.tables.exec = Jvm.exec) (hb : c.code = cc) (hK : va_K D cl tys s) (hP : va_P D cl ws H) (hD : va_D A ws) (hS : va_S A H0 H locs) (q0 t0 : Nat) {cA : ClassId} {n : Nat} {f : Nat → Int64} (ha : ws[q0]? = some (a, .inl (cA, n, .inr (.inl f)))) (ht : tys[t0]? = some (cA, .long)) {k : Nat} {x : Int64} (hk : k < n) (hn : n ≤ 64) (d : decode cc pc = .ok (.lastore, 1))
    (kk : ∀ (H1 : Heap) (locs1 : List Loc), va_P D cl (ws.set q0 (a, .inl (cA, n, .inr (.inl (vp_updL f k x))))) H1 → va_D A (ws.set q0 (a, .inl (cA, n, .inr (.inl (vp_updL f k x))))) → va_S A H0 H1 locs1 → W p l e R s m args below meth c H1 locs1 cells slots Q (F0 m (pc + 1) ls rest)) : W p l e R s m args below meth c H locs cells slots Q (F0 m pc ls (.long x :: .int (nI k) :: .ref a :: rest)) := by
  refine va_last hx hb hK hP hD hS q0 t0 ha ht (vp_in_nI hk (by omega)) d ?_
  rw [nI_clamp (by omega)]
  exact kk
theorem zr_loop {σ : Type} (I : Nat → σ → Array Slot → Heap → List Loc → Prop) (g : Array Slot → JFrame)
    (step : ∀ (r : Nat) (x : σ) (ls : Array Slot) (H : Heap) (locs : List Loc), (∀ (r' : Nat) (x' : σ) (ls' : Array Slot) (H' : Heap) (locs' : List Loc), r' < r → I r' x' ls' H' locs' → W p l e R s m args below meth c H' locs' cells slots Q (g ls')) → I r x ls H locs → W p l e R s m args below meth c H locs cells slots Q (g ls))
    (r : Nat) (x : σ) (ls : Array Slot) (H : Heap) (locs : List Loc) (h : I r x ls H locs) : W p l e R s m args below meth c H locs cells slots Q (g ls) := by
  have key : ∀ (N r : Nat) (x : σ) (ls : Array Slot) (H : Heap) (locs : List Loc), r < N → I r x ls H locs → W p l e R s m args below meth c H locs cells slots Q (g ls) := by
    intro N
    induction N with
    | zero => intro r x ls H locs h0; omega
    | succ N ih => intro r x ls H locs h0 hI; exact step r x ls H locs (fun r' x' ls' H' locs' h1 h2 => ih r' x' ls' H' locs' (by omega) h2) hI
  exact key (r + 1) r x ls H locs (by omega) h
section ZC
variable {Ts ws9 : List Cond} {bytes : ByteArray} {nL maxL index n9 : Nat} {own C : String} {y : MethodName} {ret : Option FieldType} {rm : Room} {b : Addr} {As : List Value}
theorem zr_blind {av : List Value} {w0 : va_W} {sz : Nat} : FrameBlind (va_Pc av (zr_P D cl tys w0 sz)) := fun a U g mk q => by
  obtain ⟨q0, q1, qP, qK, qD⟩ := q
  exact ⟨q0, q1, qP, va_K.moved (u := U) (U := U.calling g mk a) (Vm.Alike.refl U.vm) qK, qD⟩
theorem zr_pre {As : List Value} {w0 : va_W} (hK : va_K D cl tys s) (hP : va_P D cl w0 H) (hD : va_D A w0) : ∀ U : State, U.heap = H → s.WarmedH U.vm → va_Pc As (zr_P D cl tys w0 H.size) As.toArray U := fun U hU hW =>
  ⟨rfl, by rw [hU], by rw [hU]; exact hP, va_K.moved hW.alike hK, hD.weaken (fun _ _ _ _ => trivial)⟩
theorem zr_fre {w0 : va_W} (hD : va_D A w0) (hS : va_S A H0 H locs) (hA : ∀ q, H0.size ≤ q → A q) : ∀ q, va_A w0 H.size q → A q := va_free (wc := w0) hD hS hA (List.range w0.length) (zr_rng w0)
theorem zr_Vi {σ : Type} {w : σ → va_W} {u u1 : σ} {v : Int32} (S : CallFix p m c cc nL s args Ts own)
    (hM : Met l y ws9 rm (va_Pc (.ref b :: As) (zr_P D cl tys (w u) H.size)) (va_Qi (fun r u' => r = v ∧ u' = u1) (fun u' => zr_B D cl tys (va_A (w u) H.size) (w u')) (va_A (w u) H.size)) 0 0 (va_A (w u) H.size))
    (cw : CallW R s args own C index y bytes maxL ret ws9 rm 0 0 n9)
    (hK : va_K D cl tys s) (hP : va_P D cl (w u) H) (hD : va_D A (w u)) (hS : va_S A H0 H locs) (hA : ∀ q, H0.size ≤ q → A q)
    (hrecv : ∃ cell : Cell, H[b]? = some cell ∧ cell.vm.isStatics = false ∧ s.vm.findClass C = some cell.cls)
    (hn : As.length = n9) (hsize : ls.size = nL) (hst : st0 = As.reverse ++ .ref b :: rest) (hW : (rest.map fun v => v.category).sum ≤ 8) (hdg : decode cc pc = .ok (.invokevirtual index, 3))
    (kk : ∀ (H1 : Heap) (locs1 : List Loc), va_P D cl (w u1) H1 → va_D A (w u1) → va_S A H0 H1 locs1 → W p l e R s m args below meth c H1 locs1 cells slots Q (F0 m (pc + 3) ls (.int v :: rest)))
    (hc : cells ≤ R.cells ∧ slots ≤ R.slots) : W p l e R s m args below meth c H locs cells slots Q (F0 m pc ls st0) := by
  have hFc := zr_fre hD hS hA
  refine va_calli (va_runV (As := As) (rest := rest) S hM cw ⟨zr_blind, hrecv, zr_pre hK hP hD⟩ rfl hn hsize hst (lv_room hW) hdg hc) hS (fun q _ h => hFc q h) hFc (fun r u' t H1 locs1 ht hvm hp hB hz hk hS1 => ?_)
  obtain ⟨rfl, rfl⟩ := hp
  obtain ⟨hP1, hK1, hD1⟩ := hB
  rw [ht] at hP1
  exact kk H1 locs1 hP1 (hD1.weaken (fun _ _ _ hq => hFc _ hq)) hS1
theorem zr_Vv {σ : Type} {w : σ → va_W} {u u1 : σ} (S : CallFix p m c cc nL s args Ts own)
    (hM : Met l y ws9 rm (va_Pc (.ref b :: As) (zr_P D cl tys (w u) H.size)) (va_Qv (fun u' => u' = u1) (fun u' => zr_B D cl tys (va_A (w u) H.size) (w u')) (va_A (w u) H.size)) 0 0 (va_A (w u) H.size))
    (cw : CallW R s args own C index y bytes maxL ret ws9 rm 0 0 n9)
    (hK : va_K D cl tys s) (hP : va_P D cl (w u) H) (hD : va_D A (w u)) (hS : va_S A H0 H locs) (hA : ∀ q, H0.size ≤ q → A q)
    (hrecv : ∃ cell : Cell, H[b]? = some cell ∧ cell.vm.isStatics = false ∧ s.vm.findClass C = some cell.cls)
    (hn : As.length = n9) (hsize : ls.size = nL) (hst : st0 = As.reverse ++ .ref b :: rest) (hW : (rest.map fun v => v.category).sum ≤ 8) (hdg : decode cc pc = .ok (.invokevirtual index, 3))
    (kk : ∀ (H1 : Heap) (locs1 : List Loc), va_P D cl (w u1) H1 → va_D A (w u1) → va_S A H0 H1 locs1 → W p l e R s m args below meth c H1 locs1 cells slots Q (F0 m (pc + 3) ls rest))
    (hc : cells ≤ R.cells ∧ slots ≤ R.slots) : W p l e R s m args below meth c H locs cells slots Q (F0 m pc ls st0) := by
  have hFc := zr_fre hD hS hA
  refine va_callv (va_runV (As := As) (rest := rest) S hM cw ⟨zr_blind, hrecv, zr_pre hK hP hD⟩ rfl hn hsize hst (lv_room hW) hdg hc) hS (fun q _ h => hFc q h) hFc (fun u' t H1 locs1 ht hvm hp hB hz hk hS1 => ?_)
  obtain rfl := hp
  obtain ⟨hP1, hK1, hD1⟩ := hB
  rw [ht] at hP1
  exact kk H1 locs1 hP1 (hD1.weaken (fun _ _ _ hq => hFc _ hq)) hS1
theorem zr_Si {v : Int32} (S : CallFix p m c cc nL s args Ts own)
    (hM : Met l y ws9 rm (va_Pc As (fun U => U.heap.size = H.size)) (va_Qi (fun r (_ : Unit) => r = v) (fun _ _ => True) (fun q => H.size ≤ q)) 0 0 (fun q => H.size ≤ q))
    (cw : CallB R s args own index y bytes maxL ret ws9 rm 0 0 n9 ∧ (Cond.static y).before args s = true)
    (hP : va_P D cl ws H) (hS : va_S A H0 H locs) (hA : ∀ q, H0.size ≤ q → A q)
    (hn : As.length = n9) (hsize : ls.size = nL) (hst : st0 = As.reverse ++ rest) (hW : (rest.map fun v => v.category).sum ≤ 8) (hdg : decode cc pc = .ok (.invokestatic index, 3))
    (kk : ∀ (H1 : Heap) (locs1 : List Loc), va_P D cl ws H1 → va_S A H0 H1 locs1 → W p l e R s m args below meth c H1 locs1 cells slots Q (F0 m (pc + 3) ls (.int v :: rest)))
    (hc : cells ≤ R.cells ∧ slots ≤ R.slots) : W p l e R s m args below meth c H locs cells slots Q (F0 m pc ls st0) := by
  refine va_calli (va_runS (As := As) (rest := rest) S hM cw ⟨fun a U g mk q => q, fun U hU hW => ⟨rfl, congrArg Array.size hU⟩⟩ rfl hn hsize hst (lv_room hW) hdg hc) hS (fun q h1 h2 => absurd h1 (Nat.not_lt.mpr h2)) (fun q h => hA q (Nat.le_trans hS.1 h)) (fun r u' t H1 locs1 ht hvm hp hB hz hk hS1 => ?_)
  obtain rfl := hp
  exact kk H1 locs1 (hP.kept fun k q hq => hk q.1 (hP k q hq).lt (fun z => absurd (hP k q hq).lt (Nat.not_lt.mpr z))) hS1
end ZC
end ZR
