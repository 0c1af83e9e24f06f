set_option maxHeartbeats 4000000 in
set_option maxRecDepth 100000 in
theorem c_C_cleanForm (l : Launch) (sz : Nat) (x : Int32) : Met l yX0_cleanForm wsX0_cleanForm ({ frames := 0, cells := 0, slots := 0, locals := 0 }) (va_Pc [.int x] (fun U => U.heap.size = sz)) (va_Qi (fun r (_ : Unit) => r = (2 * x)) (fun _ _ => True) (fun q => sz ≤ q)) 0 0 (fun q => sz ≤ q) := by
  refine Met.ofW (cc := cX0_cleanForm) (maxL := 1) (ret := (some .int)) (by decide) rfl ?_
  intro p e s m args below meth c s₁ B hml hv
  obtain ⟨rfl, hsz⟩ := hv
  have hx := B.exec
  have hb := B.bytes
  have hr := B.returns
  have hts := atoms_spec (ws := wsX0_cleanForm) B.pre
  have hown : s.vm.findClass RX0 = some m.cls := findClass_of_methodNamed B.named
  have hlocks := B.notSynchronized
  have hA : ∀ q : Nat, s.heap.size ≤ q → sz ≤ q := fun q h => hsz ▸ h
  obtain ⟨H, hH, hS⟩ : ∃ H, H = s.heap ∧ va_S (fun q => sz ≤ q) s.heap H [] := ⟨_, rfl, va_S.rf⟩
  rw [← hH]
  have hl := lv_entry ([.int x]) (n := 1) (Nat.le_of_ble_eq_true rfl)
  rw [lg_entry_eq]
  generalize (lg_sl ([.int x]) ++ List.replicate (1 - (lg_sl ([.int x])).length) Slot.unset).toArray = ls at hl ⊢
  have hl : lv_has ls 1 [(0, .int x)] := hl
  refine lv_iconst (v := 2) hx hb dX0_cleanForm_0 (by decide) ?_
  refine lv_iload_n hx hb dX0_cleanForm_1 rfl (lv_at hl 0 rfl) ?_
  refine lv_imul hx hb dX0_cleanForm_2 ?_
  exact W.iret (v := (2 * x)) hx hb hr (fun t ht hW => ⟨⟨(2 * x), (), rfl, (by first | rfl | rfl), trivial⟩, hS.F ht⟩) hS.2.2 dX0_cleanForm_3
set_option maxHeartbeats 4000000 in
set_option maxRecDepth 100000 in
theorem c_C_dirtyForm (l : Launch) (sz : Nat) (x : Int32) : Met l yX0_dirtyForm wsX0_dirtyForm ({ frames := 0, cells := 0, slots := 0, locals := 0 }) (va_Pc [.int x] (fun U => U.heap.size = sz)) (va_Qi (fun r (_ : Unit) => r = (2 * x + 1)) (fun _ _ => True) (fun q => sz ≤ q)) 0 0 (fun q => sz ≤ q) := by
  refine Met.ofW (cc := cX0_dirtyForm) (maxL := 1) (ret := (some .int)) (by decide) rfl ?_
  intro p e s m args below meth c s₁ B hml hv
  obtain ⟨rfl, hsz⟩ := hv
  have hx := B.exec
  have hb := B.bytes
  have hr := B.returns
  have hts := atoms_spec (ws := wsX0_dirtyForm) B.pre
  have hown : s.vm.findClass RX0 = some m.cls := findClass_of_methodNamed B.named
  have hlocks := B.notSynchronized
  have hA : ∀ q : Nat, s.heap.size ≤ q → sz ≤ q := fun q h => hsz ▸ h
  obtain ⟨H, hH, hS⟩ : ∃ H, H = s.heap ∧ va_S (fun q => sz ≤ q) s.heap H [] := ⟨_, rfl, va_S.rf⟩
  rw [← hH]
  have hl := lv_entry ([.int x]) (n := 1) (Nat.le_of_ble_eq_true rfl)
  rw [lg_entry_eq]
  generalize (lg_sl ([.int x]) ++ List.replicate (1 - (lg_sl ([.int x])).length) Slot.unset).toArray = ls at hl ⊢
  have hl : lv_has ls 1 [(0, .int x)] := hl
  refine lv_iconst (v := 2) hx hb dX0_dirtyForm_0 (by decide) ?_
  refine lv_iload_n hx hb dX0_dirtyForm_1 rfl (lv_at hl 0 rfl) ?_
  refine lv_imul hx hb dX0_dirtyForm_2 ?_
  refine lv_iconst (v := 1) hx hb dX0_dirtyForm_3 (by decide) ?_
  refine lv_iadd hx hb dX0_dirtyForm_4 ?_
  exact W.iret (v := ((2 * x) + 1)) hx hb hr (fun t ht hW => ⟨⟨((2 * x) + 1), (), rfl, (by first | rfl | rfl), trivial⟩, hS.F ht⟩) hS.2.2 dX0_dirtyForm_5
set_option maxHeartbeats 4000000 in
set_option maxRecDepth 100000 in
theorem c_C_blockOf (l : Launch) (sz : Nat) (x : Int32) : Met l yX0_blockOf wsX0_blockOf ({ frames := 0, cells := 0, slots := 0, locals := 0 }) (va_Pc [.int x] (fun U => U.heap.size = sz)) (va_Qi (fun r (_ : Unit) => r = (fc_blk x)) (fun _ _ => True) (fun q => sz ≤ q)) 0 0 (fun q => sz ≤ q) := by
  refine Met.ofW (cc := cX0_blockOf) (maxL := 1) (ret := (some .int)) (by decide) rfl ?_
  intro p e s m args below meth c s₁ B hml hv
  obtain ⟨rfl, hsz⟩ := hv
  have hx := B.exec
  have hb := B.bytes
  have hr := B.returns
  have hts := atoms_spec (ws := wsX0_blockOf) B.pre
  have hown : s.vm.findClass RX0 = some m.cls := findClass_of_methodNamed B.named
  have hlocks := B.notSynchronized
  have hA : ∀ q : Nat, s.heap.size ≤ q → sz ≤ q := fun q h => hsz ▸ h
  obtain ⟨H, hH, hS⟩ : ∃ H, H = s.heap ∧ va_S (fun q => sz ≤ q) s.heap H [] := ⟨_, rfl, va_S.rf⟩
  rw [← hH]
  have hl := lv_entry ([.int x]) (n := 1) (Nat.le_of_ble_eq_true rfl)
  rw [lg_entry_eq]
  generalize (lg_sl ([.int x]) ++ List.replicate (1 - (lg_sl ([.int x])).length) Slot.unset).toArray = ls at hl ⊢
  have hl : lv_has ls 1 [(0, .int x)] := hl
  refine lv_iload_n hx hb dX0_blockOf_0 rfl (lv_at hl 0 rfl) ?_
  refine lv_iconst (v := 1) hx hb dX0_blockOf_1 (by decide) ?_
  refine lv_ishr hx hb dX0_blockOf_2 ?_
  exact W.iret (v := (x >>> (1 &&& 31))) hx hb hr (fun t ht hW => ⟨⟨(x >>> (1 &&& 31)), (), rfl, (by first | rfl | (simp only [fc_blk] <;> rfl)), trivial⟩, hS.F ht⟩) hS.2.2 dX0_blockOf_3
set_option maxHeartbeats 4000000 in
set_option maxRecDepth 100000 in
theorem c_C_isDirty (l : Launch) (sz : Nat) (x : Int32) : Met l yX0_isDirty wsX0_isDirty ({ frames := 0, cells := 0, slots := 0, locals := 0 }) (va_Pc [.int x] (fun U => U.heap.size = sz)) (va_Qi (fun r (_ : Unit) => r = (fc_isd x)) (fun _ _ => True) (fun q => sz ≤ q)) 0 0 (fun q => sz ≤ q) := by
  refine Met.ofW (cc := cX0_isDirty) (maxL := 1) (ret := (some .boolean)) (by decide) rfl ?_
  intro p e s m args below meth c s₁ B hml hv
  obtain ⟨rfl, hsz⟩ := hv
  have hx := B.exec
  have hb := B.bytes
  have hr := B.returns
  have hts := atoms_spec (ws := wsX0_isDirty) B.pre
  have hown : s.vm.findClass RX0 = some m.cls := findClass_of_methodNamed B.named
  have hlocks := B.notSynchronized
  have hA : ∀ q : Nat, s.heap.size ≤ q → sz ≤ q := fun q h => hsz ▸ h
  obtain ⟨H, hH, hS⟩ : ∃ H, H = s.heap ∧ va_S (fun q => sz ≤ q) s.heap H [] := ⟨_, rfl, va_S.rf⟩
  rw [← hH]
  have hl := lv_entry ([.int x]) (n := 1) (Nat.le_of_ble_eq_true rfl)
  rw [lg_entry_eq]
  generalize (lg_sl ([.int x]) ++ List.replicate (1 - (lg_sl ([.int x])).length) Slot.unset).toArray = ls at hl ⊢
  have hl : lv_has ls 1 [(0, .int x)] := hl
  refine lv_iload_n hx hb dX0_isDirty_0 rfl (lv_at hl 0 rfl) ?_
  refine lv_iconst (v := (-1)) hx hb dX0_isDirty_1 (by decide) ?_
  refine lv_icmp_eq hx hb dX0_isDirty_2 (tgt := 16) rfl (fun h1 => ?_) (fun h1 => ?_)
  · refine lv_iconst (v := 0) hx hb dX0_isDirty_16 (by decide) ?_
    exact W.zret (v := 0) hx hb hr rfl (fun t ht hW => ⟨⟨0, (), rfl, (by first | rfl | (simp only [fc_isd, if_pos h1] <;> rfl)), trivial⟩, hS.F ht⟩) hS.2.2 dX0_isDirty_17
  · refine lv_iload_n hx hb dX0_isDirty_5 rfl (lv_at hl 0 rfl) ?_
    refine lv_iconst (v := 1) hx hb dX0_isDirty_6 (by decide) ?_
    refine lv_iand hx hb dX0_isDirty_7 ?_
    refine lv_iconst (v := 1) hx hb dX0_isDirty_8 (by decide) ?_
    refine lv_icmp_ne hx hb dX0_isDirty_9 (tgt := 16) rfl (fun h2 => ?_) (fun h2 => ?_)
    · refine lv_iconst (v := 0) hx hb dX0_isDirty_16 (by decide) ?_
      exact W.zret (v := 0) hx hb hr rfl (fun t ht hW => ⟨⟨0, (), rfl, (by first | rfl | (simp only [fc_isd, if_neg h1, if_neg h2] <;> rfl)), trivial⟩, hS.F ht⟩) hS.2.2 dX0_isDirty_17
    · refine lv_iconst (v := 1) hx hb dX0_isDirty_12 (by decide) ?_
      refine lv_goto hx hb dX0_isDirty_13 (tgt := 17) rfl ?_
      exact W.zret (v := 1) hx hb hr rfl (fun t ht hW => ⟨⟨1, (), rfl, (by first | rfl | (simp only [fc_isd, if_neg h1, if_pos h2] <;> rfl)), trivial⟩, hS.F ht⟩) hS.2.2 dX0_isDirty_17
set_option maxHeartbeats 4000000 in
set_option maxRecDepth 100000 in
theorem c_C_slotWith (l : Launch) (dC : Nat → ClassId) (dI : Nat → Nat → Nat) (n : Nat) (a : Nat → Nat) (ca : Nat → ClassId) (u : StC) (sz : Nat) (b : Nat) (hn : n ≤ 12) : Met l yX0_slotWith wsX0_slotWith ({ frames := 1, cells := 0, slots := 0, locals := 20 }) (va_Pc [.ref (a 0), .int (nI b)] (zr_P (dC, dI) vwCl (tC ca) (wC n a ca u) sz)) (va_Qi (fun r u' => r = fc_enc (fc_find (cs_k u) b n 0) ∧ u' = u) (fun u' => zr_B (dC, dI) vwCl (tC ca) (va_A (wC n a ca u) sz) (wC n a ca u')) (va_A (wC n a ca u) sz)) 0 0 (va_A (wC n a ca u) sz) := by
  refine Met.ofW (cc := cX0_slotWith) (maxL := 3) (ret := (some .int)) (by decide) rfl ?_
  intro p e s m args below meth c s₁ B hml hv
  obtain ⟨rfl, hsz, hP, hK, hD0⟩ := hv
  have hx := B.exec
  have hb := B.bytes
  have hr := B.returns
  have hts := atoms_spec (ws := wsX0_slotWith) B.pre
  have hown : s.vm.findClass RX0 = some m.cls := findClass_of_methodNamed B.named
  have hlocks := B.notSynchronized
  subst hsz
  have hD := hD0.self (sz := s.heap.size)
  generalize hAe : va_A (wC n a ca u) s.heap.size = A at hD ⊢
  have hA : ∀ q : Nat, s.heap.size ≤ q → A q := fun q h => by rw [← hAe]; exact Or.inr h
  obtain ⟨H, hH, hP, hS⟩ : ∃ H, H = s.heap ∧ va_P (dC, dI) vwCl (wC n a ca u) H ∧ va_S A s.heap H [] := ⟨_, rfl, hP, va_S.rf⟩
  have hin9 : ∀ w ∈ u_ws RX0 TX0 13, w ∈ wsX0_slotWith := fun w h => List.mem_cons_of_mem _ (hinX0 w h)
  rw [← hH]
  have hl := lv_entry ([.ref (a 0), .int (nI b)]) (n := 3) (Nat.le_of_ble_eq_true rfl)
  rw [lg_entry_eq]
  generalize (lg_sl ([.ref (a 0), .int (nI b)]) ++ List.replicate (3 - (lg_sl ([.ref (a 0), .int (nI b)])).length) Slot.unset).toArray = ls at hl ⊢
  have hl : lv_has ls 3 [(0, .ref (a 0)), (1, .int (nI b))] := hl
  refine lv_iconst (v := 0) hx hb dX0_slotWith_0 (by decide) ?_
  refine lv_istore_n hx hb dX0_slotWith_1 rfl hl (by decide) rfl (fun ls hl => ?_)
  have hl : lv_has ls 3 [(2, .int 0), (0, .ref (a 0)), (1, .int (nI b))] := hl
  refine zr_loop (fun r (x0 : Nat) ls H locs => r + x0 = n ∧ fc_find (cs_k u) b r x0 = fc_find (cs_k u) b n 0 ∧ lv_has ls 3 [(0, .ref (a 0)), (1, .int (nI b)), (2, .int (nI x0))] ∧ va_P (dC, dI) vwCl (wC n a ca u) H ∧ va_D A (wC n a ca u) ∧ va_S A s.heap H locs) (fun ls => F0 m 2 ls []) ?_ n 0 _ _ _ ⟨by omega, rfl, lv_sub hl [1, 2, 0] rfl, hP, hD, hS⟩
  rintro r k ls H locs ih ⟨hrk, hinv, hl, hP, hD, hS⟩
  have hrk : r + k = n := hrk
  have hinv : fc_find (cs_k u) b r k = fc_find (cs_k u) b n 0 := hinv
  have hl : lv_has ls 3 [(0, .ref (a 0)), (1, .int (nI b)), (2, .int (nI k))] := hl
  have hP : va_P (dC, dI) vwCl (wC n a ca u) H := hP
  have hD : va_D A (wC n a ca u) := hD
  refine lv_iload_n hx hb dX0_slotWith_2 rfl (lv_at hl 2 rfl) ?_
  refine lv_aload_n hx hb dX0_slotWith_3 rfl (lv_at hl 0 rfl) ?_
  refine va_get (D := (dC, dI)) (ci := 0) (v := .int (nI n)) (C := RX0) (T := TX0) (N := 13) hx hb hts hin9 hown hK hP 0 rfl rfl 0 (by decide) (hts _ (List.mem_cons_of_mem _ mf_X0_9)) (fun _ h9 => h9) rfl dX0_slotWith_4 ?_
  refine lv_icmp_ge hx hb dX0_slotWith_7 (tgt := 41) rfl (fun h1 => ?_) (fun h1 => ?_)
  · have h1 := zr_ge (by omega) (by omega) h1
    obtain rfl : r = 0 := by omega
    refine lv_iconst (v := (-1)) hx hb dX0_slotWith_41 (by decide) ?_
    exact W.iret (v := (-1)) hx hb hr (fun t ht hW => ⟨⟨(-1), u, rfl, ⟨(by first | rfl | (rw [← hinv] <;> rfl) | (rw [← hinv]; simp only [fc_find, fc_enc] <;> rfl) | (simp only [fc_find, fc_enc]; rw [← hinv] <;> rfl) | (simp only [fc_find, fc_enc]; rw [← hinv]; simp only [fc_find, fc_enc] <;> rfl) | (simp only [fc_find, fc_enc] <;> rfl)), (by first | rfl | (rw [← hinv] <;> rfl) | (rw [← hinv]; simp only [fc_find, fc_enc] <;> rfl) | (simp only [fc_find, fc_enc]; rw [← hinv] <;> rfl) | (simp only [fc_find, fc_enc]; rw [← hinv]; simp only [fc_find, fc_enc] <;> rfl) | (simp only [fc_find, fc_enc] <;> rfl))⟩, ⟨by rw [ht]; exact hP, va_K.moved hW.alike hK, hD⟩⟩, hS.F ht⟩) hS.2.2 dX0_slotWith_42
  · have h1 := zr_lt (by omega) (by omega) h1
    obtain ⟨r', rfl⟩ : ∃ z, r = z + 1 := ⟨r - 1, by omega⟩
    refine lv_aload_n hx hb dX0_slotWith_10 rfl (lv_at hl 0 rfl) ?_
    refine va_get (D := (dC, dI)) (ci := 0) (v := .ref (a 3)) (C := RX0) (T := TX0) (N := 13) hx hb hts hin9 hown hK hP 0 rfl rfl 3 (by decide) (hts _ (List.mem_cons_of_mem _ mf_X0_20)) (fun _ h9 => h9) rfl dX0_slotWith_11 ?_
    refine lv_iload_n hx hb dX0_slotWith_14 rfl (lv_at hl 2 rfl) ?_
    refine zr_iald (k := k) hx hb hK hP 3 2 rfl rfl (by omega) (by omega) dX0_slotWith_15 ?_
    refine lv_iconst (v := (-1)) hx hb dX0_slotWith_16 (by decide) ?_
    refine lv_icmp_eq hx hb dX0_slotWith_17 (tgt := 35) rfl (fun h2 => ?_) (fun h2 => ?_)
    · refine lv_iinc (k := 2) (v := nI (k + 1)) hx hb dX0_slotWith_35 hl rfl (zr_incN k) (by decide) rfl (fun ls hl => ?_)
      have hl : lv_has ls 3 [(2, .int (nI (k + 1))), (0, .ref (a 0)), (1, .int (nI b))] := hl
      refine lv_goto hx hb dX0_slotWith_38 (tgt := 2) rfl ?_
      exact ih r' (k + 1) _ _ _ (by omega) ⟨by omega, (by rw [← hinv]; first | rfl | (simp only [fc_find, if_pos h2] <;> rfl)), lv_sub hl [1, 2, 0] rfl, hP, hD, hS⟩
    · refine lv_aload_n hx hb dX0_slotWith_20 rfl (lv_at hl 0 rfl) ?_
      refine va_get (D := (dC, dI)) (ci := 0) (v := .ref (a 3)) (C := RX0) (T := TX0) (N := 13) hx hb hts hin9 hown hK hP 0 rfl rfl 3 (by decide) (hts _ (List.mem_cons_of_mem _ mf_X0_20)) (fun _ h9 => h9) rfl dX0_slotWith_21 ?_
      refine lv_iload_n hx hb dX0_slotWith_24 rfl (lv_at hl 2 rfl) ?_
      refine zr_iald (k := k) hx hb hK hP 3 2 rfl rfl (by omega) (by omega) dX0_slotWith_25 ?_
      refine zr_Si (v := (fc_blk (cs_k u k))) (As := [.int (cs_k u k)]) (rest := []) ⟨hx, hb, hml, hown, hts⟩ (c_C_blockOf l H.size (cs_k u k)) (va_cwS 1 hts gX0_slotWith_X0_blockOf rfl rfl rfl (by decide +kernel) ⟨Nat.le_of_ble_eq_true rfl, Nat.le_of_ble_eq_true rfl⟩) hP hS hA rfl hl.1 rfl (Nat.le_of_ble_eq_true rfl) dX0_slotWith_26 (fun H locs hP hS => ?_) ⟨Nat.le_of_ble_eq_true rfl, Nat.le_of_ble_eq_true rfl⟩
      refine lv_iload_n hx hb dX0_slotWith_29 rfl (lv_at hl 1 rfl) ?_
      refine lv_icmp_ne hx hb dX0_slotWith_30 (tgt := 35) rfl (fun h3 => ?_) (fun h3 => ?_)
      · refine lv_iinc (k := 2) (v := nI (k + 1)) hx hb dX0_slotWith_35 hl rfl (zr_incN k) (by decide) rfl (fun ls hl => ?_)
        have hl : lv_has ls 3 [(2, .int (nI (k + 1))), (0, .ref (a 0)), (1, .int (nI b))] := hl
        refine lv_goto hx hb dX0_slotWith_38 (tgt := 2) rfl ?_
        exact ih r' (k + 1) _ _ _ (by omega) ⟨by omega, (by rw [← hinv]; first | rfl | (simp only [fc_find, if_neg h2, if_neg h3] <;> rfl)), lv_sub hl [1, 2, 0] rfl, hP, hD, hS⟩
      · refine lv_iload_n hx hb dX0_slotWith_33 rfl (lv_at hl 2 rfl) ?_
        exact W.iret (v := nI k) hx hb hr (fun t ht hW => ⟨⟨nI k, u, rfl, ⟨(by first | rfl | (rw [← hinv] <;> rfl) | (rw [← hinv]; simp only [fc_find, fc_enc, if_neg h2, if_pos h3] <;> rfl) | (simp only [fc_find, fc_enc, if_neg h2, if_pos h3]; rw [← hinv] <;> rfl) | (simp only [fc_find, fc_enc, if_neg h2, if_pos h3]; rw [← hinv]; simp only [fc_find, fc_enc, if_neg h2, if_pos h3] <;> rfl) | (simp only [fc_find, fc_enc, if_neg h2, if_pos h3] <;> rfl)), (by first | rfl | (rw [← hinv] <;> rfl) | (rw [← hinv]; simp only [fc_find, fc_enc, if_neg h2, if_pos h3] <;> rfl) | (simp only [fc_find, fc_enc, if_neg h2, if_pos h3]; rw [← hinv] <;> rfl) | (simp only [fc_find, fc_enc, if_neg h2, if_pos h3]; rw [← hinv]; simp only [fc_find, fc_enc, if_neg h2, if_pos h3] <;> rfl) | (simp only [fc_find, fc_enc, if_neg h2, if_pos h3] <;> rfl))⟩, ⟨by rw [ht]; exact hP, va_K.moved hW.alike hK, hD⟩⟩, hS.F ht⟩) hS.2.2 dX0_slotWith_34
set_option maxHeartbeats 4000000 in
set_option maxRecDepth 100000 in
theorem c_C_useSlot (l : Launch) (dC : Nat → ClassId) (dI : Nat → Nat → Nat) (n : Nat) (a : Nat → Nat) (ca : Nat → ClassId) (u : StC) (sz : Nat) (sl : Nat) (hn : n ≤ 12) (hs : sl < n) : Met l yX0_useSlot wsX0_useSlot ({ frames := 0, cells := 0, slots := 0, locals := 0 }) (va_Pc [.ref (a 0), .int (nI sl)] (zr_P (dC, dI) vwCl (tC ca) (wC n a ca u) sz)) (va_Qv (fun u' => u' = fc_use u sl) (fun u' => zr_B (dC, dI) vwCl (tC ca) (va_A (wC n a ca u) sz) (wC n a ca u')) (va_A (wC n a ca u) sz)) 0 0 (va_A (wC n a ca u) sz) := by
  refine Met.ofW (cc := cX0_useSlot) (maxL := 2) (ret := none) (by decide) rfl ?_
  intro p e s m args below meth c s₁ B hml hv
  obtain ⟨rfl, hsz, hP, hK, hD0⟩ := hv
  have hx := B.exec
  have hb := B.bytes
  have hr := B.returns
  have hts := atoms_spec (ws := wsX0_useSlot) B.pre
  have hown : s.vm.findClass RX0 = some m.cls := findClass_of_methodNamed B.named
  have hlocks := B.notSynchronized
  subst hsz
  have hD := hD0.self (sz := s.heap.size)
  generalize hAe : va_A (wC n a ca u) s.heap.size = A at hD ⊢
  have hA : ∀ q : Nat, s.heap.size ≤ q → A q := fun q h => by rw [← hAe]; exact Or.inr h
  obtain ⟨H, hH, hP, hS⟩ : ∃ H, H = s.heap ∧ va_P (dC, dI) vwCl (wC n a ca u) H ∧ va_S A s.heap H [] := ⟨_, rfl, hP, va_S.rf⟩
  have hin9 : ∀ w ∈ u_ws RX0 TX0 13, w ∈ wsX0_useSlot := fun w h => List.mem_cons_of_mem _ (hinX0 w h)
  rw [← hH]
  have hl := lv_entry ([.ref (a 0), .int (nI sl)]) (n := 2) (Nat.le_of_ble_eq_true rfl)
  rw [lg_entry_eq]
  generalize (lg_sl ([.ref (a 0), .int (nI sl)]) ++ List.replicate (2 - (lg_sl ([.ref (a 0), .int (nI sl)])).length) Slot.unset).toArray = ls at hl ⊢
  have hl : lv_has ls 2 [(0, .ref (a 0)), (1, .int (nI sl))] := hl
  refine lv_aload_n hx hb dX0_useSlot_0 rfl (lv_at hl 0 rfl) ?_
  refine lv_dup hx hb dX0_useSlot_1 rfl ?_
  refine va_get (D := (dC, dI)) (ci := 0) (v := .int (cs_u u)) (C := RX0) (T := TX0) (N := 13) hx hb hts hin9 hown hK hP 0 rfl rfl 6 (by decide) (hts _ (List.mem_cons_of_mem _ mf_X0_147)) (fun _ h9 => h9) rfl dX0_useSlot_2 ?_
  refine lv_iconst (v := 1) hx hb dX0_useSlot_5 (by decide) ?_
  refine lv_iadd hx hb dX0_useSlot_6 ?_
  refine va_put (D := (dC, dI)) (ci := 0) (v := .int ((cs_u u) + 1)) (ty := .int) (C := RX0) (T := TX0) (N := 13) hx hb hts hin9 tyX0 tyX0_ok nmX0 hown hK hP hD hS 0 rfl rfl 6 (by decide) (hts _ (List.mem_cons_of_mem _ mf_X0_147)) (fun _ h9 => h9) rfl (by decide +kernel) rfl rfl (Nat.le_of_ble_eq_true rfl) dX0_useSlot_7 (fun H locs hP hD hS => ?_)
  have hP : va_P (dC, dI) vwCl (wC n a ca (cs_o u, cs_v u, cs_k u, cs_n u, cs_l u, ((cs_u u) + 1), cs_m u, cs_h u, cs_i u, cs_j u, cs_w u, cs_t u)) H := hP
  have hD : va_D A (wC n a ca (cs_o u, cs_v u, cs_k u, cs_n u, cs_l u, ((cs_u u) + 1), cs_m u, cs_h u, cs_i u, cs_j u, cs_w u, cs_t u)) := hD
  refine lv_aload_n hx hb dX0_useSlot_10 rfl (lv_at hl 0 rfl) ?_
  refine va_get (D := (dC, dI)) (ci := 0) (v := .ref (a 5)) (C := RX0) (T := TX0) (N := 13) hx hb hts hin9 hown hK hP 0 rfl rfl 5 (by decide) (hts _ (List.mem_cons_of_mem _ mf_X0_27)) (fun _ h9 => h9) rfl dX0_useSlot_11 ?_
  refine lv_iload_n hx hb dX0_useSlot_14 rfl (lv_at hl 1 rfl) ?_
  refine lv_aload_n hx hb dX0_useSlot_15 rfl (lv_at hl 0 rfl) ?_
  refine va_get (D := (dC, dI)) (ci := 0) (v := .int ((cs_u u) + 1)) (C := RX0) (T := TX0) (N := 13) hx hb hts hin9 hown hK hP 0 rfl rfl 6 (by decide) (hts _ (List.mem_cons_of_mem _ mf_X0_147)) (fun _ h9 => h9) rfl dX0_useSlot_16 ?_
  refine zr_iast (k := sl) hx hb hK hP hD hS 5 4 rfl rfl (by omega) (by omega) dX0_useSlot_19 (fun H locs hP hD hS => ?_)
  have hP : va_P (dC, dI) vwCl (wC n a ca (cs_o u, cs_v u, cs_k u, cs_n u, upd (cs_l u) sl ((cs_u u) + 1), ((cs_u u) + 1), cs_m u, cs_h u, cs_i u, cs_j u, cs_w u, cs_t u)) H := hP
  have hD : va_D A (wC n a ca (cs_o u, cs_v u, cs_k u, cs_n u, upd (cs_l u) sl ((cs_u u) + 1), ((cs_u u) + 1), cs_m u, cs_h u, cs_i u, cs_j u, cs_w u, cs_t u)) := hD
  exact W.vret hx hb hr (fun t ht hW => ⟨⟨(cs_o u, cs_v u, cs_k u, cs_n u, upd (cs_l u) sl ((cs_u u) + 1), ((cs_u u) + 1), cs_m u, cs_h u, cs_i u, cs_j u, cs_w u, cs_t u), rfl, (by first | rfl | (simp only [fc_use] <;> rfl)), ⟨by rw [ht]; exact hP, va_K.moved hW.alike hK, hD⟩⟩, hS.F ht⟩) hS.2.2 dX0_useSlot_20
set_option maxHeartbeats 4000000 in
set_option maxRecDepth 100000 in
theorem c_C_noteSlot (l : Launch) (dC : Nat → ClassId) (dI : Nat → Nat → Nat) (n : Nat) (a : Nat → Nat) (ca : Nat → ClassId) (u : StC) (sz : Nat) (sl : Nat) (hn : n ≤ 12) (hs : sl < n) : Met l yX0_noteSlot wsX0_noteSlot ({ frames := 0, cells := 0, slots := 0, locals := 0 }) (va_Pc [.ref (a 0), .int (nI sl)] (zr_P (dC, dI) vwCl (tC ca) (wC n a ca u) sz)) (va_Qv (fun u' => u' = fc_note u sl) (fun u' => zr_B (dC, dI) vwCl (tC ca) (va_A (wC n a ca u) sz) (wC n a ca u')) (va_A (wC n a ca u) sz)) 0 0 (va_A (wC n a ca u) sz) := by
  refine Met.ofW (cc := cX0_noteSlot) (maxL := 2) (ret := none) (by decide) rfl ?_
  intro p e s m args below meth c s₁ B hml hv
  obtain ⟨rfl, hsz, hP, hK, hD0⟩ := hv
  have hx := B.exec
  have hb := B.bytes
  have hr := B.returns
  have hts := atoms_spec (ws := wsX0_noteSlot) B.pre
  have hown : s.vm.findClass RX0 = some m.cls := findClass_of_methodNamed B.named
  have hlocks := B.notSynchronized
  subst hsz
  have hD := hD0.self (sz := s.heap.size)
  generalize hAe : va_A (wC n a ca u) s.heap.size = A at hD ⊢
  have hA : ∀ q : Nat, s.heap.size ≤ q → A q := fun q h => by rw [← hAe]; exact Or.inr h
  obtain ⟨H, hH, hP, hS⟩ : ∃ H, H = s.heap ∧ va_P (dC, dI) vwCl (wC n a ca u) H ∧ va_S A s.heap H [] := ⟨_, rfl, hP, va_S.rf⟩
  have hin9 : ∀ w ∈ u_ws RX0 TX0 13, w ∈ wsX0_noteSlot := fun w h => List.mem_cons_of_mem _ (hinX0 w h)
  rw [← hH]
  have hl := lv_entry ([.ref (a 0), .int (nI sl)]) (n := 2) (Nat.le_of_ble_eq_true rfl)
  rw [lg_entry_eq]
  generalize (lg_sl ([.ref (a 0), .int (nI sl)]) ++ List.replicate (2 - (lg_sl ([.ref (a 0), .int (nI sl)])).length) Slot.unset).toArray = ls at hl ⊢
  have hl : lv_has ls 2 [(0, .ref (a 0)), (1, .int (nI sl))] := hl
  refine lv_aload_n hx hb dX0_noteSlot_0 rfl (lv_at hl 0 rfl) ?_
  refine va_get (D := (dC, dI)) (ci := 0) (v := .ref (a 4)) (C := RX0) (T := TX0) (N := 13) hx hb hts hin9 hown hK hP 0 rfl rfl 4 (by decide) (hts _ (List.mem_cons_of_mem _ mf_X0_24)) (fun _ h9 => h9) rfl dX0_noteSlot_1 ?_
  refine lv_iload_n hx hb dX0_noteSlot_4 rfl (lv_at hl 1 rfl) ?_
  refine lv_aload_n hx hb dX0_noteSlot_5 rfl (lv_at hl 0 rfl) ?_
  refine va_get (D := (dC, dI)) (ci := 0) (v := .ref (a 3)) (C := RX0) (T := TX0) (N := 13) hx hb hts hin9 hown hK hP 0 rfl rfl 3 (by decide) (hts _ (List.mem_cons_of_mem _ mf_X0_20)) (fun _ h9 => h9) rfl dX0_noteSlot_6 ?_
  refine lv_iload_n hx hb dX0_noteSlot_9 rfl (lv_at hl 1 rfl) ?_
  refine zr_iald (k := sl) hx hb hK hP 3 2 rfl rfl (by omega) (by omega) dX0_noteSlot_10 ?_
  refine zr_iast (k := sl) hx hb hK hP hD hS 4 3 rfl rfl (by omega) (by omega) dX0_noteSlot_11 (fun H locs hP hD hS => ?_)
  have hP : va_P (dC, dI) vwCl (wC n a ca (cs_o u, cs_v u, cs_k u, upd (cs_n u) sl (cs_k u sl), cs_l u, cs_u u, cs_m u, cs_h u, cs_i u, cs_j u, cs_w u, cs_t u)) H := hP
  have hD : va_D A (wC n a ca (cs_o u, cs_v u, cs_k u, upd (cs_n u) sl (cs_k u sl), cs_l u, cs_u u, cs_m u, cs_h u, cs_i u, cs_j u, cs_w u, cs_t u)) := hD
  refine lv_aload_n hx hb dX0_noteSlot_12 rfl (lv_at hl 0 rfl) ?_
  refine lv_dup hx hb dX0_noteSlot_13 rfl ?_
  refine va_get (D := (dC, dI)) (ci := 0) (v := .int (cs_t u)) (C := RX0) (T := TX0) (N := 13) hx hb hts hin9 hown hK hP 0 rfl rfl 12 (by decide) (hts _ (List.mem_cons_of_mem _ mf_X0_140)) (fun _ h9 => h9) rfl dX0_noteSlot_14 ?_
  refine lv_iconst (v := 1) hx hb dX0_noteSlot_17 (by decide) ?_
  refine lv_iadd hx hb dX0_noteSlot_18 ?_
  refine va_put (D := (dC, dI)) (ci := 0) (v := .int ((cs_t u) + 1)) (ty := .int) (C := RX0) (T := TX0) (N := 13) hx hb hts hin9 tyX0 tyX0_ok nmX0 hown hK hP hD hS 0 rfl rfl 12 (by decide) (hts _ (List.mem_cons_of_mem _ mf_X0_140)) (fun _ h9 => h9) rfl (by decide +kernel) rfl rfl (Nat.le_of_ble_eq_true rfl) dX0_noteSlot_19 (fun H locs hP hD hS => ?_)
  have hP : va_P (dC, dI) vwCl (wC n a ca (cs_o u, cs_v u, cs_k u, upd (cs_n u) sl (cs_k u sl), cs_l u, cs_u u, cs_m u, cs_h u, cs_i u, cs_j u, cs_w u, ((cs_t u) + 1))) H := hP
  have hD : va_D A (wC n a ca (cs_o u, cs_v u, cs_k u, upd (cs_n u) sl (cs_k u sl), cs_l u, cs_u u, cs_m u, cs_h u, cs_i u, cs_j u, cs_w u, ((cs_t u) + 1))) := hD
  exact W.vret hx hb hr (fun t ht hW => ⟨⟨(cs_o u, cs_v u, cs_k u, upd (cs_n u) sl (cs_k u sl), cs_l u, cs_u u, cs_m u, cs_h u, cs_i u, cs_j u, cs_w u, ((cs_t u) + 1)), rfl, (by first | rfl | (simp only [fc_note] <;> rfl)), ⟨by rw [ht]; exact hP, va_K.moved hW.alike hK, hD⟩⟩, hS.F ht⟩) hS.2.2 dX0_noteSlot_22
set_option maxHeartbeats 4000000 in
set_option maxRecDepth 100000 in
theorem c_C_giveOrigin (l : Launch) (dC : Nat → ClassId) (dI : Nat → Nat → Nat) (n : Nat) (a : Nat → Nat) (ca : Nat → ClassId) (u : StC) (sz : Nat) (b : Nat) (v : Int64) (hb64 : b < 64) : Met l yX0_giveOrigin wsX0_giveOrigin ({ frames := 0, cells := 0, slots := 0, locals := 0 }) (va_Pc [.ref (a 0), .int (nI b), .long v] (zr_P (dC, dI) vwCl (tC ca) (wC n a ca u) sz)) (va_Qv (fun u' => u' = fc_give u b v) (fun u' => zr_B (dC, dI) vwCl (tC ca) (va_A (wC n a ca u) sz) (wC n a ca u')) (va_A (wC n a ca u) sz)) 0 0 (va_A (wC n a ca u) sz) := by
  refine Met.ofW (cc := cX0_giveOrigin) (maxL := 4) (ret := none) (by decide) rfl ?_
  intro p e s m args below meth c s₁ B hml hv
  obtain ⟨rfl, hsz, hP, hK, hD0⟩ := hv
  have hx := B.exec
  have hb := B.bytes
  have hr := B.returns
  have hts := atoms_spec (ws := wsX0_giveOrigin) B.pre
  have hown : s.vm.findClass RX0 = some m.cls := findClass_of_methodNamed B.named
  have hlocks := B.notSynchronized
  subst hsz
  have hD := hD0.self (sz := s.heap.size)
  generalize hAe : va_A (wC n a ca u) s.heap.size = A at hD ⊢
  have hA : ∀ q : Nat, s.heap.size ≤ q → A q := fun q h => by rw [← hAe]; exact Or.inr h
  obtain ⟨H, hH, hP, hS⟩ : ∃ H, H = s.heap ∧ va_P (dC, dI) vwCl (wC n a ca u) H ∧ va_S A s.heap H [] := ⟨_, rfl, hP, va_S.rf⟩
  have hin9 : ∀ w ∈ u_ws RX0 TX0 13, w ∈ wsX0_giveOrigin := fun w h => List.mem_cons_of_mem _ (hinX0 w h)
  rw [← hH]
  have hl := lv_entry ([.ref (a 0), .int (nI b), .long v]) (n := 4) (Nat.le_of_ble_eq_true rfl)
  rw [lg_entry_eq]
  generalize (lg_sl ([.ref (a 0), .int (nI b), .long v]) ++ List.replicate (4 - (lg_sl ([.ref (a 0), .int (nI b), .long v])).length) Slot.unset).toArray = ls at hl ⊢
  have hl : lv_has ls 4 [(0, .ref (a 0)), (1, .int (nI b)), (2, .long v)] := hl
  refine lv_aload_n hx hb dX0_giveOrigin_0 rfl (lv_at hl 0 rfl) ?_
  refine va_get (D := (dC, dI)) (ci := 0) (v := .ref (a 1)) (C := RX0) (T := TX0) (N := 13) hx hb hts hin9 hown hK hP 0 rfl rfl 1 (by decide) (hts _ (List.mem_cons_of_mem _ mf_X0_13)) (fun _ h9 => h9) rfl dX0_giveOrigin_1 ?_
  refine lv_iload_n hx hb dX0_giveOrigin_4 rfl (lv_at hl 1 rfl) ?_
  refine lv_lload_n hx hb dX0_giveOrigin_5 rfl (lv_at hl 2 rfl) ?_
  refine zr_last (k := b) hx hb hK hP hD hS 1 0 rfl rfl (by omega) (by omega) dX0_giveOrigin_6 (fun H locs hP hD hS => ?_)
  have hP : va_P (dC, dI) vwCl (wC n a ca (vp_updL (cs_o u) b v, cs_v u, cs_k u, cs_n u, cs_l u, cs_u u, cs_m u, cs_h u, cs_i u, cs_j u, cs_w u, cs_t u)) H := hP
  have hD : va_D A (wC n a ca (vp_updL (cs_o u) b v, cs_v u, cs_k u, cs_n u, cs_l u, cs_u u, cs_m u, cs_h u, cs_i u, cs_j u, cs_w u, cs_t u)) := hD
  refine lv_aload_n hx hb dX0_giveOrigin_7 rfl (lv_at hl 0 rfl) ?_
  refine lv_dup hx hb dX0_giveOrigin_8 rfl ?_
  refine va_get (D := (dC, dI)) (ci := 0) (v := .int (cs_w u)) (C := RX0) (T := TX0) (N := 13) hx hb hts hin9 hown hK hP 0 rfl rfl 11 (by decide) (hts _ (List.mem_cons_of_mem _ mf_X0_137)) (fun _ h9 => h9) rfl dX0_giveOrigin_9 ?_
  refine lv_iconst (v := 1) hx hb dX0_giveOrigin_12 (by decide) ?_
  refine lv_iadd hx hb dX0_giveOrigin_13 ?_
  refine va_put (D := (dC, dI)) (ci := 0) (v := .int ((cs_w u) + 1)) (ty := .int) (C := RX0) (T := TX0) (N := 13) hx hb hts hin9 tyX0 tyX0_ok nmX0 hown hK hP hD hS 0 rfl rfl 11 (by decide) (hts _ (List.mem_cons_of_mem _ mf_X0_137)) (fun _ h9 => h9) rfl (by decide +kernel) rfl rfl (Nat.le_of_ble_eq_true rfl) dX0_giveOrigin_14 (fun H locs hP hD hS => ?_)
  have hP : va_P (dC, dI) vwCl (wC n a ca (vp_updL (cs_o u) b v, cs_v u, cs_k u, cs_n u, cs_l u, cs_u u, cs_m u, cs_h u, cs_i u, cs_j u, ((cs_w u) + 1), cs_t u)) H := hP
  have hD : va_D A (wC n a ca (vp_updL (cs_o u) b v, cs_v u, cs_k u, cs_n u, cs_l u, cs_u u, cs_m u, cs_h u, cs_i u, cs_j u, ((cs_w u) + 1), cs_t u)) := hD
  exact W.vret hx hb hr (fun t ht hW => ⟨⟨(vp_updL (cs_o u) b v, cs_v u, cs_k u, cs_n u, cs_l u, cs_u u, cs_m u, cs_h u, cs_i u, cs_j u, ((cs_w u) + 1), cs_t u), rfl, (by first | rfl | (simp only [fc_give] <;> rfl)), ⟨by rw [ht]; exact hP, va_K.moved hW.alike hK, hD⟩⟩, hS.F ht⟩) hS.2.2 dX0_giveOrigin_17
