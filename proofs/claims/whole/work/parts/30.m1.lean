set_option maxHeartbeats 4000000 in
set_option maxRecDepth 100000 in
theorem c_M_isBlock (l : Launch) (sz : Nat) (x : Int32) : Met l yX1_isBlock wsX1_isBlock ({ frames := 0, cells := 0, slots := 0, locals := 0 }) (va_Pc [.int x] (fun U => U.heap.size = sz)) (va_Qi (fun r (_ : Unit) => r = (fm_isb x)) (fun _ _ => True) (fun q => sz ≤ q)) 0 0 (fun q => sz ≤ q) := by
  refine Met.ofW (cc := cX1_isBlock) (maxL := 1) (ret := (some .boolean)) (by decide) rfl ?_
  intro p e s m args below meth c s₁ B hml hv
  obtain ⟨rfl, hsz⟩ := hv
  have hx := B.exec
  have hb := B.bytes
  have hr := B.returns
  have hts := atoms_spec (ws := wsX1_isBlock) B.pre
  have hown : s.vm.findClass RX1 = some m.cls := findClass_of_methodNamed B.named
  have hlocks := B.notSynchronized
  have hA : ∀ q : Nat, s.heap.size ≤ q → sz ≤ q := fun q h => hsz ▸ h
  obtain ⟨H, hH, hS⟩ : ∃ H, H = s.heap ∧ va_S (fun q => sz ≤ q) s.heap H [] := ⟨_, rfl, va_S.rf⟩
  rw [← hH]
  have hl := lv_entry ([.int x]) (n := 1) (Nat.le_of_ble_eq_true rfl)
  rw [lg_entry_eq]
  generalize (lg_sl ([.int x]) ++ List.replicate (1 - (lg_sl ([.int x])).length) Slot.unset).toArray = ls at hl ⊢
  have hl : lv_has ls 1 [(0, .int x)] := hl
  refine lv_iload_n hx hb dX1_isBlock_0 rfl (lv_at hl 0 rfl) ?_
  refine lv_if_lt hx hb dX1_isBlock_1 (tgt := 14) rfl (fun h1 => ?_) (fun h1 => ?_)
  · refine lv_iconst (v := 0) hx hb dX1_isBlock_14 (by decide) ?_
    exact W.zret (v := 0) hx hb hr rfl (fun t ht hW => ⟨⟨0, (), rfl, (by first | rfl | (simp only [fm_isb, if_pos h1] <;> rfl)), trivial⟩, hS.F ht⟩) hS.2.2 dX1_isBlock_15
  · refine lv_iload_n hx hb dX1_isBlock_4 rfl (lv_at hl 0 rfl) ?_
    refine lv_bipush (v := 63) hx hb dX1_isBlock_5 (by decide) ?_
    refine lv_icmp_gt hx hb dX1_isBlock_7 (tgt := 14) rfl (fun h2 => ?_) (fun h2 => ?_)
    · refine lv_iconst (v := 0) hx hb dX1_isBlock_14 (by decide) ?_
      exact W.zret (v := 0) hx hb hr rfl (fun t ht hW => ⟨⟨0, (), rfl, (by first | rfl | (simp only [fm_isb, if_neg h1, if_pos h2] <;> rfl)), trivial⟩, hS.F ht⟩) hS.2.2 dX1_isBlock_15
    · refine lv_iconst (v := 1) hx hb dX1_isBlock_10 (by decide) ?_
      refine lv_goto hx hb dX1_isBlock_11 (tgt := 15) rfl ?_
      exact W.zret (v := 1) hx hb hr rfl (fun t ht hW => ⟨⟨1, (), rfl, (by first | rfl | (simp only [fm_isb, if_neg h1, if_neg h2] <;> rfl)), trivial⟩, hS.F ht⟩) hS.2.2 dX1_isBlock_15
set_option maxHeartbeats 4000000 in
set_option maxRecDepth 100000 in
theorem c_M_thrown (l : Launch) (dC : Nat → ClassId) (dI : Nat → Nat → Nat) (n : Nat) (a : Nat → Nat) (ca : Nat → ClassId) (u : StM) (sz : Nat) : Met l yX1_thrown wsX1_thrown ({ frames := 0, cells := 0, slots := 0, locals := 0 }) (va_Pc [.ref (a 0)] (zr_P (dC, dI) vwCl (tM ca) (wM n a ca u) sz)) (va_Qi (fun r u' => r = ms_c u ∧ u' = u) (fun u' => zr_B (dC, dI) vwCl (tM ca) (va_A (wM n a ca u) sz) (wM n a ca u')) (va_A (wM n a ca u) sz)) 0 0 (va_A (wM n a ca u) sz) := by
  refine Met.ofW (cc := cX1_thrown) (maxL := 1) (ret := (some .int)) (by decide) rfl ?_
  intro p e s m args below meth c s₁ B hml hv
  obtain ⟨rfl, hsz, hP, hK, hD0⟩ := hv
  have hx := B.exec
  have hb := B.bytes
  have hr := B.returns
  have hts := atoms_spec (ws := wsX1_thrown) B.pre
  have hown : s.vm.findClass RX1 = some m.cls := findClass_of_methodNamed B.named
  have hlocks := B.notSynchronized
  subst hsz
  have hD := hD0.self (sz := s.heap.size)
  generalize hAe : va_A (wM n a ca u) s.heap.size = A at hD ⊢
  have hA : ∀ q : Nat, s.heap.size ≤ q → A q := fun q h => by rw [← hAe]; exact Or.inr h
  obtain ⟨H, hH, hP, hS⟩ : ∃ H, H = s.heap ∧ va_P (dC, dI) vwCl (wM n a ca u) H ∧ va_S A s.heap H [] := ⟨_, rfl, hP, va_S.rf⟩
  have hin9 : ∀ w ∈ u_ws RX1 TX1 15, w ∈ wsX1_thrown := fun w h => List.mem_cons_of_mem _ (hinX1 w h)
  rw [← hH]
  have hl := lv_entry ([.ref (a 0)]) (n := 1) (Nat.le_of_ble_eq_true rfl)
  rw [lg_entry_eq]
  generalize (lg_sl ([.ref (a 0)]) ++ List.replicate (1 - (lg_sl ([.ref (a 0)])).length) Slot.unset).toArray = ls at hl ⊢
  have hl : lv_has ls 1 [(0, .ref (a 0))] := hl
  refine lv_aload_n hx hb dX1_thrown_0 rfl (lv_at hl 0 rfl) ?_
  refine va_get (D := (dC, dI)) (ci := 1) (v := .int (ms_c u)) (C := RX1) (T := TX1) (N := 15) hx hb hts hin9 hown hK hP 0 rfl rfl 0 (by decide) (hts _ (List.mem_cons_of_mem _ mf_X1_34)) (fun _ h9 => h9) rfl dX1_thrown_1 ?_
  exact W.iret (v := ms_c u) hx hb hr (fun t ht hW => ⟨⟨ms_c u, u, rfl, ⟨(by first | rfl | rfl), (by first | rfl | rfl)⟩, ⟨by rw [ht]; exact hP, va_K.moved hW.alike hK, hD⟩⟩, hS.F ht⟩) hS.2.2 dX1_thrown_4
set_option maxHeartbeats 4000000 in
set_option maxRecDepth 100000 in
theorem c_M_soOf (l : Launch) (dC : Nat → ClassId) (dI : Nat → Nat → Nat) (n : Nat) (a : Nat → Nat) (ca : Nat → ClassId) (u : StM) (sz : Nat) (sl : Nat) (hn : n ≤ 12) (hs : sl < n) : Met l yX1_soOf wsX1_soOf ({ frames := 0, cells := 0, slots := 0, locals := 0 }) (va_Pc [.ref (a 0), .int (nI sl)] (zr_P (dC, dI) vwCl (tM ca) (wM n a ca u) sz)) (va_Qi (fun r u' => r = fm_so (ms_b u sl) (ms_d u sl) ∧ u' = u) (fun u' => zr_B (dC, dI) vwCl (tM ca) (va_A (wM n a ca u) sz) (wM n a ca u')) (va_A (wM n a ca u) sz)) 0 0 (va_A (wM n a ca u) sz) := by
  refine Met.ofW (cc := cX1_soOf) (maxL := 2) (ret := (some .int)) (by decide) rfl ?_
  intro p e s m args below meth c s₁ B hml hv
  obtain ⟨rfl, hsz, hP, hK, hD0⟩ := hv
  have hx := B.exec
  have hb := B.bytes
  have hr := B.returns
  have hts := atoms_spec (ws := wsX1_soOf) B.pre
  have hown : s.vm.findClass RX1 = some m.cls := findClass_of_methodNamed B.named
  have hlocks := B.notSynchronized
  subst hsz
  have hD := hD0.self (sz := s.heap.size)
  generalize hAe : va_A (wM n a ca u) s.heap.size = A at hD ⊢
  have hA : ∀ q : Nat, s.heap.size ≤ q → A q := fun q h => by rw [← hAe]; exact Or.inr h
  obtain ⟨H, hH, hP, hS⟩ : ∃ H, H = s.heap ∧ va_P (dC, dI) vwCl (wM n a ca u) H ∧ va_S A s.heap H [] := ⟨_, rfl, hP, va_S.rf⟩
  have hin9 : ∀ w ∈ u_ws RX1 TX1 15, w ∈ wsX1_soOf := fun w h => List.mem_cons_of_mem _ (hinX1 w h)
  rw [← hH]
  have hl := lv_entry ([.ref (a 0), .int (nI sl)]) (n := 2) (Nat.le_of_ble_eq_true rfl)
  rw [lg_entry_eq]
  generalize (lg_sl ([.ref (a 0), .int (nI sl)]) ++ List.replicate (2 - (lg_sl ([.ref (a 0), .int (nI sl)])).length) Slot.unset).toArray = ls at hl ⊢
  have hl : lv_has ls 2 [(0, .ref (a 0)), (1, .int (nI sl))] := hl
  refine lv_aload_n hx hb dX1_soOf_0 rfl (lv_at hl 0 rfl) ?_
  refine va_get (D := (dC, dI)) (ci := 1) (v := .ref (a 2)) (C := RX1) (T := TX1) (N := 15) hx hb hts hin9 hown hK hP 0 rfl rfl 3 (by decide) (hts _ (List.mem_cons_of_mem _ mf_X1_13)) (fun _ h9 => h9) rfl dX1_soOf_1 ?_
  refine lv_iload_n hx hb dX1_soOf_4 rfl (lv_at hl 1 rfl) ?_
  refine zr_iald (k := sl) hx hb hK hP 2 1 rfl rfl (by omega) (by omega) dX1_soOf_5 ?_
  refine lv_if_ge hx hb dX1_soOf_6 (tgt := 13) rfl (fun h1 => ?_) (fun h1 => ?_)
  · refine lv_iconst (v := 2) hx hb dX1_soOf_13 (by decide) ?_
    refine lv_aload_n hx hb dX1_soOf_14 rfl (lv_at hl 0 rfl) ?_
    refine va_get (D := (dC, dI)) (ci := 1) (v := .ref (a 2)) (C := RX1) (T := TX1) (N := 15) hx hb hts hin9 hown hK hP 0 rfl rfl 3 (by decide) (hts _ (List.mem_cons_of_mem _ mf_X1_13)) (fun _ h9 => h9) rfl dX1_soOf_15 ?_
    refine lv_iload_n hx hb dX1_soOf_18 rfl (lv_at hl 1 rfl) ?_
    refine zr_iald (k := sl) hx hb hK hP 2 1 rfl rfl (by omega) (by omega) dX1_soOf_19 ?_
    refine lv_imul hx hb dX1_soOf_20 ?_
    refine lv_aload_n hx hb dX1_soOf_21 rfl (lv_at hl 0 rfl) ?_
    refine va_get (D := (dC, dI)) (ci := 1) (v := .ref (a 4)) (C := RX1) (T := TX1) (N := 15) hx hb hts hin9 hown hK hP 0 rfl rfl 5 (by decide) (hts _ (List.mem_cons_of_mem _ mf_X1_20)) (fun _ h9 => h9) rfl dX1_soOf_22 ?_
    refine lv_iload_n hx hb dX1_soOf_25 rfl (lv_at hl 1 rfl) ?_
    refine zr_zald (k := sl) hx hb hK hP 4 3 rfl rfl (by omega) (by omega) dX1_soOf_26 ?_
    refine lv_if_eq hx hb dX1_soOf_27 (tgt := 34) rfl (fun h2 => ?_) (fun h2 => ?_)
    · refine lv_iconst (v := 0) hx hb dX1_soOf_34 (by decide) ?_
      refine lv_iadd hx hb dX1_soOf_35 ?_
      exact W.iret (v := ((2 * (ms_b u sl)) + 0)) hx hb hr (fun t ht hW => ⟨⟨((2 * (ms_b u sl)) + 0), u, rfl, ⟨(by first | rfl | (simp only [fm_so, if_pos h1, if_pos h2] <;> rfl)), (by first | rfl | (simp only [fm_so, if_pos h1, if_pos h2] <;> rfl))⟩, ⟨by rw [ht]; exact hP, va_K.moved hW.alike hK, hD⟩⟩, hS.F ht⟩) hS.2.2 dX1_soOf_36
    · refine lv_iconst (v := 1) hx hb dX1_soOf_30 (by decide) ?_
      refine lv_goto hx hb dX1_soOf_31 (tgt := 35) rfl ?_
      refine lv_iadd hx hb dX1_soOf_35 ?_
      exact W.iret (v := ((2 * (ms_b u sl)) + 1)) hx hb hr (fun t ht hW => ⟨⟨((2 * (ms_b u sl)) + 1), u, rfl, ⟨(by first | rfl | (simp only [fm_so, if_pos h1, if_neg h2] <;> rfl)), (by first | rfl | (simp only [fm_so, if_pos h1, if_neg h2] <;> rfl))⟩, ⟨by rw [ht]; exact hP, va_K.moved hW.alike hK, hD⟩⟩, hS.F ht⟩) hS.2.2 dX1_soOf_36
  · refine lv_iconst (v := (-1)) hx hb dX1_soOf_9 (by decide) ?_
    refine lv_goto hx hb dX1_soOf_10 (tgt := 36) rfl ?_
    exact W.iret (v := (-1)) hx hb hr (fun t ht hW => ⟨⟨(-1), u, rfl, ⟨(by first | rfl | (simp only [fm_so, if_neg h1] <;> rfl)), (by first | rfl | (simp only [fm_so, if_neg h1] <;> rfl))⟩, ⟨by rw [ht]; exact hP, va_K.moved hW.alike hK, hD⟩⟩, hS.F ht⟩) hS.2.2 dX1_soOf_36
set_option maxHeartbeats 4000000 in
set_option maxRecDepth 100000 in
theorem c_M_noteSlot (l : Launch) (dC : Nat → ClassId) (dI : Nat → Nat → Nat) (n : Nat) (a : Nat → Nat) (ca : Nat → ClassId) (u : StM) (sz : Nat) (sl : Nat) (hn : n ≤ 12) (hs : sl < n) : Met l yX1_noteSlot wsX1_noteSlot ({ frames := 1, cells := 0, slots := 0, locals := 21 }) (va_Pc [.ref (a 0), .int (nI sl)] (zr_P (dC, dI) vwCl (tM ca) (wM n a ca u) sz)) (va_Qv (fun u' => u' = fm_note u sl) (fun u' => zr_B (dC, dI) vwCl (tM ca) (va_A (wM n a ca u) sz) (wM n a ca u')) (va_A (wM n a ca u) sz)) 0 0 (va_A (wM n a ca u) sz) := by
  refine Met.ofW (cc := cX1_noteSlot) (maxL := 2) (ret := none) (by decide) rfl ?_
  intro p e s m args below meth c s₁ B hml hv
  obtain ⟨rfl, hsz, hP, hK, hD0⟩ := hv
  have hx := B.exec
  have hb := B.bytes
  have hr := B.returns
  have hts := atoms_spec (ws := wsX1_noteSlot) B.pre
  have hown : s.vm.findClass RX1 = some m.cls := findClass_of_methodNamed B.named
  have hlocks := B.notSynchronized
  subst hsz
  have hD := hD0.self (sz := s.heap.size)
  generalize hAe : va_A (wM n a ca u) s.heap.size = A at hD ⊢
  have hA : ∀ q : Nat, s.heap.size ≤ q → A q := fun q h => by rw [← hAe]; exact Or.inr h
  obtain ⟨H, hH, hP, hS⟩ : ∃ H, H = s.heap ∧ va_P (dC, dI) vwCl (wM n a ca u) H ∧ va_S A s.heap H [] := ⟨_, rfl, hP, va_S.rf⟩
  have hin9 : ∀ w ∈ u_ws RX1 TX1 15, w ∈ wsX1_noteSlot := fun w h => List.mem_cons_of_mem _ (hinX1 w h)
  rw [← hH]
  have hl := lv_entry ([.ref (a 0), .int (nI sl)]) (n := 2) (Nat.le_of_ble_eq_true rfl)
  rw [lg_entry_eq]
  generalize (lg_sl ([.ref (a 0), .int (nI sl)]) ++ List.replicate (2 - (lg_sl ([.ref (a 0), .int (nI sl)])).length) Slot.unset).toArray = ls at hl ⊢
  have hl : lv_has ls 2 [(0, .ref (a 0)), (1, .int (nI sl))] := hl
  refine lv_aload_n hx hb dX1_noteSlot_0 rfl (lv_at hl 0 rfl) ?_
  refine va_get (D := (dC, dI)) (ci := 1) (v := .ref (a 5)) (C := RX1) (T := TX1) (N := 15) hx hb hts hin9 hown hK hP 0 rfl rfl 6 (by decide) (hts _ (List.mem_cons_of_mem _ mf_X1_24)) (fun _ h9 => h9) rfl dX1_noteSlot_1 ?_
  refine lv_iload_n hx hb dX1_noteSlot_4 rfl (lv_at hl 1 rfl) ?_
  refine lv_aload_n hx hb dX1_noteSlot_5 rfl (lv_at hl 0 rfl) ?_
  refine lv_iload_n hx hb dX1_noteSlot_6 rfl (lv_at hl 1 rfl) ?_
  refine zr_Vi (w := fun z => wM n a ca z) (u := u) (u1 := u) (v := fm_so (ms_b u sl) (ms_d u sl)) (As := [.int (nI sl)]) (rest := [.int (nI sl), .ref (a 5)]) ⟨hx, hb, hml, hown, hts⟩ (c_M_soOf l dC dI n a ca u H.size sl hn (by omega)) (cwV 1 hts gX1_noteSlot_X1_soOf rfl rfl rfl (by decide +kernel) ⟨Nat.le_of_ble_eq_true rfl, Nat.le_of_ble_eq_true rfl⟩) hK hP hD hS hA (va_recv (q0 := 0) (ci := 1) (q := (RX1, TX1, 15)) hK hP rfl rfl) rfl hl.1 rfl (Nat.le_of_ble_eq_true rfl) dX1_noteSlot_7 (fun H locs hP hD hS => ?_) ⟨Nat.le_of_ble_eq_true rfl, Nat.le_of_ble_eq_true rfl⟩
  have hP : va_P (dC, dI) vwCl (wM n a ca u) H := hP
  have hD : va_D A (wM n a ca u) := hD
  refine zr_iast (k := sl) hx hb hK hP hD hS 5 4 rfl rfl (by omega) (by omega) dX1_noteSlot_10 (fun H locs hP hD hS => ?_)
  have hP : va_P (dC, dI) vwCl (wM n a ca (ms_c u, ms_o u, ms_b u, ms_v u, ms_d u, upd (ms_n u) sl (fm_so (ms_b u sl) (ms_d u sl)), ms_l u, ms_u u, ms_m u, ms_h u, ms_i u, ms_j u, ms_w u, ms_t u)) H := hP
  have hD : va_D A (wM n a ca (ms_c u, ms_o u, ms_b u, ms_v u, ms_d u, upd (ms_n u) sl (fm_so (ms_b u sl) (ms_d u sl)), ms_l u, ms_u u, ms_m u, ms_h u, ms_i u, ms_j u, ms_w u, ms_t u)) := hD
  refine lv_aload_n hx hb dX1_noteSlot_11 rfl (lv_at hl 0 rfl) ?_
  refine lv_dup hx hb dX1_noteSlot_12 rfl ?_
  refine va_get (D := (dC, dI)) (ci := 1) (v := .int (ms_t u)) (C := RX1) (T := TX1) (N := 15) hx hb hts hin9 hown hK hP 0 rfl rfl 14 (by decide) (hts _ (List.mem_cons_of_mem _ mf_X1_41)) (fun _ h9 => h9) rfl dX1_noteSlot_13 ?_
  refine lv_iconst (v := 1) hx hb dX1_noteSlot_16 (by decide) ?_
  refine lv_iadd hx hb dX1_noteSlot_17 ?_
  refine va_put (D := (dC, dI)) (ci := 1) (v := .int ((ms_t u) + 1)) (ty := .int) (C := RX1) (T := TX1) (N := 15) hx hb hts hin9 tyX1 tyX1_ok nmX1 hown hK hP hD hS 0 rfl rfl 14 (by decide) (hts _ (List.mem_cons_of_mem _ mf_X1_41)) (fun _ h9 => h9) rfl (by decide +kernel) rfl rfl (Nat.le_of_ble_eq_true rfl) dX1_noteSlot_18 (fun H locs hP hD hS => ?_)
  have hP : va_P (dC, dI) vwCl (wM n a ca (ms_c u, ms_o u, ms_b u, ms_v u, ms_d u, upd (ms_n u) sl (fm_so (ms_b u sl) (ms_d u sl)), ms_l u, ms_u u, ms_m u, ms_h u, ms_i u, ms_j u, ms_w u, ((ms_t u) + 1))) H := hP
  have hD : va_D A (wM n a ca (ms_c u, ms_o u, ms_b u, ms_v u, ms_d u, upd (ms_n u) sl (fm_so (ms_b u sl) (ms_d u sl)), ms_l u, ms_u u, ms_m u, ms_h u, ms_i u, ms_j u, ms_w u, ((ms_t u) + 1))) := hD
  exact W.vret hx hb hr (fun t ht hW => ⟨⟨(ms_c u, ms_o u, ms_b u, ms_v u, ms_d u, upd (ms_n u) sl (fm_so (ms_b u sl) (ms_d u sl)), ms_l u, ms_u u, ms_m u, ms_h u, ms_i u, ms_j u, ms_w u, ((ms_t u) + 1)), rfl, (by first | rfl | (simp only [fm_note] <;> rfl)), ⟨by rw [ht]; exact hP, va_K.moved hW.alike hK, hD⟩⟩, hS.F ht⟩) hS.2.2 dX1_noteSlot_21
set_option maxHeartbeats 4000000 in
set_option maxRecDepth 100000 in
theorem c_M_isNotedDirty (l : Launch) (dC : Nat → ClassId) (dI : Nat → Nat → Nat) (n : Nat) (a : Nat → Nat) (ca : Nat → ClassId) (u : StM) (sz : Nat) (sl : Nat) (hn : n ≤ 12) (hs : sl < n) : Met l yX1_isNotedDirty wsX1_isNotedDirty ({ frames := 0, cells := 0, slots := 0, locals := 0 }) (va_Pc [.ref (a 0), .int (nI sl)] (zr_P (dC, dI) vwCl (tM ca) (wM n a ca u) sz)) (va_Qi (fun r u' => r = fm_ind (ms_n u sl) ∧ u' = u) (fun u' => zr_B (dC, dI) vwCl (tM ca) (va_A (wM n a ca u) sz) (wM n a ca u')) (va_A (wM n a ca u) sz)) 0 0 (va_A (wM n a ca u) sz) := by
  refine Met.ofW (cc := cX1_isNotedDirty) (maxL := 2) (ret := (some .boolean)) (by decide) rfl ?_
  intro p e s m args below meth c s₁ B hml hv
  obtain ⟨rfl, hsz, hP, hK, hD0⟩ := hv
  have hx := B.exec
  have hb := B.bytes
  have hr := B.returns
  have hts := atoms_spec (ws := wsX1_isNotedDirty) B.pre
  have hown : s.vm.findClass RX1 = some m.cls := findClass_of_methodNamed B.named
  have hlocks := B.notSynchronized
  subst hsz
  have hD := hD0.self (sz := s.heap.size)
  generalize hAe : va_A (wM n a ca u) s.heap.size = A at hD ⊢
  have hA : ∀ q : Nat, s.heap.size ≤ q → A q := fun q h => by rw [← hAe]; exact Or.inr h
  obtain ⟨H, hH, hP, hS⟩ : ∃ H, H = s.heap ∧ va_P (dC, dI) vwCl (wM n a ca u) H ∧ va_S A s.heap H [] := ⟨_, rfl, hP, va_S.rf⟩
  have hin9 : ∀ w ∈ u_ws RX1 TX1 15, w ∈ wsX1_isNotedDirty := fun w h => List.mem_cons_of_mem _ (hinX1 w h)
  rw [← hH]
  have hl := lv_entry ([.ref (a 0), .int (nI sl)]) (n := 2) (Nat.le_of_ble_eq_true rfl)
  rw [lg_entry_eq]
  generalize (lg_sl ([.ref (a 0), .int (nI sl)]) ++ List.replicate (2 - (lg_sl ([.ref (a 0), .int (nI sl)])).length) Slot.unset).toArray = ls at hl ⊢
  have hl : lv_has ls 2 [(0, .ref (a 0)), (1, .int (nI sl))] := hl
  refine lv_aload_n hx hb dX1_isNotedDirty_0 rfl (lv_at hl 0 rfl) ?_
  refine va_get (D := (dC, dI)) (ci := 1) (v := .ref (a 5)) (C := RX1) (T := TX1) (N := 15) hx hb hts hin9 hown hK hP 0 rfl rfl 6 (by decide) (hts _ (List.mem_cons_of_mem _ mf_X1_24)) (fun _ h9 => h9) rfl dX1_isNotedDirty_1 ?_
  refine lv_iload_n hx hb dX1_isNotedDirty_4 rfl (lv_at hl 1 rfl) ?_
  refine zr_iald (k := sl) hx hb hK hP 5 4 rfl rfl (by omega) (by omega) dX1_isNotedDirty_5 ?_
  refine lv_if_lt hx hb dX1_isNotedDirty_6 (tgt := 25) rfl (fun h1 => ?_) (fun h1 => ?_)
  · refine lv_iconst (v := 0) hx hb dX1_isNotedDirty_25 (by decide) ?_
    exact W.zret (v := 0) hx hb hr rfl (fun t ht hW => ⟨⟨0, u, rfl, ⟨(by first | rfl | (simp only [fm_ind, if_pos h1] <;> rfl)), (by first | rfl | (simp only [fm_ind, if_pos h1] <;> rfl))⟩, ⟨by rw [ht]; exact hP, va_K.moved hW.alike hK, hD⟩⟩, hS.F ht⟩) hS.2.2 dX1_isNotedDirty_26
  · refine lv_aload_n hx hb dX1_isNotedDirty_9 rfl (lv_at hl 0 rfl) ?_
    refine va_get (D := (dC, dI)) (ci := 1) (v := .ref (a 5)) (C := RX1) (T := TX1) (N := 15) hx hb hts hin9 hown hK hP 0 rfl rfl 6 (by decide) (hts _ (List.mem_cons_of_mem _ mf_X1_24)) (fun _ h9 => h9) rfl dX1_isNotedDirty_10 ?_
    refine lv_iload_n hx hb dX1_isNotedDirty_13 rfl (lv_at hl 1 rfl) ?_
    refine zr_iald (k := sl) hx hb hK hP 5 4 rfl rfl (by omega) (by omega) dX1_isNotedDirty_14 ?_
    refine lv_iconst (v := 2) hx hb dX1_isNotedDirty_15 (by decide) ?_
    refine lv_irem hx hb dX1_isNotedDirty_16 (by decide) ?_
    refine lv_iconst (v := 1) hx hb dX1_isNotedDirty_17 (by decide) ?_
    refine lv_icmp_ne hx hb dX1_isNotedDirty_18 (tgt := 25) rfl (fun h2 => ?_) (fun h2 => ?_)
    · refine lv_iconst (v := 0) hx hb dX1_isNotedDirty_25 (by decide) ?_
      exact W.zret (v := 0) hx hb hr rfl (fun t ht hW => ⟨⟨0, u, rfl, ⟨(by first | rfl | (simp only [fm_ind, if_neg h1, if_neg h2] <;> rfl)), (by first | rfl | (simp only [fm_ind, if_neg h1, if_neg h2] <;> rfl))⟩, ⟨by rw [ht]; exact hP, va_K.moved hW.alike hK, hD⟩⟩, hS.F ht⟩) hS.2.2 dX1_isNotedDirty_26
    · refine lv_iconst (v := 1) hx hb dX1_isNotedDirty_21 (by decide) ?_
      refine lv_goto hx hb dX1_isNotedDirty_22 (tgt := 26) rfl ?_
      exact W.zret (v := 1) hx hb hr rfl (fun t ht hW => ⟨⟨1, u, rfl, ⟨(by first | rfl | (simp only [fm_ind, if_neg h1, if_pos h2] <;> rfl)), (by first | rfl | (simp only [fm_ind, if_neg h1, if_pos h2] <;> rfl))⟩, ⟨by rw [ht]; exact hP, va_K.moved hW.alike hK, hD⟩⟩, hS.F ht⟩) hS.2.2 dX1_isNotedDirty_26
set_option maxHeartbeats 4000000 in
set_option maxRecDepth 100000 in
theorem c_M_use (l : Launch) (dC : Nat → ClassId) (dI : Nat → Nat → Nat) (n : Nat) (a : Nat → Nat) (ca : Nat → ClassId) (u : StM) (sz : Nat) (sl : Nat) (hn : n ≤ 12) (hs : sl < n) : Met l yX1_use wsX1_use ({ frames := 0, cells := 0, slots := 0, locals := 0 }) (va_Pc [.ref (a 0), .int (nI sl)] (zr_P (dC, dI) vwCl (tM ca) (wM n a ca u) sz)) (va_Qv (fun u' => u' = fm_use u sl) (fun u' => zr_B (dC, dI) vwCl (tM ca) (va_A (wM n a ca u) sz) (wM n a ca u')) (va_A (wM n a ca u) sz)) 0 0 (va_A (wM n a ca u) sz) := by
  refine Met.ofW (cc := cX1_use) (maxL := 2) (ret := none) (by decide) rfl ?_
  intro p e s m args below meth c s₁ B hml hv
  obtain ⟨rfl, hsz, hP, hK, hD0⟩ := hv
  have hx := B.exec
  have hb := B.bytes
  have hr := B.returns
  have hts := atoms_spec (ws := wsX1_use) B.pre
  have hown : s.vm.findClass RX1 = some m.cls := findClass_of_methodNamed B.named
  have hlocks := B.notSynchronized
  subst hsz
  have hD := hD0.self (sz := s.heap.size)
  generalize hAe : va_A (wM n a ca u) s.heap.size = A at hD ⊢
  have hA : ∀ q : Nat, s.heap.size ≤ q → A q := fun q h => by rw [← hAe]; exact Or.inr h
  obtain ⟨H, hH, hP, hS⟩ : ∃ H, H = s.heap ∧ va_P (dC, dI) vwCl (wM n a ca u) H ∧ va_S A s.heap H [] := ⟨_, rfl, hP, va_S.rf⟩
  have hin9 : ∀ w ∈ u_ws RX1 TX1 15, w ∈ wsX1_use := fun w h => List.mem_cons_of_mem _ (hinX1 w h)
  rw [← hH]
  have hl := lv_entry ([.ref (a 0), .int (nI sl)]) (n := 2) (Nat.le_of_ble_eq_true rfl)
  rw [lg_entry_eq]
  generalize (lg_sl ([.ref (a 0), .int (nI sl)]) ++ List.replicate (2 - (lg_sl ([.ref (a 0), .int (nI sl)])).length) Slot.unset).toArray = ls at hl ⊢
  have hl : lv_has ls 2 [(0, .ref (a 0)), (1, .int (nI sl))] := hl
  refine lv_aload_n hx hb dX1_use_0 rfl (lv_at hl 0 rfl) ?_
  refine lv_dup hx hb dX1_use_1 rfl ?_
  refine va_get (D := (dC, dI)) (ci := 1) (v := .long (ms_u u)) (C := RX1) (T := TX1) (N := 15) hx hb hts hin9 hown hK hP 0 rfl rfl 8 (by decide) (hts _ (List.mem_cons_of_mem _ mf_X1_44)) (fun _ h9 => h9) rfl dX1_use_2 ?_
  refine lv_lconst (v := 1) hx hb dX1_use_5 (by decide) ?_
  refine lv_ladd hx hb dX1_use_6 ?_
  refine va_put (D := (dC, dI)) (ci := 1) (v := .long ((ms_u u) + 1)) (ty := .long) (C := RX1) (T := TX1) (N := 15) hx hb hts hin9 tyX1 tyX1_ok nmX1 hown hK hP hD hS 0 rfl rfl 8 (by decide) (hts _ (List.mem_cons_of_mem _ mf_X1_44)) (fun _ h9 => h9) rfl (by decide +kernel) rfl rfl (Nat.le_of_ble_eq_true rfl) dX1_use_7 (fun H locs hP hD hS => ?_)
  have hP : va_P (dC, dI) vwCl (wM n a ca (ms_c u, ms_o u, ms_b u, ms_v u, ms_d u, ms_n u, ms_l u, ((ms_u u) + 1), ms_m u, ms_h u, ms_i u, ms_j u, ms_w u, ms_t u)) H := hP
  have hD : va_D A (wM n a ca (ms_c u, ms_o u, ms_b u, ms_v u, ms_d u, ms_n u, ms_l u, ((ms_u u) + 1), ms_m u, ms_h u, ms_i u, ms_j u, ms_w u, ms_t u)) := hD
  refine lv_aload_n hx hb dX1_use_10 rfl (lv_at hl 0 rfl) ?_
  refine va_get (D := (dC, dI)) (ci := 1) (v := .ref (a 6)) (C := RX1) (T := TX1) (N := 15) hx hb hts hin9 hown hK hP 0 rfl rfl 7 (by decide) (hts _ (List.mem_cons_of_mem _ mf_X1_27)) (fun _ h9 => h9) rfl dX1_use_11 ?_
  refine lv_iload_n hx hb dX1_use_14 rfl (lv_at hl 1 rfl) ?_
  refine lv_aload_n hx hb dX1_use_15 rfl (lv_at hl 0 rfl) ?_
  refine va_get (D := (dC, dI)) (ci := 1) (v := .long ((ms_u u) + 1)) (C := RX1) (T := TX1) (N := 15) hx hb hts hin9 hown hK hP 0 rfl rfl 8 (by decide) (hts _ (List.mem_cons_of_mem _ mf_X1_44)) (fun _ h9 => h9) rfl dX1_use_16 ?_
  refine zr_last (k := sl) hx hb hK hP hD hS 6 5 rfl rfl (by omega) (by omega) dX1_use_19 (fun H locs hP hD hS => ?_)
  have hP : va_P (dC, dI) vwCl (wM n a ca (ms_c u, ms_o u, ms_b u, ms_v u, ms_d u, ms_n u, vp_updL (ms_l u) sl ((ms_u u) + 1), ((ms_u u) + 1), ms_m u, ms_h u, ms_i u, ms_j u, ms_w u, ms_t u)) H := hP
  have hD : va_D A (wM n a ca (ms_c u, ms_o u, ms_b u, ms_v u, ms_d u, ms_n u, vp_updL (ms_l u) sl ((ms_u u) + 1), ((ms_u u) + 1), ms_m u, ms_h u, ms_i u, ms_j u, ms_w u, ms_t u)) := hD
  exact W.vret hx hb hr (fun t ht hW => ⟨⟨(ms_c u, ms_o u, ms_b u, ms_v u, ms_d u, ms_n u, vp_updL (ms_l u) sl ((ms_u u) + 1), ((ms_u u) + 1), ms_m u, ms_h u, ms_i u, ms_j u, ms_w u, ms_t u), rfl, (by first | rfl | (simp only [fm_use] <;> rfl)), ⟨by rw [ht]; exact hP, va_K.moved hW.alike hK, hD⟩⟩, hS.F ht⟩) hS.2.2 dX1_use_20
set_option maxHeartbeats 4000000 in
set_option maxRecDepth 100000 in
theorem c_M_find (l : Launch) (dC : Nat → ClassId) (dI : Nat → Nat → Nat) (n : Nat) (a : Nat → Nat) (ca : Nat → ClassId) (u : StM) (sz : Nat) (b : Nat) (hn : n ≤ 12) : Met l yX1_find wsX1_find ({ frames := 0, cells := 0, slots := 0, locals := 0 }) (va_Pc [.ref (a 0), .int (nI b)] (zr_P (dC, dI) vwCl (tM ca) (wM n a ca u) sz)) (va_Qi (fun r u' => r = fc_enc (fm_find (ms_b u) b n 0 none) ∧ u' = u) (fun u' => zr_B (dC, dI) vwCl (tM ca) (va_A (wM n a ca u) sz) (wM n a ca u')) (va_A (wM n a ca u) sz)) 0 0 (va_A (wM n a ca u) sz) := by
  refine Met.ofW (cc := cX1_find) (maxL := 4) (ret := (some .int)) (by decide) rfl ?_
  intro p e s m args below meth c s₁ B hml hv
  obtain ⟨rfl, hsz, hP, hK, hD0⟩ := hv
  have hx := B.exec
  have hb := B.bytes
  have hr := B.returns
  have hts := atoms_spec (ws := wsX1_find) B.pre
  have hown : s.vm.findClass RX1 = some m.cls := findClass_of_methodNamed B.named
  have hlocks := B.notSynchronized
  subst hsz
  have hD := hD0.self (sz := s.heap.size)
  generalize hAe : va_A (wM n a ca u) s.heap.size = A at hD ⊢
  have hA : ∀ q : Nat, s.heap.size ≤ q → A q := fun q h => by rw [← hAe]; exact Or.inr h
  obtain ⟨H, hH, hP, hS⟩ : ∃ H, H = s.heap ∧ va_P (dC, dI) vwCl (wM n a ca u) H ∧ va_S A s.heap H [] := ⟨_, rfl, hP, va_S.rf⟩
  have hin9 : ∀ w ∈ u_ws RX1 TX1 15, w ∈ wsX1_find := fun w h => List.mem_cons_of_mem _ (hinX1 w h)
  rw [← hH]
  have hl := lv_entry ([.ref (a 0), .int (nI b)]) (n := 4) (Nat.le_of_ble_eq_true rfl)
  rw [lg_entry_eq]
  generalize (lg_sl ([.ref (a 0), .int (nI b)]) ++ List.replicate (4 - (lg_sl ([.ref (a 0), .int (nI b)])).length) Slot.unset).toArray = ls at hl ⊢
  have hl : lv_has ls 4 [(0, .ref (a 0)), (1, .int (nI b))] := hl
  refine lv_iconst (v := (-1)) hx hb dX1_find_0 (by decide) ?_
  refine lv_istore_n hx hb dX1_find_1 rfl hl (by decide) rfl (fun ls hl => ?_)
  have hl : lv_has ls 4 [(2, .int (-1)), (0, .ref (a 0)), (1, .int (nI b))] := hl
  refine lv_iconst (v := 0) hx hb dX1_find_2 (by decide) ?_
  refine lv_istore_n hx hb dX1_find_3 rfl hl (by decide) rfl (fun ls hl => ?_)
  have hl : lv_has ls 4 [(3, .int 0), (2, .int (-1)), (0, .ref (a 0)), (1, .int (nI b))] := hl
  refine zr_loop (fun r (x0 : Nat × Option Nat) ls H locs => r + x0.1 = n ∧ fm_find (ms_b u) b r x0.1 x0.2 = fm_find (ms_b u) b n 0 none ∧ lv_has ls 4 [(0, .ref (a 0)), (1, .int (nI b)), (2, .int (fc_enc x0.2)), (3, .int (nI x0.1))] ∧ va_P (dC, dI) vwCl (wM n a ca u) H ∧ va_D A (wM n a ca u) ∧ va_S A s.heap H locs) (fun ls => F0 m 4 ls []) ?_ n (0, none) _ _ _ ⟨by omega, rfl, lv_sub hl [2, 3, 1, 0] rfl, hP, hD, hS⟩
  rintro r ⟨k, o⟩ ls H locs ih ⟨hrk, hinv, hl, hP, hD, hS⟩
  have hrk : r + k = n := hrk
  have hinv : fm_find (ms_b u) b r k o = fm_find (ms_b u) b n 0 none := hinv
  have hl : lv_has ls 4 [(0, .ref (a 0)), (1, .int (nI b)), (2, .int (fc_enc o)), (3, .int (nI k))] := hl
  have hP : va_P (dC, dI) vwCl (wM n a ca u) H := hP
  have hD : va_D A (wM n a ca u) := hD
  refine lv_iload_n hx hb dX1_find_4 rfl (lv_at hl 3 rfl) ?_
  refine lv_aload_n hx hb dX1_find_5 rfl (lv_at hl 0 rfl) ?_
  refine va_get (D := (dC, dI)) (ci := 1) (v := .int (nI n)) (C := RX1) (T := TX1) (N := 15) hx hb hts hin9 hown hK hP 0 rfl rfl 1 (by decide) (hts _ (List.mem_cons_of_mem _ mf_X1_30)) (fun _ h9 => h9) rfl dX1_find_6 ?_
  refine lv_icmp_ge hx hb dX1_find_9 (tgt := 34) rfl (fun h1 => ?_) (fun h1 => ?_)
  · have h1 := zr_ge (by omega) (by omega) h1
    obtain rfl : r = 0 := by omega
    refine lv_iload_n hx hb dX1_find_34 rfl (lv_at hl 2 rfl) ?_
    exact W.iret (v := fc_enc o) hx hb hr (fun t ht hW => ⟨⟨fc_enc o, u, rfl, ⟨(by first | rfl | (rw [← hinv] <;> rfl) | (rw [← hinv]; simp only [fm_find] <;> rfl) | (simp only [fm_find]; rw [← hinv] <;> rfl) | (simp only [fm_find]; rw [← hinv]; simp only [fm_find] <;> rfl) | (simp only [fm_find] <;> rfl)), (by first | rfl | (rw [← hinv] <;> rfl) | (rw [← hinv]; simp only [fm_find] <;> rfl) | (simp only [fm_find]; rw [← hinv] <;> rfl) | (simp only [fm_find]; rw [← hinv]; simp only [fm_find] <;> rfl) | (simp only [fm_find] <;> rfl))⟩, ⟨by rw [ht]; exact hP, va_K.moved hW.alike hK, hD⟩⟩, hS.F ht⟩) hS.2.2 dX1_find_35
  · have h1 := zr_lt (by omega) (by omega) h1
    obtain ⟨r', rfl⟩ : ∃ z, r = z + 1 := ⟨r - 1, by omega⟩
    refine lv_aload_n hx hb dX1_find_12 rfl (lv_at hl 0 rfl) ?_
    refine va_get (D := (dC, dI)) (ci := 1) (v := .ref (a 2)) (C := RX1) (T := TX1) (N := 15) hx hb hts hin9 hown hK hP 0 rfl rfl 3 (by decide) (hts _ (List.mem_cons_of_mem _ mf_X1_13)) (fun _ h9 => h9) rfl dX1_find_13 ?_
    refine lv_iload_n hx hb dX1_find_16 rfl (lv_at hl 3 rfl) ?_
    refine zr_iald (k := k) hx hb hK hP 2 1 rfl rfl (by omega) (by omega) dX1_find_17 ?_
    refine lv_iload_n hx hb dX1_find_18 rfl (lv_at hl 1 rfl) ?_
    refine lv_icmp_ne hx hb dX1_find_19 (tgt := 26) rfl (fun h2 => ?_) (fun h2 => ?_)
    · refine lv_iload_n hx hb dX1_find_26 rfl (lv_at hl 2 rfl) ?_
      refine lv_istore_n hx hb dX1_find_27 rfl hl (by decide) rfl (fun ls hl => ?_)
      have hl : lv_has ls 4 [(2, .int (fc_enc o)), (0, .ref (a 0)), (1, .int (nI b)), (3, .int (nI k))] := hl
      refine lv_iinc (k := 3) (v := nI (k + 1)) hx hb dX1_find_28 hl rfl (zr_incN k) (by decide) rfl (fun ls hl => ?_)
      have hl : lv_has ls 4 [(3, .int (nI (k + 1))), (2, .int (fc_enc o)), (0, .ref (a 0)), (1, .int (nI b))] := hl
      refine lv_goto hx hb dX1_find_31 (tgt := 4) rfl ?_
      exact ih r' (k + 1, o) _ _ _ (by omega) ⟨by omega, (by rw [← hinv]; first | rfl | (simp only [fm_find, if_neg h2] <;> rfl)), lv_sub hl [2, 3, 1, 0] rfl, hP, hD, hS⟩
    · refine lv_iload_n hx hb dX1_find_22 rfl (lv_at hl 3 rfl) ?_
      refine lv_goto hx hb dX1_find_23 (tgt := 27) rfl ?_
      refine lv_istore_n hx hb dX1_find_27 rfl hl (by decide) rfl (fun ls hl => ?_)
      have hl : lv_has ls 4 [(2, .int (nI k)), (0, .ref (a 0)), (1, .int (nI b)), (3, .int (nI k))] := hl
      refine lv_iinc (k := 3) (v := nI (k + 1)) hx hb dX1_find_28 hl rfl (zr_incN k) (by decide) rfl (fun ls hl => ?_)
      have hl : lv_has ls 4 [(3, .int (nI (k + 1))), (2, .int (nI k)), (0, .ref (a 0)), (1, .int (nI b))] := hl
      refine lv_goto hx hb dX1_find_31 (tgt := 4) rfl ?_
      exact ih r' (k + 1, (some k)) _ _ _ (by omega) ⟨by omega, (by rw [← hinv]; first | rfl | (simp only [fm_find, if_pos h2] <;> rfl)), lv_sub hl [2, 3, 1, 0] rfl, hP, hD, hS⟩
set_option maxHeartbeats 4000000 in
set_option maxRecDepth 100000 in
theorem c_M_give (l : Launch) (dC : Nat → ClassId) (dI : Nat → Nat → Nat) (n : Nat) (a : Nat → Nat) (ca : Nat → ClassId) (u : StM) (sz : Nat) (b : Nat) (v : Int64) (hb64 : b < 64) : Met l yX1_give wsX1_give ({ frames := 0, cells := 0, slots := 0, locals := 0 }) (va_Pc [.ref (a 0), .int (nI b), .long v] (zr_P (dC, dI) vwCl (tM ca) (wM n a ca u) sz)) (va_Qv (fun u' => u' = fm_give u b v) (fun u' => zr_B (dC, dI) vwCl (tM ca) (va_A (wM n a ca u) sz) (wM n a ca u')) (va_A (wM n a ca u) sz)) 0 0 (va_A (wM n a ca u) sz) := by
  refine Met.ofW (cc := cX1_give) (maxL := 4) (ret := none) (by decide) rfl ?_
  intro p e s m args below meth c s₁ B hml hv
  obtain ⟨rfl, hsz, hP, hK, hD0⟩ := hv
  have hx := B.exec
  have hb := B.bytes
  have hr := B.returns
  have hts := atoms_spec (ws := wsX1_give) B.pre
  have hown : s.vm.findClass RX1 = some m.cls := findClass_of_methodNamed B.named
  have hlocks := B.notSynchronized
  subst hsz
  have hD := hD0.self (sz := s.heap.size)
  generalize hAe : va_A (wM n a ca u) s.heap.size = A at hD ⊢
  have hA : ∀ q : Nat, s.heap.size ≤ q → A q := fun q h => by rw [← hAe]; exact Or.inr h
  obtain ⟨H, hH, hP, hS⟩ : ∃ H, H = s.heap ∧ va_P (dC, dI) vwCl (wM n a ca u) H ∧ va_S A s.heap H [] := ⟨_, rfl, hP, va_S.rf⟩
  have hin9 : ∀ w ∈ u_ws RX1 TX1 15, w ∈ wsX1_give := fun w h => List.mem_cons_of_mem _ (hinX1 w h)
  rw [← hH]
  have hl := lv_entry ([.ref (a 0), .int (nI b), .long v]) (n := 4) (Nat.le_of_ble_eq_true rfl)
  rw [lg_entry_eq]
  generalize (lg_sl ([.ref (a 0), .int (nI b), .long v]) ++ List.replicate (4 - (lg_sl ([.ref (a 0), .int (nI b), .long v])).length) Slot.unset).toArray = ls at hl ⊢
  have hl : lv_has ls 4 [(0, .ref (a 0)), (1, .int (nI b)), (2, .long v)] := hl
  refine lv_aload_n hx hb dX1_give_0 rfl (lv_at hl 0 rfl) ?_
  refine va_get (D := (dC, dI)) (ci := 1) (v := .ref (a 1)) (C := RX1) (T := TX1) (N := 15) hx hb hts hin9 hown hK hP 0 rfl rfl 2 (by decide) (hts _ (List.mem_cons_of_mem _ mf_X1_7)) (fun _ h9 => h9) rfl dX1_give_1 ?_
  refine lv_iload_n hx hb dX1_give_4 rfl (lv_at hl 1 rfl) ?_
  refine lv_lload_n hx hb dX1_give_5 rfl (lv_at hl 2 rfl) ?_
  refine zr_last (k := b) hx hb hK hP hD hS 1 0 rfl rfl (by omega) (by omega) dX1_give_6 (fun H locs hP hD hS => ?_)
  have hP : va_P (dC, dI) vwCl (wM n a ca (ms_c u, vp_updL (ms_o u) b v, ms_b u, ms_v u, ms_d u, ms_n u, ms_l u, ms_u u, ms_m u, ms_h u, ms_i u, ms_j u, ms_w u, ms_t u)) H := hP
  have hD : va_D A (wM n a ca (ms_c u, vp_updL (ms_o u) b v, ms_b u, ms_v u, ms_d u, ms_n u, ms_l u, ms_u u, ms_m u, ms_h u, ms_i u, ms_j u, ms_w u, ms_t u)) := hD
  refine lv_aload_n hx hb dX1_give_7 rfl (lv_at hl 0 rfl) ?_
  refine lv_dup hx hb dX1_give_8 rfl ?_
  refine va_get (D := (dC, dI)) (ci := 1) (v := .int (ms_w u)) (C := RX1) (T := TX1) (N := 15) hx hb hts hin9 hown hK hP 0 rfl rfl 13 (by decide) (hts _ (List.mem_cons_of_mem _ mf_X1_48)) (fun _ h9 => h9) rfl dX1_give_9 ?_
  refine lv_iconst (v := 1) hx hb dX1_give_12 (by decide) ?_
  refine lv_iadd hx hb dX1_give_13 ?_
  refine va_put (D := (dC, dI)) (ci := 1) (v := .int ((ms_w u) + 1)) (ty := .int) (C := RX1) (T := TX1) (N := 15) hx hb hts hin9 tyX1 tyX1_ok nmX1 hown hK hP hD hS 0 rfl rfl 13 (by decide) (hts _ (List.mem_cons_of_mem _ mf_X1_48)) (fun _ h9 => h9) rfl (by decide +kernel) rfl rfl (Nat.le_of_ble_eq_true rfl) dX1_give_14 (fun H locs hP hD hS => ?_)
  have hP : va_P (dC, dI) vwCl (wM n a ca (ms_c u, vp_updL (ms_o u) b v, ms_b u, ms_v u, ms_d u, ms_n u, ms_l u, ms_u u, ms_m u, ms_h u, ms_i u, ms_j u, ((ms_w u) + 1), ms_t u)) H := hP
  have hD : va_D A (wM n a ca (ms_c u, vp_updL (ms_o u) b v, ms_b u, ms_v u, ms_d u, ms_n u, ms_l u, ms_u u, ms_m u, ms_h u, ms_i u, ms_j u, ((ms_w u) + 1), ms_t u)) := hD
  exact W.vret hx hb hr (fun t ht hW => ⟨⟨(ms_c u, vp_updL (ms_o u) b v, ms_b u, ms_v u, ms_d u, ms_n u, ms_l u, ms_u u, ms_m u, ms_h u, ms_i u, ms_j u, ((ms_w u) + 1), ms_t u), rfl, (by first | rfl | (simp only [fm_give] <;> rfl)), ⟨by rw [ht]; exact hP, va_K.moved hW.alike hK, hD⟩⟩, hS.F ht⟩) hS.2.2 dX1_give_17
