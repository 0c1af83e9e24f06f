set_option maxHeartbeats 4000000 in
set_option maxRecDepth 100000 in
theorem c_M_clean (l : Launch) (dC : Nat → ClassId) (dI : Nat → Nat → Nat) (n : Nat) (a : Nat → Nat) (ca : Nat → ClassId) (u : StM) (sz : Nat) (sl : Nat) (hn : n ≤ 12) (hs : sl < n) : Met l yX1_clean wsX1_clean ({ frames := 2, cells := 0, slots := 0, locals := 42 }) (va_Pc [.ref (a 0), .int (nI sl)] (zr_P (dC, dI) vwCl (tM ca) (wM n a ca u) sz)) (va_Qv (fun u' => u' = fm_clean u sl) (fun u' => zr_B (dC, dI) vwCl (tM ca) (va_A (wM n a ca u) sz) (wM n a ca u')) (va_A (wM n a ca u) sz)) 0 0 (va_A (wM n a ca u) sz) := by
  refine Met.ofW (cc := cX1_clean) (maxL := 3) (ret := none) (by decide) rfl ?_
  intro p e s m args below meth c s₁ B hml hv
  obtain ⟨rfl, hsz, hP, hK, hD0⟩ := hv
  have hx := B.exec
  have hb := B.bytes
  have hr := B.returns
  have hts := atoms_spec (ws := wsX1_clean) B.pre
  have hown : s.vm.findClass RX1 = some m.cls := findClass_of_methodNamed B.named
  have hlocks := B.notSynchronized
  subst hsz
  have hD := hD0.self (sz := s.heap.size)
  generalize hAe : va_A (wM n a ca u) s.heap.size = A at hD ⊢
  have hA : ∀ q : Nat, s.heap.size ≤ q → A q := fun q h => by rw [← hAe]; exact Or.inr h
  obtain ⟨H, hH, hP, hS⟩ : ∃ H, H = s.heap ∧ va_P (dC, dI) vwCl (wM n a ca u) H ∧ va_S A s.heap H [] := ⟨_, rfl, hP, va_S.rf⟩
  have hin9 : ∀ w ∈ u_ws RX1 TX1 15, w ∈ wsX1_clean := fun w h => List.mem_cons_of_mem _ (hinX1 w h)
  rw [← hH]
  have hl := lv_entry ([.ref (a 0), .int (nI sl)]) (n := 3) (Nat.le_of_ble_eq_true rfl)
  rw [lg_entry_eq]
  generalize (lg_sl ([.ref (a 0), .int (nI sl)]) ++ List.replicate (3 - (lg_sl ([.ref (a 0), .int (nI sl)])).length) Slot.unset).toArray = ls at hl ⊢
  have hl : lv_has ls 3 [(0, .ref (a 0)), (1, .int (nI sl))] := hl
  refine lv_aload_n hx hb dX1_clean_0 rfl (lv_at hl 0 rfl) ?_
  refine lv_iload_n hx hb dX1_clean_1 rfl (lv_at hl 1 rfl) ?_
  refine zr_Vi (w := fun z => wM n a ca z) (u := u) (u1 := u) (v := fm_ind (ms_n u sl)) (As := [.int (nI sl)]) (rest := []) ⟨hx, hb, hml, hown, hts⟩ (c_M_isNotedDirty l dC dI n a ca u H.size sl hn (by omega)) (cwV 1 hts gX1_clean_X1_isNotedDirty rfl rfl rfl (by decide +kernel) ⟨Nat.le_of_ble_eq_true rfl, Nat.le_of_ble_eq_true rfl⟩) hK hP hD hS hA (va_recv (q0 := 0) (ci := 1) (q := (RX1, TX1, 15)) hK hP rfl rfl) rfl hl.1 rfl (Nat.le_of_ble_eq_true rfl) dX1_clean_2 (fun H locs hP hD hS => ?_) ⟨Nat.le_of_ble_eq_true rfl, Nat.le_of_ble_eq_true rfl⟩
  have hP : va_P (dC, dI) vwCl (wM n a ca u) H := hP
  have hD : va_D A (wM n a ca u) := hD
  refine lv_istore_n hx hb dX1_clean_5 rfl hl (by decide) rfl (fun ls hl => ?_)
  have hl : lv_has ls 3 [(2, .int (fm_ind (ms_n u sl))), (0, .ref (a 0)), (1, .int (nI sl))] := hl
  refine lv_aload_n hx hb dX1_clean_6 rfl (lv_at hl 1 rfl) ?_
  refine va_get (D := (dC, dI)) (ci := 1) (v := .ref (a 4)) (C := RX1) (T := TX1) (N := 15) hx hb hts hin9 hown hK hP 0 rfl rfl 5 (by decide) (hts _ (List.mem_cons_of_mem _ mf_X1_20)) (fun _ h9 => h9) rfl dX1_clean_7 ?_
  refine lv_iload_n hx hb dX1_clean_10 rfl (lv_at hl 2 rfl) ?_
  refine lv_iconst (v := 0) hx hb dX1_clean_11 (by decide) ?_
  refine zr_zast (k := sl) hx hb hK hP hD hS 4 3 rfl rfl (by omega) (by omega) dX1_clean_12 (fun H locs hP hD hS => ?_)
  have hP : va_P (dC, dI) vwCl (wM n a ca (ms_c u, ms_o u, ms_b u, ms_v u, upd (ms_d u) sl (vp_nar .boolean 0), ms_n u, ms_l u, ms_u u, ms_m u, ms_h u, ms_i u, ms_j u, ms_w u, ms_t u)) H := hP
  have hD : va_D A (wM n a ca (ms_c u, ms_o u, ms_b u, ms_v u, upd (ms_d u) sl (vp_nar .boolean 0), ms_n u, ms_l u, ms_u u, ms_m u, ms_h u, ms_i u, ms_j u, ms_w u, ms_t u)) := hD
  refine lv_iload_n hx hb dX1_clean_13 rfl (lv_at hl 0 rfl) ?_
  refine lv_if_eq hx hb dX1_clean_14 (tgt := 22) rfl (fun h1 => ?_) (fun h1 => ?_)
  · exact W.vret hx hb hr (fun t ht hW => ⟨⟨(ms_c u, ms_o u, ms_b u, ms_v u, upd (ms_d u) sl (vp_nar .boolean 0), ms_n u, ms_l u, ms_u u, ms_m u, ms_h u, ms_i u, ms_j u, ms_w u, ms_t u), rfl, (by first | rfl | (simp only [fm_clean, fm_setd, if_pos h1] <;> rfl)), ⟨by rw [ht]; exact hP, va_K.moved hW.alike hK, hD⟩⟩, hS.F ht⟩) hS.2.2 dX1_clean_22
  · refine lv_aload_n hx hb dX1_clean_17 rfl (lv_at hl 1 rfl) ?_
    refine lv_iload_n hx hb dX1_clean_18 rfl (lv_at hl 2 rfl) ?_
    refine zr_Vv (w := fun z => wM n a ca z) (u := (ms_c u, ms_o u, ms_b u, ms_v u, upd (ms_d u) sl (vp_nar .boolean 0), ms_n u, ms_l u, ms_u u, ms_m u, ms_h u, ms_i u, ms_j u, ms_w u, ms_t u)) (u1 := fm_note (ms_c u, ms_o u, ms_b u, ms_v u, upd (ms_d u) sl (vp_nar .boolean 0), ms_n u, ms_l u, ms_u u, ms_m u, ms_h u, ms_i u, ms_j u, ms_w u, ms_t u) sl) (As := [.int (nI sl)]) (rest := []) ⟨hx, hb, hml, hown, hts⟩ (c_M_noteSlot l dC dI n a ca (ms_c u, ms_o u, ms_b u, ms_v u, upd (ms_d u) sl (vp_nar .boolean 0), ms_n u, ms_l u, ms_u u, ms_m u, ms_h u, ms_i u, ms_j u, ms_w u, ms_t u) H.size sl hn (by omega)) (cwV 1 hts gX1_clean_X1_noteSlot rfl rfl rfl (by decide +kernel) ⟨Nat.le_of_ble_eq_true rfl, Nat.le_of_ble_eq_true rfl⟩) hK hP hD hS hA (va_recv (q0 := 0) (ci := 1) (q := (RX1, TX1, 15)) hK hP rfl rfl) rfl hl.1 rfl (Nat.le_of_ble_eq_true rfl) dX1_clean_19 (fun H locs hP hD hS => ?_) ⟨Nat.le_of_ble_eq_true rfl, Nat.le_of_ble_eq_true rfl⟩
    have hP : va_P (dC, dI) vwCl (wM n a ca (fm_note (ms_c u, ms_o u, ms_b u, ms_v u, upd (ms_d u) sl (vp_nar .boolean 0), ms_n u, ms_l u, ms_u u, ms_m u, ms_h u, ms_i u, ms_j u, ms_w u, ms_t u) sl)) H := hP
    have hD : va_D A (wM n a ca (fm_note (ms_c u, ms_o u, ms_b u, ms_v u, upd (ms_d u) sl (vp_nar .boolean 0), ms_n u, ms_l u, ms_u u, ms_m u, ms_h u, ms_i u, ms_j u, ms_w u, ms_t u) sl)) := hD
    exact W.vret hx hb hr (fun t ht hW => ⟨⟨fm_note (ms_c u, ms_o u, ms_b u, ms_v u, upd (ms_d u) sl (vp_nar .boolean 0), ms_n u, ms_l u, ms_u u, ms_m u, ms_h u, ms_i u, ms_j u, ms_w u, ms_t u) sl, rfl, (by first | rfl | (simp only [fm_clean, fm_setd, if_neg h1] <;> rfl)), ⟨by rw [ht]; exact hP, va_K.moved hW.alike hK, hD⟩⟩, hS.F ht⟩) hS.2.2 dX1_clean_22
set_option maxHeartbeats 4000000 in
set_option maxRecDepth 100000 in
theorem c_M_writeBack (l : Launch) (dC : Nat → ClassId) (dI : Nat → Nat → Nat) (n : Nat) (a : Nat → Nat) (ca : Nat → ClassId) (u : StM) (sz : Nat) (sl : Nat) (hn : n ≤ 12) (hs : sl < n) (hbs : ∃ B, B < 64 ∧ ms_b u sl = nI B) : Met l yX1_writeBack wsX1_writeBack ({ frames := 3, cells := 0, slots := 0, locals := 64 }) (va_Pc [.ref (a 0), .int (nI sl)] (zr_P (dC, dI) vwCl (tM ca) (wM n a ca u) sz)) (va_Qv (fun u' => u' = fm_wb u sl) (fun u' => zr_B (dC, dI) vwCl (tM ca) (va_A (wM n a ca u) sz) (wM n a ca u')) (va_A (wM n a ca u) sz)) 0 0 (va_A (wM n a ca u) sz) := by
  refine Met.ofW (cc := cX1_writeBack) (maxL := 2) (ret := none) (by decide) rfl ?_
  intro p e s m args below meth c s₁ B hml hv
  obtain ⟨rfl, hsz, hP, hK, hD0⟩ := hv
  have hx := B.exec
  have hb := B.bytes
  have hr := B.returns
  have hts := atoms_spec (ws := wsX1_writeBack) B.pre
  have hown : s.vm.findClass RX1 = some m.cls := findClass_of_methodNamed B.named
  have hlocks := B.notSynchronized
  subst hsz
  have hD := hD0.self (sz := s.heap.size)
  generalize hAe : va_A (wM n a ca u) s.heap.size = A at hD ⊢
  have hA : ∀ q : Nat, s.heap.size ≤ q → A q := fun q h => by rw [← hAe]; exact Or.inr h
  obtain ⟨H, hH, hP, hS⟩ : ∃ H, H = s.heap ∧ va_P (dC, dI) vwCl (wM n a ca u) H ∧ va_S A s.heap H [] := ⟨_, rfl, hP, va_S.rf⟩
  have hin9 : ∀ w ∈ u_ws RX1 TX1 15, w ∈ wsX1_writeBack := fun w h => List.mem_cons_of_mem _ (hinX1 w h)
  rw [← hH]
  have hl := lv_entry ([.ref (a 0), .int (nI sl)]) (n := 2) (Nat.le_of_ble_eq_true rfl)
  rw [lg_entry_eq]
  generalize (lg_sl ([.ref (a 0), .int (nI sl)]) ++ List.replicate (2 - (lg_sl ([.ref (a 0), .int (nI sl)])).length) Slot.unset).toArray = ls at hl ⊢
  have hl : lv_has ls 2 [(0, .ref (a 0)), (1, .int (nI sl))] := hl
  refine lv_aload_n hx hb dX1_writeBack_0 rfl (lv_at hl 0 rfl) ?_
  refine lv_aload_n hx hb dX1_writeBack_1 rfl (lv_at hl 0 rfl) ?_
  refine va_get (D := (dC, dI)) (ci := 1) (v := .ref (a 2)) (C := RX1) (T := TX1) (N := 15) hx hb hts hin9 hown hK hP 0 rfl rfl 3 (by decide) (hts _ (List.mem_cons_of_mem _ mf_X1_13)) (fun _ h9 => h9) rfl dX1_writeBack_2 ?_
  refine lv_iload_n hx hb dX1_writeBack_5 rfl (lv_at hl 1 rfl) ?_
  refine zr_iald (k := sl) hx hb hK hP 2 1 rfl rfl (by omega) (by omega) dX1_writeBack_6 ?_
  refine lv_aload_n hx hb dX1_writeBack_7 rfl (lv_at hl 0 rfl) ?_
  refine va_get (D := (dC, dI)) (ci := 1) (v := .ref (a 3)) (C := RX1) (T := TX1) (N := 15) hx hb hts hin9 hown hK hP 0 rfl rfl 4 (by decide) (hts _ (List.mem_cons_of_mem _ mf_X1_17)) (fun _ h9 => h9) rfl dX1_writeBack_8 ?_
  refine lv_iload_n hx hb dX1_writeBack_11 rfl (lv_at hl 1 rfl) ?_
  refine zr_lald (k := sl) hx hb hK hP 3 2 rfl rfl (by omega) (by omega) dX1_writeBack_12 ?_
  obtain ⟨B, hB, eB⟩ := hbs
  rw [eB]
  refine zr_Vv (w := fun z => wM n a ca z) (u := u) (u1 := fm_give u B (ms_v u sl)) (As := [.int (nI B), .long (ms_v u sl)]) (rest := []) ⟨hx, hb, hml, hown, hts⟩ (c_M_give l dC dI n a ca u H.size B (ms_v u sl) (by omega)) (cwV 2 hts gX1_writeBack_X1_give rfl rfl rfl (by decide +kernel) ⟨Nat.le_of_ble_eq_true rfl, Nat.le_of_ble_eq_true rfl⟩) hK hP hD hS hA (va_recv (q0 := 0) (ci := 1) (q := (RX1, TX1, 15)) hK hP rfl rfl) rfl hl.1 rfl (Nat.le_of_ble_eq_true rfl) dX1_writeBack_13 (fun H locs hP hD hS => ?_) ⟨Nat.le_of_ble_eq_true rfl, Nat.le_of_ble_eq_true rfl⟩
  have hP : va_P (dC, dI) vwCl (wM n a ca (fm_give u B (ms_v u sl))) H := hP
  have hD : va_D A (wM n a ca (fm_give u B (ms_v u sl))) := hD
  refine lv_aload_n hx hb dX1_writeBack_16 rfl (lv_at hl 0 rfl) ?_
  refine lv_iload_n hx hb dX1_writeBack_17 rfl (lv_at hl 1 rfl) ?_
  refine zr_Vv (w := fun z => wM n a ca z) (u := (fm_give u B (ms_v u sl))) (u1 := fm_clean (fm_give u B (ms_v u sl)) sl) (As := [.int (nI sl)]) (rest := []) ⟨hx, hb, hml, hown, hts⟩ (c_M_clean l dC dI n a ca (fm_give u B (ms_v u sl)) H.size sl hn (by omega)) (cwV 1 hts gX1_writeBack_X1_clean rfl rfl rfl (by decide +kernel) ⟨Nat.le_of_ble_eq_true rfl, Nat.le_of_ble_eq_true rfl⟩) hK hP hD hS hA (va_recv (q0 := 0) (ci := 1) (q := (RX1, TX1, 15)) hK hP rfl rfl) rfl hl.1 rfl (Nat.le_of_ble_eq_true rfl) dX1_writeBack_18 (fun H locs hP hD hS => ?_) ⟨Nat.le_of_ble_eq_true rfl, Nat.le_of_ble_eq_true rfl⟩
  have hP : va_P (dC, dI) vwCl (wM n a ca (fm_clean (fm_give u B (ms_v u sl)) sl)) H := hP
  have hD : va_D A (wM n a ca (fm_clean (fm_give u B (ms_v u sl)) sl)) := hD
  exact W.vret hx hb hr (fun t ht hW => ⟨⟨fm_clean (fm_give u B (ms_v u sl)) sl, rfl, (by first | rfl | (simp only [fm_wb, eB, nI_clamp (show B < 2 ^ 31 by omega)] <;> rfl)), ⟨by rw [ht]; exact hP, va_K.moved hW.alike hK, hD⟩⟩, hS.F ht⟩) hS.2.2 dX1_writeBack_21
set_option maxHeartbeats 4000000 in
set_option maxRecDepth 100000 in
theorem c_M_empty (l : Launch) (dC : Nat → ClassId) (dI : Nat → Nat → Nat) (n : Nat) (a : Nat → Nat) (ca : Nat → ClassId) (u : StM) (sz : Nat) (sl : Nat) (hn : n ≤ 12) (hs : sl < n) : Met l yX1_empty wsX1_empty ({ frames := 2, cells := 0, slots := 0, locals := 42 }) (va_Pc [.ref (a 0), .int (nI sl)] (zr_P (dC, dI) vwCl (tM ca) (wM n a ca u) sz)) (va_Qv (fun u' => u' = fm_empty u sl) (fun u' => zr_B (dC, dI) vwCl (tM ca) (va_A (wM n a ca u) sz) (wM n a ca u')) (va_A (wM n a ca u) sz)) 0 0 (va_A (wM n a ca u) sz) := by
  refine Met.ofW (cc := cX1_empty) (maxL := 2) (ret := none) (by decide) rfl ?_
  intro p e s m args below meth c s₁ B hml hv
  obtain ⟨rfl, hsz, hP, hK, hD0⟩ := hv
  have hx := B.exec
  have hb := B.bytes
  have hr := B.returns
  have hts := atoms_spec (ws := wsX1_empty) B.pre
  have hown : s.vm.findClass RX1 = some m.cls := findClass_of_methodNamed B.named
  have hlocks := B.notSynchronized
  subst hsz
  have hD := hD0.self (sz := s.heap.size)
  generalize hAe : va_A (wM n a ca u) s.heap.size = A at hD ⊢
  have hA : ∀ q : Nat, s.heap.size ≤ q → A q := fun q h => by rw [← hAe]; exact Or.inr h
  obtain ⟨H, hH, hP, hS⟩ : ∃ H, H = s.heap ∧ va_P (dC, dI) vwCl (wM n a ca u) H ∧ va_S A s.heap H [] := ⟨_, rfl, hP, va_S.rf⟩
  have hin9 : ∀ w ∈ u_ws RX1 TX1 15, w ∈ wsX1_empty := fun w h => List.mem_cons_of_mem _ (hinX1 w h)
  rw [← hH]
  have hl := lv_entry ([.ref (a 0), .int (nI sl)]) (n := 2) (Nat.le_of_ble_eq_true rfl)
  rw [lg_entry_eq]
  generalize (lg_sl ([.ref (a 0), .int (nI sl)]) ++ List.replicate (2 - (lg_sl ([.ref (a 0), .int (nI sl)])).length) Slot.unset).toArray = ls at hl ⊢
  have hl : lv_has ls 2 [(0, .ref (a 0)), (1, .int (nI sl))] := hl
  refine lv_aload_n hx hb dX1_empty_0 rfl (lv_at hl 0 rfl) ?_
  refine va_get (D := (dC, dI)) (ci := 1) (v := .ref (a 2)) (C := RX1) (T := TX1) (N := 15) hx hb hts hin9 hown hK hP 0 rfl rfl 3 (by decide) (hts _ (List.mem_cons_of_mem _ mf_X1_13)) (fun _ h9 => h9) rfl dX1_empty_1 ?_
  refine lv_iload_n hx hb dX1_empty_4 rfl (lv_at hl 1 rfl) ?_
  refine lv_iconst (v := (-1)) hx hb dX1_empty_5 (by decide) ?_
  refine zr_iast (k := sl) hx hb hK hP hD hS 2 1 rfl rfl (by omega) (by omega) dX1_empty_6 (fun H locs hP hD hS => ?_)
  have hP : va_P (dC, dI) vwCl (wM n a ca (ms_c u, ms_o u, upd (ms_b u) sl (-1), ms_v u, ms_d u, ms_n u, ms_l u, ms_u u, ms_m u, ms_h u, ms_i u, ms_j u, ms_w u, ms_t u)) H := hP
  have hD : va_D A (wM n a ca (ms_c u, ms_o u, upd (ms_b u) sl (-1), ms_v u, ms_d u, ms_n u, ms_l u, ms_u u, ms_m u, ms_h u, ms_i u, ms_j u, ms_w u, ms_t u)) := hD
  refine lv_aload_n hx hb dX1_empty_7 rfl (lv_at hl 0 rfl) ?_
  refine va_get (D := (dC, dI)) (ci := 1) (v := .ref (a 4)) (C := RX1) (T := TX1) (N := 15) hx hb hts hin9 hown hK hP 0 rfl rfl 5 (by decide) (hts _ (List.mem_cons_of_mem _ mf_X1_20)) (fun _ h9 => h9) rfl dX1_empty_8 ?_
  refine lv_iload_n hx hb dX1_empty_11 rfl (lv_at hl 1 rfl) ?_
  refine lv_iconst (v := 0) hx hb dX1_empty_12 (by decide) ?_
  refine zr_zast (k := sl) hx hb hK hP hD hS 4 3 rfl rfl (by omega) (by omega) dX1_empty_13 (fun H locs hP hD hS => ?_)
  have hP : va_P (dC, dI) vwCl (wM n a ca (ms_c u, ms_o u, upd (ms_b u) sl (-1), ms_v u, upd (ms_d u) sl (vp_nar .boolean 0), ms_n u, ms_l u, ms_u u, ms_m u, ms_h u, ms_i u, ms_j u, ms_w u, ms_t u)) H := hP
  have hD : va_D A (wM n a ca (ms_c u, ms_o u, upd (ms_b u) sl (-1), ms_v u, upd (ms_d u) sl (vp_nar .boolean 0), ms_n u, ms_l u, ms_u u, ms_m u, ms_h u, ms_i u, ms_j u, ms_w u, ms_t u)) := hD
  refine lv_aload_n hx hb dX1_empty_14 rfl (lv_at hl 0 rfl) ?_
  refine va_get (D := (dC, dI)) (ci := 1) (v := .ref (a 5)) (C := RX1) (T := TX1) (N := 15) hx hb hts hin9 hown hK hP 0 rfl rfl 6 (by decide) (hts _ (List.mem_cons_of_mem _ mf_X1_24)) (fun _ h9 => h9) rfl dX1_empty_15 ?_
  refine lv_iload_n hx hb dX1_empty_18 rfl (lv_at hl 1 rfl) ?_
  refine zr_iald (k := sl) hx hb hK hP 5 4 rfl rfl (by omega) (by omega) dX1_empty_19 ?_
  refine lv_if_lt hx hb dX1_empty_20 (tgt := 28) rfl (fun h1 => ?_) (fun h1 => ?_)
  · exact W.vret hx hb hr (fun t ht hW => ⟨⟨(ms_c u, ms_o u, upd (ms_b u) sl (-1), ms_v u, upd (ms_d u) sl (vp_nar .boolean 0), ms_n u, ms_l u, ms_u u, ms_m u, ms_h u, ms_i u, ms_j u, ms_w u, ms_t u), rfl, (by first | rfl | (simp only [fm_empty, fm_setd, fm_setb, if_pos h1] <;> rfl)), ⟨by rw [ht]; exact hP, va_K.moved hW.alike hK, hD⟩⟩, hS.F ht⟩) hS.2.2 dX1_empty_28
  · refine lv_aload_n hx hb dX1_empty_23 rfl (lv_at hl 0 rfl) ?_
    refine lv_iload_n hx hb dX1_empty_24 rfl (lv_at hl 1 rfl) ?_
    refine zr_Vv (w := fun z => wM n a ca z) (u := (ms_c u, ms_o u, upd (ms_b u) sl (-1), ms_v u, upd (ms_d u) sl (vp_nar .boolean 0), ms_n u, ms_l u, ms_u u, ms_m u, ms_h u, ms_i u, ms_j u, ms_w u, ms_t u)) (u1 := fm_note (ms_c u, ms_o u, upd (ms_b u) sl (-1), ms_v u, upd (ms_d u) sl (vp_nar .boolean 0), ms_n u, ms_l u, ms_u u, ms_m u, ms_h u, ms_i u, ms_j u, ms_w u, ms_t u) sl) (As := [.int (nI sl)]) (rest := []) ⟨hx, hb, hml, hown, hts⟩ (c_M_noteSlot l dC dI n a ca (ms_c u, ms_o u, upd (ms_b u) sl (-1), ms_v u, upd (ms_d u) sl (vp_nar .boolean 0), ms_n u, ms_l u, ms_u u, ms_m u, ms_h u, ms_i u, ms_j u, ms_w u, ms_t u) H.size sl hn (by omega)) (cwV 1 hts gX1_empty_X1_noteSlot rfl rfl rfl (by decide +kernel) ⟨Nat.le_of_ble_eq_true rfl, Nat.le_of_ble_eq_true rfl⟩) hK hP hD hS hA (va_recv (q0 := 0) (ci := 1) (q := (RX1, TX1, 15)) hK hP rfl rfl) rfl hl.1 rfl (Nat.le_of_ble_eq_true rfl) dX1_empty_25 (fun H locs hP hD hS => ?_) ⟨Nat.le_of_ble_eq_true rfl, Nat.le_of_ble_eq_true rfl⟩
    have hP : va_P (dC, dI) vwCl (wM n a ca (fm_note (ms_c u, ms_o u, upd (ms_b u) sl (-1), ms_v u, upd (ms_d u) sl (vp_nar .boolean 0), ms_n u, ms_l u, ms_u u, ms_m u, ms_h u, ms_i u, ms_j u, ms_w u, ms_t u) sl)) H := hP
    have hD : va_D A (wM n a ca (fm_note (ms_c u, ms_o u, upd (ms_b u) sl (-1), ms_v u, upd (ms_d u) sl (vp_nar .boolean 0), ms_n u, ms_l u, ms_u u, ms_m u, ms_h u, ms_i u, ms_j u, ms_w u, ms_t u) sl)) := hD
    exact W.vret hx hb hr (fun t ht hW => ⟨⟨fm_note (ms_c u, ms_o u, upd (ms_b u) sl (-1), ms_v u, upd (ms_d u) sl (vp_nar .boolean 0), ms_n u, ms_l u, ms_u u, ms_m u, ms_h u, ms_i u, ms_j u, ms_w u, ms_t u) sl, rfl, (by first | rfl | (simp only [fm_empty, fm_setd, fm_setb, if_neg h1] <;> rfl)), ⟨by rw [ht]; exact hP, va_K.moved hW.alike hK, hD⟩⟩, hS.F ht⟩) hS.2.2 dX1_empty_28
set_option maxHeartbeats 4000000 in
set_option maxRecDepth 100000 in
theorem c_M_room (l : Launch) (dC : Nat → ClassId) (dI : Nat → Nat → Nat) (n : Nat) (a : Nat → Nat) (ca : Nat → ClassId) (u : StM) (sz : Nat) (hn : n ≤ 12) (hn0 : 0 < n) (hok : okM n u) : Met l yX1_room wsX1_room ({ frames := 4, cells := 0, slots := 0, locals := 85 }) (va_Pc [.ref (a 0)] (zr_P (dC, dI) vwCl (tM ca) (wM n a ca u) sz)) (va_Qi (fun r u' => r = nI (fm_room n u).1 ∧ u' = (fm_room n u).2) (fun u' => zr_B (dC, dI) vwCl (tM ca) (va_A (wM n a ca u) sz) (wM n a ca u')) (va_A (wM n a ca u) sz)) 0 0 (va_A (wM n a ca u) sz) := by
  refine Met.ofW (cc := cX1_room) (maxL := 3) (ret := (some .int)) (by decide) rfl ?_
  intro p e s m args below meth c s₁ B hml hv
  obtain ⟨rfl, hsz, hP, hK, hD0⟩ := hv
  have hx := B.exec
  have hb := B.bytes
  have hr := B.returns
  have hts := atoms_spec (ws := wsX1_room) B.pre
  have hown : s.vm.findClass RX1 = some m.cls := findClass_of_methodNamed B.named
  have hlocks := B.notSynchronized
  subst hsz
  have hD := hD0.self (sz := s.heap.size)
  generalize hAe : va_A (wM n a ca u) s.heap.size = A at hD ⊢
  have hA : ∀ q : Nat, s.heap.size ≤ q → A q := fun q h => by rw [← hAe]; exact Or.inr h
  obtain ⟨H, hH, hP, hS⟩ : ∃ H, H = s.heap ∧ va_P (dC, dI) vwCl (wM n a ca u) H ∧ va_S A s.heap H [] := ⟨_, rfl, hP, va_S.rf⟩
  have hin9 : ∀ w ∈ u_ws RX1 TX1 15, w ∈ wsX1_room := fun w h => List.mem_cons_of_mem _ (hinX1 w h)
  rw [← hH]
  have hl := lv_entry ([.ref (a 0)]) (n := 3) (Nat.le_of_ble_eq_true rfl)
  rw [lg_entry_eq]
  generalize (lg_sl ([.ref (a 0)]) ++ List.replicate (3 - (lg_sl ([.ref (a 0)])).length) Slot.unset).toArray = ls at hl ⊢
  have hl : lv_has ls 3 [(0, .ref (a 0))] := hl
  refine lv_iconst (v := (-1)) hx hb dX1_room_0 (by decide) ?_
  refine lv_istore_n hx hb dX1_room_1 rfl hl (by decide) rfl (fun ls hl => ?_)
  have hl : lv_has ls 3 [(1, .int (-1)), (0, .ref (a 0))] := hl
  refine lv_aload_n hx hb dX1_room_2 rfl (lv_at hl 1 rfl) ?_
  refine va_get (D := (dC, dI)) (ci := 1) (v := .int (nI n)) (C := RX1) (T := TX1) (N := 15) hx hb hts hin9 hown hK hP 0 rfl rfl 1 (by decide) (hts _ (List.mem_cons_of_mem _ mf_X1_30)) (fun _ h9 => h9) rfl dX1_room_3 ?_
  refine lv_iconst (v := 1) hx hb dX1_room_6 (by decide) ?_
  refine lv_isub hx hb dX1_room_7 ?_
  refine lv_istore_n hx hb dX1_room_8 rfl hl (by decide) rfl (fun ls hl => ?_)
  have hl : lv_has ls 3 [(2, .int ((nI n) - 1)), (1, .int (-1)), (0, .ref (a 0))] := hl
  refine zr_loop (fun r (x0 : Nat × Option Nat) ls H locs => r = x0.1 ∧ fm_emp (ms_b u) x0.1 x0.2 = fm_emp (ms_b u) n none ∧ (x0.1 ≤ n) ∧ (∀ j, x0.2 = some j → j < n) ∧ lv_has ls 3 [(0, .ref (a 0)), (1, .int (fc_enc x0.2)), (2, .int (nI x0.1 - 1))] ∧ va_P (dC, dI) vwCl (wM n a ca u) H ∧ va_D A (wM n a ca u) ∧ va_S A s.heap H locs) (fun ls => F0 m 9 ls []) ?_ n (n, none) _ _ _ ⟨by omega, rfl, (Nat.le_refl _), (fun _ h => nomatch h), lv_sub hl [2, 1, 0] rfl, hP, hD, hS⟩
  rintro r ⟨k, o⟩ ls H locs ih ⟨hrk, hinv, hkn, ho, hl, hP, hD, hS⟩
  have hrk : r = k := hrk
  have hinv : fm_emp (ms_b u) k o = fm_emp (ms_b u) n none := hinv
  have hkn : k ≤ n := hkn
  have ho : ∀ j, o = some j → j < n := ho
  have hl : lv_has ls 3 [(0, .ref (a 0)), (1, .int (fc_enc o)), (2, .int (nI k - 1))] := hl
  have hP : va_P (dC, dI) vwCl (wM n a ca u) H := hP
  have hD : va_D A (wM n a ca u) := hD
  refine lv_iload_n hx hb dX1_room_9 rfl (lv_at hl 2 rfl) ?_
  refine lv_if_lt hx hb dX1_room_10 (tgt := 34) rfl (fun h1 => ?_) (fun h1 => ?_)
  · have h1 := zr_p0 (by omega) h1
    obtain rfl : k = 0 := by omega
    rcases o with _ | j
    · have hfe : fm_emp (ms_b u) n none = none := hinv.symm
      have hl : lv_has ls 3 [(0, .ref (a 0)), (1, .int (-1)), (2, .int (nI 0 - 1))] := hl
      refine lv_iload_n hx hb dX1_room_34 rfl (lv_at hl 1 rfl) ?_
      refine lv_if_lt hx hb dX1_room_35 (tgt := 40) rfl (fun _ => ?_) (fun h => absurd (by decide) h)
      refine lv_iconst (v := 0) hx hb dX1_room_40 (by decide) ?_
      refine lv_istore_n hx hb dX1_room_41 rfl hl (by decide) rfl (fun ls hl => ?_)
      have hl : lv_has ls 3 [(1, .int 0), (0, .ref (a 0)), (2, .int (nI 0 - 1))] := hl
      refine lv_iconst (v := 1) hx hb dX1_room_42 (by decide) ?_
      refine lv_istore_n hx hb dX1_room_43 rfl hl (by decide) rfl (fun ls hl => ?_)
      have hl : lv_has ls 3 [(2, .int 1), (1, .int 0), (0, .ref (a 0))] := hl
      refine zr_loop (fun r (x0 : Nat × Nat) ls H locs => r + x0.1 = n ∧ fm_lru (ms_l u) r x0.1 x0.2 = fm_lru (ms_l u) (n - 1) 1 0 ∧ (x0.2 < n) ∧ lv_has ls 3 [(0, .ref (a 0)), (1, .int (nI x0.2)), (2, .int (nI x0.1))] ∧ va_P (dC, dI) vwCl (wM n a ca u) H ∧ va_D A (wM n a ca u) ∧ va_S A s.heap H locs) (fun ls => F0 m 44 ls []) ?_ (n - 1) (1, 0) _ _ _ ⟨by omega, rfl, hn0, lv_sub hl [2, 1, 0] rfl, hP, hD, hS⟩
      rintro r ⟨k, j⟩ ls H locs ih ⟨hrk, hinv, hj, hl, hP, hD, hS⟩
      have hrk : r + k = n := hrk
      have hinv : fm_lru (ms_l u) r k j = fm_lru (ms_l u) (n - 1) 1 0 := hinv
      have hj : j < n := hj
      have hl : lv_has ls 3 [(0, .ref (a 0)), (1, .int (nI j)), (2, .int (nI k))] := hl
      have hP : va_P (dC, dI) vwCl (wM n a ca u) H := hP
      have hD : va_D A (wM n a ca u) := hD
      refine lv_iload_n hx hb dX1_room_44 rfl (lv_at hl 2 rfl) ?_
      refine lv_aload_n hx hb dX1_room_45 rfl (lv_at hl 0 rfl) ?_
      refine va_get (D := (dC, dI)) (ci := 1) (v := .int (nI n)) (C := RX1) (T := TX1) (N := 15) hx hb hts hin9 hown hK hP 0 rfl rfl 1 (by decide) (hts _ (List.mem_cons_of_mem _ mf_X1_30)) (fun _ h9 => h9) rfl dX1_room_46 ?_
      refine lv_icmp_ge hx hb dX1_room_49 (tgt := 80) rfl (fun h2 => ?_) (fun h2 => ?_)
      · have h2 := zr_ge (by omega) (by omega) h2
        obtain rfl : r = 0 := by omega
        have hT : fm_lru (ms_l u) (n - 1) 1 0 = j := hinv.symm
        refine lv_aload_n hx hb dX1_room_80 rfl (lv_at hl 0 rfl) ?_
        refine va_get (D := (dC, dI)) (ci := 1) (v := .ref (a 4)) (C := RX1) (T := TX1) (N := 15) hx hb hts hin9 hown hK hP 0 rfl rfl 5 (by decide) (hts _ (List.mem_cons_of_mem _ mf_X1_20)) (fun _ h9 => h9) rfl dX1_room_81 ?_
        refine lv_iload_n hx hb dX1_room_84 rfl (lv_at hl 1 rfl) ?_
        refine zr_zald (k := j) hx hb hK hP 4 3 rfl rfl (by omega) (by omega) dX1_room_85 ?_
        refine lv_if_eq hx hb dX1_room_86 (tgt := 94) rfl (fun h3 => ?_) (fun h3 => ?_)
        · refine lv_aload_n hx hb dX1_room_94 rfl (lv_at hl 0 rfl) ?_
          refine lv_iload_n hx hb dX1_room_95 rfl (lv_at hl 1 rfl) ?_
          refine zr_Vv (w := fun z => wM n a ca z) (u := u) (u1 := fm_empty u j) (As := [.int (nI j)]) (rest := []) ⟨hx, hb, hml, hown, hts⟩ (c_M_empty l dC dI n a ca u H.size j hn (by omega)) (cwV 1 hts gX1_room_X1_empty rfl rfl rfl (by decide +kernel) ⟨Nat.le_of_ble_eq_true rfl, Nat.le_of_ble_eq_true rfl⟩) hK hP hD hS hA (va_recv (q0 := 0) (ci := 1) (q := (RX1, TX1, 15)) hK hP rfl rfl) rfl hl.1 rfl (Nat.le_of_ble_eq_true rfl) dX1_room_96 (fun H locs hP hD hS => ?_) ⟨Nat.le_of_ble_eq_true rfl, Nat.le_of_ble_eq_true rfl⟩
          have hP : va_P (dC, dI) vwCl (wM n a ca (fm_empty u j)) H := hP
          have hD : va_D A (wM n a ca (fm_empty u j)) := hD
          refine lv_iload_n hx hb dX1_room_99 rfl (lv_at hl 1 rfl) ?_
          exact W.iret (v := nI j) hx hb hr (fun t ht hW => ⟨⟨nI j, fm_empty u j, rfl, ⟨(by first | rfl | (simp only [fm_room, fm_drop, hfe, hT, if_pos h3] <;> rfl)), (by first | rfl | (simp only [fm_room, fm_drop, hfe, hT, if_pos h3] <;> rfl))⟩, ⟨by rw [ht]; exact hP, va_K.moved hW.alike hK, hD⟩⟩, hS.F ht⟩) hS.2.2 dX1_room_100
        · refine lv_aload_n hx hb dX1_room_89 rfl (lv_at hl 0 rfl) ?_
          refine lv_iload_n hx hb dX1_room_90 rfl (lv_at hl 1 rfl) ?_
          refine zr_Vv (w := fun z => wM n a ca z) (u := u) (u1 := fm_wb u j) (As := [.int (nI j)]) (rest := []) ⟨hx, hb, hml, hown, hts⟩ (c_M_writeBack l dC dI n a ca u H.size j hn (by omega) (hok _ (by omega) h3)) (cwV 1 hts gX1_room_X1_writeBack rfl rfl rfl (by decide +kernel) ⟨Nat.le_of_ble_eq_true rfl, Nat.le_of_ble_eq_true rfl⟩) hK hP hD hS hA (va_recv (q0 := 0) (ci := 1) (q := (RX1, TX1, 15)) hK hP rfl rfl) rfl hl.1 rfl (Nat.le_of_ble_eq_true rfl) dX1_room_91 (fun H locs hP hD hS => ?_) ⟨Nat.le_of_ble_eq_true rfl, Nat.le_of_ble_eq_true rfl⟩
          have hP : va_P (dC, dI) vwCl (wM n a ca (fm_wb u j)) H := hP
          have hD : va_D A (wM n a ca (fm_wb u j)) := hD
          refine lv_aload_n hx hb dX1_room_94 rfl (lv_at hl 0 rfl) ?_
          refine lv_iload_n hx hb dX1_room_95 rfl (lv_at hl 1 rfl) ?_
          refine zr_Vv (w := fun z => wM n a ca z) (u := (fm_wb u j)) (u1 := fm_empty (fm_wb u j) j) (As := [.int (nI j)]) (rest := []) ⟨hx, hb, hml, hown, hts⟩ (c_M_empty l dC dI n a ca (fm_wb u j) H.size j hn (by omega)) (cwV 1 hts gX1_room_X1_empty rfl rfl rfl (by decide +kernel) ⟨Nat.le_of_ble_eq_true rfl, Nat.le_of_ble_eq_true rfl⟩) hK hP hD hS hA (va_recv (q0 := 0) (ci := 1) (q := (RX1, TX1, 15)) hK hP rfl rfl) rfl hl.1 rfl (Nat.le_of_ble_eq_true rfl) dX1_room_96 (fun H locs hP hD hS => ?_) ⟨Nat.le_of_ble_eq_true rfl, Nat.le_of_ble_eq_true rfl⟩
          have hP : va_P (dC, dI) vwCl (wM n a ca (fm_empty (fm_wb u j) j)) H := hP
          have hD : va_D A (wM n a ca (fm_empty (fm_wb u j) j)) := hD
          refine lv_iload_n hx hb dX1_room_99 rfl (lv_at hl 1 rfl) ?_
          exact W.iret (v := nI j) hx hb hr (fun t ht hW => ⟨⟨nI j, fm_empty (fm_wb u j) j, rfl, ⟨(by first | rfl | (simp only [fm_room, fm_drop, hfe, hT, if_neg h3] <;> rfl)), (by first | rfl | (simp only [fm_room, fm_drop, hfe, hT, if_neg h3] <;> rfl))⟩, ⟨by rw [ht]; exact hP, va_K.moved hW.alike hK, hD⟩⟩, hS.F ht⟩) hS.2.2 dX1_room_100
      · have h2 := zr_lt (by omega) (by omega) h2
        obtain ⟨r', rfl⟩ : ∃ z, r = z + 1 := ⟨r - 1, by omega⟩
        refine lv_aload_n hx hb dX1_room_52 rfl (lv_at hl 0 rfl) ?_
        refine va_get (D := (dC, dI)) (ci := 1) (v := .ref (a 6)) (C := RX1) (T := TX1) (N := 15) hx hb hts hin9 hown hK hP 0 rfl rfl 7 (by decide) (hts _ (List.mem_cons_of_mem _ mf_X1_27)) (fun _ h9 => h9) rfl dX1_room_53 ?_
        refine lv_iload_n hx hb dX1_room_56 rfl (lv_at hl 2 rfl) ?_
        refine zr_lald (k := k) hx hb hK hP 6 5 rfl rfl (by omega) (by omega) dX1_room_57 ?_
        refine lv_aload_n hx hb dX1_room_58 rfl (lv_at hl 0 rfl) ?_
        refine va_get (D := (dC, dI)) (ci := 1) (v := .ref (a 6)) (C := RX1) (T := TX1) (N := 15) hx hb hts hin9 hown hK hP 0 rfl rfl 7 (by decide) (hts _ (List.mem_cons_of_mem _ mf_X1_27)) (fun _ h9 => h9) rfl dX1_room_59 ?_
        refine lv_iload_n hx hb dX1_room_62 rfl (lv_at hl 1 rfl) ?_
        refine zr_lald (k := j) hx hb hK hP 6 5 rfl rfl (by omega) (by omega) dX1_room_63 ?_
        refine W.lcmp hx hb dX1_room_64 ?_
        refine lv_if_ge hx hb dX1_room_65 (tgt := 72) rfl (fun h4 => ?_) (fun h4 => ?_)
        · refine lv_iload_n hx hb dX1_room_72 rfl (lv_at hl 1 rfl) ?_
          refine lv_istore_n hx hb dX1_room_73 rfl hl (by decide) rfl (fun ls hl => ?_)
          have hl : lv_has ls 3 [(1, .int (nI j)), (0, .ref (a 0)), (2, .int (nI k))] := hl
          refine lv_iinc (k := 2) (v := nI (k + 1)) hx hb dX1_room_74 hl rfl (zr_incN k) (by decide) rfl (fun ls hl => ?_)
          have hl : lv_has ls 3 [(2, .int (nI (k + 1))), (1, .int (nI j)), (0, .ref (a 0))] := hl
          refine lv_goto hx hb dX1_room_77 (tgt := 44) rfl ?_
          exact ih r' (k + 1, j) _ _ _ (by omega) ⟨by omega, (by rw [← hinv]; first | rfl | (simp only [fm_lru, if_pos h4] <;> rfl)), (by omega), lv_sub hl [2, 1, 0] rfl, hP, hD, hS⟩
        · refine lv_iload_n hx hb dX1_room_68 rfl (lv_at hl 2 rfl) ?_
          refine lv_goto hx hb dX1_room_69 (tgt := 73) rfl ?_
          refine lv_istore_n hx hb dX1_room_73 rfl hl (by decide) rfl (fun ls hl => ?_)
          have hl : lv_has ls 3 [(1, .int (nI k)), (0, .ref (a 0)), (2, .int (nI k))] := hl
          refine lv_iinc (k := 2) (v := nI (k + 1)) hx hb dX1_room_74 hl rfl (zr_incN k) (by decide) rfl (fun ls hl => ?_)
          have hl : lv_has ls 3 [(2, .int (nI (k + 1))), (1, .int (nI k)), (0, .ref (a 0))] := hl
          refine lv_goto hx hb dX1_room_77 (tgt := 44) rfl ?_
          exact ih r' (k + 1, k) _ _ _ (by omega) ⟨by omega, (by rw [← hinv]; first | rfl | (simp only [fm_lru, if_neg h4] <;> rfl)), (by omega), lv_sub hl [2, 1, 0] rfl, hP, hD, hS⟩
    · have hfe : fm_emp (ms_b u) n none = some j := hinv.symm
      have hj := ho j rfl
      have hl : lv_has ls 3 [(0, .ref (a 0)), (1, .int (nI j)), (2, .int (nI 0 - 1))] := hl
      refine lv_iload_n hx hb dX1_room_34 rfl (lv_at hl 1 rfl) ?_
      refine lv_if_lt hx hb dX1_room_35 (tgt := 40) rfl (fun h => absurd h (zr_nneg (by omega))) (fun _ => ?_)
      refine lv_iload_n hx hb dX1_room_38 rfl (lv_at hl 1 rfl) ?_
      exact W.iret (v := nI j) hx hb hr (fun t ht hW => ⟨⟨nI j, u, rfl, ⟨(by first | rfl | (simp only [fm_room, fm_drop, hfe] <;> rfl)), (by first | rfl | (simp only [fm_room, fm_drop, hfe] <;> rfl))⟩, ⟨by rw [ht]; exact hP, va_K.moved hW.alike hK, hD⟩⟩, hS.F ht⟩) hS.2.2 dX1_room_39
  · have h1 := zr_p1 (by omega) h1
    obtain ⟨k', rfl⟩ : ∃ z, k = z + 1 := ⟨k - 1, by omega⟩
    rw [nI_pred] at hl
    have hl : lv_has ls 3 [(0, .ref (a 0)), (1, .int (fc_enc o)), (2, .int (nI k'))] := hl
    refine lv_aload_n hx hb dX1_room_13 rfl (lv_at hl 0 rfl) ?_
    refine va_get (D := (dC, dI)) (ci := 1) (v := .ref (a 2)) (C := RX1) (T := TX1) (N := 15) hx hb hts hin9 hown hK hP 0 rfl rfl 3 (by decide) (hts _ (List.mem_cons_of_mem _ mf_X1_13)) (fun _ h9 => h9) rfl dX1_room_14 ?_
    refine lv_iload_n hx hb dX1_room_17 rfl (lv_at hl 2 rfl) ?_
    refine zr_iald (k := k') hx hb hK hP 2 1 rfl rfl (by omega) (by omega) dX1_room_18 ?_
    refine lv_if_ge hx hb dX1_room_19 (tgt := 26) rfl (fun h5 => ?_) (fun h5 => ?_)
    · refine lv_iload_n hx hb dX1_room_26 rfl (lv_at hl 1 rfl) ?_
      refine lv_istore_n hx hb dX1_room_27 rfl hl (by decide) rfl (fun ls hl => ?_)
      have hl : lv_has ls 3 [(1, .int (fc_enc o)), (0, .ref (a 0)), (2, .int (nI k'))] := hl
      refine lv_iinc (k := 2) (v := (nI k' - 1)) hx hb dX1_room_28 hl rfl (zr_dec1 (nI k')) (by decide) rfl (fun ls hl => ?_)
      have hl : lv_has ls 3 [(2, .int (nI k' - 1)), (1, .int (fc_enc o)), (0, .ref (a 0))] := hl
      refine lv_goto hx hb dX1_room_31 (tgt := 9) rfl ?_
      exact ih k' (k', o) _ _ _ (by omega) ⟨by omega, (by rw [← hinv]; first | rfl | (simp only [fm_emp, if_pos h5] <;> rfl)), (by omega), ho, lv_sub hl [2, 1, 0] rfl, hP, hD, hS⟩
    · refine lv_iload_n hx hb dX1_room_22 rfl (lv_at hl 2 rfl) ?_
      refine lv_goto hx hb dX1_room_23 (tgt := 27) rfl ?_
      refine lv_istore_n hx hb dX1_room_27 rfl hl (by decide) rfl (fun ls hl => ?_)
      have hl : lv_has ls 3 [(1, .int (nI k')), (0, .ref (a 0)), (2, .int (nI k'))] := hl
      refine lv_iinc (k := 2) (v := (nI k' - 1)) hx hb dX1_room_28 hl rfl (zr_dec1 (nI k')) (by decide) rfl (fun ls hl => ?_)
      have hl : lv_has ls 3 [(2, .int (nI k' - 1)), (1, .int (nI k')), (0, .ref (a 0))] := hl
      refine lv_goto hx hb dX1_room_31 (tgt := 9) rfl ?_
      exact ih k' (k', (some k')) _ _ _ (by omega) ⟨by omega, (by rw [← hinv]; first | rfl | (simp only [fm_emp, if_neg h5] <;> rfl)), (by omega), (fun j h => by cases h; omega), lv_sub hl [2, 1, 0] rfl, hP, hD, hS⟩
