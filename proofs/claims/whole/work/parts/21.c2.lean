set_option maxHeartbeats 4000000 in
set_option maxRecDepth 100000 in
theorem c_C_makeClean (l : Launch) (dC : Nat → ClassId) (dI : Nat → Nat → Nat) (n : Nat) (a : Nat → Nat) (ca : Nat → ClassId) (u : StC) (sz : Nat) (sl : Nat) (hn : n ≤ 12) (hs : sl < n) : Met l yX0_makeClean wsX0_makeClean ({ frames := 1, cells := 0, slots := 0, locals := 21 }) (va_Pc [.ref (a 0), .int (nI sl)] (zr_P (dC, dI) vwCl (tC ca) (wC n a ca u) sz)) (va_Qv (fun u' => u' = fc_clean u sl) (fun u' => zr_B (dC, dI) vwCl (tC ca) (va_A (wC n a ca u) sz) (wC n a ca u')) (va_A (wC n a ca u) sz)) 0 0 (va_A (wC n a ca u) sz) := by
  refine Met.ofW (cc := cX0_makeClean) (maxL := 2) (ret := none) (by decide) rfl ?_
  intro p e s m args below meth c s₁ B hml hv
  obtain ⟨rfl, hsz, hP, hK, hD0⟩ := hv
  have hx := B.exec
  have hb := B.bytes
  have hr := B.returns
  have hts := atoms_spec (ws := wsX0_makeClean) B.pre
  have hown : s.vm.findClass RX0 = some m.cls := findClass_of_methodNamed B.named
  have hlocks := B.notSynchronized
  subst hsz
  have hD := hD0.self (sz := s.heap.size)
  generalize hAe : va_A (wC n a ca u) s.heap.size = A at hD ⊢
  have hA : ∀ q : Nat, s.heap.size ≤ q → A q := fun q h => by rw [← hAe]; exact Or.inr h
  obtain ⟨H, hH, hP, hS⟩ : ∃ H, H = s.heap ∧ va_P (dC, dI) vwCl (wC n a ca u) H ∧ va_S A s.heap H [] := ⟨_, rfl, hP, va_S.rf⟩
  have hin9 : ∀ w ∈ u_ws RX0 TX0 13, w ∈ wsX0_makeClean := fun w h => List.mem_cons_of_mem _ (hinX0 w h)
  rw [← hH]
  have hl := lv_entry ([.ref (a 0), .int (nI sl)]) (n := 2) (Nat.le_of_ble_eq_true rfl)
  rw [lg_entry_eq]
  generalize (lg_sl ([.ref (a 0), .int (nI sl)]) ++ List.replicate (2 - (lg_sl ([.ref (a 0), .int (nI sl)])).length) Slot.unset).toArray = ls at hl ⊢
  have hl : lv_has ls 2 [(0, .ref (a 0)), (1, .int (nI sl))] := hl
  refine lv_aload_n hx hb dX0_makeClean_0 rfl (lv_at hl 0 rfl) ?_
  refine va_get (D := (dC, dI)) (ci := 0) (v := .ref (a 3)) (C := RX0) (T := TX0) (N := 13) hx hb hts hin9 hown hK hP 0 rfl rfl 3 (by decide) (hts _ (List.mem_cons_of_mem _ mf_X0_20)) (fun _ h9 => h9) rfl dX0_makeClean_1 ?_
  refine lv_iload_n hx hb dX0_makeClean_4 rfl (lv_at hl 1 rfl) ?_
  refine lv_aload_n hx hb dX0_makeClean_5 rfl (lv_at hl 0 rfl) ?_
  refine va_get (D := (dC, dI)) (ci := 0) (v := .ref (a 3)) (C := RX0) (T := TX0) (N := 13) hx hb hts hin9 hown hK hP 0 rfl rfl 3 (by decide) (hts _ (List.mem_cons_of_mem _ mf_X0_20)) (fun _ h9 => h9) rfl dX0_makeClean_6 ?_
  refine lv_iload_n hx hb dX0_makeClean_9 rfl (lv_at hl 1 rfl) ?_
  refine zr_iald (k := sl) hx hb hK hP 3 2 rfl rfl (by omega) (by omega) dX0_makeClean_10 ?_
  refine zr_Si (v := (fc_blk (cs_k u sl))) (As := [.int (cs_k u sl)]) (rest := [.int (nI sl), .ref (a 3)]) ⟨hx, hb, hml, hown, hts⟩ (c_C_blockOf l H.size (cs_k u sl)) (va_cwS 1 hts gX0_makeClean_X0_blockOf rfl rfl rfl (by decide +kernel) ⟨Nat.le_of_ble_eq_true rfl, Nat.le_of_ble_eq_true rfl⟩) hP hS hA rfl hl.1 rfl (Nat.le_of_ble_eq_true rfl) dX0_makeClean_11 (fun H locs hP hS => ?_) ⟨Nat.le_of_ble_eq_true rfl, Nat.le_of_ble_eq_true rfl⟩
  refine zr_Si (v := (2 * (fc_blk (cs_k u sl)))) (As := [.int (fc_blk (cs_k u sl))]) (rest := [.int (nI sl), .ref (a 3)]) ⟨hx, hb, hml, hown, hts⟩ (c_C_cleanForm l H.size (fc_blk (cs_k u sl))) (va_cwS 1 hts gX0_makeClean_X0_cleanForm rfl rfl rfl (by decide +kernel) ⟨Nat.le_of_ble_eq_true rfl, Nat.le_of_ble_eq_true rfl⟩) hP hS hA rfl hl.1 rfl (Nat.le_of_ble_eq_true rfl) dX0_makeClean_14 (fun H locs hP hS => ?_) ⟨Nat.le_of_ble_eq_true rfl, Nat.le_of_ble_eq_true rfl⟩
  refine zr_iast (k := sl) hx hb hK hP hD hS 3 2 rfl rfl (by omega) (by omega) dX0_makeClean_17 (fun H locs hP hD hS => ?_)
  have hP : va_P (dC, dI) vwCl (wC n a ca (cs_o u, cs_v u, upd (cs_k u) sl (2 * (fc_blk (cs_k u sl))), cs_n u, cs_l u, cs_u u, cs_m u, cs_h u, cs_i u, cs_j u, cs_w u, cs_t u)) H := hP
  have hD : va_D A (wC n a ca (cs_o u, cs_v u, upd (cs_k u) sl (2 * (fc_blk (cs_k u sl))), cs_n u, cs_l u, cs_u u, cs_m u, cs_h u, cs_i u, cs_j u, cs_w u, cs_t u)) := hD
  refine lv_aload_n hx hb dX0_makeClean_18 rfl (lv_at hl 0 rfl) ?_
  refine va_get (D := (dC, dI)) (ci := 0) (v := .ref (a 4)) (C := RX0) (T := TX0) (N := 13) hx hb hts hin9 hown hK hP 0 rfl rfl 4 (by decide) (hts _ (List.mem_cons_of_mem _ mf_X0_24)) (fun _ h9 => h9) rfl dX0_makeClean_19 ?_
  refine lv_iload_n hx hb dX0_makeClean_22 rfl (lv_at hl 1 rfl) ?_
  refine zr_iald (k := sl) hx hb hK hP 4 3 rfl rfl (by omega) (by omega) dX0_makeClean_23 ?_
  refine zr_Si (v := (fc_isd (cs_n u sl))) (As := [.int (cs_n u sl)]) (rest := []) ⟨hx, hb, hml, hown, hts⟩ (c_C_isDirty l H.size (cs_n u sl)) (va_cwS 1 hts gX0_makeClean_X0_isDirty rfl rfl rfl (by decide +kernel) ⟨Nat.le_of_ble_eq_true rfl, Nat.le_of_ble_eq_true rfl⟩) hP hS hA rfl hl.1 rfl (Nat.le_of_ble_eq_true rfl) dX0_makeClean_24 (fun H locs hP hS => ?_) ⟨Nat.le_of_ble_eq_true rfl, Nat.le_of_ble_eq_true rfl⟩
  refine lv_if_eq hx hb dX0_makeClean_27 (tgt := 35) rfl (fun h1 => ?_) (fun h1 => ?_)
  · exact W.vret hx hb hr (fun t ht hW => ⟨⟨(cs_o u, cs_v u, upd (cs_k u) sl (2 * (fc_blk (cs_k u sl))), cs_n u, cs_l u, cs_u u, cs_m u, cs_h u, cs_i u, cs_j u, cs_w u, cs_t u), rfl, (by first | rfl | (simp only [fc_clean, if_pos h1] <;> rfl)), ⟨by rw [ht]; exact hP, va_K.moved hW.alike hK, hD⟩⟩, hS.F ht⟩) hS.2.2 dX0_makeClean_35
  · refine lv_aload_n hx hb dX0_makeClean_30 rfl (lv_at hl 0 rfl) ?_
    refine lv_iload_n hx hb dX0_makeClean_31 rfl (lv_at hl 1 rfl) ?_
    refine zr_Vv (w := fun z => wC n a ca z) (u := (cs_o u, cs_v u, upd (cs_k u) sl (2 * (fc_blk (cs_k u sl))), cs_n u, cs_l u, cs_u u, cs_m u, cs_h u, cs_i u, cs_j u, cs_w u, cs_t u)) (u1 := fc_note (cs_o u, cs_v u, upd (cs_k u) sl (2 * (fc_blk (cs_k u sl))), cs_n u, cs_l u, cs_u u, cs_m u, cs_h u, cs_i u, cs_j u, cs_w u, cs_t u) sl) (As := [.int (nI sl)]) (rest := []) ⟨hx, hb, hml, hown, hts⟩ (c_C_noteSlot l dC dI n a ca (cs_o u, cs_v u, upd (cs_k u) sl (2 * (fc_blk (cs_k u sl))), cs_n u, cs_l u, cs_u u, cs_m u, cs_h u, cs_i u, cs_j u, cs_w u, cs_t u) H.size sl hn (by omega)) (cwV 1 hts gX0_makeClean_X0_noteSlot rfl rfl rfl (by decide +kernel) ⟨Nat.le_of_ble_eq_true rfl, Nat.le_of_ble_eq_true rfl⟩) hK hP hD hS hA (va_recv (q0 := 0) (ci := 0) (q := (RX0, TX0, 13)) hK hP rfl rfl) rfl hl.1 rfl (Nat.le_of_ble_eq_true rfl) dX0_makeClean_32 (fun H locs hP hD hS => ?_) ⟨Nat.le_of_ble_eq_true rfl, Nat.le_of_ble_eq_true rfl⟩
    have hP : va_P (dC, dI) vwCl (wC n a ca (fc_note (cs_o u, cs_v u, upd (cs_k u) sl (2 * (fc_blk (cs_k u sl))), cs_n u, cs_l u, cs_u u, cs_m u, cs_h u, cs_i u, cs_j u, cs_w u, cs_t u) sl)) H := hP
    have hD : va_D A (wC n a ca (fc_note (cs_o u, cs_v u, upd (cs_k u) sl (2 * (fc_blk (cs_k u sl))), cs_n u, cs_l u, cs_u u, cs_m u, cs_h u, cs_i u, cs_j u, cs_w u, cs_t u) sl)) := hD
    exact W.vret hx hb hr (fun t ht hW => ⟨⟨fc_note (cs_o u, cs_v u, upd (cs_k u) sl (2 * (fc_blk (cs_k u sl))), cs_n u, cs_l u, cs_u u, cs_m u, cs_h u, cs_i u, cs_j u, cs_w u, cs_t u) sl, rfl, (by first | rfl | (simp only [fc_clean, if_neg h1] <;> rfl)), ⟨by rw [ht]; exact hP, va_K.moved hW.alike hK, hD⟩⟩, hS.F ht⟩) hS.2.2 dX0_makeClean_35
set_option maxHeartbeats 4000000 in
set_option maxRecDepth 100000 in
theorem c_C_makeEmpty (l : Launch) (dC : Nat → ClassId) (dI : Nat → Nat → Nat) (n : Nat) (a : Nat → Nat) (ca : Nat → ClassId) (u : StC) (sz : Nat) (sl : Nat) (hn : n ≤ 12) (hs : sl < n) : Met l yX0_makeEmpty wsX0_makeEmpty ({ frames := 1, cells := 0, slots := 0, locals := 21 }) (va_Pc [.ref (a 0), .int (nI sl)] (zr_P (dC, dI) vwCl (tC ca) (wC n a ca u) sz)) (va_Qv (fun u' => u' = fc_empty u sl) (fun u' => zr_B (dC, dI) vwCl (tC ca) (va_A (wC n a ca u) sz) (wC n a ca u')) (va_A (wC n a ca u) sz)) 0 0 (va_A (wC n a ca u) sz) := by
  refine Met.ofW (cc := cX0_makeEmpty) (maxL := 2) (ret := none) (by decide) rfl ?_
  intro p e s m args below meth c s₁ B hml hv
  obtain ⟨rfl, hsz, hP, hK, hD0⟩ := hv
  have hx := B.exec
  have hb := B.bytes
  have hr := B.returns
  have hts := atoms_spec (ws := wsX0_makeEmpty) B.pre
  have hown : s.vm.findClass RX0 = some m.cls := findClass_of_methodNamed B.named
  have hlocks := B.notSynchronized
  subst hsz
  have hD := hD0.self (sz := s.heap.size)
  generalize hAe : va_A (wC n a ca u) s.heap.size = A at hD ⊢
  have hA : ∀ q : Nat, s.heap.size ≤ q → A q := fun q h => by rw [← hAe]; exact Or.inr h
  obtain ⟨H, hH, hP, hS⟩ : ∃ H, H = s.heap ∧ va_P (dC, dI) vwCl (wC n a ca u) H ∧ va_S A s.heap H [] := ⟨_, rfl, hP, va_S.rf⟩
  have hin9 : ∀ w ∈ u_ws RX0 TX0 13, w ∈ wsX0_makeEmpty := fun w h => List.mem_cons_of_mem _ (hinX0 w h)
  rw [← hH]
  have hl := lv_entry ([.ref (a 0), .int (nI sl)]) (n := 2) (Nat.le_of_ble_eq_true rfl)
  rw [lg_entry_eq]
  generalize (lg_sl ([.ref (a 0), .int (nI sl)]) ++ List.replicate (2 - (lg_sl ([.ref (a 0), .int (nI sl)])).length) Slot.unset).toArray = ls at hl ⊢
  have hl : lv_has ls 2 [(0, .ref (a 0)), (1, .int (nI sl))] := hl
  refine lv_aload_n hx hb dX0_makeEmpty_0 rfl (lv_at hl 0 rfl) ?_
  refine va_get (D := (dC, dI)) (ci := 0) (v := .ref (a 3)) (C := RX0) (T := TX0) (N := 13) hx hb hts hin9 hown hK hP 0 rfl rfl 3 (by decide) (hts _ (List.mem_cons_of_mem _ mf_X0_20)) (fun _ h9 => h9) rfl dX0_makeEmpty_1 ?_
  refine lv_iload_n hx hb dX0_makeEmpty_4 rfl (lv_at hl 1 rfl) ?_
  refine lv_iconst (v := (-1)) hx hb dX0_makeEmpty_5 (by decide) ?_
  refine zr_iast (k := sl) hx hb hK hP hD hS 3 2 rfl rfl (by omega) (by omega) dX0_makeEmpty_6 (fun H locs hP hD hS => ?_)
  have hP : va_P (dC, dI) vwCl (wC n a ca (cs_o u, cs_v u, upd (cs_k u) sl (-1), cs_n u, cs_l u, cs_u u, cs_m u, cs_h u, cs_i u, cs_j u, cs_w u, cs_t u)) H := hP
  have hD : va_D A (wC n a ca (cs_o u, cs_v u, upd (cs_k u) sl (-1), cs_n u, cs_l u, cs_u u, cs_m u, cs_h u, cs_i u, cs_j u, cs_w u, cs_t u)) := hD
  refine lv_aload_n hx hb dX0_makeEmpty_7 rfl (lv_at hl 0 rfl) ?_
  refine va_get (D := (dC, dI)) (ci := 0) (v := .ref (a 4)) (C := RX0) (T := TX0) (N := 13) hx hb hts hin9 hown hK hP 0 rfl rfl 4 (by decide) (hts _ (List.mem_cons_of_mem _ mf_X0_24)) (fun _ h9 => h9) rfl dX0_makeEmpty_8 ?_
  refine lv_iload_n hx hb dX0_makeEmpty_11 rfl (lv_at hl 1 rfl) ?_
  refine zr_iald (k := sl) hx hb hK hP 4 3 rfl rfl (by omega) (by omega) dX0_makeEmpty_12 ?_
  refine lv_iconst (v := (-1)) hx hb dX0_makeEmpty_13 (by decide) ?_
  refine lv_icmp_eq hx hb dX0_makeEmpty_14 (tgt := 22) rfl (fun h1 => ?_) (fun h1 => ?_)
  · exact W.vret hx hb hr (fun t ht hW => ⟨⟨(cs_o u, cs_v u, upd (cs_k u) sl (-1), cs_n u, cs_l u, cs_u u, cs_m u, cs_h u, cs_i u, cs_j u, cs_w u, cs_t u), rfl, (by first | rfl | (simp only [fc_empty, if_pos h1] <;> rfl)), ⟨by rw [ht]; exact hP, va_K.moved hW.alike hK, hD⟩⟩, hS.F ht⟩) hS.2.2 dX0_makeEmpty_22
  · refine lv_aload_n hx hb dX0_makeEmpty_17 rfl (lv_at hl 0 rfl) ?_
    refine lv_iload_n hx hb dX0_makeEmpty_18 rfl (lv_at hl 1 rfl) ?_
    refine zr_Vv (w := fun z => wC n a ca z) (u := (cs_o u, cs_v u, upd (cs_k u) sl (-1), cs_n u, cs_l u, cs_u u, cs_m u, cs_h u, cs_i u, cs_j u, cs_w u, cs_t u)) (u1 := fc_note (cs_o u, cs_v u, upd (cs_k u) sl (-1), cs_n u, cs_l u, cs_u u, cs_m u, cs_h u, cs_i u, cs_j u, cs_w u, cs_t u) sl) (As := [.int (nI sl)]) (rest := []) ⟨hx, hb, hml, hown, hts⟩ (c_C_noteSlot l dC dI n a ca (cs_o u, cs_v u, upd (cs_k u) sl (-1), cs_n u, cs_l u, cs_u u, cs_m u, cs_h u, cs_i u, cs_j u, cs_w u, cs_t u) H.size sl hn (by omega)) (cwV 1 hts gX0_makeEmpty_X0_noteSlot rfl rfl rfl (by decide +kernel) ⟨Nat.le_of_ble_eq_true rfl, Nat.le_of_ble_eq_true rfl⟩) hK hP hD hS hA (va_recv (q0 := 0) (ci := 0) (q := (RX0, TX0, 13)) hK hP rfl rfl) rfl hl.1 rfl (Nat.le_of_ble_eq_true rfl) dX0_makeEmpty_19 (fun H locs hP hD hS => ?_) ⟨Nat.le_of_ble_eq_true rfl, Nat.le_of_ble_eq_true rfl⟩
    have hP : va_P (dC, dI) vwCl (wC n a ca (fc_note (cs_o u, cs_v u, upd (cs_k u) sl (-1), cs_n u, cs_l u, cs_u u, cs_m u, cs_h u, cs_i u, cs_j u, cs_w u, cs_t u) sl)) H := hP
    have hD : va_D A (wC n a ca (fc_note (cs_o u, cs_v u, upd (cs_k u) sl (-1), cs_n u, cs_l u, cs_u u, cs_m u, cs_h u, cs_i u, cs_j u, cs_w u, cs_t u) sl)) := hD
    exact W.vret hx hb hr (fun t ht hW => ⟨⟨fc_note (cs_o u, cs_v u, upd (cs_k u) sl (-1), cs_n u, cs_l u, cs_u u, cs_m u, cs_h u, cs_i u, cs_j u, cs_w u, cs_t u) sl, rfl, (by first | rfl | (simp only [fc_empty, if_neg h1] <;> rfl)), ⟨by rw [ht]; exact hP, va_K.moved hW.alike hK, hD⟩⟩, hS.F ht⟩) hS.2.2 dX0_makeEmpty_22
set_option maxHeartbeats 4000000 in
set_option maxRecDepth 100000 in
theorem c_C_writeBackIfDirty (l : Launch) (dC : Nat → ClassId) (dI : Nat → Nat → Nat) (n : Nat) (a : Nat → Nat) (ca : Nat → ClassId) (u : StC) (sz : Nat) (sl : Nat) (hn : n ≤ 12) (hs : sl < n) (hkf : okf (cs_k u sl)) : Met l yX0_writeBackIfDirty wsX0_writeBackIfDirty ({ frames := 2, cells := 0, slots := 0, locals := 42 }) (va_Pc [.ref (a 0), .int (nI sl)] (zr_P (dC, dI) vwCl (tC ca) (wC n a ca u) sz)) (va_Qi (fun r u' => r = (fc_wbd u sl).1 ∧ u' = (fc_wbd u sl).2) (fun u' => zr_B (dC, dI) vwCl (tC ca) (va_A (wC n a ca u) sz) (wC n a ca u')) (va_A (wC n a ca u) sz)) 0 0 (va_A (wC n a ca u) sz) := by
  refine Met.ofW (cc := cX0_writeBackIfDirty) (maxL := 2) (ret := (some .boolean)) (by decide) rfl ?_
  intro p e s m args below meth c s₁ B hml hv
  obtain ⟨rfl, hsz, hP, hK, hD0⟩ := hv
  have hx := B.exec
  have hb := B.bytes
  have hr := B.returns
  have hts := atoms_spec (ws := wsX0_writeBackIfDirty) B.pre
  have hown : s.vm.findClass RX0 = some m.cls := findClass_of_methodNamed B.named
  have hlocks := B.notSynchronized
  subst hsz
  have hD := hD0.self (sz := s.heap.size)
  generalize hAe : va_A (wC n a ca u) s.heap.size = A at hD ⊢
  have hA : ∀ q : Nat, s.heap.size ≤ q → A q := fun q h => by rw [← hAe]; exact Or.inr h
  obtain ⟨H, hH, hP, hS⟩ : ∃ H, H = s.heap ∧ va_P (dC, dI) vwCl (wC n a ca u) H ∧ va_S A s.heap H [] := ⟨_, rfl, hP, va_S.rf⟩
  have hin9 : ∀ w ∈ u_ws RX0 TX0 13, w ∈ wsX0_writeBackIfDirty := fun w h => List.mem_cons_of_mem _ (hinX0 w h)
  rw [← hH]
  have hl := lv_entry ([.ref (a 0), .int (nI sl)]) (n := 2) (Nat.le_of_ble_eq_true rfl)
  rw [lg_entry_eq]
  generalize (lg_sl ([.ref (a 0), .int (nI sl)]) ++ List.replicate (2 - (lg_sl ([.ref (a 0), .int (nI sl)])).length) Slot.unset).toArray = ls at hl ⊢
  have hl : lv_has ls 2 [(0, .ref (a 0)), (1, .int (nI sl))] := hl
  refine lv_aload_n hx hb dX0_writeBackIfDirty_0 rfl (lv_at hl 0 rfl) ?_
  refine va_get (D := (dC, dI)) (ci := 0) (v := .ref (a 3)) (C := RX0) (T := TX0) (N := 13) hx hb hts hin9 hown hK hP 0 rfl rfl 3 (by decide) (hts _ (List.mem_cons_of_mem _ mf_X0_20)) (fun _ h9 => h9) rfl dX0_writeBackIfDirty_1 ?_
  refine lv_iload_n hx hb dX0_writeBackIfDirty_4 rfl (lv_at hl 1 rfl) ?_
  refine zr_iald (k := sl) hx hb hK hP 3 2 rfl rfl (by omega) (by omega) dX0_writeBackIfDirty_5 ?_
  refine zr_Si (v := (fc_isd (cs_k u sl))) (As := [.int (cs_k u sl)]) (rest := []) ⟨hx, hb, hml, hown, hts⟩ (c_C_isDirty l H.size (cs_k u sl)) (va_cwS 1 hts gX0_writeBackIfDirty_X0_isDirty rfl rfl rfl (by decide +kernel) ⟨Nat.le_of_ble_eq_true rfl, Nat.le_of_ble_eq_true rfl⟩) hP hS hA rfl hl.1 rfl (Nat.le_of_ble_eq_true rfl) dX0_writeBackIfDirty_6 (fun H locs hP hS => ?_) ⟨Nat.le_of_ble_eq_true rfl, Nat.le_of_ble_eq_true rfl⟩
  refine lv_if_ne hx hb dX0_writeBackIfDirty_9 (tgt := 14) rfl (fun h1 => ?_) (fun h1 => ?_)
  · refine lv_aload_n hx hb dX0_writeBackIfDirty_14 rfl (lv_at hl 0 rfl) ?_
    refine lv_aload_n hx hb dX0_writeBackIfDirty_15 rfl (lv_at hl 0 rfl) ?_
    refine va_get (D := (dC, dI)) (ci := 0) (v := .ref (a 3)) (C := RX0) (T := TX0) (N := 13) hx hb hts hin9 hown hK hP 0 rfl rfl 3 (by decide) (hts _ (List.mem_cons_of_mem _ mf_X0_20)) (fun _ h9 => h9) rfl dX0_writeBackIfDirty_16 ?_
    refine lv_iload_n hx hb dX0_writeBackIfDirty_19 rfl (lv_at hl 1 rfl) ?_
    refine zr_iald (k := sl) hx hb hK hP 3 2 rfl rfl (by omega) (by omega) dX0_writeBackIfDirty_20 ?_
    refine zr_Si (v := (fc_blk (cs_k u sl))) (As := [.int (cs_k u sl)]) (rest := [.ref (a 0)]) ⟨hx, hb, hml, hown, hts⟩ (c_C_blockOf l H.size (cs_k u sl)) (va_cwS 1 hts gX0_writeBackIfDirty_X0_blockOf rfl rfl rfl (by decide +kernel) ⟨Nat.le_of_ble_eq_true rfl, Nat.le_of_ble_eq_true rfl⟩) hP hS hA rfl hl.1 rfl (Nat.le_of_ble_eq_true rfl) dX0_writeBackIfDirty_21 (fun H locs hP hS => ?_) ⟨Nat.le_of_ble_eq_true rfl, Nat.le_of_ble_eq_true rfl⟩
    refine lv_aload_n hx hb dX0_writeBackIfDirty_24 rfl (lv_at hl 0 rfl) ?_
    refine va_get (D := (dC, dI)) (ci := 0) (v := .ref (a 2)) (C := RX0) (T := TX0) (N := 13) hx hb hts hin9 hown hK hP 0 rfl rfl 2 (by decide) (hts _ (List.mem_cons_of_mem _ mf_X0_17)) (fun _ h9 => h9) rfl dX0_writeBackIfDirty_25 ?_
    refine lv_iload_n hx hb dX0_writeBackIfDirty_28 rfl (lv_at hl 1 rfl) ?_
    refine zr_lald (k := sl) hx hb hK hP 2 1 rfl rfl (by omega) (by omega) dX0_writeBackIfDirty_29 ?_
    obtain ⟨b, hb64, hbk⟩ := okf_blk hkf h1
    rw [hbk]
    refine zr_Vv (w := fun z => wC n a ca z) (u := u) (u1 := fc_give u b (cs_v u sl)) (As := [.int (nI b), .long (cs_v u sl)]) (rest := []) ⟨hx, hb, hml, hown, hts⟩ (c_C_giveOrigin l dC dI n a ca u H.size b (cs_v u sl) (by omega)) (cwV 2 hts gX0_writeBackIfDirty_X0_giveOrigin rfl rfl rfl (by decide +kernel) ⟨Nat.le_of_ble_eq_true rfl, Nat.le_of_ble_eq_true rfl⟩) hK hP hD hS hA (va_recv (q0 := 0) (ci := 0) (q := (RX0, TX0, 13)) hK hP rfl rfl) rfl hl.1 rfl (Nat.le_of_ble_eq_true rfl) dX0_writeBackIfDirty_30 (fun H locs hP hD hS => ?_) ⟨Nat.le_of_ble_eq_true rfl, Nat.le_of_ble_eq_true rfl⟩
    have hP : va_P (dC, dI) vwCl (wC n a ca (fc_give u b (cs_v u sl))) H := hP
    have hD : va_D A (wC n a ca (fc_give u b (cs_v u sl))) := hD
    refine lv_aload_n hx hb dX0_writeBackIfDirty_33 rfl (lv_at hl 0 rfl) ?_
    refine lv_iload_n hx hb dX0_writeBackIfDirty_34 rfl (lv_at hl 1 rfl) ?_
    refine zr_Vv (w := fun z => wC n a ca z) (u := (fc_give u b (cs_v u sl))) (u1 := fc_clean (fc_give u b (cs_v u sl)) sl) (As := [.int (nI sl)]) (rest := []) ⟨hx, hb, hml, hown, hts⟩ (c_C_makeClean l dC dI n a ca (fc_give u b (cs_v u sl)) H.size sl hn (by omega)) (cwV 1 hts gX0_writeBackIfDirty_X0_makeClean rfl rfl rfl (by decide +kernel) ⟨Nat.le_of_ble_eq_true rfl, Nat.le_of_ble_eq_true rfl⟩) hK hP hD hS hA (va_recv (q0 := 0) (ci := 0) (q := (RX0, TX0, 13)) hK hP rfl rfl) rfl hl.1 rfl (Nat.le_of_ble_eq_true rfl) dX0_writeBackIfDirty_35 (fun H locs hP hD hS => ?_) ⟨Nat.le_of_ble_eq_true rfl, Nat.le_of_ble_eq_true rfl⟩
    have hP : va_P (dC, dI) vwCl (wC n a ca (fc_clean (fc_give u b (cs_v u sl)) sl)) H := hP
    have hD : va_D A (wC n a ca (fc_clean (fc_give u b (cs_v u sl)) sl)) := hD
    refine lv_iconst (v := 1) hx hb dX0_writeBackIfDirty_38 (by decide) ?_
    exact W.zret (v := 1) hx hb hr rfl (fun t ht hW => ⟨⟨1, fc_clean (fc_give u b (cs_v u sl)) sl, rfl, ⟨(by first | rfl | (simp only [fc_wbd, if_neg h1, hbk, nI_clamp (show b < 2 ^ 31 by omega)] <;> rfl)), (by first | rfl | (simp only [fc_wbd, if_neg h1, hbk, nI_clamp (show b < 2 ^ 31 by omega)] <;> rfl))⟩, ⟨by rw [ht]; exact hP, va_K.moved hW.alike hK, hD⟩⟩, hS.F ht⟩) hS.2.2 dX0_writeBackIfDirty_39
  · refine lv_iconst (v := 0) hx hb dX0_writeBackIfDirty_12 (by decide) ?_
    exact W.zret (v := 0) hx hb hr rfl (fun t ht hW => ⟨⟨0, u, rfl, ⟨(by first | rfl | (simp only [fc_wbd, if_pos h1] <;> rfl)), (by first | rfl | (simp only [fc_wbd, if_pos h1] <;> rfl))⟩, ⟨by rw [ht]; exact hP, va_K.moved hW.alike hK, hD⟩⟩, hS.F ht⟩) hS.2.2 dX0_writeBackIfDirty_13
set_option maxHeartbeats 4000000 in
set_option maxRecDepth 100000 in
theorem c_C_writeAllBack (l : Launch) (dC : Nat → ClassId) (dI : Nat → Nat → Nat) (n : Nat) (a : Nat → Nat) (ca : Nat → ClassId) (u : StC) (sz : Nat) (hn : n ≤ 12) (hok : okK n (cs_k u)) : Met l yX0_writeAllBack wsX0_writeAllBack ({ frames := 3, cells := 0, slots := 0, locals := 63 }) (va_Pc [.ref (a 0)] (zr_P (dC, dI) vwCl (tC ca) (wC n a ca u) sz)) (va_Qi (fun r u' => r = (fc_wab n 0 0 u).1 ∧ u' = (fc_wab n 0 0 u).2) (fun u' => zr_B (dC, dI) vwCl (tC ca) (va_A (wC n a ca u) sz) (wC n a ca u')) (va_A (wC n a ca u) sz)) 0 0 (va_A (wC n a ca u) sz) := by
  refine Met.ofW (cc := cX0_writeAllBack) (maxL := 3) (ret := (some .int)) (by decide) rfl ?_
  intro p e s m args below meth c s₁ B hml hv
  obtain ⟨rfl, hsz, hP, hK, hD0⟩ := hv
  have hx := B.exec
  have hb := B.bytes
  have hr := B.returns
  have hts := atoms_spec (ws := wsX0_writeAllBack) B.pre
  have hown : s.vm.findClass RX0 = some m.cls := findClass_of_methodNamed B.named
  have hlocks := B.notSynchronized
  subst hsz
  have hD := hD0.self (sz := s.heap.size)
  generalize hAe : va_A (wC n a ca u) s.heap.size = A at hD ⊢
  have hA : ∀ q : Nat, s.heap.size ≤ q → A q := fun q h => by rw [← hAe]; exact Or.inr h
  obtain ⟨H, hH, hP, hS⟩ : ∃ H, H = s.heap ∧ va_P (dC, dI) vwCl (wC n a ca u) H ∧ va_S A s.heap H [] := ⟨_, rfl, hP, va_S.rf⟩
  have hin9 : ∀ w ∈ u_ws RX0 TX0 13, w ∈ wsX0_writeAllBack := fun w h => List.mem_cons_of_mem _ (hinX0 w h)
  rw [← hH]
  have hl := lv_entry ([.ref (a 0)]) (n := 3) (Nat.le_of_ble_eq_true rfl)
  rw [lg_entry_eq]
  generalize (lg_sl ([.ref (a 0)]) ++ List.replicate (3 - (lg_sl ([.ref (a 0)])).length) Slot.unset).toArray = ls at hl ⊢
  have hl : lv_has ls 3 [(0, .ref (a 0))] := hl
  refine lv_iconst (v := 0) hx hb dX0_writeAllBack_0 (by decide) ?_
  refine lv_istore_n hx hb dX0_writeAllBack_1 rfl hl (by decide) rfl (fun ls hl => ?_)
  have hl : lv_has ls 3 [(1, .int 0), (0, .ref (a 0))] := hl
  refine lv_iconst (v := 0) hx hb dX0_writeAllBack_2 (by decide) ?_
  refine lv_istore_n hx hb dX0_writeAllBack_3 rfl hl (by decide) rfl (fun ls hl => ?_)
  have hl : lv_has ls 3 [(2, .int 0), (1, .int 0), (0, .ref (a 0))] := hl
  refine zr_loop (fun r (x0 : Nat × Int32 × StC) ls H locs => r + x0.1 = n ∧ fc_wab r x0.1 x0.2.1 x0.2.2 = fc_wab n 0 0 u ∧ (okK n (cs_k x0.2.2)) ∧ lv_has ls 3 [(0, .ref (a 0)), (1, .int x0.2.1), (2, .int (nI x0.1))] ∧ va_P (dC, dI) vwCl (wC n a ca x0.2.2) H ∧ va_D A (wC n a ca x0.2.2) ∧ va_S A s.heap H locs) (fun ls => F0 m 4 ls []) ?_ n (0, 0, u) _ _ _ ⟨by omega, rfl, hok, lv_sub hl [2, 1, 0] rfl, hP, hD, hS⟩
  rintro r ⟨k, q, w⟩ ls H locs ih ⟨hrk, hinv, hok, hl, hP, hD, hS⟩
  have hrk : r + k = n := hrk
  have hinv : fc_wab r k q w = fc_wab n 0 0 u := hinv
  have hok : okK n (cs_k w) := hok
  have hl : lv_has ls 3 [(0, .ref (a 0)), (1, .int q), (2, .int (nI k))] := hl
  have hP : va_P (dC, dI) vwCl (wC n a ca w) H := hP
  have hD : va_D A (wC n a ca w) := hD
  refine lv_iload_n hx hb dX0_writeAllBack_4 rfl (lv_at hl 2 rfl) ?_
  refine lv_aload_n hx hb dX0_writeAllBack_5 rfl (lv_at hl 0 rfl) ?_
  refine va_get (D := (dC, dI)) (ci := 0) (v := .int (nI n)) (C := RX0) (T := TX0) (N := 13) hx hb hts hin9 hown hK hP 0 rfl rfl 0 (by decide) (hts _ (List.mem_cons_of_mem _ mf_X0_9)) (fun _ h9 => h9) rfl dX0_writeAllBack_6 ?_
  refine lv_icmp_ge hx hb dX0_writeAllBack_9 (tgt := 29) rfl (fun h1 => ?_) (fun h1 => ?_)
  · have h1 := zr_ge (by omega) (by omega) h1
    obtain rfl : r = 0 := by omega
    refine lv_iload_n hx hb dX0_writeAllBack_29 rfl (lv_at hl 1 rfl) ?_
    exact W.iret (v := q) hx hb hr (fun t ht hW => ⟨⟨q, w, rfl, ⟨(by first | rfl | (rw [← hinv] <;> rfl) | (rw [← hinv]; simp only [fc_wab] <;> rfl) | (simp only [fc_wab]; rw [← hinv] <;> rfl) | (simp only [fc_wab]; rw [← hinv]; simp only [fc_wab] <;> rfl) | (simp only [fc_wab] <;> rfl)), (by first | rfl | (rw [← hinv] <;> rfl) | (rw [← hinv]; simp only [fc_wab] <;> rfl) | (simp only [fc_wab]; rw [← hinv] <;> rfl) | (simp only [fc_wab]; rw [← hinv]; simp only [fc_wab] <;> rfl) | (simp only [fc_wab] <;> rfl))⟩, ⟨by rw [ht]; exact hP, va_K.moved hW.alike hK, hD⟩⟩, hS.F ht⟩) hS.2.2 dX0_writeAllBack_30
  · have h1 := zr_lt (by omega) (by omega) h1
    obtain ⟨r', rfl⟩ : ∃ z, r = z + 1 := ⟨r - 1, by omega⟩
    refine lv_aload_n hx hb dX0_writeAllBack_12 rfl (lv_at hl 0 rfl) ?_
    refine lv_iload_n hx hb dX0_writeAllBack_13 rfl (lv_at hl 2 rfl) ?_
    refine zr_Vi (w := fun z => wC n a ca z) (u := w) (u1 := (fc_wbd w k).2) (v := (fc_wbd w k).1) (As := [.int (nI k)]) (rest := []) ⟨hx, hb, hml, hown, hts⟩ (c_C_writeBackIfDirty l dC dI n a ca w H.size k hn (by omega) (hok _ (by omega))) (cwV 1 hts gX0_writeAllBack_X0_writeBackIfDirty rfl rfl rfl (by decide +kernel) ⟨Nat.le_of_ble_eq_true rfl, Nat.le_of_ble_eq_true rfl⟩) hK hP hD hS hA (va_recv (q0 := 0) (ci := 0) (q := (RX0, TX0, 13)) hK hP rfl rfl) rfl hl.1 rfl (Nat.le_of_ble_eq_true rfl) dX0_writeAllBack_14 (fun H locs hP hD hS => ?_) ⟨Nat.le_of_ble_eq_true rfl, Nat.le_of_ble_eq_true rfl⟩
    have hP : va_P (dC, dI) vwCl (wC n a ca ((fc_wbd w k).2)) H := hP
    have hD : va_D A (wC n a ca ((fc_wbd w k).2)) := hD
    refine lv_if_eq hx hb dX0_writeAllBack_17 (tgt := 23) rfl (fun h2 => ?_) (fun h2 => ?_)
    · refine lv_iinc (k := 2) (v := nI (k + 1)) hx hb dX0_writeAllBack_23 hl rfl (zr_incN k) (by decide) rfl (fun ls hl => ?_)
      have hl : lv_has ls 3 [(2, .int (nI (k + 1))), (0, .ref (a 0)), (1, .int q)] := hl
      refine lv_goto hx hb dX0_writeAllBack_26 (tgt := 4) rfl ?_
      exact ih r' (k + 1, q, (fc_wbd w k).2) _ _ _ (by omega) ⟨by omega, (by rw [← hinv]; first | rfl | (simp only [fc_wab, if_pos h2] <;> rfl)), (ok_wbd hok (by omega)), lv_sub hl [1, 2, 0] rfl, hP, hD, hS⟩
    · refine lv_iinc (k := 1) (v := (q + 1)) hx hb dX0_writeAllBack_20 hl rfl (zr_inc1 q) (by decide) rfl (fun ls hl => ?_)
      have hl : lv_has ls 3 [(1, .int (q + 1)), (0, .ref (a 0)), (2, .int (nI k))] := hl
      refine lv_iinc (k := 2) (v := nI (k + 1)) hx hb dX0_writeAllBack_23 hl rfl (zr_incN k) (by decide) rfl (fun ls hl => ?_)
      have hl : lv_has ls 3 [(2, .int (nI (k + 1))), (1, .int (q + 1)), (0, .ref (a 0))] := hl
      refine lv_goto hx hb dX0_writeAllBack_26 (tgt := 4) rfl ?_
      exact ih r' (k + 1, (q + 1), (fc_wbd w k).2) _ _ _ (by omega) ⟨by omega, (by rw [← hinv]; first | rfl | (simp only [fc_wab, if_neg h2] <;> rfl)), (ok_wbd hok (by omega)), lv_sub hl [2, 1, 0] rfl, hP, hD, hS⟩
set_option maxHeartbeats 4000000 in
set_option maxRecDepth 100000 in
theorem c_C_findRoom (l : Launch) (dC : Nat → ClassId) (dI : Nat → Nat → Nat) (n : Nat) (a : Nat → Nat) (ca : Nat → ClassId) (u : StC) (sz : Nat) (hn : n ≤ 12) (hn0 : 0 < n) (hok : okK n (cs_k u)) : Met l yX0_findRoom wsX0_findRoom ({ frames := 3, cells := 0, slots := 0, locals := 63 }) (va_Pc [.ref (a 0)] (zr_P (dC, dI) vwCl (tC ca) (wC n a ca u) sz)) (va_Qi (fun r u' => r = nI (fc_room n 0 0 u).1 ∧ u' = (fc_room n 0 0 u).2) (fun u' => zr_B (dC, dI) vwCl (tC ca) (va_A (wC n a ca u) sz) (wC n a ca u')) (va_A (wC n a ca u) sz)) 0 0 (va_A (wC n a ca u) sz) := by
  refine Met.ofW (cc := cX0_findRoom) (maxL := 3) (ret := (some .int)) (by decide) rfl ?_
  intro p e s m args below meth c s₁ B hml hv
  obtain ⟨rfl, hsz, hP, hK, hD0⟩ := hv
  have hx := B.exec
  have hb := B.bytes
  have hr := B.returns
  have hts := atoms_spec (ws := wsX0_findRoom) B.pre
  have hown : s.vm.findClass RX0 = some m.cls := findClass_of_methodNamed B.named
  have hlocks := B.notSynchronized
  subst hsz
  have hD := hD0.self (sz := s.heap.size)
  generalize hAe : va_A (wC n a ca u) s.heap.size = A at hD ⊢
  have hA : ∀ q : Nat, s.heap.size ≤ q → A q := fun q h => by rw [← hAe]; exact Or.inr h
  obtain ⟨H, hH, hP, hS⟩ : ∃ H, H = s.heap ∧ va_P (dC, dI) vwCl (wC n a ca u) H ∧ va_S A s.heap H [] := ⟨_, rfl, hP, va_S.rf⟩
  have hin9 : ∀ w ∈ u_ws RX0 TX0 13, w ∈ wsX0_findRoom := fun w h => List.mem_cons_of_mem _ (hinX0 w h)
  rw [← hH]
  have hl := lv_entry ([.ref (a 0)]) (n := 3) (Nat.le_of_ble_eq_true rfl)
  rw [lg_entry_eq]
  generalize (lg_sl ([.ref (a 0)]) ++ List.replicate (3 - (lg_sl ([.ref (a 0)])).length) Slot.unset).toArray = ls at hl ⊢
  have hl : lv_has ls 3 [(0, .ref (a 0))] := hl
  refine lv_iconst (v := 0) hx hb dX0_findRoom_0 (by decide) ?_
  refine lv_istore_n hx hb dX0_findRoom_1 rfl hl (by decide) rfl (fun ls hl => ?_)
  have hl : lv_has ls 3 [(1, .int 0), (0, .ref (a 0))] := hl
  refine lv_iconst (v := 0) hx hb dX0_findRoom_2 (by decide) ?_
  refine lv_istore_n hx hb dX0_findRoom_3 rfl hl (by decide) rfl (fun ls hl => ?_)
  have hl : lv_has ls 3 [(2, .int 0), (1, .int 0), (0, .ref (a 0))] := hl
  refine zr_loop (fun r (x0 : Nat × Nat) ls H locs => r + x0.1 = n ∧ fc_room r x0.1 x0.2 u = fc_room n 0 0 u ∧ (x0.2 < n) ∧ lv_has ls 3 [(0, .ref (a 0)), (1, .int (nI x0.2)), (2, .int (nI x0.1))] ∧ va_P (dC, dI) vwCl (wC n a ca u) H ∧ va_D A (wC n a ca u) ∧ va_S A s.heap H locs) (fun ls => F0 m 4 ls []) ?_ n (0, 0) _ _ _ ⟨by omega, rfl, hn0, lv_sub hl [2, 1, 0] rfl, hP, hD, hS⟩
  rintro r ⟨k, j⟩ ls H locs ih ⟨hrk, hinv, hj, hl, hP, hD, hS⟩
  have hrk : r + k = n := hrk
  have hinv : fc_room r k j u = fc_room n 0 0 u := hinv
  have hj : j < n := hj
  have hl : lv_has ls 3 [(0, .ref (a 0)), (1, .int (nI j)), (2, .int (nI k))] := hl
  have hP : va_P (dC, dI) vwCl (wC n a ca u) H := hP
  have hD : va_D A (wC n a ca u) := hD
  refine lv_iload_n hx hb dX0_findRoom_4 rfl (lv_at hl 2 rfl) ?_
  refine lv_aload_n hx hb dX0_findRoom_5 rfl (lv_at hl 0 rfl) ?_
  refine va_get (D := (dC, dI)) (ci := 0) (v := .int (nI n)) (C := RX0) (T := TX0) (N := 13) hx hb hts hin9 hown hK hP 0 rfl rfl 0 (by decide) (hts _ (List.mem_cons_of_mem _ mf_X0_9)) (fun _ h9 => h9) rfl dX0_findRoom_6 ?_
  refine lv_icmp_ge hx hb dX0_findRoom_9 (tgt := 47) rfl (fun h1 => ?_) (fun h1 => ?_)
  · have h1 := zr_ge (by omega) (by omega) h1
    obtain rfl : r = 0 := by omega
    refine lv_aload_n hx hb dX0_findRoom_47 rfl (lv_at hl 0 rfl) ?_
    refine lv_iload_n hx hb dX0_findRoom_48 rfl (lv_at hl 1 rfl) ?_
    refine zr_Vi (w := fun z => wC n a ca z) (u := u) (u1 := (fc_wbd u j).2) (v := (fc_wbd u j).1) (As := [.int (nI j)]) (rest := []) ⟨hx, hb, hml, hown, hts⟩ (c_C_writeBackIfDirty l dC dI n a ca u H.size j hn (by omega) (hok _ (by omega))) (cwV 1 hts gX0_findRoom_X0_writeBackIfDirty rfl rfl rfl (by decide +kernel) ⟨Nat.le_of_ble_eq_true rfl, Nat.le_of_ble_eq_true rfl⟩) hK hP hD hS hA (va_recv (q0 := 0) (ci := 0) (q := (RX0, TX0, 13)) hK hP rfl rfl) rfl hl.1 rfl (Nat.le_of_ble_eq_true rfl) dX0_findRoom_49 (fun H locs hP hD hS => ?_) ⟨Nat.le_of_ble_eq_true rfl, Nat.le_of_ble_eq_true rfl⟩
    have hP : va_P (dC, dI) vwCl (wC n a ca ((fc_wbd u j).2)) H := hP
    have hD : va_D A (wC n a ca ((fc_wbd u j).2)) := hD
    refine lv_pop hx hb dX0_findRoom_52 rfl ?_
    refine lv_aload_n hx hb dX0_findRoom_53 rfl (lv_at hl 0 rfl) ?_
    refine lv_iload_n hx hb dX0_findRoom_54 rfl (lv_at hl 1 rfl) ?_
    refine zr_Vv (w := fun z => wC n a ca z) (u := ((fc_wbd u j).2)) (u1 := fc_empty ((fc_wbd u j).2) j) (As := [.int (nI j)]) (rest := []) ⟨hx, hb, hml, hown, hts⟩ (c_C_makeEmpty l dC dI n a ca ((fc_wbd u j).2) H.size j hn (by omega)) (cwV 1 hts gX0_findRoom_X0_makeEmpty rfl rfl rfl (by decide +kernel) ⟨Nat.le_of_ble_eq_true rfl, Nat.le_of_ble_eq_true rfl⟩) hK hP hD hS hA (va_recv (q0 := 0) (ci := 0) (q := (RX0, TX0, 13)) hK hP rfl rfl) rfl hl.1 rfl (Nat.le_of_ble_eq_true rfl) dX0_findRoom_55 (fun H locs hP hD hS => ?_) ⟨Nat.le_of_ble_eq_true rfl, Nat.le_of_ble_eq_true rfl⟩
    have hP : va_P (dC, dI) vwCl (wC n a ca (fc_empty ((fc_wbd u j).2) j)) H := hP
    have hD : va_D A (wC n a ca (fc_empty ((fc_wbd u j).2) j)) := hD
    refine lv_iload_n hx hb dX0_findRoom_58 rfl (lv_at hl 1 rfl) ?_
    exact W.iret (v := nI j) hx hb hr (fun t ht hW => ⟨⟨nI j, fc_empty ((fc_wbd u j).2) j, rfl, ⟨(by first | rfl | (rw [← hinv] <;> rfl) | (rw [← hinv]; simp only [fc_room] <;> rfl) | (simp only [fc_room]; rw [← hinv] <;> rfl) | (simp only [fc_room]; rw [← hinv]; simp only [fc_room] <;> rfl) | (simp only [fc_room] <;> rfl)), (by first | rfl | (rw [← hinv] <;> rfl) | (rw [← hinv]; simp only [fc_room] <;> rfl) | (simp only [fc_room]; rw [← hinv] <;> rfl) | (simp only [fc_room]; rw [← hinv]; simp only [fc_room] <;> rfl) | (simp only [fc_room] <;> rfl))⟩, ⟨by rw [ht]; exact hP, va_K.moved hW.alike hK, hD⟩⟩, hS.F ht⟩) hS.2.2 dX0_findRoom_59
  · have h1 := zr_lt (by omega) (by omega) h1
    obtain ⟨r', rfl⟩ : ∃ z, r = z + 1 := ⟨r - 1, by omega⟩
    refine lv_aload_n hx hb dX0_findRoom_12 rfl (lv_at hl 0 rfl) ?_
    refine va_get (D := (dC, dI)) (ci := 0) (v := .ref (a 3)) (C := RX0) (T := TX0) (N := 13) hx hb hts hin9 hown hK hP 0 rfl rfl 3 (by decide) (hts _ (List.mem_cons_of_mem _ mf_X0_20)) (fun _ h9 => h9) rfl dX0_findRoom_13 ?_
    refine lv_iload_n hx hb dX0_findRoom_16 rfl (lv_at hl 2 rfl) ?_
    refine zr_iald (k := k) hx hb hK hP 3 2 rfl rfl (by omega) (by omega) dX0_findRoom_17 ?_
    refine lv_iconst (v := (-1)) hx hb dX0_findRoom_18 (by decide) ?_
    refine lv_icmp_ne hx hb dX0_findRoom_19 (tgt := 24) rfl (fun h2 => ?_) (fun h2 => ?_)
    · refine lv_aload_n hx hb dX0_findRoom_24 rfl (lv_at hl 0 rfl) ?_
      refine va_get (D := (dC, dI)) (ci := 0) (v := .ref (a 5)) (C := RX0) (T := TX0) (N := 13) hx hb hts hin9 hown hK hP 0 rfl rfl 5 (by decide) (hts _ (List.mem_cons_of_mem _ mf_X0_27)) (fun _ h9 => h9) rfl dX0_findRoom_25 ?_
      refine lv_iload_n hx hb dX0_findRoom_28 rfl (lv_at hl 2 rfl) ?_
      refine zr_iald (k := k) hx hb hK hP 5 4 rfl rfl (by omega) (by omega) dX0_findRoom_29 ?_
      refine lv_aload_n hx hb dX0_findRoom_30 rfl (lv_at hl 0 rfl) ?_
      refine va_get (D := (dC, dI)) (ci := 0) (v := .ref (a 5)) (C := RX0) (T := TX0) (N := 13) hx hb hts hin9 hown hK hP 0 rfl rfl 5 (by decide) (hts _ (List.mem_cons_of_mem _ mf_X0_27)) (fun _ h9 => h9) rfl dX0_findRoom_31 ?_
      refine lv_iload_n hx hb dX0_findRoom_34 rfl (lv_at hl 1 rfl) ?_
      refine zr_iald (k := j) hx hb hK hP 5 4 rfl rfl (by omega) (by omega) dX0_findRoom_35 ?_
      refine lv_icmp_ge hx hb dX0_findRoom_36 (tgt := 41) rfl (fun h3 => ?_) (fun h3 => ?_)
      · refine lv_iinc (k := 2) (v := nI (k + 1)) hx hb dX0_findRoom_41 hl rfl (zr_incN k) (by decide) rfl (fun ls hl => ?_)
        have hl : lv_has ls 3 [(2, .int (nI (k + 1))), (0, .ref (a 0)), (1, .int (nI j))] := hl
        refine lv_goto hx hb dX0_findRoom_44 (tgt := 4) rfl ?_
        exact ih r' (k + 1, j) _ _ _ (by omega) ⟨by omega, (by rw [← hinv]; first | rfl | (simp only [fc_room, if_neg h2, if_pos h3] <;> rfl)), (by omega), lv_sub hl [1, 2, 0] rfl, hP, hD, hS⟩
      · refine lv_iload_n hx hb dX0_findRoom_39 rfl (lv_at hl 2 rfl) ?_
        refine lv_istore_n hx hb dX0_findRoom_40 rfl hl (by decide) rfl (fun ls hl => ?_)
        have hl : lv_has ls 3 [(1, .int (nI k)), (0, .ref (a 0)), (2, .int (nI k))] := hl
        refine lv_iinc (k := 2) (v := nI (k + 1)) hx hb dX0_findRoom_41 hl rfl (zr_incN k) (by decide) rfl (fun ls hl => ?_)
        have hl : lv_has ls 3 [(2, .int (nI (k + 1))), (1, .int (nI k)), (0, .ref (a 0))] := hl
        refine lv_goto hx hb dX0_findRoom_44 (tgt := 4) rfl ?_
        exact ih r' (k + 1, k) _ _ _ (by omega) ⟨by omega, (by rw [← hinv]; first | rfl | (simp only [fc_room, if_neg h2, if_neg h3] <;> rfl)), (by omega), lv_sub hl [2, 1, 0] rfl, hP, hD, hS⟩
    · refine lv_iload_n hx hb dX0_findRoom_22 rfl (lv_at hl 2 rfl) ?_
      exact W.iret (v := nI k) hx hb hr (fun t ht hW => ⟨⟨nI k, u, rfl, ⟨(by first | rfl | (rw [← hinv] <;> rfl) | (rw [← hinv]; simp only [fc_room, if_pos h2] <;> rfl) | (simp only [fc_room, if_pos h2]; rw [← hinv] <;> rfl) | (simp only [fc_room, if_pos h2]; rw [← hinv]; simp only [fc_room, if_pos h2] <;> rfl) | (simp only [fc_room, if_pos h2] <;> rfl)), (by first | rfl | (rw [← hinv] <;> rfl) | (rw [← hinv]; simp only [fc_room, if_pos h2] <;> rfl) | (simp only [fc_room, if_pos h2]; rw [← hinv] <;> rfl) | (simp only [fc_room, if_pos h2]; rw [← hinv]; simp only [fc_room, if_pos h2] <;> rfl) | (simp only [fc_room, if_pos h2] <;> rfl))⟩, ⟨by rw [ht]; exact hP, va_K.moved hW.alike hK, hD⟩⟩, hS.F ht⟩) hS.2.2 dX0_findRoom_23
set_option maxHeartbeats 4000000 in
set_option maxRecDepth 100000 in
theorem c_C_keepClean (l : Launch) (dC : Nat → ClassId) (dI : Nat → Nat → Nat) (n : Nat) (a : Nat → Nat) (ca : Nat → ClassId) (u : StC) (sz : Nat) (sl : Nat) (b : Nat) (hn : n ≤ 12) (hs : sl < n) (hb64 : b < 64) : Met l yX0_keepClean wsX0_keepClean ({ frames := 1, cells := 0, slots := 0, locals := 21 }) (va_Pc [.ref (a 0), .int (nI sl), .int (nI b)] (zr_P (dC, dI) vwCl (tC ca) (wC n a ca u) sz)) (va_Qv (fun u' => u' = fc_keep u sl b) (fun u' => zr_B (dC, dI) vwCl (tC ca) (va_A (wC n a ca u) sz) (wC n a ca u')) (va_A (wC n a ca u) sz)) 0 0 (va_A (wC n a ca u) sz) := by
  refine Met.ofW (cc := cX0_keepClean) (maxL := 3) (ret := none) (by decide) rfl ?_
  intro p e s m args below meth c s₁ B hml hv
  obtain ⟨rfl, hsz, hP, hK, hD0⟩ := hv
  have hx := B.exec
  have hb := B.bytes
  have hr := B.returns
  have hts := atoms_spec (ws := wsX0_keepClean) B.pre
  have hown : s.vm.findClass RX0 = some m.cls := findClass_of_methodNamed B.named
  have hlocks := B.notSynchronized
  subst hsz
  have hD := hD0.self (sz := s.heap.size)
  generalize hAe : va_A (wC n a ca u) s.heap.size = A at hD ⊢
  have hA : ∀ q : Nat, s.heap.size ≤ q → A q := fun q h => by rw [← hAe]; exact Or.inr h
  obtain ⟨H, hH, hP, hS⟩ : ∃ H, H = s.heap ∧ va_P (dC, dI) vwCl (wC n a ca u) H ∧ va_S A s.heap H [] := ⟨_, rfl, hP, va_S.rf⟩
  have hin9 : ∀ w ∈ u_ws RX0 TX0 13, w ∈ wsX0_keepClean := fun w h => List.mem_cons_of_mem _ (hinX0 w h)
  rw [← hH]
  have hl := lv_entry ([.ref (a 0), .int (nI sl), .int (nI b)]) (n := 3) (Nat.le_of_ble_eq_true rfl)
  rw [lg_entry_eq]
  generalize (lg_sl ([.ref (a 0), .int (nI sl), .int (nI b)]) ++ List.replicate (3 - (lg_sl ([.ref (a 0), .int (nI sl), .int (nI b)])).length) Slot.unset).toArray = ls at hl ⊢
  have hl : lv_has ls 3 [(0, .ref (a 0)), (1, .int (nI sl)), (2, .int (nI b))] := hl
  refine lv_aload_n hx hb dX0_keepClean_0 rfl (lv_at hl 0 rfl) ?_
  refine va_get (D := (dC, dI)) (ci := 0) (v := .ref (a 3)) (C := RX0) (T := TX0) (N := 13) hx hb hts hin9 hown hK hP 0 rfl rfl 3 (by decide) (hts _ (List.mem_cons_of_mem _ mf_X0_20)) (fun _ h9 => h9) rfl dX0_keepClean_1 ?_
  refine lv_iload_n hx hb dX0_keepClean_4 rfl (lv_at hl 1 rfl) ?_
  refine lv_iload_n hx hb dX0_keepClean_5 rfl (lv_at hl 2 rfl) ?_
  refine zr_Si (v := (2 * (nI b))) (As := [.int (nI b)]) (rest := [.int (nI sl), .ref (a 3)]) ⟨hx, hb, hml, hown, hts⟩ (c_C_cleanForm l H.size (nI b)) (va_cwS 1 hts gX0_keepClean_X0_cleanForm rfl rfl rfl (by decide +kernel) ⟨Nat.le_of_ble_eq_true rfl, Nat.le_of_ble_eq_true rfl⟩) hP hS hA rfl hl.1 rfl (Nat.le_of_ble_eq_true rfl) dX0_keepClean_6 (fun H locs hP hS => ?_) ⟨Nat.le_of_ble_eq_true rfl, Nat.le_of_ble_eq_true rfl⟩
  refine zr_iast (k := sl) hx hb hK hP hD hS 3 2 rfl rfl (by omega) (by omega) dX0_keepClean_9 (fun H locs hP hD hS => ?_)
  have hP : va_P (dC, dI) vwCl (wC n a ca (cs_o u, cs_v u, upd (cs_k u) sl (2 * (nI b)), cs_n u, cs_l u, cs_u u, cs_m u, cs_h u, cs_i u, cs_j u, cs_w u, cs_t u)) H := hP
  have hD : va_D A (wC n a ca (cs_o u, cs_v u, upd (cs_k u) sl (2 * (nI b)), cs_n u, cs_l u, cs_u u, cs_m u, cs_h u, cs_i u, cs_j u, cs_w u, cs_t u)) := hD
  refine lv_aload_n hx hb dX0_keepClean_10 rfl (lv_at hl 0 rfl) ?_
  refine va_get (D := (dC, dI)) (ci := 0) (v := .ref (a 2)) (C := RX0) (T := TX0) (N := 13) hx hb hts hin9 hown hK hP 0 rfl rfl 2 (by decide) (hts _ (List.mem_cons_of_mem _ mf_X0_17)) (fun _ h9 => h9) rfl dX0_keepClean_11 ?_
  refine lv_iload_n hx hb dX0_keepClean_14 rfl (lv_at hl 1 rfl) ?_
  refine lv_aload_n hx hb dX0_keepClean_15 rfl (lv_at hl 0 rfl) ?_
  refine va_get (D := (dC, dI)) (ci := 0) (v := .ref (a 1)) (C := RX0) (T := TX0) (N := 13) hx hb hts hin9 hown hK hP 0 rfl rfl 1 (by decide) (hts _ (List.mem_cons_of_mem _ mf_X0_13)) (fun _ h9 => h9) rfl dX0_keepClean_16 ?_
  refine lv_iload_n hx hb dX0_keepClean_19 rfl (lv_at hl 2 rfl) ?_
  refine zr_lald (k := b) hx hb hK hP 1 0 rfl rfl (by omega) (by omega) dX0_keepClean_20 ?_
  refine zr_last (k := sl) hx hb hK hP hD hS 2 1 rfl rfl (by omega) (by omega) dX0_keepClean_21 (fun H locs hP hD hS => ?_)
  have hP : va_P (dC, dI) vwCl (wC n a ca (cs_o u, vp_updL (cs_v u) sl (cs_o u b), upd (cs_k u) sl (2 * (nI b)), cs_n u, cs_l u, cs_u u, cs_m u, cs_h u, cs_i u, cs_j u, cs_w u, cs_t u)) H := hP
  have hD : va_D A (wC n a ca (cs_o u, vp_updL (cs_v u) sl (cs_o u b), upd (cs_k u) sl (2 * (nI b)), cs_n u, cs_l u, cs_u u, cs_m u, cs_h u, cs_i u, cs_j u, cs_w u, cs_t u)) := hD
  refine lv_aload_n hx hb dX0_keepClean_22 rfl (lv_at hl 0 rfl) ?_
  refine lv_iload_n hx hb dX0_keepClean_23 rfl (lv_at hl 1 rfl) ?_
  refine zr_Vv (w := fun z => wC n a ca z) (u := (cs_o u, vp_updL (cs_v u) sl (cs_o u b), upd (cs_k u) sl (2 * (nI b)), cs_n u, cs_l u, cs_u u, cs_m u, cs_h u, cs_i u, cs_j u, cs_w u, cs_t u)) (u1 := fc_use (cs_o u, vp_updL (cs_v u) sl (cs_o u b), upd (cs_k u) sl (2 * (nI b)), cs_n u, cs_l u, cs_u u, cs_m u, cs_h u, cs_i u, cs_j u, cs_w u, cs_t u) sl) (As := [.int (nI sl)]) (rest := []) ⟨hx, hb, hml, hown, hts⟩ (c_C_useSlot l dC dI n a ca (cs_o u, vp_updL (cs_v u) sl (cs_o u b), upd (cs_k u) sl (2 * (nI b)), cs_n u, cs_l u, cs_u u, cs_m u, cs_h u, cs_i u, cs_j u, cs_w u, cs_t u) H.size sl hn (by omega)) (cwV 1 hts gX0_keepClean_X0_useSlot rfl rfl rfl (by decide +kernel) ⟨Nat.le_of_ble_eq_true rfl, Nat.le_of_ble_eq_true rfl⟩) hK hP hD hS hA (va_recv (q0 := 0) (ci := 0) (q := (RX0, TX0, 13)) hK hP rfl rfl) rfl hl.1 rfl (Nat.le_of_ble_eq_true rfl) dX0_keepClean_24 (fun H locs hP hD hS => ?_) ⟨Nat.le_of_ble_eq_true rfl, Nat.le_of_ble_eq_true rfl⟩
  have hP : va_P (dC, dI) vwCl (wC n a ca (fc_use (cs_o u, vp_updL (cs_v u) sl (cs_o u b), upd (cs_k u) sl (2 * (nI b)), cs_n u, cs_l u, cs_u u, cs_m u, cs_h u, cs_i u, cs_j u, cs_w u, cs_t u) sl)) H := hP
  have hD : va_D A (wC n a ca (fc_use (cs_o u, vp_updL (cs_v u) sl (cs_o u b), upd (cs_k u) sl (2 * (nI b)), cs_n u, cs_l u, cs_u u, cs_m u, cs_h u, cs_i u, cs_j u, cs_w u, cs_t u) sl)) := hD
  exact W.vret hx hb hr (fun t ht hW => ⟨⟨fc_use (cs_o u, vp_updL (cs_v u) sl (cs_o u b), upd (cs_k u) sl (2 * (nI b)), cs_n u, cs_l u, cs_u u, cs_m u, cs_h u, cs_i u, cs_j u, cs_w u, cs_t u) sl, rfl, (by first | rfl | (simp only [fc_keep, fc_setk, fc_setv] <;> rfl)), ⟨by rw [ht]; exact hP, va_K.moved hW.alike hK, hD⟩⟩, hS.F ht⟩) hS.2.2 dX0_keepClean_27
