set_option maxHeartbeats 4000000 in
set_option maxRecDepth 100000 in
theorem c_C_writeThrough (l : Launch) (dC : Nat → ClassId) (dI : Nat → Nat → Nat) (n : Nat) (a : Nat → Nat) (ca : Nat → ClassId) (u : StC) (sz : Nat) (b : Nat) (v : Int64) (hn : n ≤ 12) (hb64 : b < 64) : Met l yX0_writeThrough wsX0_writeThrough ({ frames := 2, cells := 0, slots := 0, locals := 42 }) (va_Pc [.ref (a 0), .int (nI b), .long v] (zr_P (dC, dI) vwCl (tC ca) (wC n a ca u) sz)) (va_Qv (fun u' => u' = fc_thru n u b v) (fun u' => zr_B (dC, dI) vwCl (tC ca) (va_A (wC n a ca u) sz) (wC n a ca u')) (va_A (wC n a ca u) sz)) 0 0 (va_A (wC n a ca u) sz) := by
  refine Met.ofW (cc := cX0_writeThrough) (maxL := 5) (ret := none) (by decide) rfl ?_
  intro p e s m args below meth c s₁ B hml hv
  obtain ⟨rfl, hsz, hP, hK, hD0⟩ := hv
  have hx := B.exec
  have hb := B.bytes
  have hr := B.returns
  have hts := atoms_spec (ws := wsX0_writeThrough) B.pre
  have hown : s.vm.findClass RX0 = some m.cls := findClass_of_methodNamed B.named
  have hlocks := B.notSynchronized
  subst hsz
  have hD := hD0.self (sz := s.heap.size)
  generalize hAe : va_A (wC n a ca u) s.heap.size = A at hD ⊢
  have hA : ∀ q : Nat, s.heap.size ≤ q → A q := fun q h => by rw [← hAe]; exact Or.inr h
  obtain ⟨H, hH, hP, hS⟩ : ∃ H, H = s.heap ∧ va_P (dC, dI) vwCl (wC n a ca u) H ∧ va_S A s.heap H [] := ⟨_, rfl, hP, va_S.rf⟩
  have hin9 : ∀ w ∈ u_ws RX0 TX0 13, w ∈ wsX0_writeThrough := fun w h => List.mem_cons_of_mem _ (hinX0 w h)
  rw [← hH]
  have hl := lv_entry ([.ref (a 0), .int (nI b), .long v]) (n := 5) (Nat.le_of_ble_eq_true rfl)
  rw [lg_entry_eq]
  generalize (lg_sl ([.ref (a 0), .int (nI b), .long v]) ++ List.replicate (5 - (lg_sl ([.ref (a 0), .int (nI b), .long v])).length) Slot.unset).toArray = ls at hl ⊢
  have hl : lv_has ls 5 [(0, .ref (a 0)), (1, .int (nI b)), (2, .long v)] := hl
  refine lv_aload_n hx hb dX0_writeThrough_0 rfl (lv_at hl 0 rfl) ?_
  refine lv_iload_n hx hb dX0_writeThrough_1 rfl (lv_at hl 1 rfl) ?_
  refine lv_lload_n hx hb dX0_writeThrough_2 rfl (lv_at hl 2 rfl) ?_
  refine zr_Vv (w := fun z => wC n a ca z) (u := u) (u1 := fc_give u b v) (As := [.int (nI b), .long v]) (rest := []) ⟨hx, hb, hml, hown, hts⟩ (c_C_giveOrigin l dC dI n a ca u H.size b v (by omega)) (cwV 2 hts gX0_writeThrough_X0_giveOrigin rfl rfl rfl (by decide +kernel) ⟨Nat.le_of_ble_eq_true rfl, Nat.le_of_ble_eq_true rfl⟩) hK hP hD hS hA (va_recv (q0 := 0) (ci := 0) (q := (RX0, TX0, 13)) hK hP rfl rfl) rfl hl.1 rfl (Nat.le_of_ble_eq_true rfl) dX0_writeThrough_3 (fun H locs hP hD hS => ?_) ⟨Nat.le_of_ble_eq_true rfl, Nat.le_of_ble_eq_true rfl⟩
  have hP : va_P (dC, dI) vwCl (wC n a ca (fc_give u b v)) H := hP
  have hD : va_D A (wC n a ca (fc_give u b v)) := hD
  refine lv_aload_n hx hb dX0_writeThrough_6 rfl (lv_at hl 0 rfl) ?_
  refine lv_iload_n hx hb dX0_writeThrough_7 rfl (lv_at hl 1 rfl) ?_
  refine zr_Vi (w := fun z => wC n a ca z) (u := (fc_give u b v)) (u1 := (fc_give u b v)) (v := fc_enc (fc_find (cs_k (fc_give u b v)) b n 0)) (As := [.int (nI b)]) (rest := []) ⟨hx, hb, hml, hown, hts⟩ (c_C_slotWith l dC dI n a ca (fc_give u b v) H.size b hn) (cwV 1 hts gX0_writeThrough_X0_slotWith rfl rfl rfl (by decide +kernel) ⟨Nat.le_of_ble_eq_true rfl, Nat.le_of_ble_eq_true rfl⟩) hK hP hD hS hA (va_recv (q0 := 0) (ci := 0) (q := (RX0, TX0, 13)) hK hP rfl rfl) rfl hl.1 rfl (Nat.le_of_ble_eq_true rfl) dX0_writeThrough_8 (fun H locs hP hD hS => ?_) ⟨Nat.le_of_ble_eq_true rfl, Nat.le_of_ble_eq_true rfl⟩
  have hP : va_P (dC, dI) vwCl (wC n a ca (fc_give u b v)) H := hP
  have hD : va_D A (wC n a ca (fc_give u b v)) := hD
  rcases hf1 : fc_find (cs_k (fc_give u b v)) b n 0 with _ | j2
  · have hf1 : fc_find (cs_k u) b n 0 = none := hf1
    refine W.eq (g2 := F0 m 11 ls [.int (-1)]) rfl ?_
    refine lv_istore hx hb dX0_writeThrough_11 hl (by decide) rfl (fun ls hl => ?_)
    have hl : lv_has ls 5 [(4, .int (-1)), (0, .ref (a 0)), (1, .int (nI b)), (2, .long v)] := hl
    refine lv_iload hx hb dX0_writeThrough_13 (lv_at hl 0 rfl) ?_
    refine lv_iconst (v := (-1)) hx hb dX0_writeThrough_15 (by decide) ?_
    refine lv_icmp_eq hx hb dX0_writeThrough_16 (tgt := 39) rfl (fun _ => ?_) (fun h => absurd (by decide) h)
    exact W.vret hx hb hr (fun t ht hW => ⟨⟨fc_give u b v, rfl, (by first | rfl | (simp only [fc_thru, fc_setv, hf1] <;> rfl)), ⟨by rw [ht]; exact hP, va_K.moved hW.alike hK, hD⟩⟩, hS.F ht⟩) hS.2.2 dX0_writeThrough_39
  · have hj2 := fc_find_lt hf1
    have hf1 : fc_find (cs_k u) b n 0 = some j2 := hf1
    refine W.eq (g2 := F0 m 11 ls [.int (nI j2)]) rfl ?_
    refine lv_istore hx hb dX0_writeThrough_11 hl (by decide) rfl (fun ls hl => ?_)
    have hl : lv_has ls 5 [(4, .int (nI j2)), (0, .ref (a 0)), (1, .int (nI b)), (2, .long v)] := hl
    refine lv_iload hx hb dX0_writeThrough_13 (lv_at hl 0 rfl) ?_
    refine lv_iconst (v := (-1)) hx hb dX0_writeThrough_15 (by decide) ?_
    refine lv_icmp_eq hx hb dX0_writeThrough_16 (tgt := 39) rfl (fun h => absurd h (zr_nem (by omega))) (fun _ => ?_)
    refine lv_aload_n hx hb dX0_writeThrough_19 rfl (lv_at hl 1 rfl) ?_
    refine va_get (D := (dC, dI)) (ci := 0) (v := .ref (a 2)) (C := RX0) (T := TX0) (N := 13) hx hb hts hin9 hown hK hP 0 rfl rfl 2 (by decide) (hts _ (List.mem_cons_of_mem _ mf_X0_17)) (fun _ h9 => h9) rfl dX0_writeThrough_20 ?_
    refine lv_iload hx hb dX0_writeThrough_23 (lv_at hl 0 rfl) ?_
    refine lv_lload_n hx hb dX0_writeThrough_25 rfl (lv_at hl 3 rfl) ?_
    refine zr_last (k := j2) hx hb hK hP hD hS 2 1 rfl rfl (by omega) (by omega) dX0_writeThrough_26 (fun H locs hP hD hS => ?_)
    have hP : va_P (dC, dI) vwCl (wC n a ca (cs_o (fc_give u b v), vp_updL (cs_v (fc_give u b v)) j2 v, cs_k (fc_give u b v), cs_n (fc_give u b v), cs_l (fc_give u b v), cs_u (fc_give u b v), cs_m (fc_give u b v), cs_h (fc_give u b v), cs_i (fc_give u b v), cs_j (fc_give u b v), cs_w (fc_give u b v), cs_t (fc_give u b v))) H := hP
    have hD : va_D A (wC n a ca (cs_o (fc_give u b v), vp_updL (cs_v (fc_give u b v)) j2 v, cs_k (fc_give u b v), cs_n (fc_give u b v), cs_l (fc_give u b v), cs_u (fc_give u b v), cs_m (fc_give u b v), cs_h (fc_give u b v), cs_i (fc_give u b v), cs_j (fc_give u b v), cs_w (fc_give u b v), cs_t (fc_give u b v))) := hD
    refine lv_aload_n hx hb dX0_writeThrough_27 rfl (lv_at hl 1 rfl) ?_
    refine lv_iload hx hb dX0_writeThrough_28 (lv_at hl 0 rfl) ?_
    refine zr_Vv (w := fun z => wC n a ca z) (u := (cs_o (fc_give u b v), vp_updL (cs_v (fc_give u b v)) j2 v, cs_k (fc_give u b v), cs_n (fc_give u b v), cs_l (fc_give u b v), cs_u (fc_give u b v), cs_m (fc_give u b v), cs_h (fc_give u b v), cs_i (fc_give u b v), cs_j (fc_give u b v), cs_w (fc_give u b v), cs_t (fc_give u b v))) (u1 := fc_clean (cs_o (fc_give u b v), vp_updL (cs_v (fc_give u b v)) j2 v, cs_k (fc_give u b v), cs_n (fc_give u b v), cs_l (fc_give u b v), cs_u (fc_give u b v), cs_m (fc_give u b v), cs_h (fc_give u b v), cs_i (fc_give u b v), cs_j (fc_give u b v), cs_w (fc_give u b v), cs_t (fc_give u b v)) j2) (As := [.int (nI j2)]) (rest := []) ⟨hx, hb, hml, hown, hts⟩ (c_C_makeClean l dC dI n a ca (cs_o (fc_give u b v), vp_updL (cs_v (fc_give u b v)) j2 v, cs_k (fc_give u b v), cs_n (fc_give u b v), cs_l (fc_give u b v), cs_u (fc_give u b v), cs_m (fc_give u b v), cs_h (fc_give u b v), cs_i (fc_give u b v), cs_j (fc_give u b v), cs_w (fc_give u b v), cs_t (fc_give u b v)) H.size j2 hn (by omega)) (cwV 1 hts gX0_writeThrough_X0_makeClean rfl rfl rfl (by decide +kernel) ⟨Nat.le_of_ble_eq_true rfl, Nat.le_of_ble_eq_true rfl⟩) hK hP hD hS hA (va_recv (q0 := 0) (ci := 0) (q := (RX0, TX0, 13)) hK hP rfl rfl) rfl hl.1 rfl (Nat.le_of_ble_eq_true rfl) dX0_writeThrough_30 (fun H locs hP hD hS => ?_) ⟨Nat.le_of_ble_eq_true rfl, Nat.le_of_ble_eq_true rfl⟩
    have hP : va_P (dC, dI) vwCl (wC n a ca (fc_clean (cs_o (fc_give u b v), vp_updL (cs_v (fc_give u b v)) j2 v, cs_k (fc_give u b v), cs_n (fc_give u b v), cs_l (fc_give u b v), cs_u (fc_give u b v), cs_m (fc_give u b v), cs_h (fc_give u b v), cs_i (fc_give u b v), cs_j (fc_give u b v), cs_w (fc_give u b v), cs_t (fc_give u b v)) j2)) H := hP
    have hD : va_D A (wC n a ca (fc_clean (cs_o (fc_give u b v), vp_updL (cs_v (fc_give u b v)) j2 v, cs_k (fc_give u b v), cs_n (fc_give u b v), cs_l (fc_give u b v), cs_u (fc_give u b v), cs_m (fc_give u b v), cs_h (fc_give u b v), cs_i (fc_give u b v), cs_j (fc_give u b v), cs_w (fc_give u b v), cs_t (fc_give u b v)) j2)) := hD
    refine lv_aload_n hx hb dX0_writeThrough_33 rfl (lv_at hl 1 rfl) ?_
    refine lv_iload hx hb dX0_writeThrough_34 (lv_at hl 0 rfl) ?_
    refine zr_Vv (w := fun z => wC n a ca z) (u := (fc_clean (cs_o (fc_give u b v), vp_updL (cs_v (fc_give u b v)) j2 v, cs_k (fc_give u b v), cs_n (fc_give u b v), cs_l (fc_give u b v), cs_u (fc_give u b v), cs_m (fc_give u b v), cs_h (fc_give u b v), cs_i (fc_give u b v), cs_j (fc_give u b v), cs_w (fc_give u b v), cs_t (fc_give u b v)) j2)) (u1 := fc_use (fc_clean (cs_o (fc_give u b v), vp_updL (cs_v (fc_give u b v)) j2 v, cs_k (fc_give u b v), cs_n (fc_give u b v), cs_l (fc_give u b v), cs_u (fc_give u b v), cs_m (fc_give u b v), cs_h (fc_give u b v), cs_i (fc_give u b v), cs_j (fc_give u b v), cs_w (fc_give u b v), cs_t (fc_give u b v)) j2) j2) (As := [.int (nI j2)]) (rest := []) ⟨hx, hb, hml, hown, hts⟩ (c_C_useSlot l dC dI n a ca (fc_clean (cs_o (fc_give u b v), vp_updL (cs_v (fc_give u b v)) j2 v, cs_k (fc_give u b v), cs_n (fc_give u b v), cs_l (fc_give u b v), cs_u (fc_give u b v), cs_m (fc_give u b v), cs_h (fc_give u b v), cs_i (fc_give u b v), cs_j (fc_give u b v), cs_w (fc_give u b v), cs_t (fc_give u b v)) j2) H.size j2 hn (by omega)) (cwV 1 hts gX0_writeThrough_X0_useSlot rfl rfl rfl (by decide +kernel) ⟨Nat.le_of_ble_eq_true rfl, Nat.le_of_ble_eq_true rfl⟩) hK hP hD hS hA (va_recv (q0 := 0) (ci := 0) (q := (RX0, TX0, 13)) hK hP rfl rfl) rfl hl.1 rfl (Nat.le_of_ble_eq_true rfl) dX0_writeThrough_36 (fun H locs hP hD hS => ?_) ⟨Nat.le_of_ble_eq_true rfl, Nat.le_of_ble_eq_true rfl⟩
    have hP : va_P (dC, dI) vwCl (wC n a ca (fc_use (fc_clean (cs_o (fc_give u b v), vp_updL (cs_v (fc_give u b v)) j2 v, cs_k (fc_give u b v), cs_n (fc_give u b v), cs_l (fc_give u b v), cs_u (fc_give u b v), cs_m (fc_give u b v), cs_h (fc_give u b v), cs_i (fc_give u b v), cs_j (fc_give u b v), cs_w (fc_give u b v), cs_t (fc_give u b v)) j2) j2)) H := hP
    have hD : va_D A (wC n a ca (fc_use (fc_clean (cs_o (fc_give u b v), vp_updL (cs_v (fc_give u b v)) j2 v, cs_k (fc_give u b v), cs_n (fc_give u b v), cs_l (fc_give u b v), cs_u (fc_give u b v), cs_m (fc_give u b v), cs_h (fc_give u b v), cs_i (fc_give u b v), cs_j (fc_give u b v), cs_w (fc_give u b v), cs_t (fc_give u b v)) j2) j2)) := hD
    exact W.vret hx hb hr (fun t ht hW => ⟨⟨fc_use (fc_clean (cs_o (fc_give u b v), vp_updL (cs_v (fc_give u b v)) j2 v, cs_k (fc_give u b v), cs_n (fc_give u b v), cs_l (fc_give u b v), cs_u (fc_give u b v), cs_m (fc_give u b v), cs_h (fc_give u b v), cs_i (fc_give u b v), cs_j (fc_give u b v), cs_w (fc_give u b v), cs_t (fc_give u b v)) j2) j2, rfl, (by first | rfl | (simp only [fc_thru, fc_setv, hf1] <;> rfl)), ⟨by rw [ht]; exact hP, va_K.moved hW.alike hK, hD⟩⟩, hS.F ht⟩) hS.2.2 dX0_writeThrough_39
set_option maxHeartbeats 4000000 in
set_option maxRecDepth 100000 in
theorem c_C_writePast (l : Launch) (dC : Nat → ClassId) (dI : Nat → Nat → Nat) (n : Nat) (a : Nat → Nat) (ca : Nat → ClassId) (u : StC) (sz : Nat) (b : Nat) (v : Int64) (hn : n ≤ 12) (hb64 : b < 64) : Met l yX0_writePast wsX0_writePast ({ frames := 2, cells := 0, slots := 0, locals := 42 }) (va_Pc [.ref (a 0), .int (nI b), .long v] (zr_P (dC, dI) vwCl (tC ca) (wC n a ca u) sz)) (va_Qv (fun u' => u' = fc_past n u b v) (fun u' => zr_B (dC, dI) vwCl (tC ca) (va_A (wC n a ca u) sz) (wC n a ca u')) (va_A (wC n a ca u) sz)) 0 0 (va_A (wC n a ca u) sz) := by
  refine Met.ofW (cc := cX0_writePast) (maxL := 5) (ret := none) (by decide) rfl ?_
  intro p e s m args below meth c s₁ B hml hv
  obtain ⟨rfl, hsz, hP, hK, hD0⟩ := hv
  have hx := B.exec
  have hb := B.bytes
  have hr := B.returns
  have hts := atoms_spec (ws := wsX0_writePast) B.pre
  have hown : s.vm.findClass RX0 = some m.cls := findClass_of_methodNamed B.named
  have hlocks := B.notSynchronized
  subst hsz
  have hD := hD0.self (sz := s.heap.size)
  generalize hAe : va_A (wC n a ca u) s.heap.size = A at hD ⊢
  have hA : ∀ q : Nat, s.heap.size ≤ q → A q := fun q h => by rw [← hAe]; exact Or.inr h
  obtain ⟨H, hH, hP, hS⟩ : ∃ H, H = s.heap ∧ va_P (dC, dI) vwCl (wC n a ca u) H ∧ va_S A s.heap H [] := ⟨_, rfl, hP, va_S.rf⟩
  rw [← hH]
  have hl := lv_entry ([.ref (a 0), .int (nI b), .long v]) (n := 5) (Nat.le_of_ble_eq_true rfl)
  rw [lg_entry_eq]
  generalize (lg_sl ([.ref (a 0), .int (nI b), .long v]) ++ List.replicate (5 - (lg_sl ([.ref (a 0), .int (nI b), .long v])).length) Slot.unset).toArray = ls at hl ⊢
  have hl : lv_has ls 5 [(0, .ref (a 0)), (1, .int (nI b)), (2, .long v)] := hl
  refine lv_aload_n hx hb dX0_writePast_0 rfl (lv_at hl 0 rfl) ?_
  refine lv_iload_n hx hb dX0_writePast_1 rfl (lv_at hl 1 rfl) ?_
  refine lv_lload_n hx hb dX0_writePast_2 rfl (lv_at hl 2 rfl) ?_
  refine zr_Vv (w := fun z => wC n a ca z) (u := u) (u1 := fc_give u b v) (As := [.int (nI b), .long v]) (rest := []) ⟨hx, hb, hml, hown, hts⟩ (c_C_giveOrigin l dC dI n a ca u H.size b v (by omega)) (cwV 2 hts gX0_writePast_X0_giveOrigin rfl rfl rfl (by decide +kernel) ⟨Nat.le_of_ble_eq_true rfl, Nat.le_of_ble_eq_true rfl⟩) hK hP hD hS hA (va_recv (q0 := 0) (ci := 0) (q := (RX0, TX0, 13)) hK hP rfl rfl) rfl hl.1 rfl (Nat.le_of_ble_eq_true rfl) dX0_writePast_3 (fun H locs hP hD hS => ?_) ⟨Nat.le_of_ble_eq_true rfl, Nat.le_of_ble_eq_true rfl⟩
  have hP : va_P (dC, dI) vwCl (wC n a ca (fc_give u b v)) H := hP
  have hD : va_D A (wC n a ca (fc_give u b v)) := hD
  refine lv_aload_n hx hb dX0_writePast_6 rfl (lv_at hl 0 rfl) ?_
  refine lv_iload_n hx hb dX0_writePast_7 rfl (lv_at hl 1 rfl) ?_
  refine zr_Vi (w := fun z => wC n a ca z) (u := (fc_give u b v)) (u1 := (fc_give u b v)) (v := fc_enc (fc_find (cs_k (fc_give u b v)) b n 0)) (As := [.int (nI b)]) (rest := []) ⟨hx, hb, hml, hown, hts⟩ (c_C_slotWith l dC dI n a ca (fc_give u b v) H.size b hn) (cwV 1 hts gX0_writePast_X0_slotWith rfl rfl rfl (by decide +kernel) ⟨Nat.le_of_ble_eq_true rfl, Nat.le_of_ble_eq_true rfl⟩) hK hP hD hS hA (va_recv (q0 := 0) (ci := 0) (q := (RX0, TX0, 13)) hK hP rfl rfl) rfl hl.1 rfl (Nat.le_of_ble_eq_true rfl) dX0_writePast_8 (fun H locs hP hD hS => ?_) ⟨Nat.le_of_ble_eq_true rfl, Nat.le_of_ble_eq_true rfl⟩
  have hP : va_P (dC, dI) vwCl (wC n a ca (fc_give u b v)) H := hP
  have hD : va_D A (wC n a ca (fc_give u b v)) := hD
  rcases hf1 : fc_find (cs_k (fc_give u b v)) b n 0 with _ | j2
  · have hf1 : fc_find (cs_k u) b n 0 = none := hf1
    refine W.eq (g2 := F0 m 11 ls [.int (-1)]) rfl ?_
    refine lv_istore hx hb dX0_writePast_11 hl (by decide) rfl (fun ls hl => ?_)
    have hl : lv_has ls 5 [(4, .int (-1)), (0, .ref (a 0)), (1, .int (nI b)), (2, .long v)] := hl
    refine lv_iload hx hb dX0_writePast_13 (lv_at hl 0 rfl) ?_
    refine lv_iconst (v := (-1)) hx hb dX0_writePast_15 (by decide) ?_
    refine lv_icmp_eq hx hb dX0_writePast_16 (tgt := 25) rfl (fun _ => ?_) (fun h => absurd (by decide) h)
    exact W.vret hx hb hr (fun t ht hW => ⟨⟨fc_give u b v, rfl, (by first | rfl | (simp only [fc_past, hf1] <;> rfl)), ⟨by rw [ht]; exact hP, va_K.moved hW.alike hK, hD⟩⟩, hS.F ht⟩) hS.2.2 dX0_writePast_25
  · have hj2 := fc_find_lt hf1
    have hf1 : fc_find (cs_k u) b n 0 = some j2 := hf1
    refine W.eq (g2 := F0 m 11 ls [.int (nI j2)]) rfl ?_
    refine lv_istore hx hb dX0_writePast_11 hl (by decide) rfl (fun ls hl => ?_)
    have hl : lv_has ls 5 [(4, .int (nI j2)), (0, .ref (a 0)), (1, .int (nI b)), (2, .long v)] := hl
    refine lv_iload hx hb dX0_writePast_13 (lv_at hl 0 rfl) ?_
    refine lv_iconst (v := (-1)) hx hb dX0_writePast_15 (by decide) ?_
    refine lv_icmp_eq hx hb dX0_writePast_16 (tgt := 25) rfl (fun h => absurd h (zr_nem (by omega))) (fun _ => ?_)
    refine lv_aload_n hx hb dX0_writePast_19 rfl (lv_at hl 1 rfl) ?_
    refine lv_iload hx hb dX0_writePast_20 (lv_at hl 0 rfl) ?_
    refine zr_Vv (w := fun z => wC n a ca z) (u := (fc_give u b v)) (u1 := fc_empty (fc_give u b v) j2) (As := [.int (nI j2)]) (rest := []) ⟨hx, hb, hml, hown, hts⟩ (c_C_makeEmpty l dC dI n a ca (fc_give u b v) H.size j2 hn (by omega)) (cwV 1 hts gX0_writePast_X0_makeEmpty rfl rfl rfl (by decide +kernel) ⟨Nat.le_of_ble_eq_true rfl, Nat.le_of_ble_eq_true rfl⟩) hK hP hD hS hA (va_recv (q0 := 0) (ci := 0) (q := (RX0, TX0, 13)) hK hP rfl rfl) rfl hl.1 rfl (Nat.le_of_ble_eq_true rfl) dX0_writePast_22 (fun H locs hP hD hS => ?_) ⟨Nat.le_of_ble_eq_true rfl, Nat.le_of_ble_eq_true rfl⟩
    have hP : va_P (dC, dI) vwCl (wC n a ca (fc_empty (fc_give u b v) j2)) H := hP
    have hD : va_D A (wC n a ca (fc_empty (fc_give u b v) j2)) := hD
    exact W.vret hx hb hr (fun t ht hW => ⟨⟨fc_empty (fc_give u b v) j2, rfl, (by first | rfl | (simp only [fc_past, hf1] <;> rfl)), ⟨by rw [ht]; exact hP, va_K.moved hW.alike hK, hD⟩⟩, hS.F ht⟩) hS.2.2 dX0_writePast_25
set_option maxHeartbeats 4000000 in
set_option maxRecDepth 100000 in
theorem c_C_fillInSteps (l : Launch) (dC : Nat → ClassId) (dI : Nat → Nat → Nat) (n : Nat) (a : Nat → Nat) (ca : Nat → ClassId) (u : StC) (sz : Nat) (sl : Nat) (b : Nat) (v : Int64) (q : Int32) (hn : n ≤ 12) (hs : sl < n) : Met l yX0_fillInSteps wsX0_fillInSteps ({ frames := 1, cells := 0, slots := 0, locals := 21 }) (va_Pc [.ref (a 0), .int (nI sl), .int (nI b), .long v, .int q] (zr_P (dC, dI) vwCl (tC ca) (wC n a ca u) sz)) (va_Qi (fun r u' => r = (fc_fill u sl b v q).1 ∧ u' = (fc_fill u sl b v q).2) (fun u' => zr_B (dC, dI) vwCl (tC ca) (va_A (wC n a ca u) sz) (wC n a ca u')) (va_A (wC n a ca u) sz)) 0 0 (va_A (wC n a ca u) sz) := by
  refine Met.ofW (cc := cX0_fillInSteps) (maxL := 6) (ret := (some .int)) (by decide) rfl ?_
  intro p e s m args below meth c s₁ B hml hv
  obtain ⟨rfl, hsz, hP, hK, hD0⟩ := hv
  have hx := B.exec
  have hb := B.bytes
  have hr := B.returns
  have hts := atoms_spec (ws := wsX0_fillInSteps) B.pre
  have hown : s.vm.findClass RX0 = some m.cls := findClass_of_methodNamed B.named
  have hlocks := B.notSynchronized
  subst hsz
  have hD := hD0.self (sz := s.heap.size)
  generalize hAe : va_A (wC n a ca u) s.heap.size = A at hD ⊢
  have hA : ∀ q : Nat, s.heap.size ≤ q → A q := fun q h => by rw [← hAe]; exact Or.inr h
  obtain ⟨H, hH, hP, hS⟩ : ∃ H, H = s.heap ∧ va_P (dC, dI) vwCl (wC n a ca u) H ∧ va_S A s.heap H [] := ⟨_, rfl, hP, va_S.rf⟩
  have hin9 : ∀ w ∈ u_ws RX0 TX0 13, w ∈ wsX0_fillInSteps := fun w h => List.mem_cons_of_mem _ (hinX0 w h)
  rw [← hH]
  have hl := lv_entry ([.ref (a 0), .int (nI sl), .int (nI b), .long v, .int q]) (n := 6) (Nat.le_of_ble_eq_true rfl)
  rw [lg_entry_eq]
  generalize (lg_sl ([.ref (a 0), .int (nI sl), .int (nI b), .long v, .int q]) ++ List.replicate (6 - (lg_sl ([.ref (a 0), .int (nI sl), .int (nI b), .long v, .int q])).length) Slot.unset).toArray = ls at hl ⊢
  have hl : lv_has ls 6 [(0, .ref (a 0)), (1, .int (nI sl)), (2, .int (nI b)), (3, .long v), (5, .int q)] := hl
  refine lv_iload hx hb dX0_fillInSteps_0 (lv_at hl 4 rfl) ?_
  refine lv_iconst (v := 1) hx hb dX0_fillInSteps_2 (by decide) ?_
  refine lv_icmp_ge hx hb dX0_fillInSteps_3 (tgt := 8) rfl (fun h1 => ?_) (fun h1 => ?_)
  · refine lv_aload_n hx hb dX0_fillInSteps_8 rfl (lv_at hl 0 rfl) ?_
    refine va_get (D := (dC, dI)) (ci := 0) (v := .ref (a 3)) (C := RX0) (T := TX0) (N := 13) hx hb hts hin9 hown hK hP 0 rfl rfl 3 (by decide) (hts _ (List.mem_cons_of_mem _ mf_X0_20)) (fun _ h9 => h9) rfl dX0_fillInSteps_9 ?_
    refine lv_iload_n hx hb dX0_fillInSteps_12 rfl (lv_at hl 1 rfl) ?_
    refine lv_iload_n hx hb dX0_fillInSteps_13 rfl (lv_at hl 2 rfl) ?_
    refine zr_Si (v := (2 * (nI b) + 1)) (As := [.int (nI b)]) (rest := [.int (nI sl), .ref (a 3)]) ⟨hx, hb, hml, hown, hts⟩ (c_C_dirtyForm l H.size (nI b)) (va_cwS 1 hts gX0_fillInSteps_X0_dirtyForm rfl rfl rfl (by decide +kernel) ⟨Nat.le_of_ble_eq_true rfl, Nat.le_of_ble_eq_true rfl⟩) hP hS hA rfl hl.1 rfl (Nat.le_of_ble_eq_true rfl) dX0_fillInSteps_14 (fun H locs hP hS => ?_) ⟨Nat.le_of_ble_eq_true rfl, Nat.le_of_ble_eq_true rfl⟩
    refine zr_iast (k := sl) hx hb hK hP hD hS 3 2 rfl rfl (by omega) (by omega) dX0_fillInSteps_17 (fun H locs hP hD hS => ?_)
    have hP : va_P (dC, dI) vwCl (wC n a ca (cs_o u, cs_v u, upd (cs_k u) sl (2 * (nI b) + 1), cs_n u, cs_l u, cs_u u, cs_m u, cs_h u, cs_i u, cs_j u, cs_w u, cs_t u)) H := hP
    have hD : va_D A (wC n a ca (cs_o u, cs_v u, upd (cs_k u) sl (2 * (nI b) + 1), cs_n u, cs_l u, cs_u u, cs_m u, cs_h u, cs_i u, cs_j u, cs_w u, cs_t u)) := hD
    refine lv_aload_n hx hb dX0_fillInSteps_18 rfl (lv_at hl 0 rfl) ?_
    refine va_get (D := (dC, dI)) (ci := 0) (v := .ref (a 2)) (C := RX0) (T := TX0) (N := 13) hx hb hts hin9 hown hK hP 0 rfl rfl 2 (by decide) (hts _ (List.mem_cons_of_mem _ mf_X0_17)) (fun _ h9 => h9) rfl dX0_fillInSteps_19 ?_
    refine lv_iload_n hx hb dX0_fillInSteps_22 rfl (lv_at hl 1 rfl) ?_
    refine lv_lload_n hx hb dX0_fillInSteps_23 rfl (lv_at hl 3 rfl) ?_
    refine zr_last (k := sl) hx hb hK hP hD hS 2 1 rfl rfl (by omega) (by omega) dX0_fillInSteps_24 (fun H locs hP hD hS => ?_)
    have hP : va_P (dC, dI) vwCl (wC n a ca (cs_o u, vp_updL (cs_v u) sl v, upd (cs_k u) sl (2 * (nI b) + 1), cs_n u, cs_l u, cs_u u, cs_m u, cs_h u, cs_i u, cs_j u, cs_w u, cs_t u)) H := hP
    have hD : va_D A (wC n a ca (cs_o u, vp_updL (cs_v u) sl v, upd (cs_k u) sl (2 * (nI b) + 1), cs_n u, cs_l u, cs_u u, cs_m u, cs_h u, cs_i u, cs_j u, cs_w u, cs_t u)) := hD
    refine lv_iload hx hb dX0_fillInSteps_25 (lv_at hl 4 rfl) ?_
    refine lv_iconst (v := 2) hx hb dX0_fillInSteps_27 (by decide) ?_
    refine lv_icmp_ge hx hb dX0_fillInSteps_28 (tgt := 33) rfl (fun h2 => ?_) (fun h2 => ?_)
    · refine lv_aload_n hx hb dX0_fillInSteps_33 rfl (lv_at hl 0 rfl) ?_
      refine lv_iload_n hx hb dX0_fillInSteps_34 rfl (lv_at hl 1 rfl) ?_
      refine zr_Vv (w := fun z => wC n a ca z) (u := (cs_o u, vp_updL (cs_v u) sl v, upd (cs_k u) sl (2 * (nI b) + 1), cs_n u, cs_l u, cs_u u, cs_m u, cs_h u, cs_i u, cs_j u, cs_w u, cs_t u)) (u1 := fc_note (cs_o u, vp_updL (cs_v u) sl v, upd (cs_k u) sl (2 * (nI b) + 1), cs_n u, cs_l u, cs_u u, cs_m u, cs_h u, cs_i u, cs_j u, cs_w u, cs_t u) sl) (As := [.int (nI sl)]) (rest := []) ⟨hx, hb, hml, hown, hts⟩ (c_C_noteSlot l dC dI n a ca (cs_o u, vp_updL (cs_v u) sl v, upd (cs_k u) sl (2 * (nI b) + 1), cs_n u, cs_l u, cs_u u, cs_m u, cs_h u, cs_i u, cs_j u, cs_w u, cs_t u) H.size sl hn (by omega)) (cwV 1 hts gX0_fillInSteps_X0_noteSlot rfl rfl rfl (by decide +kernel) ⟨Nat.le_of_ble_eq_true rfl, Nat.le_of_ble_eq_true rfl⟩) hK hP hD hS hA (va_recv (q0 := 0) (ci := 0) (q := (RX0, TX0, 13)) hK hP rfl rfl) rfl hl.1 rfl (Nat.le_of_ble_eq_true rfl) dX0_fillInSteps_35 (fun H locs hP hD hS => ?_) ⟨Nat.le_of_ble_eq_true rfl, Nat.le_of_ble_eq_true rfl⟩
      have hP : va_P (dC, dI) vwCl (wC n a ca (fc_note (cs_o u, vp_updL (cs_v u) sl v, upd (cs_k u) sl (2 * (nI b) + 1), cs_n u, cs_l u, cs_u u, cs_m u, cs_h u, cs_i u, cs_j u, cs_w u, cs_t u) sl)) H := hP
      have hD : va_D A (wC n a ca (fc_note (cs_o u, vp_updL (cs_v u) sl v, upd (cs_k u) sl (2 * (nI b) + 1), cs_n u, cs_l u, cs_u u, cs_m u, cs_h u, cs_i u, cs_j u, cs_w u, cs_t u) sl)) := hD
      refine lv_iconst (v := 2) hx hb dX0_fillInSteps_38 (by decide) ?_
      exact W.iret (v := 2) hx hb hr (fun t ht hW => ⟨⟨2, fc_note (cs_o u, vp_updL (cs_v u) sl v, upd (cs_k u) sl (2 * (nI b) + 1), cs_n u, cs_l u, cs_u u, cs_m u, cs_h u, cs_i u, cs_j u, cs_w u, cs_t u) sl, rfl, ⟨(by first | rfl | (simp only [fc_fill, fc_setk, fc_setv, if_pos h1, if_pos h2] <;> rfl)), (by first | rfl | (simp only [fc_fill, fc_setk, fc_setv, if_pos h1, if_pos h2] <;> rfl))⟩, ⟨by rw [ht]; exact hP, va_K.moved hW.alike hK, hD⟩⟩, hS.F ht⟩) hS.2.2 dX0_fillInSteps_39
    · refine lv_iconst (v := 1) hx hb dX0_fillInSteps_31 (by decide) ?_
      exact W.iret (v := 1) hx hb hr (fun t ht hW => ⟨⟨1, (cs_o u, vp_updL (cs_v u) sl v, upd (cs_k u) sl (2 * (nI b) + 1), cs_n u, cs_l u, cs_u u, cs_m u, cs_h u, cs_i u, cs_j u, cs_w u, cs_t u), rfl, ⟨(by first | rfl | (simp only [fc_fill, fc_setk, fc_setv, if_pos h1, if_neg h2] <;> rfl)), (by first | rfl | (simp only [fc_fill, fc_setk, fc_setv, if_pos h1, if_neg h2] <;> rfl))⟩, ⟨by rw [ht]; exact hP, va_K.moved hW.alike hK, hD⟩⟩, hS.F ht⟩) hS.2.2 dX0_fillInSteps_32
  · refine lv_iconst (v := 0) hx hb dX0_fillInSteps_6 (by decide) ?_
    exact W.iret (v := 0) hx hb hr (fun t ht hW => ⟨⟨0, u, rfl, ⟨(by first | rfl | (simp only [fc_fill, fc_setk, fc_setv, if_neg h1] <;> rfl)), (by first | rfl | (simp only [fc_fill, fc_setk, fc_setv, if_neg h1] <;> rfl))⟩, ⟨by rw [ht]; exact hP, va_K.moved hW.alike hK, hD⟩⟩, hS.F ht⟩) hS.2.2 dX0_fillInSteps_7
set_option maxHeartbeats 4000000 in
set_option maxRecDepth 100000 in
theorem c_C_overwriteDirty (l : Launch) (dC : Nat → ClassId) (dI : Nat → Nat → Nat) (n : Nat) (a : Nat → Nat) (ca : Nat → ClassId) (u : StC) (sz : Nat) (sl : Nat) (b : Nat) (v : Int64) (q : Int32) (hn : n ≤ 12) (hs : sl < n) : Met l yX0_overwriteDirty wsX0_overwriteDirty ({ frames := 1, cells := 0, slots := 0, locals := 20 }) (va_Pc [.ref (a 0), .int (nI sl), .int (nI b), .long v, .int q] (zr_P (dC, dI) vwCl (tC ca) (wC n a ca u) sz)) (va_Qi (fun r u' => r = (fc_owd u sl b v q).1 ∧ u' = (fc_owd u sl b v q).2) (fun u' => zr_B (dC, dI) vwCl (tC ca) (va_A (wC n a ca u) sz) (wC n a ca u')) (va_A (wC n a ca u) sz)) 0 0 (va_A (wC n a ca u) sz) := by
  refine Met.ofW (cc := cX0_overwriteDirty) (maxL := 6) (ret := (some .int)) (by decide) rfl ?_
  intro p e s m args below meth c s₁ B hml hv
  obtain ⟨rfl, hsz, hP, hK, hD0⟩ := hv
  have hx := B.exec
  have hb := B.bytes
  have hr := B.returns
  have hts := atoms_spec (ws := wsX0_overwriteDirty) B.pre
  have hown : s.vm.findClass RX0 = some m.cls := findClass_of_methodNamed B.named
  have hlocks := B.notSynchronized
  subst hsz
  have hD := hD0.self (sz := s.heap.size)
  generalize hAe : va_A (wC n a ca u) s.heap.size = A at hD ⊢
  have hA : ∀ q : Nat, s.heap.size ≤ q → A q := fun q h => by rw [← hAe]; exact Or.inr h
  obtain ⟨H, hH, hP, hS⟩ : ∃ H, H = s.heap ∧ va_P (dC, dI) vwCl (wC n a ca u) H ∧ va_S A s.heap H [] := ⟨_, rfl, hP, va_S.rf⟩
  have hin9 : ∀ w ∈ u_ws RX0 TX0 13, w ∈ wsX0_overwriteDirty := fun w h => List.mem_cons_of_mem _ (hinX0 w h)
  rw [← hH]
  have hl := lv_entry ([.ref (a 0), .int (nI sl), .int (nI b), .long v, .int q]) (n := 6) (Nat.le_of_ble_eq_true rfl)
  rw [lg_entry_eq]
  generalize (lg_sl ([.ref (a 0), .int (nI sl), .int (nI b), .long v, .int q]) ++ List.replicate (6 - (lg_sl ([.ref (a 0), .int (nI sl), .int (nI b), .long v, .int q])).length) Slot.unset).toArray = ls at hl ⊢
  have hl : lv_has ls 6 [(0, .ref (a 0)), (1, .int (nI sl)), (2, .int (nI b)), (3, .long v), (5, .int q)] := hl
  refine lv_iload hx hb dX0_overwriteDirty_0 (lv_at hl 4 rfl) ?_
  refine lv_iconst (v := 1) hx hb dX0_overwriteDirty_2 (by decide) ?_
  refine lv_icmp_ge hx hb dX0_overwriteDirty_3 (tgt := 8) rfl (fun h1 => ?_) (fun h1 => ?_)
  · refine lv_aload_n hx hb dX0_overwriteDirty_8 rfl (lv_at hl 0 rfl) ?_
    refine va_get (D := (dC, dI)) (ci := 0) (v := .ref (a 3)) (C := RX0) (T := TX0) (N := 13) hx hb hts hin9 hown hK hP 0 rfl rfl 3 (by decide) (hts _ (List.mem_cons_of_mem _ mf_X0_20)) (fun _ h9 => h9) rfl dX0_overwriteDirty_9 ?_
    refine lv_iload_n hx hb dX0_overwriteDirty_12 rfl (lv_at hl 1 rfl) ?_
    refine lv_iload_n hx hb dX0_overwriteDirty_13 rfl (lv_at hl 2 rfl) ?_
    refine zr_Si (v := (2 * (nI b) + 1)) (As := [.int (nI b)]) (rest := [.int (nI sl), .ref (a 3)]) ⟨hx, hb, hml, hown, hts⟩ (c_C_dirtyForm l H.size (nI b)) (va_cwS 1 hts gX0_overwriteDirty_X0_dirtyForm rfl rfl rfl (by decide +kernel) ⟨Nat.le_of_ble_eq_true rfl, Nat.le_of_ble_eq_true rfl⟩) hP hS hA rfl hl.1 rfl (Nat.le_of_ble_eq_true rfl) dX0_overwriteDirty_14 (fun H locs hP hS => ?_) ⟨Nat.le_of_ble_eq_true rfl, Nat.le_of_ble_eq_true rfl⟩
    refine zr_iast (k := sl) hx hb hK hP hD hS 3 2 rfl rfl (by omega) (by omega) dX0_overwriteDirty_17 (fun H locs hP hD hS => ?_)
    have hP : va_P (dC, dI) vwCl (wC n a ca (cs_o u, cs_v u, upd (cs_k u) sl (2 * (nI b) + 1), cs_n u, cs_l u, cs_u u, cs_m u, cs_h u, cs_i u, cs_j u, cs_w u, cs_t u)) H := hP
    have hD : va_D A (wC n a ca (cs_o u, cs_v u, upd (cs_k u) sl (2 * (nI b) + 1), cs_n u, cs_l u, cs_u u, cs_m u, cs_h u, cs_i u, cs_j u, cs_w u, cs_t u)) := hD
    refine lv_aload_n hx hb dX0_overwriteDirty_18 rfl (lv_at hl 0 rfl) ?_
    refine va_get (D := (dC, dI)) (ci := 0) (v := .ref (a 2)) (C := RX0) (T := TX0) (N := 13) hx hb hts hin9 hown hK hP 0 rfl rfl 2 (by decide) (hts _ (List.mem_cons_of_mem _ mf_X0_17)) (fun _ h9 => h9) rfl dX0_overwriteDirty_19 ?_
    refine lv_iload_n hx hb dX0_overwriteDirty_22 rfl (lv_at hl 1 rfl) ?_
    refine lv_lload_n hx hb dX0_overwriteDirty_23 rfl (lv_at hl 3 rfl) ?_
    refine zr_last (k := sl) hx hb hK hP hD hS 2 1 rfl rfl (by omega) (by omega) dX0_overwriteDirty_24 (fun H locs hP hD hS => ?_)
    have hP : va_P (dC, dI) vwCl (wC n a ca (cs_o u, vp_updL (cs_v u) sl v, upd (cs_k u) sl (2 * (nI b) + 1), cs_n u, cs_l u, cs_u u, cs_m u, cs_h u, cs_i u, cs_j u, cs_w u, cs_t u)) H := hP
    have hD : va_D A (wC n a ca (cs_o u, vp_updL (cs_v u) sl v, upd (cs_k u) sl (2 * (nI b) + 1), cs_n u, cs_l u, cs_u u, cs_m u, cs_h u, cs_i u, cs_j u, cs_w u, cs_t u)) := hD
    refine lv_iconst (v := 1) hx hb dX0_overwriteDirty_25 (by decide) ?_
    exact W.iret (v := 1) hx hb hr (fun t ht hW => ⟨⟨1, (cs_o u, vp_updL (cs_v u) sl v, upd (cs_k u) sl (2 * (nI b) + 1), cs_n u, cs_l u, cs_u u, cs_m u, cs_h u, cs_i u, cs_j u, cs_w u, cs_t u), rfl, ⟨(by first | rfl | (simp only [fc_owd, fc_setk, fc_setv, if_pos h1] <;> rfl)), (by first | rfl | (simp only [fc_owd, fc_setk, fc_setv, if_pos h1] <;> rfl))⟩, ⟨by rw [ht]; exact hP, va_K.moved hW.alike hK, hD⟩⟩, hS.F ht⟩) hS.2.2 dX0_overwriteDirty_26
  · refine lv_iconst (v := 0) hx hb dX0_overwriteDirty_6 (by decide) ?_
    exact W.iret (v := 0) hx hb hr (fun t ht hW => ⟨⟨0, u, rfl, ⟨(by first | rfl | (simp only [fc_owd, fc_setk, fc_setv, if_neg h1] <;> rfl)), (by first | rfl | (simp only [fc_owd, fc_setk, fc_setv, if_neg h1] <;> rfl))⟩, ⟨by rw [ht]; exact hP, va_K.moved hW.alike hK, hD⟩⟩, hS.F ht⟩) hS.2.2 dX0_overwriteDirty_7
set_option maxHeartbeats 4000000 in
set_option maxRecDepth 100000 in
theorem c_C_overwriteClean (l : Launch) (dC : Nat → ClassId) (dI : Nat → Nat → Nat) (n : Nat) (a : Nat → Nat) (ca : Nat → ClassId) (u : StC) (sz : Nat) (sl : Nat) (b : Nat) (v : Int64) (q : Int32) (hn : n ≤ 12) (hs : sl < n) : Met l yX0_overwriteClean wsX0_overwriteClean ({ frames := 1, cells := 0, slots := 0, locals := 21 }) (va_Pc [.ref (a 0), .int (nI sl), .int (nI b), .long v, .int q] (zr_P (dC, dI) vwCl (tC ca) (wC n a ca u) sz)) (va_Qi (fun r u' => r = (fc_owc u sl b v q).1 ∧ u' = (fc_owc u sl b v q).2) (fun u' => zr_B (dC, dI) vwCl (tC ca) (va_A (wC n a ca u) sz) (wC n a ca u')) (va_A (wC n a ca u) sz)) 0 0 (va_A (wC n a ca u) sz) := by
  refine Met.ofW (cc := cX0_overwriteClean) (maxL := 6) (ret := (some .int)) (by decide) rfl ?_
  intro p e s m args below meth c s₁ B hml hv
  obtain ⟨rfl, hsz, hP, hK, hD0⟩ := hv
  have hx := B.exec
  have hb := B.bytes
  have hr := B.returns
  have hts := atoms_spec (ws := wsX0_overwriteClean) B.pre
  have hown : s.vm.findClass RX0 = some m.cls := findClass_of_methodNamed B.named
  have hlocks := B.notSynchronized
  subst hsz
  have hD := hD0.self (sz := s.heap.size)
  generalize hAe : va_A (wC n a ca u) s.heap.size = A at hD ⊢
  have hA : ∀ q : Nat, s.heap.size ≤ q → A q := fun q h => by rw [← hAe]; exact Or.inr h
  obtain ⟨H, hH, hP, hS⟩ : ∃ H, H = s.heap ∧ va_P (dC, dI) vwCl (wC n a ca u) H ∧ va_S A s.heap H [] := ⟨_, rfl, hP, va_S.rf⟩
  have hin9 : ∀ w ∈ u_ws RX0 TX0 13, w ∈ wsX0_overwriteClean := fun w h => List.mem_cons_of_mem _ (hinX0 w h)
  rw [← hH]
  have hl := lv_entry ([.ref (a 0), .int (nI sl), .int (nI b), .long v, .int q]) (n := 6) (Nat.le_of_ble_eq_true rfl)
  rw [lg_entry_eq]
  generalize (lg_sl ([.ref (a 0), .int (nI sl), .int (nI b), .long v, .int q]) ++ List.replicate (6 - (lg_sl ([.ref (a 0), .int (nI sl), .int (nI b), .long v, .int q])).length) Slot.unset).toArray = ls at hl ⊢
  have hl : lv_has ls 6 [(0, .ref (a 0)), (1, .int (nI sl)), (2, .int (nI b)), (3, .long v), (5, .int q)] := hl
  refine lv_iload hx hb dX0_overwriteClean_0 (lv_at hl 4 rfl) ?_
  refine lv_iconst (v := 1) hx hb dX0_overwriteClean_2 (by decide) ?_
  refine lv_icmp_ge hx hb dX0_overwriteClean_3 (tgt := 8) rfl (fun h1 => ?_) (fun h1 => ?_)
  · refine lv_aload_n hx hb dX0_overwriteClean_8 rfl (lv_at hl 0 rfl) ?_
    refine va_get (D := (dC, dI)) (ci := 0) (v := .ref (a 3)) (C := RX0) (T := TX0) (N := 13) hx hb hts hin9 hown hK hP 0 rfl rfl 3 (by decide) (hts _ (List.mem_cons_of_mem _ mf_X0_20)) (fun _ h9 => h9) rfl dX0_overwriteClean_9 ?_
    refine lv_iload_n hx hb dX0_overwriteClean_12 rfl (lv_at hl 1 rfl) ?_
    refine lv_iload_n hx hb dX0_overwriteClean_13 rfl (lv_at hl 2 rfl) ?_
    refine zr_Si (v := (2 * (nI b) + 1)) (As := [.int (nI b)]) (rest := [.int (nI sl), .ref (a 3)]) ⟨hx, hb, hml, hown, hts⟩ (c_C_dirtyForm l H.size (nI b)) (va_cwS 1 hts gX0_overwriteClean_X0_dirtyForm rfl rfl rfl (by decide +kernel) ⟨Nat.le_of_ble_eq_true rfl, Nat.le_of_ble_eq_true rfl⟩) hP hS hA rfl hl.1 rfl (Nat.le_of_ble_eq_true rfl) dX0_overwriteClean_14 (fun H locs hP hS => ?_) ⟨Nat.le_of_ble_eq_true rfl, Nat.le_of_ble_eq_true rfl⟩
    refine zr_iast (k := sl) hx hb hK hP hD hS 3 2 rfl rfl (by omega) (by omega) dX0_overwriteClean_17 (fun H locs hP hD hS => ?_)
    have hP : va_P (dC, dI) vwCl (wC n a ca (cs_o u, cs_v u, upd (cs_k u) sl (2 * (nI b) + 1), cs_n u, cs_l u, cs_u u, cs_m u, cs_h u, cs_i u, cs_j u, cs_w u, cs_t u)) H := hP
    have hD : va_D A (wC n a ca (cs_o u, cs_v u, upd (cs_k u) sl (2 * (nI b) + 1), cs_n u, cs_l u, cs_u u, cs_m u, cs_h u, cs_i u, cs_j u, cs_w u, cs_t u)) := hD
    refine lv_aload_n hx hb dX0_overwriteClean_18 rfl (lv_at hl 0 rfl) ?_
    refine lv_iload_n hx hb dX0_overwriteClean_19 rfl (lv_at hl 1 rfl) ?_
    refine zr_Vv (w := fun z => wC n a ca z) (u := (cs_o u, cs_v u, upd (cs_k u) sl (2 * (nI b) + 1), cs_n u, cs_l u, cs_u u, cs_m u, cs_h u, cs_i u, cs_j u, cs_w u, cs_t u)) (u1 := fc_note (cs_o u, cs_v u, upd (cs_k u) sl (2 * (nI b) + 1), cs_n u, cs_l u, cs_u u, cs_m u, cs_h u, cs_i u, cs_j u, cs_w u, cs_t u) sl) (As := [.int (nI sl)]) (rest := []) ⟨hx, hb, hml, hown, hts⟩ (c_C_noteSlot l dC dI n a ca (cs_o u, cs_v u, upd (cs_k u) sl (2 * (nI b) + 1), cs_n u, cs_l u, cs_u u, cs_m u, cs_h u, cs_i u, cs_j u, cs_w u, cs_t u) H.size sl hn (by omega)) (cwV 1 hts gX0_overwriteClean_X0_noteSlot rfl rfl rfl (by decide +kernel) ⟨Nat.le_of_ble_eq_true rfl, Nat.le_of_ble_eq_true rfl⟩) hK hP hD hS hA (va_recv (q0 := 0) (ci := 0) (q := (RX0, TX0, 13)) hK hP rfl rfl) rfl hl.1 rfl (Nat.le_of_ble_eq_true rfl) dX0_overwriteClean_20 (fun H locs hP hD hS => ?_) ⟨Nat.le_of_ble_eq_true rfl, Nat.le_of_ble_eq_true rfl⟩
    have hP : va_P (dC, dI) vwCl (wC n a ca (fc_note (cs_o u, cs_v u, upd (cs_k u) sl (2 * (nI b) + 1), cs_n u, cs_l u, cs_u u, cs_m u, cs_h u, cs_i u, cs_j u, cs_w u, cs_t u) sl)) H := hP
    have hD : va_D A (wC n a ca (fc_note (cs_o u, cs_v u, upd (cs_k u) sl (2 * (nI b) + 1), cs_n u, cs_l u, cs_u u, cs_m u, cs_h u, cs_i u, cs_j u, cs_w u, cs_t u) sl)) := hD
    refine lv_iload hx hb dX0_overwriteClean_23 (lv_at hl 4 rfl) ?_
    refine lv_iconst (v := 2) hx hb dX0_overwriteClean_25 (by decide) ?_
    refine lv_icmp_ge hx hb dX0_overwriteClean_26 (tgt := 31) rfl (fun h2 => ?_) (fun h2 => ?_)
    · refine lv_aload_n hx hb dX0_overwriteClean_31 rfl (lv_at hl 0 rfl) ?_
      refine va_get (D := (dC, dI)) (ci := 0) (v := .ref (a 2)) (C := RX0) (T := TX0) (N := 13) hx hb hts hin9 hown hK hP 0 rfl rfl 2 (by decide) (hts _ (List.mem_cons_of_mem _ mf_X0_17)) (fun _ h9 => h9) rfl dX0_overwriteClean_32 ?_
      refine lv_iload_n hx hb dX0_overwriteClean_35 rfl (lv_at hl 1 rfl) ?_
      refine lv_lload_n hx hb dX0_overwriteClean_36 rfl (lv_at hl 3 rfl) ?_
      refine zr_last (k := sl) hx hb hK hP hD hS 2 1 rfl rfl (by omega) (by omega) dX0_overwriteClean_37 (fun H locs hP hD hS => ?_)
      have hP : va_P (dC, dI) vwCl (wC n a ca (cs_o (fc_note (cs_o u, cs_v u, upd (cs_k u) sl (2 * (nI b) + 1), cs_n u, cs_l u, cs_u u, cs_m u, cs_h u, cs_i u, cs_j u, cs_w u, cs_t u) sl), vp_updL (cs_v (fc_note (cs_o u, cs_v u, upd (cs_k u) sl (2 * (nI b) + 1), cs_n u, cs_l u, cs_u u, cs_m u, cs_h u, cs_i u, cs_j u, cs_w u, cs_t u) sl)) sl v, cs_k (fc_note (cs_o u, cs_v u, upd (cs_k u) sl (2 * (nI b) + 1), cs_n u, cs_l u, cs_u u, cs_m u, cs_h u, cs_i u, cs_j u, cs_w u, cs_t u) sl), cs_n (fc_note (cs_o u, cs_v u, upd (cs_k u) sl (2 * (nI b) + 1), cs_n u, cs_l u, cs_u u, cs_m u, cs_h u, cs_i u, cs_j u, cs_w u, cs_t u) sl), cs_l (fc_note (cs_o u, cs_v u, upd (cs_k u) sl (2 * (nI b) + 1), cs_n u, cs_l u, cs_u u, cs_m u, cs_h u, cs_i u, cs_j u, cs_w u, cs_t u) sl), cs_u (fc_note (cs_o u, cs_v u, upd (cs_k u) sl (2 * (nI b) + 1), cs_n u, cs_l u, cs_u u, cs_m u, cs_h u, cs_i u, cs_j u, cs_w u, cs_t u) sl), cs_m (fc_note (cs_o u, cs_v u, upd (cs_k u) sl (2 * (nI b) + 1), cs_n u, cs_l u, cs_u u, cs_m u, cs_h u, cs_i u, cs_j u, cs_w u, cs_t u) sl), cs_h (fc_note (cs_o u, cs_v u, upd (cs_k u) sl (2 * (nI b) + 1), cs_n u, cs_l u, cs_u u, cs_m u, cs_h u, cs_i u, cs_j u, cs_w u, cs_t u) sl), cs_i (fc_note (cs_o u, cs_v u, upd (cs_k u) sl (2 * (nI b) + 1), cs_n u, cs_l u, cs_u u, cs_m u, cs_h u, cs_i u, cs_j u, cs_w u, cs_t u) sl), cs_j (fc_note (cs_o u, cs_v u, upd (cs_k u) sl (2 * (nI b) + 1), cs_n u, cs_l u, cs_u u, cs_m u, cs_h u, cs_i u, cs_j u, cs_w u, cs_t u) sl), cs_w (fc_note (cs_o u, cs_v u, upd (cs_k u) sl (2 * (nI b) + 1), cs_n u, cs_l u, cs_u u, cs_m u, cs_h u, cs_i u, cs_j u, cs_w u, cs_t u) sl), cs_t (fc_note (cs_o u, cs_v u, upd (cs_k u) sl (2 * (nI b) + 1), cs_n u, cs_l u, cs_u u, cs_m u, cs_h u, cs_i u, cs_j u, cs_w u, cs_t u) sl))) H := hP
      have hD : va_D A (wC n a ca (cs_o (fc_note (cs_o u, cs_v u, upd (cs_k u) sl (2 * (nI b) + 1), cs_n u, cs_l u, cs_u u, cs_m u, cs_h u, cs_i u, cs_j u, cs_w u, cs_t u) sl), vp_updL (cs_v (fc_note (cs_o u, cs_v u, upd (cs_k u) sl (2 * (nI b) + 1), cs_n u, cs_l u, cs_u u, cs_m u, cs_h u, cs_i u, cs_j u, cs_w u, cs_t u) sl)) sl v, cs_k (fc_note (cs_o u, cs_v u, upd (cs_k u) sl (2 * (nI b) + 1), cs_n u, cs_l u, cs_u u, cs_m u, cs_h u, cs_i u, cs_j u, cs_w u, cs_t u) sl), cs_n (fc_note (cs_o u, cs_v u, upd (cs_k u) sl (2 * (nI b) + 1), cs_n u, cs_l u, cs_u u, cs_m u, cs_h u, cs_i u, cs_j u, cs_w u, cs_t u) sl), cs_l (fc_note (cs_o u, cs_v u, upd (cs_k u) sl (2 * (nI b) + 1), cs_n u, cs_l u, cs_u u, cs_m u, cs_h u, cs_i u, cs_j u, cs_w u, cs_t u) sl), cs_u (fc_note (cs_o u, cs_v u, upd (cs_k u) sl (2 * (nI b) + 1), cs_n u, cs_l u, cs_u u, cs_m u, cs_h u, cs_i u, cs_j u, cs_w u, cs_t u) sl), cs_m (fc_note (cs_o u, cs_v u, upd (cs_k u) sl (2 * (nI b) + 1), cs_n u, cs_l u, cs_u u, cs_m u, cs_h u, cs_i u, cs_j u, cs_w u, cs_t u) sl), cs_h (fc_note (cs_o u, cs_v u, upd (cs_k u) sl (2 * (nI b) + 1), cs_n u, cs_l u, cs_u u, cs_m u, cs_h u, cs_i u, cs_j u, cs_w u, cs_t u) sl), cs_i (fc_note (cs_o u, cs_v u, upd (cs_k u) sl (2 * (nI b) + 1), cs_n u, cs_l u, cs_u u, cs_m u, cs_h u, cs_i u, cs_j u, cs_w u, cs_t u) sl), cs_j (fc_note (cs_o u, cs_v u, upd (cs_k u) sl (2 * (nI b) + 1), cs_n u, cs_l u, cs_u u, cs_m u, cs_h u, cs_i u, cs_j u, cs_w u, cs_t u) sl), cs_w (fc_note (cs_o u, cs_v u, upd (cs_k u) sl (2 * (nI b) + 1), cs_n u, cs_l u, cs_u u, cs_m u, cs_h u, cs_i u, cs_j u, cs_w u, cs_t u) sl), cs_t (fc_note (cs_o u, cs_v u, upd (cs_k u) sl (2 * (nI b) + 1), cs_n u, cs_l u, cs_u u, cs_m u, cs_h u, cs_i u, cs_j u, cs_w u, cs_t u) sl))) := hD
      refine lv_iconst (v := 2) hx hb dX0_overwriteClean_38 (by decide) ?_
      exact W.iret (v := 2) hx hb hr (fun t ht hW => ⟨⟨2, (cs_o (fc_note (cs_o u, cs_v u, upd (cs_k u) sl (2 * (nI b) + 1), cs_n u, cs_l u, cs_u u, cs_m u, cs_h u, cs_i u, cs_j u, cs_w u, cs_t u) sl), vp_updL (cs_v (fc_note (cs_o u, cs_v u, upd (cs_k u) sl (2 * (nI b) + 1), cs_n u, cs_l u, cs_u u, cs_m u, cs_h u, cs_i u, cs_j u, cs_w u, cs_t u) sl)) sl v, cs_k (fc_note (cs_o u, cs_v u, upd (cs_k u) sl (2 * (nI b) + 1), cs_n u, cs_l u, cs_u u, cs_m u, cs_h u, cs_i u, cs_j u, cs_w u, cs_t u) sl), cs_n (fc_note (cs_o u, cs_v u, upd (cs_k u) sl (2 * (nI b) + 1), cs_n u, cs_l u, cs_u u, cs_m u, cs_h u, cs_i u, cs_j u, cs_w u, cs_t u) sl), cs_l (fc_note (cs_o u, cs_v u, upd (cs_k u) sl (2 * (nI b) + 1), cs_n u, cs_l u, cs_u u, cs_m u, cs_h u, cs_i u, cs_j u, cs_w u, cs_t u) sl), cs_u (fc_note (cs_o u, cs_v u, upd (cs_k u) sl (2 * (nI b) + 1), cs_n u, cs_l u, cs_u u, cs_m u, cs_h u, cs_i u, cs_j u, cs_w u, cs_t u) sl), cs_m (fc_note (cs_o u, cs_v u, upd (cs_k u) sl (2 * (nI b) + 1), cs_n u, cs_l u, cs_u u, cs_m u, cs_h u, cs_i u, cs_j u, cs_w u, cs_t u) sl), cs_h (fc_note (cs_o u, cs_v u, upd (cs_k u) sl (2 * (nI b) + 1), cs_n u, cs_l u, cs_u u, cs_m u, cs_h u, cs_i u, cs_j u, cs_w u, cs_t u) sl), cs_i (fc_note (cs_o u, cs_v u, upd (cs_k u) sl (2 * (nI b) + 1), cs_n u, cs_l u, cs_u u, cs_m u, cs_h u, cs_i u, cs_j u, cs_w u, cs_t u) sl), cs_j (fc_note (cs_o u, cs_v u, upd (cs_k u) sl (2 * (nI b) + 1), cs_n u, cs_l u, cs_u u, cs_m u, cs_h u, cs_i u, cs_j u, cs_w u, cs_t u) sl), cs_w (fc_note (cs_o u, cs_v u, upd (cs_k u) sl (2 * (nI b) + 1), cs_n u, cs_l u, cs_u u, cs_m u, cs_h u, cs_i u, cs_j u, cs_w u, cs_t u) sl), cs_t (fc_note (cs_o u, cs_v u, upd (cs_k u) sl (2 * (nI b) + 1), cs_n u, cs_l u, cs_u u, cs_m u, cs_h u, cs_i u, cs_j u, cs_w u, cs_t u) sl)), rfl, ⟨(by first | rfl | (simp only [fc_owc, fc_setk, fc_setv, if_pos h1, if_pos h2] <;> rfl)), (by first | rfl | (simp only [fc_owc, fc_setk, fc_setv, if_pos h1, if_pos h2] <;> rfl))⟩, ⟨by rw [ht]; exact hP, va_K.moved hW.alike hK, hD⟩⟩, hS.F ht⟩) hS.2.2 dX0_overwriteClean_39
    · refine lv_iconst (v := 1) hx hb dX0_overwriteClean_29 (by decide) ?_
      exact W.iret (v := 1) hx hb hr (fun t ht hW => ⟨⟨1, fc_note (cs_o u, cs_v u, upd (cs_k u) sl (2 * (nI b) + 1), cs_n u, cs_l u, cs_u u, cs_m u, cs_h u, cs_i u, cs_j u, cs_w u, cs_t u) sl, rfl, ⟨(by first | rfl | (simp only [fc_owc, fc_setk, fc_setv, if_pos h1, if_neg h2] <;> rfl)), (by first | rfl | (simp only [fc_owc, fc_setk, fc_setv, if_pos h1, if_neg h2] <;> rfl))⟩, ⟨by rw [ht]; exact hP, va_K.moved hW.alike hK, hD⟩⟩, hS.F ht⟩) hS.2.2 dX0_overwriteClean_30
  · refine lv_iconst (v := 0) hx hb dX0_overwriteClean_6 (by decide) ?_
    exact W.iret (v := 0) hx hb hr (fun t ht hW => ⟨⟨0, u, rfl, ⟨(by first | rfl | (simp only [fc_owc, fc_setk, fc_setv, if_neg h1] <;> rfl)), (by first | rfl | (simp only [fc_owc, fc_setk, fc_setv, if_neg h1] <;> rfl))⟩, ⟨by rw [ht]; exact hP, va_K.moved hW.alike hK, hD⟩⟩, hS.F ht⟩) hS.2.2 dX0_overwriteClean_7
set_option maxHeartbeats 4000000 in
set_option maxRecDepth 100000 in
theorem c_C_writeInSteps (l : Launch) (dC : Nat → ClassId) (dI : Nat → Nat → Nat) (n : Nat) (a : Nat → Nat) (ca : Nat → ClassId) (u : StC) (sz : Nat) (b : Nat) (v : Int64) (q : Int32) (hn : n ≤ 12) (hn0 : 0 < n) (hok : okK n (cs_k u)) : Met l yX0_writeInSteps wsX0_writeInSteps ({ frames := 4, cells := 0, slots := 0, locals := 85 }) (va_Pc [.ref (a 0), .int (nI b), .long v, .int q] (zr_P (dC, dI) vwCl (tC ca) (wC n a ca u) sz)) (va_Qi (fun r u' => r = (fc_wis n u b v q).1 ∧ u' = (fc_wis n u b v q).2) (fun u' => zr_B (dC, dI) vwCl (tC ca) (va_A (wC n a ca u) sz) (wC n a ca u')) (va_A (wC n a ca u) sz)) 0 0 (va_A (wC n a ca u) sz) := by
  refine Met.ofW (cc := cX0_writeInSteps) (maxL := 7) (ret := (some .int)) (by decide) rfl ?_
  intro p e s m args below meth c s₁ B hml hv
  obtain ⟨rfl, hsz, hP, hK, hD0⟩ := hv
  have hx := B.exec
  have hb := B.bytes
  have hr := B.returns
  have hts := atoms_spec (ws := wsX0_writeInSteps) B.pre
  have hown : s.vm.findClass RX0 = some m.cls := findClass_of_methodNamed B.named
  have hlocks := B.notSynchronized
  subst hsz
  have hD := hD0.self (sz := s.heap.size)
  generalize hAe : va_A (wC n a ca u) s.heap.size = A at hD ⊢
  have hA : ∀ q : Nat, s.heap.size ≤ q → A q := fun q h => by rw [← hAe]; exact Or.inr h
  obtain ⟨H, hH, hP, hS⟩ : ∃ H, H = s.heap ∧ va_P (dC, dI) vwCl (wC n a ca u) H ∧ va_S A s.heap H [] := ⟨_, rfl, hP, va_S.rf⟩
  have hin9 : ∀ w ∈ u_ws RX0 TX0 13, w ∈ wsX0_writeInSteps := fun w h => List.mem_cons_of_mem _ (hinX0 w h)
  rw [← hH]
  have hl := lv_entry ([.ref (a 0), .int (nI b), .long v, .int q]) (n := 7) (Nat.le_of_ble_eq_true rfl)
  rw [lg_entry_eq]
  generalize (lg_sl ([.ref (a 0), .int (nI b), .long v, .int q]) ++ List.replicate (7 - (lg_sl ([.ref (a 0), .int (nI b), .long v, .int q])).length) Slot.unset).toArray = ls at hl ⊢
  have hl : lv_has ls 7 [(0, .ref (a 0)), (1, .int (nI b)), (2, .long v), (4, .int q)] := hl
  refine lv_aload_n hx hb dX0_writeInSteps_0 rfl (lv_at hl 0 rfl) ?_
  refine lv_iload_n hx hb dX0_writeInSteps_1 rfl (lv_at hl 1 rfl) ?_
  refine zr_Vi (w := fun z => wC n a ca z) (u := u) (u1 := u) (v := fc_enc (fc_find (cs_k u) b n 0)) (As := [.int (nI b)]) (rest := []) ⟨hx, hb, hml, hown, hts⟩ (c_C_slotWith l dC dI n a ca u H.size b hn) (cwV 1 hts gX0_writeInSteps_X0_slotWith rfl rfl rfl (by decide +kernel) ⟨Nat.le_of_ble_eq_true rfl, Nat.le_of_ble_eq_true rfl⟩) hK hP hD hS hA (va_recv (q0 := 0) (ci := 0) (q := (RX0, TX0, 13)) hK hP rfl rfl) rfl hl.1 rfl (Nat.le_of_ble_eq_true rfl) dX0_writeInSteps_2 (fun H locs hP hD hS => ?_) ⟨Nat.le_of_ble_eq_true rfl, Nat.le_of_ble_eq_true rfl⟩
  have hP : va_P (dC, dI) vwCl (wC n a ca u) H := hP
  have hD : va_D A (wC n a ca u) := hD
  rcases hf1 : fc_find (cs_k u) b n 0 with _ | j2
  · refine W.eq (g2 := F0 m 5 ls [.int (-1)]) rfl ?_
    refine lv_istore hx hb dX0_writeInSteps_5 hl (by decide) rfl (fun ls hl => ?_)
    have hl : lv_has ls 7 [(5, .int (-1)), (0, .ref (a 0)), (1, .int (nI b)), (2, .long v), (4, .int q)] := hl
    refine lv_iload hx hb dX0_writeInSteps_7 (lv_at hl 0 rfl) ?_
    refine lv_iconst (v := (-1)) hx hb dX0_writeInSteps_9 (by decide) ?_
    refine lv_icmp_ne hx hb dX0_writeInSteps_10 (tgt := 34) rfl (fun h => absurd (by decide) h) (fun _ => ?_)
    refine lv_aload_n hx hb dX0_writeInSteps_13 rfl (lv_at hl 1 rfl) ?_
    refine zr_Vi (w := fun z => wC n a ca z) (u := u) (u1 := (fc_room n 0 0 u).2) (v := nI (fc_room n 0 0 u).1) (As := []) (rest := []) ⟨hx, hb, hml, hown, hts⟩ (c_C_findRoom l dC dI n a ca u H.size hn hn0 hok) (cwV 0 hts gX0_writeInSteps_X0_findRoom rfl rfl rfl (by decide +kernel) ⟨Nat.le_of_ble_eq_true rfl, Nat.le_of_ble_eq_true rfl⟩) hK hP hD hS hA (va_recv (q0 := 0) (ci := 0) (q := (RX0, TX0, 13)) hK hP rfl rfl) rfl hl.1 rfl (Nat.le_of_ble_eq_true rfl) dX0_writeInSteps_14 (fun H locs hP hD hS => ?_) ⟨Nat.le_of_ble_eq_true rfl, Nat.le_of_ble_eq_true rfl⟩
    have hP : va_P (dC, dI) vwCl (wC n a ca ((fc_room n 0 0 u).2)) H := hP
    have hD : va_D A (wC n a ca ((fc_room n 0 0 u).2)) := hD
    have hrm := fc_room_lt hn0 u
    refine lv_istore hx hb dX0_writeInSteps_17 hl (by decide) rfl (fun ls hl => ?_)
    have hl : lv_has ls 7 [(5, .int (nI (fc_room n 0 0 u).1)), (0, .ref (a 0)), (1, .int (nI b)), (2, .long v), (4, .int q)] := hl
    refine lv_aload_n hx hb dX0_writeInSteps_19 rfl (lv_at hl 1 rfl) ?_
    refine lv_iload hx hb dX0_writeInSteps_20 (lv_at hl 0 rfl) ?_
    refine lv_iload_n hx hb dX0_writeInSteps_22 rfl (lv_at hl 2 rfl) ?_
    refine lv_lload_n hx hb dX0_writeInSteps_23 rfl (lv_at hl 3 rfl) ?_
    refine lv_iload hx hb dX0_writeInSteps_24 (lv_at hl 4 rfl) ?_
    refine zr_Vi (w := fun z => wC n a ca z) (u := ((fc_room n 0 0 u).2)) (u1 := (fc_fill ((fc_room n 0 0 u).2) ((fc_room n 0 0 u).1) b v q).2) (v := (fc_fill ((fc_room n 0 0 u).2) ((fc_room n 0 0 u).1) b v q).1) (As := [.int (nI (fc_room n 0 0 u).1), .int (nI b), .long v, .int q]) (rest := []) ⟨hx, hb, hml, hown, hts⟩ (c_C_fillInSteps l dC dI n a ca ((fc_room n 0 0 u).2) H.size ((fc_room n 0 0 u).1) b v q hn (by omega)) (cwV 4 hts gX0_writeInSteps_X0_fillInSteps rfl rfl rfl (by decide +kernel) ⟨Nat.le_of_ble_eq_true rfl, Nat.le_of_ble_eq_true rfl⟩) hK hP hD hS hA (va_recv (q0 := 0) (ci := 0) (q := (RX0, TX0, 13)) hK hP rfl rfl) rfl hl.1 rfl (Nat.le_of_ble_eq_true rfl) dX0_writeInSteps_26 (fun H locs hP hD hS => ?_) ⟨Nat.le_of_ble_eq_true rfl, Nat.le_of_ble_eq_true rfl⟩
    have hP : va_P (dC, dI) vwCl (wC n a ca ((fc_fill ((fc_room n 0 0 u).2) ((fc_room n 0 0 u).1) b v q).2)) H := hP
    have hD : va_D A (wC n a ca ((fc_fill ((fc_room n 0 0 u).2) ((fc_room n 0 0 u).1) b v q).2)) := hD
    refine lv_istore hx hb dX0_writeInSteps_29 hl (by decide) rfl (fun ls hl => ?_)
    have hl : lv_has ls 7 [(6, .int ((fc_fill ((fc_room n 0 0 u).2) ((fc_room n 0 0 u).1) b v q).1)), (5, .int (nI (fc_room n 0 0 u).1)), (0, .ref (a 0)), (1, .int (nI b)), (2, .long v), (4, .int q)] := hl
    refine lv_goto hx hb dX0_writeInSteps_31 (tgt := 75) rfl ?_
    refine lv_aload_n hx hb dX0_writeInSteps_75 rfl (lv_at hl 2 rfl) ?_
    refine lv_iload hx hb dX0_writeInSteps_76 (lv_at hl 1 rfl) ?_
    refine zr_Vv (w := fun z => wC n a ca z) (u := ((fc_fill ((fc_room n 0 0 u).2) ((fc_room n 0 0 u).1) b v q).2)) (u1 := fc_use ((fc_fill ((fc_room n 0 0 u).2) ((fc_room n 0 0 u).1) b v q).2) ((fc_room n 0 0 u).1)) (As := [.int (nI (fc_room n 0 0 u).1)]) (rest := []) ⟨hx, hb, hml, hown, hts⟩ (c_C_useSlot l dC dI n a ca ((fc_fill ((fc_room n 0 0 u).2) ((fc_room n 0 0 u).1) b v q).2) H.size ((fc_room n 0 0 u).1) hn (by omega)) (cwV 1 hts gX0_writeInSteps_X0_useSlot rfl rfl rfl (by decide +kernel) ⟨Nat.le_of_ble_eq_true rfl, Nat.le_of_ble_eq_true rfl⟩) hK hP hD hS hA (va_recv (q0 := 0) (ci := 0) (q := (RX0, TX0, 13)) hK hP rfl rfl) rfl hl.1 rfl (Nat.le_of_ble_eq_true rfl) dX0_writeInSteps_78 (fun H locs hP hD hS => ?_) ⟨Nat.le_of_ble_eq_true rfl, Nat.le_of_ble_eq_true rfl⟩
    have hP : va_P (dC, dI) vwCl (wC n a ca (fc_use ((fc_fill ((fc_room n 0 0 u).2) ((fc_room n 0 0 u).1) b v q).2) ((fc_room n 0 0 u).1))) H := hP
    have hD : va_D A (wC n a ca (fc_use ((fc_fill ((fc_room n 0 0 u).2) ((fc_room n 0 0 u).1) b v q).2) ((fc_room n 0 0 u).1))) := hD
    refine lv_iload hx hb dX0_writeInSteps_81 (lv_at hl 0 rfl) ?_
    exact W.iret (v := (fc_fill ((fc_room n 0 0 u).2) ((fc_room n 0 0 u).1) b v q).1) hx hb hr (fun t ht hW => ⟨⟨(fc_fill ((fc_room n 0 0 u).2) ((fc_room n 0 0 u).1) b v q).1, fc_use ((fc_fill ((fc_room n 0 0 u).2) ((fc_room n 0 0 u).1) b v q).2) ((fc_room n 0 0 u).1), rfl, ⟨(by first | rfl | (simp only [fc_wis, hf1] <;> rfl)), (by first | rfl | (simp only [fc_wis, hf1] <;> rfl))⟩, ⟨by rw [ht]; exact hP, va_K.moved hW.alike hK, hD⟩⟩, hS.F ht⟩) hS.2.2 dX0_writeInSteps_83
  · have hj2 := fc_find_lt hf1
    refine W.eq (g2 := F0 m 5 ls [.int (nI j2)]) rfl ?_
    refine lv_istore hx hb dX0_writeInSteps_5 hl (by decide) rfl (fun ls hl => ?_)
    have hl : lv_has ls 7 [(5, .int (nI j2)), (0, .ref (a 0)), (1, .int (nI b)), (2, .long v), (4, .int q)] := hl
    refine lv_iload hx hb dX0_writeInSteps_7 (lv_at hl 0 rfl) ?_
    refine lv_iconst (v := (-1)) hx hb dX0_writeInSteps_9 (by decide) ?_
    refine lv_icmp_ne hx hb dX0_writeInSteps_10 (tgt := 34) rfl (fun _ => ?_) (fun h => absurd h (zr_nem (by omega)))
    refine lv_aload_n hx hb dX0_writeInSteps_34 rfl (lv_at hl 1 rfl) ?_
    refine va_get (D := (dC, dI)) (ci := 0) (v := .ref (a 4)) (C := RX0) (T := TX0) (N := 13) hx hb hts hin9 hown hK hP 0 rfl rfl 4 (by decide) (hts _ (List.mem_cons_of_mem _ mf_X0_24)) (fun _ h9 => h9) rfl dX0_writeInSteps_35 ?_
    refine lv_iload hx hb dX0_writeInSteps_38 (lv_at hl 0 rfl) ?_
    refine zr_iald (k := j2) hx hb hK hP 4 3 rfl rfl (by omega) (by omega) dX0_writeInSteps_40 ?_
    refine lv_iload_n hx hb dX0_writeInSteps_41 rfl (lv_at hl 2 rfl) ?_
    refine zr_Si (v := (2 * (nI b) + 1)) (As := [.int (nI b)]) (rest := [.int (cs_n u j2)]) ⟨hx, hb, hml, hown, hts⟩ (c_C_dirtyForm l H.size (nI b)) (va_cwS 1 hts gX0_writeInSteps_X0_dirtyForm rfl rfl rfl (by decide +kernel) ⟨Nat.le_of_ble_eq_true rfl, Nat.le_of_ble_eq_true rfl⟩) hP hS hA rfl hl.1 rfl (Nat.le_of_ble_eq_true rfl) dX0_writeInSteps_42 (fun H locs hP hS => ?_) ⟨Nat.le_of_ble_eq_true rfl, Nat.le_of_ble_eq_true rfl⟩
    refine lv_icmp_ne hx hb dX0_writeInSteps_45 (tgt := 63) rfl (fun h3 => ?_) (fun h3 => ?_)
    · refine lv_aload_n hx hb dX0_writeInSteps_63 rfl (lv_at hl 1 rfl) ?_
      refine lv_iload hx hb dX0_writeInSteps_64 (lv_at hl 0 rfl) ?_
      refine lv_iload_n hx hb dX0_writeInSteps_66 rfl (lv_at hl 2 rfl) ?_
      refine lv_lload_n hx hb dX0_writeInSteps_67 rfl (lv_at hl 3 rfl) ?_
      refine lv_iload hx hb dX0_writeInSteps_68 (lv_at hl 4 rfl) ?_
      refine zr_Vi (w := fun z => wC n a ca z) (u := u) (u1 := (fc_owc u j2 b v q).2) (v := (fc_owc u j2 b v q).1) (As := [.int (nI j2), .int (nI b), .long v, .int q]) (rest := []) ⟨hx, hb, hml, hown, hts⟩ (c_C_overwriteClean l dC dI n a ca u H.size j2 b v q hn (by omega)) (cwV 4 hts gX0_writeInSteps_X0_overwriteClean rfl rfl rfl (by decide +kernel) ⟨Nat.le_of_ble_eq_true rfl, Nat.le_of_ble_eq_true rfl⟩) hK hP hD hS hA (va_recv (q0 := 0) (ci := 0) (q := (RX0, TX0, 13)) hK hP rfl rfl) rfl hl.1 rfl (Nat.le_of_ble_eq_true rfl) dX0_writeInSteps_70 (fun H locs hP hD hS => ?_) ⟨Nat.le_of_ble_eq_true rfl, Nat.le_of_ble_eq_true rfl⟩
      have hP : va_P (dC, dI) vwCl (wC n a ca ((fc_owc u j2 b v q).2)) H := hP
      have hD : va_D A (wC n a ca ((fc_owc u j2 b v q).2)) := hD
      refine lv_istore hx hb dX0_writeInSteps_73 hl (by decide) rfl (fun ls hl => ?_)
      have hl : lv_has ls 7 [(6, .int ((fc_owc u j2 b v q).1)), (5, .int (nI j2)), (0, .ref (a 0)), (1, .int (nI b)), (2, .long v), (4, .int q)] := hl
      refine lv_aload_n hx hb dX0_writeInSteps_75 rfl (lv_at hl 2 rfl) ?_
      refine lv_iload hx hb dX0_writeInSteps_76 (lv_at hl 1 rfl) ?_
      refine zr_Vv (w := fun z => wC n a ca z) (u := ((fc_owc u j2 b v q).2)) (u1 := fc_use ((fc_owc u j2 b v q).2) j2) (As := [.int (nI j2)]) (rest := []) ⟨hx, hb, hml, hown, hts⟩ (c_C_useSlot l dC dI n a ca ((fc_owc u j2 b v q).2) H.size j2 hn (by omega)) (cwV 1 hts gX0_writeInSteps_X0_useSlot rfl rfl rfl (by decide +kernel) ⟨Nat.le_of_ble_eq_true rfl, Nat.le_of_ble_eq_true rfl⟩) hK hP hD hS hA (va_recv (q0 := 0) (ci := 0) (q := (RX0, TX0, 13)) hK hP rfl rfl) rfl hl.1 rfl (Nat.le_of_ble_eq_true rfl) dX0_writeInSteps_78 (fun H locs hP hD hS => ?_) ⟨Nat.le_of_ble_eq_true rfl, Nat.le_of_ble_eq_true rfl⟩
      have hP : va_P (dC, dI) vwCl (wC n a ca (fc_use ((fc_owc u j2 b v q).2) j2)) H := hP
      have hD : va_D A (wC n a ca (fc_use ((fc_owc u j2 b v q).2) j2)) := hD
      refine lv_iload hx hb dX0_writeInSteps_81 (lv_at hl 0 rfl) ?_
      exact W.iret (v := (fc_owc u j2 b v q).1) hx hb hr (fun t ht hW => ⟨⟨(fc_owc u j2 b v q).1, fc_use ((fc_owc u j2 b v q).2) j2, rfl, ⟨(by first | rfl | (simp only [fc_wis, hf1, if_neg h3] <;> rfl)), (by first | rfl | (simp only [fc_wis, hf1, if_neg h3] <;> rfl))⟩, ⟨by rw [ht]; exact hP, va_K.moved hW.alike hK, hD⟩⟩, hS.F ht⟩) hS.2.2 dX0_writeInSteps_83
    · refine lv_aload_n hx hb dX0_writeInSteps_48 rfl (lv_at hl 1 rfl) ?_
      refine lv_iload hx hb dX0_writeInSteps_49 (lv_at hl 0 rfl) ?_
      refine lv_iload_n hx hb dX0_writeInSteps_51 rfl (lv_at hl 2 rfl) ?_
      refine lv_lload_n hx hb dX0_writeInSteps_52 rfl (lv_at hl 3 rfl) ?_
      refine lv_iload hx hb dX0_writeInSteps_53 (lv_at hl 4 rfl) ?_
      refine zr_Vi (w := fun z => wC n a ca z) (u := u) (u1 := (fc_owd u j2 b v q).2) (v := (fc_owd u j2 b v q).1) (As := [.int (nI j2), .int (nI b), .long v, .int q]) (rest := []) ⟨hx, hb, hml, hown, hts⟩ (c_C_overwriteDirty l dC dI n a ca u H.size j2 b v q hn (by omega)) (cwV 4 hts gX0_writeInSteps_X0_overwriteDirty rfl rfl rfl (by decide +kernel) ⟨Nat.le_of_ble_eq_true rfl, Nat.le_of_ble_eq_true rfl⟩) hK hP hD hS hA (va_recv (q0 := 0) (ci := 0) (q := (RX0, TX0, 13)) hK hP rfl rfl) rfl hl.1 rfl (Nat.le_of_ble_eq_true rfl) dX0_writeInSteps_55 (fun H locs hP hD hS => ?_) ⟨Nat.le_of_ble_eq_true rfl, Nat.le_of_ble_eq_true rfl⟩
      have hP : va_P (dC, dI) vwCl (wC n a ca ((fc_owd u j2 b v q).2)) H := hP
      have hD : va_D A (wC n a ca ((fc_owd u j2 b v q).2)) := hD
      refine lv_istore hx hb dX0_writeInSteps_58 hl (by decide) rfl (fun ls hl => ?_)
      have hl : lv_has ls 7 [(6, .int ((fc_owd u j2 b v q).1)), (5, .int (nI j2)), (0, .ref (a 0)), (1, .int (nI b)), (2, .long v), (4, .int q)] := hl
      refine lv_goto hx hb dX0_writeInSteps_60 (tgt := 75) rfl ?_
      refine lv_aload_n hx hb dX0_writeInSteps_75 rfl (lv_at hl 2 rfl) ?_
      refine lv_iload hx hb dX0_writeInSteps_76 (lv_at hl 1 rfl) ?_
      refine zr_Vv (w := fun z => wC n a ca z) (u := ((fc_owd u j2 b v q).2)) (u1 := fc_use ((fc_owd u j2 b v q).2) j2) (As := [.int (nI j2)]) (rest := []) ⟨hx, hb, hml, hown, hts⟩ (c_C_useSlot l dC dI n a ca ((fc_owd u j2 b v q).2) H.size j2 hn (by omega)) (cwV 1 hts gX0_writeInSteps_X0_useSlot rfl rfl rfl (by decide +kernel) ⟨Nat.le_of_ble_eq_true rfl, Nat.le_of_ble_eq_true rfl⟩) hK hP hD hS hA (va_recv (q0 := 0) (ci := 0) (q := (RX0, TX0, 13)) hK hP rfl rfl) rfl hl.1 rfl (Nat.le_of_ble_eq_true rfl) dX0_writeInSteps_78 (fun H locs hP hD hS => ?_) ⟨Nat.le_of_ble_eq_true rfl, Nat.le_of_ble_eq_true rfl⟩
      have hP : va_P (dC, dI) vwCl (wC n a ca (fc_use ((fc_owd u j2 b v q).2) j2)) H := hP
      have hD : va_D A (wC n a ca (fc_use ((fc_owd u j2 b v q).2) j2)) := hD
      refine lv_iload hx hb dX0_writeInSteps_81 (lv_at hl 0 rfl) ?_
      exact W.iret (v := (fc_owd u j2 b v q).1) hx hb hr (fun t ht hW => ⟨⟨(fc_owd u j2 b v q).1, fc_use ((fc_owd u j2 b v q).2) j2, rfl, ⟨(by first | rfl | (simp only [fc_wis, hf1, if_pos h3] <;> rfl)), (by first | rfl | (simp only [fc_wis, hf1, if_pos h3] <;> rfl))⟩, ⟨by rw [ht]; exact hP, va_K.moved hW.alike hK, hD⟩⟩, hS.F ht⟩) hS.2.2 dX0_writeInSteps_83
