set_option maxHeartbeats 4000000 in
set_option maxRecDepth 100000 in
theorem c_M_steps (l : Launch) (dC : Nat → ClassId) (dI : Nat → Nat → Nat) (n : Nat) (a : Nat → Nat) (ca : Nat → ClassId) (u : StM) (sz : Nat) (b : Nat) (v : Int64) (q : Int32) (hn : n ≤ 12) (hn0 : 0 < n) (hok : okM n u) : Met l yX1_steps wsX1_steps ({ frames := 5, cells := 0, slots := 0, locals := 107 }) (va_Pc [.ref (a 0), .int (nI b), .long v, .int q] (zr_P (dC, dI) vwCl (tM ca) (wM n a ca u) sz)) (va_Qi (fun r u' => r = (fm_steps n u b v q).1 ∧ u' = (fm_steps n u b v q).2) (fun u' => zr_B (dC, dI) vwCl (tM ca) (va_A (wM n a ca u) sz) (wM n a ca u')) (va_A (wM n a ca u) sz)) 0 0 (va_A (wM n a ca u) sz) := by
  refine Met.ofW (cc := cX1_steps) (maxL := 8) (ret := (some .int)) (by decide) rfl ?_
  intro p e s m args below meth c s₁ B hml hv
  obtain ⟨rfl, hsz, hP, hK, hD0⟩ := hv
  have hx := B.exec
  have hb := B.bytes
  have hr := B.returns
  have hts := atoms_spec (ws := wsX1_steps) B.pre
  have hown : s.vm.findClass RX1 = some m.cls := findClass_of_methodNamed B.named
  have hlocks := B.notSynchronized
  subst hsz
  have hD := hD0.self (sz := s.heap.size)
  generalize hAe : va_A (wM n a ca u) s.heap.size = A at hD ⊢
  have hA : ∀ q : Nat, s.heap.size ≤ q → A q := fun q h => by rw [← hAe]; exact Or.inr h
  obtain ⟨H, hH, hP, hS⟩ : ∃ H, H = s.heap ∧ va_P (dC, dI) vwCl (wM n a ca u) H ∧ va_S A s.heap H [] := ⟨_, rfl, hP, va_S.rf⟩
  have hin9 : ∀ w ∈ u_ws RX1 TX1 15, w ∈ wsX1_steps := fun w h => List.mem_cons_of_mem _ (hinX1 w h)
  rw [← hH]
  have hl := lv_entry ([.ref (a 0), .int (nI b), .long v, .int q]) (n := 8) (Nat.le_of_ble_eq_true rfl)
  rw [lg_entry_eq]
  generalize (lg_sl ([.ref (a 0), .int (nI b), .long v, .int q]) ++ List.replicate (8 - (lg_sl ([.ref (a 0), .int (nI b), .long v, .int q])).length) Slot.unset).toArray = ls at hl ⊢
  have hl : lv_has ls 8 [(0, .ref (a 0)), (1, .int (nI b)), (2, .long v), (4, .int q)] := hl
  refine lv_aload_n hx hb dX1_steps_0 rfl (lv_at hl 0 rfl) ?_
  refine lv_iload_n hx hb dX1_steps_1 rfl (lv_at hl 1 rfl) ?_
  refine zr_Vi (w := fun z => wM n a ca z) (u := u) (u1 := u) (v := fc_enc (fm_find (ms_b u) b n 0 none)) (As := [.int (nI b)]) (rest := []) ⟨hx, hb, hml, hown, hts⟩ (c_M_find l dC dI n a ca u H.size b hn) (cwV 1 hts gX1_steps_X1_find rfl rfl rfl (by decide +kernel) ⟨Nat.le_of_ble_eq_true rfl, Nat.le_of_ble_eq_true rfl⟩) hK hP hD hS hA (va_recv (q0 := 0) (ci := 1) (q := (RX1, TX1, 15)) hK hP rfl rfl) rfl hl.1 rfl (Nat.le_of_ble_eq_true rfl) dX1_steps_2 (fun H locs hP hD hS => ?_) ⟨Nat.le_of_ble_eq_true rfl, Nat.le_of_ble_eq_true rfl⟩
  have hP : va_P (dC, dI) vwCl (wM n a ca u) H := hP
  have hD : va_D A (wM n a ca u) := hD
  rcases hf1 : fm_find (ms_b u) b n 0 none with _ | j2
  · refine W.eq (g2 := F0 m 5 ls [.int (-1)]) rfl ?_
    refine lv_istore hx hb dX1_steps_5 hl (by decide) rfl (fun ls hl => ?_)
    have hl : lv_has ls 8 [(5, .int (-1)), (0, .ref (a 0)), (1, .int (nI b)), (2, .long v), (4, .int q)] := hl
    refine lv_iconst (v := 0) hx hb dX1_steps_7 (by decide) ?_
    refine lv_istore hx hb dX1_steps_8 hl (by decide) rfl (fun ls hl => ?_)
    have hl : lv_has ls 8 [(6, .int 0), (5, .int (-1)), (0, .ref (a 0)), (1, .int (nI b)), (2, .long v), (4, .int q)] := hl
    refine lv_iload hx hb dX1_steps_10 (lv_at hl 1 rfl) ?_
    refine lv_if_ge hx hb dX1_steps_12 (tgt := 71) rfl (fun h => absurd h (by decide)) (fun _ => ?_)
    refine lv_aload_n hx hb dX1_steps_15 rfl (lv_at hl 2 rfl) ?_
    refine zr_Vi (w := fun z => wM n a ca z) (u := u) (u1 := (fm_room n u).2) (v := nI (fm_room n u).1) (As := []) (rest := []) ⟨hx, hb, hml, hown, hts⟩ (c_M_room l dC dI n a ca u H.size hn hn0 hok) (cwV 0 hts gX1_steps_X1_room rfl rfl rfl (by decide +kernel) ⟨Nat.le_of_ble_eq_true rfl, Nat.le_of_ble_eq_true rfl⟩) hK hP hD hS hA (va_recv (q0 := 0) (ci := 1) (q := (RX1, TX1, 15)) hK hP rfl rfl) rfl hl.1 rfl (Nat.le_of_ble_eq_true rfl) dX1_steps_16 (fun H locs hP hD hS => ?_) ⟨Nat.le_of_ble_eq_true rfl, Nat.le_of_ble_eq_true rfl⟩
    have hP : va_P (dC, dI) vwCl (wM n a ca ((fm_room n u).2)) H := hP
    have hD : va_D A (wM n a ca ((fm_room n u).2)) := hD
    have hrm := fm_room_lt hn0 u
    refine lv_istore hx hb dX1_steps_19 hl (by decide) rfl (fun ls hl => ?_)
    have hl : lv_has ls 8 [(5, .int (nI (fm_room n u).1)), (6, .int 0), (0, .ref (a 0)), (1, .int (nI b)), (2, .long v), (4, .int q)] := hl
    refine lv_iload hx hb dX1_steps_21 (lv_at hl 5 rfl) ?_
    refine lv_if_le hx hb dX1_steps_23 (tgt := 53) rfl (fun h3 => ?_) (fun h3 => ?_)
    · refine lv_iload hx hb dX1_steps_53 (lv_at hl 5 rfl) ?_
      refine lv_iconst (v := 1) hx hb dX1_steps_55 (by decide) ?_
      refine lv_icmp_le hx hb dX1_steps_56 (tgt := 146) rfl (fun h4 => ?_) (fun h4 => ?_)
      · refine lv_aload_n hx hb dX1_steps_146 rfl (lv_at hl 2 rfl) ?_
        refine lv_iload hx hb dX1_steps_147 (lv_at hl 0 rfl) ?_
        refine zr_Vv (w := fun z => wM n a ca z) (u := ((fm_room n u).2)) (u1 := fm_use ((fm_room n u).2) ((fm_room n u).1)) (As := [.int (nI (fm_room n u).1)]) (rest := []) ⟨hx, hb, hml, hown, hts⟩ (c_M_use l dC dI n a ca ((fm_room n u).2) H.size ((fm_room n u).1) hn (by omega)) (cwV 1 hts gX1_steps_X1_use rfl rfl rfl (by decide +kernel) ⟨Nat.le_of_ble_eq_true rfl, Nat.le_of_ble_eq_true rfl⟩) hK hP hD hS hA (va_recv (q0 := 0) (ci := 1) (q := (RX1, TX1, 15)) hK hP rfl rfl) rfl hl.1 rfl (Nat.le_of_ble_eq_true rfl) dX1_steps_149 (fun H locs hP hD hS => ?_) ⟨Nat.le_of_ble_eq_true rfl, Nat.le_of_ble_eq_true rfl⟩
        have hP : va_P (dC, dI) vwCl (wM n a ca (fm_use ((fm_room n u).2) ((fm_room n u).1))) H := hP
        have hD : va_D A (wM n a ca (fm_use ((fm_room n u).2) ((fm_room n u).1))) := hD
        refine lv_iload hx hb dX1_steps_152 (lv_at hl 1 rfl) ?_
        exact W.iret (v := 0) hx hb hr (fun t ht hW => ⟨⟨0, fm_use ((fm_room n u).2) ((fm_room n u).1), rfl, ⟨(by first | rfl | (simp only [fm_steps, fm_stF, fm_stO, fm_stW, fm_setb, fm_setv, fm_setd, hf1, if_pos h3, if_pos h4] <;> rfl)), (by first | rfl | (simp only [fm_steps, fm_stF, fm_stO, fm_stW, fm_setb, fm_setv, fm_setd, hf1, if_pos h3, if_pos h4] <;> rfl))⟩, ⟨by rw [ht]; exact hP, va_K.moved hW.alike hK, hD⟩⟩, hS.F ht⟩) hS.2.2 dX1_steps_154
      · refine lv_aload_n hx hb dX1_steps_59 rfl (lv_at hl 2 rfl) ?_
        refine lv_iload hx hb dX1_steps_60 (lv_at hl 0 rfl) ?_
        refine zr_Vv (w := fun z => wM n a ca z) (u := ((fm_room n u).2)) (u1 := fm_note ((fm_room n u).2) ((fm_room n u).1)) (As := [.int (nI (fm_room n u).1)]) (rest := []) ⟨hx, hb, hml, hown, hts⟩ (c_M_noteSlot l dC dI n a ca ((fm_room n u).2) H.size ((fm_room n u).1) hn (by omega)) (cwV 1 hts gX1_steps_X1_noteSlot rfl rfl rfl (by decide +kernel) ⟨Nat.le_of_ble_eq_true rfl, Nat.le_of_ble_eq_true rfl⟩) hK hP hD hS hA (va_recv (q0 := 0) (ci := 1) (q := (RX1, TX1, 15)) hK hP rfl rfl) rfl hl.1 rfl (Nat.le_of_ble_eq_true rfl) dX1_steps_62 (fun H locs hP hD hS => ?_) ⟨Nat.le_of_ble_eq_true rfl, Nat.le_of_ble_eq_true rfl⟩
        have hP : va_P (dC, dI) vwCl (wM n a ca (fm_note ((fm_room n u).2) ((fm_room n u).1))) H := hP
        have hD : va_D A (wM n a ca (fm_note ((fm_room n u).2) ((fm_room n u).1))) := hD
        refine lv_iinc (k := 1) (v := (0 + 1)) hx hb dX1_steps_65 hl rfl (zr_inc1 0) (by decide) rfl (fun ls hl => ?_)
        have hl : lv_has ls 8 [(6, .int (0 + 1)), (5, .int (nI (fm_room n u).1)), (0, .ref (a 0)), (1, .int (nI b)), (2, .long v), (4, .int q)] := hl
        refine lv_goto hx hb dX1_steps_68 (tgt := 146) rfl ?_
        refine lv_aload_n hx hb dX1_steps_146 rfl (lv_at hl 2 rfl) ?_
        refine lv_iload hx hb dX1_steps_147 (lv_at hl 1 rfl) ?_
        refine zr_Vv (w := fun z => wM n a ca z) (u := (fm_note ((fm_room n u).2) ((fm_room n u).1))) (u1 := fm_use (fm_note ((fm_room n u).2) ((fm_room n u).1)) ((fm_room n u).1)) (As := [.int (nI (fm_room n u).1)]) (rest := []) ⟨hx, hb, hml, hown, hts⟩ (c_M_use l dC dI n a ca (fm_note ((fm_room n u).2) ((fm_room n u).1)) H.size ((fm_room n u).1) hn (by omega)) (cwV 1 hts gX1_steps_X1_use rfl rfl rfl (by decide +kernel) ⟨Nat.le_of_ble_eq_true rfl, Nat.le_of_ble_eq_true rfl⟩) hK hP hD hS hA (va_recv (q0 := 0) (ci := 1) (q := (RX1, TX1, 15)) hK hP rfl rfl) rfl hl.1 rfl (Nat.le_of_ble_eq_true rfl) dX1_steps_149 (fun H locs hP hD hS => ?_) ⟨Nat.le_of_ble_eq_true rfl, Nat.le_of_ble_eq_true rfl⟩
        have hP : va_P (dC, dI) vwCl (wM n a ca (fm_use (fm_note ((fm_room n u).2) ((fm_room n u).1)) ((fm_room n u).1))) H := hP
        have hD : va_D A (wM n a ca (fm_use (fm_note ((fm_room n u).2) ((fm_room n u).1)) ((fm_room n u).1))) := hD
        refine lv_iload hx hb dX1_steps_152 (lv_at hl 0 rfl) ?_
        exact W.iret (v := (0 + 1)) hx hb hr (fun t ht hW => ⟨⟨(0 + 1), fm_use (fm_note ((fm_room n u).2) ((fm_room n u).1)) ((fm_room n u).1), rfl, ⟨(by first | rfl | (simp only [fm_steps, fm_stF, fm_stO, fm_stW, fm_setb, fm_setv, fm_setd, hf1, if_pos h3, if_neg h4] <;> rfl)), (by first | rfl | (simp only [fm_steps, fm_stF, fm_stO, fm_stW, fm_setb, fm_setv, fm_setd, hf1, if_pos h3, if_neg h4] <;> rfl))⟩, ⟨by rw [ht]; exact hP, va_K.moved hW.alike hK, hD⟩⟩, hS.F ht⟩) hS.2.2 dX1_steps_154
    · refine lv_aload_n hx hb dX1_steps_26 rfl (lv_at hl 2 rfl) ?_
      refine va_get (D := (dC, dI)) (ci := 1) (v := .ref (a 2)) (C := RX1) (T := TX1) (N := 15) hx hb hts hin9 hown hK hP 0 rfl rfl 3 (by decide) (hts _ (List.mem_cons_of_mem _ mf_X1_13)) (fun _ h9 => h9) rfl dX1_steps_27 ?_
      refine lv_iload hx hb dX1_steps_30 (lv_at hl 0 rfl) ?_
      refine lv_iload_n hx hb dX1_steps_32 rfl (lv_at hl 3 rfl) ?_
      refine zr_iast (k := (fm_room n u).1) hx hb hK hP hD hS 2 1 rfl rfl (by omega) (by omega) dX1_steps_33 (fun H locs hP hD hS => ?_)
      have hP : va_P (dC, dI) vwCl (wM n a ca (ms_c ((fm_room n u).2), ms_o ((fm_room n u).2), upd (ms_b ((fm_room n u).2)) ((fm_room n u).1) (nI b), ms_v ((fm_room n u).2), ms_d ((fm_room n u).2), ms_n ((fm_room n u).2), ms_l ((fm_room n u).2), ms_u ((fm_room n u).2), ms_m ((fm_room n u).2), ms_h ((fm_room n u).2), ms_i ((fm_room n u).2), ms_j ((fm_room n u).2), ms_w ((fm_room n u).2), ms_t ((fm_room n u).2))) H := hP
      have hD : va_D A (wM n a ca (ms_c ((fm_room n u).2), ms_o ((fm_room n u).2), upd (ms_b ((fm_room n u).2)) ((fm_room n u).1) (nI b), ms_v ((fm_room n u).2), ms_d ((fm_room n u).2), ms_n ((fm_room n u).2), ms_l ((fm_room n u).2), ms_u ((fm_room n u).2), ms_m ((fm_room n u).2), ms_h ((fm_room n u).2), ms_i ((fm_room n u).2), ms_j ((fm_room n u).2), ms_w ((fm_room n u).2), ms_t ((fm_room n u).2))) := hD
      refine lv_aload_n hx hb dX1_steps_34 rfl (lv_at hl 2 rfl) ?_
      refine va_get (D := (dC, dI)) (ci := 1) (v := .ref (a 3)) (C := RX1) (T := TX1) (N := 15) hx hb hts hin9 hown hK hP 0 rfl rfl 4 (by decide) (hts _ (List.mem_cons_of_mem _ mf_X1_17)) (fun _ h9 => h9) rfl dX1_steps_35 ?_
      refine lv_iload hx hb dX1_steps_38 (lv_at hl 0 rfl) ?_
      refine lv_lload_n hx hb dX1_steps_40 rfl (lv_at hl 4 rfl) ?_
      refine zr_last (k := (fm_room n u).1) hx hb hK hP hD hS 3 2 rfl rfl (by omega) (by omega) dX1_steps_41 (fun H locs hP hD hS => ?_)
      have hP : va_P (dC, dI) vwCl (wM n a ca (ms_c ((fm_room n u).2), ms_o ((fm_room n u).2), upd (ms_b ((fm_room n u).2)) ((fm_room n u).1) (nI b), vp_updL (ms_v ((fm_room n u).2)) ((fm_room n u).1) v, ms_d ((fm_room n u).2), ms_n ((fm_room n u).2), ms_l ((fm_room n u).2), ms_u ((fm_room n u).2), ms_m ((fm_room n u).2), ms_h ((fm_room n u).2), ms_i ((fm_room n u).2), ms_j ((fm_room n u).2), ms_w ((fm_room n u).2), ms_t ((fm_room n u).2))) H := hP
      have hD : va_D A (wM n a ca (ms_c ((fm_room n u).2), ms_o ((fm_room n u).2), upd (ms_b ((fm_room n u).2)) ((fm_room n u).1) (nI b), vp_updL (ms_v ((fm_room n u).2)) ((fm_room n u).1) v, ms_d ((fm_room n u).2), ms_n ((fm_room n u).2), ms_l ((fm_room n u).2), ms_u ((fm_room n u).2), ms_m ((fm_room n u).2), ms_h ((fm_room n u).2), ms_i ((fm_room n u).2), ms_j ((fm_room n u).2), ms_w ((fm_room n u).2), ms_t ((fm_room n u).2))) := hD
      refine lv_aload_n hx hb dX1_steps_42 rfl (lv_at hl 2 rfl) ?_
      refine va_get (D := (dC, dI)) (ci := 1) (v := .ref (a 4)) (C := RX1) (T := TX1) (N := 15) hx hb hts hin9 hown hK hP 0 rfl rfl 5 (by decide) (hts _ (List.mem_cons_of_mem _ mf_X1_20)) (fun _ h9 => h9) rfl dX1_steps_43 ?_
      refine lv_iload hx hb dX1_steps_46 (lv_at hl 0 rfl) ?_
      refine lv_iconst (v := 1) hx hb dX1_steps_48 (by decide) ?_
      refine zr_zast (k := (fm_room n u).1) hx hb hK hP hD hS 4 3 rfl rfl (by omega) (by omega) dX1_steps_49 (fun H locs hP hD hS => ?_)
      have hP : va_P (dC, dI) vwCl (wM n a ca (ms_c ((fm_room n u).2), ms_o ((fm_room n u).2), upd (ms_b ((fm_room n u).2)) ((fm_room n u).1) (nI b), vp_updL (ms_v ((fm_room n u).2)) ((fm_room n u).1) v, upd (ms_d ((fm_room n u).2)) ((fm_room n u).1) (vp_nar .boolean 1), ms_n ((fm_room n u).2), ms_l ((fm_room n u).2), ms_u ((fm_room n u).2), ms_m ((fm_room n u).2), ms_h ((fm_room n u).2), ms_i ((fm_room n u).2), ms_j ((fm_room n u).2), ms_w ((fm_room n u).2), ms_t ((fm_room n u).2))) H := hP
      have hD : va_D A (wM n a ca (ms_c ((fm_room n u).2), ms_o ((fm_room n u).2), upd (ms_b ((fm_room n u).2)) ((fm_room n u).1) (nI b), vp_updL (ms_v ((fm_room n u).2)) ((fm_room n u).1) v, upd (ms_d ((fm_room n u).2)) ((fm_room n u).1) (vp_nar .boolean 1), ms_n ((fm_room n u).2), ms_l ((fm_room n u).2), ms_u ((fm_room n u).2), ms_m ((fm_room n u).2), ms_h ((fm_room n u).2), ms_i ((fm_room n u).2), ms_j ((fm_room n u).2), ms_w ((fm_room n u).2), ms_t ((fm_room n u).2))) := hD
      refine lv_iinc (k := 1) (v := (0 + 1)) hx hb dX1_steps_50 hl rfl (zr_inc1 0) (by decide) rfl (fun ls hl => ?_)
      have hl : lv_has ls 8 [(6, .int (0 + 1)), (5, .int (nI (fm_room n u).1)), (0, .ref (a 0)), (1, .int (nI b)), (2, .long v), (4, .int q)] := hl
      refine lv_iload hx hb dX1_steps_53 (lv_at hl 5 rfl) ?_
      refine lv_iconst (v := 1) hx hb dX1_steps_55 (by decide) ?_
      refine lv_icmp_le hx hb dX1_steps_56 (tgt := 146) rfl (fun h5 => ?_) (fun h5 => ?_)
      · refine lv_aload_n hx hb dX1_steps_146 rfl (lv_at hl 2 rfl) ?_
        refine lv_iload hx hb dX1_steps_147 (lv_at hl 1 rfl) ?_
        refine zr_Vv (w := fun z => wM n a ca z) (u := (ms_c ((fm_room n u).2), ms_o ((fm_room n u).2), upd (ms_b ((fm_room n u).2)) ((fm_room n u).1) (nI b), vp_updL (ms_v ((fm_room n u).2)) ((fm_room n u).1) v, upd (ms_d ((fm_room n u).2)) ((fm_room n u).1) (vp_nar .boolean 1), ms_n ((fm_room n u).2), ms_l ((fm_room n u).2), ms_u ((fm_room n u).2), ms_m ((fm_room n u).2), ms_h ((fm_room n u).2), ms_i ((fm_room n u).2), ms_j ((fm_room n u).2), ms_w ((fm_room n u).2), ms_t ((fm_room n u).2))) (u1 := fm_use (ms_c ((fm_room n u).2), ms_o ((fm_room n u).2), upd (ms_b ((fm_room n u).2)) ((fm_room n u).1) (nI b), vp_updL (ms_v ((fm_room n u).2)) ((fm_room n u).1) v, upd (ms_d ((fm_room n u).2)) ((fm_room n u).1) (vp_nar .boolean 1), ms_n ((fm_room n u).2), ms_l ((fm_room n u).2), ms_u ((fm_room n u).2), ms_m ((fm_room n u).2), ms_h ((fm_room n u).2), ms_i ((fm_room n u).2), ms_j ((fm_room n u).2), ms_w ((fm_room n u).2), ms_t ((fm_room n u).2)) ((fm_room n u).1)) (As := [.int (nI (fm_room n u).1)]) (rest := []) ⟨hx, hb, hml, hown, hts⟩ (c_M_use l dC dI n a ca (ms_c ((fm_room n u).2), ms_o ((fm_room n u).2), upd (ms_b ((fm_room n u).2)) ((fm_room n u).1) (nI b), vp_updL (ms_v ((fm_room n u).2)) ((fm_room n u).1) v, upd (ms_d ((fm_room n u).2)) ((fm_room n u).1) (vp_nar .boolean 1), ms_n ((fm_room n u).2), ms_l ((fm_room n u).2), ms_u ((fm_room n u).2), ms_m ((fm_room n u).2), ms_h ((fm_room n u).2), ms_i ((fm_room n u).2), ms_j ((fm_room n u).2), ms_w ((fm_room n u).2), ms_t ((fm_room n u).2)) H.size ((fm_room n u).1) hn (by omega)) (cwV 1 hts gX1_steps_X1_use rfl rfl rfl (by decide +kernel) ⟨Nat.le_of_ble_eq_true rfl, Nat.le_of_ble_eq_true rfl⟩) hK hP hD hS hA (va_recv (q0 := 0) (ci := 1) (q := (RX1, TX1, 15)) hK hP rfl rfl) rfl hl.1 rfl (Nat.le_of_ble_eq_true rfl) dX1_steps_149 (fun H locs hP hD hS => ?_) ⟨Nat.le_of_ble_eq_true rfl, Nat.le_of_ble_eq_true rfl⟩
        have hP : va_P (dC, dI) vwCl (wM n a ca (fm_use (ms_c ((fm_room n u).2), ms_o ((fm_room n u).2), upd (ms_b ((fm_room n u).2)) ((fm_room n u).1) (nI b), vp_updL (ms_v ((fm_room n u).2)) ((fm_room n u).1) v, upd (ms_d ((fm_room n u).2)) ((fm_room n u).1) (vp_nar .boolean 1), ms_n ((fm_room n u).2), ms_l ((fm_room n u).2), ms_u ((fm_room n u).2), ms_m ((fm_room n u).2), ms_h ((fm_room n u).2), ms_i ((fm_room n u).2), ms_j ((fm_room n u).2), ms_w ((fm_room n u).2), ms_t ((fm_room n u).2)) ((fm_room n u).1))) H := hP
        have hD : va_D A (wM n a ca (fm_use (ms_c ((fm_room n u).2), ms_o ((fm_room n u).2), upd (ms_b ((fm_room n u).2)) ((fm_room n u).1) (nI b), vp_updL (ms_v ((fm_room n u).2)) ((fm_room n u).1) v, upd (ms_d ((fm_room n u).2)) ((fm_room n u).1) (vp_nar .boolean 1), ms_n ((fm_room n u).2), ms_l ((fm_room n u).2), ms_u ((fm_room n u).2), ms_m ((fm_room n u).2), ms_h ((fm_room n u).2), ms_i ((fm_room n u).2), ms_j ((fm_room n u).2), ms_w ((fm_room n u).2), ms_t ((fm_room n u).2)) ((fm_room n u).1))) := hD
        refine lv_iload hx hb dX1_steps_152 (lv_at hl 0 rfl) ?_
        exact W.iret (v := (0 + 1)) hx hb hr (fun t ht hW => ⟨⟨(0 + 1), fm_use (ms_c ((fm_room n u).2), ms_o ((fm_room n u).2), upd (ms_b ((fm_room n u).2)) ((fm_room n u).1) (nI b), vp_updL (ms_v ((fm_room n u).2)) ((fm_room n u).1) v, upd (ms_d ((fm_room n u).2)) ((fm_room n u).1) (vp_nar .boolean 1), ms_n ((fm_room n u).2), ms_l ((fm_room n u).2), ms_u ((fm_room n u).2), ms_m ((fm_room n u).2), ms_h ((fm_room n u).2), ms_i ((fm_room n u).2), ms_j ((fm_room n u).2), ms_w ((fm_room n u).2), ms_t ((fm_room n u).2)) ((fm_room n u).1), rfl, ⟨(by first | rfl | (simp only [fm_steps, fm_stF, fm_stO, fm_stW, fm_setb, fm_setv, fm_setd, hf1, if_neg h3, if_pos h5] <;> rfl)), (by first | rfl | (simp only [fm_steps, fm_stF, fm_stO, fm_stW, fm_setb, fm_setv, fm_setd, hf1, if_neg h3, if_pos h5] <;> rfl))⟩, ⟨by rw [ht]; exact hP, va_K.moved hW.alike hK, hD⟩⟩, hS.F ht⟩) hS.2.2 dX1_steps_154
      · refine lv_aload_n hx hb dX1_steps_59 rfl (lv_at hl 2 rfl) ?_
        refine lv_iload hx hb dX1_steps_60 (lv_at hl 1 rfl) ?_
        refine zr_Vv (w := fun z => wM n a ca z) (u := (ms_c ((fm_room n u).2), ms_o ((fm_room n u).2), upd (ms_b ((fm_room n u).2)) ((fm_room n u).1) (nI b), vp_updL (ms_v ((fm_room n u).2)) ((fm_room n u).1) v, upd (ms_d ((fm_room n u).2)) ((fm_room n u).1) (vp_nar .boolean 1), ms_n ((fm_room n u).2), ms_l ((fm_room n u).2), ms_u ((fm_room n u).2), ms_m ((fm_room n u).2), ms_h ((fm_room n u).2), ms_i ((fm_room n u).2), ms_j ((fm_room n u).2), ms_w ((fm_room n u).2), ms_t ((fm_room n u).2))) (u1 := fm_note (ms_c ((fm_room n u).2), ms_o ((fm_room n u).2), upd (ms_b ((fm_room n u).2)) ((fm_room n u).1) (nI b), vp_updL (ms_v ((fm_room n u).2)) ((fm_room n u).1) v, upd (ms_d ((fm_room n u).2)) ((fm_room n u).1) (vp_nar .boolean 1), ms_n ((fm_room n u).2), ms_l ((fm_room n u).2), ms_u ((fm_room n u).2), ms_m ((fm_room n u).2), ms_h ((fm_room n u).2), ms_i ((fm_room n u).2), ms_j ((fm_room n u).2), ms_w ((fm_room n u).2), ms_t ((fm_room n u).2)) ((fm_room n u).1)) (As := [.int (nI (fm_room n u).1)]) (rest := []) ⟨hx, hb, hml, hown, hts⟩ (c_M_noteSlot l dC dI n a ca (ms_c ((fm_room n u).2), ms_o ((fm_room n u).2), upd (ms_b ((fm_room n u).2)) ((fm_room n u).1) (nI b), vp_updL (ms_v ((fm_room n u).2)) ((fm_room n u).1) v, upd (ms_d ((fm_room n u).2)) ((fm_room n u).1) (vp_nar .boolean 1), ms_n ((fm_room n u).2), ms_l ((fm_room n u).2), ms_u ((fm_room n u).2), ms_m ((fm_room n u).2), ms_h ((fm_room n u).2), ms_i ((fm_room n u).2), ms_j ((fm_room n u).2), ms_w ((fm_room n u).2), ms_t ((fm_room n u).2)) H.size ((fm_room n u).1) hn (by omega)) (cwV 1 hts gX1_steps_X1_noteSlot rfl rfl rfl (by decide +kernel) ⟨Nat.le_of_ble_eq_true rfl, Nat.le_of_ble_eq_true rfl⟩) hK hP hD hS hA (va_recv (q0 := 0) (ci := 1) (q := (RX1, TX1, 15)) hK hP rfl rfl) rfl hl.1 rfl (Nat.le_of_ble_eq_true rfl) dX1_steps_62 (fun H locs hP hD hS => ?_) ⟨Nat.le_of_ble_eq_true rfl, Nat.le_of_ble_eq_true rfl⟩
        have hP : va_P (dC, dI) vwCl (wM n a ca (fm_note (ms_c ((fm_room n u).2), ms_o ((fm_room n u).2), upd (ms_b ((fm_room n u).2)) ((fm_room n u).1) (nI b), vp_updL (ms_v ((fm_room n u).2)) ((fm_room n u).1) v, upd (ms_d ((fm_room n u).2)) ((fm_room n u).1) (vp_nar .boolean 1), ms_n ((fm_room n u).2), ms_l ((fm_room n u).2), ms_u ((fm_room n u).2), ms_m ((fm_room n u).2), ms_h ((fm_room n u).2), ms_i ((fm_room n u).2), ms_j ((fm_room n u).2), ms_w ((fm_room n u).2), ms_t ((fm_room n u).2)) ((fm_room n u).1))) H := hP
        have hD : va_D A (wM n a ca (fm_note (ms_c ((fm_room n u).2), ms_o ((fm_room n u).2), upd (ms_b ((fm_room n u).2)) ((fm_room n u).1) (nI b), vp_updL (ms_v ((fm_room n u).2)) ((fm_room n u).1) v, upd (ms_d ((fm_room n u).2)) ((fm_room n u).1) (vp_nar .boolean 1), ms_n ((fm_room n u).2), ms_l ((fm_room n u).2), ms_u ((fm_room n u).2), ms_m ((fm_room n u).2), ms_h ((fm_room n u).2), ms_i ((fm_room n u).2), ms_j ((fm_room n u).2), ms_w ((fm_room n u).2), ms_t ((fm_room n u).2)) ((fm_room n u).1))) := hD
        refine lv_iinc (k := 0) (v := ((0 + 1) + 1)) hx hb dX1_steps_65 hl rfl (zr_inc1 (0 + 1)) (by decide) rfl (fun ls hl => ?_)
        have hl : lv_has ls 8 [(6, .int ((0 + 1) + 1)), (5, .int (nI (fm_room n u).1)), (0, .ref (a 0)), (1, .int (nI b)), (2, .long v), (4, .int q)] := hl
        refine lv_goto hx hb dX1_steps_68 (tgt := 146) rfl ?_
        refine lv_aload_n hx hb dX1_steps_146 rfl (lv_at hl 2 rfl) ?_
        refine lv_iload hx hb dX1_steps_147 (lv_at hl 1 rfl) ?_
        refine zr_Vv (w := fun z => wM n a ca z) (u := (fm_note (ms_c ((fm_room n u).2), ms_o ((fm_room n u).2), upd (ms_b ((fm_room n u).2)) ((fm_room n u).1) (nI b), vp_updL (ms_v ((fm_room n u).2)) ((fm_room n u).1) v, upd (ms_d ((fm_room n u).2)) ((fm_room n u).1) (vp_nar .boolean 1), ms_n ((fm_room n u).2), ms_l ((fm_room n u).2), ms_u ((fm_room n u).2), ms_m ((fm_room n u).2), ms_h ((fm_room n u).2), ms_i ((fm_room n u).2), ms_j ((fm_room n u).2), ms_w ((fm_room n u).2), ms_t ((fm_room n u).2)) ((fm_room n u).1))) (u1 := fm_use (fm_note (ms_c ((fm_room n u).2), ms_o ((fm_room n u).2), upd (ms_b ((fm_room n u).2)) ((fm_room n u).1) (nI b), vp_updL (ms_v ((fm_room n u).2)) ((fm_room n u).1) v, upd (ms_d ((fm_room n u).2)) ((fm_room n u).1) (vp_nar .boolean 1), ms_n ((fm_room n u).2), ms_l ((fm_room n u).2), ms_u ((fm_room n u).2), ms_m ((fm_room n u).2), ms_h ((fm_room n u).2), ms_i ((fm_room n u).2), ms_j ((fm_room n u).2), ms_w ((fm_room n u).2), ms_t ((fm_room n u).2)) ((fm_room n u).1)) ((fm_room n u).1)) (As := [.int (nI (fm_room n u).1)]) (rest := []) ⟨hx, hb, hml, hown, hts⟩ (c_M_use l dC dI n a ca (fm_note (ms_c ((fm_room n u).2), ms_o ((fm_room n u).2), upd (ms_b ((fm_room n u).2)) ((fm_room n u).1) (nI b), vp_updL (ms_v ((fm_room n u).2)) ((fm_room n u).1) v, upd (ms_d ((fm_room n u).2)) ((fm_room n u).1) (vp_nar .boolean 1), ms_n ((fm_room n u).2), ms_l ((fm_room n u).2), ms_u ((fm_room n u).2), ms_m ((fm_room n u).2), ms_h ((fm_room n u).2), ms_i ((fm_room n u).2), ms_j ((fm_room n u).2), ms_w ((fm_room n u).2), ms_t ((fm_room n u).2)) ((fm_room n u).1)) H.size ((fm_room n u).1) hn (by omega)) (cwV 1 hts gX1_steps_X1_use rfl rfl rfl (by decide +kernel) ⟨Nat.le_of_ble_eq_true rfl, Nat.le_of_ble_eq_true rfl⟩) hK hP hD hS hA (va_recv (q0 := 0) (ci := 1) (q := (RX1, TX1, 15)) hK hP rfl rfl) rfl hl.1 rfl (Nat.le_of_ble_eq_true rfl) dX1_steps_149 (fun H locs hP hD hS => ?_) ⟨Nat.le_of_ble_eq_true rfl, Nat.le_of_ble_eq_true rfl⟩
        have hP : va_P (dC, dI) vwCl (wM n a ca (fm_use (fm_note (ms_c ((fm_room n u).2), ms_o ((fm_room n u).2), upd (ms_b ((fm_room n u).2)) ((fm_room n u).1) (nI b), vp_updL (ms_v ((fm_room n u).2)) ((fm_room n u).1) v, upd (ms_d ((fm_room n u).2)) ((fm_room n u).1) (vp_nar .boolean 1), ms_n ((fm_room n u).2), ms_l ((fm_room n u).2), ms_u ((fm_room n u).2), ms_m ((fm_room n u).2), ms_h ((fm_room n u).2), ms_i ((fm_room n u).2), ms_j ((fm_room n u).2), ms_w ((fm_room n u).2), ms_t ((fm_room n u).2)) ((fm_room n u).1)) ((fm_room n u).1))) H := hP
        have hD : va_D A (wM n a ca (fm_use (fm_note (ms_c ((fm_room n u).2), ms_o ((fm_room n u).2), upd (ms_b ((fm_room n u).2)) ((fm_room n u).1) (nI b), vp_updL (ms_v ((fm_room n u).2)) ((fm_room n u).1) v, upd (ms_d ((fm_room n u).2)) ((fm_room n u).1) (vp_nar .boolean 1), ms_n ((fm_room n u).2), ms_l ((fm_room n u).2), ms_u ((fm_room n u).2), ms_m ((fm_room n u).2), ms_h ((fm_room n u).2), ms_i ((fm_room n u).2), ms_j ((fm_room n u).2), ms_w ((fm_room n u).2), ms_t ((fm_room n u).2)) ((fm_room n u).1)) ((fm_room n u).1))) := hD
        refine lv_iload hx hb dX1_steps_152 (lv_at hl 0 rfl) ?_
        exact W.iret (v := ((0 + 1) + 1)) hx hb hr (fun t ht hW => ⟨⟨((0 + 1) + 1), fm_use (fm_note (ms_c ((fm_room n u).2), ms_o ((fm_room n u).2), upd (ms_b ((fm_room n u).2)) ((fm_room n u).1) (nI b), vp_updL (ms_v ((fm_room n u).2)) ((fm_room n u).1) v, upd (ms_d ((fm_room n u).2)) ((fm_room n u).1) (vp_nar .boolean 1), ms_n ((fm_room n u).2), ms_l ((fm_room n u).2), ms_u ((fm_room n u).2), ms_m ((fm_room n u).2), ms_h ((fm_room n u).2), ms_i ((fm_room n u).2), ms_j ((fm_room n u).2), ms_w ((fm_room n u).2), ms_t ((fm_room n u).2)) ((fm_room n u).1)) ((fm_room n u).1), rfl, ⟨(by first | rfl | (simp only [fm_steps, fm_stF, fm_stO, fm_stW, fm_setb, fm_setv, fm_setd, hf1, if_neg h3, if_neg h5] <;> rfl)), (by first | rfl | (simp only [fm_steps, fm_stF, fm_stO, fm_stW, fm_setb, fm_setv, fm_setd, hf1, if_neg h3, if_neg h5] <;> rfl))⟩, ⟨by rw [ht]; exact hP, va_K.moved hW.alike hK, hD⟩⟩, hS.F ht⟩) hS.2.2 dX1_steps_154
  · have hj2 := fm_find_lt hf1
    refine W.eq (g2 := F0 m 5 ls [.int (nI j2)]) rfl ?_
    refine lv_istore hx hb dX1_steps_5 hl (by decide) rfl (fun ls hl => ?_)
    have hl : lv_has ls 8 [(5, .int (nI j2)), (0, .ref (a 0)), (1, .int (nI b)), (2, .long v), (4, .int q)] := hl
    refine lv_iconst (v := 0) hx hb dX1_steps_7 (by decide) ?_
    refine lv_istore hx hb dX1_steps_8 hl (by decide) rfl (fun ls hl => ?_)
    have hl : lv_has ls 8 [(6, .int 0), (5, .int (nI j2)), (0, .ref (a 0)), (1, .int (nI b)), (2, .long v), (4, .int q)] := hl
    refine lv_iload hx hb dX1_steps_10 (lv_at hl 1 rfl) ?_
    refine lv_if_ge hx hb dX1_steps_12 (tgt := 71) rfl (fun _ => ?_) (fun h => absurd (nI_pos' (by omega)) h)
    refine lv_aload_n hx hb dX1_steps_71 rfl (lv_at hl 2 rfl) ?_
    refine va_get (D := (dC, dI)) (ci := 1) (v := .ref (a 5)) (C := RX1) (T := TX1) (N := 15) hx hb hts hin9 hown hK hP 0 rfl rfl 6 (by decide) (hts _ (List.mem_cons_of_mem _ mf_X1_24)) (fun _ h9 => h9) rfl dX1_steps_72 ?_
    refine lv_iload hx hb dX1_steps_75 (lv_at hl 1 rfl) ?_
    refine zr_iald (k := j2) hx hb hK hP 5 4 rfl rfl (by omega) (by omega) dX1_steps_77 ?_
    refine lv_iconst (v := 2) hx hb dX1_steps_78 (by decide) ?_
    refine lv_iload_n hx hb dX1_steps_79 rfl (lv_at hl 3 rfl) ?_
    refine lv_imul hx hb dX1_steps_80 ?_
    refine lv_iconst (v := 1) hx hb dX1_steps_81 (by decide) ?_
    refine lv_iadd hx hb dX1_steps_82 ?_
    refine lv_icmp_ne hx hb dX1_steps_83 (tgt := 90) rfl (fun h6 => ?_) (fun h6 => ?_)
    · refine lv_iconst (v := 0) hx hb dX1_steps_90 (by decide) ?_
      refine lv_istore hx hb dX1_steps_91 hl (by decide) rfl (fun ls hl => ?_)
      have hl : lv_has ls 8 [(7, .int 0), (6, .int 0), (5, .int (nI j2)), (0, .ref (a 0)), (1, .int (nI b)), (2, .long v), (4, .int q)] := hl
      refine lv_iload hx hb dX1_steps_93 (lv_at hl 0 rfl) ?_
      refine lv_if_ne hx hb dX1_steps_95 (tgt := 120) rfl (fun h => absurd (by decide) h) (fun _ => ?_)
      refine lv_iload hx hb dX1_steps_98 (lv_at hl 6 rfl) ?_
      refine lv_if_le hx hb dX1_steps_100 (tgt := 120) rfl (fun h7 => ?_) (fun h7 => ?_)
      · refine lv_iload hx hb dX1_steps_120 (lv_at hl 6 rfl) ?_
        refine lv_iload hx hb dX1_steps_122 (lv_at hl 1 rfl) ?_
        refine lv_icmp_le hx hb dX1_steps_124 (tgt := 146) rfl (fun _ => ?_) (fun h => absurd h7 h)
        refine lv_aload_n hx hb dX1_steps_146 rfl (lv_at hl 3 rfl) ?_
        refine lv_iload hx hb dX1_steps_147 (lv_at hl 2 rfl) ?_
        refine zr_Vv (w := fun z => wM n a ca z) (u := u) (u1 := fm_use u j2) (As := [.int (nI j2)]) (rest := []) ⟨hx, hb, hml, hown, hts⟩ (c_M_use l dC dI n a ca u H.size j2 hn (by omega)) (cwV 1 hts gX1_steps_X1_use rfl rfl rfl (by decide +kernel) ⟨Nat.le_of_ble_eq_true rfl, Nat.le_of_ble_eq_true rfl⟩) hK hP hD hS hA (va_recv (q0 := 0) (ci := 1) (q := (RX1, TX1, 15)) hK hP rfl rfl) rfl hl.1 rfl (Nat.le_of_ble_eq_true rfl) dX1_steps_149 (fun H locs hP hD hS => ?_) ⟨Nat.le_of_ble_eq_true rfl, Nat.le_of_ble_eq_true rfl⟩
        have hP : va_P (dC, dI) vwCl (wM n a ca (fm_use u j2)) H := hP
        have hD : va_D A (wM n a ca (fm_use u j2)) := hD
        refine lv_iload hx hb dX1_steps_152 (lv_at hl 1 rfl) ?_
        exact W.iret (v := 0) hx hb hr (fun t ht hW => ⟨⟨0, fm_use u j2, rfl, ⟨(by first | rfl | (simp only [fm_steps, fm_stF, fm_stO, fm_stW, fm_setb, fm_setv, fm_setd, hf1, if_neg h6, if_pos h7] <;> rfl)), (by first | rfl | (simp only [fm_steps, fm_stF, fm_stO, fm_stW, fm_setb, fm_setv, fm_setd, hf1, if_neg h6, if_pos h7] <;> rfl))⟩, ⟨by rw [ht]; exact hP, va_K.moved hW.alike hK, hD⟩⟩, hS.F ht⟩) hS.2.2 dX1_steps_154
      · refine lv_aload_n hx hb dX1_steps_103 rfl (lv_at hl 3 rfl) ?_
        refine va_get (D := (dC, dI)) (ci := 1) (v := .ref (a 4)) (C := RX1) (T := TX1) (N := 15) hx hb hts hin9 hown hK hP 0 rfl rfl 5 (by decide) (hts _ (List.mem_cons_of_mem _ mf_X1_20)) (fun _ h9 => h9) rfl dX1_steps_104 ?_
        refine lv_iload hx hb dX1_steps_107 (lv_at hl 2 rfl) ?_
        refine lv_iconst (v := 1) hx hb dX1_steps_109 (by decide) ?_
        refine zr_zast (k := j2) hx hb hK hP hD hS 4 3 rfl rfl (by omega) (by omega) dX1_steps_110 (fun H locs hP hD hS => ?_)
        have hP : va_P (dC, dI) vwCl (wM n a ca (ms_c u, ms_o u, ms_b u, ms_v u, upd (ms_d u) j2 (vp_nar .boolean 1), ms_n u, ms_l u, ms_u u, ms_m u, ms_h u, ms_i u, ms_j u, ms_w u, ms_t u)) H := hP
        have hD : va_D A (wM n a ca (ms_c u, ms_o u, ms_b u, ms_v u, upd (ms_d u) j2 (vp_nar .boolean 1), ms_n u, ms_l u, ms_u u, ms_m u, ms_h u, ms_i u, ms_j u, ms_w u, ms_t u)) := hD
        refine lv_aload_n hx hb dX1_steps_111 rfl (lv_at hl 3 rfl) ?_
        refine lv_iload hx hb dX1_steps_112 (lv_at hl 2 rfl) ?_
        refine zr_Vv (w := fun z => wM n a ca z) (u := (ms_c u, ms_o u, ms_b u, ms_v u, upd (ms_d u) j2 (vp_nar .boolean 1), ms_n u, ms_l u, ms_u u, ms_m u, ms_h u, ms_i u, ms_j u, ms_w u, ms_t u)) (u1 := fm_note (ms_c u, ms_o u, ms_b u, ms_v u, upd (ms_d u) j2 (vp_nar .boolean 1), ms_n u, ms_l u, ms_u u, ms_m u, ms_h u, ms_i u, ms_j u, ms_w u, ms_t u) j2) (As := [.int (nI j2)]) (rest := []) ⟨hx, hb, hml, hown, hts⟩ (c_M_noteSlot l dC dI n a ca (ms_c u, ms_o u, ms_b u, ms_v u, upd (ms_d u) j2 (vp_nar .boolean 1), ms_n u, ms_l u, ms_u u, ms_m u, ms_h u, ms_i u, ms_j u, ms_w u, ms_t u) H.size j2 hn (by omega)) (cwV 1 hts gX1_steps_X1_noteSlot rfl rfl rfl (by decide +kernel) ⟨Nat.le_of_ble_eq_true rfl, Nat.le_of_ble_eq_true rfl⟩) hK hP hD hS hA (va_recv (q0 := 0) (ci := 1) (q := (RX1, TX1, 15)) hK hP rfl rfl) rfl hl.1 rfl (Nat.le_of_ble_eq_true rfl) dX1_steps_114 (fun H locs hP hD hS => ?_) ⟨Nat.le_of_ble_eq_true rfl, Nat.le_of_ble_eq_true rfl⟩
        have hP : va_P (dC, dI) vwCl (wM n a ca (fm_note (ms_c u, ms_o u, ms_b u, ms_v u, upd (ms_d u) j2 (vp_nar .boolean 1), ms_n u, ms_l u, ms_u u, ms_m u, ms_h u, ms_i u, ms_j u, ms_w u, ms_t u) j2)) H := hP
        have hD : va_D A (wM n a ca (fm_note (ms_c u, ms_o u, ms_b u, ms_v u, upd (ms_d u) j2 (vp_nar .boolean 1), ms_n u, ms_l u, ms_u u, ms_m u, ms_h u, ms_i u, ms_j u, ms_w u, ms_t u) j2)) := hD
        refine lv_iinc (k := 1) (v := (0 + 1)) hx hb dX1_steps_117 hl rfl (zr_inc1 0) (by decide) rfl (fun ls hl => ?_)
        have hl : lv_has ls 8 [(6, .int (0 + 1)), (7, .int 0), (5, .int (nI j2)), (0, .ref (a 0)), (1, .int (nI b)), (2, .long v), (4, .int q)] := hl
        refine lv_iload hx hb dX1_steps_120 (lv_at hl 6 rfl) ?_
        refine lv_iload hx hb dX1_steps_122 (lv_at hl 0 rfl) ?_
        refine lv_icmp_le hx hb dX1_steps_124 (tgt := 146) rfl (fun h8 => ?_) (fun h8 => ?_)
        · refine lv_aload_n hx hb dX1_steps_146 rfl (lv_at hl 3 rfl) ?_
          refine lv_iload hx hb dX1_steps_147 (lv_at hl 2 rfl) ?_
          refine zr_Vv (w := fun z => wM n a ca z) (u := (fm_note (ms_c u, ms_o u, ms_b u, ms_v u, upd (ms_d u) j2 (vp_nar .boolean 1), ms_n u, ms_l u, ms_u u, ms_m u, ms_h u, ms_i u, ms_j u, ms_w u, ms_t u) j2)) (u1 := fm_use (fm_note (ms_c u, ms_o u, ms_b u, ms_v u, upd (ms_d u) j2 (vp_nar .boolean 1), ms_n u, ms_l u, ms_u u, ms_m u, ms_h u, ms_i u, ms_j u, ms_w u, ms_t u) j2) j2) (As := [.int (nI j2)]) (rest := []) ⟨hx, hb, hml, hown, hts⟩ (c_M_use l dC dI n a ca (fm_note (ms_c u, ms_o u, ms_b u, ms_v u, upd (ms_d u) j2 (vp_nar .boolean 1), ms_n u, ms_l u, ms_u u, ms_m u, ms_h u, ms_i u, ms_j u, ms_w u, ms_t u) j2) H.size j2 hn (by omega)) (cwV 1 hts gX1_steps_X1_use rfl rfl rfl (by decide +kernel) ⟨Nat.le_of_ble_eq_true rfl, Nat.le_of_ble_eq_true rfl⟩) hK hP hD hS hA (va_recv (q0 := 0) (ci := 1) (q := (RX1, TX1, 15)) hK hP rfl rfl) rfl hl.1 rfl (Nat.le_of_ble_eq_true rfl) dX1_steps_149 (fun H locs hP hD hS => ?_) ⟨Nat.le_of_ble_eq_true rfl, Nat.le_of_ble_eq_true rfl⟩
          have hP : va_P (dC, dI) vwCl (wM n a ca (fm_use (fm_note (ms_c u, ms_o u, ms_b u, ms_v u, upd (ms_d u) j2 (vp_nar .boolean 1), ms_n u, ms_l u, ms_u u, ms_m u, ms_h u, ms_i u, ms_j u, ms_w u, ms_t u) j2) j2)) H := hP
          have hD : va_D A (wM n a ca (fm_use (fm_note (ms_c u, ms_o u, ms_b u, ms_v u, upd (ms_d u) j2 (vp_nar .boolean 1), ms_n u, ms_l u, ms_u u, ms_m u, ms_h u, ms_i u, ms_j u, ms_w u, ms_t u) j2) j2)) := hD
          refine lv_iload hx hb dX1_steps_152 (lv_at hl 0 rfl) ?_
          exact W.iret (v := (0 + 1)) hx hb hr (fun t ht hW => ⟨⟨(0 + 1), fm_use (fm_note (ms_c u, ms_o u, ms_b u, ms_v u, upd (ms_d u) j2 (vp_nar .boolean 1), ms_n u, ms_l u, ms_u u, ms_m u, ms_h u, ms_i u, ms_j u, ms_w u, ms_t u) j2) j2, rfl, ⟨(by first | rfl | (simp only [fm_steps, fm_stF, fm_stO, fm_stW, fm_setb, fm_setv, fm_setd, hf1, if_neg h6, if_neg h7, if_pos h8] <;> rfl)), (by first | rfl | (simp only [fm_steps, fm_stF, fm_stO, fm_stW, fm_setb, fm_setv, fm_setd, hf1, if_neg h6, if_neg h7, if_pos h8] <;> rfl))⟩, ⟨by rw [ht]; exact hP, va_K.moved hW.alike hK, hD⟩⟩, hS.F ht⟩) hS.2.2 dX1_steps_154
        · refine lv_aload_n hx hb dX1_steps_127 rfl (lv_at hl 3 rfl) ?_
          refine va_get (D := (dC, dI)) (ci := 1) (v := .ref (a 3)) (C := RX1) (T := TX1) (N := 15) hx hb hts hin9 hown hK hP 0 rfl rfl 4 (by decide) (hts _ (List.mem_cons_of_mem _ mf_X1_17)) (fun _ h9 => h9) rfl dX1_steps_128 ?_
          refine lv_iload hx hb dX1_steps_131 (lv_at hl 2 rfl) ?_
          refine lv_lload_n hx hb dX1_steps_133 rfl (lv_at hl 5 rfl) ?_
          refine zr_last (k := j2) hx hb hK hP hD hS 3 2 rfl rfl (by omega) (by omega) dX1_steps_134 (fun H locs hP hD hS => ?_)
          have hP : va_P (dC, dI) vwCl (wM n a ca (ms_c (fm_note (ms_c u, ms_o u, ms_b u, ms_v u, upd (ms_d u) j2 (vp_nar .boolean 1), ms_n u, ms_l u, ms_u u, ms_m u, ms_h u, ms_i u, ms_j u, ms_w u, ms_t u) j2), ms_o (fm_note (ms_c u, ms_o u, ms_b u, ms_v u, upd (ms_d u) j2 (vp_nar .boolean 1), ms_n u, ms_l u, ms_u u, ms_m u, ms_h u, ms_i u, ms_j u, ms_w u, ms_t u) j2), ms_b (fm_note (ms_c u, ms_o u, ms_b u, ms_v u, upd (ms_d u) j2 (vp_nar .boolean 1), ms_n u, ms_l u, ms_u u, ms_m u, ms_h u, ms_i u, ms_j u, ms_w u, ms_t u) j2), vp_updL (ms_v (fm_note (ms_c u, ms_o u, ms_b u, ms_v u, upd (ms_d u) j2 (vp_nar .boolean 1), ms_n u, ms_l u, ms_u u, ms_m u, ms_h u, ms_i u, ms_j u, ms_w u, ms_t u) j2)) j2 v, ms_d (fm_note (ms_c u, ms_o u, ms_b u, ms_v u, upd (ms_d u) j2 (vp_nar .boolean 1), ms_n u, ms_l u, ms_u u, ms_m u, ms_h u, ms_i u, ms_j u, ms_w u, ms_t u) j2), ms_n (fm_note (ms_c u, ms_o u, ms_b u, ms_v u, upd (ms_d u) j2 (vp_nar .boolean 1), ms_n u, ms_l u, ms_u u, ms_m u, ms_h u, ms_i u, ms_j u, ms_w u, ms_t u) j2), ms_l (fm_note (ms_c u, ms_o u, ms_b u, ms_v u, upd (ms_d u) j2 (vp_nar .boolean 1), ms_n u, ms_l u, ms_u u, ms_m u, ms_h u, ms_i u, ms_j u, ms_w u, ms_t u) j2), ms_u (fm_note (ms_c u, ms_o u, ms_b u, ms_v u, upd (ms_d u) j2 (vp_nar .boolean 1), ms_n u, ms_l u, ms_u u, ms_m u, ms_h u, ms_i u, ms_j u, ms_w u, ms_t u) j2), ms_m (fm_note (ms_c u, ms_o u, ms_b u, ms_v u, upd (ms_d u) j2 (vp_nar .boolean 1), ms_n u, ms_l u, ms_u u, ms_m u, ms_h u, ms_i u, ms_j u, ms_w u, ms_t u) j2), ms_h (fm_note (ms_c u, ms_o u, ms_b u, ms_v u, upd (ms_d u) j2 (vp_nar .boolean 1), ms_n u, ms_l u, ms_u u, ms_m u, ms_h u, ms_i u, ms_j u, ms_w u, ms_t u) j2), ms_i (fm_note (ms_c u, ms_o u, ms_b u, ms_v u, upd (ms_d u) j2 (vp_nar .boolean 1), ms_n u, ms_l u, ms_u u, ms_m u, ms_h u, ms_i u, ms_j u, ms_w u, ms_t u) j2), ms_j (fm_note (ms_c u, ms_o u, ms_b u, ms_v u, upd (ms_d u) j2 (vp_nar .boolean 1), ms_n u, ms_l u, ms_u u, ms_m u, ms_h u, ms_i u, ms_j u, ms_w u, ms_t u) j2), ms_w (fm_note (ms_c u, ms_o u, ms_b u, ms_v u, upd (ms_d u) j2 (vp_nar .boolean 1), ms_n u, ms_l u, ms_u u, ms_m u, ms_h u, ms_i u, ms_j u, ms_w u, ms_t u) j2), ms_t (fm_note (ms_c u, ms_o u, ms_b u, ms_v u, upd (ms_d u) j2 (vp_nar .boolean 1), ms_n u, ms_l u, ms_u u, ms_m u, ms_h u, ms_i u, ms_j u, ms_w u, ms_t u) j2))) H := hP
          have hD : va_D A (wM n a ca (ms_c (fm_note (ms_c u, ms_o u, ms_b u, ms_v u, upd (ms_d u) j2 (vp_nar .boolean 1), ms_n u, ms_l u, ms_u u, ms_m u, ms_h u, ms_i u, ms_j u, ms_w u, ms_t u) j2), ms_o (fm_note (ms_c u, ms_o u, ms_b u, ms_v u, upd (ms_d u) j2 (vp_nar .boolean 1), ms_n u, ms_l u, ms_u u, ms_m u, ms_h u, ms_i u, ms_j u, ms_w u, ms_t u) j2), ms_b (fm_note (ms_c u, ms_o u, ms_b u, ms_v u, upd (ms_d u) j2 (vp_nar .boolean 1), ms_n u, ms_l u, ms_u u, ms_m u, ms_h u, ms_i u, ms_j u, ms_w u, ms_t u) j2), vp_updL (ms_v (fm_note (ms_c u, ms_o u, ms_b u, ms_v u, upd (ms_d u) j2 (vp_nar .boolean 1), ms_n u, ms_l u, ms_u u, ms_m u, ms_h u, ms_i u, ms_j u, ms_w u, ms_t u) j2)) j2 v, ms_d (fm_note (ms_c u, ms_o u, ms_b u, ms_v u, upd (ms_d u) j2 (vp_nar .boolean 1), ms_n u, ms_l u, ms_u u, ms_m u, ms_h u, ms_i u, ms_j u, ms_w u, ms_t u) j2), ms_n (fm_note (ms_c u, ms_o u, ms_b u, ms_v u, upd (ms_d u) j2 (vp_nar .boolean 1), ms_n u, ms_l u, ms_u u, ms_m u, ms_h u, ms_i u, ms_j u, ms_w u, ms_t u) j2), ms_l (fm_note (ms_c u, ms_o u, ms_b u, ms_v u, upd (ms_d u) j2 (vp_nar .boolean 1), ms_n u, ms_l u, ms_u u, ms_m u, ms_h u, ms_i u, ms_j u, ms_w u, ms_t u) j2), ms_u (fm_note (ms_c u, ms_o u, ms_b u, ms_v u, upd (ms_d u) j2 (vp_nar .boolean 1), ms_n u, ms_l u, ms_u u, ms_m u, ms_h u, ms_i u, ms_j u, ms_w u, ms_t u) j2), ms_m (fm_note (ms_c u, ms_o u, ms_b u, ms_v u, upd (ms_d u) j2 (vp_nar .boolean 1), ms_n u, ms_l u, ms_u u, ms_m u, ms_h u, ms_i u, ms_j u, ms_w u, ms_t u) j2), ms_h (fm_note (ms_c u, ms_o u, ms_b u, ms_v u, upd (ms_d u) j2 (vp_nar .boolean 1), ms_n u, ms_l u, ms_u u, ms_m u, ms_h u, ms_i u, ms_j u, ms_w u, ms_t u) j2), ms_i (fm_note (ms_c u, ms_o u, ms_b u, ms_v u, upd (ms_d u) j2 (vp_nar .boolean 1), ms_n u, ms_l u, ms_u u, ms_m u, ms_h u, ms_i u, ms_j u, ms_w u, ms_t u) j2), ms_j (fm_note (ms_c u, ms_o u, ms_b u, ms_v u, upd (ms_d u) j2 (vp_nar .boolean 1), ms_n u, ms_l u, ms_u u, ms_m u, ms_h u, ms_i u, ms_j u, ms_w u, ms_t u) j2), ms_w (fm_note (ms_c u, ms_o u, ms_b u, ms_v u, upd (ms_d u) j2 (vp_nar .boolean 1), ms_n u, ms_l u, ms_u u, ms_m u, ms_h u, ms_i u, ms_j u, ms_w u, ms_t u) j2), ms_t (fm_note (ms_c u, ms_o u, ms_b u, ms_v u, upd (ms_d u) j2 (vp_nar .boolean 1), ms_n u, ms_l u, ms_u u, ms_m u, ms_h u, ms_i u, ms_j u, ms_w u, ms_t u) j2))) := hD
          refine lv_aload_n hx hb dX1_steps_135 rfl (lv_at hl 3 rfl) ?_
          refine va_get (D := (dC, dI)) (ci := 1) (v := .ref (a 4)) (C := RX1) (T := TX1) (N := 15) hx hb hts hin9 hown hK hP 0 rfl rfl 5 (by decide) (hts _ (List.mem_cons_of_mem _ mf_X1_20)) (fun _ h9 => h9) rfl dX1_steps_136 ?_
          refine lv_iload hx hb dX1_steps_139 (lv_at hl 2 rfl) ?_
          refine lv_iconst (v := 1) hx hb dX1_steps_141 (by decide) ?_
          refine zr_zast (k := j2) hx hb hK hP hD hS 4 3 rfl rfl (by omega) (by omega) dX1_steps_142 (fun H locs hP hD hS => ?_)
          have hP : va_P (dC, dI) vwCl (wM n a ca (ms_c (fm_note (ms_c u, ms_o u, ms_b u, ms_v u, upd (ms_d u) j2 (vp_nar .boolean 1), ms_n u, ms_l u, ms_u u, ms_m u, ms_h u, ms_i u, ms_j u, ms_w u, ms_t u) j2), ms_o (fm_note (ms_c u, ms_o u, ms_b u, ms_v u, upd (ms_d u) j2 (vp_nar .boolean 1), ms_n u, ms_l u, ms_u u, ms_m u, ms_h u, ms_i u, ms_j u, ms_w u, ms_t u) j2), ms_b (fm_note (ms_c u, ms_o u, ms_b u, ms_v u, upd (ms_d u) j2 (vp_nar .boolean 1), ms_n u, ms_l u, ms_u u, ms_m u, ms_h u, ms_i u, ms_j u, ms_w u, ms_t u) j2), vp_updL (ms_v (fm_note (ms_c u, ms_o u, ms_b u, ms_v u, upd (ms_d u) j2 (vp_nar .boolean 1), ms_n u, ms_l u, ms_u u, ms_m u, ms_h u, ms_i u, ms_j u, ms_w u, ms_t u) j2)) j2 v, upd (ms_d (fm_note (ms_c u, ms_o u, ms_b u, ms_v u, upd (ms_d u) j2 (vp_nar .boolean 1), ms_n u, ms_l u, ms_u u, ms_m u, ms_h u, ms_i u, ms_j u, ms_w u, ms_t u) j2)) j2 (vp_nar .boolean 1), ms_n (fm_note (ms_c u, ms_o u, ms_b u, ms_v u, upd (ms_d u) j2 (vp_nar .boolean 1), ms_n u, ms_l u, ms_u u, ms_m u, ms_h u, ms_i u, ms_j u, ms_w u, ms_t u) j2), ms_l (fm_note (ms_c u, ms_o u, ms_b u, ms_v u, upd (ms_d u) j2 (vp_nar .boolean 1), ms_n u, ms_l u, ms_u u, ms_m u, ms_h u, ms_i u, ms_j u, ms_w u, ms_t u) j2), ms_u (fm_note (ms_c u, ms_o u, ms_b u, ms_v u, upd (ms_d u) j2 (vp_nar .boolean 1), ms_n u, ms_l u, ms_u u, ms_m u, ms_h u, ms_i u, ms_j u, ms_w u, ms_t u) j2), ms_m (fm_note (ms_c u, ms_o u, ms_b u, ms_v u, upd (ms_d u) j2 (vp_nar .boolean 1), ms_n u, ms_l u, ms_u u, ms_m u, ms_h u, ms_i u, ms_j u, ms_w u, ms_t u) j2), ms_h (fm_note (ms_c u, ms_o u, ms_b u, ms_v u, upd (ms_d u) j2 (vp_nar .boolean 1), ms_n u, ms_l u, ms_u u, ms_m u, ms_h u, ms_i u, ms_j u, ms_w u, ms_t u) j2), ms_i (fm_note (ms_c u, ms_o u, ms_b u, ms_v u, upd (ms_d u) j2 (vp_nar .boolean 1), ms_n u, ms_l u, ms_u u, ms_m u, ms_h u, ms_i u, ms_j u, ms_w u, ms_t u) j2), ms_j (fm_note (ms_c u, ms_o u, ms_b u, ms_v u, upd (ms_d u) j2 (vp_nar .boolean 1), ms_n u, ms_l u, ms_u u, ms_m u, ms_h u, ms_i u, ms_j u, ms_w u, ms_t u) j2), ms_w (fm_note (ms_c u, ms_o u, ms_b u, ms_v u, upd (ms_d u) j2 (vp_nar .boolean 1), ms_n u, ms_l u, ms_u u, ms_m u, ms_h u, ms_i u, ms_j u, ms_w u, ms_t u) j2), ms_t (fm_note (ms_c u, ms_o u, ms_b u, ms_v u, upd (ms_d u) j2 (vp_nar .boolean 1), ms_n u, ms_l u, ms_u u, ms_m u, ms_h u, ms_i u, ms_j u, ms_w u, ms_t u) j2))) H := hP
          have hD : va_D A (wM n a ca (ms_c (fm_note (ms_c u, ms_o u, ms_b u, ms_v u, upd (ms_d u) j2 (vp_nar .boolean 1), ms_n u, ms_l u, ms_u u, ms_m u, ms_h u, ms_i u, ms_j u, ms_w u, ms_t u) j2), ms_o (fm_note (ms_c u, ms_o u, ms_b u, ms_v u, upd (ms_d u) j2 (vp_nar .boolean 1), ms_n u, ms_l u, ms_u u, ms_m u, ms_h u, ms_i u, ms_j u, ms_w u, ms_t u) j2), ms_b (fm_note (ms_c u, ms_o u, ms_b u, ms_v u, upd (ms_d u) j2 (vp_nar .boolean 1), ms_n u, ms_l u, ms_u u, ms_m u, ms_h u, ms_i u, ms_j u, ms_w u, ms_t u) j2), vp_updL (ms_v (fm_note (ms_c u, ms_o u, ms_b u, ms_v u, upd (ms_d u) j2 (vp_nar .boolean 1), ms_n u, ms_l u, ms_u u, ms_m u, ms_h u, ms_i u, ms_j u, ms_w u, ms_t u) j2)) j2 v, upd (ms_d (fm_note (ms_c u, ms_o u, ms_b u, ms_v u, upd (ms_d u) j2 (vp_nar .boolean 1), ms_n u, ms_l u, ms_u u, ms_m u, ms_h u, ms_i u, ms_j u, ms_w u, ms_t u) j2)) j2 (vp_nar .boolean 1), ms_n (fm_note (ms_c u, ms_o u, ms_b u, ms_v u, upd (ms_d u) j2 (vp_nar .boolean 1), ms_n u, ms_l u, ms_u u, ms_m u, ms_h u, ms_i u, ms_j u, ms_w u, ms_t u) j2), ms_l (fm_note (ms_c u, ms_o u, ms_b u, ms_v u, upd (ms_d u) j2 (vp_nar .boolean 1), ms_n u, ms_l u, ms_u u, ms_m u, ms_h u, ms_i u, ms_j u, ms_w u, ms_t u) j2), ms_u (fm_note (ms_c u, ms_o u, ms_b u, ms_v u, upd (ms_d u) j2 (vp_nar .boolean 1), ms_n u, ms_l u, ms_u u, ms_m u, ms_h u, ms_i u, ms_j u, ms_w u, ms_t u) j2), ms_m (fm_note (ms_c u, ms_o u, ms_b u, ms_v u, upd (ms_d u) j2 (vp_nar .boolean 1), ms_n u, ms_l u, ms_u u, ms_m u, ms_h u, ms_i u, ms_j u, ms_w u, ms_t u) j2), ms_h (fm_note (ms_c u, ms_o u, ms_b u, ms_v u, upd (ms_d u) j2 (vp_nar .boolean 1), ms_n u, ms_l u, ms_u u, ms_m u, ms_h u, ms_i u, ms_j u, ms_w u, ms_t u) j2), ms_i (fm_note (ms_c u, ms_o u, ms_b u, ms_v u, upd (ms_d u) j2 (vp_nar .boolean 1), ms_n u, ms_l u, ms_u u, ms_m u, ms_h u, ms_i u, ms_j u, ms_w u, ms_t u) j2), ms_j (fm_note (ms_c u, ms_o u, ms_b u, ms_v u, upd (ms_d u) j2 (vp_nar .boolean 1), ms_n u, ms_l u, ms_u u, ms_m u, ms_h u, ms_i u, ms_j u, ms_w u, ms_t u) j2), ms_w (fm_note (ms_c u, ms_o u, ms_b u, ms_v u, upd (ms_d u) j2 (vp_nar .boolean 1), ms_n u, ms_l u, ms_u u, ms_m u, ms_h u, ms_i u, ms_j u, ms_w u, ms_t u) j2), ms_t (fm_note (ms_c u, ms_o u, ms_b u, ms_v u, upd (ms_d u) j2 (vp_nar .boolean 1), ms_n u, ms_l u, ms_u u, ms_m u, ms_h u, ms_i u, ms_j u, ms_w u, ms_t u) j2))) := hD
          refine lv_iinc (k := 0) (v := ((0 + 1) + 1)) hx hb dX1_steps_143 hl rfl (zr_inc1 (0 + 1)) (by decide) rfl (fun ls hl => ?_)
          have hl : lv_has ls 8 [(6, .int ((0 + 1) + 1)), (7, .int 0), (5, .int (nI j2)), (0, .ref (a 0)), (1, .int (nI b)), (2, .long v), (4, .int q)] := hl
          refine lv_aload_n hx hb dX1_steps_146 rfl (lv_at hl 3 rfl) ?_
          refine lv_iload hx hb dX1_steps_147 (lv_at hl 2 rfl) ?_
          refine zr_Vv (w := fun z => wM n a ca z) (u := (ms_c (fm_note (ms_c u, ms_o u, ms_b u, ms_v u, upd (ms_d u) j2 (vp_nar .boolean 1), ms_n u, ms_l u, ms_u u, ms_m u, ms_h u, ms_i u, ms_j u, ms_w u, ms_t u) j2), ms_o (fm_note (ms_c u, ms_o u, ms_b u, ms_v u, upd (ms_d u) j2 (vp_nar .boolean 1), ms_n u, ms_l u, ms_u u, ms_m u, ms_h u, ms_i u, ms_j u, ms_w u, ms_t u) j2), ms_b (fm_note (ms_c u, ms_o u, ms_b u, ms_v u, upd (ms_d u) j2 (vp_nar .boolean 1), ms_n u, ms_l u, ms_u u, ms_m u, ms_h u, ms_i u, ms_j u, ms_w u, ms_t u) j2), vp_updL (ms_v (fm_note (ms_c u, ms_o u, ms_b u, ms_v u, upd (ms_d u) j2 (vp_nar .boolean 1), ms_n u, ms_l u, ms_u u, ms_m u, ms_h u, ms_i u, ms_j u, ms_w u, ms_t u) j2)) j2 v, upd (ms_d (fm_note (ms_c u, ms_o u, ms_b u, ms_v u, upd (ms_d u) j2 (vp_nar .boolean 1), ms_n u, ms_l u, ms_u u, ms_m u, ms_h u, ms_i u, ms_j u, ms_w u, ms_t u) j2)) j2 (vp_nar .boolean 1), ms_n (fm_note (ms_c u, ms_o u, ms_b u, ms_v u, upd (ms_d u) j2 (vp_nar .boolean 1), ms_n u, ms_l u, ms_u u, ms_m u, ms_h u, ms_i u, ms_j u, ms_w u, ms_t u) j2), ms_l (fm_note (ms_c u, ms_o u, ms_b u, ms_v u, upd (ms_d u) j2 (vp_nar .boolean 1), ms_n u, ms_l u, ms_u u, ms_m u, ms_h u, ms_i u, ms_j u, ms_w u, ms_t u) j2), ms_u (fm_note (ms_c u, ms_o u, ms_b u, ms_v u, upd (ms_d u) j2 (vp_nar .boolean 1), ms_n u, ms_l u, ms_u u, ms_m u, ms_h u, ms_i u, ms_j u, ms_w u, ms_t u) j2), ms_m (fm_note (ms_c u, ms_o u, ms_b u, ms_v u, upd (ms_d u) j2 (vp_nar .boolean 1), ms_n u, ms_l u, ms_u u, ms_m u, ms_h u, ms_i u, ms_j u, ms_w u, ms_t u) j2), ms_h (fm_note (ms_c u, ms_o u, ms_b u, ms_v u, upd (ms_d u) j2 (vp_nar .boolean 1), ms_n u, ms_l u, ms_u u, ms_m u, ms_h u, ms_i u, ms_j u, ms_w u, ms_t u) j2), ms_i (fm_note (ms_c u, ms_o u, ms_b u, ms_v u, upd (ms_d u) j2 (vp_nar .boolean 1), ms_n u, ms_l u, ms_u u, ms_m u, ms_h u, ms_i u, ms_j u, ms_w u, ms_t u) j2), ms_j (fm_note (ms_c u, ms_o u, ms_b u, ms_v u, upd (ms_d u) j2 (vp_nar .boolean 1), ms_n u, ms_l u, ms_u u, ms_m u, ms_h u, ms_i u, ms_j u, ms_w u, ms_t u) j2), ms_w (fm_note (ms_c u, ms_o u, ms_b u, ms_v u, upd (ms_d u) j2 (vp_nar .boolean 1), ms_n u, ms_l u, ms_u u, ms_m u, ms_h u, ms_i u, ms_j u, ms_w u, ms_t u) j2), ms_t (fm_note (ms_c u, ms_o u, ms_b u, ms_v u, upd (ms_d u) j2 (vp_nar .boolean 1), ms_n u, ms_l u, ms_u u, ms_m u, ms_h u, ms_i u, ms_j u, ms_w u, ms_t u) j2))) (u1 := fm_use (ms_c (fm_note (ms_c u, ms_o u, ms_b u, ms_v u, upd (ms_d u) j2 (vp_nar .boolean 1), ms_n u, ms_l u, ms_u u, ms_m u, ms_h u, ms_i u, ms_j u, ms_w u, ms_t u) j2), ms_o (fm_note (ms_c u, ms_o u, ms_b u, ms_v u, upd (ms_d u) j2 (vp_nar .boolean 1), ms_n u, ms_l u, ms_u u, ms_m u, ms_h u, ms_i u, ms_j u, ms_w u, ms_t u) j2), ms_b (fm_note (ms_c u, ms_o u, ms_b u, ms_v u, upd (ms_d u) j2 (vp_nar .boolean 1), ms_n u, ms_l u, ms_u u, ms_m u, ms_h u, ms_i u, ms_j u, ms_w u, ms_t u) j2), vp_updL (ms_v (fm_note (ms_c u, ms_o u, ms_b u, ms_v u, upd (ms_d u) j2 (vp_nar .boolean 1), ms_n u, ms_l u, ms_u u, ms_m u, ms_h u, ms_i u, ms_j u, ms_w u, ms_t u) j2)) j2 v, upd (ms_d (fm_note (ms_c u, ms_o u, ms_b u, ms_v u, upd (ms_d u) j2 (vp_nar .boolean 1), ms_n u, ms_l u, ms_u u, ms_m u, ms_h u, ms_i u, ms_j u, ms_w u, ms_t u) j2)) j2 (vp_nar .boolean 1), ms_n (fm_note (ms_c u, ms_o u, ms_b u, ms_v u, upd (ms_d u) j2 (vp_nar .boolean 1), ms_n u, ms_l u, ms_u u, ms_m u, ms_h u, ms_i u, ms_j u, ms_w u, ms_t u) j2), ms_l (fm_note (ms_c u, ms_o u, ms_b u, ms_v u, upd (ms_d u) j2 (vp_nar .boolean 1), ms_n u, ms_l u, ms_u u, ms_m u, ms_h u, ms_i u, ms_j u, ms_w u, ms_t u) j2), ms_u (fm_note (ms_c u, ms_o u, ms_b u, ms_v u, upd (ms_d u) j2 (vp_nar .boolean 1), ms_n u, ms_l u, ms_u u, ms_m u, ms_h u, ms_i u, ms_j u, ms_w u, ms_t u) j2), ms_m (fm_note (ms_c u, ms_o u, ms_b u, ms_v u, upd (ms_d u) j2 (vp_nar .boolean 1), ms_n u, ms_l u, ms_u u, ms_m u, ms_h u, ms_i u, ms_j u, ms_w u, ms_t u) j2), ms_h (fm_note (ms_c u, ms_o u, ms_b u, ms_v u, upd (ms_d u) j2 (vp_nar .boolean 1), ms_n u, ms_l u, ms_u u, ms_m u, ms_h u, ms_i u, ms_j u, ms_w u, ms_t u) j2), ms_i (fm_note (ms_c u, ms_o u, ms_b u, ms_v u, upd (ms_d u) j2 (vp_nar .boolean 1), ms_n u, ms_l u, ms_u u, ms_m u, ms_h u, ms_i u, ms_j u, ms_w u, ms_t u) j2), ms_j (fm_note (ms_c u, ms_o u, ms_b u, ms_v u, upd (ms_d u) j2 (vp_nar .boolean 1), ms_n u, ms_l u, ms_u u, ms_m u, ms_h u, ms_i u, ms_j u, ms_w u, ms_t u) j2), ms_w (fm_note (ms_c u, ms_o u, ms_b u, ms_v u, upd (ms_d u) j2 (vp_nar .boolean 1), ms_n u, ms_l u, ms_u u, ms_m u, ms_h u, ms_i u, ms_j u, ms_w u, ms_t u) j2), ms_t (fm_note (ms_c u, ms_o u, ms_b u, ms_v u, upd (ms_d u) j2 (vp_nar .boolean 1), ms_n u, ms_l u, ms_u u, ms_m u, ms_h u, ms_i u, ms_j u, ms_w u, ms_t u) j2)) j2) (As := [.int (nI j2)]) (rest := []) ⟨hx, hb, hml, hown, hts⟩ (c_M_use l dC dI n a ca (ms_c (fm_note (ms_c u, ms_o u, ms_b u, ms_v u, upd (ms_d u) j2 (vp_nar .boolean 1), ms_n u, ms_l u, ms_u u, ms_m u, ms_h u, ms_i u, ms_j u, ms_w u, ms_t u) j2), ms_o (fm_note (ms_c u, ms_o u, ms_b u, ms_v u, upd (ms_d u) j2 (vp_nar .boolean 1), ms_n u, ms_l u, ms_u u, ms_m u, ms_h u, ms_i u, ms_j u, ms_w u, ms_t u) j2), ms_b (fm_note (ms_c u, ms_o u, ms_b u, ms_v u, upd (ms_d u) j2 (vp_nar .boolean 1), ms_n u, ms_l u, ms_u u, ms_m u, ms_h u, ms_i u, ms_j u, ms_w u, ms_t u) j2), vp_updL (ms_v (fm_note (ms_c u, ms_o u, ms_b u, ms_v u, upd (ms_d u) j2 (vp_nar .boolean 1), ms_n u, ms_l u, ms_u u, ms_m u, ms_h u, ms_i u, ms_j u, ms_w u, ms_t u) j2)) j2 v, upd (ms_d (fm_note (ms_c u, ms_o u, ms_b u, ms_v u, upd (ms_d u) j2 (vp_nar .boolean 1), ms_n u, ms_l u, ms_u u, ms_m u, ms_h u, ms_i u, ms_j u, ms_w u, ms_t u) j2)) j2 (vp_nar .boolean 1), ms_n (fm_note (ms_c u, ms_o u, ms_b u, ms_v u, upd (ms_d u) j2 (vp_nar .boolean 1), ms_n u, ms_l u, ms_u u, ms_m u, ms_h u, ms_i u, ms_j u, ms_w u, ms_t u) j2), ms_l (fm_note (ms_c u, ms_o u, ms_b u, ms_v u, upd (ms_d u) j2 (vp_nar .boolean 1), ms_n u, ms_l u, ms_u u, ms_m u, ms_h u, ms_i u, ms_j u, ms_w u, ms_t u) j2), ms_u (fm_note (ms_c u, ms_o u, ms_b u, ms_v u, upd (ms_d u) j2 (vp_nar .boolean 1), ms_n u, ms_l u, ms_u u, ms_m u, ms_h u, ms_i u, ms_j u, ms_w u, ms_t u) j2), ms_m (fm_note (ms_c u, ms_o u, ms_b u, ms_v u, upd (ms_d u) j2 (vp_nar .boolean 1), ms_n u, ms_l u, ms_u u, ms_m u, ms_h u, ms_i u, ms_j u, ms_w u, ms_t u) j2), ms_h (fm_note (ms_c u, ms_o u, ms_b u, ms_v u, upd (ms_d u) j2 (vp_nar .boolean 1), ms_n u, ms_l u, ms_u u, ms_m u, ms_h u, ms_i u, ms_j u, ms_w u, ms_t u) j2), ms_i (fm_note (ms_c u, ms_o u, ms_b u, ms_v u, upd (ms_d u) j2 (vp_nar .boolean 1), ms_n u, ms_l u, ms_u u, ms_m u, ms_h u, ms_i u, ms_j u, ms_w u, ms_t u) j2), ms_j (fm_note (ms_c u, ms_o u, ms_b u, ms_v u, upd (ms_d u) j2 (vp_nar .boolean 1), ms_n u, ms_l u, ms_u u, ms_m u, ms_h u, ms_i u, ms_j u, ms_w u, ms_t u) j2), ms_w (fm_note (ms_c u, ms_o u, ms_b u, ms_v u, upd (ms_d u) j2 (vp_nar .boolean 1), ms_n u, ms_l u, ms_u u, ms_m u, ms_h u, ms_i u, ms_j u, ms_w u, ms_t u) j2), ms_t (fm_note (ms_c u, ms_o u, ms_b u, ms_v u, upd (ms_d u) j2 (vp_nar .boolean 1), ms_n u, ms_l u, ms_u u, ms_m u, ms_h u, ms_i u, ms_j u, ms_w u, ms_t u) j2)) H.size j2 hn (by omega)) (cwV 1 hts gX1_steps_X1_use rfl rfl rfl (by decide +kernel) ⟨Nat.le_of_ble_eq_true rfl, Nat.le_of_ble_eq_true rfl⟩) hK hP hD hS hA (va_recv (q0 := 0) (ci := 1) (q := (RX1, TX1, 15)) hK hP rfl rfl) rfl hl.1 rfl (Nat.le_of_ble_eq_true rfl) dX1_steps_149 (fun H locs hP hD hS => ?_) ⟨Nat.le_of_ble_eq_true rfl, Nat.le_of_ble_eq_true rfl⟩
          have hP : va_P (dC, dI) vwCl (wM n a ca (fm_use (ms_c (fm_note (ms_c u, ms_o u, ms_b u, ms_v u, upd (ms_d u) j2 (vp_nar .boolean 1), ms_n u, ms_l u, ms_u u, ms_m u, ms_h u, ms_i u, ms_j u, ms_w u, ms_t u) j2), ms_o (fm_note (ms_c u, ms_o u, ms_b u, ms_v u, upd (ms_d u) j2 (vp_nar .boolean 1), ms_n u, ms_l u, ms_u u, ms_m u, ms_h u, ms_i u, ms_j u, ms_w u, ms_t u) j2), ms_b (fm_note (ms_c u, ms_o u, ms_b u, ms_v u, upd (ms_d u) j2 (vp_nar .boolean 1), ms_n u, ms_l u, ms_u u, ms_m u, ms_h u, ms_i u, ms_j u, ms_w u, ms_t u) j2), vp_updL (ms_v (fm_note (ms_c u, ms_o u, ms_b u, ms_v u, upd (ms_d u) j2 (vp_nar .boolean 1), ms_n u, ms_l u, ms_u u, ms_m u, ms_h u, ms_i u, ms_j u, ms_w u, ms_t u) j2)) j2 v, upd (ms_d (fm_note (ms_c u, ms_o u, ms_b u, ms_v u, upd (ms_d u) j2 (vp_nar .boolean 1), ms_n u, ms_l u, ms_u u, ms_m u, ms_h u, ms_i u, ms_j u, ms_w u, ms_t u) j2)) j2 (vp_nar .boolean 1), ms_n (fm_note (ms_c u, ms_o u, ms_b u, ms_v u, upd (ms_d u) j2 (vp_nar .boolean 1), ms_n u, ms_l u, ms_u u, ms_m u, ms_h u, ms_i u, ms_j u, ms_w u, ms_t u) j2), ms_l (fm_note (ms_c u, ms_o u, ms_b u, ms_v u, upd (ms_d u) j2 (vp_nar .boolean 1), ms_n u, ms_l u, ms_u u, ms_m u, ms_h u, ms_i u, ms_j u, ms_w u, ms_t u) j2), ms_u (fm_note (ms_c u, ms_o u, ms_b u, ms_v u, upd (ms_d u) j2 (vp_nar .boolean 1), ms_n u, ms_l u, ms_u u, ms_m u, ms_h u, ms_i u, ms_j u, ms_w u, ms_t u) j2), ms_m (fm_note (ms_c u, ms_o u, ms_b u, ms_v u, upd (ms_d u) j2 (vp_nar .boolean 1), ms_n u, ms_l u, ms_u u, ms_m u, ms_h u, ms_i u, ms_j u, ms_w u, ms_t u) j2), ms_h (fm_note (ms_c u, ms_o u, ms_b u, ms_v u, upd (ms_d u) j2 (vp_nar .boolean 1), ms_n u, ms_l u, ms_u u, ms_m u, ms_h u, ms_i u, ms_j u, ms_w u, ms_t u) j2), ms_i (fm_note (ms_c u, ms_o u, ms_b u, ms_v u, upd (ms_d u) j2 (vp_nar .boolean 1), ms_n u, ms_l u, ms_u u, ms_m u, ms_h u, ms_i u, ms_j u, ms_w u, ms_t u) j2), ms_j (fm_note (ms_c u, ms_o u, ms_b u, ms_v u, upd (ms_d u) j2 (vp_nar .boolean 1), ms_n u, ms_l u, ms_u u, ms_m u, ms_h u, ms_i u, ms_j u, ms_w u, ms_t u) j2), ms_w (fm_note (ms_c u, ms_o u, ms_b u, ms_v u, upd (ms_d u) j2 (vp_nar .boolean 1), ms_n u, ms_l u, ms_u u, ms_m u, ms_h u, ms_i u, ms_j u, ms_w u, ms_t u) j2), ms_t (fm_note (ms_c u, ms_o u, ms_b u, ms_v u, upd (ms_d u) j2 (vp_nar .boolean 1), ms_n u, ms_l u, ms_u u, ms_m u, ms_h u, ms_i u, ms_j u, ms_w u, ms_t u) j2)) j2)) H := hP
          have hD : va_D A (wM n a ca (fm_use (ms_c (fm_note (ms_c u, ms_o u, ms_b u, ms_v u, upd (ms_d u) j2 (vp_nar .boolean 1), ms_n u, ms_l u, ms_u u, ms_m u, ms_h u, ms_i u, ms_j u, ms_w u, ms_t u) j2), ms_o (fm_note (ms_c u, ms_o u, ms_b u, ms_v u, upd (ms_d u) j2 (vp_nar .boolean 1), ms_n u, ms_l u, ms_u u, ms_m u, ms_h u, ms_i u, ms_j u, ms_w u, ms_t u) j2), ms_b (fm_note (ms_c u, ms_o u, ms_b u, ms_v u, upd (ms_d u) j2 (vp_nar .boolean 1), ms_n u, ms_l u, ms_u u, ms_m u, ms_h u, ms_i u, ms_j u, ms_w u, ms_t u) j2), vp_updL (ms_v (fm_note (ms_c u, ms_o u, ms_b u, ms_v u, upd (ms_d u) j2 (vp_nar .boolean 1), ms_n u, ms_l u, ms_u u, ms_m u, ms_h u, ms_i u, ms_j u, ms_w u, ms_t u) j2)) j2 v, upd (ms_d (fm_note (ms_c u, ms_o u, ms_b u, ms_v u, upd (ms_d u) j2 (vp_nar .boolean 1), ms_n u, ms_l u, ms_u u, ms_m u, ms_h u, ms_i u, ms_j u, ms_w u, ms_t u) j2)) j2 (vp_nar .boolean 1), ms_n (fm_note (ms_c u, ms_o u, ms_b u, ms_v u, upd (ms_d u) j2 (vp_nar .boolean 1), ms_n u, ms_l u, ms_u u, ms_m u, ms_h u, ms_i u, ms_j u, ms_w u, ms_t u) j2), ms_l (fm_note (ms_c u, ms_o u, ms_b u, ms_v u, upd (ms_d u) j2 (vp_nar .boolean 1), ms_n u, ms_l u, ms_u u, ms_m u, ms_h u, ms_i u, ms_j u, ms_w u, ms_t u) j2), ms_u (fm_note (ms_c u, ms_o u, ms_b u, ms_v u, upd (ms_d u) j2 (vp_nar .boolean 1), ms_n u, ms_l u, ms_u u, ms_m u, ms_h u, ms_i u, ms_j u, ms_w u, ms_t u) j2), ms_m (fm_note (ms_c u, ms_o u, ms_b u, ms_v u, upd (ms_d u) j2 (vp_nar .boolean 1), ms_n u, ms_l u, ms_u u, ms_m u, ms_h u, ms_i u, ms_j u, ms_w u, ms_t u) j2), ms_h (fm_note (ms_c u, ms_o u, ms_b u, ms_v u, upd (ms_d u) j2 (vp_nar .boolean 1), ms_n u, ms_l u, ms_u u, ms_m u, ms_h u, ms_i u, ms_j u, ms_w u, ms_t u) j2), ms_i (fm_note (ms_c u, ms_o u, ms_b u, ms_v u, upd (ms_d u) j2 (vp_nar .boolean 1), ms_n u, ms_l u, ms_u u, ms_m u, ms_h u, ms_i u, ms_j u, ms_w u, ms_t u) j2), ms_j (fm_note (ms_c u, ms_o u, ms_b u, ms_v u, upd (ms_d u) j2 (vp_nar .boolean 1), ms_n u, ms_l u, ms_u u, ms_m u, ms_h u, ms_i u, ms_j u, ms_w u, ms_t u) j2), ms_w (fm_note (ms_c u, ms_o u, ms_b u, ms_v u, upd (ms_d u) j2 (vp_nar .boolean 1), ms_n u, ms_l u, ms_u u, ms_m u, ms_h u, ms_i u, ms_j u, ms_w u, ms_t u) j2), ms_t (fm_note (ms_c u, ms_o u, ms_b u, ms_v u, upd (ms_d u) j2 (vp_nar .boolean 1), ms_n u, ms_l u, ms_u u, ms_m u, ms_h u, ms_i u, ms_j u, ms_w u, ms_t u) j2)) j2)) := hD
          refine lv_iload hx hb dX1_steps_152 (lv_at hl 0 rfl) ?_
          exact W.iret (v := ((0 + 1) + 1)) hx hb hr (fun t ht hW => ⟨⟨((0 + 1) + 1), fm_use (ms_c (fm_note (ms_c u, ms_o u, ms_b u, ms_v u, upd (ms_d u) j2 (vp_nar .boolean 1), ms_n u, ms_l u, ms_u u, ms_m u, ms_h u, ms_i u, ms_j u, ms_w u, ms_t u) j2), ms_o (fm_note (ms_c u, ms_o u, ms_b u, ms_v u, upd (ms_d u) j2 (vp_nar .boolean 1), ms_n u, ms_l u, ms_u u, ms_m u, ms_h u, ms_i u, ms_j u, ms_w u, ms_t u) j2), ms_b (fm_note (ms_c u, ms_o u, ms_b u, ms_v u, upd (ms_d u) j2 (vp_nar .boolean 1), ms_n u, ms_l u, ms_u u, ms_m u, ms_h u, ms_i u, ms_j u, ms_w u, ms_t u) j2), vp_updL (ms_v (fm_note (ms_c u, ms_o u, ms_b u, ms_v u, upd (ms_d u) j2 (vp_nar .boolean 1), ms_n u, ms_l u, ms_u u, ms_m u, ms_h u, ms_i u, ms_j u, ms_w u, ms_t u) j2)) j2 v, upd (ms_d (fm_note (ms_c u, ms_o u, ms_b u, ms_v u, upd (ms_d u) j2 (vp_nar .boolean 1), ms_n u, ms_l u, ms_u u, ms_m u, ms_h u, ms_i u, ms_j u, ms_w u, ms_t u) j2)) j2 (vp_nar .boolean 1), ms_n (fm_note (ms_c u, ms_o u, ms_b u, ms_v u, upd (ms_d u) j2 (vp_nar .boolean 1), ms_n u, ms_l u, ms_u u, ms_m u, ms_h u, ms_i u, ms_j u, ms_w u, ms_t u) j2), ms_l (fm_note (ms_c u, ms_o u, ms_b u, ms_v u, upd (ms_d u) j2 (vp_nar .boolean 1), ms_n u, ms_l u, ms_u u, ms_m u, ms_h u, ms_i u, ms_j u, ms_w u, ms_t u) j2), ms_u (fm_note (ms_c u, ms_o u, ms_b u, ms_v u, upd (ms_d u) j2 (vp_nar .boolean 1), ms_n u, ms_l u, ms_u u, ms_m u, ms_h u, ms_i u, ms_j u, ms_w u, ms_t u) j2), ms_m (fm_note (ms_c u, ms_o u, ms_b u, ms_v u, upd (ms_d u) j2 (vp_nar .boolean 1), ms_n u, ms_l u, ms_u u, ms_m u, ms_h u, ms_i u, ms_j u, ms_w u, ms_t u) j2), ms_h (fm_note (ms_c u, ms_o u, ms_b u, ms_v u, upd (ms_d u) j2 (vp_nar .boolean 1), ms_n u, ms_l u, ms_u u, ms_m u, ms_h u, ms_i u, ms_j u, ms_w u, ms_t u) j2), ms_i (fm_note (ms_c u, ms_o u, ms_b u, ms_v u, upd (ms_d u) j2 (vp_nar .boolean 1), ms_n u, ms_l u, ms_u u, ms_m u, ms_h u, ms_i u, ms_j u, ms_w u, ms_t u) j2), ms_j (fm_note (ms_c u, ms_o u, ms_b u, ms_v u, upd (ms_d u) j2 (vp_nar .boolean 1), ms_n u, ms_l u, ms_u u, ms_m u, ms_h u, ms_i u, ms_j u, ms_w u, ms_t u) j2), ms_w (fm_note (ms_c u, ms_o u, ms_b u, ms_v u, upd (ms_d u) j2 (vp_nar .boolean 1), ms_n u, ms_l u, ms_u u, ms_m u, ms_h u, ms_i u, ms_j u, ms_w u, ms_t u) j2), ms_t (fm_note (ms_c u, ms_o u, ms_b u, ms_v u, upd (ms_d u) j2 (vp_nar .boolean 1), ms_n u, ms_l u, ms_u u, ms_m u, ms_h u, ms_i u, ms_j u, ms_w u, ms_t u) j2)) j2, rfl, ⟨(by first | rfl | (simp only [fm_steps, fm_stF, fm_stO, fm_stW, fm_setb, fm_setv, fm_setd, hf1, if_neg h6, if_neg h7, if_neg h8] <;> rfl)), (by first | rfl | (simp only [fm_steps, fm_stF, fm_stO, fm_stW, fm_setb, fm_setv, fm_setd, hf1, if_neg h6, if_neg h7, if_neg h8] <;> rfl))⟩, ⟨by rw [ht]; exact hP, va_K.moved hW.alike hK, hD⟩⟩, hS.F ht⟩) hS.2.2 dX1_steps_154
    · refine lv_iconst (v := 1) hx hb dX1_steps_86 (by decide) ?_
      refine lv_goto hx hb dX1_steps_87 (tgt := 91) rfl ?_
      refine lv_istore hx hb dX1_steps_91 hl (by decide) rfl (fun ls hl => ?_)
      have hl : lv_has ls 8 [(7, .int 1), (6, .int 0), (5, .int (nI j2)), (0, .ref (a 0)), (1, .int (nI b)), (2, .long v), (4, .int q)] := hl
      refine lv_iload hx hb dX1_steps_93 (lv_at hl 0 rfl) ?_
      refine lv_if_ne hx hb dX1_steps_95 (tgt := 120) rfl (fun _ => ?_) (fun h => absurd h (by decide))
      refine lv_iload hx hb dX1_steps_120 (lv_at hl 6 rfl) ?_
      refine lv_iload hx hb dX1_steps_122 (lv_at hl 1 rfl) ?_
      refine lv_icmp_le hx hb dX1_steps_124 (tgt := 146) rfl (fun h9 => ?_) (fun h9 => ?_)
      · refine lv_aload_n hx hb dX1_steps_146 rfl (lv_at hl 3 rfl) ?_
        refine lv_iload hx hb dX1_steps_147 (lv_at hl 2 rfl) ?_
        refine zr_Vv (w := fun z => wM n a ca z) (u := u) (u1 := fm_use u j2) (As := [.int (nI j2)]) (rest := []) ⟨hx, hb, hml, hown, hts⟩ (c_M_use l dC dI n a ca u H.size j2 hn (by omega)) (cwV 1 hts gX1_steps_X1_use rfl rfl rfl (by decide +kernel) ⟨Nat.le_of_ble_eq_true rfl, Nat.le_of_ble_eq_true rfl⟩) hK hP hD hS hA (va_recv (q0 := 0) (ci := 1) (q := (RX1, TX1, 15)) hK hP rfl rfl) rfl hl.1 rfl (Nat.le_of_ble_eq_true rfl) dX1_steps_149 (fun H locs hP hD hS => ?_) ⟨Nat.le_of_ble_eq_true rfl, Nat.le_of_ble_eq_true rfl⟩
        have hP : va_P (dC, dI) vwCl (wM n a ca (fm_use u j2)) H := hP
        have hD : va_D A (wM n a ca (fm_use u j2)) := hD
        refine lv_iload hx hb dX1_steps_152 (lv_at hl 1 rfl) ?_
        exact W.iret (v := 0) hx hb hr (fun t ht hW => ⟨⟨0, fm_use u j2, rfl, ⟨(by first | rfl | (simp only [fm_steps, fm_stF, fm_stO, fm_stW, fm_setb, fm_setv, fm_setd, hf1, if_pos h6, if_pos h9] <;> rfl)), (by first | rfl | (simp only [fm_steps, fm_stF, fm_stO, fm_stW, fm_setb, fm_setv, fm_setd, hf1, if_pos h6, if_pos h9] <;> rfl))⟩, ⟨by rw [ht]; exact hP, va_K.moved hW.alike hK, hD⟩⟩, hS.F ht⟩) hS.2.2 dX1_steps_154
      · refine lv_aload_n hx hb dX1_steps_127 rfl (lv_at hl 3 rfl) ?_
        refine va_get (D := (dC, dI)) (ci := 1) (v := .ref (a 3)) (C := RX1) (T := TX1) (N := 15) hx hb hts hin9 hown hK hP 0 rfl rfl 4 (by decide) (hts _ (List.mem_cons_of_mem _ mf_X1_17)) (fun _ h9 => h9) rfl dX1_steps_128 ?_
        refine lv_iload hx hb dX1_steps_131 (lv_at hl 2 rfl) ?_
        refine lv_lload_n hx hb dX1_steps_133 rfl (lv_at hl 5 rfl) ?_
        refine zr_last (k := j2) hx hb hK hP hD hS 3 2 rfl rfl (by omega) (by omega) dX1_steps_134 (fun H locs hP hD hS => ?_)
        have hP : va_P (dC, dI) vwCl (wM n a ca (ms_c u, ms_o u, ms_b u, vp_updL (ms_v u) j2 v, ms_d u, ms_n u, ms_l u, ms_u u, ms_m u, ms_h u, ms_i u, ms_j u, ms_w u, ms_t u)) H := hP
        have hD : va_D A (wM n a ca (ms_c u, ms_o u, ms_b u, vp_updL (ms_v u) j2 v, ms_d u, ms_n u, ms_l u, ms_u u, ms_m u, ms_h u, ms_i u, ms_j u, ms_w u, ms_t u)) := hD
        refine lv_aload_n hx hb dX1_steps_135 rfl (lv_at hl 3 rfl) ?_
        refine va_get (D := (dC, dI)) (ci := 1) (v := .ref (a 4)) (C := RX1) (T := TX1) (N := 15) hx hb hts hin9 hown hK hP 0 rfl rfl 5 (by decide) (hts _ (List.mem_cons_of_mem _ mf_X1_20)) (fun _ h9 => h9) rfl dX1_steps_136 ?_
        refine lv_iload hx hb dX1_steps_139 (lv_at hl 2 rfl) ?_
        refine lv_iconst (v := 1) hx hb dX1_steps_141 (by decide) ?_
        refine zr_zast (k := j2) hx hb hK hP hD hS 4 3 rfl rfl (by omega) (by omega) dX1_steps_142 (fun H locs hP hD hS => ?_)
        have hP : va_P (dC, dI) vwCl (wM n a ca (ms_c u, ms_o u, ms_b u, vp_updL (ms_v u) j2 v, upd (ms_d u) j2 (vp_nar .boolean 1), ms_n u, ms_l u, ms_u u, ms_m u, ms_h u, ms_i u, ms_j u, ms_w u, ms_t u)) H := hP
        have hD : va_D A (wM n a ca (ms_c u, ms_o u, ms_b u, vp_updL (ms_v u) j2 v, upd (ms_d u) j2 (vp_nar .boolean 1), ms_n u, ms_l u, ms_u u, ms_m u, ms_h u, ms_i u, ms_j u, ms_w u, ms_t u)) := hD
        refine lv_iinc (k := 1) (v := (0 + 1)) hx hb dX1_steps_143 hl rfl (zr_inc1 0) (by decide) rfl (fun ls hl => ?_)
        have hl : lv_has ls 8 [(6, .int (0 + 1)), (7, .int 1), (5, .int (nI j2)), (0, .ref (a 0)), (1, .int (nI b)), (2, .long v), (4, .int q)] := hl
        refine lv_aload_n hx hb dX1_steps_146 rfl (lv_at hl 3 rfl) ?_
        refine lv_iload hx hb dX1_steps_147 (lv_at hl 2 rfl) ?_
        refine zr_Vv (w := fun z => wM n a ca z) (u := (ms_c u, ms_o u, ms_b u, vp_updL (ms_v u) j2 v, upd (ms_d u) j2 (vp_nar .boolean 1), ms_n u, ms_l u, ms_u u, ms_m u, ms_h u, ms_i u, ms_j u, ms_w u, ms_t u)) (u1 := fm_use (ms_c u, ms_o u, ms_b u, vp_updL (ms_v u) j2 v, upd (ms_d u) j2 (vp_nar .boolean 1), ms_n u, ms_l u, ms_u u, ms_m u, ms_h u, ms_i u, ms_j u, ms_w u, ms_t u) j2) (As := [.int (nI j2)]) (rest := []) ⟨hx, hb, hml, hown, hts⟩ (c_M_use l dC dI n a ca (ms_c u, ms_o u, ms_b u, vp_updL (ms_v u) j2 v, upd (ms_d u) j2 (vp_nar .boolean 1), ms_n u, ms_l u, ms_u u, ms_m u, ms_h u, ms_i u, ms_j u, ms_w u, ms_t u) H.size j2 hn (by omega)) (cwV 1 hts gX1_steps_X1_use rfl rfl rfl (by decide +kernel) ⟨Nat.le_of_ble_eq_true rfl, Nat.le_of_ble_eq_true rfl⟩) hK hP hD hS hA (va_recv (q0 := 0) (ci := 1) (q := (RX1, TX1, 15)) hK hP rfl rfl) rfl hl.1 rfl (Nat.le_of_ble_eq_true rfl) dX1_steps_149 (fun H locs hP hD hS => ?_) ⟨Nat.le_of_ble_eq_true rfl, Nat.le_of_ble_eq_true rfl⟩
        have hP : va_P (dC, dI) vwCl (wM n a ca (fm_use (ms_c u, ms_o u, ms_b u, vp_updL (ms_v u) j2 v, upd (ms_d u) j2 (vp_nar .boolean 1), ms_n u, ms_l u, ms_u u, ms_m u, ms_h u, ms_i u, ms_j u, ms_w u, ms_t u) j2)) H := hP
        have hD : va_D A (wM n a ca (fm_use (ms_c u, ms_o u, ms_b u, vp_updL (ms_v u) j2 v, upd (ms_d u) j2 (vp_nar .boolean 1), ms_n u, ms_l u, ms_u u, ms_m u, ms_h u, ms_i u, ms_j u, ms_w u, ms_t u) j2)) := hD
        refine lv_iload hx hb dX1_steps_152 (lv_at hl 0 rfl) ?_
        exact W.iret (v := (0 + 1)) hx hb hr (fun t ht hW => ⟨⟨(0 + 1), fm_use (ms_c u, ms_o u, ms_b u, vp_updL (ms_v u) j2 v, upd (ms_d u) j2 (vp_nar .boolean 1), ms_n u, ms_l u, ms_u u, ms_m u, ms_h u, ms_i u, ms_j u, ms_w u, ms_t u) j2, rfl, ⟨(by first | rfl | (simp only [fm_steps, fm_stF, fm_stO, fm_stW, fm_setb, fm_setv, fm_setd, hf1, if_pos h6, if_neg h9] <;> rfl)), (by first | rfl | (simp only [fm_steps, fm_stF, fm_stO, fm_stW, fm_setb, fm_setv, fm_setd, hf1, if_pos h6, if_neg h9] <;> rfl))⟩, ⟨by rw [ht]; exact hP, va_K.moved hW.alike hK, hD⟩⟩, hS.F ht⟩) hS.2.2 dX1_steps_154
set_option maxHeartbeats 4000000 in
set_option maxRecDepth 100000 in
theorem c_M_stop (l : Launch) (dC : Nat → ClassId) (dI : Nat → Nat → Nat) (n : Nat) (a : Nat → Nat) (ca : Nat → ClassId) (u : StM) (sz : Nat) (hn : n ≤ 12) : Met l yX1_stop wsX1_stop ({ frames := 1, cells := 0, slots := 0, locals := 21 }) (va_Pc [.ref (a 0)] (zr_P (dC, dI) vwCl (tM ca) (wM n a ca u) sz)) (va_Qv (fun u' => u' = fm_stop n u) (fun u' => zr_B (dC, dI) vwCl (tM ca) (va_A (wM n a ca u) sz) (wM n a ca u')) (va_A (wM n a ca u) sz)) 0 0 (va_A (wM n a ca u) sz) := by
  refine Met.ofW (cc := cX1_stop) (maxL := 2) (ret := none) (by decide) rfl ?_
  intro p e s m args below meth c s₁ B hml hv
  obtain ⟨rfl, hsz, hP, hK, hD0⟩ := hv
  have hx := B.exec
  have hb := B.bytes
  have hr := B.returns
  have hts := atoms_spec (ws := wsX1_stop) B.pre
  have hown : s.vm.findClass RX1 = some m.cls := findClass_of_methodNamed B.named
  have hlocks := B.notSynchronized
  subst hsz
  have hD := hD0.self (sz := s.heap.size)
  generalize hAe : va_A (wM n a ca u) s.heap.size = A at hD ⊢
  have hA : ∀ q : Nat, s.heap.size ≤ q → A q := fun q h => by rw [← hAe]; exact Or.inr h
  obtain ⟨H, hH, hP, hS⟩ : ∃ H, H = s.heap ∧ va_P (dC, dI) vwCl (wM n a ca u) H ∧ va_S A s.heap H [] := ⟨_, rfl, hP, va_S.rf⟩
  have hin9 : ∀ w ∈ u_ws RX1 TX1 15, w ∈ wsX1_stop := fun w h => List.mem_cons_of_mem _ (hinX1 w h)
  rw [← hH]
  have hl := lv_entry ([.ref (a 0)]) (n := 2) (Nat.le_of_ble_eq_true rfl)
  rw [lg_entry_eq]
  generalize (lg_sl ([.ref (a 0)]) ++ List.replicate (2 - (lg_sl ([.ref (a 0)])).length) Slot.unset).toArray = ls at hl ⊢
  have hl : lv_has ls 2 [(0, .ref (a 0))] := hl
  refine lv_iconst (v := 0) hx hb dX1_stop_0 (by decide) ?_
  refine lv_istore_n hx hb dX1_stop_1 rfl hl (by decide) rfl (fun ls hl => ?_)
  have hl : lv_has ls 2 [(1, .int 0), (0, .ref (a 0))] := hl
  refine zr_loop (fun r (x0 : Nat × StM) ls H locs => r + x0.1 = n ∧ fm_stopL n r x0.1 x0.2 = fm_stopL n n 0 u ∧ lv_has ls 2 [(0, .ref (a 0)), (1, .int (nI x0.1))] ∧ va_P (dC, dI) vwCl (wM n a ca x0.2) H ∧ va_D A (wM n a ca x0.2) ∧ va_S A s.heap H locs) (fun ls => F0 m 2 ls []) ?_ n (0, u) _ _ _ ⟨by omega, rfl, lv_sub hl [1, 0] rfl, hP, hD, hS⟩
  rintro r ⟨k, w⟩ ls H locs ih ⟨hrk, hinv, hl, hP, hD, hS⟩
  have hrk : r + k = n := hrk
  have hinv : fm_stopL n r k w = fm_stopL n n 0 u := hinv
  have hl : lv_has ls 2 [(0, .ref (a 0)), (1, .int (nI k))] := hl
  have hP : va_P (dC, dI) vwCl (wM n a ca w) H := hP
  have hD : va_D A (wM n a ca w) := hD
  refine lv_iload_n hx hb dX1_stop_2 rfl (lv_at hl 1 rfl) ?_
  refine lv_aload_n hx hb dX1_stop_3 rfl (lv_at hl 0 rfl) ?_
  refine va_get (D := (dC, dI)) (ci := 1) (v := .int (nI n)) (C := RX1) (T := TX1) (N := 15) hx hb hts hin9 hown hK hP 0 rfl rfl 1 (by decide) (hts _ (List.mem_cons_of_mem _ mf_X1_30)) (fun _ h9 => h9) rfl dX1_stop_4 ?_
  refine lv_icmp_ge hx hb dX1_stop_7 (tgt := 81) rfl (fun h1 => ?_) (fun h1 => ?_)
  · have h1 := zr_ge (by omega) (by omega) h1
    obtain rfl : r = 0 := by omega
    refine lv_aload_n hx hb dX1_stop_81 rfl (lv_at hl 0 rfl) ?_
    refine lv_iconst (v := 0) hx hb dX1_stop_82 (by decide) ?_
    refine va_put (D := (dC, dI)) (ci := 1) (v := .int 0) (ty := .int) (C := RX1) (T := TX1) (N := 15) hx hb hts hin9 tyX1 tyX1_ok nmX1 hown hK hP hD hS 0 rfl rfl 9 (by decide) (hts _ (List.mem_cons_of_mem _ mf_X1_87)) (fun _ h9 => h9) rfl (by decide +kernel) rfl rfl (Nat.le_of_ble_eq_true rfl) dX1_stop_83 (fun H locs hP hD hS => ?_)
    have hP : va_P (dC, dI) vwCl (wM n a ca (ms_c w, ms_o w, ms_b w, ms_v w, ms_d w, ms_n w, ms_l w, ms_u w, 0, ms_h w, ms_i w, ms_j w, ms_w w, ms_t w)) H := hP
    have hD : va_D A (wM n a ca (ms_c w, ms_o w, ms_b w, ms_v w, ms_d w, ms_n w, ms_l w, ms_u w, 0, ms_h w, ms_i w, ms_j w, ms_w w, ms_t w)) := hD
    refine lv_aload_n hx hb dX1_stop_86 rfl (lv_at hl 0 rfl) ?_
    refine lv_iconst (v := 0) hx hb dX1_stop_87 (by decide) ?_
    refine va_put (D := (dC, dI)) (ci := 1) (v := .int 0) (ty := .int) (C := RX1) (T := TX1) (N := 15) hx hb hts hin9 tyX1 tyX1_ok nmX1 hown hK hP hD hS 0 rfl rfl 10 (by decide) (hts _ (List.mem_cons_of_mem _ mf_X1_98)) (fun _ h9 => h9) rfl (by decide +kernel) rfl rfl (Nat.le_of_ble_eq_true rfl) dX1_stop_88 (fun H locs hP hD hS => ?_)
    have hP : va_P (dC, dI) vwCl (wM n a ca (ms_c w, ms_o w, ms_b w, ms_v w, ms_d w, ms_n w, ms_l w, ms_u w, 0, 0, ms_i w, ms_j w, ms_w w, ms_t w)) H := hP
    have hD : va_D A (wM n a ca (ms_c w, ms_o w, ms_b w, ms_v w, ms_d w, ms_n w, ms_l w, ms_u w, 0, 0, ms_i w, ms_j w, ms_w w, ms_t w)) := hD
    exact W.vret hx hb hr (fun t ht hW => ⟨⟨(ms_c w, ms_o w, ms_b w, ms_v w, ms_d w, ms_n w, ms_l w, ms_u w, 0, 0, ms_i w, ms_j w, ms_w w, ms_t w), rfl, (by first | rfl | (rw [← hinv] <;> rfl) | (rw [← hinv]; simp only [fm_stop, fm_stopL] <;> rfl) | (simp only [fm_stop, fm_stopL]; rw [← hinv] <;> rfl) | (simp only [fm_stop, fm_stopL]; rw [← hinv]; simp only [fm_stop, fm_stopL] <;> rfl) | (simp only [fm_stop, fm_stopL] <;> rfl)), ⟨by rw [ht]; exact hP, va_K.moved hW.alike hK, hD⟩⟩, hS.F ht⟩) hS.2.2 dX1_stop_91
  · have h1 := zr_lt (by omega) (by omega) h1
    obtain ⟨r', rfl⟩ : ∃ z, r = z + 1 := ⟨r - 1, by omega⟩
    refine lv_aload_n hx hb dX1_stop_10 rfl (lv_at hl 0 rfl) ?_
    refine va_get (D := (dC, dI)) (ci := 1) (v := .ref (a 2)) (C := RX1) (T := TX1) (N := 15) hx hb hts hin9 hown hK hP 0 rfl rfl 3 (by decide) (hts _ (List.mem_cons_of_mem _ mf_X1_13)) (fun _ h9 => h9) rfl dX1_stop_11 ?_
    refine lv_iload_n hx hb dX1_stop_14 rfl (lv_at hl 1 rfl) ?_
    refine lv_aload_n hx hb dX1_stop_15 rfl (lv_at hl 0 rfl) ?_
    refine va_get (D := (dC, dI)) (ci := 1) (v := .ref (a 5)) (C := RX1) (T := TX1) (N := 15) hx hb hts hin9 hown hK hP 0 rfl rfl 6 (by decide) (hts _ (List.mem_cons_of_mem _ mf_X1_24)) (fun _ h9 => h9) rfl dX1_stop_16 ?_
    refine lv_iload_n hx hb dX1_stop_19 rfl (lv_at hl 1 rfl) ?_
    refine zr_iald (k := k) hx hb hK hP 5 4 rfl rfl (by omega) (by omega) dX1_stop_20 ?_
    refine lv_if_ge hx hb dX1_stop_21 (tgt := 28) rfl (fun h2 => ?_) (fun h2 => ?_)
    · refine lv_aload_n hx hb dX1_stop_28 rfl (lv_at hl 0 rfl) ?_
      refine va_get (D := (dC, dI)) (ci := 1) (v := .ref (a 5)) (C := RX1) (T := TX1) (N := 15) hx hb hts hin9 hown hK hP 0 rfl rfl 6 (by decide) (hts _ (List.mem_cons_of_mem _ mf_X1_24)) (fun _ h9 => h9) rfl dX1_stop_29 ?_
      refine lv_iload_n hx hb dX1_stop_32 rfl (lv_at hl 1 rfl) ?_
      refine zr_iald (k := k) hx hb hK hP 5 4 rfl rfl (by omega) (by omega) dX1_stop_33 ?_
      refine lv_iconst (v := 2) hx hb dX1_stop_34 (by decide) ?_
      refine lv_idiv hx hb dX1_stop_35 (by decide) ?_
      refine zr_iast (k := k) hx hb hK hP hD hS 2 1 rfl rfl (by omega) (by omega) dX1_stop_36 (fun H locs hP hD hS => ?_)
      have hP : va_P (dC, dI) vwCl (wM n a ca (ms_c w, ms_o w, upd (ms_b w) k ((ms_n w k) / 2), ms_v w, ms_d w, ms_n w, ms_l w, ms_u w, ms_m w, ms_h w, ms_i w, ms_j w, ms_w w, ms_t w)) H := hP
      have hD : va_D A (wM n a ca (ms_c w, ms_o w, upd (ms_b w) k ((ms_n w k) / 2), ms_v w, ms_d w, ms_n w, ms_l w, ms_u w, ms_m w, ms_h w, ms_i w, ms_j w, ms_w w, ms_t w)) := hD
      refine lv_aload_n hx hb dX1_stop_37 rfl (lv_at hl 0 rfl) ?_
      refine va_get (D := (dC, dI)) (ci := 1) (v := .ref (a 4)) (C := RX1) (T := TX1) (N := 15) hx hb hts hin9 hown hK hP 0 rfl rfl 5 (by decide) (hts _ (List.mem_cons_of_mem _ mf_X1_20)) (fun _ h9 => h9) rfl dX1_stop_38 ?_
      refine lv_iload_n hx hb dX1_stop_41 rfl (lv_at hl 1 rfl) ?_
      refine lv_aload_n hx hb dX1_stop_42 rfl (lv_at hl 0 rfl) ?_
      refine lv_iload_n hx hb dX1_stop_43 rfl (lv_at hl 1 rfl) ?_
      refine zr_Vi (w := fun z => wM n a ca z) (u := (ms_c w, ms_o w, upd (ms_b w) k ((ms_n w k) / 2), ms_v w, ms_d w, ms_n w, ms_l w, ms_u w, ms_m w, ms_h w, ms_i w, ms_j w, ms_w w, ms_t w)) (u1 := (ms_c w, ms_o w, upd (ms_b w) k ((ms_n w k) / 2), ms_v w, ms_d w, ms_n w, ms_l w, ms_u w, ms_m w, ms_h w, ms_i w, ms_j w, ms_w w, ms_t w)) (v := fm_ind (ms_n (ms_c w, ms_o w, upd (ms_b w) k ((ms_n w k) / 2), ms_v w, ms_d w, ms_n w, ms_l w, ms_u w, ms_m w, ms_h w, ms_i w, ms_j w, ms_w w, ms_t w) k)) (As := [.int (nI k)]) (rest := [.int (nI k), .ref (a 4)]) ⟨hx, hb, hml, hown, hts⟩ (c_M_isNotedDirty l dC dI n a ca (ms_c w, ms_o w, upd (ms_b w) k ((ms_n w k) / 2), ms_v w, ms_d w, ms_n w, ms_l w, ms_u w, ms_m w, ms_h w, ms_i w, ms_j w, ms_w w, ms_t w) H.size k hn (by omega)) (cwV 1 hts gX1_stop_X1_isNotedDirty rfl rfl rfl (by decide +kernel) ⟨Nat.le_of_ble_eq_true rfl, Nat.le_of_ble_eq_true rfl⟩) hK hP hD hS hA (va_recv (q0 := 0) (ci := 1) (q := (RX1, TX1, 15)) hK hP rfl rfl) rfl hl.1 rfl (Nat.le_of_ble_eq_true rfl) dX1_stop_44 (fun H locs hP hD hS => ?_) ⟨Nat.le_of_ble_eq_true rfl, Nat.le_of_ble_eq_true rfl⟩
      have hP : va_P (dC, dI) vwCl (wM n a ca (ms_c w, ms_o w, upd (ms_b w) k ((ms_n w k) / 2), ms_v w, ms_d w, ms_n w, ms_l w, ms_u w, ms_m w, ms_h w, ms_i w, ms_j w, ms_w w, ms_t w)) H := hP
      have hD : va_D A (wM n a ca (ms_c w, ms_o w, upd (ms_b w) k ((ms_n w k) / 2), ms_v w, ms_d w, ms_n w, ms_l w, ms_u w, ms_m w, ms_h w, ms_i w, ms_j w, ms_w w, ms_t w)) := hD
      refine zr_zast (k := k) hx hb hK hP hD hS 4 3 rfl rfl (by omega) (by omega) dX1_stop_47 (fun H locs hP hD hS => ?_)
      have hP : va_P (dC, dI) vwCl (wM n a ca (ms_c w, ms_o w, upd (ms_b w) k ((ms_n w k) / 2), ms_v w, upd (ms_d w) k (vp_nar .boolean (fm_ind (ms_n (ms_c w, ms_o w, upd (ms_b w) k ((ms_n w k) / 2), ms_v w, ms_d w, ms_n w, ms_l w, ms_u w, ms_m w, ms_h w, ms_i w, ms_j w, ms_w w, ms_t w) k))), ms_n w, ms_l w, ms_u w, ms_m w, ms_h w, ms_i w, ms_j w, ms_w w, ms_t w)) H := hP
      have hD : va_D A (wM n a ca (ms_c w, ms_o w, upd (ms_b w) k ((ms_n w k) / 2), ms_v w, upd (ms_d w) k (vp_nar .boolean (fm_ind (ms_n (ms_c w, ms_o w, upd (ms_b w) k ((ms_n w k) / 2), ms_v w, ms_d w, ms_n w, ms_l w, ms_u w, ms_m w, ms_h w, ms_i w, ms_j w, ms_w w, ms_t w) k))), ms_n w, ms_l w, ms_u w, ms_m w, ms_h w, ms_i w, ms_j w, ms_w w, ms_t w)) := hD
      refine lv_aload_n hx hb dX1_stop_48 rfl (lv_at hl 0 rfl) ?_
      refine lv_dup hx hb dX1_stop_49 rfl ?_
      refine va_get (D := (dC, dI)) (ci := 1) (v := .long (ms_u w)) (C := RX1) (T := TX1) (N := 15) hx hb hts hin9 hown hK hP 0 rfl rfl 8 (by decide) (hts _ (List.mem_cons_of_mem _ mf_X1_44)) (fun _ h9 => h9) rfl dX1_stop_50 ?_
      refine lv_lconst (v := 1) hx hb dX1_stop_53 (by decide) ?_
      refine lv_ladd hx hb dX1_stop_54 ?_
      refine va_put (D := (dC, dI)) (ci := 1) (v := .long ((ms_u w) + 1)) (ty := .long) (C := RX1) (T := TX1) (N := 15) hx hb hts hin9 tyX1 tyX1_ok nmX1 hown hK hP hD hS 0 rfl rfl 8 (by decide) (hts _ (List.mem_cons_of_mem _ mf_X1_44)) (fun _ h9 => h9) rfl (by decide +kernel) rfl rfl (Nat.le_of_ble_eq_true rfl) dX1_stop_55 (fun H locs hP hD hS => ?_)
      have hP : va_P (dC, dI) vwCl (wM n a ca (ms_c w, ms_o w, upd (ms_b w) k ((ms_n w k) / 2), ms_v w, upd (ms_d w) k (vp_nar .boolean (fm_ind (ms_n (ms_c w, ms_o w, upd (ms_b w) k ((ms_n w k) / 2), ms_v w, ms_d w, ms_n w, ms_l w, ms_u w, ms_m w, ms_h w, ms_i w, ms_j w, ms_w w, ms_t w) k))), ms_n w, ms_l w, ((ms_u w) + 1), ms_m w, ms_h w, ms_i w, ms_j w, ms_w w, ms_t w)) H := hP
      have hD : va_D A (wM n a ca (ms_c w, ms_o w, upd (ms_b w) k ((ms_n w k) / 2), ms_v w, upd (ms_d w) k (vp_nar .boolean (fm_ind (ms_n (ms_c w, ms_o w, upd (ms_b w) k ((ms_n w k) / 2), ms_v w, ms_d w, ms_n w, ms_l w, ms_u w, ms_m w, ms_h w, ms_i w, ms_j w, ms_w w, ms_t w) k))), ms_n w, ms_l w, ((ms_u w) + 1), ms_m w, ms_h w, ms_i w, ms_j w, ms_w w, ms_t w)) := hD
      refine lv_aload_n hx hb dX1_stop_58 rfl (lv_at hl 0 rfl) ?_
      refine va_get (D := (dC, dI)) (ci := 1) (v := .ref (a 6)) (C := RX1) (T := TX1) (N := 15) hx hb hts hin9 hown hK hP 0 rfl rfl 7 (by decide) (hts _ (List.mem_cons_of_mem _ mf_X1_27)) (fun _ h9 => h9) rfl dX1_stop_59 ?_
      refine lv_aload_n hx hb dX1_stop_62 rfl (lv_at hl 0 rfl) ?_
      refine va_get (D := (dC, dI)) (ci := 1) (v := .int (nI n)) (C := RX1) (T := TX1) (N := 15) hx hb hts hin9 hown hK hP 0 rfl rfl 1 (by decide) (hts _ (List.mem_cons_of_mem _ mf_X1_30)) (fun _ h9 => h9) rfl dX1_stop_63 ?_
      refine lv_iconst (v := 1) hx hb dX1_stop_66 (by decide) ?_
      refine lv_isub hx hb dX1_stop_67 ?_
      refine lv_iload_n hx hb dX1_stop_68 rfl (lv_at hl 1 rfl) ?_
      refine lv_isub hx hb dX1_stop_69 ?_
      refine lv_aload_n hx hb dX1_stop_70 rfl (lv_at hl 0 rfl) ?_
      refine va_get (D := (dC, dI)) (ci := 1) (v := .long ((ms_u w) + 1)) (C := RX1) (T := TX1) (N := 15) hx hb hts hin9 hown hK hP 0 rfl rfl 8 (by decide) (hts _ (List.mem_cons_of_mem _ mf_X1_44)) (fun _ h9 => h9) rfl dX1_stop_71 ?_
      rw [zr_rev (by omega) (by omega)]
      refine zr_last (k := (n - 1 - k)) hx hb hK hP hD hS 6 5 rfl rfl (by omega) (by omega) dX1_stop_74 (fun H locs hP hD hS => ?_)
      have hP : va_P (dC, dI) vwCl (wM n a ca (ms_c w, ms_o w, upd (ms_b w) k ((ms_n w k) / 2), ms_v w, upd (ms_d w) k (vp_nar .boolean (fm_ind (ms_n (ms_c w, ms_o w, upd (ms_b w) k ((ms_n w k) / 2), ms_v w, ms_d w, ms_n w, ms_l w, ms_u w, ms_m w, ms_h w, ms_i w, ms_j w, ms_w w, ms_t w) k))), ms_n w, vp_updL (ms_l w) (n - 1 - k) ((ms_u w) + 1), ((ms_u w) + 1), ms_m w, ms_h w, ms_i w, ms_j w, ms_w w, ms_t w)) H := hP
      have hD : va_D A (wM n a ca (ms_c w, ms_o w, upd (ms_b w) k ((ms_n w k) / 2), ms_v w, upd (ms_d w) k (vp_nar .boolean (fm_ind (ms_n (ms_c w, ms_o w, upd (ms_b w) k ((ms_n w k) / 2), ms_v w, ms_d w, ms_n w, ms_l w, ms_u w, ms_m w, ms_h w, ms_i w, ms_j w, ms_w w, ms_t w) k))), ms_n w, vp_updL (ms_l w) (n - 1 - k) ((ms_u w) + 1), ((ms_u w) + 1), ms_m w, ms_h w, ms_i w, ms_j w, ms_w w, ms_t w)) := hD
      refine lv_iinc (k := 1) (v := nI (k + 1)) hx hb dX1_stop_75 hl rfl (zr_incN k) (by decide) rfl (fun ls hl => ?_)
      have hl : lv_has ls 2 [(1, .int (nI (k + 1))), (0, .ref (a 0))] := hl
      refine lv_goto hx hb dX1_stop_78 (tgt := 2) rfl ?_
      exact ih r' (k + 1, (ms_c w, ms_o w, upd (ms_b w) k ((ms_n w k) / 2), ms_v w, upd (ms_d w) k (vp_nar .boolean (fm_ind (ms_n (ms_c w, ms_o w, upd (ms_b w) k ((ms_n w k) / 2), ms_v w, ms_d w, ms_n w, ms_l w, ms_u w, ms_m w, ms_h w, ms_i w, ms_j w, ms_w w, ms_t w) k))), ms_n w, vp_updL (ms_l w) (n - 1 - k) ((ms_u w) + 1), ((ms_u w) + 1), ms_m w, ms_h w, ms_i w, ms_j w, ms_w w, ms_t w)) _ _ _ (by omega) ⟨by omega, (by rw [← hinv]; first | rfl | (simp only [fm_stopL, fm_stop1, if_pos h2] <;> rfl)), lv_sub hl [1, 0] rfl, hP, hD, hS⟩
    · refine lv_iconst (v := (-1)) hx hb dX1_stop_24 (by decide) ?_
      refine lv_goto hx hb dX1_stop_25 (tgt := 36) rfl ?_
      refine zr_iast (k := k) hx hb hK hP hD hS 2 1 rfl rfl (by omega) (by omega) dX1_stop_36 (fun H locs hP hD hS => ?_)
      have hP : va_P (dC, dI) vwCl (wM n a ca (ms_c w, ms_o w, upd (ms_b w) k (-1), ms_v w, ms_d w, ms_n w, ms_l w, ms_u w, ms_m w, ms_h w, ms_i w, ms_j w, ms_w w, ms_t w)) H := hP
      have hD : va_D A (wM n a ca (ms_c w, ms_o w, upd (ms_b w) k (-1), ms_v w, ms_d w, ms_n w, ms_l w, ms_u w, ms_m w, ms_h w, ms_i w, ms_j w, ms_w w, ms_t w)) := hD
      refine lv_aload_n hx hb dX1_stop_37 rfl (lv_at hl 0 rfl) ?_
      refine va_get (D := (dC, dI)) (ci := 1) (v := .ref (a 4)) (C := RX1) (T := TX1) (N := 15) hx hb hts hin9 hown hK hP 0 rfl rfl 5 (by decide) (hts _ (List.mem_cons_of_mem _ mf_X1_20)) (fun _ h9 => h9) rfl dX1_stop_38 ?_
      refine lv_iload_n hx hb dX1_stop_41 rfl (lv_at hl 1 rfl) ?_
      refine lv_aload_n hx hb dX1_stop_42 rfl (lv_at hl 0 rfl) ?_
      refine lv_iload_n hx hb dX1_stop_43 rfl (lv_at hl 1 rfl) ?_
      refine zr_Vi (w := fun z => wM n a ca z) (u := (ms_c w, ms_o w, upd (ms_b w) k (-1), ms_v w, ms_d w, ms_n w, ms_l w, ms_u w, ms_m w, ms_h w, ms_i w, ms_j w, ms_w w, ms_t w)) (u1 := (ms_c w, ms_o w, upd (ms_b w) k (-1), ms_v w, ms_d w, ms_n w, ms_l w, ms_u w, ms_m w, ms_h w, ms_i w, ms_j w, ms_w w, ms_t w)) (v := fm_ind (ms_n (ms_c w, ms_o w, upd (ms_b w) k (-1), ms_v w, ms_d w, ms_n w, ms_l w, ms_u w, ms_m w, ms_h w, ms_i w, ms_j w, ms_w w, ms_t w) k)) (As := [.int (nI k)]) (rest := [.int (nI k), .ref (a 4)]) ⟨hx, hb, hml, hown, hts⟩ (c_M_isNotedDirty l dC dI n a ca (ms_c w, ms_o w, upd (ms_b w) k (-1), ms_v w, ms_d w, ms_n w, ms_l w, ms_u w, ms_m w, ms_h w, ms_i w, ms_j w, ms_w w, ms_t w) H.size k hn (by omega)) (cwV 1 hts gX1_stop_X1_isNotedDirty rfl rfl rfl (by decide +kernel) ⟨Nat.le_of_ble_eq_true rfl, Nat.le_of_ble_eq_true rfl⟩) hK hP hD hS hA (va_recv (q0 := 0) (ci := 1) (q := (RX1, TX1, 15)) hK hP rfl rfl) rfl hl.1 rfl (Nat.le_of_ble_eq_true rfl) dX1_stop_44 (fun H locs hP hD hS => ?_) ⟨Nat.le_of_ble_eq_true rfl, Nat.le_of_ble_eq_true rfl⟩
      have hP : va_P (dC, dI) vwCl (wM n a ca (ms_c w, ms_o w, upd (ms_b w) k (-1), ms_v w, ms_d w, ms_n w, ms_l w, ms_u w, ms_m w, ms_h w, ms_i w, ms_j w, ms_w w, ms_t w)) H := hP
      have hD : va_D A (wM n a ca (ms_c w, ms_o w, upd (ms_b w) k (-1), ms_v w, ms_d w, ms_n w, ms_l w, ms_u w, ms_m w, ms_h w, ms_i w, ms_j w, ms_w w, ms_t w)) := hD
      refine zr_zast (k := k) hx hb hK hP hD hS 4 3 rfl rfl (by omega) (by omega) dX1_stop_47 (fun H locs hP hD hS => ?_)
      have hP : va_P (dC, dI) vwCl (wM n a ca (ms_c w, ms_o w, upd (ms_b w) k (-1), ms_v w, upd (ms_d w) k (vp_nar .boolean (fm_ind (ms_n (ms_c w, ms_o w, upd (ms_b w) k (-1), ms_v w, ms_d w, ms_n w, ms_l w, ms_u w, ms_m w, ms_h w, ms_i w, ms_j w, ms_w w, ms_t w) k))), ms_n w, ms_l w, ms_u w, ms_m w, ms_h w, ms_i w, ms_j w, ms_w w, ms_t w)) H := hP
      have hD : va_D A (wM n a ca (ms_c w, ms_o w, upd (ms_b w) k (-1), ms_v w, upd (ms_d w) k (vp_nar .boolean (fm_ind (ms_n (ms_c w, ms_o w, upd (ms_b w) k (-1), ms_v w, ms_d w, ms_n w, ms_l w, ms_u w, ms_m w, ms_h w, ms_i w, ms_j w, ms_w w, ms_t w) k))), ms_n w, ms_l w, ms_u w, ms_m w, ms_h w, ms_i w, ms_j w, ms_w w, ms_t w)) := hD
      refine lv_aload_n hx hb dX1_stop_48 rfl (lv_at hl 0 rfl) ?_
      refine lv_dup hx hb dX1_stop_49 rfl ?_
      refine va_get (D := (dC, dI)) (ci := 1) (v := .long (ms_u w)) (C := RX1) (T := TX1) (N := 15) hx hb hts hin9 hown hK hP 0 rfl rfl 8 (by decide) (hts _ (List.mem_cons_of_mem _ mf_X1_44)) (fun _ h9 => h9) rfl dX1_stop_50 ?_
      refine lv_lconst (v := 1) hx hb dX1_stop_53 (by decide) ?_
      refine lv_ladd hx hb dX1_stop_54 ?_
      refine va_put (D := (dC, dI)) (ci := 1) (v := .long ((ms_u w) + 1)) (ty := .long) (C := RX1) (T := TX1) (N := 15) hx hb hts hin9 tyX1 tyX1_ok nmX1 hown hK hP hD hS 0 rfl rfl 8 (by decide) (hts _ (List.mem_cons_of_mem _ mf_X1_44)) (fun _ h9 => h9) rfl (by decide +kernel) rfl rfl (Nat.le_of_ble_eq_true rfl) dX1_stop_55 (fun H locs hP hD hS => ?_)
      have hP : va_P (dC, dI) vwCl (wM n a ca (ms_c w, ms_o w, upd (ms_b w) k (-1), ms_v w, upd (ms_d w) k (vp_nar .boolean (fm_ind (ms_n (ms_c w, ms_o w, upd (ms_b w) k (-1), ms_v w, ms_d w, ms_n w, ms_l w, ms_u w, ms_m w, ms_h w, ms_i w, ms_j w, ms_w w, ms_t w) k))), ms_n w, ms_l w, ((ms_u w) + 1), ms_m w, ms_h w, ms_i w, ms_j w, ms_w w, ms_t w)) H := hP
      have hD : va_D A (wM n a ca (ms_c w, ms_o w, upd (ms_b w) k (-1), ms_v w, upd (ms_d w) k (vp_nar .boolean (fm_ind (ms_n (ms_c w, ms_o w, upd (ms_b w) k (-1), ms_v w, ms_d w, ms_n w, ms_l w, ms_u w, ms_m w, ms_h w, ms_i w, ms_j w, ms_w w, ms_t w) k))), ms_n w, ms_l w, ((ms_u w) + 1), ms_m w, ms_h w, ms_i w, ms_j w, ms_w w, ms_t w)) := hD
      refine lv_aload_n hx hb dX1_stop_58 rfl (lv_at hl 0 rfl) ?_
      refine va_get (D := (dC, dI)) (ci := 1) (v := .ref (a 6)) (C := RX1) (T := TX1) (N := 15) hx hb hts hin9 hown hK hP 0 rfl rfl 7 (by decide) (hts _ (List.mem_cons_of_mem _ mf_X1_27)) (fun _ h9 => h9) rfl dX1_stop_59 ?_
      refine lv_aload_n hx hb dX1_stop_62 rfl (lv_at hl 0 rfl) ?_
      refine va_get (D := (dC, dI)) (ci := 1) (v := .int (nI n)) (C := RX1) (T := TX1) (N := 15) hx hb hts hin9 hown hK hP 0 rfl rfl 1 (by decide) (hts _ (List.mem_cons_of_mem _ mf_X1_30)) (fun _ h9 => h9) rfl dX1_stop_63 ?_
      refine lv_iconst (v := 1) hx hb dX1_stop_66 (by decide) ?_
      refine lv_isub hx hb dX1_stop_67 ?_
      refine lv_iload_n hx hb dX1_stop_68 rfl (lv_at hl 1 rfl) ?_
      refine lv_isub hx hb dX1_stop_69 ?_
      refine lv_aload_n hx hb dX1_stop_70 rfl (lv_at hl 0 rfl) ?_
      refine va_get (D := (dC, dI)) (ci := 1) (v := .long ((ms_u w) + 1)) (C := RX1) (T := TX1) (N := 15) hx hb hts hin9 hown hK hP 0 rfl rfl 8 (by decide) (hts _ (List.mem_cons_of_mem _ mf_X1_44)) (fun _ h9 => h9) rfl dX1_stop_71 ?_
      rw [zr_rev (by omega) (by omega)]
      refine zr_last (k := (n - 1 - k)) hx hb hK hP hD hS 6 5 rfl rfl (by omega) (by omega) dX1_stop_74 (fun H locs hP hD hS => ?_)
      have hP : va_P (dC, dI) vwCl (wM n a ca (ms_c w, ms_o w, upd (ms_b w) k (-1), ms_v w, upd (ms_d w) k (vp_nar .boolean (fm_ind (ms_n (ms_c w, ms_o w, upd (ms_b w) k (-1), ms_v w, ms_d w, ms_n w, ms_l w, ms_u w, ms_m w, ms_h w, ms_i w, ms_j w, ms_w w, ms_t w) k))), ms_n w, vp_updL (ms_l w) (n - 1 - k) ((ms_u w) + 1), ((ms_u w) + 1), ms_m w, ms_h w, ms_i w, ms_j w, ms_w w, ms_t w)) H := hP
      have hD : va_D A (wM n a ca (ms_c w, ms_o w, upd (ms_b w) k (-1), ms_v w, upd (ms_d w) k (vp_nar .boolean (fm_ind (ms_n (ms_c w, ms_o w, upd (ms_b w) k (-1), ms_v w, ms_d w, ms_n w, ms_l w, ms_u w, ms_m w, ms_h w, ms_i w, ms_j w, ms_w w, ms_t w) k))), ms_n w, vp_updL (ms_l w) (n - 1 - k) ((ms_u w) + 1), ((ms_u w) + 1), ms_m w, ms_h w, ms_i w, ms_j w, ms_w w, ms_t w)) := hD
      refine lv_iinc (k := 1) (v := nI (k + 1)) hx hb dX1_stop_75 hl rfl (zr_incN k) (by decide) rfl (fun ls hl => ?_)
      have hl : lv_has ls 2 [(1, .int (nI (k + 1))), (0, .ref (a 0))] := hl
      refine lv_goto hx hb dX1_stop_78 (tgt := 2) rfl ?_
      exact ih r' (k + 1, (ms_c w, ms_o w, upd (ms_b w) k (-1), ms_v w, upd (ms_d w) k (vp_nar .boolean (fm_ind (ms_n (ms_c w, ms_o w, upd (ms_b w) k (-1), ms_v w, ms_d w, ms_n w, ms_l w, ms_u w, ms_m w, ms_h w, ms_i w, ms_j w, ms_w w, ms_t w) k))), ms_n w, vp_updL (ms_l w) (n - 1 - k) ((ms_u w) + 1), ((ms_u w) + 1), ms_m w, ms_h w, ms_i w, ms_j w, ms_w w, ms_t w)) _ _ _ (by omega) ⟨by omega, (by rw [← hinv]; first | rfl | (simp only [fm_stopL, fm_stop1, if_neg h2] <;> rfl)), lv_sub hl [1, 0] rfl, hP, hD, hS⟩
set_option maxHeartbeats 4000000 in
set_option maxRecDepth 100000 in
theorem c_M_full (l : Launch) (dC : Nat → ClassId) (dI : Nat → Nat → Nat) (n : Nat) (a : Nat → Nat) (ca : Nat → ClassId) (u : StM) (sz : Nat) (hn : n ≤ 12) : Met l yX1_full wsX1_full ({ frames := 0, cells := 0, slots := 0, locals := 0 }) (va_Pc [.ref (a 0)] (zr_P (dC, dI) vwCl (tM ca) (wM n a ca u) sz)) (va_Qi (fun r u' => r = fm_full (ms_b u) n 0 0 ∧ u' = u) (fun u' => zr_B (dC, dI) vwCl (tM ca) (va_A (wM n a ca u) sz) (wM n a ca u')) (va_A (wM n a ca u) sz)) 0 0 (va_A (wM n a ca u) sz) := by
  refine Met.ofW (cc := cX1_full) (maxL := 3) (ret := (some .int)) (by decide) rfl ?_
  intro p e s m args below meth c s₁ B hml hv
  obtain ⟨rfl, hsz, hP, hK, hD0⟩ := hv
  have hx := B.exec
  have hb := B.bytes
  have hr := B.returns
  have hts := atoms_spec (ws := wsX1_full) B.pre
  have hown : s.vm.findClass RX1 = some m.cls := findClass_of_methodNamed B.named
  have hlocks := B.notSynchronized
  subst hsz
  have hD := hD0.self (sz := s.heap.size)
  generalize hAe : va_A (wM n a ca u) s.heap.size = A at hD ⊢
  have hA : ∀ q : Nat, s.heap.size ≤ q → A q := fun q h => by rw [← hAe]; exact Or.inr h
  obtain ⟨H, hH, hP, hS⟩ : ∃ H, H = s.heap ∧ va_P (dC, dI) vwCl (wM n a ca u) H ∧ va_S A s.heap H [] := ⟨_, rfl, hP, va_S.rf⟩
  have hin9 : ∀ w ∈ u_ws RX1 TX1 15, w ∈ wsX1_full := fun w h => List.mem_cons_of_mem _ (hinX1 w h)
  rw [← hH]
  have hl := lv_entry ([.ref (a 0)]) (n := 3) (Nat.le_of_ble_eq_true rfl)
  rw [lg_entry_eq]
  generalize (lg_sl ([.ref (a 0)]) ++ List.replicate (3 - (lg_sl ([.ref (a 0)])).length) Slot.unset).toArray = ls at hl ⊢
  have hl : lv_has ls 3 [(0, .ref (a 0))] := hl
  refine lv_iconst (v := 0) hx hb dX1_full_0 (by decide) ?_
  refine lv_istore_n hx hb dX1_full_1 rfl hl (by decide) rfl (fun ls hl => ?_)
  have hl : lv_has ls 3 [(1, .int 0), (0, .ref (a 0))] := hl
  refine lv_iconst (v := 0) hx hb dX1_full_2 (by decide) ?_
  refine lv_istore_n hx hb dX1_full_3 rfl hl (by decide) rfl (fun ls hl => ?_)
  have hl : lv_has ls 3 [(2, .int 0), (1, .int 0), (0, .ref (a 0))] := hl
  refine zr_loop (fun r (x0 : Nat × Int32) ls H locs => r + x0.1 = n ∧ fm_full (ms_b u) r x0.1 x0.2 = fm_full (ms_b u) n 0 0 ∧ lv_has ls 3 [(0, .ref (a 0)), (1, .int x0.2), (2, .int (nI x0.1))] ∧ va_P (dC, dI) vwCl (wM n a ca u) H ∧ va_D A (wM n a ca u) ∧ va_S A s.heap H locs) (fun ls => F0 m 4 ls []) ?_ n (0, 0) _ _ _ ⟨by omega, rfl, lv_sub hl [2, 1, 0] rfl, hP, hD, hS⟩
  rintro r ⟨k, q⟩ ls H locs ih ⟨hrk, hinv, hl, hP, hD, hS⟩
  have hrk : r + k = n := hrk
  have hinv : fm_full (ms_b u) r k q = fm_full (ms_b u) n 0 0 := hinv
  have hl : lv_has ls 3 [(0, .ref (a 0)), (1, .int q), (2, .int (nI k))] := hl
  have hP : va_P (dC, dI) vwCl (wM n a ca u) H := hP
  have hD : va_D A (wM n a ca u) := hD
  refine lv_iload_n hx hb dX1_full_4 rfl (lv_at hl 2 rfl) ?_
  refine lv_aload_n hx hb dX1_full_5 rfl (lv_at hl 0 rfl) ?_
  refine va_get (D := (dC, dI)) (ci := 1) (v := .int (nI n)) (C := RX1) (T := TX1) (N := 15) hx hb hts hin9 hown hK hP 0 rfl rfl 1 (by decide) (hts _ (List.mem_cons_of_mem _ mf_X1_30)) (fun _ h9 => h9) rfl dX1_full_6 ?_
  refine lv_icmp_ge hx hb dX1_full_9 (tgt := 35) rfl (fun h1 => ?_) (fun h1 => ?_)
  · have h1 := zr_ge (by omega) (by omega) h1
    obtain rfl : r = 0 := by omega
    refine lv_iload_n hx hb dX1_full_35 rfl (lv_at hl 1 rfl) ?_
    exact W.iret (v := q) hx hb hr (fun t ht hW => ⟨⟨q, u, rfl, ⟨(by first | rfl | (rw [← hinv] <;> rfl) | (rw [← hinv]; simp only [fm_full] <;> rfl) | (simp only [fm_full]; rw [← hinv] <;> rfl) | (simp only [fm_full]; rw [← hinv]; simp only [fm_full] <;> rfl) | (simp only [fm_full] <;> rfl)), (by first | rfl | (rw [← hinv] <;> rfl) | (rw [← hinv]; simp only [fm_full] <;> rfl) | (simp only [fm_full]; rw [← hinv] <;> rfl) | (simp only [fm_full]; rw [← hinv]; simp only [fm_full] <;> rfl) | (simp only [fm_full] <;> rfl))⟩, ⟨by rw [ht]; exact hP, va_K.moved hW.alike hK, hD⟩⟩, hS.F ht⟩) hS.2.2 dX1_full_36
  · have h1 := zr_lt (by omega) (by omega) h1
    obtain ⟨r', rfl⟩ : ∃ z, r = z + 1 := ⟨r - 1, by omega⟩
    refine lv_iload_n hx hb dX1_full_12 rfl (lv_at hl 1 rfl) ?_
    refine lv_aload_n hx hb dX1_full_13 rfl (lv_at hl 0 rfl) ?_
    refine va_get (D := (dC, dI)) (ci := 1) (v := .ref (a 2)) (C := RX1) (T := TX1) (N := 15) hx hb hts hin9 hown hK hP 0 rfl rfl 3 (by decide) (hts _ (List.mem_cons_of_mem _ mf_X1_13)) (fun _ h9 => h9) rfl dX1_full_14 ?_
    refine lv_iload_n hx hb dX1_full_17 rfl (lv_at hl 2 rfl) ?_
    refine zr_iald (k := k) hx hb hK hP 2 1 rfl rfl (by omega) (by omega) dX1_full_18 ?_
    refine lv_if_lt hx hb dX1_full_19 (tgt := 26) rfl (fun h2 => ?_) (fun h2 => ?_)
    · refine lv_iconst (v := 0) hx hb dX1_full_26 (by decide) ?_
      refine lv_iadd hx hb dX1_full_27 ?_
      refine lv_istore_n hx hb dX1_full_28 rfl hl (by decide) rfl (fun ls hl => ?_)
      have hl : lv_has ls 3 [(1, .int (q + 0)), (0, .ref (a 0)), (2, .int (nI k))] := hl
      refine lv_iinc (k := 2) (v := nI (k + 1)) hx hb dX1_full_29 hl rfl (zr_incN k) (by decide) rfl (fun ls hl => ?_)
      have hl : lv_has ls 3 [(2, .int (nI (k + 1))), (1, .int (q + 0)), (0, .ref (a 0))] := hl
      refine lv_goto hx hb dX1_full_32 (tgt := 4) rfl ?_
      exact ih r' (k + 1, (q + 0)) _ _ _ (by omega) ⟨by omega, (by rw [← hinv]; first | rfl | (simp only [fm_full, if_pos h2] <;> rfl)), lv_sub hl [2, 1, 0] rfl, hP, hD, hS⟩
    · refine lv_iconst (v := 1) hx hb dX1_full_22 (by decide) ?_
      refine lv_goto hx hb dX1_full_23 (tgt := 27) rfl ?_
      refine lv_iadd hx hb dX1_full_27 ?_
      refine lv_istore_n hx hb dX1_full_28 rfl hl (by decide) rfl (fun ls hl => ?_)
      have hl : lv_has ls 3 [(1, .int (q + 1)), (0, .ref (a 0)), (2, .int (nI k))] := hl
      refine lv_iinc (k := 2) (v := nI (k + 1)) hx hb dX1_full_29 hl rfl (zr_incN k) (by decide) rfl (fun ls hl => ?_)
      have hl : lv_has ls 3 [(2, .int (nI (k + 1))), (1, .int (q + 1)), (0, .ref (a 0))] := hl
      refine lv_goto hx hb dX1_full_32 (tgt := 4) rfl ?_
      exact ih r' (k + 1, (q + 1)) _ _ _ (by omega) ⟨by omega, (by rw [← hinv]; first | rfl | (simp only [fm_full, if_neg h2] <;> rfl)), lv_sub hl [2, 1, 0] rfl, hP, hD, hS⟩
set_option maxHeartbeats 4000000 in
set_option maxRecDepth 100000 in
theorem c_M_dirties (l : Launch) (dC : Nat → ClassId) (dI : Nat → Nat → Nat) (n : Nat) (a : Nat → Nat) (ca : Nat → ClassId) (u : StM) (sz : Nat) (hn : n ≤ 12) : Met l yX1_dirties wsX1_dirties ({ frames := 0, cells := 0, slots := 0, locals := 0 }) (va_Pc [.ref (a 0)] (zr_P (dC, dI) vwCl (tM ca) (wM n a ca u) sz)) (va_Qi (fun r u' => r = fm_dts (ms_b u) (ms_d u) n 0 0 ∧ u' = u) (fun u' => zr_B (dC, dI) vwCl (tM ca) (va_A (wM n a ca u) sz) (wM n a ca u')) (va_A (wM n a ca u) sz)) 0 0 (va_A (wM n a ca u) sz) := by
  refine Met.ofW (cc := cX1_dirties) (maxL := 3) (ret := (some .int)) (by decide) rfl ?_
  intro p e s m args below meth c s₁ B hml hv
  obtain ⟨rfl, hsz, hP, hK, hD0⟩ := hv
  have hx := B.exec
  have hb := B.bytes
  have hr := B.returns
  have hts := atoms_spec (ws := wsX1_dirties) B.pre
  have hown : s.vm.findClass RX1 = some m.cls := findClass_of_methodNamed B.named
  have hlocks := B.notSynchronized
  subst hsz
  have hD := hD0.self (sz := s.heap.size)
  generalize hAe : va_A (wM n a ca u) s.heap.size = A at hD ⊢
  have hA : ∀ q : Nat, s.heap.size ≤ q → A q := fun q h => by rw [← hAe]; exact Or.inr h
  obtain ⟨H, hH, hP, hS⟩ : ∃ H, H = s.heap ∧ va_P (dC, dI) vwCl (wM n a ca u) H ∧ va_S A s.heap H [] := ⟨_, rfl, hP, va_S.rf⟩
  have hin9 : ∀ w ∈ u_ws RX1 TX1 15, w ∈ wsX1_dirties := fun w h => List.mem_cons_of_mem _ (hinX1 w h)
  rw [← hH]
  have hl := lv_entry ([.ref (a 0)]) (n := 3) (Nat.le_of_ble_eq_true rfl)
  rw [lg_entry_eq]
  generalize (lg_sl ([.ref (a 0)]) ++ List.replicate (3 - (lg_sl ([.ref (a 0)])).length) Slot.unset).toArray = ls at hl ⊢
  have hl : lv_has ls 3 [(0, .ref (a 0))] := hl
  refine lv_iconst (v := 0) hx hb dX1_dirties_0 (by decide) ?_
  refine lv_istore_n hx hb dX1_dirties_1 rfl hl (by decide) rfl (fun ls hl => ?_)
  have hl : lv_has ls 3 [(1, .int 0), (0, .ref (a 0))] := hl
  refine lv_iconst (v := 0) hx hb dX1_dirties_2 (by decide) ?_
  refine lv_istore_n hx hb dX1_dirties_3 rfl hl (by decide) rfl (fun ls hl => ?_)
  have hl : lv_has ls 3 [(2, .int 0), (1, .int 0), (0, .ref (a 0))] := hl
  refine zr_loop (fun r (x0 : Nat × Int32) ls H locs => r + x0.1 = n ∧ fm_dts (ms_b u) (ms_d u) r x0.1 x0.2 = fm_dts (ms_b u) (ms_d u) n 0 0 ∧ lv_has ls 3 [(0, .ref (a 0)), (1, .int x0.2), (2, .int (nI x0.1))] ∧ va_P (dC, dI) vwCl (wM n a ca u) H ∧ va_D A (wM n a ca u) ∧ va_S A s.heap H locs) (fun ls => F0 m 4 ls []) ?_ n (0, 0) _ _ _ ⟨by omega, rfl, lv_sub hl [2, 1, 0] rfl, hP, hD, hS⟩
  rintro r ⟨k, q⟩ ls H locs ih ⟨hrk, hinv, hl, hP, hD, hS⟩
  have hrk : r + k = n := hrk
  have hinv : fm_dts (ms_b u) (ms_d u) r k q = fm_dts (ms_b u) (ms_d u) n 0 0 := hinv
  have hl : lv_has ls 3 [(0, .ref (a 0)), (1, .int q), (2, .int (nI k))] := hl
  have hP : va_P (dC, dI) vwCl (wM n a ca u) H := hP
  have hD : va_D A (wM n a ca u) := hD
  refine lv_iload_n hx hb dX1_dirties_4 rfl (lv_at hl 2 rfl) ?_
  refine lv_aload_n hx hb dX1_dirties_5 rfl (lv_at hl 0 rfl) ?_
  refine va_get (D := (dC, dI)) (ci := 1) (v := .int (nI n)) (C := RX1) (T := TX1) (N := 15) hx hb hts hin9 hown hK hP 0 rfl rfl 1 (by decide) (hts _ (List.mem_cons_of_mem _ mf_X1_30)) (fun _ h9 => h9) rfl dX1_dirties_6 ?_
  refine lv_icmp_ge hx hb dX1_dirties_9 (tgt := 44) rfl (fun h1 => ?_) (fun h1 => ?_)
  · have h1 := zr_ge (by omega) (by omega) h1
    obtain rfl : r = 0 := by omega
    refine lv_iload_n hx hb dX1_dirties_44 rfl (lv_at hl 1 rfl) ?_
    exact W.iret (v := q) hx hb hr (fun t ht hW => ⟨⟨q, u, rfl, ⟨(by first | rfl | (rw [← hinv] <;> rfl) | (rw [← hinv]; simp only [fm_dts] <;> rfl) | (simp only [fm_dts]; rw [← hinv] <;> rfl) | (simp only [fm_dts]; rw [← hinv]; simp only [fm_dts] <;> rfl) | (simp only [fm_dts] <;> rfl)), (by first | rfl | (rw [← hinv] <;> rfl) | (rw [← hinv]; simp only [fm_dts] <;> rfl) | (simp only [fm_dts]; rw [← hinv] <;> rfl) | (simp only [fm_dts]; rw [← hinv]; simp only [fm_dts] <;> rfl) | (simp only [fm_dts] <;> rfl))⟩, ⟨by rw [ht]; exact hP, va_K.moved hW.alike hK, hD⟩⟩, hS.F ht⟩) hS.2.2 dX1_dirties_45
  · have h1 := zr_lt (by omega) (by omega) h1
    obtain ⟨r', rfl⟩ : ∃ z, r = z + 1 := ⟨r - 1, by omega⟩
    refine lv_iload_n hx hb dX1_dirties_12 rfl (lv_at hl 1 rfl) ?_
    refine lv_aload_n hx hb dX1_dirties_13 rfl (lv_at hl 0 rfl) ?_
    refine va_get (D := (dC, dI)) (ci := 1) (v := .ref (a 2)) (C := RX1) (T := TX1) (N := 15) hx hb hts hin9 hown hK hP 0 rfl rfl 3 (by decide) (hts _ (List.mem_cons_of_mem _ mf_X1_13)) (fun _ h9 => h9) rfl dX1_dirties_14 ?_
    refine lv_iload_n hx hb dX1_dirties_17 rfl (lv_at hl 2 rfl) ?_
    refine zr_iald (k := k) hx hb hK hP 2 1 rfl rfl (by omega) (by omega) dX1_dirties_18 ?_
    refine lv_if_lt hx hb dX1_dirties_19 (tgt := 35) rfl (fun h2 => ?_) (fun h2 => ?_)
    · refine lv_iconst (v := 0) hx hb dX1_dirties_35 (by decide) ?_
      refine lv_iadd hx hb dX1_dirties_36 ?_
      refine lv_istore_n hx hb dX1_dirties_37 rfl hl (by decide) rfl (fun ls hl => ?_)
      have hl : lv_has ls 3 [(1, .int (q + 0)), (0, .ref (a 0)), (2, .int (nI k))] := hl
      refine lv_iinc (k := 2) (v := nI (k + 1)) hx hb dX1_dirties_38 hl rfl (zr_incN k) (by decide) rfl (fun ls hl => ?_)
      have hl : lv_has ls 3 [(2, .int (nI (k + 1))), (1, .int (q + 0)), (0, .ref (a 0))] := hl
      refine lv_goto hx hb dX1_dirties_41 (tgt := 4) rfl ?_
      exact ih r' (k + 1, (q + 0)) _ _ _ (by omega) ⟨by omega, (by rw [← hinv]; first | rfl | (simp only [fm_dts, if_pos h2] <;> rfl)), lv_sub hl [2, 1, 0] rfl, hP, hD, hS⟩
    · refine lv_aload_n hx hb dX1_dirties_22 rfl (lv_at hl 0 rfl) ?_
      refine va_get (D := (dC, dI)) (ci := 1) (v := .ref (a 4)) (C := RX1) (T := TX1) (N := 15) hx hb hts hin9 hown hK hP 0 rfl rfl 5 (by decide) (hts _ (List.mem_cons_of_mem _ mf_X1_20)) (fun _ h9 => h9) rfl dX1_dirties_23 ?_
      refine lv_iload_n hx hb dX1_dirties_26 rfl (lv_at hl 2 rfl) ?_
      refine zr_zald (k := k) hx hb hK hP 4 3 rfl rfl (by omega) (by omega) dX1_dirties_27 ?_
      refine lv_if_eq hx hb dX1_dirties_28 (tgt := 35) rfl (fun h3 => ?_) (fun h3 => ?_)
      · refine lv_iconst (v := 0) hx hb dX1_dirties_35 (by decide) ?_
        refine lv_iadd hx hb dX1_dirties_36 ?_
        refine lv_istore_n hx hb dX1_dirties_37 rfl hl (by decide) rfl (fun ls hl => ?_)
        have hl : lv_has ls 3 [(1, .int (q + 0)), (0, .ref (a 0)), (2, .int (nI k))] := hl
        refine lv_iinc (k := 2) (v := nI (k + 1)) hx hb dX1_dirties_38 hl rfl (zr_incN k) (by decide) rfl (fun ls hl => ?_)
        have hl : lv_has ls 3 [(2, .int (nI (k + 1))), (1, .int (q + 0)), (0, .ref (a 0))] := hl
        refine lv_goto hx hb dX1_dirties_41 (tgt := 4) rfl ?_
        exact ih r' (k + 1, (q + 0)) _ _ _ (by omega) ⟨by omega, (by rw [← hinv]; first | rfl | (simp only [fm_dts, if_neg h2, if_pos h3] <;> rfl)), lv_sub hl [2, 1, 0] rfl, hP, hD, hS⟩
      · refine lv_iconst (v := 1) hx hb dX1_dirties_31 (by decide) ?_
        refine lv_goto hx hb dX1_dirties_32 (tgt := 36) rfl ?_
        refine lv_iadd hx hb dX1_dirties_36 ?_
        refine lv_istore_n hx hb dX1_dirties_37 rfl hl (by decide) rfl (fun ls hl => ?_)
        have hl : lv_has ls 3 [(1, .int (q + 1)), (0, .ref (a 0)), (2, .int (nI k))] := hl
        refine lv_iinc (k := 2) (v := nI (k + 1)) hx hb dX1_dirties_38 hl rfl (zr_incN k) (by decide) rfl (fun ls hl => ?_)
        have hl : lv_has ls 3 [(2, .int (nI (k + 1))), (1, .int (q + 1)), (0, .ref (a 0))] := hl
        refine lv_goto hx hb dX1_dirties_41 (tgt := 4) rfl ?_
        exact ih r' (k + 1, (q + 1)) _ _ _ (by omega) ⟨by omega, (by rw [← hinv]; first | rfl | (simp only [fm_dts, if_neg h2, if_neg h3] <;> rfl)), lv_sub hl [2, 1, 0] rfl, hP, hD, hS⟩
set_option maxHeartbeats 4000000 in
set_option maxRecDepth 100000 in
theorem c_M_crash (l : Launch) (dC : Nat → ClassId) (dI : Nat → Nat → Nat) (n : Nat) (a : Nat → Nat) (ca : Nat → ClassId) (u : StM) (sz : Nat) (hn : n ≤ 12) : Met l yX1_crash wsX1_crash ({ frames := 2, cells := 0, slots := 0, locals := 42 }) (va_Pc [.ref (a 0)] (zr_P (dC, dI) vwCl (tM ca) (wM n a ca u) sz)) (va_Qi (fun r u' => r = (fm_crash n u).1 ∧ u' = (fm_crash n u).2) (fun u' => zr_B (dC, dI) vwCl (tM ca) (va_A (wM n a ca u) sz) (wM n a ca u')) (va_A (wM n a ca u) sz)) 0 0 (va_A (wM n a ca u) sz) := by
  refine Met.ofW (cc := cX1_crash) (maxL := 1) (ret := (some .int)) (by decide) rfl ?_
  intro p e s m args below meth c s₁ B hml hv
  obtain ⟨rfl, hsz, hP, hK, hD0⟩ := hv
  have hx := B.exec
  have hb := B.bytes
  have hr := B.returns
  have hts := atoms_spec (ws := wsX1_crash) B.pre
  have hown : s.vm.findClass RX1 = some m.cls := findClass_of_methodNamed B.named
  have hlocks := B.notSynchronized
  subst hsz
  have hD := hD0.self (sz := s.heap.size)
  generalize hAe : va_A (wM n a ca u) s.heap.size = A at hD ⊢
  have hA : ∀ q : Nat, s.heap.size ≤ q → A q := fun q h => by rw [← hAe]; exact Or.inr h
  obtain ⟨H, hH, hP, hS⟩ : ∃ H, H = s.heap ∧ va_P (dC, dI) vwCl (wM n a ca u) H ∧ va_S A s.heap H [] := ⟨_, rfl, hP, va_S.rf⟩
  have hin9 : ∀ w ∈ u_ws RX1 TX1 15, w ∈ wsX1_crash := fun w h => List.mem_cons_of_mem _ (hinX1 w h)
  rw [← hH]
  have hl := lv_entry ([.ref (a 0)]) (n := 1) (Nat.le_of_ble_eq_true rfl)
  rw [lg_entry_eq]
  generalize (lg_sl ([.ref (a 0)]) ++ List.replicate (1 - (lg_sl ([.ref (a 0)])).length) Slot.unset).toArray = ls at hl ⊢
  have hl : lv_has ls 1 [(0, .ref (a 0))] := hl
  refine lv_aload_n hx hb dX1_crash_0 rfl (lv_at hl 0 rfl) ?_
  refine lv_iconst (v := 0) hx hb dX1_crash_1 (by decide) ?_
  refine va_put (D := (dC, dI)) (ci := 1) (v := .int 0) (ty := .int) (C := RX1) (T := TX1) (N := 15) hx hb hts hin9 tyX1 tyX1_ok nmX1 hown hK hP hD hS 0 rfl rfl 0 (by decide) (hts _ (List.mem_cons_of_mem _ mf_X1_34)) (fun _ h9 => h9) rfl (by decide +kernel) rfl rfl (Nat.le_of_ble_eq_true rfl) dX1_crash_2 (fun H locs hP hD hS => ?_)
  have hP : va_P (dC, dI) vwCl (wM n a ca (0, ms_o u, ms_b u, ms_v u, ms_d u, ms_n u, ms_l u, ms_u u, ms_m u, ms_h u, ms_i u, ms_j u, ms_w u, ms_t u)) H := hP
  have hD : va_D A (wM n a ca (0, ms_o u, ms_b u, ms_v u, ms_d u, ms_n u, ms_l u, ms_u u, ms_m u, ms_h u, ms_i u, ms_j u, ms_w u, ms_t u)) := hD
  refine lv_aload_n hx hb dX1_crash_5 rfl (lv_at hl 0 rfl) ?_
  refine zr_Vv (w := fun z => wM n a ca z) (u := (0, ms_o u, ms_b u, ms_v u, ms_d u, ms_n u, ms_l u, ms_u u, ms_m u, ms_h u, ms_i u, ms_j u, ms_w u, ms_t u)) (u1 := fm_stop n (0, ms_o u, ms_b u, ms_v u, ms_d u, ms_n u, ms_l u, ms_u u, ms_m u, ms_h u, ms_i u, ms_j u, ms_w u, ms_t u)) (As := []) (rest := []) ⟨hx, hb, hml, hown, hts⟩ (c_M_stop l dC dI n a ca (0, ms_o u, ms_b u, ms_v u, ms_d u, ms_n u, ms_l u, ms_u u, ms_m u, ms_h u, ms_i u, ms_j u, ms_w u, ms_t u) H.size hn) (cwV 0 hts gX1_crash_X1_stop rfl rfl rfl (by decide +kernel) ⟨Nat.le_of_ble_eq_true rfl, Nat.le_of_ble_eq_true rfl⟩) hK hP hD hS hA (va_recv (q0 := 0) (ci := 1) (q := (RX1, TX1, 15)) hK hP rfl rfl) rfl hl.1 rfl (Nat.le_of_ble_eq_true rfl) dX1_crash_6 (fun H locs hP hD hS => ?_) ⟨Nat.le_of_ble_eq_true rfl, Nat.le_of_ble_eq_true rfl⟩
  have hP : va_P (dC, dI) vwCl (wM n a ca (fm_stop n (0, ms_o u, ms_b u, ms_v u, ms_d u, ms_n u, ms_l u, ms_u u, ms_m u, ms_h u, ms_i u, ms_j u, ms_w u, ms_t u))) H := hP
  have hD : va_D A (wM n a ca (fm_stop n (0, ms_o u, ms_b u, ms_v u, ms_d u, ms_n u, ms_l u, ms_u u, ms_m u, ms_h u, ms_i u, ms_j u, ms_w u, ms_t u))) := hD
  refine lv_aload_n hx hb dX1_crash_9 rfl (lv_at hl 0 rfl) ?_
  refine zr_Vi (w := fun z => wM n a ca z) (u := (fm_stop n (0, ms_o u, ms_b u, ms_v u, ms_d u, ms_n u, ms_l u, ms_u u, ms_m u, ms_h u, ms_i u, ms_j u, ms_w u, ms_t u))) (u1 := (fm_stop n (0, ms_o u, ms_b u, ms_v u, ms_d u, ms_n u, ms_l u, ms_u u, ms_m u, ms_h u, ms_i u, ms_j u, ms_w u, ms_t u))) (v := fm_full (ms_b (fm_stop n (0, ms_o u, ms_b u, ms_v u, ms_d u, ms_n u, ms_l u, ms_u u, ms_m u, ms_h u, ms_i u, ms_j u, ms_w u, ms_t u))) n 0 0) (As := []) (rest := []) ⟨hx, hb, hml, hown, hts⟩ (c_M_full l dC dI n a ca (fm_stop n (0, ms_o u, ms_b u, ms_v u, ms_d u, ms_n u, ms_l u, ms_u u, ms_m u, ms_h u, ms_i u, ms_j u, ms_w u, ms_t u)) H.size hn) (cwV 0 hts gX1_crash_X1_full rfl rfl rfl (by decide +kernel) ⟨Nat.le_of_ble_eq_true rfl, Nat.le_of_ble_eq_true rfl⟩) hK hP hD hS hA (va_recv (q0 := 0) (ci := 1) (q := (RX1, TX1, 15)) hK hP rfl rfl) rfl hl.1 rfl (Nat.le_of_ble_eq_true rfl) dX1_crash_10 (fun H locs hP hD hS => ?_) ⟨Nat.le_of_ble_eq_true rfl, Nat.le_of_ble_eq_true rfl⟩
  have hP : va_P (dC, dI) vwCl (wM n a ca (fm_stop n (0, ms_o u, ms_b u, ms_v u, ms_d u, ms_n u, ms_l u, ms_u u, ms_m u, ms_h u, ms_i u, ms_j u, ms_w u, ms_t u))) H := hP
  have hD : va_D A (wM n a ca (fm_stop n (0, ms_o u, ms_b u, ms_v u, ms_d u, ms_n u, ms_l u, ms_u u, ms_m u, ms_h u, ms_i u, ms_j u, ms_w u, ms_t u))) := hD
  exact W.iret (v := fm_full (ms_b (fm_stop n (0, ms_o u, ms_b u, ms_v u, ms_d u, ms_n u, ms_l u, ms_u u, ms_m u, ms_h u, ms_i u, ms_j u, ms_w u, ms_t u))) n 0 0) hx hb hr (fun t ht hW => ⟨⟨fm_full (ms_b (fm_stop n (0, ms_o u, ms_b u, ms_v u, ms_d u, ms_n u, ms_l u, ms_u u, ms_m u, ms_h u, ms_i u, ms_j u, ms_w u, ms_t u))) n 0 0, fm_stop n (0, ms_o u, ms_b u, ms_v u, ms_d u, ms_n u, ms_l u, ms_u u, ms_m u, ms_h u, ms_i u, ms_j u, ms_w u, ms_t u), rfl, ⟨(by first | rfl | (simp only [fm_crash] <;> rfl)), (by first | rfl | (simp only [fm_crash] <;> rfl))⟩, ⟨by rw [ht]; exact hP, va_K.moved hW.alike hK, hD⟩⟩, hS.F ht⟩) hS.2.2 dX1_crash_13
set_option maxHeartbeats 4000000 in
set_option maxRecDepth 100000 in
theorem c_M_slot (l : Launch) (dC : Nat → ClassId) (dI : Nat → Nat → Nat) (n : Nat) (a : Nat → Nat) (ca : Nat → ClassId) (u : StM) (sz : Nat) (b : Int32) (hn : n ≤ 12) : Met l yX1_slot wsX1_slot ({ frames := 1, cells := 0, slots := 0, locals := 23 }) (va_Pc [.ref (a 0), .int b] (zr_P (dC, dI) vwCl (tM ca) (wM n a ca u) sz)) (va_Qi (fun r u' => r = (fm_slot n u b).1 ∧ u' = (fm_slot n u b).2) (fun u' => zr_B (dC, dI) vwCl (tM ca) (va_A (wM n a ca u) sz) (wM n a ca u')) (va_A (wM n a ca u) sz)) 0 0 (va_A (wM n a ca u) sz) := by
  refine Met.ofW (cc := cX1_slot) (maxL := 2) (ret := (some .int)) (by decide) rfl ?_
  intro p e s m args below meth c s₁ B hml hv
  obtain ⟨rfl, hsz, hP, hK, hD0⟩ := hv
  have hx := B.exec
  have hb := B.bytes
  have hr := B.returns
  have hts := atoms_spec (ws := wsX1_slot) B.pre
  have hown : s.vm.findClass RX1 = some m.cls := findClass_of_methodNamed B.named
  have hlocks := B.notSynchronized
  subst hsz
  have hD := hD0.self (sz := s.heap.size)
  generalize hAe : va_A (wM n a ca u) s.heap.size = A at hD ⊢
  have hA : ∀ q : Nat, s.heap.size ≤ q → A q := fun q h => by rw [← hAe]; exact Or.inr h
  obtain ⟨H, hH, hP, hS⟩ : ∃ H, H = s.heap ∧ va_P (dC, dI) vwCl (wM n a ca u) H ∧ va_S A s.heap H [] := ⟨_, rfl, hP, va_S.rf⟩
  have hin9 : ∀ w ∈ u_ws RX1 TX1 15, w ∈ wsX1_slot := fun w h => List.mem_cons_of_mem _ (hinX1 w h)
  rw [← hH]
  have hl := lv_entry ([.ref (a 0), .int b]) (n := 2) (Nat.le_of_ble_eq_true rfl)
  rw [lg_entry_eq]
  generalize (lg_sl ([.ref (a 0), .int b]) ++ List.replicate (2 - (lg_sl ([.ref (a 0), .int b])).length) Slot.unset).toArray = ls at hl ⊢
  have hl : lv_has ls 2 [(0, .ref (a 0)), (1, .int b)] := hl
  refine lv_aload_n hx hb dX1_slot_0 rfl (lv_at hl 0 rfl) ?_
  refine lv_iload_n hx hb dX1_slot_1 rfl (lv_at hl 1 rfl) ?_
  refine zr_Si (v := (fm_isb b)) (As := [.int b]) (rest := [.ref (a 0)]) ⟨hx, hb, hml, hown, hts⟩ (c_M_isBlock l H.size b) (va_cwS 1 hts gX1_slot_X1_isBlock rfl rfl rfl (by decide +kernel) ⟨Nat.le_of_ble_eq_true rfl, Nat.le_of_ble_eq_true rfl⟩) hP hS hA rfl hl.1 rfl (Nat.le_of_ble_eq_true rfl) dX1_slot_2 (fun H locs hP hS => ?_) ⟨Nat.le_of_ble_eq_true rfl, Nat.le_of_ble_eq_true rfl⟩
  refine lv_if_eq hx hb dX1_slot_5 (tgt := 12) rfl (fun h1 => ?_) (fun h1 => ?_)
  · refine lv_iconst (v := 1) hx hb dX1_slot_12 (by decide) ?_
    refine va_put (D := (dC, dI)) (ci := 1) (v := .int 1) (ty := .int) (C := RX1) (T := TX1) (N := 15) hx hb hts hin9 tyX1 tyX1_ok nmX1 hown hK hP hD hS 0 rfl rfl 0 (by decide) (hts _ (List.mem_cons_of_mem _ mf_X1_34)) (fun _ h9 => h9) rfl (by decide +kernel) rfl rfl (Nat.le_of_ble_eq_true rfl) dX1_slot_13 (fun H locs hP hD hS => ?_)
    have hP : va_P (dC, dI) vwCl (wM n a ca (1, ms_o u, ms_b u, ms_v u, ms_d u, ms_n u, ms_l u, ms_u u, ms_m u, ms_h u, ms_i u, ms_j u, ms_w u, ms_t u)) H := hP
    have hD : va_D A (wM n a ca (1, ms_o u, ms_b u, ms_v u, ms_d u, ms_n u, ms_l u, ms_u u, ms_m u, ms_h u, ms_i u, ms_j u, ms_w u, ms_t u)) := hD
    refine lv_aload_n hx hb dX1_slot_16 rfl (lv_at hl 0 rfl) ?_
    refine va_get (D := (dC, dI)) (ci := 1) (v := .int 1) (C := RX1) (T := TX1) (N := 15) hx hb hts hin9 hown hK hP 0 rfl rfl 0 (by decide) (hts _ (List.mem_cons_of_mem _ mf_X1_34)) (fun _ h9 => h9) rfl dX1_slot_17 ?_
    refine lv_if_ne hx hb dX1_slot_20 (tgt := 31) rfl (fun _ => ?_) (fun h => absurd h (by decide))
    refine lv_iconst (v := 0) hx hb dX1_slot_31 (by decide) ?_
    exact W.iret (v := 0) hx hb hr (fun t ht hW => ⟨⟨0, (1, ms_o u, ms_b u, ms_v u, ms_d u, ms_n u, ms_l u, ms_u u, ms_m u, ms_h u, ms_i u, ms_j u, ms_w u, ms_t u), rfl, ⟨(by first | rfl | (simp only [fm_slot, fm_setc, if_pos h1] <;> rfl)), (by first | rfl | (simp only [fm_slot, fm_setc, if_pos h1] <;> rfl))⟩, ⟨by rw [ht]; exact hP, va_K.moved hW.alike hK, hD⟩⟩, hS.F ht⟩) hS.2.2 dX1_slot_32
  · obtain ⟨j2, hj2, rfl⟩ := isb_nI h1
    refine lv_iconst (v := 0) hx hb dX1_slot_8 (by decide) ?_
    refine lv_goto hx hb dX1_slot_9 (tgt := 13) rfl ?_
    refine va_put (D := (dC, dI)) (ci := 1) (v := .int 0) (ty := .int) (C := RX1) (T := TX1) (N := 15) hx hb hts hin9 tyX1 tyX1_ok nmX1 hown hK hP hD hS 0 rfl rfl 0 (by decide) (hts _ (List.mem_cons_of_mem _ mf_X1_34)) (fun _ h9 => h9) rfl (by decide +kernel) rfl rfl (Nat.le_of_ble_eq_true rfl) dX1_slot_13 (fun H locs hP hD hS => ?_)
    have hP : va_P (dC, dI) vwCl (wM n a ca (0, ms_o u, ms_b u, ms_v u, ms_d u, ms_n u, ms_l u, ms_u u, ms_m u, ms_h u, ms_i u, ms_j u, ms_w u, ms_t u)) H := hP
    have hD : va_D A (wM n a ca (0, ms_o u, ms_b u, ms_v u, ms_d u, ms_n u, ms_l u, ms_u u, ms_m u, ms_h u, ms_i u, ms_j u, ms_w u, ms_t u)) := hD
    refine lv_aload_n hx hb dX1_slot_16 rfl (lv_at hl 0 rfl) ?_
    refine va_get (D := (dC, dI)) (ci := 1) (v := .int 0) (C := RX1) (T := TX1) (N := 15) hx hb hts hin9 hown hK hP 0 rfl rfl 0 (by decide) (hts _ (List.mem_cons_of_mem _ mf_X1_34)) (fun _ h9 => h9) rfl dX1_slot_17 ?_
    refine lv_if_ne hx hb dX1_slot_20 (tgt := 31) rfl (fun h => absurd (by decide) h) (fun _ => ?_)
    refine lv_aload_n hx hb dX1_slot_23 rfl (lv_at hl 0 rfl) ?_
    refine lv_iload_n hx hb dX1_slot_24 rfl (lv_at hl 1 rfl) ?_
    refine zr_Vi (w := fun z => wM n a ca z) (u := (0, ms_o u, ms_b u, ms_v u, ms_d u, ms_n u, ms_l u, ms_u u, ms_m u, ms_h u, ms_i u, ms_j u, ms_w u, ms_t u)) (u1 := (0, ms_o u, ms_b u, ms_v u, ms_d u, ms_n u, ms_l u, ms_u u, ms_m u, ms_h u, ms_i u, ms_j u, ms_w u, ms_t u)) (v := fc_enc (fm_find (ms_b (0, ms_o u, ms_b u, ms_v u, ms_d u, ms_n u, ms_l u, ms_u u, ms_m u, ms_h u, ms_i u, ms_j u, ms_w u, ms_t u)) j2 n 0 none)) (As := [.int (nI j2)]) (rest := []) ⟨hx, hb, hml, hown, hts⟩ (c_M_find l dC dI n a ca (0, ms_o u, ms_b u, ms_v u, ms_d u, ms_n u, ms_l u, ms_u u, ms_m u, ms_h u, ms_i u, ms_j u, ms_w u, ms_t u) H.size j2 hn) (cwV 1 hts gX1_slot_X1_find rfl rfl rfl (by decide +kernel) ⟨Nat.le_of_ble_eq_true rfl, Nat.le_of_ble_eq_true rfl⟩) hK hP hD hS hA (va_recv (q0 := 0) (ci := 1) (q := (RX1, TX1, 15)) hK hP rfl rfl) rfl hl.1 rfl (Nat.le_of_ble_eq_true rfl) dX1_slot_25 (fun H locs hP hD hS => ?_) ⟨Nat.le_of_ble_eq_true rfl, Nat.le_of_ble_eq_true rfl⟩
    have hP : va_P (dC, dI) vwCl (wM n a ca (0, ms_o u, ms_b u, ms_v u, ms_d u, ms_n u, ms_l u, ms_u u, ms_m u, ms_h u, ms_i u, ms_j u, ms_w u, ms_t u)) H := hP
    have hD : va_D A (wM n a ca (0, ms_o u, ms_b u, ms_v u, ms_d u, ms_n u, ms_l u, ms_u u, ms_m u, ms_h u, ms_i u, ms_j u, ms_w u, ms_t u)) := hD
    rcases hf3 : fm_find (ms_b (0, ms_o u, ms_b u, ms_v u, ms_d u, ms_n u, ms_l u, ms_u u, ms_m u, ms_h u, ms_i u, ms_j u, ms_w u, ms_t u)) j2 n 0 none with _ | j4
    · have hf3 : fm_find (ms_b u) j2 n 0 none = none := hf3
      refine W.eq (g2 := F0 m 28 ls [.int (-1)]) rfl ?_
      refine lv_goto hx hb dX1_slot_28 (tgt := 32) rfl ?_
      exact W.iret (v := (-1)) hx hb hr (fun t ht hW => ⟨⟨(-1), (0, ms_o u, ms_b u, ms_v u, ms_d u, ms_n u, ms_l u, ms_u u, ms_m u, ms_h u, ms_i u, ms_j u, ms_w u, ms_t u), rfl, ⟨(by first | rfl | (simp only [fm_slot, fm_setc, if_neg h1, nI_clamp (show j2 < 2 ^ 31 by omega), hf3] <;> rfl)), (by first | rfl | (simp only [fm_slot, fm_setc, if_neg h1, nI_clamp (show j2 < 2 ^ 31 by omega), hf3] <;> rfl))⟩, ⟨by rw [ht]; exact hP, va_K.moved hW.alike hK, hD⟩⟩, hS.F ht⟩) hS.2.2 dX1_slot_32
    · have hj4 := fm_find_lt hf3
      have hf3 : fm_find (ms_b u) j2 n 0 none = some j4 := hf3
      refine W.eq (g2 := F0 m 28 ls [.int (nI j4)]) rfl ?_
      refine lv_goto hx hb dX1_slot_28 (tgt := 32) rfl ?_
      exact W.iret (v := nI j4) hx hb hr (fun t ht hW => ⟨⟨nI j4, (0, ms_o u, ms_b u, ms_v u, ms_d u, ms_n u, ms_l u, ms_u u, ms_m u, ms_h u, ms_i u, ms_j u, ms_w u, ms_t u), rfl, ⟨(by first | rfl | (simp only [fm_slot, fm_setc, if_neg h1, nI_clamp (show j2 < 2 ^ 31 by omega), hf3] <;> rfl)), (by first | rfl | (simp only [fm_slot, fm_setc, if_neg h1, nI_clamp (show j2 < 2 ^ 31 by omega), hf3] <;> rfl))⟩, ⟨by rw [ht]; exact hP, va_K.moved hW.alike hK, hD⟩⟩, hS.F ht⟩) hS.2.2 dX1_slot_32
set_option maxHeartbeats 4000000 in
set_option maxRecDepth 100000 in
theorem c_M_origin (l : Launch) (dC : Nat → ClassId) (dI : Nat → Nat → Nat) (n : Nat) (a : Nat → Nat) (ca : Nat → ClassId) (u : StM) (sz : Nat) (b : Int32) : Met l yX1_origin wsX1_origin ({ frames := 1, cells := 0, slots := 0, locals := 20 }) (va_Pc [.ref (a 0), .int b] (zr_P (dC, dI) vwCl (tM ca) (wM n a ca u) sz)) (va_Ql (fun r u' => r = (fm_origin u b).1 ∧ u' = (fm_origin u b).2) (fun u' => zr_B (dC, dI) vwCl (tM ca) (va_A (wM n a ca u) sz) (wM n a ca u')) (va_A (wM n a ca u) sz)) 0 0 (va_A (wM n a ca u) sz) := by
  refine Met.ofW (cc := cX1_origin) (maxL := 2) (ret := (some .long)) (by decide) rfl ?_
  intro p e s m args below meth c s₁ B hml hv
  obtain ⟨rfl, hsz, hP, hK, hD0⟩ := hv
  have hx := B.exec
  have hb := B.bytes
  have hr := B.returns
  have hts := atoms_spec (ws := wsX1_origin) B.pre
  have hown : s.vm.findClass RX1 = some m.cls := findClass_of_methodNamed B.named
  have hlocks := B.notSynchronized
  subst hsz
  have hD := hD0.self (sz := s.heap.size)
  generalize hAe : va_A (wM n a ca u) s.heap.size = A at hD ⊢
  have hA : ∀ q : Nat, s.heap.size ≤ q → A q := fun q h => by rw [← hAe]; exact Or.inr h
  obtain ⟨H, hH, hP, hS⟩ : ∃ H, H = s.heap ∧ va_P (dC, dI) vwCl (wM n a ca u) H ∧ va_S A s.heap H [] := ⟨_, rfl, hP, va_S.rf⟩
  have hin9 : ∀ w ∈ u_ws RX1 TX1 15, w ∈ wsX1_origin := fun w h => List.mem_cons_of_mem _ (hinX1 w h)
  rw [← hH]
  have hl := lv_entry ([.ref (a 0), .int b]) (n := 2) (Nat.le_of_ble_eq_true rfl)
  rw [lg_entry_eq]
  generalize (lg_sl ([.ref (a 0), .int b]) ++ List.replicate (2 - (lg_sl ([.ref (a 0), .int b])).length) Slot.unset).toArray = ls at hl ⊢
  have hl : lv_has ls 2 [(0, .ref (a 0)), (1, .int b)] := hl
  refine lv_aload_n hx hb dX1_origin_0 rfl (lv_at hl 0 rfl) ?_
  refine lv_iload_n hx hb dX1_origin_1 rfl (lv_at hl 1 rfl) ?_
  refine zr_Si (v := (fm_isb b)) (As := [.int b]) (rest := [.ref (a 0)]) ⟨hx, hb, hml, hown, hts⟩ (c_M_isBlock l H.size b) (va_cwS 1 hts gX1_origin_X1_isBlock rfl rfl rfl (by decide +kernel) ⟨Nat.le_of_ble_eq_true rfl, Nat.le_of_ble_eq_true rfl⟩) hP hS hA rfl hl.1 rfl (Nat.le_of_ble_eq_true rfl) dX1_origin_2 (fun H locs hP hS => ?_) ⟨Nat.le_of_ble_eq_true rfl, Nat.le_of_ble_eq_true rfl⟩
  refine lv_if_eq hx hb dX1_origin_5 (tgt := 12) rfl (fun h1 => ?_) (fun h1 => ?_)
  · refine lv_iconst (v := 1) hx hb dX1_origin_12 (by decide) ?_
    refine va_put (D := (dC, dI)) (ci := 1) (v := .int 1) (ty := .int) (C := RX1) (T := TX1) (N := 15) hx hb hts hin9 tyX1 tyX1_ok nmX1 hown hK hP hD hS 0 rfl rfl 0 (by decide) (hts _ (List.mem_cons_of_mem _ mf_X1_34)) (fun _ h9 => h9) rfl (by decide +kernel) rfl rfl (Nat.le_of_ble_eq_true rfl) dX1_origin_13 (fun H locs hP hD hS => ?_)
    have hP : va_P (dC, dI) vwCl (wM n a ca (1, ms_o u, ms_b u, ms_v u, ms_d u, ms_n u, ms_l u, ms_u u, ms_m u, ms_h u, ms_i u, ms_j u, ms_w u, ms_t u)) H := hP
    have hD : va_D A (wM n a ca (1, ms_o u, ms_b u, ms_v u, ms_d u, ms_n u, ms_l u, ms_u u, ms_m u, ms_h u, ms_i u, ms_j u, ms_w u, ms_t u)) := hD
    refine lv_aload_n hx hb dX1_origin_16 rfl (lv_at hl 0 rfl) ?_
    refine va_get (D := (dC, dI)) (ci := 1) (v := .int 1) (C := RX1) (T := TX1) (N := 15) hx hb hts hin9 hown hK hP 0 rfl rfl 0 (by decide) (hts _ (List.mem_cons_of_mem _ mf_X1_34)) (fun _ h9 => h9) rfl dX1_origin_17 ?_
    refine lv_if_ne hx hb dX1_origin_20 (tgt := 32) rfl (fun _ => ?_) (fun h => absurd h (by decide))
    refine lv_lconst (v := 0) hx hb dX1_origin_32 (by decide) ?_
    exact W.lret (v := 0) hx hb hr (fun t ht hW => ⟨⟨0, (1, ms_o u, ms_b u, ms_v u, ms_d u, ms_n u, ms_l u, ms_u u, ms_m u, ms_h u, ms_i u, ms_j u, ms_w u, ms_t u), rfl, ⟨(by first | rfl | (simp only [fm_origin, if_pos h1] <;> rfl)), (by first | rfl | (simp only [fm_origin, if_pos h1] <;> rfl))⟩, ⟨by rw [ht]; exact hP, va_K.moved hW.alike hK, hD⟩⟩, hS.F ht⟩) hS.2.2 dX1_origin_33
  · obtain ⟨j2, hj2, rfl⟩ := isb_nI h1
    refine lv_iconst (v := 0) hx hb dX1_origin_8 (by decide) ?_
    refine lv_goto hx hb dX1_origin_9 (tgt := 13) rfl ?_
    refine va_put (D := (dC, dI)) (ci := 1) (v := .int 0) (ty := .int) (C := RX1) (T := TX1) (N := 15) hx hb hts hin9 tyX1 tyX1_ok nmX1 hown hK hP hD hS 0 rfl rfl 0 (by decide) (hts _ (List.mem_cons_of_mem _ mf_X1_34)) (fun _ h9 => h9) rfl (by decide +kernel) rfl rfl (Nat.le_of_ble_eq_true rfl) dX1_origin_13 (fun H locs hP hD hS => ?_)
    have hP : va_P (dC, dI) vwCl (wM n a ca (0, ms_o u, ms_b u, ms_v u, ms_d u, ms_n u, ms_l u, ms_u u, ms_m u, ms_h u, ms_i u, ms_j u, ms_w u, ms_t u)) H := hP
    have hD : va_D A (wM n a ca (0, ms_o u, ms_b u, ms_v u, ms_d u, ms_n u, ms_l u, ms_u u, ms_m u, ms_h u, ms_i u, ms_j u, ms_w u, ms_t u)) := hD
    refine lv_aload_n hx hb dX1_origin_16 rfl (lv_at hl 0 rfl) ?_
    refine va_get (D := (dC, dI)) (ci := 1) (v := .int 0) (C := RX1) (T := TX1) (N := 15) hx hb hts hin9 hown hK hP 0 rfl rfl 0 (by decide) (hts _ (List.mem_cons_of_mem _ mf_X1_34)) (fun _ h9 => h9) rfl dX1_origin_17 ?_
    refine lv_if_ne hx hb dX1_origin_20 (tgt := 32) rfl (fun h => absurd (by decide) h) (fun _ => ?_)
    refine lv_aload_n hx hb dX1_origin_23 rfl (lv_at hl 0 rfl) ?_
    refine va_get (D := (dC, dI)) (ci := 1) (v := .ref (a 1)) (C := RX1) (T := TX1) (N := 15) hx hb hts hin9 hown hK hP 0 rfl rfl 2 (by decide) (hts _ (List.mem_cons_of_mem _ mf_X1_7)) (fun _ h9 => h9) rfl dX1_origin_24 ?_
    refine lv_iload_n hx hb dX1_origin_27 rfl (lv_at hl 1 rfl) ?_
    refine zr_lald (k := j2) hx hb hK hP 1 0 rfl rfl (by omega) (by omega) dX1_origin_28 ?_
    refine lv_goto hx hb dX1_origin_29 (tgt := 33) rfl ?_
    exact W.lret (v := ms_o u j2) hx hb hr (fun t ht hW => ⟨⟨ms_o u j2, (0, ms_o u, ms_b u, ms_v u, ms_d u, ms_n u, ms_l u, ms_u u, ms_m u, ms_h u, ms_i u, ms_j u, ms_w u, ms_t u), rfl, ⟨(by first | rfl | (simp only [fm_origin, if_neg h1, nI_clamp (show j2 < 2 ^ 31 by omega)] <;> rfl)), (by first | rfl | (simp only [fm_origin, if_neg h1, nI_clamp (show j2 < 2 ^ 31 by omega)] <;> rfl))⟩, ⟨by rw [ht]; exact hP, va_K.moved hW.alike hK, hD⟩⟩, hS.F ht⟩) hS.2.2 dX1_origin_33
