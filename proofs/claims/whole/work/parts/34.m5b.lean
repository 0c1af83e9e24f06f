set_option maxHeartbeats 4000000 in
set_option maxRecDepth 100000 in
theorem c_M_mode (l : Launch) (dC : Nat → ClassId) (dI : Nat → Nat → Nat) (n : Nat) (a : Nat → Nat) (ca : Nat → ClassId) (u : StM) (sz : Nat) (x : Int32) (hn : n ≤ 12) (hok : okM n u) : Met l yX1_mode wsX1_mode ({ frames := 4, cells := 0, slots := 0, locals := 85 }) (va_Pc [.ref (a 0), .int x] (zr_P (dC, dI) vwCl (tM ca) (wM n a ca u) sz)) (va_Qi (fun r u' => r = (fm_mode n u x).1 ∧ u' = (fm_mode n u x).2) (fun u' => zr_B (dC, dI) vwCl (tM ca) (va_A (wM n a ca u) sz) (wM n a ca u')) (va_A (wM n a ca u) sz)) 0 0 (va_A (wM n a ca u) sz) := by
  refine Met.ofW (cc := cX1_mode) (maxL := 4) (ret := (some .int)) (by decide) rfl ?_
  intro p e s m args below meth c s₁ B hml hv
  obtain ⟨rfl, hsz, hP, hK, hD0⟩ := hv
  have hx := B.exec
  have hb := B.bytes
  have hr := B.returns
  have hts := atoms_spec (ws := wsX1_mode) B.pre
  have hown : s.vm.findClass RX1 = some m.cls := findClass_of_methodNamed B.named
  have hlocks := B.notSynchronized
  subst hsz
  have hD := hD0.self (sz := s.heap.size)
  generalize hAe : va_A (wM n a ca u) s.heap.size = A at hD ⊢
  have hA : ∀ q : Nat, s.heap.size ≤ q → A q := fun q h => by rw [← hAe]; exact Or.inr h
  obtain ⟨H, hH, hP, hS⟩ : ∃ H, H = s.heap ∧ va_P (dC, dI) vwCl (wM n a ca u) H ∧ va_S A s.heap H [] := ⟨_, rfl, hP, va_S.rf⟩
  have hin9 : ∀ w ∈ u_ws RX1 TX1 15, w ∈ wsX1_mode := fun w h => List.mem_cons_of_mem _ (hinX1 w h)
  rw [← hH]
  have hl := lv_entry ([.ref (a 0), .int x]) (n := 4) (Nat.le_of_ble_eq_true rfl)
  rw [lg_entry_eq]
  generalize (lg_sl ([.ref (a 0), .int x]) ++ List.replicate (4 - (lg_sl ([.ref (a 0), .int x])).length) Slot.unset).toArray = ls at hl ⊢
  have hl : lv_has ls 4 [(0, .ref (a 0)), (1, .int x)] := hl
  refine lv_aload_n hx hb dX1_mode_0 rfl (lv_at hl 0 rfl) ?_
  refine lv_iload_n hx hb dX1_mode_1 rfl (lv_at hl 1 rfl) ?_
  refine lv_if_lt hx hb dX1_mode_2 (tgt := 10) rfl (fun h1 => ?_) (fun h1 => ?_)
  · refine lv_iconst (v := 1) hx hb dX1_mode_10 (by decide) ?_
    refine lv_goto hx hb dX1_mode_11 (tgt := 15) rfl ?_
    refine va_put (D := (dC, dI)) (ci := 1) (v := .int 1) (ty := .int) (C := RX1) (T := TX1) (N := 15) hx hb hts hin9 tyX1 tyX1_ok nmX1 hown hK hP hD hS 0 rfl rfl 0 (by decide) (hts _ (List.mem_cons_of_mem _ mf_X1_34)) (fun _ h9 => h9) rfl (by decide +kernel) rfl rfl (Nat.le_of_ble_eq_true rfl) dX1_mode_15 (fun H locs hP hD hS => ?_)
    have hP : va_P (dC, dI) vwCl (wM n a ca (1, ms_o u, ms_b u, ms_v u, ms_d u, ms_n u, ms_l u, ms_u u, ms_m u, ms_h u, ms_i u, ms_j u, ms_w u, ms_t u)) H := hP
    have hD : va_D A (wM n a ca (1, ms_o u, ms_b u, ms_v u, ms_d u, ms_n u, ms_l u, ms_u u, ms_m u, ms_h u, ms_i u, ms_j u, ms_w u, ms_t u)) := hD
    refine lv_iconst (v := 0) hx hb dX1_mode_18 (by decide) ?_
    refine lv_istore_n hx hb dX1_mode_19 rfl hl (by decide) rfl (fun ls hl => ?_)
    have hl : lv_has ls 4 [(2, .int 0), (0, .ref (a 0)), (1, .int x)] := hl
    refine lv_aload_n hx hb dX1_mode_20 rfl (lv_at hl 1 rfl) ?_
    refine va_get (D := (dC, dI)) (ci := 1) (v := .int 1) (C := RX1) (T := TX1) (N := 15) hx hb hts hin9 hown hK hP 0 rfl rfl 0 (by decide) (hts _ (List.mem_cons_of_mem _ mf_X1_34)) (fun _ h9 => h9) rfl dX1_mode_21 ?_
    refine lv_if_ne hx hb dX1_mode_24 (tgt := 69) rfl (fun _ => ?_) (fun h => absurd h (by decide))
    refine lv_iload_n hx hb dX1_mode_69 rfl (lv_at hl 0 rfl) ?_
    exact W.iret (v := 0) hx hb hr (fun t ht hW => ⟨⟨0, (1, ms_o u, ms_b u, ms_v u, ms_d u, ms_n u, ms_l u, ms_u u, ms_m u, ms_h u, ms_i u, ms_j u, ms_w u, ms_t u), rfl, ⟨(by first | rfl | (simp only [fm_mode, fm_modeL, fm_setc, fm_setm, if_pos h1] <;> rfl)), (by first | rfl | (simp only [fm_mode, fm_modeL, fm_setc, fm_setm, if_pos h1] <;> rfl))⟩, ⟨by rw [ht]; exact hP, va_K.moved hW.alike hK, hD⟩⟩, hS.F ht⟩) hS.2.2 dX1_mode_70
  · refine lv_iload_n hx hb dX1_mode_5 rfl (lv_at hl 1 rfl) ?_
    refine lv_iconst (v := 2) hx hb dX1_mode_6 (by decide) ?_
    refine lv_icmp_le hx hb dX1_mode_7 (tgt := 14) rfl (fun h2 => ?_) (fun h2 => ?_)
    · refine lv_iconst (v := 0) hx hb dX1_mode_14 (by decide) ?_
      refine va_put (D := (dC, dI)) (ci := 1) (v := .int 0) (ty := .int) (C := RX1) (T := TX1) (N := 15) hx hb hts hin9 tyX1 tyX1_ok nmX1 hown hK hP hD hS 0 rfl rfl 0 (by decide) (hts _ (List.mem_cons_of_mem _ mf_X1_34)) (fun _ h9 => h9) rfl (by decide +kernel) rfl rfl (Nat.le_of_ble_eq_true rfl) dX1_mode_15 (fun H locs hP hD hS => ?_)
      have hP : va_P (dC, dI) vwCl (wM n a ca (0, ms_o u, ms_b u, ms_v u, ms_d u, ms_n u, ms_l u, ms_u u, ms_m u, ms_h u, ms_i u, ms_j u, ms_w u, ms_t u)) H := hP
      have hD : va_D A (wM n a ca (0, ms_o u, ms_b u, ms_v u, ms_d u, ms_n u, ms_l u, ms_u u, ms_m u, ms_h u, ms_i u, ms_j u, ms_w u, ms_t u)) := hD
      refine lv_iconst (v := 0) hx hb dX1_mode_18 (by decide) ?_
      refine lv_istore_n hx hb dX1_mode_19 rfl hl (by decide) rfl (fun ls hl => ?_)
      have hl : lv_has ls 4 [(2, .int 0), (0, .ref (a 0)), (1, .int x)] := hl
      refine lv_aload_n hx hb dX1_mode_20 rfl (lv_at hl 1 rfl) ?_
      refine va_get (D := (dC, dI)) (ci := 1) (v := .int 0) (C := RX1) (T := TX1) (N := 15) hx hb hts hin9 hown hK hP 0 rfl rfl 0 (by decide) (hts _ (List.mem_cons_of_mem _ mf_X1_34)) (fun _ h9 => h9) rfl dX1_mode_21 ?_
      refine lv_if_ne hx hb dX1_mode_24 (tgt := 69) rfl (fun h => absurd (by decide) h) (fun _ => ?_)
      refine lv_aload_n hx hb dX1_mode_27 rfl (lv_at hl 1 rfl) ?_
      refine lv_iload_n hx hb dX1_mode_28 rfl (lv_at hl 2 rfl) ?_
      refine va_put (D := (dC, dI)) (ci := 1) (v := .int x) (ty := .int) (C := RX1) (T := TX1) (N := 15) hx hb hts hin9 tyX1 tyX1_ok nmX1 hown hK hP hD hS 0 rfl rfl 9 (by decide) (hts _ (List.mem_cons_of_mem _ mf_X1_87)) (fun _ h9 => h9) rfl (by decide +kernel) rfl rfl (Nat.le_of_ble_eq_true rfl) dX1_mode_29 (fun H locs hP hD hS => ?_)
      have hP : va_P (dC, dI) vwCl (wM n a ca (0, ms_o u, ms_b u, ms_v u, ms_d u, ms_n u, ms_l u, ms_u u, x, ms_h u, ms_i u, ms_j u, ms_w u, ms_t u)) H := hP
      have hD : va_D A (wM n a ca (0, ms_o u, ms_b u, ms_v u, ms_d u, ms_n u, ms_l u, ms_u u, x, ms_h u, ms_i u, ms_j u, ms_w u, ms_t u)) := hD
      refine lv_iconst (v := 0) hx hb dX1_mode_32 (by decide) ?_
      refine lv_istore_n hx hb dX1_mode_33 rfl hl (by decide) rfl (fun ls hl => ?_)
      have hl : lv_has ls 4 [(3, .int 0), (2, .int 0), (0, .ref (a 0)), (1, .int x)] := hl
      refine zr_loop (fun r (x0 : Nat × Int32 × StM) ls H locs => r + x0.1 = n ∧ fm_modeL x r x0.1 x0.2.1 x0.2.2 = fm_mode n u x ∧ (okM n x0.2.2) ∧ lv_has ls 4 [(0, .ref (a 0)), (1, .int x), (2, .int x0.2.1), (3, .int (nI x0.1))] ∧ va_P (dC, dI) vwCl (wM n a ca x0.2.2) H ∧ va_D A (wM n a ca x0.2.2) ∧ va_S A s.heap H locs) (fun ls => F0 m 34 ls []) ?_ n (0, 0, (0, ms_o u, ms_b u, ms_v u, ms_d u, ms_n u, ms_l u, ms_u u, x, ms_h u, ms_i u, ms_j u, ms_w u, ms_t u)) _ _ _ ⟨by omega, (by simp only [fm_mode, if_neg h1, if_pos h2] <;> rfl), hok, lv_sub hl [2, 3, 1, 0] rfl, hP, hD, hS⟩
      rintro r ⟨k, q, w⟩ ls H locs ih ⟨hrk, hinv, hok, hl, hP, hD, hS⟩
      have hrk : r + k = n := hrk
      have hinv : fm_modeL x r k q w = fm_mode n u x := hinv
      have hok : okM n w := hok
      have hl : lv_has ls 4 [(0, .ref (a 0)), (1, .int x), (2, .int q), (3, .int (nI k))] := hl
      have hP : va_P (dC, dI) vwCl (wM n a ca w) H := hP
      have hD : va_D A (wM n a ca w) := hD
      refine lv_iload_n hx hb dX1_mode_34 rfl (lv_at hl 3 rfl) ?_
      refine lv_aload_n hx hb dX1_mode_35 rfl (lv_at hl 0 rfl) ?_
      refine va_get (D := (dC, dI)) (ci := 1) (v := .int (nI n)) (C := RX1) (T := TX1) (N := 15) hx hb hts hin9 hown hK hP 0 rfl rfl 1 (by decide) (hts _ (List.mem_cons_of_mem _ mf_X1_30)) (fun _ h9 => h9) rfl dX1_mode_36 ?_
      refine lv_icmp_ge hx hb dX1_mode_39 (tgt := 69) rfl (fun h3 => ?_) (fun h3 => ?_)
      · have h3 := zr_ge (by omega) (by omega) h3
        obtain rfl : r = 0 := by omega
        refine lv_iload_n hx hb dX1_mode_69 rfl (lv_at hl 2 rfl) ?_
        exact W.iret (v := q) hx hb hr (fun t ht hW => ⟨⟨q, w, rfl, ⟨(by first | rfl | (rw [← hinv] <;> rfl) | (rw [← hinv]; simp only [fm_mode, fm_modeL, fm_setc, fm_setm, if_neg h1, if_pos h2] <;> rfl) | (simp only [fm_mode, fm_modeL, fm_setc, fm_setm, if_neg h1, if_pos h2]; rw [← hinv] <;> rfl) | (simp only [fm_mode, fm_modeL, fm_setc, fm_setm, if_neg h1, if_pos h2]; rw [← hinv]; simp only [fm_mode, fm_modeL, fm_setc, fm_setm, if_neg h1, if_pos h2] <;> rfl) | (simp only [fm_mode, fm_modeL, fm_setc, fm_setm, if_neg h1, if_pos h2] <;> rfl)), (by first | rfl | (rw [← hinv] <;> rfl) | (rw [← hinv]; simp only [fm_mode, fm_modeL, fm_setc, fm_setm, if_neg h1, if_pos h2] <;> rfl) | (simp only [fm_mode, fm_modeL, fm_setc, fm_setm, if_neg h1, if_pos h2]; rw [← hinv] <;> rfl) | (simp only [fm_mode, fm_modeL, fm_setc, fm_setm, if_neg h1, if_pos h2]; rw [← hinv]; simp only [fm_mode, fm_modeL, fm_setc, fm_setm, if_neg h1, if_pos h2] <;> rfl) | (simp only [fm_mode, fm_modeL, fm_setc, fm_setm, if_neg h1, if_pos h2] <;> rfl))⟩, ⟨by rw [ht]; exact hP, va_K.moved hW.alike hK, hD⟩⟩, hS.F ht⟩) hS.2.2 dX1_mode_70
      · have h3 := zr_lt (by omega) (by omega) h3
        obtain ⟨r', rfl⟩ : ∃ z, r = z + 1 := ⟨r - 1, by omega⟩
        refine lv_iload_n hx hb dX1_mode_42 rfl (lv_at hl 1 rfl) ?_
        refine lv_if_eq hx hb dX1_mode_43 (tgt := 69) rfl (fun h4 => ?_) (fun h4 => ?_)
        · refine lv_iload_n hx hb dX1_mode_69 rfl (lv_at hl 2 rfl) ?_
          exact W.iret (v := q) hx hb hr (fun t ht hW => ⟨⟨q, w, rfl, ⟨(by first | rfl | (rw [← hinv] <;> rfl) | (rw [← hinv]; simp only [fm_mode, fm_modeL, fm_setc, fm_setm, if_neg h1, if_pos h2, if_pos h4] <;> rfl) | (simp only [fm_mode, fm_modeL, fm_setc, fm_setm, if_neg h1, if_pos h2, if_pos h4]; rw [← hinv] <;> rfl) | (simp only [fm_mode, fm_modeL, fm_setc, fm_setm, if_neg h1, if_pos h2, if_pos h4]; rw [← hinv]; simp only [fm_mode, fm_modeL, fm_setc, fm_setm, if_neg h1, if_pos h2, if_pos h4] <;> rfl) | (simp only [fm_mode, fm_modeL, fm_setc, fm_setm, if_neg h1, if_pos h2, if_pos h4] <;> rfl)), (by first | rfl | (rw [← hinv] <;> rfl) | (rw [← hinv]; simp only [fm_mode, fm_modeL, fm_setc, fm_setm, if_neg h1, if_pos h2, if_pos h4] <;> rfl) | (simp only [fm_mode, fm_modeL, fm_setc, fm_setm, if_neg h1, if_pos h2, if_pos h4]; rw [← hinv] <;> rfl) | (simp only [fm_mode, fm_modeL, fm_setc, fm_setm, if_neg h1, if_pos h2, if_pos h4]; rw [← hinv]; simp only [fm_mode, fm_modeL, fm_setc, fm_setm, if_neg h1, if_pos h2, if_pos h4] <;> rfl) | (simp only [fm_mode, fm_modeL, fm_setc, fm_setm, if_neg h1, if_pos h2, if_pos h4] <;> rfl))⟩, ⟨by rw [ht]; exact hP, va_K.moved hW.alike hK, hD⟩⟩, hS.F ht⟩) hS.2.2 dX1_mode_70
        · refine lv_aload_n hx hb dX1_mode_46 rfl (lv_at hl 0 rfl) ?_
          refine va_get (D := (dC, dI)) (ci := 1) (v := .ref (a 4)) (C := RX1) (T := TX1) (N := 15) hx hb hts hin9 hown hK hP 0 rfl rfl 5 (by decide) (hts _ (List.mem_cons_of_mem _ mf_X1_20)) (fun _ h9 => h9) rfl dX1_mode_47 ?_
          refine lv_iload_n hx hb dX1_mode_50 rfl (lv_at hl 3 rfl) ?_
          refine zr_zald (k := k) hx hb hK hP 4 3 rfl rfl (by omega) (by omega) dX1_mode_51 ?_
          refine lv_if_eq hx hb dX1_mode_52 (tgt := 63) rfl (fun h5 => ?_) (fun h5 => ?_)
          · refine lv_iinc (k := 3) (v := nI (k + 1)) hx hb dX1_mode_63 hl rfl (zr_incN k) (by decide) rfl (fun ls hl => ?_)
            have hl : lv_has ls 4 [(3, .int (nI (k + 1))), (0, .ref (a 0)), (1, .int x), (2, .int q)] := hl
            refine lv_goto hx hb dX1_mode_66 (tgt := 34) rfl ?_
            exact ih r' (k + 1, q, w) _ _ _ (by omega) ⟨by omega, (by rw [← hinv]; first | rfl | (simp only [fm_modeL, if_neg h4, if_pos h5] <;> rfl)), hok, lv_sub hl [1, 2, 3, 0] rfl, hP, hD, hS⟩
          · refine lv_aload_n hx hb dX1_mode_55 rfl (lv_at hl 0 rfl) ?_
            refine lv_iload_n hx hb dX1_mode_56 rfl (lv_at hl 3 rfl) ?_
            refine zr_Vv (w := fun z => wM n a ca z) (u := w) (u1 := fm_wb w k) (As := [.int (nI k)]) (rest := []) ⟨hx, hb, hml, hown, hts⟩ (c_M_writeBack l dC dI n a ca w H.size k hn (by omega) (hok _ (by omega) h5)) (cwV 1 hts gX1_mode_X1_writeBack rfl rfl rfl (by decide +kernel) ⟨Nat.le_of_ble_eq_true rfl, Nat.le_of_ble_eq_true rfl⟩) hK hP hD hS hA (va_recv (q0 := 0) (ci := 1) (q := (RX1, TX1, 15)) hK hP rfl rfl) rfl hl.1 rfl (Nat.le_of_ble_eq_true rfl) dX1_mode_57 (fun H locs hP hD hS => ?_) ⟨Nat.le_of_ble_eq_true rfl, Nat.le_of_ble_eq_true rfl⟩
            have hP : va_P (dC, dI) vwCl (wM n a ca (fm_wb w k)) H := hP
            have hD : va_D A (wM n a ca (fm_wb w k)) := hD
            refine lv_iinc (k := 2) (v := (q + 1)) hx hb dX1_mode_60 hl rfl (zr_inc1 q) (by decide) rfl (fun ls hl => ?_)
            have hl : lv_has ls 4 [(2, .int (q + 1)), (0, .ref (a 0)), (1, .int x), (3, .int (nI k))] := hl
            refine lv_iinc (k := 3) (v := nI (k + 1)) hx hb dX1_mode_63 hl rfl (zr_incN k) (by decide) rfl (fun ls hl => ?_)
            have hl : lv_has ls 4 [(3, .int (nI (k + 1))), (2, .int (q + 1)), (0, .ref (a 0)), (1, .int x)] := hl
            refine lv_goto hx hb dX1_mode_66 (tgt := 34) rfl ?_
            exact ih r' (k + 1, (q + 1), fm_wb w k) _ _ _ (by omega) ⟨by omega, (by rw [← hinv]; first | rfl | (simp only [fm_modeL, if_neg h4, if_neg h5] <;> rfl)), (okM_wb hok _), lv_sub hl [2, 3, 1, 0] rfl, hP, hD, hS⟩
    · refine lv_iconst (v := 1) hx hb dX1_mode_10 (by decide) ?_
      refine lv_goto hx hb dX1_mode_11 (tgt := 15) rfl ?_
      refine va_put (D := (dC, dI)) (ci := 1) (v := .int 1) (ty := .int) (C := RX1) (T := TX1) (N := 15) hx hb hts hin9 tyX1 tyX1_ok nmX1 hown hK hP hD hS 0 rfl rfl 0 (by decide) (hts _ (List.mem_cons_of_mem _ mf_X1_34)) (fun _ h9 => h9) rfl (by decide +kernel) rfl rfl (Nat.le_of_ble_eq_true rfl) dX1_mode_15 (fun H locs hP hD hS => ?_)
      have hP : va_P (dC, dI) vwCl (wM n a ca (1, ms_o u, ms_b u, ms_v u, ms_d u, ms_n u, ms_l u, ms_u u, ms_m u, ms_h u, ms_i u, ms_j u, ms_w u, ms_t u)) H := hP
      have hD : va_D A (wM n a ca (1, ms_o u, ms_b u, ms_v u, ms_d u, ms_n u, ms_l u, ms_u u, ms_m u, ms_h u, ms_i u, ms_j u, ms_w u, ms_t u)) := hD
      refine lv_iconst (v := 0) hx hb dX1_mode_18 (by decide) ?_
      refine lv_istore_n hx hb dX1_mode_19 rfl hl (by decide) rfl (fun ls hl => ?_)
      have hl : lv_has ls 4 [(2, .int 0), (0, .ref (a 0)), (1, .int x)] := hl
      refine lv_aload_n hx hb dX1_mode_20 rfl (lv_at hl 1 rfl) ?_
      refine va_get (D := (dC, dI)) (ci := 1) (v := .int 1) (C := RX1) (T := TX1) (N := 15) hx hb hts hin9 hown hK hP 0 rfl rfl 0 (by decide) (hts _ (List.mem_cons_of_mem _ mf_X1_34)) (fun _ h9 => h9) rfl dX1_mode_21 ?_
      refine lv_if_ne hx hb dX1_mode_24 (tgt := 69) rfl (fun _ => ?_) (fun h => absurd h (by decide))
      refine lv_iload_n hx hb dX1_mode_69 rfl (lv_at hl 0 rfl) ?_
      exact W.iret (v := 0) hx hb hr (fun t ht hW => ⟨⟨0, (1, ms_o u, ms_b u, ms_v u, ms_d u, ms_n u, ms_l u, ms_u u, ms_m u, ms_h u, ms_i u, ms_j u, ms_w u, ms_t u), rfl, ⟨(by first | rfl | (simp only [fm_mode, fm_modeL, fm_setc, fm_setm, if_neg h1, if_neg h2] <;> rfl)), (by first | rfl | (simp only [fm_mode, fm_modeL, fm_setc, fm_setm, if_neg h1, if_neg h2] <;> rfl))⟩, ⟨by rw [ht]; exact hP, va_K.moved hW.alike hK, hD⟩⟩, hS.F ht⟩) hS.2.2 dX1_mode_70
set_option maxHeartbeats 4000000 in
set_option maxRecDepth 100000 in
theorem c_M_check (l : Launch) (dC : Nat → ClassId) (dI : Nat → Nat → Nat) (n : Nat) (a : Nat → Nat) (ca : Nat → ClassId) (u : StM) (sz : Nat) (hn : n ≤ 12) : Met l yX1_check wsX1_check ({ frames := 2, cells := 0, slots := 0, locals := 42 }) (va_Pc [.ref (a 0)] (zr_P (dC, dI) vwCl (tM ca) (wM n a ca u) sz)) (va_Qi (fun r u' => r = (fm_check n u).1 ∧ u' = (fm_check n u).2) (fun u' => zr_B (dC, dI) vwCl (tM ca) (va_A (wM n a ca u) sz) (wM n a ca u')) (va_A (wM n a ca u) sz)) 0 0 (va_A (wM n a ca u) sz) := by
  refine Met.ofW (cc := cX1_check) (maxL := 3) (ret := (some .int)) (by decide) rfl ?_
  intro p e s m args below meth c s₁ B hml hv
  obtain ⟨rfl, hsz, hP, hK, hD0⟩ := hv
  have hx := B.exec
  have hb := B.bytes
  have hr := B.returns
  have hts := atoms_spec (ws := wsX1_check) B.pre
  have hown : s.vm.findClass RX1 = some m.cls := findClass_of_methodNamed B.named
  have hlocks := B.notSynchronized
  subst hsz
  have hD := hD0.self (sz := s.heap.size)
  generalize hAe : va_A (wM n a ca u) s.heap.size = A at hD ⊢
  have hA : ∀ q : Nat, s.heap.size ≤ q → A q := fun q h => by rw [← hAe]; exact Or.inr h
  obtain ⟨H, hH, hP, hS⟩ : ∃ H, H = s.heap ∧ va_P (dC, dI) vwCl (wM n a ca u) H ∧ va_S A s.heap H [] := ⟨_, rfl, hP, va_S.rf⟩
  have hin9 : ∀ w ∈ u_ws RX1 TX1 15, w ∈ wsX1_check := fun w h => List.mem_cons_of_mem _ (hinX1 w h)
  rw [← hH]
  have hl := lv_entry ([.ref (a 0)]) (n := 3) (Nat.le_of_ble_eq_true rfl)
  rw [lg_entry_eq]
  generalize (lg_sl ([.ref (a 0)]) ++ List.replicate (3 - (lg_sl ([.ref (a 0)])).length) Slot.unset).toArray = ls at hl ⊢
  have hl : lv_has ls 3 [(0, .ref (a 0))] := hl
  refine lv_aload_n hx hb dX1_check_0 rfl (lv_at hl 0 rfl) ?_
  refine lv_iconst (v := 0) hx hb dX1_check_1 (by decide) ?_
  refine va_put (D := (dC, dI)) (ci := 1) (v := .int 0) (ty := .int) (C := RX1) (T := TX1) (N := 15) hx hb hts hin9 tyX1 tyX1_ok nmX1 hown hK hP hD hS 0 rfl rfl 0 (by decide) (hts _ (List.mem_cons_of_mem _ mf_X1_34)) (fun _ h9 => h9) rfl (by decide +kernel) rfl rfl (Nat.le_of_ble_eq_true rfl) dX1_check_2 (fun H locs hP hD hS => ?_)
  have hP : va_P (dC, dI) vwCl (wM n a ca (0, ms_o u, ms_b u, ms_v u, ms_d u, ms_n u, ms_l u, ms_u u, ms_m u, ms_h u, ms_i u, ms_j u, ms_w u, ms_t u)) H := hP
  have hD : va_D A (wM n a ca (0, ms_o u, ms_b u, ms_v u, ms_d u, ms_n u, ms_l u, ms_u u, ms_m u, ms_h u, ms_i u, ms_j u, ms_w u, ms_t u)) := hD
  refine lv_iconst (v := 0) hx hb dX1_check_5 (by decide) ?_
  refine lv_istore_n hx hb dX1_check_6 rfl hl (by decide) rfl (fun ls hl => ?_)
  have hl : lv_has ls 3 [(1, .int 0), (0, .ref (a 0))] := hl
  refine lv_iconst (v := 0) hx hb dX1_check_7 (by decide) ?_
  refine lv_istore_n hx hb dX1_check_8 rfl hl (by decide) rfl (fun ls hl => ?_)
  have hl : lv_has ls 3 [(2, .int 0), (1, .int 0), (0, .ref (a 0))] := hl
  refine zr_loop (fun r (x0 : Nat × Int32 × StM) ls H locs => r + x0.1 = n ∧ fm_checkL r x0.1 x0.2.1 x0.2.2 = fm_check n u ∧ lv_has ls 3 [(0, .ref (a 0)), (1, .int x0.2.1), (2, .int (nI x0.1))] ∧ va_P (dC, dI) vwCl (wM n a ca x0.2.2) H ∧ va_D A (wM n a ca x0.2.2) ∧ va_S A s.heap H locs) (fun ls => F0 m 9 ls []) ?_ n (0, 0, (0, ms_o u, ms_b u, ms_v u, ms_d u, ms_n u, ms_l u, ms_u u, ms_m u, ms_h u, ms_i u, ms_j u, ms_w u, ms_t u)) _ _ _ ⟨by omega, rfl, lv_sub hl [2, 1, 0] rfl, hP, hD, hS⟩
  rintro r ⟨k, q, w⟩ ls H locs ih ⟨hrk, hinv, hl, hP, hD, hS⟩
  have hrk : r + k = n := hrk
  have hinv : fm_checkL r k q w = fm_check n u := hinv
  have hl : lv_has ls 3 [(0, .ref (a 0)), (1, .int q), (2, .int (nI k))] := hl
  have hP : va_P (dC, dI) vwCl (wM n a ca w) H := hP
  have hD : va_D A (wM n a ca w) := hD
  refine lv_iload_n hx hb dX1_check_9 rfl (lv_at hl 2 rfl) ?_
  refine lv_aload_n hx hb dX1_check_10 rfl (lv_at hl 0 rfl) ?_
  refine va_get (D := (dC, dI)) (ci := 1) (v := .int (nI n)) (C := RX1) (T := TX1) (N := 15) hx hb hts hin9 hown hK hP 0 rfl rfl 1 (by decide) (hts _ (List.mem_cons_of_mem _ mf_X1_30)) (fun _ h9 => h9) rfl dX1_check_11 ?_
  refine lv_icmp_ge hx hb dX1_check_14 (tgt := 45) rfl (fun h1 => ?_) (fun h1 => ?_)
  · have h1 := zr_ge (by omega) (by omega) h1
    obtain rfl : r = 0 := by omega
    refine lv_iload_n hx hb dX1_check_45 rfl (lv_at hl 1 rfl) ?_
    exact W.iret (v := q) hx hb hr (fun t ht hW => ⟨⟨q, w, rfl, ⟨(by first | rfl | (rw [← hinv] <;> rfl) | (rw [← hinv]; simp only [fm_check] <;> rfl) | (simp only [fm_check]; rw [← hinv] <;> rfl) | (simp only [fm_check]; rw [← hinv]; simp only [fm_check] <;> rfl) | (simp only [fm_check] <;> rfl)), (by first | rfl | (rw [← hinv] <;> rfl) | (rw [← hinv]; simp only [fm_check] <;> rfl) | (simp only [fm_check]; rw [← hinv] <;> rfl) | (simp only [fm_check]; rw [← hinv]; simp only [fm_check] <;> rfl) | (simp only [fm_check] <;> rfl))⟩, ⟨by rw [ht]; exact hP, va_K.moved hW.alike hK, hD⟩⟩, hS.F ht⟩) hS.2.2 dX1_check_46
  · have h1 := zr_lt (by omega) (by omega) h1
    obtain ⟨r', rfl⟩ : ∃ z, r = z + 1 := ⟨r - 1, by omega⟩
    refine lv_aload_n hx hb dX1_check_17 rfl (lv_at hl 0 rfl) ?_
    refine va_get (D := (dC, dI)) (ci := 1) (v := .ref (a 5)) (C := RX1) (T := TX1) (N := 15) hx hb hts hin9 hown hK hP 0 rfl rfl 6 (by decide) (hts _ (List.mem_cons_of_mem _ mf_X1_24)) (fun _ h9 => h9) rfl dX1_check_18 ?_
    refine lv_iload_n hx hb dX1_check_21 rfl (lv_at hl 2 rfl) ?_
    refine zr_iald (k := k) hx hb hK hP 5 4 rfl rfl (by omega) (by omega) dX1_check_22 ?_
    refine lv_aload_n hx hb dX1_check_23 rfl (lv_at hl 0 rfl) ?_
    refine lv_iload_n hx hb dX1_check_24 rfl (lv_at hl 2 rfl) ?_
    refine zr_Vi (w := fun z => wM n a ca z) (u := w) (u1 := w) (v := fm_so (ms_b w k) (ms_d w k)) (As := [.int (nI k)]) (rest := [.int (ms_n w k)]) ⟨hx, hb, hml, hown, hts⟩ (c_M_soOf l dC dI n a ca w H.size k hn (by omega)) (cwV 1 hts gX1_check_X1_soOf rfl rfl rfl (by decide +kernel) ⟨Nat.le_of_ble_eq_true rfl, Nat.le_of_ble_eq_true rfl⟩) hK hP hD hS hA (va_recv (q0 := 0) (ci := 1) (q := (RX1, TX1, 15)) hK hP rfl rfl) rfl hl.1 rfl (Nat.le_of_ble_eq_true rfl) dX1_check_25 (fun H locs hP hD hS => ?_) ⟨Nat.le_of_ble_eq_true rfl, Nat.le_of_ble_eq_true rfl⟩
    have hP : va_P (dC, dI) vwCl (wM n a ca w) H := hP
    have hD : va_D A (wM n a ca w) := hD
    refine lv_icmp_eq hx hb dX1_check_28 (tgt := 39) rfl (fun h2 => ?_) (fun h2 => ?_)
    · refine lv_iinc (k := 2) (v := nI (k + 1)) hx hb dX1_check_39 hl rfl (zr_incN k) (by decide) rfl (fun ls hl => ?_)
      have hl : lv_has ls 3 [(2, .int (nI (k + 1))), (0, .ref (a 0)), (1, .int q)] := hl
      refine lv_goto hx hb dX1_check_42 (tgt := 9) rfl ?_
      exact ih r' (k + 1, q, w) _ _ _ (by omega) ⟨by omega, (by rw [← hinv]; first | rfl | (simp only [fm_checkL, if_pos h2] <;> rfl)), lv_sub hl [1, 2, 0] rfl, hP, hD, hS⟩
    · refine lv_aload_n hx hb dX1_check_31 rfl (lv_at hl 0 rfl) ?_
      refine lv_iload_n hx hb dX1_check_32 rfl (lv_at hl 2 rfl) ?_
      refine zr_Vv (w := fun z => wM n a ca z) (u := w) (u1 := fm_note w k) (As := [.int (nI k)]) (rest := []) ⟨hx, hb, hml, hown, hts⟩ (c_M_noteSlot l dC dI n a ca w H.size k hn (by omega)) (cwV 1 hts gX1_check_X1_noteSlot rfl rfl rfl (by decide +kernel) ⟨Nat.le_of_ble_eq_true rfl, Nat.le_of_ble_eq_true rfl⟩) hK hP hD hS hA (va_recv (q0 := 0) (ci := 1) (q := (RX1, TX1, 15)) hK hP rfl rfl) rfl hl.1 rfl (Nat.le_of_ble_eq_true rfl) dX1_check_33 (fun H locs hP hD hS => ?_) ⟨Nat.le_of_ble_eq_true rfl, Nat.le_of_ble_eq_true rfl⟩
      have hP : va_P (dC, dI) vwCl (wM n a ca (fm_note w k)) H := hP
      have hD : va_D A (wM n a ca (fm_note w k)) := hD
      refine lv_iinc (k := 1) (v := (q + 1)) hx hb dX1_check_36 hl rfl (zr_inc1 q) (by decide) rfl (fun ls hl => ?_)
      have hl : lv_has ls 3 [(1, .int (q + 1)), (0, .ref (a 0)), (2, .int (nI k))] := hl
      refine lv_iinc (k := 2) (v := nI (k + 1)) hx hb dX1_check_39 hl rfl (zr_incN k) (by decide) rfl (fun ls hl => ?_)
      have hl : lv_has ls 3 [(2, .int (nI (k + 1))), (1, .int (q + 1)), (0, .ref (a 0))] := hl
      refine lv_goto hx hb dX1_check_42 (tgt := 9) rfl ?_
      exact ih r' (k + 1, (q + 1), fm_note w k) _ _ _ (by omega) ⟨by omega, (by rw [← hinv]; first | rfl | (simp only [fm_checkL, if_neg h2] <;> rfl)), lv_sub hl [2, 1, 0] rfl, hP, hD, hS⟩
