set_option maxHeartbeats 4000000 in
set_option maxRecDepth 100000 in
theorem c_M_back (l : Launch) (dC : Nat → ClassId) (dI : Nat → Nat → Nat) (n : Nat) (a : Nat → Nat) (ca : Nat → ClassId) (u : StM) (sz : Nat) (q : Int32) (hn : n ≤ 12) (hok : okM n u) : Met l yX1_back wsX1_back ({ frames := 4, cells := 0, slots := 0, locals := 85 }) (va_Pc [.ref (a 0), .int q] (zr_P (dC, dI) vwCl (tM ca) (wM n a ca u) sz)) (va_Qi (fun r u' => r = (fm_back n u q).1 ∧ u' = (fm_back n u q).2) (fun u' => zr_B (dC, dI) vwCl (tM ca) (va_A (wM n a ca u) sz) (wM n a ca u')) (va_A (wM n a ca u) sz)) 0 0 (va_A (wM n a ca u) sz) := by
  refine Met.ofW (cc := cX1_back) (maxL := 5) (ret := (some .int)) (by decide) rfl ?_
  intro p e s m args below meth c s₁ B hml hv
  obtain ⟨rfl, hsz, hP, hK, hD0⟩ := hv
  have hx := B.exec
  have hb := B.bytes
  have hr := B.returns
  have hts := atoms_spec (ws := wsX1_back) B.pre
  have hown : s.vm.findClass RX1 = some m.cls := findClass_of_methodNamed B.named
  have hlocks := B.notSynchronized
  subst hsz
  have hD := hD0.self (sz := s.heap.size)
  generalize hAe : va_A (wM n a ca u) s.heap.size = A at hD ⊢
  have hA : ∀ q : Nat, s.heap.size ≤ q → A q := fun q h => by rw [← hAe]; exact Or.inr h
  obtain ⟨H, hH, hP, hS⟩ : ∃ H, H = s.heap ∧ va_P (dC, dI) vwCl (wM n a ca u) H ∧ va_S A s.heap H [] := ⟨_, rfl, hP, va_S.rf⟩
  have hin9 : ∀ w ∈ u_ws RX1 TX1 15, w ∈ wsX1_back := fun w h => List.mem_cons_of_mem _ (hinX1 w h)
  rw [← hH]
  have hl := lv_entry ([.ref (a 0), .int q]) (n := 5) (Nat.le_of_ble_eq_true rfl)
  rw [lg_entry_eq]
  generalize (lg_sl ([.ref (a 0), .int q]) ++ List.replicate (5 - (lg_sl ([.ref (a 0), .int q])).length) Slot.unset).toArray = ls at hl ⊢
  have hl : lv_has ls 5 [(0, .ref (a 0)), (1, .int q)] := hl
  refine lv_aload_n hx hb dX1_back_0 rfl (lv_at hl 0 rfl) ?_
  refine lv_iload_n hx hb dX1_back_1 rfl (lv_at hl 1 rfl) ?_
  refine lv_if_lt hx hb dX1_back_2 (tgt := 11) rfl (fun h1 => ?_) (fun h1 => ?_)
  · refine lv_iconst (v := 1) hx hb dX1_back_11 (by decide) ?_
    refine lv_goto hx hb dX1_back_12 (tgt := 16) rfl ?_
    refine va_put (D := (dC, dI)) (ci := 1) (v := .int 1) (ty := .int) (C := RX1) (T := TX1) (N := 15) hx hb hts hin9 tyX1 tyX1_ok nmX1 hown hK hP hD hS 0 rfl rfl 0 (by decide) (hts _ (List.mem_cons_of_mem _ mf_X1_34)) (fun _ h9 => h9) rfl (by decide +kernel) rfl rfl (Nat.le_of_ble_eq_true rfl) dX1_back_16 (fun H locs hP hD hS => ?_)
    have hP : va_P (dC, dI) vwCl (wM n a ca (1, ms_o u, ms_b u, ms_v u, ms_d u, ms_n u, ms_l u, ms_u u, ms_m u, ms_h u, ms_i u, ms_j u, ms_w u, ms_t u)) H := hP
    have hD : va_D A (wM n a ca (1, ms_o u, ms_b u, ms_v u, ms_d u, ms_n u, ms_l u, ms_u u, ms_m u, ms_h u, ms_i u, ms_j u, ms_w u, ms_t u)) := hD
    refine lv_iconst (v := 0) hx hb dX1_back_19 (by decide) ?_
    refine lv_istore_n hx hb dX1_back_20 rfl hl (by decide) rfl (fun ls hl => ?_)
    have hl : lv_has ls 5 [(2, .int 0), (0, .ref (a 0)), (1, .int q)] := hl
    refine lv_iconst (v := 0) hx hb dX1_back_21 (by decide) ?_
    refine lv_istore_n hx hb dX1_back_22 rfl hl (by decide) rfl (fun ls hl => ?_)
    have hl : lv_has ls 5 [(3, .int 0), (2, .int 0), (0, .ref (a 0)), (1, .int q)] := hl
    refine lv_iload_n hx hb dX1_back_23 rfl (lv_at hl 0 rfl) ?_
    refine lv_iload_n hx hb dX1_back_24 rfl (lv_at hl 3 rfl) ?_
    refine lv_icmp_ge hx hb dX1_back_25 (tgt := 95) rfl (fun h2 => ?_) (fun h2 => ?_)
    · refine lv_iload_n hx hb dX1_back_95 rfl (lv_at hl 1 rfl) ?_
      exact W.iret (v := 0) hx hb hr (fun t ht hW => ⟨⟨0, (1, ms_o u, ms_b u, ms_v u, ms_d u, ms_n u, ms_l u, ms_u u, ms_m u, ms_h u, ms_i u, ms_j u, ms_w u, ms_t u), rfl, ⟨(by first | rfl | (simp only [fm_back, fm_setc, if_pos h1, if_pos h2] <;> rfl)), (by first | rfl | (simp only [fm_back, fm_setc, if_pos h1, if_pos h2] <;> rfl))⟩, ⟨by rw [ht]; exact hP, va_K.moved hW.alike hK, hD⟩⟩, hS.F ht⟩) hS.2.2 dX1_back_96
    · refine lv_aload_n hx hb dX1_back_28 rfl (lv_at hl 2 rfl) ?_
      refine va_get (D := (dC, dI)) (ci := 1) (v := .int 1) (C := RX1) (T := TX1) (N := 15) hx hb hts hin9 hown hK hP 0 rfl rfl 0 (by decide) (hts _ (List.mem_cons_of_mem _ mf_X1_34)) (fun _ h9 => h9) rfl dX1_back_29 ?_
      refine lv_if_ne hx hb dX1_back_32 (tgt := 95) rfl (fun _ => ?_) (fun h => absurd h (by decide))
      refine lv_iload_n hx hb dX1_back_95 rfl (lv_at hl 1 rfl) ?_
      exact W.iret (v := 0) hx hb hr (fun t ht hW => ⟨⟨0, (1, ms_o u, ms_b u, ms_v u, ms_d u, ms_n u, ms_l u, ms_u u, ms_m u, ms_h u, ms_i u, ms_j u, ms_w u, ms_t u), rfl, ⟨(by first | rfl | (simp only [fm_back, fm_setc, if_pos h1, if_neg h2] <;> rfl)), (by first | rfl | (simp only [fm_back, fm_setc, if_pos h1, if_neg h2] <;> rfl))⟩, ⟨by rw [ht]; exact hP, va_K.moved hW.alike hK, hD⟩⟩, hS.F ht⟩) hS.2.2 dX1_back_96
  · refine lv_iload_n hx hb dX1_back_5 rfl (lv_at hl 1 rfl) ?_
    refine lv_bipush (v := 12) hx hb dX1_back_6 (by decide) ?_
    refine lv_icmp_le hx hb dX1_back_8 (tgt := 15) rfl (fun h3 => ?_) (fun h3 => ?_)
    · obtain ⟨N, hN, rfl⟩ := nI_of2 (M := 12) (n := 12) (by decide) h1 h3
      refine lv_iconst (v := 0) hx hb dX1_back_15 (by decide) ?_
      refine va_put (D := (dC, dI)) (ci := 1) (v := .int 0) (ty := .int) (C := RX1) (T := TX1) (N := 15) hx hb hts hin9 tyX1 tyX1_ok nmX1 hown hK hP hD hS 0 rfl rfl 0 (by decide) (hts _ (List.mem_cons_of_mem _ mf_X1_34)) (fun _ h9 => h9) rfl (by decide +kernel) rfl rfl (Nat.le_of_ble_eq_true rfl) dX1_back_16 (fun H locs hP hD hS => ?_)
      have hP : va_P (dC, dI) vwCl (wM n a ca (0, ms_o u, ms_b u, ms_v u, ms_d u, ms_n u, ms_l u, ms_u u, ms_m u, ms_h u, ms_i u, ms_j u, ms_w u, ms_t u)) H := hP
      have hD : va_D A (wM n a ca (0, ms_o u, ms_b u, ms_v u, ms_d u, ms_n u, ms_l u, ms_u u, ms_m u, ms_h u, ms_i u, ms_j u, ms_w u, ms_t u)) := hD
      refine lv_iconst (v := 0) hx hb dX1_back_19 (by decide) ?_
      refine lv_istore_n hx hb dX1_back_20 rfl hl (by decide) rfl (fun ls hl => ?_)
      have hl : lv_has ls 5 [(2, .int 0), (0, .ref (a 0)), (1, .int (nI N))] := hl
      refine lv_iconst (v := 0) hx hb dX1_back_21 (by decide) ?_
      refine lv_istore_n hx hb dX1_back_22 rfl hl (by decide) rfl (fun ls hl => ?_)
      have hl : lv_has ls 5 [(3, .int 0), (2, .int 0), (0, .ref (a 0)), (1, .int (nI N))] := hl
      refine zr_loop (fun r (x0 : Nat × Int32 × StM) ls H locs => r + x0.1 = N ∧ fm_backL n r x0.2.1 x0.2.2 = fm_back n u (nI N) ∧ (okM n x0.2.2) ∧ (ms_c x0.2.2 = 0) ∧ lv_has ls 5 [(0, .ref (a 0)), (1, .int (nI N)), (2, .int x0.2.1), (3, .int (nI x0.1))] ∧ va_P (dC, dI) vwCl (wM n a ca x0.2.2) H ∧ va_D A (wM n a ca x0.2.2) ∧ va_S A s.heap H locs) (fun ls => F0 m 23 ls []) ?_ N (0, 0, (0, ms_o u, ms_b u, ms_v u, ms_d u, ms_n u, ms_l u, ms_u u, ms_m u, ms_h u, ms_i u, ms_j u, ms_w u, ms_t u)) _ _ _ ⟨by omega, (by simp only [fm_back, if_neg h1, if_pos h3, nI_clamp (show N < 2 ^ 31 by omega)] <;> rfl), hok, rfl, lv_sub hl [2, 3, 1, 0] rfl, hP, hD, hS⟩
      rintro r ⟨k, y, w⟩ ls H locs ih ⟨hrk, hinv, hok, hcw, hl, hP, hD, hS⟩
      have hrk : r + k = N := hrk
      have hinv : fm_backL n r y w = fm_back n u (nI N) := hinv
      have hok : okM n w := hok
      have hcw : ms_c w = 0 := hcw
      have hl : lv_has ls 5 [(0, .ref (a 0)), (1, .int (nI N)), (2, .int y), (3, .int (nI k))] := hl
      have hP : va_P (dC, dI) vwCl (wM n a ca w) H := hP
      have hD : va_D A (wM n a ca w) := hD
      refine lv_iload_n hx hb dX1_back_23 rfl (lv_at hl 3 rfl) ?_
      refine lv_iload_n hx hb dX1_back_24 rfl (lv_at hl 1 rfl) ?_
      refine lv_icmp_ge hx hb dX1_back_25 (tgt := 95) rfl (fun h4 => ?_) (fun h4 => ?_)
      · have h4 := zr_ge (by omega) (by omega) h4
        obtain rfl : r = 0 := by omega
        refine lv_iload_n hx hb dX1_back_95 rfl (lv_at hl 2 rfl) ?_
        exact W.iret (v := y) hx hb hr (fun t ht hW => ⟨⟨y, w, rfl, ⟨(by first | rfl | (rw [← hinv] <;> rfl) | (rw [← hinv]; simp only [fm_back, fm_setc, if_neg h1, if_pos h3, nI_clamp (show N < 2 ^ 31 by omega)] <;> rfl) | (simp only [fm_back, fm_setc, if_neg h1, if_pos h3, nI_clamp (show N < 2 ^ 31 by omega)]; rw [← hinv] <;> rfl) | (simp only [fm_back, fm_setc, if_neg h1, if_pos h3, nI_clamp (show N < 2 ^ 31 by omega)]; rw [← hinv]; simp only [fm_back, fm_setc, if_neg h1, if_pos h3, nI_clamp (show N < 2 ^ 31 by omega)] <;> rfl) | (simp only [fm_back, fm_setc, if_neg h1, if_pos h3, nI_clamp (show N < 2 ^ 31 by omega)] <;> rfl)), (by first | rfl | (rw [← hinv] <;> rfl) | (rw [← hinv]; simp only [fm_back, fm_setc, if_neg h1, if_pos h3, nI_clamp (show N < 2 ^ 31 by omega)] <;> rfl) | (simp only [fm_back, fm_setc, if_neg h1, if_pos h3, nI_clamp (show N < 2 ^ 31 by omega)]; rw [← hinv] <;> rfl) | (simp only [fm_back, fm_setc, if_neg h1, if_pos h3, nI_clamp (show N < 2 ^ 31 by omega)]; rw [← hinv]; simp only [fm_back, fm_setc, if_neg h1, if_pos h3, nI_clamp (show N < 2 ^ 31 by omega)] <;> rfl) | (simp only [fm_back, fm_setc, if_neg h1, if_pos h3, nI_clamp (show N < 2 ^ 31 by omega)] <;> rfl))⟩, ⟨by rw [ht]; exact hP, va_K.moved hW.alike hK, hD⟩⟩, hS.F ht⟩) hS.2.2 dX1_back_96
      · have h4 := zr_lt (by omega) (by omega) h4
        obtain ⟨r', rfl⟩ : ∃ z, r = z + 1 := ⟨r - 1, by omega⟩
        refine lv_aload_n hx hb dX1_back_28 rfl (lv_at hl 0 rfl) ?_
        refine va_get (D := (dC, dI)) (ci := 1) (v := .int (ms_c w)) (C := RX1) (T := TX1) (N := 15) hx hb hts hin9 hown hK hP 0 rfl rfl 0 (by decide) (hts _ (List.mem_cons_of_mem _ mf_X1_34)) (fun _ h9 => h9) rfl dX1_back_29 ?_
        rw [hcw]
        refine lv_if_ne hx hb dX1_back_32 (tgt := 95) rfl (fun h => absurd (by decide) h) (fun _ => ?_)
        refine lv_aload_n hx hb dX1_back_35 rfl (lv_at hl 0 rfl) ?_
        refine lv_aload_n hx hb dX1_back_36 rfl (lv_at hl 0 rfl) ?_
        refine va_get (D := (dC, dI)) (ci := 1) (v := .int (ms_h w)) (C := RX1) (T := TX1) (N := 15) hx hb hts hin9 hown hK hP 0 rfl rfl 10 (by decide) (hts _ (List.mem_cons_of_mem _ mf_X1_98)) (fun _ h9 => h9) rfl dX1_back_37 ?_
        refine zr_Vi (w := fun z => wM n a ca z) (u := w) (u1 := w) (v := fc_enc (fm_next (ms_b w) (ms_d w) (ms_h w) n 0 none)) (As := [.int (ms_h w)]) (rest := []) ⟨hx, hb, hml, hown, hts⟩ (c_M_nextDirty l dC dI n a ca w H.size (ms_h w) hn) (cwV 1 hts gX1_back_X1_nextDirty rfl rfl rfl (by decide +kernel) ⟨Nat.le_of_ble_eq_true rfl, Nat.le_of_ble_eq_true rfl⟩) hK hP hD hS hA (va_recv (q0 := 0) (ci := 1) (q := (RX1, TX1, 15)) hK hP rfl rfl) rfl hl.1 rfl (Nat.le_of_ble_eq_true rfl) dX1_back_40 (fun H locs hP hD hS => ?_) ⟨Nat.le_of_ble_eq_true rfl, Nat.le_of_ble_eq_true rfl⟩
        have hP : va_P (dC, dI) vwCl (wM n a ca w) H := hP
        have hD : va_D A (wM n a ca w) := hD
        rcases hf5 : fm_next (ms_b w) (ms_d w) (ms_h w) n 0 none with _ | j6
        · refine W.eq (g2 := F0 m 43 ls [.int (-1)]) rfl ?_
          refine lv_istore hx hb dX1_back_43 hl (by decide) rfl (fun ls hl => ?_)
          have hl : lv_has ls 5 [(4, .int (-1)), (0, .ref (a 0)), (1, .int (nI N)), (2, .int y), (3, .int (nI k))] := hl
          refine lv_iload hx hb dX1_back_45 (lv_at hl 0 rfl) ?_
          refine lv_if_ge hx hb dX1_back_47 (tgt := 58) rfl (fun h => absurd h (by decide)) (fun _ => ?_)
          refine lv_aload_n hx hb dX1_back_50 rfl (lv_at hl 1 rfl) ?_
          refine lv_iconst (v := 0) hx hb dX1_back_51 (by decide) ?_
          refine zr_Vi (w := fun z => wM n a ca z) (u := w) (u1 := w) (v := fc_enc (fm_next (ms_b w) (ms_d w) 0 n 0 none)) (As := [.int 0]) (rest := []) ⟨hx, hb, hml, hown, hts⟩ (c_M_nextDirty l dC dI n a ca w H.size 0 hn) (cwV 1 hts gX1_back_X1_nextDirty rfl rfl rfl (by decide +kernel) ⟨Nat.le_of_ble_eq_true rfl, Nat.le_of_ble_eq_true rfl⟩) hK hP hD hS hA (va_recv (q0 := 0) (ci := 1) (q := (RX1, TX1, 15)) hK hP rfl rfl) rfl hl.1 rfl (Nat.le_of_ble_eq_true rfl) dX1_back_52 (fun H locs hP hD hS => ?_) ⟨Nat.le_of_ble_eq_true rfl, Nat.le_of_ble_eq_true rfl⟩
          have hP : va_P (dC, dI) vwCl (wM n a ca w) H := hP
          have hD : va_D A (wM n a ca w) := hD
          rcases hf7 : fm_next (ms_b w) (ms_d w) 0 n 0 none with _ | j8
          · refine W.eq (g2 := F0 m 55 ls [.int (-1)]) rfl ?_
            refine lv_goto hx hb dX1_back_55 (tgt := 60) rfl ?_
            refine lv_istore hx hb dX1_back_60 hl (by decide) rfl (fun ls hl => ?_)
            have hl : lv_has ls 5 [(4, .int (-1)), (0, .ref (a 0)), (1, .int (nI N)), (2, .int y), (3, .int (nI k))] := hl
            refine lv_iload hx hb dX1_back_62 (lv_at hl 0 rfl) ?_
            refine lv_if_lt hx hb dX1_back_64 (tgt := 89) rfl (fun _ => ?_) (fun h => absurd (by decide) h)
            refine lv_iinc (k := 4) (v := nI (k + 1)) hx hb dX1_back_89 hl rfl (zr_incN k) (by decide) rfl (fun ls hl => ?_)
            have hl : lv_has ls 5 [(3, .int (nI (k + 1))), (4, .int (-1)), (0, .ref (a 0)), (1, .int (nI N)), (2, .int y)] := hl
            refine lv_goto hx hb dX1_back_92 (tgt := 23) rfl ?_
            exact ih r' (k + 1, y, w) _ _ _ (by omega) ⟨by omega, (by rw [← hinv]; first | rfl | (simp only [fm_backL, fm_nxt, fm_back1, fm_seth, hf5, hf7] <;> rfl)), hok, hcw, lv_sub hl [2, 3, 4, 0] rfl, hP, hD, hS⟩
          · have hj8 := fm_next_lt hf7
            refine W.eq (g2 := F0 m 55 ls [.int (nI j8)]) rfl ?_
            refine lv_goto hx hb dX1_back_55 (tgt := 60) rfl ?_
            refine lv_istore hx hb dX1_back_60 hl (by decide) rfl (fun ls hl => ?_)
            have hl : lv_has ls 5 [(4, .int (nI j8)), (0, .ref (a 0)), (1, .int (nI N)), (2, .int y), (3, .int (nI k))] := hl
            refine lv_iload hx hb dX1_back_62 (lv_at hl 0 rfl) ?_
            refine lv_if_lt hx hb dX1_back_64 (tgt := 89) rfl (fun h => absurd h (zr_nneg (by omega))) (fun _ => ?_)
            refine lv_aload_n hx hb dX1_back_67 rfl (lv_at hl 1 rfl) ?_
            refine lv_iload hx hb dX1_back_68 (lv_at hl 0 rfl) ?_
            refine zr_Vv (w := fun z => wM n a ca z) (u := w) (u1 := fm_wb w j8) (As := [.int (nI j8)]) (rest := []) ⟨hx, hb, hml, hown, hts⟩ (c_M_writeBack l dC dI n a ca w H.size j8 hn (by omega) (hok _ (by omega) (fm_next_d _ _ _ _ _ none (fun _ h => nomatch h) _ hf7))) (cwV 1 hts gX1_back_X1_writeBack rfl rfl rfl (by decide +kernel) ⟨Nat.le_of_ble_eq_true rfl, Nat.le_of_ble_eq_true rfl⟩) hK hP hD hS hA (va_recv (q0 := 0) (ci := 1) (q := (RX1, TX1, 15)) hK hP rfl rfl) rfl hl.1 rfl (Nat.le_of_ble_eq_true rfl) dX1_back_70 (fun H locs hP hD hS => ?_) ⟨Nat.le_of_ble_eq_true rfl, Nat.le_of_ble_eq_true rfl⟩
            have hP : va_P (dC, dI) vwCl (wM n a ca (fm_wb w j8)) H := hP
            have hD : va_D A (wM n a ca (fm_wb w j8)) := hD
            refine lv_aload_n hx hb dX1_back_73 rfl (lv_at hl 1 rfl) ?_
            refine lv_aload_n hx hb dX1_back_74 rfl (lv_at hl 1 rfl) ?_
            refine va_get (D := (dC, dI)) (ci := 1) (v := .ref (a 2)) (C := RX1) (T := TX1) (N := 15) hx hb hts hin9 hown hK hP 0 rfl rfl 3 (by decide) (hts _ (List.mem_cons_of_mem _ mf_X1_13)) (fun _ h9 => h9) rfl dX1_back_75 ?_
            refine lv_iload hx hb dX1_back_78 (lv_at hl 0 rfl) ?_
            refine zr_iald (k := j8) hx hb hK hP 2 1 rfl rfl (by omega) (by omega) dX1_back_80 ?_
            refine lv_iconst (v := 1) hx hb dX1_back_81 (by decide) ?_
            refine lv_iadd hx hb dX1_back_82 ?_
            refine va_put (D := (dC, dI)) (ci := 1) (v := .int (((ms_b (fm_wb w j8)) j8) + 1)) (ty := .int) (C := RX1) (T := TX1) (N := 15) hx hb hts hin9 tyX1 tyX1_ok nmX1 hown hK hP hD hS 0 rfl rfl 10 (by decide) (hts _ (List.mem_cons_of_mem _ mf_X1_98)) (fun _ h9 => h9) rfl (by decide +kernel) rfl rfl (Nat.le_of_ble_eq_true rfl) dX1_back_83 (fun H locs hP hD hS => ?_)
            have hP : va_P (dC, dI) vwCl (wM n a ca (ms_c (fm_wb w j8), ms_o (fm_wb w j8), ms_b (fm_wb w j8), ms_v (fm_wb w j8), ms_d (fm_wb w j8), ms_n (fm_wb w j8), ms_l (fm_wb w j8), ms_u (fm_wb w j8), ms_m (fm_wb w j8), (((ms_b (fm_wb w j8)) j8) + 1), ms_i (fm_wb w j8), ms_j (fm_wb w j8), ms_w (fm_wb w j8), ms_t (fm_wb w j8))) H := hP
            have hD : va_D A (wM n a ca (ms_c (fm_wb w j8), ms_o (fm_wb w j8), ms_b (fm_wb w j8), ms_v (fm_wb w j8), ms_d (fm_wb w j8), ms_n (fm_wb w j8), ms_l (fm_wb w j8), ms_u (fm_wb w j8), ms_m (fm_wb w j8), (((ms_b (fm_wb w j8)) j8) + 1), ms_i (fm_wb w j8), ms_j (fm_wb w j8), ms_w (fm_wb w j8), ms_t (fm_wb w j8))) := hD
            refine lv_iinc (k := 3) (v := (y + 1)) hx hb dX1_back_86 hl rfl (zr_inc1 y) (by decide) rfl (fun ls hl => ?_)
            have hl : lv_has ls 5 [(2, .int (y + 1)), (4, .int (nI j8)), (0, .ref (a 0)), (1, .int (nI N)), (3, .int (nI k))] := hl
            refine lv_iinc (k := 4) (v := nI (k + 1)) hx hb dX1_back_89 hl rfl (zr_incN k) (by decide) rfl (fun ls hl => ?_)
            have hl : lv_has ls 5 [(3, .int (nI (k + 1))), (2, .int (y + 1)), (4, .int (nI j8)), (0, .ref (a 0)), (1, .int (nI N))] := hl
            refine lv_goto hx hb dX1_back_92 (tgt := 23) rfl ?_
            exact ih r' (k + 1, (y + 1), (ms_c (fm_wb w j8), ms_o (fm_wb w j8), ms_b (fm_wb w j8), ms_v (fm_wb w j8), ms_d (fm_wb w j8), ms_n (fm_wb w j8), ms_l (fm_wb w j8), ms_u (fm_wb w j8), ms_m (fm_wb w j8), (((ms_b (fm_wb w j8)) j8) + 1), ms_i (fm_wb w j8), ms_j (fm_wb w j8), ms_w (fm_wb w j8), ms_t (fm_wb w j8))) _ _ _ (by omega) ⟨by omega, (by rw [← hinv]; first | rfl | (simp only [fm_backL, fm_nxt, fm_back1, fm_seth, hf5, hf7] <;> rfl)), (okM_wb hok _), ((cM_wb _ _).trans hcw), lv_sub hl [3, 4, 1, 0] rfl, hP, hD, hS⟩
        · have hj6 := fm_next_lt hf5
          refine W.eq (g2 := F0 m 43 ls [.int (nI j6)]) rfl ?_
          refine lv_istore hx hb dX1_back_43 hl (by decide) rfl (fun ls hl => ?_)
          have hl : lv_has ls 5 [(4, .int (nI j6)), (0, .ref (a 0)), (1, .int (nI N)), (2, .int y), (3, .int (nI k))] := hl
          refine lv_iload hx hb dX1_back_45 (lv_at hl 0 rfl) ?_
          refine lv_if_ge hx hb dX1_back_47 (tgt := 58) rfl (fun _ => ?_) (fun h => absurd (nI_pos' (by omega)) h)
          refine lv_iload hx hb dX1_back_58 (lv_at hl 0 rfl) ?_
          refine lv_istore hx hb dX1_back_60 hl (by decide) rfl (fun ls hl => ?_)
          have hl : lv_has ls 5 [(4, .int (nI j6)), (0, .ref (a 0)), (1, .int (nI N)), (2, .int y), (3, .int (nI k))] := hl
          refine lv_iload hx hb dX1_back_62 (lv_at hl 0 rfl) ?_
          refine lv_if_lt hx hb dX1_back_64 (tgt := 89) rfl (fun h => absurd h (zr_nneg (by omega))) (fun _ => ?_)
          refine lv_aload_n hx hb dX1_back_67 rfl (lv_at hl 1 rfl) ?_
          refine lv_iload hx hb dX1_back_68 (lv_at hl 0 rfl) ?_
          refine zr_Vv (w := fun z => wM n a ca z) (u := w) (u1 := fm_wb w j6) (As := [.int (nI j6)]) (rest := []) ⟨hx, hb, hml, hown, hts⟩ (c_M_writeBack l dC dI n a ca w H.size j6 hn (by omega) (hok _ (by omega) (fm_next_d _ _ _ _ _ none (fun _ h => nomatch h) _ hf5))) (cwV 1 hts gX1_back_X1_writeBack rfl rfl rfl (by decide +kernel) ⟨Nat.le_of_ble_eq_true rfl, Nat.le_of_ble_eq_true rfl⟩) hK hP hD hS hA (va_recv (q0 := 0) (ci := 1) (q := (RX1, TX1, 15)) hK hP rfl rfl) rfl hl.1 rfl (Nat.le_of_ble_eq_true rfl) dX1_back_70 (fun H locs hP hD hS => ?_) ⟨Nat.le_of_ble_eq_true rfl, Nat.le_of_ble_eq_true rfl⟩
          have hP : va_P (dC, dI) vwCl (wM n a ca (fm_wb w j6)) H := hP
          have hD : va_D A (wM n a ca (fm_wb w j6)) := hD
          refine lv_aload_n hx hb dX1_back_73 rfl (lv_at hl 1 rfl) ?_
          refine lv_aload_n hx hb dX1_back_74 rfl (lv_at hl 1 rfl) ?_
          refine va_get (D := (dC, dI)) (ci := 1) (v := .ref (a 2)) (C := RX1) (T := TX1) (N := 15) hx hb hts hin9 hown hK hP 0 rfl rfl 3 (by decide) (hts _ (List.mem_cons_of_mem _ mf_X1_13)) (fun _ h9 => h9) rfl dX1_back_75 ?_
          refine lv_iload hx hb dX1_back_78 (lv_at hl 0 rfl) ?_
          refine zr_iald (k := j6) hx hb hK hP 2 1 rfl rfl (by omega) (by omega) dX1_back_80 ?_
          refine lv_iconst (v := 1) hx hb dX1_back_81 (by decide) ?_
          refine lv_iadd hx hb dX1_back_82 ?_
          refine va_put (D := (dC, dI)) (ci := 1) (v := .int (((ms_b (fm_wb w j6)) j6) + 1)) (ty := .int) (C := RX1) (T := TX1) (N := 15) hx hb hts hin9 tyX1 tyX1_ok nmX1 hown hK hP hD hS 0 rfl rfl 10 (by decide) (hts _ (List.mem_cons_of_mem _ mf_X1_98)) (fun _ h9 => h9) rfl (by decide +kernel) rfl rfl (Nat.le_of_ble_eq_true rfl) dX1_back_83 (fun H locs hP hD hS => ?_)
          have hP : va_P (dC, dI) vwCl (wM n a ca (ms_c (fm_wb w j6), ms_o (fm_wb w j6), ms_b (fm_wb w j6), ms_v (fm_wb w j6), ms_d (fm_wb w j6), ms_n (fm_wb w j6), ms_l (fm_wb w j6), ms_u (fm_wb w j6), ms_m (fm_wb w j6), (((ms_b (fm_wb w j6)) j6) + 1), ms_i (fm_wb w j6), ms_j (fm_wb w j6), ms_w (fm_wb w j6), ms_t (fm_wb w j6))) H := hP
          have hD : va_D A (wM n a ca (ms_c (fm_wb w j6), ms_o (fm_wb w j6), ms_b (fm_wb w j6), ms_v (fm_wb w j6), ms_d (fm_wb w j6), ms_n (fm_wb w j6), ms_l (fm_wb w j6), ms_u (fm_wb w j6), ms_m (fm_wb w j6), (((ms_b (fm_wb w j6)) j6) + 1), ms_i (fm_wb w j6), ms_j (fm_wb w j6), ms_w (fm_wb w j6), ms_t (fm_wb w j6))) := hD
          refine lv_iinc (k := 3) (v := (y + 1)) hx hb dX1_back_86 hl rfl (zr_inc1 y) (by decide) rfl (fun ls hl => ?_)
          have hl : lv_has ls 5 [(2, .int (y + 1)), (4, .int (nI j6)), (0, .ref (a 0)), (1, .int (nI N)), (3, .int (nI k))] := hl
          refine lv_iinc (k := 4) (v := nI (k + 1)) hx hb dX1_back_89 hl rfl (zr_incN k) (by decide) rfl (fun ls hl => ?_)
          have hl : lv_has ls 5 [(3, .int (nI (k + 1))), (2, .int (y + 1)), (4, .int (nI j6)), (0, .ref (a 0)), (1, .int (nI N))] := hl
          refine lv_goto hx hb dX1_back_92 (tgt := 23) rfl ?_
          exact ih r' (k + 1, (y + 1), (ms_c (fm_wb w j6), ms_o (fm_wb w j6), ms_b (fm_wb w j6), ms_v (fm_wb w j6), ms_d (fm_wb w j6), ms_n (fm_wb w j6), ms_l (fm_wb w j6), ms_u (fm_wb w j6), ms_m (fm_wb w j6), (((ms_b (fm_wb w j6)) j6) + 1), ms_i (fm_wb w j6), ms_j (fm_wb w j6), ms_w (fm_wb w j6), ms_t (fm_wb w j6))) _ _ _ (by omega) ⟨by omega, (by rw [← hinv]; first | rfl | (simp only [fm_backL, fm_nxt, fm_back1, fm_seth, hf5] <;> rfl)), (okM_wb hok _), ((cM_wb _ _).trans hcw), lv_sub hl [3, 4, 1, 0] rfl, hP, hD, hS⟩
    · refine lv_iconst (v := 1) hx hb dX1_back_11 (by decide) ?_
      refine lv_goto hx hb dX1_back_12 (tgt := 16) rfl ?_
      refine va_put (D := (dC, dI)) (ci := 1) (v := .int 1) (ty := .int) (C := RX1) (T := TX1) (N := 15) hx hb hts hin9 tyX1 tyX1_ok nmX1 hown hK hP hD hS 0 rfl rfl 0 (by decide) (hts _ (List.mem_cons_of_mem _ mf_X1_34)) (fun _ h9 => h9) rfl (by decide +kernel) rfl rfl (Nat.le_of_ble_eq_true rfl) dX1_back_16 (fun H locs hP hD hS => ?_)
      have hP : va_P (dC, dI) vwCl (wM n a ca (1, ms_o u, ms_b u, ms_v u, ms_d u, ms_n u, ms_l u, ms_u u, ms_m u, ms_h u, ms_i u, ms_j u, ms_w u, ms_t u)) H := hP
      have hD : va_D A (wM n a ca (1, ms_o u, ms_b u, ms_v u, ms_d u, ms_n u, ms_l u, ms_u u, ms_m u, ms_h u, ms_i u, ms_j u, ms_w u, ms_t u)) := hD
      refine lv_iconst (v := 0) hx hb dX1_back_19 (by decide) ?_
      refine lv_istore_n hx hb dX1_back_20 rfl hl (by decide) rfl (fun ls hl => ?_)
      have hl : lv_has ls 5 [(2, .int 0), (0, .ref (a 0)), (1, .int q)] := hl
      refine lv_iconst (v := 0) hx hb dX1_back_21 (by decide) ?_
      refine lv_istore_n hx hb dX1_back_22 rfl hl (by decide) rfl (fun ls hl => ?_)
      have hl : lv_has ls 5 [(3, .int 0), (2, .int 0), (0, .ref (a 0)), (1, .int q)] := hl
      refine lv_iload_n hx hb dX1_back_23 rfl (lv_at hl 0 rfl) ?_
      refine lv_iload_n hx hb dX1_back_24 rfl (lv_at hl 3 rfl) ?_
      refine lv_icmp_ge hx hb dX1_back_25 (tgt := 95) rfl (fun h9 => ?_) (fun h9 => ?_)
      · refine lv_iload_n hx hb dX1_back_95 rfl (lv_at hl 1 rfl) ?_
        exact W.iret (v := 0) hx hb hr (fun t ht hW => ⟨⟨0, (1, ms_o u, ms_b u, ms_v u, ms_d u, ms_n u, ms_l u, ms_u u, ms_m u, ms_h u, ms_i u, ms_j u, ms_w u, ms_t u), rfl, ⟨(by first | rfl | (simp only [fm_back, fm_setc, if_neg h1, if_neg h3, if_pos h9] <;> rfl)), (by first | rfl | (simp only [fm_back, fm_setc, if_neg h1, if_neg h3, if_pos h9] <;> rfl))⟩, ⟨by rw [ht]; exact hP, va_K.moved hW.alike hK, hD⟩⟩, hS.F ht⟩) hS.2.2 dX1_back_96
      · refine lv_aload_n hx hb dX1_back_28 rfl (lv_at hl 2 rfl) ?_
        refine va_get (D := (dC, dI)) (ci := 1) (v := .int 1) (C := RX1) (T := TX1) (N := 15) hx hb hts hin9 hown hK hP 0 rfl rfl 0 (by decide) (hts _ (List.mem_cons_of_mem _ mf_X1_34)) (fun _ h9 => h9) rfl dX1_back_29 ?_
        refine lv_if_ne hx hb dX1_back_32 (tgt := 95) rfl (fun _ => ?_) (fun h => absurd h (by decide))
        refine lv_iload_n hx hb dX1_back_95 rfl (lv_at hl 1 rfl) ?_
        exact W.iret (v := 0) hx hb hr (fun t ht hW => ⟨⟨0, (1, ms_o u, ms_b u, ms_v u, ms_d u, ms_n u, ms_l u, ms_u u, ms_m u, ms_h u, ms_i u, ms_j u, ms_w u, ms_t u), rfl, ⟨(by first | rfl | (simp only [fm_back, fm_setc, if_neg h1, if_neg h3, if_neg h9] <;> rfl)), (by first | rfl | (simp only [fm_back, fm_setc, if_neg h1, if_neg h3, if_neg h9] <;> rfl))⟩, ⟨by rw [ht]; exact hP, va_K.moved hW.alike hK, hD⟩⟩, hS.F ht⟩) hS.2.2 dX1_back_96
