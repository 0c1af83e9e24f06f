set_option maxHeartbeats 4000000 in
set_option maxRecDepth 100000 in
theorem c_M_order (l : Launch) (dC : Nat → ClassId) (dI : Nat → Nat → Nat) (n : Nat) (a : Nat → Nat) (ca : Nat → ClassId) (u : StM) (sz : Nat) (q : Int32) (hn : n ≤ 12) : Met l yX1_order wsX1_order ({ frames := 0, cells := 0, slots := 0, locals := 0 }) (va_Pc [.ref (a 0), .int q] (zr_P (dC, dI) vwCl (tM ca) (wM n a ca u) sz)) (va_Qi (fun r u' => r = (fm_order n u q).1 ∧ u' = (fm_order n u q).2) (fun u' => zr_B (dC, dI) vwCl (tM ca) (va_A (wM n a ca u) sz) (wM n a ca u')) (va_A (wM n a ca u) sz)) 0 0 (va_A (wM n a ca u) sz) := by
  refine Met.ofW (cc := cX1_order) (maxL := 5) (ret := (some .int)) (by decide) rfl ?_
  intro p e s m args below meth c s₁ B hml hv
  obtain ⟨rfl, hsz, hP, hK, hD0⟩ := hv
  have hx := B.exec
  have hb := B.bytes
  have hr := B.returns
  have hts := atoms_spec (ws := wsX1_order) B.pre
  have hown : s.vm.findClass RX1 = some m.cls := findClass_of_methodNamed B.named
  have hlocks := B.notSynchronized
  subst hsz
  have hD := hD0.self (sz := s.heap.size)
  generalize hAe : va_A (wM n a ca u) s.heap.size = A at hD ⊢
  have hA : ∀ q : Nat, s.heap.size ≤ q → A q := fun q h => by rw [← hAe]; exact Or.inr h
  obtain ⟨H, hH, hP, hS⟩ : ∃ H, H = s.heap ∧ va_P (dC, dI) vwCl (wM n a ca u) H ∧ va_S A s.heap H [] := ⟨_, rfl, hP, va_S.rf⟩
  have hin9 : ∀ w ∈ u_ws RX1 TX1 15, w ∈ wsX1_order := fun w h => List.mem_cons_of_mem _ (hinX1 w h)
  rw [← hH]
  have hl := lv_entry ([.ref (a 0), .int q]) (n := 5) (Nat.le_of_ble_eq_true rfl)
  rw [lg_entry_eq]
  generalize (lg_sl ([.ref (a 0), .int q]) ++ List.replicate (5 - (lg_sl ([.ref (a 0), .int q])).length) Slot.unset).toArray = ls at hl ⊢
  have hl : lv_has ls 5 [(0, .ref (a 0)), (1, .int q)] := hl
  refine lv_iconst (v := 0) hx hb dX1_order_0 (by decide) ?_
  refine lv_istore_n hx hb dX1_order_1 rfl hl (by decide) rfl (fun ls hl => ?_)
  have hl : lv_has ls 5 [(2, .int 0), (0, .ref (a 0)), (1, .int q)] := hl
  refine zr_loop (fun r (x0 : Nat) ls H locs => r + x0 = n ∧ fm_orderL (ms_b u) (ms_l u) n q r x0 = fm_orderL (ms_b u) (ms_l u) n q n 0 ∧ lv_has ls 5 [(0, .ref (a 0)), (1, .int q), (2, .int (nI x0))] ∧ va_P (dC, dI) vwCl (wM n a ca u) H ∧ va_D A (wM n a ca u) ∧ va_S A s.heap H locs) (fun ls => F0 m 2 ls []) ?_ n 0 _ _ _ ⟨by omega, rfl, lv_sub hl [1, 2, 0] rfl, hP, hD, hS⟩
  rintro r k ls H locs ih ⟨hrk, hinv, hl, hP, hD, hS⟩
  have hrk : r + k = n := hrk
  have hinv : fm_orderL (ms_b u) (ms_l u) n q r k = fm_orderL (ms_b u) (ms_l u) n q n 0 := hinv
  have hl : lv_has ls 5 [(0, .ref (a 0)), (1, .int q), (2, .int (nI k))] := hl
  have hP : va_P (dC, dI) vwCl (wM n a ca u) H := hP
  have hD : va_D A (wM n a ca u) := hD
  refine lv_iload_n hx hb dX1_order_2 rfl (lv_at hl 2 rfl) ?_
  refine lv_aload_n hx hb dX1_order_3 rfl (lv_at hl 0 rfl) ?_
  refine va_get (D := (dC, dI)) (ci := 1) (v := .int (nI n)) (C := RX1) (T := TX1) (N := 15) hx hb hts hin9 hown hK hP 0 rfl rfl 1 (by decide) (hts _ (List.mem_cons_of_mem _ mf_X1_30)) (fun _ h9 => h9) rfl dX1_order_4 ?_
  refine lv_icmp_ge hx hb dX1_order_7 (tgt := 97) rfl (fun h1 => ?_) (fun h1 => ?_)
  · have h1 := zr_ge (by omega) (by omega) h1
    obtain rfl : r = 0 := by omega
    refine lv_aload_n hx hb dX1_order_97 rfl (lv_at hl 0 rfl) ?_
    refine lv_iconst (v := 1) hx hb dX1_order_98 (by decide) ?_
    refine va_put (D := (dC, dI)) (ci := 1) (v := .int 1) (ty := .int) (C := RX1) (T := TX1) (N := 15) hx hb hts hin9 tyX1 tyX1_ok nmX1 hown hK hP hD hS 0 rfl rfl 0 (by decide) (hts _ (List.mem_cons_of_mem _ mf_X1_34)) (fun _ h9 => h9) rfl (by decide +kernel) rfl rfl (Nat.le_of_ble_eq_true rfl) dX1_order_99 (fun H locs hP hD hS => ?_)
    have hP : va_P (dC, dI) vwCl (wM n a ca (1, ms_o u, ms_b u, ms_v u, ms_d u, ms_n u, ms_l u, ms_u u, ms_m u, ms_h u, ms_i u, ms_j u, ms_w u, ms_t u)) H := hP
    have hD : va_D A (wM n a ca (1, ms_o u, ms_b u, ms_v u, ms_d u, ms_n u, ms_l u, ms_u u, ms_m u, ms_h u, ms_i u, ms_j u, ms_w u, ms_t u)) := hD
    refine lv_iconst (v := 0) hx hb dX1_order_102 (by decide) ?_
    exact W.iret (v := 0) hx hb hr (fun t ht hW => ⟨⟨0, (1, ms_o u, ms_b u, ms_v u, ms_d u, ms_n u, ms_l u, ms_u u, ms_m u, ms_h u, ms_i u, ms_j u, ms_w u, ms_t u), rfl, ⟨(by first | rfl | (rw [← hinv] <;> rfl) | (rw [← hinv]; simp only [fm_order, fm_orderL, fm_setc] <;> rfl) | (simp only [fm_order, fm_orderL, fm_setc]; rw [← hinv] <;> rfl) | (simp only [fm_order, fm_orderL, fm_setc]; rw [← hinv]; simp only [fm_order, fm_orderL, fm_setc] <;> rfl) | (simp only [fm_order, fm_orderL, fm_setc] <;> rfl)), (by first | rfl | (rw [← hinv] <;> rfl) | (rw [← hinv]; simp only [fm_order, fm_orderL, fm_setc] <;> rfl) | (simp only [fm_order, fm_orderL, fm_setc]; rw [← hinv] <;> rfl) | (simp only [fm_order, fm_orderL, fm_setc]; rw [← hinv]; simp only [fm_order, fm_orderL, fm_setc] <;> rfl) | (simp only [fm_order, fm_orderL, fm_setc] <;> rfl))⟩, ⟨by rw [ht]; exact hP, va_K.moved hW.alike hK, hD⟩⟩, hS.F ht⟩) hS.2.2 dX1_order_103
  · have h1 := zr_lt (by omega) (by omega) h1
    obtain ⟨r', rfl⟩ : ∃ z, r = z + 1 := ⟨r - 1, by omega⟩
    refine lv_iconst (v := 0) hx hb dX1_order_10 (by decide) ?_
    refine lv_istore_n hx hb dX1_order_11 rfl hl (by decide) rfl (fun ls hl => ?_)
    have hl : lv_has ls 5 [(3, .int 0), (0, .ref (a 0)), (1, .int q), (2, .int (nI k))] := hl
    refine lv_iconst (v := 0) hx hb dX1_order_12 (by decide) ?_
    refine lv_istore hx hb dX1_order_13 hl (by decide) rfl (fun ls hl => ?_)
    have hl : lv_has ls 5 [(4, .int 0), (3, .int 0), (0, .ref (a 0)), (1, .int q), (2, .int (nI k))] := hl
    refine zr_loop (fun r2 (x0 : Nat × Int32) ls H locs => r2 + x0.1 = n ∧ fm_bef (ms_b u) (ms_l u) k r2 x0.1 x0.2 = fm_bef (ms_b u) (ms_l u) k n 0 0 ∧ lv_has ls 5 [(0, .ref (a 0)), (1, .int q), (2, .int (nI k)), (3, .int x0.2), (4, .int (nI x0.1))] ∧ va_P (dC, dI) vwCl (wM n a ca u) H ∧ va_D A (wM n a ca u) ∧ va_S A s.heap H locs) (fun ls => F0 m 15 ls []) ?_ n (0, 0) _ _ _ ⟨by omega, rfl, lv_sub hl [2, 3, 4, 1, 0] rfl, hP, hD, hS⟩
    rintro r2 ⟨i, y⟩ ls H locs ih2 ⟨hrk2, hinv2, hl, hP, hD, hS⟩
    have hrk2 : r2 + i = n := hrk2
    have hinv2 : fm_bef (ms_b u) (ms_l u) k r2 i y = fm_bef (ms_b u) (ms_l u) k n 0 0 := hinv2
    have hl : lv_has ls 5 [(0, .ref (a 0)), (1, .int q), (2, .int (nI k)), (3, .int y), (4, .int (nI i))] := hl
    have hP : va_P (dC, dI) vwCl (wM n a ca u) H := hP
    have hD : va_D A (wM n a ca u) := hD
    refine lv_iload hx hb dX1_order_15 (lv_at hl 4 rfl) ?_
    refine lv_aload_n hx hb dX1_order_17 rfl (lv_at hl 0 rfl) ?_
    refine va_get (D := (dC, dI)) (ci := 1) (v := .int (nI n)) (C := RX1) (T := TX1) (N := 15) hx hb hts hin9 hown hK hP 0 rfl rfl 1 (by decide) (hts _ (List.mem_cons_of_mem _ mf_X1_30)) (fun _ h9 => h9) rfl dX1_order_18 ?_
    refine lv_icmp_ge hx hb dX1_order_21 (tgt := 65) rfl (fun h2 => ?_) (fun h2 => ?_)
    · have h2 := zr_ge (by omega) (by omega) h2
      obtain rfl : r2 = 0 := by omega
      have hT : fm_bef (ms_b u) (ms_l u) k n 0 0 = y := hinv2.symm
      refine lv_aload_n hx hb dX1_order_65 rfl (lv_at hl 0 rfl) ?_
      refine va_get (D := (dC, dI)) (ci := 1) (v := .ref (a 2)) (C := RX1) (T := TX1) (N := 15) hx hb hts hin9 hown hK hP 0 rfl rfl 3 (by decide) (hts _ (List.mem_cons_of_mem _ mf_X1_13)) (fun _ h9 => h9) rfl dX1_order_66 ?_
      refine lv_iload_n hx hb dX1_order_69 rfl (lv_at hl 2 rfl) ?_
      refine zr_iald (k := k) hx hb hK hP 2 1 rfl rfl (by omega) (by omega) dX1_order_70 ?_
      refine lv_if_lt hx hb dX1_order_71 (tgt := 91) rfl (fun h3 => ?_) (fun h3 => ?_)
      · refine lv_iinc (k := 2) (v := nI (k + 1)) hx hb dX1_order_91 hl rfl (zr_incN k) (by decide) rfl (fun ls hl => ?_)
        have hl : lv_has ls 5 [(2, .int (nI (k + 1))), (0, .ref (a 0)), (1, .int q), (3, .int y), (4, .int (nI i))] := hl
        refine lv_goto hx hb dX1_order_94 (tgt := 2) rfl ?_
        exact ih r' (k + 1) _ _ _ (by omega) ⟨by omega, (by rw [← hinv]; first | rfl | (simp only [fm_orderL, hT, if_pos h3] <;> rfl)), lv_sub hl [1, 2, 0] rfl, hP, hD, hS⟩
      · refine lv_iload_n hx hb dX1_order_74 rfl (lv_at hl 3 rfl) ?_
        refine lv_iload_n hx hb dX1_order_75 rfl (lv_at hl 1 rfl) ?_
        refine lv_icmp_ne hx hb dX1_order_76 (tgt := 91) rfl (fun h4 => ?_) (fun h4 => ?_)
        · refine lv_iinc (k := 2) (v := nI (k + 1)) hx hb dX1_order_91 hl rfl (zr_incN k) (by decide) rfl (fun ls hl => ?_)
          have hl : lv_has ls 5 [(2, .int (nI (k + 1))), (0, .ref (a 0)), (1, .int q), (3, .int y), (4, .int (nI i))] := hl
          refine lv_goto hx hb dX1_order_94 (tgt := 2) rfl ?_
          exact ih r' (k + 1) _ _ _ (by omega) ⟨by omega, (by rw [← hinv]; first | rfl | (simp only [fm_orderL, hT, if_neg h3, if_neg h4] <;> rfl)), lv_sub hl [1, 2, 0] rfl, hP, hD, hS⟩
        · refine lv_aload_n hx hb dX1_order_79 rfl (lv_at hl 0 rfl) ?_
          refine lv_iconst (v := 0) hx hb dX1_order_80 (by decide) ?_
          refine va_put (D := (dC, dI)) (ci := 1) (v := .int 0) (ty := .int) (C := RX1) (T := TX1) (N := 15) hx hb hts hin9 tyX1 tyX1_ok nmX1 hown hK hP hD hS 0 rfl rfl 0 (by decide) (hts _ (List.mem_cons_of_mem _ mf_X1_34)) (fun _ h9 => h9) rfl (by decide +kernel) rfl rfl (Nat.le_of_ble_eq_true rfl) dX1_order_81 (fun H locs hP hD hS => ?_)
          have hP : va_P (dC, dI) vwCl (wM n a ca (0, ms_o u, ms_b u, ms_v u, ms_d u, ms_n u, ms_l u, ms_u u, ms_m u, ms_h u, ms_i u, ms_j u, ms_w u, ms_t u)) H := hP
          have hD : va_D A (wM n a ca (0, ms_o u, ms_b u, ms_v u, ms_d u, ms_n u, ms_l u, ms_u u, ms_m u, ms_h u, ms_i u, ms_j u, ms_w u, ms_t u)) := hD
          refine lv_aload_n hx hb dX1_order_84 rfl (lv_at hl 0 rfl) ?_
          refine va_get (D := (dC, dI)) (ci := 1) (v := .ref (a 2)) (C := RX1) (T := TX1) (N := 15) hx hb hts hin9 hown hK hP 0 rfl rfl 3 (by decide) (hts _ (List.mem_cons_of_mem _ mf_X1_13)) (fun _ h9 => h9) rfl dX1_order_85 ?_
          refine lv_iload_n hx hb dX1_order_88 rfl (lv_at hl 2 rfl) ?_
          refine zr_iald (k := k) hx hb hK hP 2 1 rfl rfl (by omega) (by omega) dX1_order_89 ?_
          exact W.iret (v := ms_b u k) hx hb hr (fun t ht hW => ⟨⟨ms_b u k, (0, ms_o u, ms_b u, ms_v u, ms_d u, ms_n u, ms_l u, ms_u u, ms_m u, ms_h u, ms_i u, ms_j u, ms_w u, ms_t u), rfl, ⟨(by first | rfl | (rw [← hinv] <;> rfl) | (rw [← hinv]; simp only [fm_order, fm_orderL, fm_setc, hT, if_neg h3, if_pos h4] <;> rfl) | (simp only [fm_order, fm_orderL, fm_setc, hT, if_neg h3, if_pos h4]; rw [← hinv] <;> rfl) | (simp only [fm_order, fm_orderL, fm_setc, hT, if_neg h3, if_pos h4]; rw [← hinv]; simp only [fm_order, fm_orderL, fm_setc, hT, if_neg h3, if_pos h4] <;> rfl) | (simp only [fm_order, fm_orderL, fm_setc, hT, if_neg h3, if_pos h4] <;> rfl)), (by first | rfl | (rw [← hinv] <;> rfl) | (rw [← hinv]; simp only [fm_order, fm_orderL, fm_setc, hT, if_neg h3, if_pos h4] <;> rfl) | (simp only [fm_order, fm_orderL, fm_setc, hT, if_neg h3, if_pos h4]; rw [← hinv] <;> rfl) | (simp only [fm_order, fm_orderL, fm_setc, hT, if_neg h3, if_pos h4]; rw [← hinv]; simp only [fm_order, fm_orderL, fm_setc, hT, if_neg h3, if_pos h4] <;> rfl) | (simp only [fm_order, fm_orderL, fm_setc, hT, if_neg h3, if_pos h4] <;> rfl))⟩, ⟨by rw [ht]; exact hP, va_K.moved hW.alike hK, hD⟩⟩, hS.F ht⟩) hS.2.2 dX1_order_90
    · have h2 := zr_lt (by omega) (by omega) h2
      obtain ⟨r'2, rfl⟩ : ∃ z, r2 = z + 1 := ⟨r2 - 1, by omega⟩
      refine lv_iload_n hx hb dX1_order_24 rfl (lv_at hl 3 rfl) ?_
      refine lv_aload_n hx hb dX1_order_25 rfl (lv_at hl 0 rfl) ?_
      refine va_get (D := (dC, dI)) (ci := 1) (v := .ref (a 2)) (C := RX1) (T := TX1) (N := 15) hx hb hts hin9 hown hK hP 0 rfl rfl 3 (by decide) (hts _ (List.mem_cons_of_mem _ mf_X1_13)) (fun _ h9 => h9) rfl dX1_order_26 ?_
      refine lv_iload hx hb dX1_order_29 (lv_at hl 4 rfl) ?_
      refine zr_iald (k := i) hx hb hK hP 2 1 rfl rfl (by omega) (by omega) dX1_order_31 ?_
      refine lv_if_lt hx hb dX1_order_32 (tgt := 56) rfl (fun h5 => ?_) (fun h5 => ?_)
      · refine lv_iconst (v := 0) hx hb dX1_order_56 (by decide) ?_
        refine lv_iadd hx hb dX1_order_57 ?_
        refine lv_istore_n hx hb dX1_order_58 rfl hl (by decide) rfl (fun ls hl => ?_)
        have hl : lv_has ls 5 [(3, .int (y + 0)), (0, .ref (a 0)), (1, .int q), (2, .int (nI k)), (4, .int (nI i))] := hl
        refine lv_iinc (k := 4) (v := nI (i + 1)) hx hb dX1_order_59 hl rfl (zr_incN i) (by decide) rfl (fun ls hl => ?_)
        have hl : lv_has ls 5 [(4, .int (nI (i + 1))), (3, .int (y + 0)), (0, .ref (a 0)), (1, .int q), (2, .int (nI k))] := hl
        refine lv_goto hx hb dX1_order_62 (tgt := 15) rfl ?_
        exact ih2 r'2 (i + 1, (y + 0)) _ _ _ (by omega) ⟨by omega, (by rw [← hinv2]; first | rfl | (simp only [fm_bef, if_pos h5] <;> rfl)), lv_sub hl [2, 3, 4, 1, 0] rfl, hP, hD, hS⟩
      · refine lv_aload_n hx hb dX1_order_35 rfl (lv_at hl 0 rfl) ?_
        refine va_get (D := (dC, dI)) (ci := 1) (v := .ref (a 6)) (C := RX1) (T := TX1) (N := 15) hx hb hts hin9 hown hK hP 0 rfl rfl 7 (by decide) (hts _ (List.mem_cons_of_mem _ mf_X1_27)) (fun _ h9 => h9) rfl dX1_order_36 ?_
        refine lv_iload hx hb dX1_order_39 (lv_at hl 4 rfl) ?_
        refine zr_lald (k := i) hx hb hK hP 6 5 rfl rfl (by omega) (by omega) dX1_order_41 ?_
        refine lv_aload_n hx hb dX1_order_42 rfl (lv_at hl 0 rfl) ?_
        refine va_get (D := (dC, dI)) (ci := 1) (v := .ref (a 6)) (C := RX1) (T := TX1) (N := 15) hx hb hts hin9 hown hK hP 0 rfl rfl 7 (by decide) (hts _ (List.mem_cons_of_mem _ mf_X1_27)) (fun _ h9 => h9) rfl dX1_order_43 ?_
        refine lv_iload_n hx hb dX1_order_46 rfl (lv_at hl 2 rfl) ?_
        refine zr_lald (k := k) hx hb hK hP 6 5 rfl rfl (by omega) (by omega) dX1_order_47 ?_
        refine W.lcmp hx hb dX1_order_48 ?_
        refine lv_if_le hx hb dX1_order_49 (tgt := 56) rfl (fun h6 => ?_) (fun h6 => ?_)
        · refine lv_iconst (v := 0) hx hb dX1_order_56 (by decide) ?_
          refine lv_iadd hx hb dX1_order_57 ?_
          refine lv_istore_n hx hb dX1_order_58 rfl hl (by decide) rfl (fun ls hl => ?_)
          have hl : lv_has ls 5 [(3, .int (y + 0)), (0, .ref (a 0)), (1, .int q), (2, .int (nI k)), (4, .int (nI i))] := hl
          refine lv_iinc (k := 4) (v := nI (i + 1)) hx hb dX1_order_59 hl rfl (zr_incN i) (by decide) rfl (fun ls hl => ?_)
          have hl : lv_has ls 5 [(4, .int (nI (i + 1))), (3, .int (y + 0)), (0, .ref (a 0)), (1, .int q), (2, .int (nI k))] := hl
          refine lv_goto hx hb dX1_order_62 (tgt := 15) rfl ?_
          exact ih2 r'2 (i + 1, (y + 0)) _ _ _ (by omega) ⟨by omega, (by rw [← hinv2]; first | rfl | (simp only [fm_bef, if_neg h5, if_pos h6] <;> rfl)), lv_sub hl [2, 3, 4, 1, 0] rfl, hP, hD, hS⟩
        · refine lv_iconst (v := 1) hx hb dX1_order_52 (by decide) ?_
          refine lv_goto hx hb dX1_order_53 (tgt := 57) rfl ?_
          refine lv_iadd hx hb dX1_order_57 ?_
          refine lv_istore_n hx hb dX1_order_58 rfl hl (by decide) rfl (fun ls hl => ?_)
          have hl : lv_has ls 5 [(3, .int (y + 1)), (0, .ref (a 0)), (1, .int q), (2, .int (nI k)), (4, .int (nI i))] := hl
          refine lv_iinc (k := 4) (v := nI (i + 1)) hx hb dX1_order_59 hl rfl (zr_incN i) (by decide) rfl (fun ls hl => ?_)
          have hl : lv_has ls 5 [(4, .int (nI (i + 1))), (3, .int (y + 1)), (0, .ref (a 0)), (1, .int q), (2, .int (nI k))] := hl
          refine lv_goto hx hb dX1_order_62 (tgt := 15) rfl ?_
          exact ih2 r'2 (i + 1, (y + 1)) _ _ _ (by omega) ⟨by omega, (by rw [← hinv2]; first | rfl | (simp only [fm_bef, if_neg h5, if_neg h6] <;> rfl)), lv_sub hl [2, 3, 4, 1, 0] rfl, hP, hD, hS⟩
set_option maxHeartbeats 4000000 in
set_option maxRecDepth 100000 in
theorem c_M_noted (l : Launch) (dC : Nat → ClassId) (dI : Nat → Nat → Nat) (n : Nat) (a : Nat → Nat) (ca : Nat → ClassId) (u : StM) (sz : Nat) (q : Int32) (hn : n ≤ 12) : Met l yX1_noted wsX1_noted ({ frames := 0, cells := 0, slots := 0, locals := 0 }) (va_Pc [.ref (a 0), .int q] (zr_P (dC, dI) vwCl (tM ca) (wM n a ca u) sz)) (va_Qi (fun r u' => r = (fm_noted n u q).1 ∧ u' = (fm_noted n u q).2) (fun u' => zr_B (dC, dI) vwCl (tM ca) (va_A (wM n a ca u) sz) (wM n a ca u')) (va_A (wM n a ca u) sz)) 0 0 (va_A (wM n a ca u) sz) := by
  refine Met.ofW (cc := cX1_noted) (maxL := 2) (ret := (some .int)) (by decide) rfl ?_
  intro p e s m args below meth c s₁ B hml hv
  obtain ⟨rfl, hsz, hP, hK, hD0⟩ := hv
  have hx := B.exec
  have hb := B.bytes
  have hr := B.returns
  have hts := atoms_spec (ws := wsX1_noted) B.pre
  have hown : s.vm.findClass RX1 = some m.cls := findClass_of_methodNamed B.named
  have hlocks := B.notSynchronized
  subst hsz
  have hD := hD0.self (sz := s.heap.size)
  generalize hAe : va_A (wM n a ca u) s.heap.size = A at hD ⊢
  have hA : ∀ q : Nat, s.heap.size ≤ q → A q := fun q h => by rw [← hAe]; exact Or.inr h
  obtain ⟨H, hH, hP, hS⟩ : ∃ H, H = s.heap ∧ va_P (dC, dI) vwCl (wM n a ca u) H ∧ va_S A s.heap H [] := ⟨_, rfl, hP, va_S.rf⟩
  have hin9 : ∀ w ∈ u_ws RX1 TX1 15, w ∈ wsX1_noted := fun w h => List.mem_cons_of_mem _ (hinX1 w h)
  rw [← hH]
  have hl := lv_entry ([.ref (a 0), .int q]) (n := 2) (Nat.le_of_ble_eq_true rfl)
  rw [lg_entry_eq]
  generalize (lg_sl ([.ref (a 0), .int q]) ++ List.replicate (2 - (lg_sl ([.ref (a 0), .int q])).length) Slot.unset).toArray = ls at hl ⊢
  have hl : lv_has ls 2 [(0, .ref (a 0)), (1, .int q)] := hl
  refine lv_aload_n hx hb dX1_noted_0 rfl (lv_at hl 0 rfl) ?_
  refine lv_iload_n hx hb dX1_noted_1 rfl (lv_at hl 1 rfl) ?_
  refine lv_if_lt hx hb dX1_noted_2 (tgt := 13) rfl (fun h1 => ?_) (fun h1 => ?_)
  · refine lv_iconst (v := 1) hx hb dX1_noted_13 (by decide) ?_
    refine lv_goto hx hb dX1_noted_14 (tgt := 18) rfl ?_
    refine va_put (D := (dC, dI)) (ci := 1) (v := .int 1) (ty := .int) (C := RX1) (T := TX1) (N := 15) hx hb hts hin9 tyX1 tyX1_ok nmX1 hown hK hP hD hS 0 rfl rfl 0 (by decide) (hts _ (List.mem_cons_of_mem _ mf_X1_34)) (fun _ h9 => h9) rfl (by decide +kernel) rfl rfl (Nat.le_of_ble_eq_true rfl) dX1_noted_18 (fun H locs hP hD hS => ?_)
    have hP : va_P (dC, dI) vwCl (wM n a ca (1, ms_o u, ms_b u, ms_v u, ms_d u, ms_n u, ms_l u, ms_u u, ms_m u, ms_h u, ms_i u, ms_j u, ms_w u, ms_t u)) H := hP
    have hD : va_D A (wM n a ca (1, ms_o u, ms_b u, ms_v u, ms_d u, ms_n u, ms_l u, ms_u u, ms_m u, ms_h u, ms_i u, ms_j u, ms_w u, ms_t u)) := hD
    refine lv_aload_n hx hb dX1_noted_21 rfl (lv_at hl 0 rfl) ?_
    refine va_get (D := (dC, dI)) (ci := 1) (v := .int 1) (C := RX1) (T := TX1) (N := 15) hx hb hts hin9 hown hK hP 0 rfl rfl 0 (by decide) (hts _ (List.mem_cons_of_mem _ mf_X1_34)) (fun _ h9 => h9) rfl dX1_noted_22 ?_
    refine lv_if_ne hx hb dX1_noted_25 (tgt := 37) rfl (fun _ => ?_) (fun h => absurd h (by decide))
    refine lv_iconst (v := 0) hx hb dX1_noted_37 (by decide) ?_
    exact W.iret (v := 0) hx hb hr (fun t ht hW => ⟨⟨0, (1, ms_o u, ms_b u, ms_v u, ms_d u, ms_n u, ms_l u, ms_u u, ms_m u, ms_h u, ms_i u, ms_j u, ms_w u, ms_t u), rfl, ⟨(by first | rfl | (simp only [fm_noted, fm_setc, if_pos h1] <;> rfl)), (by first | rfl | (simp only [fm_noted, fm_setc, if_pos h1] <;> rfl))⟩, ⟨by rw [ht]; exact hP, va_K.moved hW.alike hK, hD⟩⟩, hS.F ht⟩) hS.2.2 dX1_noted_38
  · refine lv_iload_n hx hb dX1_noted_5 rfl (lv_at hl 1 rfl) ?_
    refine lv_aload_n hx hb dX1_noted_6 rfl (lv_at hl 0 rfl) ?_
    refine va_get (D := (dC, dI)) (ci := 1) (v := .int (nI n)) (C := RX1) (T := TX1) (N := 15) hx hb hts hin9 hown hK hP 0 rfl rfl 1 (by decide) (hts _ (List.mem_cons_of_mem _ mf_X1_30)) (fun _ h9 => h9) rfl dX1_noted_7 ?_
    refine lv_icmp_lt hx hb dX1_noted_10 (tgt := 17) rfl (fun h2 => ?_) (fun h2 => ?_)
    · obtain ⟨j, hj, rfl⟩ := zr_q hn h1 h2
      refine lv_iconst (v := 0) hx hb dX1_noted_17 (by decide) ?_
      refine va_put (D := (dC, dI)) (ci := 1) (v := .int 0) (ty := .int) (C := RX1) (T := TX1) (N := 15) hx hb hts hin9 tyX1 tyX1_ok nmX1 hown hK hP hD hS 0 rfl rfl 0 (by decide) (hts _ (List.mem_cons_of_mem _ mf_X1_34)) (fun _ h9 => h9) rfl (by decide +kernel) rfl rfl (Nat.le_of_ble_eq_true rfl) dX1_noted_18 (fun H locs hP hD hS => ?_)
      have hP : va_P (dC, dI) vwCl (wM n a ca (0, ms_o u, ms_b u, ms_v u, ms_d u, ms_n u, ms_l u, ms_u u, ms_m u, ms_h u, ms_i u, ms_j u, ms_w u, ms_t u)) H := hP
      have hD : va_D A (wM n a ca (0, ms_o u, ms_b u, ms_v u, ms_d u, ms_n u, ms_l u, ms_u u, ms_m u, ms_h u, ms_i u, ms_j u, ms_w u, ms_t u)) := hD
      refine lv_aload_n hx hb dX1_noted_21 rfl (lv_at hl 0 rfl) ?_
      refine va_get (D := (dC, dI)) (ci := 1) (v := .int 0) (C := RX1) (T := TX1) (N := 15) hx hb hts hin9 hown hK hP 0 rfl rfl 0 (by decide) (hts _ (List.mem_cons_of_mem _ mf_X1_34)) (fun _ h9 => h9) rfl dX1_noted_22 ?_
      refine lv_if_ne hx hb dX1_noted_25 (tgt := 37) rfl (fun h => absurd (by decide) h) (fun _ => ?_)
      refine lv_aload_n hx hb dX1_noted_28 rfl (lv_at hl 0 rfl) ?_
      refine va_get (D := (dC, dI)) (ci := 1) (v := .ref (a 5)) (C := RX1) (T := TX1) (N := 15) hx hb hts hin9 hown hK hP 0 rfl rfl 6 (by decide) (hts _ (List.mem_cons_of_mem _ mf_X1_24)) (fun _ h9 => h9) rfl dX1_noted_29 ?_
      refine lv_iload_n hx hb dX1_noted_32 rfl (lv_at hl 1 rfl) ?_
      refine zr_iald (k := j) hx hb hK hP 5 4 rfl rfl (by omega) (by omega) dX1_noted_33 ?_
      refine lv_goto hx hb dX1_noted_34 (tgt := 38) rfl ?_
      exact W.iret (v := ms_n u j) hx hb hr (fun t ht hW => ⟨⟨ms_n u j, (0, ms_o u, ms_b u, ms_v u, ms_d u, ms_n u, ms_l u, ms_u u, ms_m u, ms_h u, ms_i u, ms_j u, ms_w u, ms_t u), rfl, ⟨(by first | rfl | (simp only [fm_noted, fm_setc, if_neg h1, if_pos h2, nI_clamp (show j < 2 ^ 31 by omega)] <;> rfl)), (by first | rfl | (simp only [fm_noted, fm_setc, if_neg h1, if_pos h2, nI_clamp (show j < 2 ^ 31 by omega)] <;> rfl))⟩, ⟨by rw [ht]; exact hP, va_K.moved hW.alike hK, hD⟩⟩, hS.F ht⟩) hS.2.2 dX1_noted_38
    · refine lv_iconst (v := 1) hx hb dX1_noted_13 (by decide) ?_
      refine lv_goto hx hb dX1_noted_14 (tgt := 18) rfl ?_
      refine va_put (D := (dC, dI)) (ci := 1) (v := .int 1) (ty := .int) (C := RX1) (T := TX1) (N := 15) hx hb hts hin9 tyX1 tyX1_ok nmX1 hown hK hP hD hS 0 rfl rfl 0 (by decide) (hts _ (List.mem_cons_of_mem _ mf_X1_34)) (fun _ h9 => h9) rfl (by decide +kernel) rfl rfl (Nat.le_of_ble_eq_true rfl) dX1_noted_18 (fun H locs hP hD hS => ?_)
      have hP : va_P (dC, dI) vwCl (wM n a ca (1, ms_o u, ms_b u, ms_v u, ms_d u, ms_n u, ms_l u, ms_u u, ms_m u, ms_h u, ms_i u, ms_j u, ms_w u, ms_t u)) H := hP
      have hD : va_D A (wM n a ca (1, ms_o u, ms_b u, ms_v u, ms_d u, ms_n u, ms_l u, ms_u u, ms_m u, ms_h u, ms_i u, ms_j u, ms_w u, ms_t u)) := hD
      refine lv_aload_n hx hb dX1_noted_21 rfl (lv_at hl 0 rfl) ?_
      refine va_get (D := (dC, dI)) (ci := 1) (v := .int 1) (C := RX1) (T := TX1) (N := 15) hx hb hts hin9 hown hK hP 0 rfl rfl 0 (by decide) (hts _ (List.mem_cons_of_mem _ mf_X1_34)) (fun _ h9 => h9) rfl dX1_noted_22 ?_
      refine lv_if_ne hx hb dX1_noted_25 (tgt := 37) rfl (fun _ => ?_) (fun h => absurd h (by decide))
      refine lv_iconst (v := 0) hx hb dX1_noted_37 (by decide) ?_
      exact W.iret (v := 0) hx hb hr (fun t ht hW => ⟨⟨0, (1, ms_o u, ms_b u, ms_v u, ms_d u, ms_n u, ms_l u, ms_u u, ms_m u, ms_h u, ms_i u, ms_j u, ms_w u, ms_t u), rfl, ⟨(by first | rfl | (simp only [fm_noted, fm_setc, if_neg h1, if_neg h2] <;> rfl)), (by first | rfl | (simp only [fm_noted, fm_setc, if_neg h1, if_neg h2] <;> rfl))⟩, ⟨by rw [ht]; exact hP, va_K.moved hW.alike hK, hD⟩⟩, hS.F ht⟩) hS.2.2 dX1_noted_38
set_option maxHeartbeats 4000000 in
set_option maxRecDepth 100000 in
theorem c_M_figure (l : Launch) (dC : Nat → ClassId) (dI : Nat → Nat → Nat) (n : Nat) (a : Nat → Nat) (ca : Nat → ClassId) (u : StM) (sz : Nat) (q : Int32) (hn : n ≤ 12) : Met l yX1_figure wsX1_figure ({ frames := 1, cells := 0, slots := 0, locals := 22 }) (va_Pc [.ref (a 0), .int q] (zr_P (dC, dI) vwCl (tM ca) (wM n a ca u) sz)) (va_Qi (fun r u' => r = (fm_figure n u q).1 ∧ u' = (fm_figure n u q).2) (fun u' => zr_B (dC, dI) vwCl (tM ca) (va_A (wM n a ca u) sz) (wM n a ca u')) (va_A (wM n a ca u) sz)) 0 0 (va_A (wM n a ca u) sz) := by
  refine Met.ofW (cc := cX1_figure) (maxL := 2) (ret := (some .int)) (by decide) rfl ?_
  intro p e s m args below meth c s₁ B hml hv
  obtain ⟨rfl, hsz, hP, hK, hD0⟩ := hv
  have hx := B.exec
  have hb := B.bytes
  have hr := B.returns
  have hts := atoms_spec (ws := wsX1_figure) B.pre
  have hown : s.vm.findClass RX1 = some m.cls := findClass_of_methodNamed B.named
  have hlocks := B.notSynchronized
  subst hsz
  have hD := hD0.self (sz := s.heap.size)
  generalize hAe : va_A (wM n a ca u) s.heap.size = A at hD ⊢
  have hA : ∀ q : Nat, s.heap.size ≤ q → A q := fun q h => by rw [← hAe]; exact Or.inr h
  obtain ⟨H, hH, hP, hS⟩ : ∃ H, H = s.heap ∧ va_P (dC, dI) vwCl (wM n a ca u) H ∧ va_S A s.heap H [] := ⟨_, rfl, hP, va_S.rf⟩
  have hin9 : ∀ w ∈ u_ws RX1 TX1 15, w ∈ wsX1_figure := fun w h => List.mem_cons_of_mem _ (hinX1 w h)
  rw [← hH]
  have hl := lv_entry ([.ref (a 0), .int q]) (n := 2) (Nat.le_of_ble_eq_true rfl)
  rw [lg_entry_eq]
  generalize (lg_sl ([.ref (a 0), .int q]) ++ List.replicate (2 - (lg_sl ([.ref (a 0), .int q])).length) Slot.unset).toArray = ls at hl ⊢
  have hl : lv_has ls 2 [(0, .ref (a 0)), (1, .int q)] := hl
  refine lv_aload_n hx hb dX1_figure_0 rfl (lv_at hl 0 rfl) ?_
  refine lv_iload_n hx hb dX1_figure_1 rfl (lv_at hl 1 rfl) ?_
  refine lv_if_lt hx hb dX1_figure_2 (tgt := 11) rfl (fun h1 => ?_) (fun h1 => ?_)
  · refine lv_iconst (v := 1) hx hb dX1_figure_11 (by decide) ?_
    refine lv_goto hx hb dX1_figure_12 (tgt := 16) rfl ?_
    refine va_put (D := (dC, dI)) (ci := 1) (v := .int 1) (ty := .int) (C := RX1) (T := TX1) (N := 15) hx hb hts hin9 tyX1 tyX1_ok nmX1 hown hK hP hD hS 0 rfl rfl 0 (by decide) (hts _ (List.mem_cons_of_mem _ mf_X1_34)) (fun _ h9 => h9) rfl (by decide +kernel) rfl rfl (Nat.le_of_ble_eq_true rfl) dX1_figure_16 (fun H locs hP hD hS => ?_)
    have hP : va_P (dC, dI) vwCl (wM n a ca (1, ms_o u, ms_b u, ms_v u, ms_d u, ms_n u, ms_l u, ms_u u, ms_m u, ms_h u, ms_i u, ms_j u, ms_w u, ms_t u)) H := hP
    have hD : va_D A (wM n a ca (1, ms_o u, ms_b u, ms_v u, ms_d u, ms_n u, ms_l u, ms_u u, ms_m u, ms_h u, ms_i u, ms_j u, ms_w u, ms_t u)) := hD
    refine lv_iload_n hx hb dX1_figure_19 rfl (lv_at hl 1 rfl) ?_
    rcases Classical.em (q = 0) with e0 | e0
    · refine lv_tableIn (off := 48) (tgt := 68) hx hb dX1_figure_20 (by rw [e0]; decide) (by rw [e0]; decide) (by rw [e0]; decide) rfl ?_
      refine lv_aload_n hx hb dX1_figure_68 rfl (lv_at hl 0 rfl) ?_
      refine va_get (D := (dC, dI)) (ci := 1) (v := .int (ms_i u)) (C := RX1) (T := TX1) (N := 15) hx hb hts hin9 hown hK hP 0 rfl rfl 11 (by decide) (hts _ (List.mem_cons_of_mem _ mf_X1_78)) (fun _ h9 => h9) rfl dX1_figure_69 ?_
      exact W.iret (v := ms_i u) hx hb hr (fun t ht hW => ⟨⟨ms_i u, (1, ms_o u, ms_b u, ms_v u, ms_d u, ms_n u, ms_l u, ms_u u, ms_m u, ms_h u, ms_i u, ms_j u, ms_w u, ms_t u), rfl, ⟨(by first | rfl | (simp only [fm_figure, fm_fig, fm_setc, if_pos h1, if_pos e0] <;> rfl)), (by first | rfl | (simp only [fm_figure, fm_fig, fm_setc, if_pos h1, if_pos e0] <;> rfl))⟩, ⟨by rw [ht]; exact hP, va_K.moved hW.alike hK, hD⟩⟩, hS.F ht⟩) hS.2.2 dX1_figure_72
    · rcases Classical.em (q = 1) with e1 | e1
      · refine lv_tableIn (off := 53) (tgt := 73) hx hb dX1_figure_20 (by rw [e1]; decide) (by rw [e1]; decide) (by rw [e1]; decide) rfl ?_
        refine lv_aload_n hx hb dX1_figure_73 rfl (lv_at hl 0 rfl) ?_
        refine va_get (D := (dC, dI)) (ci := 1) (v := .int (ms_j u)) (C := RX1) (T := TX1) (N := 15) hx hb hts hin9 hown hK hP 0 rfl rfl 12 (by decide) (hts _ (List.mem_cons_of_mem _ mf_X1_84)) (fun _ h9 => h9) rfl dX1_figure_74 ?_
        exact W.iret (v := ms_j u) hx hb hr (fun t ht hW => ⟨⟨ms_j u, (1, ms_o u, ms_b u, ms_v u, ms_d u, ms_n u, ms_l u, ms_u u, ms_m u, ms_h u, ms_i u, ms_j u, ms_w u, ms_t u), rfl, ⟨(by first | rfl | (simp only [fm_figure, fm_fig, fm_setc, if_pos h1, if_neg e0, if_pos e1] <;> rfl)), (by first | rfl | (simp only [fm_figure, fm_fig, fm_setc, if_pos h1, if_neg e0, if_pos e1] <;> rfl))⟩, ⟨by rw [ht]; exact hP, va_K.moved hW.alike hK, hD⟩⟩, hS.F ht⟩) hS.2.2 dX1_figure_77
      · rcases Classical.em (q = 2) with e2 | e2
        · refine lv_tableIn (off := 58) (tgt := 78) hx hb dX1_figure_20 (by rw [e2]; decide) (by rw [e2]; decide) (by rw [e2]; decide) rfl ?_
          refine lv_aload_n hx hb dX1_figure_78 rfl (lv_at hl 0 rfl) ?_
          refine va_get (D := (dC, dI)) (ci := 1) (v := .int (ms_w u)) (C := RX1) (T := TX1) (N := 15) hx hb hts hin9 hown hK hP 0 rfl rfl 13 (by decide) (hts _ (List.mem_cons_of_mem _ mf_X1_48)) (fun _ h9 => h9) rfl dX1_figure_79 ?_
          exact W.iret (v := ms_w u) hx hb hr (fun t ht hW => ⟨⟨ms_w u, (1, ms_o u, ms_b u, ms_v u, ms_d u, ms_n u, ms_l u, ms_u u, ms_m u, ms_h u, ms_i u, ms_j u, ms_w u, ms_t u), rfl, ⟨(by first | rfl | (simp only [fm_figure, fm_fig, fm_setc, if_pos h1, if_neg e0, if_neg e1, if_pos e2] <;> rfl)), (by first | rfl | (simp only [fm_figure, fm_fig, fm_setc, if_pos h1, if_neg e0, if_neg e1, if_pos e2] <;> rfl))⟩, ⟨by rw [ht]; exact hP, va_K.moved hW.alike hK, hD⟩⟩, hS.F ht⟩) hS.2.2 dX1_figure_82
        · rcases Classical.em (q = 3) with e3 | e3
          · refine lv_tableIn (off := 63) (tgt := 83) hx hb dX1_figure_20 (by rw [e3]; decide) (by rw [e3]; decide) (by rw [e3]; decide) rfl ?_
            refine lv_aload_n hx hb dX1_figure_83 rfl (lv_at hl 0 rfl) ?_
            refine va_get (D := (dC, dI)) (ci := 1) (v := .int (ms_t u)) (C := RX1) (T := TX1) (N := 15) hx hb hts hin9 hown hK hP 0 rfl rfl 14 (by decide) (hts _ (List.mem_cons_of_mem _ mf_X1_41)) (fun _ h9 => h9) rfl dX1_figure_84 ?_
            exact W.iret (v := ms_t u) hx hb hr (fun t ht hW => ⟨⟨ms_t u, (1, ms_o u, ms_b u, ms_v u, ms_d u, ms_n u, ms_l u, ms_u u, ms_m u, ms_h u, ms_i u, ms_j u, ms_w u, ms_t u), rfl, ⟨(by first | rfl | (simp only [fm_figure, fm_fig, fm_setc, if_pos h1, if_neg e0, if_neg e1, if_neg e2, if_pos e3] <;> rfl)), (by first | rfl | (simp only [fm_figure, fm_fig, fm_setc, if_pos h1, if_neg e0, if_neg e1, if_neg e2, if_pos e3] <;> rfl))⟩, ⟨by rw [ht]; exact hP, va_K.moved hW.alike hK, hD⟩⟩, hS.F ht⟩) hS.2.2 dX1_figure_87
          · rcases Classical.em (q = 4) with e4 | e4
            · refine lv_tableIn (off := 68) (tgt := 88) hx hb dX1_figure_20 (by rw [e4]; decide) (by rw [e4]; decide) (by rw [e4]; decide) rfl ?_
              refine lv_aload_n hx hb dX1_figure_88 rfl (lv_at hl 0 rfl) ?_
              refine zr_Vi (w := fun z => wM n a ca z) (u := (1, ms_o u, ms_b u, ms_v u, ms_d u, ms_n u, ms_l u, ms_u u, ms_m u, ms_h u, ms_i u, ms_j u, ms_w u, ms_t u)) (u1 := (1, ms_o u, ms_b u, ms_v u, ms_d u, ms_n u, ms_l u, ms_u u, ms_m u, ms_h u, ms_i u, ms_j u, ms_w u, ms_t u)) (v := fm_full (ms_b (1, ms_o u, ms_b u, ms_v u, ms_d u, ms_n u, ms_l u, ms_u u, ms_m u, ms_h u, ms_i u, ms_j u, ms_w u, ms_t u)) n 0 0) (As := []) (rest := []) ⟨hx, hb, hml, hown, hts⟩ (c_M_full l dC dI n a ca (1, ms_o u, ms_b u, ms_v u, ms_d u, ms_n u, ms_l u, ms_u u, ms_m u, ms_h u, ms_i u, ms_j u, ms_w u, ms_t u) H.size hn) (cwV 0 hts gX1_figure_X1_full rfl rfl rfl (by decide +kernel) ⟨Nat.le_of_ble_eq_true rfl, Nat.le_of_ble_eq_true rfl⟩) hK hP hD hS hA (va_recv (q0 := 0) (ci := 1) (q := (RX1, TX1, 15)) hK hP rfl rfl) rfl hl.1 rfl (Nat.le_of_ble_eq_true rfl) dX1_figure_89 (fun H locs hP hD hS => ?_) ⟨Nat.le_of_ble_eq_true rfl, Nat.le_of_ble_eq_true rfl⟩
              have hP : va_P (dC, dI) vwCl (wM n a ca (1, ms_o u, ms_b u, ms_v u, ms_d u, ms_n u, ms_l u, ms_u u, ms_m u, ms_h u, ms_i u, ms_j u, ms_w u, ms_t u)) H := hP
              have hD : va_D A (wM n a ca (1, ms_o u, ms_b u, ms_v u, ms_d u, ms_n u, ms_l u, ms_u u, ms_m u, ms_h u, ms_i u, ms_j u, ms_w u, ms_t u)) := hD
              exact W.iret (v := fm_full (ms_b (1, ms_o u, ms_b u, ms_v u, ms_d u, ms_n u, ms_l u, ms_u u, ms_m u, ms_h u, ms_i u, ms_j u, ms_w u, ms_t u)) n 0 0) hx hb hr (fun t ht hW => ⟨⟨fm_full (ms_b (1, ms_o u, ms_b u, ms_v u, ms_d u, ms_n u, ms_l u, ms_u u, ms_m u, ms_h u, ms_i u, ms_j u, ms_w u, ms_t u)) n 0 0, (1, ms_o u, ms_b u, ms_v u, ms_d u, ms_n u, ms_l u, ms_u u, ms_m u, ms_h u, ms_i u, ms_j u, ms_w u, ms_t u), rfl, ⟨(by first | rfl | (simp only [fm_figure, fm_fig, fm_setc, if_pos h1, if_neg e0, if_neg e1, if_neg e2, if_neg e3, if_pos e4] <;> rfl)), (by first | rfl | (simp only [fm_figure, fm_fig, fm_setc, if_pos h1, if_neg e0, if_neg e1, if_neg e2, if_neg e3, if_pos e4] <;> rfl))⟩, ⟨by rw [ht]; exact hP, va_K.moved hW.alike hK, hD⟩⟩, hS.F ht⟩) hS.2.2 dX1_figure_92
            · rcases Classical.em (q = 5) with e5 | e5
              · refine lv_tableIn (off := 73) (tgt := 93) hx hb dX1_figure_20 (by rw [e5]; decide) (by rw [e5]; decide) (by rw [e5]; decide) rfl ?_
                refine lv_aload_n hx hb dX1_figure_93 rfl (lv_at hl 0 rfl) ?_
                refine zr_Vi (w := fun z => wM n a ca z) (u := (1, ms_o u, ms_b u, ms_v u, ms_d u, ms_n u, ms_l u, ms_u u, ms_m u, ms_h u, ms_i u, ms_j u, ms_w u, ms_t u)) (u1 := (1, ms_o u, ms_b u, ms_v u, ms_d u, ms_n u, ms_l u, ms_u u, ms_m u, ms_h u, ms_i u, ms_j u, ms_w u, ms_t u)) (v := fm_dts (ms_b (1, ms_o u, ms_b u, ms_v u, ms_d u, ms_n u, ms_l u, ms_u u, ms_m u, ms_h u, ms_i u, ms_j u, ms_w u, ms_t u)) (ms_d (1, ms_o u, ms_b u, ms_v u, ms_d u, ms_n u, ms_l u, ms_u u, ms_m u, ms_h u, ms_i u, ms_j u, ms_w u, ms_t u)) n 0 0) (As := []) (rest := []) ⟨hx, hb, hml, hown, hts⟩ (c_M_dirties l dC dI n a ca (1, ms_o u, ms_b u, ms_v u, ms_d u, ms_n u, ms_l u, ms_u u, ms_m u, ms_h u, ms_i u, ms_j u, ms_w u, ms_t u) H.size hn) (cwV 0 hts gX1_figure_X1_dirties rfl rfl rfl (by decide +kernel) ⟨Nat.le_of_ble_eq_true rfl, Nat.le_of_ble_eq_true rfl⟩) hK hP hD hS hA (va_recv (q0 := 0) (ci := 1) (q := (RX1, TX1, 15)) hK hP rfl rfl) rfl hl.1 rfl (Nat.le_of_ble_eq_true rfl) dX1_figure_94 (fun H locs hP hD hS => ?_) ⟨Nat.le_of_ble_eq_true rfl, Nat.le_of_ble_eq_true rfl⟩
                have hP : va_P (dC, dI) vwCl (wM n a ca (1, ms_o u, ms_b u, ms_v u, ms_d u, ms_n u, ms_l u, ms_u u, ms_m u, ms_h u, ms_i u, ms_j u, ms_w u, ms_t u)) H := hP
                have hD : va_D A (wM n a ca (1, ms_o u, ms_b u, ms_v u, ms_d u, ms_n u, ms_l u, ms_u u, ms_m u, ms_h u, ms_i u, ms_j u, ms_w u, ms_t u)) := hD
                exact W.iret (v := fm_dts (ms_b (1, ms_o u, ms_b u, ms_v u, ms_d u, ms_n u, ms_l u, ms_u u, ms_m u, ms_h u, ms_i u, ms_j u, ms_w u, ms_t u)) (ms_d (1, ms_o u, ms_b u, ms_v u, ms_d u, ms_n u, ms_l u, ms_u u, ms_m u, ms_h u, ms_i u, ms_j u, ms_w u, ms_t u)) n 0 0) hx hb hr (fun t ht hW => ⟨⟨fm_dts (ms_b (1, ms_o u, ms_b u, ms_v u, ms_d u, ms_n u, ms_l u, ms_u u, ms_m u, ms_h u, ms_i u, ms_j u, ms_w u, ms_t u)) (ms_d (1, ms_o u, ms_b u, ms_v u, ms_d u, ms_n u, ms_l u, ms_u u, ms_m u, ms_h u, ms_i u, ms_j u, ms_w u, ms_t u)) n 0 0, (1, ms_o u, ms_b u, ms_v u, ms_d u, ms_n u, ms_l u, ms_u u, ms_m u, ms_h u, ms_i u, ms_j u, ms_w u, ms_t u), rfl, ⟨(by first | rfl | (simp only [fm_figure, fm_fig, fm_setc, if_pos h1, if_neg e0, if_neg e1, if_neg e2, if_neg e3, if_neg e4, if_pos e5] <;> rfl)), (by first | rfl | (simp only [fm_figure, fm_fig, fm_setc, if_pos h1, if_neg e0, if_neg e1, if_neg e2, if_neg e3, if_neg e4, if_pos e5] <;> rfl))⟩, ⟨by rw [ht]; exact hP, va_K.moved hW.alike hK, hD⟩⟩, hS.F ht⟩) hS.2.2 dX1_figure_97
              · rcases Classical.em (q = 6) with e6 | e6
                · refine lv_tableIn (off := 78) (tgt := 98) hx hb dX1_figure_20 (by rw [e6]; decide) (by rw [e6]; decide) (by rw [e6]; decide) rfl ?_
                  refine lv_aload_n hx hb dX1_figure_98 rfl (lv_at hl 0 rfl) ?_
                  refine va_get (D := (dC, dI)) (ci := 1) (v := .int (ms_m u)) (C := RX1) (T := TX1) (N := 15) hx hb hts hin9 hown hK hP 0 rfl rfl 9 (by decide) (hts _ (List.mem_cons_of_mem _ mf_X1_87)) (fun _ h9 => h9) rfl dX1_figure_99 ?_
                  exact W.iret (v := ms_m u) hx hb hr (fun t ht hW => ⟨⟨ms_m u, (1, ms_o u, ms_b u, ms_v u, ms_d u, ms_n u, ms_l u, ms_u u, ms_m u, ms_h u, ms_i u, ms_j u, ms_w u, ms_t u), rfl, ⟨(by first | rfl | (simp only [fm_figure, fm_fig, fm_setc, if_pos h1, if_neg e0, if_neg e1, if_neg e2, if_neg e3, if_neg e4, if_neg e5, if_pos e6] <;> rfl)), (by first | rfl | (simp only [fm_figure, fm_fig, fm_setc, if_pos h1, if_neg e0, if_neg e1, if_neg e2, if_neg e3, if_neg e4, if_neg e5, if_pos e6] <;> rfl))⟩, ⟨by rw [ht]; exact hP, va_K.moved hW.alike hK, hD⟩⟩, hS.F ht⟩) hS.2.2 dX1_figure_102
                · rcases Classical.em (q = 7) with e7 | e7
                  · refine lv_tableIn (off := 83) (tgt := 103) hx hb dX1_figure_20 (by rw [e7]; decide) (by rw [e7]; decide) (by rw [e7]; decide) rfl ?_
                    refine lv_aload_n hx hb dX1_figure_103 rfl (lv_at hl 0 rfl) ?_
                    refine va_get (D := (dC, dI)) (ci := 1) (v := .int (ms_h u)) (C := RX1) (T := TX1) (N := 15) hx hb hts hin9 hown hK hP 0 rfl rfl 10 (by decide) (hts _ (List.mem_cons_of_mem _ mf_X1_98)) (fun _ h9 => h9) rfl dX1_figure_104 ?_
                    exact W.iret (v := ms_h u) hx hb hr (fun t ht hW => ⟨⟨ms_h u, (1, ms_o u, ms_b u, ms_v u, ms_d u, ms_n u, ms_l u, ms_u u, ms_m u, ms_h u, ms_i u, ms_j u, ms_w u, ms_t u), rfl, ⟨(by first | rfl | (simp only [fm_figure, fm_fig, fm_setc, if_pos h1, if_neg e0, if_neg e1, if_neg e2, if_neg e3, if_neg e4, if_neg e5, if_neg e6, if_pos e7] <;> rfl)), (by first | rfl | (simp only [fm_figure, fm_fig, fm_setc, if_pos h1, if_neg e0, if_neg e1, if_neg e2, if_neg e3, if_neg e4, if_neg e5, if_neg e6, if_pos e7] <;> rfl))⟩, ⟨by rw [ht]; exact hP, va_K.moved hW.alike hK, hD⟩⟩, hS.F ht⟩) hS.2.2 dX1_figure_107
                  · refine lv_tableOut hx hb dX1_figure_20 (zr_out8 e0 e1 e2 e3 e4 e5 e6 e7) (tgt := 108) rfl ?_
                    refine lv_iconst (v := 0) hx hb dX1_figure_108 (by decide) ?_
                    exact W.iret (v := 0) hx hb hr (fun t ht hW => ⟨⟨0, (1, ms_o u, ms_b u, ms_v u, ms_d u, ms_n u, ms_l u, ms_u u, ms_m u, ms_h u, ms_i u, ms_j u, ms_w u, ms_t u), rfl, ⟨(by first | rfl | (simp only [fm_figure, fm_fig, fm_setc, if_pos h1, if_neg e0, if_neg e1, if_neg e2, if_neg e3, if_neg e4, if_neg e5, if_neg e6, if_neg e7] <;> rfl)), (by first | rfl | (simp only [fm_figure, fm_fig, fm_setc, if_pos h1, if_neg e0, if_neg e1, if_neg e2, if_neg e3, if_neg e4, if_neg e5, if_neg e6, if_neg e7] <;> rfl))⟩, ⟨by rw [ht]; exact hP, va_K.moved hW.alike hK, hD⟩⟩, hS.F ht⟩) hS.2.2 dX1_figure_109
  · refine lv_iload_n hx hb dX1_figure_5 rfl (lv_at hl 1 rfl) ?_
    refine lv_bipush (v := 7) hx hb dX1_figure_6 (by decide) ?_
    refine lv_icmp_le hx hb dX1_figure_8 (tgt := 15) rfl (fun h2 => ?_) (fun h2 => ?_)
    · refine lv_iconst (v := 0) hx hb dX1_figure_15 (by decide) ?_
      refine va_put (D := (dC, dI)) (ci := 1) (v := .int 0) (ty := .int) (C := RX1) (T := TX1) (N := 15) hx hb hts hin9 tyX1 tyX1_ok nmX1 hown hK hP hD hS 0 rfl rfl 0 (by decide) (hts _ (List.mem_cons_of_mem _ mf_X1_34)) (fun _ h9 => h9) rfl (by decide +kernel) rfl rfl (Nat.le_of_ble_eq_true rfl) dX1_figure_16 (fun H locs hP hD hS => ?_)
      have hP : va_P (dC, dI) vwCl (wM n a ca (0, ms_o u, ms_b u, ms_v u, ms_d u, ms_n u, ms_l u, ms_u u, ms_m u, ms_h u, ms_i u, ms_j u, ms_w u, ms_t u)) H := hP
      have hD : va_D A (wM n a ca (0, ms_o u, ms_b u, ms_v u, ms_d u, ms_n u, ms_l u, ms_u u, ms_m u, ms_h u, ms_i u, ms_j u, ms_w u, ms_t u)) := hD
      refine lv_iload_n hx hb dX1_figure_19 rfl (lv_at hl 1 rfl) ?_
      rcases Classical.em (q = 0) with e0 | e0
      · refine lv_tableIn (off := 48) (tgt := 68) hx hb dX1_figure_20 (by rw [e0]; decide) (by rw [e0]; decide) (by rw [e0]; decide) rfl ?_
        refine lv_aload_n hx hb dX1_figure_68 rfl (lv_at hl 0 rfl) ?_
        refine va_get (D := (dC, dI)) (ci := 1) (v := .int (ms_i u)) (C := RX1) (T := TX1) (N := 15) hx hb hts hin9 hown hK hP 0 rfl rfl 11 (by decide) (hts _ (List.mem_cons_of_mem _ mf_X1_78)) (fun _ h9 => h9) rfl dX1_figure_69 ?_
        exact W.iret (v := ms_i u) hx hb hr (fun t ht hW => ⟨⟨ms_i u, (0, ms_o u, ms_b u, ms_v u, ms_d u, ms_n u, ms_l u, ms_u u, ms_m u, ms_h u, ms_i u, ms_j u, ms_w u, ms_t u), rfl, ⟨(by first | rfl | (simp only [fm_figure, fm_fig, fm_setc, if_neg h1, if_pos h2, if_pos e0] <;> rfl)), (by first | rfl | (simp only [fm_figure, fm_fig, fm_setc, if_neg h1, if_pos h2, if_pos e0] <;> rfl))⟩, ⟨by rw [ht]; exact hP, va_K.moved hW.alike hK, hD⟩⟩, hS.F ht⟩) hS.2.2 dX1_figure_72
      · rcases Classical.em (q = 1) with e1 | e1
        · refine lv_tableIn (off := 53) (tgt := 73) hx hb dX1_figure_20 (by rw [e1]; decide) (by rw [e1]; decide) (by rw [e1]; decide) rfl ?_
          refine lv_aload_n hx hb dX1_figure_73 rfl (lv_at hl 0 rfl) ?_
          refine va_get (D := (dC, dI)) (ci := 1) (v := .int (ms_j u)) (C := RX1) (T := TX1) (N := 15) hx hb hts hin9 hown hK hP 0 rfl rfl 12 (by decide) (hts _ (List.mem_cons_of_mem _ mf_X1_84)) (fun _ h9 => h9) rfl dX1_figure_74 ?_
          exact W.iret (v := ms_j u) hx hb hr (fun t ht hW => ⟨⟨ms_j u, (0, ms_o u, ms_b u, ms_v u, ms_d u, ms_n u, ms_l u, ms_u u, ms_m u, ms_h u, ms_i u, ms_j u, ms_w u, ms_t u), rfl, ⟨(by first | rfl | (simp only [fm_figure, fm_fig, fm_setc, if_neg h1, if_pos h2, if_neg e0, if_pos e1] <;> rfl)), (by first | rfl | (simp only [fm_figure, fm_fig, fm_setc, if_neg h1, if_pos h2, if_neg e0, if_pos e1] <;> rfl))⟩, ⟨by rw [ht]; exact hP, va_K.moved hW.alike hK, hD⟩⟩, hS.F ht⟩) hS.2.2 dX1_figure_77
        · rcases Classical.em (q = 2) with e2 | e2
          · refine lv_tableIn (off := 58) (tgt := 78) hx hb dX1_figure_20 (by rw [e2]; decide) (by rw [e2]; decide) (by rw [e2]; decide) rfl ?_
            refine lv_aload_n hx hb dX1_figure_78 rfl (lv_at hl 0 rfl) ?_
            refine va_get (D := (dC, dI)) (ci := 1) (v := .int (ms_w u)) (C := RX1) (T := TX1) (N := 15) hx hb hts hin9 hown hK hP 0 rfl rfl 13 (by decide) (hts _ (List.mem_cons_of_mem _ mf_X1_48)) (fun _ h9 => h9) rfl dX1_figure_79 ?_
            exact W.iret (v := ms_w u) hx hb hr (fun t ht hW => ⟨⟨ms_w u, (0, ms_o u, ms_b u, ms_v u, ms_d u, ms_n u, ms_l u, ms_u u, ms_m u, ms_h u, ms_i u, ms_j u, ms_w u, ms_t u), rfl, ⟨(by first | rfl | (simp only [fm_figure, fm_fig, fm_setc, if_neg h1, if_pos h2, if_neg e0, if_neg e1, if_pos e2] <;> rfl)), (by first | rfl | (simp only [fm_figure, fm_fig, fm_setc, if_neg h1, if_pos h2, if_neg e0, if_neg e1, if_pos e2] <;> rfl))⟩, ⟨by rw [ht]; exact hP, va_K.moved hW.alike hK, hD⟩⟩, hS.F ht⟩) hS.2.2 dX1_figure_82
          · rcases Classical.em (q = 3) with e3 | e3
            · refine lv_tableIn (off := 63) (tgt := 83) hx hb dX1_figure_20 (by rw [e3]; decide) (by rw [e3]; decide) (by rw [e3]; decide) rfl ?_
              refine lv_aload_n hx hb dX1_figure_83 rfl (lv_at hl 0 rfl) ?_
              refine va_get (D := (dC, dI)) (ci := 1) (v := .int (ms_t u)) (C := RX1) (T := TX1) (N := 15) hx hb hts hin9 hown hK hP 0 rfl rfl 14 (by decide) (hts _ (List.mem_cons_of_mem _ mf_X1_41)) (fun _ h9 => h9) rfl dX1_figure_84 ?_
              exact W.iret (v := ms_t u) hx hb hr (fun t ht hW => ⟨⟨ms_t u, (0, ms_o u, ms_b u, ms_v u, ms_d u, ms_n u, ms_l u, ms_u u, ms_m u, ms_h u, ms_i u, ms_j u, ms_w u, ms_t u), rfl, ⟨(by first | rfl | (simp only [fm_figure, fm_fig, fm_setc, if_neg h1, if_pos h2, if_neg e0, if_neg e1, if_neg e2, if_pos e3] <;> rfl)), (by first | rfl | (simp only [fm_figure, fm_fig, fm_setc, if_neg h1, if_pos h2, if_neg e0, if_neg e1, if_neg e2, if_pos e3] <;> rfl))⟩, ⟨by rw [ht]; exact hP, va_K.moved hW.alike hK, hD⟩⟩, hS.F ht⟩) hS.2.2 dX1_figure_87
            · rcases Classical.em (q = 4) with e4 | e4
              · refine lv_tableIn (off := 68) (tgt := 88) hx hb dX1_figure_20 (by rw [e4]; decide) (by rw [e4]; decide) (by rw [e4]; decide) rfl ?_
                refine lv_aload_n hx hb dX1_figure_88 rfl (lv_at hl 0 rfl) ?_
                refine zr_Vi (w := fun z => wM n a ca z) (u := (0, ms_o u, ms_b u, ms_v u, ms_d u, ms_n u, ms_l u, ms_u u, ms_m u, ms_h u, ms_i u, ms_j u, ms_w u, ms_t u)) (u1 := (0, ms_o u, ms_b u, ms_v u, ms_d u, ms_n u, ms_l u, ms_u u, ms_m u, ms_h u, ms_i u, ms_j u, ms_w u, ms_t u)) (v := fm_full (ms_b (0, ms_o u, ms_b u, ms_v u, ms_d u, ms_n u, ms_l u, ms_u u, ms_m u, ms_h u, ms_i u, ms_j u, ms_w u, ms_t u)) n 0 0) (As := []) (rest := []) ⟨hx, hb, hml, hown, hts⟩ (c_M_full l dC dI n a ca (0, ms_o u, ms_b u, ms_v u, ms_d u, ms_n u, ms_l u, ms_u u, ms_m u, ms_h u, ms_i u, ms_j u, ms_w u, ms_t u) H.size hn) (cwV 0 hts gX1_figure_X1_full rfl rfl rfl (by decide +kernel) ⟨Nat.le_of_ble_eq_true rfl, Nat.le_of_ble_eq_true rfl⟩) hK hP hD hS hA (va_recv (q0 := 0) (ci := 1) (q := (RX1, TX1, 15)) hK hP rfl rfl) rfl hl.1 rfl (Nat.le_of_ble_eq_true rfl) dX1_figure_89 (fun H locs hP hD hS => ?_) ⟨Nat.le_of_ble_eq_true rfl, Nat.le_of_ble_eq_true rfl⟩
                have hP : va_P (dC, dI) vwCl (wM n a ca (0, ms_o u, ms_b u, ms_v u, ms_d u, ms_n u, ms_l u, ms_u u, ms_m u, ms_h u, ms_i u, ms_j u, ms_w u, ms_t u)) H := hP
                have hD : va_D A (wM n a ca (0, ms_o u, ms_b u, ms_v u, ms_d u, ms_n u, ms_l u, ms_u u, ms_m u, ms_h u, ms_i u, ms_j u, ms_w u, ms_t u)) := hD
                exact W.iret (v := fm_full (ms_b (0, ms_o u, ms_b u, ms_v u, ms_d u, ms_n u, ms_l u, ms_u u, ms_m u, ms_h u, ms_i u, ms_j u, ms_w u, ms_t u)) n 0 0) hx hb hr (fun t ht hW => ⟨⟨fm_full (ms_b (0, ms_o u, ms_b u, ms_v u, ms_d u, ms_n u, ms_l u, ms_u u, ms_m u, ms_h u, ms_i u, ms_j u, ms_w u, ms_t u)) n 0 0, (0, ms_o u, ms_b u, ms_v u, ms_d u, ms_n u, ms_l u, ms_u u, ms_m u, ms_h u, ms_i u, ms_j u, ms_w u, ms_t u), rfl, ⟨(by first | rfl | (simp only [fm_figure, fm_fig, fm_setc, if_neg h1, if_pos h2, if_neg e0, if_neg e1, if_neg e2, if_neg e3, if_pos e4] <;> rfl)), (by first | rfl | (simp only [fm_figure, fm_fig, fm_setc, if_neg h1, if_pos h2, if_neg e0, if_neg e1, if_neg e2, if_neg e3, if_pos e4] <;> rfl))⟩, ⟨by rw [ht]; exact hP, va_K.moved hW.alike hK, hD⟩⟩, hS.F ht⟩) hS.2.2 dX1_figure_92
              · rcases Classical.em (q = 5) with e5 | e5
                · refine lv_tableIn (off := 73) (tgt := 93) hx hb dX1_figure_20 (by rw [e5]; decide) (by rw [e5]; decide) (by rw [e5]; decide) rfl ?_
                  refine lv_aload_n hx hb dX1_figure_93 rfl (lv_at hl 0 rfl) ?_
                  refine zr_Vi (w := fun z => wM n a ca z) (u := (0, ms_o u, ms_b u, ms_v u, ms_d u, ms_n u, ms_l u, ms_u u, ms_m u, ms_h u, ms_i u, ms_j u, ms_w u, ms_t u)) (u1 := (0, ms_o u, ms_b u, ms_v u, ms_d u, ms_n u, ms_l u, ms_u u, ms_m u, ms_h u, ms_i u, ms_j u, ms_w u, ms_t u)) (v := fm_dts (ms_b (0, ms_o u, ms_b u, ms_v u, ms_d u, ms_n u, ms_l u, ms_u u, ms_m u, ms_h u, ms_i u, ms_j u, ms_w u, ms_t u)) (ms_d (0, ms_o u, ms_b u, ms_v u, ms_d u, ms_n u, ms_l u, ms_u u, ms_m u, ms_h u, ms_i u, ms_j u, ms_w u, ms_t u)) n 0 0) (As := []) (rest := []) ⟨hx, hb, hml, hown, hts⟩ (c_M_dirties l dC dI n a ca (0, ms_o u, ms_b u, ms_v u, ms_d u, ms_n u, ms_l u, ms_u u, ms_m u, ms_h u, ms_i u, ms_j u, ms_w u, ms_t u) H.size hn) (cwV 0 hts gX1_figure_X1_dirties rfl rfl rfl (by decide +kernel) ⟨Nat.le_of_ble_eq_true rfl, Nat.le_of_ble_eq_true rfl⟩) hK hP hD hS hA (va_recv (q0 := 0) (ci := 1) (q := (RX1, TX1, 15)) hK hP rfl rfl) rfl hl.1 rfl (Nat.le_of_ble_eq_true rfl) dX1_figure_94 (fun H locs hP hD hS => ?_) ⟨Nat.le_of_ble_eq_true rfl, Nat.le_of_ble_eq_true rfl⟩
                  have hP : va_P (dC, dI) vwCl (wM n a ca (0, ms_o u, ms_b u, ms_v u, ms_d u, ms_n u, ms_l u, ms_u u, ms_m u, ms_h u, ms_i u, ms_j u, ms_w u, ms_t u)) H := hP
                  have hD : va_D A (wM n a ca (0, ms_o u, ms_b u, ms_v u, ms_d u, ms_n u, ms_l u, ms_u u, ms_m u, ms_h u, ms_i u, ms_j u, ms_w u, ms_t u)) := hD
                  exact W.iret (v := fm_dts (ms_b (0, ms_o u, ms_b u, ms_v u, ms_d u, ms_n u, ms_l u, ms_u u, ms_m u, ms_h u, ms_i u, ms_j u, ms_w u, ms_t u)) (ms_d (0, ms_o u, ms_b u, ms_v u, ms_d u, ms_n u, ms_l u, ms_u u, ms_m u, ms_h u, ms_i u, ms_j u, ms_w u, ms_t u)) n 0 0) hx hb hr (fun t ht hW => ⟨⟨fm_dts (ms_b (0, ms_o u, ms_b u, ms_v u, ms_d u, ms_n u, ms_l u, ms_u u, ms_m u, ms_h u, ms_i u, ms_j u, ms_w u, ms_t u)) (ms_d (0, ms_o u, ms_b u, ms_v u, ms_d u, ms_n u, ms_l u, ms_u u, ms_m u, ms_h u, ms_i u, ms_j u, ms_w u, ms_t u)) n 0 0, (0, ms_o u, ms_b u, ms_v u, ms_d u, ms_n u, ms_l u, ms_u u, ms_m u, ms_h u, ms_i u, ms_j u, ms_w u, ms_t u), rfl, ⟨(by first | rfl | (simp only [fm_figure, fm_fig, fm_setc, if_neg h1, if_pos h2, if_neg e0, if_neg e1, if_neg e2, if_neg e3, if_neg e4, if_pos e5] <;> rfl)), (by first | rfl | (simp only [fm_figure, fm_fig, fm_setc, if_neg h1, if_pos h2, if_neg e0, if_neg e1, if_neg e2, if_neg e3, if_neg e4, if_pos e5] <;> rfl))⟩, ⟨by rw [ht]; exact hP, va_K.moved hW.alike hK, hD⟩⟩, hS.F ht⟩) hS.2.2 dX1_figure_97
                · rcases Classical.em (q = 6) with e6 | e6
                  · refine lv_tableIn (off := 78) (tgt := 98) hx hb dX1_figure_20 (by rw [e6]; decide) (by rw [e6]; decide) (by rw [e6]; decide) rfl ?_
                    refine lv_aload_n hx hb dX1_figure_98 rfl (lv_at hl 0 rfl) ?_
                    refine va_get (D := (dC, dI)) (ci := 1) (v := .int (ms_m u)) (C := RX1) (T := TX1) (N := 15) hx hb hts hin9 hown hK hP 0 rfl rfl 9 (by decide) (hts _ (List.mem_cons_of_mem _ mf_X1_87)) (fun _ h9 => h9) rfl dX1_figure_99 ?_
                    exact W.iret (v := ms_m u) hx hb hr (fun t ht hW => ⟨⟨ms_m u, (0, ms_o u, ms_b u, ms_v u, ms_d u, ms_n u, ms_l u, ms_u u, ms_m u, ms_h u, ms_i u, ms_j u, ms_w u, ms_t u), rfl, ⟨(by first | rfl | (simp only [fm_figure, fm_fig, fm_setc, if_neg h1, if_pos h2, if_neg e0, if_neg e1, if_neg e2, if_neg e3, if_neg e4, if_neg e5, if_pos e6] <;> rfl)), (by first | rfl | (simp only [fm_figure, fm_fig, fm_setc, if_neg h1, if_pos h2, if_neg e0, if_neg e1, if_neg e2, if_neg e3, if_neg e4, if_neg e5, if_pos e6] <;> rfl))⟩, ⟨by rw [ht]; exact hP, va_K.moved hW.alike hK, hD⟩⟩, hS.F ht⟩) hS.2.2 dX1_figure_102
                  · rcases Classical.em (q = 7) with e7 | e7
                    · refine lv_tableIn (off := 83) (tgt := 103) hx hb dX1_figure_20 (by rw [e7]; decide) (by rw [e7]; decide) (by rw [e7]; decide) rfl ?_
                      refine lv_aload_n hx hb dX1_figure_103 rfl (lv_at hl 0 rfl) ?_
                      refine va_get (D := (dC, dI)) (ci := 1) (v := .int (ms_h u)) (C := RX1) (T := TX1) (N := 15) hx hb hts hin9 hown hK hP 0 rfl rfl 10 (by decide) (hts _ (List.mem_cons_of_mem _ mf_X1_98)) (fun _ h9 => h9) rfl dX1_figure_104 ?_
                      exact W.iret (v := ms_h u) hx hb hr (fun t ht hW => ⟨⟨ms_h u, (0, ms_o u, ms_b u, ms_v u, ms_d u, ms_n u, ms_l u, ms_u u, ms_m u, ms_h u, ms_i u, ms_j u, ms_w u, ms_t u), rfl, ⟨(by first | rfl | (simp only [fm_figure, fm_fig, fm_setc, if_neg h1, if_pos h2, if_neg e0, if_neg e1, if_neg e2, if_neg e3, if_neg e4, if_neg e5, if_neg e6, if_pos e7] <;> rfl)), (by first | rfl | (simp only [fm_figure, fm_fig, fm_setc, if_neg h1, if_pos h2, if_neg e0, if_neg e1, if_neg e2, if_neg e3, if_neg e4, if_neg e5, if_neg e6, if_pos e7] <;> rfl))⟩, ⟨by rw [ht]; exact hP, va_K.moved hW.alike hK, hD⟩⟩, hS.F ht⟩) hS.2.2 dX1_figure_107
                    · refine lv_tableOut hx hb dX1_figure_20 (zr_out8 e0 e1 e2 e3 e4 e5 e6 e7) (tgt := 108) rfl ?_
                      refine lv_iconst (v := 0) hx hb dX1_figure_108 (by decide) ?_
                      exact W.iret (v := 0) hx hb hr (fun t ht hW => ⟨⟨0, (0, ms_o u, ms_b u, ms_v u, ms_d u, ms_n u, ms_l u, ms_u u, ms_m u, ms_h u, ms_i u, ms_j u, ms_w u, ms_t u), rfl, ⟨(by first | rfl | (simp only [fm_figure, fm_fig, fm_setc, if_neg h1, if_pos h2, if_neg e0, if_neg e1, if_neg e2, if_neg e3, if_neg e4, if_neg e5, if_neg e6, if_neg e7] <;> rfl)), (by first | rfl | (simp only [fm_figure, fm_fig, fm_setc, if_neg h1, if_pos h2, if_neg e0, if_neg e1, if_neg e2, if_neg e3, if_neg e4, if_neg e5, if_neg e6, if_neg e7] <;> rfl))⟩, ⟨by rw [ht]; exact hP, va_K.moved hW.alike hK, hD⟩⟩, hS.F ht⟩) hS.2.2 dX1_figure_109
    · refine lv_iconst (v := 1) hx hb dX1_figure_11 (by decide) ?_
      refine lv_goto hx hb dX1_figure_12 (tgt := 16) rfl ?_
      refine va_put (D := (dC, dI)) (ci := 1) (v := .int 1) (ty := .int) (C := RX1) (T := TX1) (N := 15) hx hb hts hin9 tyX1 tyX1_ok nmX1 hown hK hP hD hS 0 rfl rfl 0 (by decide) (hts _ (List.mem_cons_of_mem _ mf_X1_34)) (fun _ h9 => h9) rfl (by decide +kernel) rfl rfl (Nat.le_of_ble_eq_true rfl) dX1_figure_16 (fun H locs hP hD hS => ?_)
      have hP : va_P (dC, dI) vwCl (wM n a ca (1, ms_o u, ms_b u, ms_v u, ms_d u, ms_n u, ms_l u, ms_u u, ms_m u, ms_h u, ms_i u, ms_j u, ms_w u, ms_t u)) H := hP
      have hD : va_D A (wM n a ca (1, ms_o u, ms_b u, ms_v u, ms_d u, ms_n u, ms_l u, ms_u u, ms_m u, ms_h u, ms_i u, ms_j u, ms_w u, ms_t u)) := hD
      refine lv_iload_n hx hb dX1_figure_19 rfl (lv_at hl 1 rfl) ?_
      rcases Classical.em (q = 0) with e0 | e0
      · refine lv_tableIn (off := 48) (tgt := 68) hx hb dX1_figure_20 (by rw [e0]; decide) (by rw [e0]; decide) (by rw [e0]; decide) rfl ?_
        refine lv_aload_n hx hb dX1_figure_68 rfl (lv_at hl 0 rfl) ?_
        refine va_get (D := (dC, dI)) (ci := 1) (v := .int (ms_i u)) (C := RX1) (T := TX1) (N := 15) hx hb hts hin9 hown hK hP 0 rfl rfl 11 (by decide) (hts _ (List.mem_cons_of_mem _ mf_X1_78)) (fun _ h9 => h9) rfl dX1_figure_69 ?_
        exact W.iret (v := ms_i u) hx hb hr (fun t ht hW => ⟨⟨ms_i u, (1, ms_o u, ms_b u, ms_v u, ms_d u, ms_n u, ms_l u, ms_u u, ms_m u, ms_h u, ms_i u, ms_j u, ms_w u, ms_t u), rfl, ⟨(by first | rfl | (simp only [fm_figure, fm_fig, fm_setc, if_neg h1, if_neg h2, if_pos e0] <;> rfl)), (by first | rfl | (simp only [fm_figure, fm_fig, fm_setc, if_neg h1, if_neg h2, if_pos e0] <;> rfl))⟩, ⟨by rw [ht]; exact hP, va_K.moved hW.alike hK, hD⟩⟩, hS.F ht⟩) hS.2.2 dX1_figure_72
      · rcases Classical.em (q = 1) with e1 | e1
        · refine lv_tableIn (off := 53) (tgt := 73) hx hb dX1_figure_20 (by rw [e1]; decide) (by rw [e1]; decide) (by rw [e1]; decide) rfl ?_
          refine lv_aload_n hx hb dX1_figure_73 rfl (lv_at hl 0 rfl) ?_
          refine va_get (D := (dC, dI)) (ci := 1) (v := .int (ms_j u)) (C := RX1) (T := TX1) (N := 15) hx hb hts hin9 hown hK hP 0 rfl rfl 12 (by decide) (hts _ (List.mem_cons_of_mem _ mf_X1_84)) (fun _ h9 => h9) rfl dX1_figure_74 ?_
          exact W.iret (v := ms_j u) hx hb hr (fun t ht hW => ⟨⟨ms_j u, (1, ms_o u, ms_b u, ms_v u, ms_d u, ms_n u, ms_l u, ms_u u, ms_m u, ms_h u, ms_i u, ms_j u, ms_w u, ms_t u), rfl, ⟨(by first | rfl | (simp only [fm_figure, fm_fig, fm_setc, if_neg h1, if_neg h2, if_neg e0, if_pos e1] <;> rfl)), (by first | rfl | (simp only [fm_figure, fm_fig, fm_setc, if_neg h1, if_neg h2, if_neg e0, if_pos e1] <;> rfl))⟩, ⟨by rw [ht]; exact hP, va_K.moved hW.alike hK, hD⟩⟩, hS.F ht⟩) hS.2.2 dX1_figure_77
        · rcases Classical.em (q = 2) with e2 | e2
          · refine lv_tableIn (off := 58) (tgt := 78) hx hb dX1_figure_20 (by rw [e2]; decide) (by rw [e2]; decide) (by rw [e2]; decide) rfl ?_
            refine lv_aload_n hx hb dX1_figure_78 rfl (lv_at hl 0 rfl) ?_
            refine va_get (D := (dC, dI)) (ci := 1) (v := .int (ms_w u)) (C := RX1) (T := TX1) (N := 15) hx hb hts hin9 hown hK hP 0 rfl rfl 13 (by decide) (hts _ (List.mem_cons_of_mem _ mf_X1_48)) (fun _ h9 => h9) rfl dX1_figure_79 ?_
            exact W.iret (v := ms_w u) hx hb hr (fun t ht hW => ⟨⟨ms_w u, (1, ms_o u, ms_b u, ms_v u, ms_d u, ms_n u, ms_l u, ms_u u, ms_m u, ms_h u, ms_i u, ms_j u, ms_w u, ms_t u), rfl, ⟨(by first | rfl | (simp only [fm_figure, fm_fig, fm_setc, if_neg h1, if_neg h2, if_neg e0, if_neg e1, if_pos e2] <;> rfl)), (by first | rfl | (simp only [fm_figure, fm_fig, fm_setc, if_neg h1, if_neg h2, if_neg e0, if_neg e1, if_pos e2] <;> rfl))⟩, ⟨by rw [ht]; exact hP, va_K.moved hW.alike hK, hD⟩⟩, hS.F ht⟩) hS.2.2 dX1_figure_82
          · rcases Classical.em (q = 3) with e3 | e3
            · refine lv_tableIn (off := 63) (tgt := 83) hx hb dX1_figure_20 (by rw [e3]; decide) (by rw [e3]; decide) (by rw [e3]; decide) rfl ?_
              refine lv_aload_n hx hb dX1_figure_83 rfl (lv_at hl 0 rfl) ?_
              refine va_get (D := (dC, dI)) (ci := 1) (v := .int (ms_t u)) (C := RX1) (T := TX1) (N := 15) hx hb hts hin9 hown hK hP 0 rfl rfl 14 (by decide) (hts _ (List.mem_cons_of_mem _ mf_X1_41)) (fun _ h9 => h9) rfl dX1_figure_84 ?_
              exact W.iret (v := ms_t u) hx hb hr (fun t ht hW => ⟨⟨ms_t u, (1, ms_o u, ms_b u, ms_v u, ms_d u, ms_n u, ms_l u, ms_u u, ms_m u, ms_h u, ms_i u, ms_j u, ms_w u, ms_t u), rfl, ⟨(by first | rfl | (simp only [fm_figure, fm_fig, fm_setc, if_neg h1, if_neg h2, if_neg e0, if_neg e1, if_neg e2, if_pos e3] <;> rfl)), (by first | rfl | (simp only [fm_figure, fm_fig, fm_setc, if_neg h1, if_neg h2, if_neg e0, if_neg e1, if_neg e2, if_pos e3] <;> rfl))⟩, ⟨by rw [ht]; exact hP, va_K.moved hW.alike hK, hD⟩⟩, hS.F ht⟩) hS.2.2 dX1_figure_87
            · rcases Classical.em (q = 4) with e4 | e4
              · refine lv_tableIn (off := 68) (tgt := 88) hx hb dX1_figure_20 (by rw [e4]; decide) (by rw [e4]; decide) (by rw [e4]; decide) rfl ?_
                refine lv_aload_n hx hb dX1_figure_88 rfl (lv_at hl 0 rfl) ?_
                refine zr_Vi (w := fun z => wM n a ca z) (u := (1, ms_o u, ms_b u, ms_v u, ms_d u, ms_n u, ms_l u, ms_u u, ms_m u, ms_h u, ms_i u, ms_j u, ms_w u, ms_t u)) (u1 := (1, ms_o u, ms_b u, ms_v u, ms_d u, ms_n u, ms_l u, ms_u u, ms_m u, ms_h u, ms_i u, ms_j u, ms_w u, ms_t u)) (v := fm_full (ms_b (1, ms_o u, ms_b u, ms_v u, ms_d u, ms_n u, ms_l u, ms_u u, ms_m u, ms_h u, ms_i u, ms_j u, ms_w u, ms_t u)) n 0 0) (As := []) (rest := []) ⟨hx, hb, hml, hown, hts⟩ (c_M_full l dC dI n a ca (1, ms_o u, ms_b u, ms_v u, ms_d u, ms_n u, ms_l u, ms_u u, ms_m u, ms_h u, ms_i u, ms_j u, ms_w u, ms_t u) H.size hn) (cwV 0 hts gX1_figure_X1_full rfl rfl rfl (by decide +kernel) ⟨Nat.le_of_ble_eq_true rfl, Nat.le_of_ble_eq_true rfl⟩) hK hP hD hS hA (va_recv (q0 := 0) (ci := 1) (q := (RX1, TX1, 15)) hK hP rfl rfl) rfl hl.1 rfl (Nat.le_of_ble_eq_true rfl) dX1_figure_89 (fun H locs hP hD hS => ?_) ⟨Nat.le_of_ble_eq_true rfl, Nat.le_of_ble_eq_true rfl⟩
                have hP : va_P (dC, dI) vwCl (wM n a ca (1, ms_o u, ms_b u, ms_v u, ms_d u, ms_n u, ms_l u, ms_u u, ms_m u, ms_h u, ms_i u, ms_j u, ms_w u, ms_t u)) H := hP
                have hD : va_D A (wM n a ca (1, ms_o u, ms_b u, ms_v u, ms_d u, ms_n u, ms_l u, ms_u u, ms_m u, ms_h u, ms_i u, ms_j u, ms_w u, ms_t u)) := hD
                exact W.iret (v := fm_full (ms_b (1, ms_o u, ms_b u, ms_v u, ms_d u, ms_n u, ms_l u, ms_u u, ms_m u, ms_h u, ms_i u, ms_j u, ms_w u, ms_t u)) n 0 0) hx hb hr (fun t ht hW => ⟨⟨fm_full (ms_b (1, ms_o u, ms_b u, ms_v u, ms_d u, ms_n u, ms_l u, ms_u u, ms_m u, ms_h u, ms_i u, ms_j u, ms_w u, ms_t u)) n 0 0, (1, ms_o u, ms_b u, ms_v u, ms_d u, ms_n u, ms_l u, ms_u u, ms_m u, ms_h u, ms_i u, ms_j u, ms_w u, ms_t u), rfl, ⟨(by first | rfl | (simp only [fm_figure, fm_fig, fm_setc, if_neg h1, if_neg h2, if_neg e0, if_neg e1, if_neg e2, if_neg e3, if_pos e4] <;> rfl)), (by first | rfl | (simp only [fm_figure, fm_fig, fm_setc, if_neg h1, if_neg h2, if_neg e0, if_neg e1, if_neg e2, if_neg e3, if_pos e4] <;> rfl))⟩, ⟨by rw [ht]; exact hP, va_K.moved hW.alike hK, hD⟩⟩, hS.F ht⟩) hS.2.2 dX1_figure_92
              · rcases Classical.em (q = 5) with e5 | e5
                · refine lv_tableIn (off := 73) (tgt := 93) hx hb dX1_figure_20 (by rw [e5]; decide) (by rw [e5]; decide) (by rw [e5]; decide) rfl ?_
                  refine lv_aload_n hx hb dX1_figure_93 rfl (lv_at hl 0 rfl) ?_
                  refine zr_Vi (w := fun z => wM n a ca z) (u := (1, ms_o u, ms_b u, ms_v u, ms_d u, ms_n u, ms_l u, ms_u u, ms_m u, ms_h u, ms_i u, ms_j u, ms_w u, ms_t u)) (u1 := (1, ms_o u, ms_b u, ms_v u, ms_d u, ms_n u, ms_l u, ms_u u, ms_m u, ms_h u, ms_i u, ms_j u, ms_w u, ms_t u)) (v := fm_dts (ms_b (1, ms_o u, ms_b u, ms_v u, ms_d u, ms_n u, ms_l u, ms_u u, ms_m u, ms_h u, ms_i u, ms_j u, ms_w u, ms_t u)) (ms_d (1, ms_o u, ms_b u, ms_v u, ms_d u, ms_n u, ms_l u, ms_u u, ms_m u, ms_h u, ms_i u, ms_j u, ms_w u, ms_t u)) n 0 0) (As := []) (rest := []) ⟨hx, hb, hml, hown, hts⟩ (c_M_dirties l dC dI n a ca (1, ms_o u, ms_b u, ms_v u, ms_d u, ms_n u, ms_l u, ms_u u, ms_m u, ms_h u, ms_i u, ms_j u, ms_w u, ms_t u) H.size hn) (cwV 0 hts gX1_figure_X1_dirties rfl rfl rfl (by decide +kernel) ⟨Nat.le_of_ble_eq_true rfl, Nat.le_of_ble_eq_true rfl⟩) hK hP hD hS hA (va_recv (q0 := 0) (ci := 1) (q := (RX1, TX1, 15)) hK hP rfl rfl) rfl hl.1 rfl (Nat.le_of_ble_eq_true rfl) dX1_figure_94 (fun H locs hP hD hS => ?_) ⟨Nat.le_of_ble_eq_true rfl, Nat.le_of_ble_eq_true rfl⟩
                  have hP : va_P (dC, dI) vwCl (wM n a ca (1, ms_o u, ms_b u, ms_v u, ms_d u, ms_n u, ms_l u, ms_u u, ms_m u, ms_h u, ms_i u, ms_j u, ms_w u, ms_t u)) H := hP
                  have hD : va_D A (wM n a ca (1, ms_o u, ms_b u, ms_v u, ms_d u, ms_n u, ms_l u, ms_u u, ms_m u, ms_h u, ms_i u, ms_j u, ms_w u, ms_t u)) := hD
                  exact W.iret (v := fm_dts (ms_b (1, ms_o u, ms_b u, ms_v u, ms_d u, ms_n u, ms_l u, ms_u u, ms_m u, ms_h u, ms_i u, ms_j u, ms_w u, ms_t u)) (ms_d (1, ms_o u, ms_b u, ms_v u, ms_d u, ms_n u, ms_l u, ms_u u, ms_m u, ms_h u, ms_i u, ms_j u, ms_w u, ms_t u)) n 0 0) hx hb hr (fun t ht hW => ⟨⟨fm_dts (ms_b (1, ms_o u, ms_b u, ms_v u, ms_d u, ms_n u, ms_l u, ms_u u, ms_m u, ms_h u, ms_i u, ms_j u, ms_w u, ms_t u)) (ms_d (1, ms_o u, ms_b u, ms_v u, ms_d u, ms_n u, ms_l u, ms_u u, ms_m u, ms_h u, ms_i u, ms_j u, ms_w u, ms_t u)) n 0 0, (1, ms_o u, ms_b u, ms_v u, ms_d u, ms_n u, ms_l u, ms_u u, ms_m u, ms_h u, ms_i u, ms_j u, ms_w u, ms_t u), rfl, ⟨(by first | rfl | (simp only [fm_figure, fm_fig, fm_setc, if_neg h1, if_neg h2, if_neg e0, if_neg e1, if_neg e2, if_neg e3, if_neg e4, if_pos e5] <;> rfl)), (by first | rfl | (simp only [fm_figure, fm_fig, fm_setc, if_neg h1, if_neg h2, if_neg e0, if_neg e1, if_neg e2, if_neg e3, if_neg e4, if_pos e5] <;> rfl))⟩, ⟨by rw [ht]; exact hP, va_K.moved hW.alike hK, hD⟩⟩, hS.F ht⟩) hS.2.2 dX1_figure_97
                · rcases Classical.em (q = 6) with e6 | e6
                  · refine lv_tableIn (off := 78) (tgt := 98) hx hb dX1_figure_20 (by rw [e6]; decide) (by rw [e6]; decide) (by rw [e6]; decide) rfl ?_
                    refine lv_aload_n hx hb dX1_figure_98 rfl (lv_at hl 0 rfl) ?_
                    refine va_get (D := (dC, dI)) (ci := 1) (v := .int (ms_m u)) (C := RX1) (T := TX1) (N := 15) hx hb hts hin9 hown hK hP 0 rfl rfl 9 (by decide) (hts _ (List.mem_cons_of_mem _ mf_X1_87)) (fun _ h9 => h9) rfl dX1_figure_99 ?_
                    exact W.iret (v := ms_m u) hx hb hr (fun t ht hW => ⟨⟨ms_m u, (1, ms_o u, ms_b u, ms_v u, ms_d u, ms_n u, ms_l u, ms_u u, ms_m u, ms_h u, ms_i u, ms_j u, ms_w u, ms_t u), rfl, ⟨(by first | rfl | (simp only [fm_figure, fm_fig, fm_setc, if_neg h1, if_neg h2, if_neg e0, if_neg e1, if_neg e2, if_neg e3, if_neg e4, if_neg e5, if_pos e6] <;> rfl)), (by first | rfl | (simp only [fm_figure, fm_fig, fm_setc, if_neg h1, if_neg h2, if_neg e0, if_neg e1, if_neg e2, if_neg e3, if_neg e4, if_neg e5, if_pos e6] <;> rfl))⟩, ⟨by rw [ht]; exact hP, va_K.moved hW.alike hK, hD⟩⟩, hS.F ht⟩) hS.2.2 dX1_figure_102
                  · rcases Classical.em (q = 7) with e7 | e7
                    · refine lv_tableIn (off := 83) (tgt := 103) hx hb dX1_figure_20 (by rw [e7]; decide) (by rw [e7]; decide) (by rw [e7]; decide) rfl ?_
                      refine lv_aload_n hx hb dX1_figure_103 rfl (lv_at hl 0 rfl) ?_
                      refine va_get (D := (dC, dI)) (ci := 1) (v := .int (ms_h u)) (C := RX1) (T := TX1) (N := 15) hx hb hts hin9 hown hK hP 0 rfl rfl 10 (by decide) (hts _ (List.mem_cons_of_mem _ mf_X1_98)) (fun _ h9 => h9) rfl dX1_figure_104 ?_
                      exact W.iret (v := ms_h u) hx hb hr (fun t ht hW => ⟨⟨ms_h u, (1, ms_o u, ms_b u, ms_v u, ms_d u, ms_n u, ms_l u, ms_u u, ms_m u, ms_h u, ms_i u, ms_j u, ms_w u, ms_t u), rfl, ⟨(by first | rfl | (simp only [fm_figure, fm_fig, fm_setc, if_neg h1, if_neg h2, if_neg e0, if_neg e1, if_neg e2, if_neg e3, if_neg e4, if_neg e5, if_neg e6, if_pos e7] <;> rfl)), (by first | rfl | (simp only [fm_figure, fm_fig, fm_setc, if_neg h1, if_neg h2, if_neg e0, if_neg e1, if_neg e2, if_neg e3, if_neg e4, if_neg e5, if_neg e6, if_pos e7] <;> rfl))⟩, ⟨by rw [ht]; exact hP, va_K.moved hW.alike hK, hD⟩⟩, hS.F ht⟩) hS.2.2 dX1_figure_107
                    · refine lv_tableOut hx hb dX1_figure_20 (zr_out8 e0 e1 e2 e3 e4 e5 e6 e7) (tgt := 108) rfl ?_
                      refine lv_iconst (v := 0) hx hb dX1_figure_108 (by decide) ?_
                      exact W.iret (v := 0) hx hb hr (fun t ht hW => ⟨⟨0, (1, ms_o u, ms_b u, ms_v u, ms_d u, ms_n u, ms_l u, ms_u u, ms_m u, ms_h u, ms_i u, ms_j u, ms_w u, ms_t u), rfl, ⟨(by first | rfl | (simp only [fm_figure, fm_fig, fm_setc, if_neg h1, if_neg h2, if_neg e0, if_neg e1, if_neg e2, if_neg e3, if_neg e4, if_neg e5, if_neg e6, if_neg e7] <;> rfl)), (by first | rfl | (simp only [fm_figure, fm_fig, fm_setc, if_neg h1, if_neg h2, if_neg e0, if_neg e1, if_neg e2, if_neg e3, if_neg e4, if_neg e5, if_neg e6, if_neg e7] <;> rfl))⟩, ⟨by rw [ht]; exact hP, va_K.moved hW.alike hK, hD⟩⟩, hS.F ht⟩) hS.2.2 dX1_figure_109
