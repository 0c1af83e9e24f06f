set_option maxHeartbeats 4000000 in
set_option maxRecDepth 100000 in
theorem c_M_lose (l : Launch) (dC : Nat → ClassId) (dI : Nat → Nat → Nat) (n : Nat) (a : Nat → Nat) (ca : Nat → ClassId) (u : StM) (sz : Nat) (hn : n ≤ 12) : Met l yX1_lose wsX1_lose ({ frames := 2, cells := 0, slots := 0, locals := 42 }) (va_Pc [.ref (a 0)] (zr_P (dC, dI) vwCl (tM ca) (wM n a ca u) sz)) (va_Qi (fun r u' => r = (fm_lose n u).1 ∧ u' = (fm_lose n u).2) (fun u' => zr_B (dC, dI) vwCl (tM ca) (va_A (wM n a ca u) sz) (wM n a ca u')) (va_A (wM n a ca u) sz)) 0 0 (va_A (wM n a ca u) sz) := by
  refine Met.ofW (cc := cX1_lose) (maxL := 3) (ret := (some .int)) (by decide) rfl ?_
  intro p e s m args below meth c s₁ B hml hv
  obtain ⟨rfl, hsz, hP, hK, hD0⟩ := hv
  have hx := B.exec
  have hb := B.bytes
  have hr := B.returns
  have hts := atoms_spec (ws := wsX1_lose) B.pre
  have hown : s.vm.findClass RX1 = some m.cls := findClass_of_methodNamed B.named
  have hlocks := B.notSynchronized
  subst hsz
  have hD := hD0.self (sz := s.heap.size)
  generalize hAe : va_A (wM n a ca u) s.heap.size = A at hD ⊢
  have hA : ∀ q : Nat, s.heap.size ≤ q → A q := fun q h => by rw [← hAe]; exact Or.inr h
  obtain ⟨H, hH, hP, hS⟩ : ∃ H, H = s.heap ∧ va_P (dC, dI) vwCl (wM n a ca u) H ∧ va_S A s.heap H [] := ⟨_, rfl, hP, va_S.rf⟩
  have hin9 : ∀ w ∈ u_ws RX1 TX1 15, w ∈ wsX1_lose := fun w h => List.mem_cons_of_mem _ (hinX1 w h)
  rw [← hH]
  have hl := lv_entry ([.ref (a 0)]) (n := 3) (Nat.le_of_ble_eq_true rfl)
  rw [lg_entry_eq]
  generalize (lg_sl ([.ref (a 0)]) ++ List.replicate (3 - (lg_sl ([.ref (a 0)])).length) Slot.unset).toArray = ls at hl ⊢
  have hl : lv_has ls 3 [(0, .ref (a 0))] := hl
  refine lv_aload_n hx hb dX1_lose_0 rfl (lv_at hl 0 rfl) ?_
  refine lv_iconst (v := 0) hx hb dX1_lose_1 (by decide) ?_
  refine va_put (D := (dC, dI)) (ci := 1) (v := .int 0) (ty := .int) (C := RX1) (T := TX1) (N := 15) hx hb hts hin9 tyX1 tyX1_ok nmX1 hown hK hP hD hS 0 rfl rfl 0 (by decide) (hts _ (List.mem_cons_of_mem _ mf_X1_34)) (fun _ h9 => h9) rfl (by decide +kernel) rfl rfl (Nat.le_of_ble_eq_true rfl) dX1_lose_2 (fun H locs hP hD hS => ?_)
  have hP : va_P (dC, dI) vwCl (wM n a ca (0, ms_o u, ms_b u, ms_v u, ms_d u, ms_n u, ms_l u, ms_u u, ms_m u, ms_h u, ms_i u, ms_j u, ms_w u, ms_t u)) H := hP
  have hD : va_D A (wM n a ca (0, ms_o u, ms_b u, ms_v u, ms_d u, ms_n u, ms_l u, ms_u u, ms_m u, ms_h u, ms_i u, ms_j u, ms_w u, ms_t u)) := hD
  refine lv_aload_n hx hb dX1_lose_5 rfl (lv_at hl 0 rfl) ?_
  refine zr_Vi (w := fun z => wM n a ca z) (u := (0, ms_o u, ms_b u, ms_v u, ms_d u, ms_n u, ms_l u, ms_u u, ms_m u, ms_h u, ms_i u, ms_j u, ms_w u, ms_t u)) (u1 := (0, ms_o u, ms_b u, ms_v u, ms_d u, ms_n u, ms_l u, ms_u u, ms_m u, ms_h u, ms_i u, ms_j u, ms_w u, ms_t u)) (v := fm_dts (ms_b (0, ms_o u, ms_b u, ms_v u, ms_d u, ms_n u, ms_l u, ms_u u, ms_m u, ms_h u, ms_i u, ms_j u, ms_w u, ms_t u)) (ms_d (0, ms_o u, ms_b u, ms_v u, ms_d u, ms_n u, ms_l u, ms_u u, ms_m u, ms_h u, ms_i u, ms_j u, ms_w u, ms_t u)) n 0 0) (As := []) (rest := []) ⟨hx, hb, hml, hown, hts⟩ (c_M_dirties l dC dI n a ca (0, ms_o u, ms_b u, ms_v u, ms_d u, ms_n u, ms_l u, ms_u u, ms_m u, ms_h u, ms_i u, ms_j u, ms_w u, ms_t u) H.size hn) (cwV 0 hts gX1_lose_X1_dirties rfl rfl rfl (by decide +kernel) ⟨Nat.le_of_ble_eq_true rfl, Nat.le_of_ble_eq_true rfl⟩) hK hP hD hS hA (va_recv (q0 := 0) (ci := 1) (q := (RX1, TX1, 15)) hK hP rfl rfl) rfl hl.1 rfl (Nat.le_of_ble_eq_true rfl) dX1_lose_6 (fun H locs hP hD hS => ?_) ⟨Nat.le_of_ble_eq_true rfl, Nat.le_of_ble_eq_true rfl⟩
  have hP : va_P (dC, dI) vwCl (wM n a ca (0, ms_o u, ms_b u, ms_v u, ms_d u, ms_n u, ms_l u, ms_u u, ms_m u, ms_h u, ms_i u, ms_j u, ms_w u, ms_t u)) H := hP
  have hD : va_D A (wM n a ca (0, ms_o u, ms_b u, ms_v u, ms_d u, ms_n u, ms_l u, ms_u u, ms_m u, ms_h u, ms_i u, ms_j u, ms_w u, ms_t u)) := hD
  refine lv_istore_n hx hb dX1_lose_9 rfl hl (by decide) rfl (fun ls hl => ?_)
  have hl : lv_has ls 3 [(1, .int (fm_dts (ms_b (0, ms_o u, ms_b u, ms_v u, ms_d u, ms_n u, ms_l u, ms_u u, ms_m u, ms_h u, ms_i u, ms_j u, ms_w u, ms_t u)) (ms_d (0, ms_o u, ms_b u, ms_v u, ms_d u, ms_n u, ms_l u, ms_u u, ms_m u, ms_h u, ms_i u, ms_j u, ms_w u, ms_t u)) n 0 0)), (0, .ref (a 0))] := hl
  refine lv_iconst (v := 0) hx hb dX1_lose_10 (by decide) ?_
  refine lv_istore_n hx hb dX1_lose_11 rfl hl (by decide) rfl (fun ls hl => ?_)
  have hl : lv_has ls 3 [(2, .int 0), (1, .int (fm_dts (ms_b (0, ms_o u, ms_b u, ms_v u, ms_d u, ms_n u, ms_l u, ms_u u, ms_m u, ms_h u, ms_i u, ms_j u, ms_w u, ms_t u)) (ms_d (0, ms_o u, ms_b u, ms_v u, ms_d u, ms_n u, ms_l u, ms_u u, ms_m u, ms_h u, ms_i u, ms_j u, ms_w u, ms_t u)) n 0 0)), (0, .ref (a 0))] := hl
  refine zr_loop (fun r (x0 : Nat × StM) ls H locs => r + x0.1 = n ∧ fm_clrL r x0.1 x0.2 = fm_clrL n 0 (fm_setc u 0) ∧ lv_has ls 3 [(0, .ref (a 0)), (1, .int (fm_dts (ms_b u) (ms_d u) n 0 0)), (2, .int (nI x0.1))] ∧ va_P (dC, dI) vwCl (wM n a ca x0.2) H ∧ va_D A (wM n a ca x0.2) ∧ va_S A s.heap H locs) (fun ls => F0 m 12 ls []) ?_ n (0, (0, ms_o u, ms_b u, ms_v u, ms_d u, ms_n u, ms_l u, ms_u u, ms_m u, ms_h u, ms_i u, ms_j u, ms_w u, ms_t u)) _ _ _ ⟨by omega, rfl, lv_sub hl [2, 1, 0] rfl, hP, hD, hS⟩
  rintro r ⟨k, w⟩ ls H locs ih ⟨hrk, hinv, hl, hP, hD, hS⟩
  have hrk : r + k = n := hrk
  have hinv : fm_clrL r k w = fm_clrL n 0 (fm_setc u 0) := hinv
  have hl : lv_has ls 3 [(0, .ref (a 0)), (1, .int (fm_dts (ms_b u) (ms_d u) n 0 0)), (2, .int (nI k))] := hl
  have hP : va_P (dC, dI) vwCl (wM n a ca w) H := hP
  have hD : va_D A (wM n a ca w) := hD
  refine lv_iload_n hx hb dX1_lose_12 rfl (lv_at hl 2 rfl) ?_
  refine lv_aload_n hx hb dX1_lose_13 rfl (lv_at hl 0 rfl) ?_
  refine va_get (D := (dC, dI)) (ci := 1) (v := .int (nI n)) (C := RX1) (T := TX1) (N := 15) hx hb hts hin9 hown hK hP 0 rfl rfl 1 (by decide) (hts _ (List.mem_cons_of_mem _ mf_X1_30)) (fun _ h9 => h9) rfl dX1_lose_14 ?_
  refine lv_icmp_ge hx hb dX1_lose_17 (tgt := 33) rfl (fun h1 => ?_) (fun h1 => ?_)
  · have h1 := zr_ge (by omega) (by omega) h1
    obtain rfl : r = 0 := by omega
    have hT : fm_clrL n 0 (fm_setc u 0) = w := hinv.symm
    refine lv_aload_n hx hb dX1_lose_33 rfl (lv_at hl 0 rfl) ?_
    refine zr_Vv (w := fun z => wM n a ca z) (u := w) (u1 := fm_stop n w) (As := []) (rest := []) ⟨hx, hb, hml, hown, hts⟩ (c_M_stop l dC dI n a ca w H.size hn) (cwV 0 hts gX1_lose_X1_stop rfl rfl rfl (by decide +kernel) ⟨Nat.le_of_ble_eq_true rfl, Nat.le_of_ble_eq_true rfl⟩) hK hP hD hS hA (va_recv (q0 := 0) (ci := 1) (q := (RX1, TX1, 15)) hK hP rfl rfl) rfl hl.1 rfl (Nat.le_of_ble_eq_true rfl) dX1_lose_34 (fun H locs hP hD hS => ?_) ⟨Nat.le_of_ble_eq_true rfl, Nat.le_of_ble_eq_true rfl⟩
    have hP : va_P (dC, dI) vwCl (wM n a ca (fm_stop n w)) H := hP
    have hD : va_D A (wM n a ca (fm_stop n w)) := hD
    refine lv_iload_n hx hb dX1_lose_37 rfl (lv_at hl 1 rfl) ?_
    exact W.iret (v := fm_dts (ms_b u) (ms_d u) n 0 0) hx hb hr (fun t ht hW => ⟨⟨fm_dts (ms_b u) (ms_d u) n 0 0, fm_stop n w, rfl, ⟨(by first | rfl | (simp only [fm_lose, hT] <;> rfl)), (by first | rfl | (simp only [fm_lose, hT] <;> rfl))⟩, ⟨by rw [ht]; exact hP, va_K.moved hW.alike hK, hD⟩⟩, hS.F ht⟩) hS.2.2 dX1_lose_38
  · have h1 := zr_lt (by omega) (by omega) h1
    obtain ⟨r', rfl⟩ : ∃ z, r = z + 1 := ⟨r - 1, by omega⟩
    refine lv_aload_n hx hb dX1_lose_20 rfl (lv_at hl 0 rfl) ?_
    refine va_get (D := (dC, dI)) (ci := 1) (v := .ref (a 5)) (C := RX1) (T := TX1) (N := 15) hx hb hts hin9 hown hK hP 0 rfl rfl 6 (by decide) (hts _ (List.mem_cons_of_mem _ mf_X1_24)) (fun _ h9 => h9) rfl dX1_lose_21 ?_
    refine lv_iload_n hx hb dX1_lose_24 rfl (lv_at hl 2 rfl) ?_
    refine lv_iconst (v := (-1)) hx hb dX1_lose_25 (by decide) ?_
    refine zr_iast (k := k) hx hb hK hP hD hS 5 4 rfl rfl (by omega) (by omega) dX1_lose_26 (fun H locs hP hD hS => ?_)
    have hP : va_P (dC, dI) vwCl (wM n a ca (ms_c w, ms_o w, ms_b w, ms_v w, ms_d w, upd (ms_n w) k (-1), ms_l w, ms_u w, ms_m w, ms_h w, ms_i w, ms_j w, ms_w w, ms_t w)) H := hP
    have hD : va_D A (wM n a ca (ms_c w, ms_o w, ms_b w, ms_v w, ms_d w, upd (ms_n w) k (-1), ms_l w, ms_u w, ms_m w, ms_h w, ms_i w, ms_j w, ms_w w, ms_t w)) := hD
    refine lv_iinc (k := 2) (v := nI (k + 1)) hx hb dX1_lose_27 hl rfl (zr_incN k) (by decide) rfl (fun ls hl => ?_)
    have hl : lv_has ls 3 [(2, .int (nI (k + 1))), (0, .ref (a 0)), (1, .int (fm_dts (ms_b u) (ms_d u) n 0 0))] := hl
    refine lv_goto hx hb dX1_lose_30 (tgt := 12) rfl ?_
    exact ih r' (k + 1, (ms_c w, ms_o w, ms_b w, ms_v w, ms_d w, upd (ms_n w) k (-1), ms_l w, ms_u w, ms_m w, ms_h w, ms_i w, ms_j w, ms_w w, ms_t w)) _ _ _ (by omega) ⟨by omega, (by rw [← hinv]; first | rfl | (simp only [fm_clrL] <;> rfl)), lv_sub hl [1, 2, 0] rfl, hP, hD, hS⟩
