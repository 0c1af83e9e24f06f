set_option maxHeartbeats 4000000 in
set_option maxRecDepth 100000 in
theorem c_C_stopMachine (l : Launch) (dC : Nat → ClassId) (dI : Nat → Nat → Nat) (n : Nat) (a : Nat → Nat) (ca : Nat → ClassId) (u : StC) (sz : Nat) (hn : n ≤ 12) : Met l yX0_stopMachine wsX0_stopMachine ({ frames := 0, cells := 0, slots := 0, locals := 0 }) (va_Pc [.ref (a 0)] (zr_P (dC, dI) vwCl (tC ca) (wC n a ca u) sz)) (va_Qv (fun u' => u' = fc_stop n u) (fun u' => zr_B (dC, dI) vwCl (tC ca) (va_A (wC n a ca u) sz) (wC n a ca u')) (va_A (wC n a ca u) sz)) 0 0 (va_A (wC n a ca u) sz) := by
  refine Met.ofW (cc := cX0_stopMachine) (maxL := 2) (ret := none) (by decide) rfl ?_
  intro p e s m args below meth c s₁ B hml hv
  obtain ⟨rfl, hsz, hP, hK, hD0⟩ := hv
  have hx := B.exec
  have hb := B.bytes
  have hr := B.returns
  have hts := atoms_spec (ws := wsX0_stopMachine) B.pre
  have hown : s.vm.findClass RX0 = some m.cls := findClass_of_methodNamed B.named
  have hlocks := B.notSynchronized
  subst hsz
  have hD := hD0.self (sz := s.heap.size)
  generalize hAe : va_A (wC n a ca u) s.heap.size = A at hD ⊢
  have hA : ∀ q : Nat, s.heap.size ≤ q → A q := fun q h => by rw [← hAe]; exact Or.inr h
  obtain ⟨H, hH, hP, hS⟩ : ∃ H, H = s.heap ∧ va_P (dC, dI) vwCl (wC n a ca u) H ∧ va_S A s.heap H [] := ⟨_, rfl, hP, va_S.rf⟩
  have hin9 : ∀ w ∈ u_ws RX0 TX0 13, w ∈ wsX0_stopMachine := fun w h => List.mem_cons_of_mem _ (hinX0 w h)
  rw [← hH]
  have hl := lv_entry ([.ref (a 0)]) (n := 2) (Nat.le_of_ble_eq_true rfl)
  rw [lg_entry_eq]
  generalize (lg_sl ([.ref (a 0)]) ++ List.replicate (2 - (lg_sl ([.ref (a 0)])).length) Slot.unset).toArray = ls at hl ⊢
  have hl : lv_has ls 2 [(0, .ref (a 0))] := hl
  refine lv_iconst (v := 0) hx hb dX0_stopMachine_0 (by decide) ?_
  refine lv_istore_n hx hb dX0_stopMachine_1 rfl hl (by decide) rfl (fun ls hl => ?_)
  have hl : lv_has ls 2 [(1, .int 0), (0, .ref (a 0))] := hl
  refine zr_loop (fun r (x0 : Nat × StC) ls H locs => r + x0.1 = n ∧ fc_stopL r x0.1 x0.2 = fc_stopL n 0 u ∧ lv_has ls 2 [(0, .ref (a 0)), (1, .int (nI x0.1))] ∧ va_P (dC, dI) vwCl (wC n a ca x0.2) H ∧ va_D A (wC n a ca x0.2) ∧ va_S A s.heap H locs) (fun ls => F0 m 2 ls []) ?_ n (0, u) _ _ _ ⟨by omega, rfl, lv_sub hl [1, 0] rfl, hP, hD, hS⟩
  rintro r ⟨k, w⟩ ls H locs ih ⟨hrk, hinv, hl, hP, hD, hS⟩
  have hrk : r + k = n := hrk
  have hinv : fc_stopL r k w = fc_stopL n 0 u := hinv
  have hl : lv_has ls 2 [(0, .ref (a 0)), (1, .int (nI k))] := hl
  have hP : va_P (dC, dI) vwCl (wC n a ca w) H := hP
  have hD : va_D A (wC n a ca w) := hD
  refine lv_iload_n hx hb dX0_stopMachine_2 rfl (lv_at hl 1 rfl) ?_
  refine lv_aload_n hx hb dX0_stopMachine_3 rfl (lv_at hl 0 rfl) ?_
  refine va_get (D := (dC, dI)) (ci := 0) (v := .int (nI n)) (C := RX0) (T := TX0) (N := 13) hx hb hts hin9 hown hK hP 0 rfl rfl 0 (by decide) (hts _ (List.mem_cons_of_mem _ mf_X0_9)) (fun _ h9 => h9) rfl dX0_stopMachine_4 ?_
  refine lv_icmp_ge hx hb dX0_stopMachine_7 (tgt := 36) rfl (fun h1 => ?_) (fun h1 => ?_)
  · have h1 := zr_ge (by omega) (by omega) h1
    obtain rfl : r = 0 := by omega
    refine lv_aload_n hx hb dX0_stopMachine_36 rfl (lv_at hl 0 rfl) ?_
    refine lv_iconst (v := 0) hx hb dX0_stopMachine_37 (by decide) ?_
    refine va_put (D := (dC, dI)) (ci := 0) (v := .int 0) (ty := .int) (C := RX0) (T := TX0) (N := 13) hx hb hts hin9 tyX0 tyX0_ok nmX0 hown hK hP hD hS 0 rfl rfl 7 (by decide) (hts _ (List.mem_cons_of_mem _ mf_X0_53)) (fun _ h9 => h9) rfl (by decide +kernel) rfl rfl (Nat.le_of_ble_eq_true rfl) dX0_stopMachine_38 (fun H locs hP hD hS => ?_)
    have hP : va_P (dC, dI) vwCl (wC n a ca (cs_o w, cs_v w, cs_k w, cs_n w, cs_l w, cs_u w, 0, cs_h w, cs_i w, cs_j w, cs_w w, cs_t w)) H := hP
    have hD : va_D A (wC n a ca (cs_o w, cs_v w, cs_k w, cs_n w, cs_l w, cs_u w, 0, cs_h w, cs_i w, cs_j w, cs_w w, cs_t w)) := hD
    refine lv_aload_n hx hb dX0_stopMachine_41 rfl (lv_at hl 0 rfl) ?_
    refine lv_iconst (v := 0) hx hb dX0_stopMachine_42 (by decide) ?_
    refine va_put (D := (dC, dI)) (ci := 0) (v := .int 0) (ty := .int) (C := RX0) (T := TX0) (N := 13) hx hb hts hin9 tyX0 tyX0_ok nmX0 hown hK hP hD hS 0 rfl rfl 8 (by decide) (hts _ (List.mem_cons_of_mem _ mf_X0_107)) (fun _ h9 => h9) rfl (by decide +kernel) rfl rfl (Nat.le_of_ble_eq_true rfl) dX0_stopMachine_43 (fun H locs hP hD hS => ?_)
    have hP : va_P (dC, dI) vwCl (wC n a ca (cs_o w, cs_v w, cs_k w, cs_n w, cs_l w, cs_u w, 0, 0, cs_i w, cs_j w, cs_w w, cs_t w)) H := hP
    have hD : va_D A (wC n a ca (cs_o w, cs_v w, cs_k w, cs_n w, cs_l w, cs_u w, 0, 0, cs_i w, cs_j w, cs_w w, cs_t w)) := hD
    exact W.vret hx hb hr (fun t ht hW => ⟨⟨(cs_o w, cs_v w, cs_k w, cs_n w, cs_l w, cs_u w, 0, 0, cs_i w, cs_j w, cs_w w, cs_t w), rfl, (by first | rfl | (rw [← hinv] <;> rfl) | (rw [← hinv]; simp only [fc_stop, fc_stopL] <;> rfl) | (simp only [fc_stop, fc_stopL]; rw [← hinv] <;> rfl) | (simp only [fc_stop, fc_stopL]; rw [← hinv]; simp only [fc_stop, fc_stopL] <;> rfl) | (simp only [fc_stop, fc_stopL] <;> rfl)), ⟨by rw [ht]; exact hP, va_K.moved hW.alike hK, hD⟩⟩, hS.F ht⟩) hS.2.2 dX0_stopMachine_46
  · have h1 := zr_lt (by omega) (by omega) h1
    obtain ⟨r', rfl⟩ : ∃ z, r = z + 1 := ⟨r - 1, by omega⟩
    refine lv_aload_n hx hb dX0_stopMachine_10 rfl (lv_at hl 0 rfl) ?_
    refine va_get (D := (dC, dI)) (ci := 0) (v := .ref (a 3)) (C := RX0) (T := TX0) (N := 13) hx hb hts hin9 hown hK hP 0 rfl rfl 3 (by decide) (hts _ (List.mem_cons_of_mem _ mf_X0_20)) (fun _ h9 => h9) rfl dX0_stopMachine_11 ?_
    refine lv_iload_n hx hb dX0_stopMachine_14 rfl (lv_at hl 1 rfl) ?_
    refine lv_aload_n hx hb dX0_stopMachine_15 rfl (lv_at hl 0 rfl) ?_
    refine va_get (D := (dC, dI)) (ci := 0) (v := .ref (a 4)) (C := RX0) (T := TX0) (N := 13) hx hb hts hin9 hown hK hP 0 rfl rfl 4 (by decide) (hts _ (List.mem_cons_of_mem _ mf_X0_24)) (fun _ h9 => h9) rfl dX0_stopMachine_16 ?_
    refine lv_iload_n hx hb dX0_stopMachine_19 rfl (lv_at hl 1 rfl) ?_
    refine zr_iald (k := k) hx hb hK hP 4 3 rfl rfl (by omega) (by omega) dX0_stopMachine_20 ?_
    refine zr_iast (k := k) hx hb hK hP hD hS 3 2 rfl rfl (by omega) (by omega) dX0_stopMachine_21 (fun H locs hP hD hS => ?_)
    have hP : va_P (dC, dI) vwCl (wC n a ca (cs_o w, cs_v w, upd (cs_k w) k (cs_n w k), cs_n w, cs_l w, cs_u w, cs_m w, cs_h w, cs_i w, cs_j w, cs_w w, cs_t w)) H := hP
    have hD : va_D A (wC n a ca (cs_o w, cs_v w, upd (cs_k w) k (cs_n w k), cs_n w, cs_l w, cs_u w, cs_m w, cs_h w, cs_i w, cs_j w, cs_w w, cs_t w)) := hD
    refine lv_aload_n hx hb dX0_stopMachine_22 rfl (lv_at hl 0 rfl) ?_
    refine va_get (D := (dC, dI)) (ci := 0) (v := .ref (a 5)) (C := RX0) (T := TX0) (N := 13) hx hb hts hin9 hown hK hP 0 rfl rfl 5 (by decide) (hts _ (List.mem_cons_of_mem _ mf_X0_27)) (fun _ h9 => h9) rfl dX0_stopMachine_23 ?_
    refine lv_iload_n hx hb dX0_stopMachine_26 rfl (lv_at hl 1 rfl) ?_
    refine lv_iload_n hx hb dX0_stopMachine_27 rfl (lv_at hl 1 rfl) ?_
    refine lv_ineg hx hb dX0_stopMachine_28 ?_
    refine zr_iast (k := k) hx hb hK hP hD hS 5 4 rfl rfl (by omega) (by omega) dX0_stopMachine_29 (fun H locs hP hD hS => ?_)
    have hP : va_P (dC, dI) vwCl (wC n a ca (cs_o w, cs_v w, upd (cs_k w) k (cs_n w k), cs_n w, upd (cs_l w) k (-(nI k)), cs_u w, cs_m w, cs_h w, cs_i w, cs_j w, cs_w w, cs_t w)) H := hP
    have hD : va_D A (wC n a ca (cs_o w, cs_v w, upd (cs_k w) k (cs_n w k), cs_n w, upd (cs_l w) k (-(nI k)), cs_u w, cs_m w, cs_h w, cs_i w, cs_j w, cs_w w, cs_t w)) := hD
    refine lv_iinc (k := 1) (v := nI (k + 1)) hx hb dX0_stopMachine_30 hl rfl (zr_incN k) (by decide) rfl (fun ls hl => ?_)
    have hl : lv_has ls 2 [(1, .int (nI (k + 1))), (0, .ref (a 0))] := hl
    refine lv_goto hx hb dX0_stopMachine_33 (tgt := 2) rfl ?_
    exact ih r' (k + 1, (cs_o w, cs_v w, upd (cs_k w) k (cs_n w k), cs_n w, upd (cs_l w) k (-(nI k)), cs_u w, cs_m w, cs_h w, cs_i w, cs_j w, cs_w w, cs_t w)) _ _ _ (by omega) ⟨by omega, (by rw [← hinv]; first | rfl | (simp only [fc_stopL, fc_stop1] <;> rfl)), lv_sub hl [1, 0] rfl, hP, hD, hS⟩
set_option maxHeartbeats 4000000 in
set_option maxRecDepth 100000 in
theorem c_C_leastDirtyFrom (l : Launch) (dC : Nat → ClassId) (dI : Nat → Nat → Nat) (n : Nat) (a : Nat → Nat) (ca : Nat → ClassId) (u : StC) (sz : Nat) (q : Int32) (hn : n ≤ 12) : Met l yX0_leastDirtyFrom wsX0_leastDirtyFrom ({ frames := 1, cells := 0, slots := 0, locals := 20 }) (va_Pc [.ref (a 0), .int q] (zr_P (dC, dI) vwCl (tC ca) (wC n a ca u) sz)) (va_Qi (fun r u' => r = fc_enc (fc_least (cs_k u) q n 0 none 64) ∧ u' = u) (fun u' => zr_B (dC, dI) vwCl (tC ca) (va_A (wC n a ca u) sz) (wC n a ca u')) (va_A (wC n a ca u) sz)) 0 0 (va_A (wC n a ca u) sz) := by
  refine Met.ofW (cc := cX0_leastDirtyFrom) (maxL := 6) (ret := (some .int)) (by decide) rfl ?_
  intro p e s m args below meth c s₁ B hml hv
  obtain ⟨rfl, hsz, hP, hK, hD0⟩ := hv
  have hx := B.exec
  have hb := B.bytes
  have hr := B.returns
  have hts := atoms_spec (ws := wsX0_leastDirtyFrom) B.pre
  have hown : s.vm.findClass RX0 = some m.cls := findClass_of_methodNamed B.named
  have hlocks := B.notSynchronized
  subst hsz
  have hD := hD0.self (sz := s.heap.size)
  generalize hAe : va_A (wC n a ca u) s.heap.size = A at hD ⊢
  have hA : ∀ q : Nat, s.heap.size ≤ q → A q := fun q h => by rw [← hAe]; exact Or.inr h
  obtain ⟨H, hH, hP, hS⟩ : ∃ H, H = s.heap ∧ va_P (dC, dI) vwCl (wC n a ca u) H ∧ va_S A s.heap H [] := ⟨_, rfl, hP, va_S.rf⟩
  have hin9 : ∀ w ∈ u_ws RX0 TX0 13, w ∈ wsX0_leastDirtyFrom := fun w h => List.mem_cons_of_mem _ (hinX0 w h)
  rw [← hH]
  have hl := lv_entry ([.ref (a 0), .int q]) (n := 6) (Nat.le_of_ble_eq_true rfl)
  rw [lg_entry_eq]
  generalize (lg_sl ([.ref (a 0), .int q]) ++ List.replicate (6 - (lg_sl ([.ref (a 0), .int q])).length) Slot.unset).toArray = ls at hl ⊢
  have hl : lv_has ls 6 [(0, .ref (a 0)), (1, .int q)] := hl
  refine lv_iconst (v := (-1)) hx hb dX0_leastDirtyFrom_0 (by decide) ?_
  refine lv_istore_n hx hb dX0_leastDirtyFrom_1 rfl hl (by decide) rfl (fun ls hl => ?_)
  have hl : lv_has ls 6 [(2, .int (-1)), (0, .ref (a 0)), (1, .int q)] := hl
  refine lv_bipush (v := 64) hx hb dX0_leastDirtyFrom_2 (by decide) ?_
  refine lv_istore_n hx hb dX0_leastDirtyFrom_4 rfl hl (by decide) rfl (fun ls hl => ?_)
  have hl : lv_has ls 6 [(3, .int 64), (2, .int (-1)), (0, .ref (a 0)), (1, .int q)] := hl
  refine lv_iconst (v := 0) hx hb dX0_leastDirtyFrom_5 (by decide) ?_
  refine lv_istore hx hb dX0_leastDirtyFrom_6 hl (by decide) rfl (fun ls hl => ?_)
  have hl : lv_has ls 6 [(4, .int 0), (3, .int 64), (2, .int (-1)), (0, .ref (a 0)), (1, .int q)] := hl
  refine zr_loop (fun r (x0 : Nat × Option Nat × Int32) ls H locs => r + x0.1 = n ∧ fc_least (cs_k u) q r x0.1 x0.2.1 x0.2.2 = fc_least (cs_k u) q n 0 none 64 ∧ lv_has ls 6 [(0, .ref (a 0)), (1, .int q), (2, .int (fc_enc x0.2.1)), (3, .int x0.2.2), (4, .int (nI x0.1))] ∧ va_P (dC, dI) vwCl (wC n a ca u) H ∧ va_D A (wC n a ca u) ∧ va_S A s.heap H locs) (fun ls => F0 m 8 ls []) ?_ n (0, none, 64) _ _ _ ⟨by omega, rfl, lv_sub hl [3, 4, 2, 1, 0] rfl, hP, hD, hS⟩
  rintro r ⟨k, o, y⟩ ls H locs ih ⟨hrk, hinv, hl, hP, hD, hS⟩
  have hrk : r + k = n := hrk
  have hinv : fc_least (cs_k u) q r k o y = fc_least (cs_k u) q n 0 none 64 := hinv
  have hl : lv_has ls 6 [(0, .ref (a 0)), (1, .int q), (2, .int (fc_enc o)), (3, .int y), (4, .int (nI k))] := hl
  have hP : va_P (dC, dI) vwCl (wC n a ca u) H := hP
  have hD : va_D A (wC n a ca u) := hD
  refine lv_iload hx hb dX0_leastDirtyFrom_8 (lv_at hl 4 rfl) ?_
  refine lv_aload_n hx hb dX0_leastDirtyFrom_10 rfl (lv_at hl 0 rfl) ?_
  refine va_get (D := (dC, dI)) (ci := 0) (v := .int (nI n)) (C := RX0) (T := TX0) (N := 13) hx hb hts hin9 hown hK hP 0 rfl rfl 0 (by decide) (hts _ (List.mem_cons_of_mem _ mf_X0_9)) (fun _ h9 => h9) rfl dX0_leastDirtyFrom_11 ?_
  refine lv_icmp_ge hx hb dX0_leastDirtyFrom_14 (tgt := 66) rfl (fun h1 => ?_) (fun h1 => ?_)
  · have h1 := zr_ge (by omega) (by omega) h1
    obtain rfl : r = 0 := by omega
    refine lv_iload_n hx hb dX0_leastDirtyFrom_66 rfl (lv_at hl 2 rfl) ?_
    exact W.iret (v := fc_enc o) hx hb hr (fun t ht hW => ⟨⟨fc_enc o, u, rfl, ⟨(by first | rfl | (rw [← hinv] <;> rfl) | (rw [← hinv]; simp only [fc_least] <;> rfl) | (simp only [fc_least]; rw [← hinv] <;> rfl) | (simp only [fc_least]; rw [← hinv]; simp only [fc_least] <;> rfl) | (simp only [fc_least] <;> rfl)), (by first | rfl | (rw [← hinv] <;> rfl) | (rw [← hinv]; simp only [fc_least] <;> rfl) | (simp only [fc_least]; rw [← hinv] <;> rfl) | (simp only [fc_least]; rw [← hinv]; simp only [fc_least] <;> rfl) | (simp only [fc_least] <;> rfl))⟩, ⟨by rw [ht]; exact hP, va_K.moved hW.alike hK, hD⟩⟩, hS.F ht⟩) hS.2.2 dX0_leastDirtyFrom_67
  · have h1 := zr_lt (by omega) (by omega) h1
    obtain ⟨r', rfl⟩ : ∃ z, r = z + 1 := ⟨r - 1, by omega⟩
    refine lv_aload_n hx hb dX0_leastDirtyFrom_17 rfl (lv_at hl 0 rfl) ?_
    refine va_get (D := (dC, dI)) (ci := 0) (v := .ref (a 3)) (C := RX0) (T := TX0) (N := 13) hx hb hts hin9 hown hK hP 0 rfl rfl 3 (by decide) (hts _ (List.mem_cons_of_mem _ mf_X0_20)) (fun _ h9 => h9) rfl dX0_leastDirtyFrom_18 ?_
    refine lv_iload hx hb dX0_leastDirtyFrom_21 (lv_at hl 4 rfl) ?_
    refine zr_iald (k := k) hx hb hK hP 3 2 rfl rfl (by omega) (by omega) dX0_leastDirtyFrom_23 ?_
    refine zr_Si (v := (fc_blk (cs_k u k))) (As := [.int (cs_k u k)]) (rest := []) ⟨hx, hb, hml, hown, hts⟩ (c_C_blockOf l H.size (cs_k u k)) (va_cwS 1 hts gX0_leastDirtyFrom_X0_blockOf rfl rfl rfl (by decide +kernel) ⟨Nat.le_of_ble_eq_true rfl, Nat.le_of_ble_eq_true rfl⟩) hP hS hA rfl hl.1 rfl (Nat.le_of_ble_eq_true rfl) dX0_leastDirtyFrom_24 (fun H locs hP hS => ?_) ⟨Nat.le_of_ble_eq_true rfl, Nat.le_of_ble_eq_true rfl⟩
    refine lv_istore hx hb dX0_leastDirtyFrom_27 hl (by decide) rfl (fun ls hl => ?_)
    have hl : lv_has ls 6 [(5, .int (fc_blk (cs_k u k))), (0, .ref (a 0)), (1, .int q), (2, .int (fc_enc o)), (3, .int y), (4, .int (nI k))] := hl
    refine lv_aload_n hx hb dX0_leastDirtyFrom_29 rfl (lv_at hl 1 rfl) ?_
    refine va_get (D := (dC, dI)) (ci := 0) (v := .ref (a 3)) (C := RX0) (T := TX0) (N := 13) hx hb hts hin9 hown hK hP 0 rfl rfl 3 (by decide) (hts _ (List.mem_cons_of_mem _ mf_X0_20)) (fun _ h9 => h9) rfl dX0_leastDirtyFrom_30 ?_
    refine lv_iload hx hb dX0_leastDirtyFrom_33 (lv_at hl 5 rfl) ?_
    refine zr_iald (k := k) hx hb hK hP 3 2 rfl rfl (by omega) (by omega) dX0_leastDirtyFrom_35 ?_
    refine zr_Si (v := (fc_isd (cs_k u k))) (As := [.int (cs_k u k)]) (rest := []) ⟨hx, hb, hml, hown, hts⟩ (c_C_isDirty l H.size (cs_k u k)) (va_cwS 1 hts gX0_leastDirtyFrom_X0_isDirty rfl rfl rfl (by decide +kernel) ⟨Nat.le_of_ble_eq_true rfl, Nat.le_of_ble_eq_true rfl⟩) hP hS hA rfl hl.1 rfl (Nat.le_of_ble_eq_true rfl) dX0_leastDirtyFrom_36 (fun H locs hP hS => ?_) ⟨Nat.le_of_ble_eq_true rfl, Nat.le_of_ble_eq_true rfl⟩
    refine lv_if_eq hx hb dX0_leastDirtyFrom_39 (tgt := 60) rfl (fun h2 => ?_) (fun h2 => ?_)
    · refine lv_iinc (k := 5) (v := nI (k + 1)) hx hb dX0_leastDirtyFrom_60 hl rfl (zr_incN k) (by decide) rfl (fun ls hl => ?_)
      have hl : lv_has ls 6 [(4, .int (nI (k + 1))), (5, .int (fc_blk (cs_k u k))), (0, .ref (a 0)), (1, .int q), (2, .int (fc_enc o)), (3, .int y)] := hl
      refine lv_goto hx hb dX0_leastDirtyFrom_63 (tgt := 8) rfl ?_
      exact ih r' (k + 1, o, y) _ _ _ (by omega) ⟨by omega, (by rw [← hinv]; first | rfl | (simp only [fc_least, if_pos h2] <;> rfl)), lv_sub hl [2, 3, 4, 5, 0] rfl, hP, hD, hS⟩
    · refine lv_iload hx hb dX0_leastDirtyFrom_42 (lv_at hl 0 rfl) ?_
      refine lv_iload_n hx hb dX0_leastDirtyFrom_44 rfl (lv_at hl 2 rfl) ?_
      refine lv_icmp_lt hx hb dX0_leastDirtyFrom_45 (tgt := 60) rfl (fun h3 => ?_) (fun h3 => ?_)
      · refine lv_iinc (k := 5) (v := nI (k + 1)) hx hb dX0_leastDirtyFrom_60 hl rfl (zr_incN k) (by decide) rfl (fun ls hl => ?_)
        have hl : lv_has ls 6 [(4, .int (nI (k + 1))), (5, .int (fc_blk (cs_k u k))), (0, .ref (a 0)), (1, .int q), (2, .int (fc_enc o)), (3, .int y)] := hl
        refine lv_goto hx hb dX0_leastDirtyFrom_63 (tgt := 8) rfl ?_
        exact ih r' (k + 1, o, y) _ _ _ (by omega) ⟨by omega, (by rw [← hinv]; first | rfl | (simp only [fc_least, if_neg h2, if_pos h3] <;> rfl)), lv_sub hl [2, 3, 4, 5, 0] rfl, hP, hD, hS⟩
      · refine lv_iload hx hb dX0_leastDirtyFrom_48 (lv_at hl 0 rfl) ?_
        refine lv_iload_n hx hb dX0_leastDirtyFrom_50 rfl (lv_at hl 4 rfl) ?_
        refine lv_icmp_ge hx hb dX0_leastDirtyFrom_51 (tgt := 60) rfl (fun h4 => ?_) (fun h4 => ?_)
        · refine lv_iinc (k := 5) (v := nI (k + 1)) hx hb dX0_leastDirtyFrom_60 hl rfl (zr_incN k) (by decide) rfl (fun ls hl => ?_)
          have hl : lv_has ls 6 [(4, .int (nI (k + 1))), (5, .int (fc_blk (cs_k u k))), (0, .ref (a 0)), (1, .int q), (2, .int (fc_enc o)), (3, .int y)] := hl
          refine lv_goto hx hb dX0_leastDirtyFrom_63 (tgt := 8) rfl ?_
          exact ih r' (k + 1, o, y) _ _ _ (by omega) ⟨by omega, (by rw [← hinv]; first | rfl | (simp only [fc_least, if_neg h2, if_neg h3, if_pos h4] <;> rfl)), lv_sub hl [2, 3, 4, 5, 0] rfl, hP, hD, hS⟩
        · refine lv_iload hx hb dX0_leastDirtyFrom_54 (lv_at hl 5 rfl) ?_
          refine lv_istore_n hx hb dX0_leastDirtyFrom_56 rfl hl (by decide) rfl (fun ls hl => ?_)
          have hl : lv_has ls 6 [(2, .int (nI k)), (5, .int (fc_blk (cs_k u k))), (0, .ref (a 0)), (1, .int q), (3, .int y), (4, .int (nI k))] := hl
          refine lv_iload hx hb dX0_leastDirtyFrom_57 (lv_at hl 1 rfl) ?_
          refine lv_istore_n hx hb dX0_leastDirtyFrom_59 rfl hl (by decide) rfl (fun ls hl => ?_)
          have hl : lv_has ls 6 [(3, .int (fc_blk (cs_k u k))), (2, .int (nI k)), (5, .int (fc_blk (cs_k u k))), (0, .ref (a 0)), (1, .int q), (4, .int (nI k))] := hl
          refine lv_iinc (k := 5) (v := nI (k + 1)) hx hb dX0_leastDirtyFrom_60 hl rfl (zr_incN k) (by decide) rfl (fun ls hl => ?_)
          have hl : lv_has ls 6 [(4, .int (nI (k + 1))), (3, .int (fc_blk (cs_k u k))), (2, .int (nI k)), (5, .int (fc_blk (cs_k u k))), (0, .ref (a 0)), (1, .int q)] := hl
          refine lv_goto hx hb dX0_leastDirtyFrom_63 (tgt := 8) rfl ?_
          exact ih r' (k + 1, (some k), (fc_blk (cs_k u k))) _ _ _ (by omega) ⟨by omega, (by rw [← hinv]; first | rfl | (simp only [fc_least, if_neg h2, if_neg h3, if_neg h4] <;> rfl)), lv_sub hl [4, 5, 2, 1, 0] rfl, hP, hD, hS⟩
set_option maxHeartbeats 4000000 in
set_option maxRecDepth 100000 in
theorem c_C_nextForHand (l : Launch) (dC : Nat → ClassId) (dI : Nat → Nat → Nat) (n : Nat) (a : Nat → Nat) (ca : Nat → ClassId) (u : StC) (sz : Nat) (hn : n ≤ 12) : Met l yX0_nextForHand wsX0_nextForHand ({ frames := 2, cells := 0, slots := 0, locals := 45 }) (va_Pc [.ref (a 0)] (zr_P (dC, dI) vwCl (tC ca) (wC n a ca u) sz)) (va_Qi (fun r u' => r = fc_enc (fc_next n u) ∧ u' = u) (fun u' => zr_B (dC, dI) vwCl (tC ca) (va_A (wC n a ca u) sz) (wC n a ca u')) (va_A (wC n a ca u) sz)) 0 0 (va_A (wC n a ca u) sz) := by
  refine Met.ofW (cc := cX0_nextForHand) (maxL := 2) (ret := (some .int)) (by decide) rfl ?_
  intro p e s m args below meth c s₁ B hml hv
  obtain ⟨rfl, hsz, hP, hK, hD0⟩ := hv
  have hx := B.exec
  have hb := B.bytes
  have hr := B.returns
  have hts := atoms_spec (ws := wsX0_nextForHand) B.pre
  have hown : s.vm.findClass RX0 = some m.cls := findClass_of_methodNamed B.named
  have hlocks := B.notSynchronized
  subst hsz
  have hD := hD0.self (sz := s.heap.size)
  generalize hAe : va_A (wC n a ca u) s.heap.size = A at hD ⊢
  have hA : ∀ q : Nat, s.heap.size ≤ q → A q := fun q h => by rw [← hAe]; exact Or.inr h
  obtain ⟨H, hH, hP, hS⟩ : ∃ H, H = s.heap ∧ va_P (dC, dI) vwCl (wC n a ca u) H ∧ va_S A s.heap H [] := ⟨_, rfl, hP, va_S.rf⟩
  have hin9 : ∀ w ∈ u_ws RX0 TX0 13, w ∈ wsX0_nextForHand := fun w h => List.mem_cons_of_mem _ (hinX0 w h)
  rw [← hH]
  have hl := lv_entry ([.ref (a 0)]) (n := 2) (Nat.le_of_ble_eq_true rfl)
  rw [lg_entry_eq]
  generalize (lg_sl ([.ref (a 0)]) ++ List.replicate (2 - (lg_sl ([.ref (a 0)])).length) Slot.unset).toArray = ls at hl ⊢
  have hl : lv_has ls 2 [(0, .ref (a 0))] := hl
  refine lv_aload_n hx hb dX0_nextForHand_0 rfl (lv_at hl 0 rfl) ?_
  refine lv_aload_n hx hb dX0_nextForHand_1 rfl (lv_at hl 0 rfl) ?_
  refine va_get (D := (dC, dI)) (ci := 0) (v := .int (cs_h u)) (C := RX0) (T := TX0) (N := 13) hx hb hts hin9 hown hK hP 0 rfl rfl 8 (by decide) (hts _ (List.mem_cons_of_mem _ mf_X0_107)) (fun _ h9 => h9) rfl dX0_nextForHand_2 ?_
  refine zr_Vi (w := fun z => wC n a ca z) (u := u) (u1 := u) (v := fc_enc (fc_least (cs_k u) (cs_h u) n 0 none 64)) (As := [.int (cs_h u)]) (rest := []) ⟨hx, hb, hml, hown, hts⟩ (c_C_leastDirtyFrom l dC dI n a ca u H.size (cs_h u) hn) (cwV 1 hts gX0_nextForHand_X0_leastDirtyFrom rfl rfl rfl (by decide +kernel) ⟨Nat.le_of_ble_eq_true rfl, Nat.le_of_ble_eq_true rfl⟩) hK hP hD hS hA (va_recv (q0 := 0) (ci := 0) (q := (RX0, TX0, 13)) hK hP rfl rfl) rfl hl.1 rfl (Nat.le_of_ble_eq_true rfl) dX0_nextForHand_5 (fun H locs hP hD hS => ?_) ⟨Nat.le_of_ble_eq_true rfl, Nat.le_of_ble_eq_true rfl⟩
  have hP : va_P (dC, dI) vwCl (wC n a ca u) H := hP
  have hD : va_D A (wC n a ca u) := hD
  rcases hf1 : fc_least (cs_k u) (cs_h u) n 0 none 64 with _ | j2
  · refine W.eq (g2 := F0 m 8 ls [.int (-1)]) rfl ?_
    refine lv_istore_n hx hb dX0_nextForHand_8 rfl hl (by decide) rfl (fun ls hl => ?_)
    have hl : lv_has ls 2 [(1, .int (-1)), (0, .ref (a 0))] := hl
    refine lv_iload_n hx hb dX0_nextForHand_9 rfl (lv_at hl 0 rfl) ?_
    refine lv_iconst (v := (-1)) hx hb dX0_nextForHand_10 (by decide) ?_
    refine lv_icmp_eq hx hb dX0_nextForHand_11 (tgt := 18) rfl (fun _ => ?_) (fun h => absurd (by decide) h)
    refine lv_aload_n hx hb dX0_nextForHand_18 rfl (lv_at hl 1 rfl) ?_
    refine lv_iconst (v := 0) hx hb dX0_nextForHand_19 (by decide) ?_
    refine zr_Vi (w := fun z => wC n a ca z) (u := u) (u1 := u) (v := fc_enc (fc_least (cs_k u) 0 n 0 none 64)) (As := [.int 0]) (rest := []) ⟨hx, hb, hml, hown, hts⟩ (c_C_leastDirtyFrom l dC dI n a ca u H.size 0 hn) (cwV 1 hts gX0_nextForHand_X0_leastDirtyFrom rfl rfl rfl (by decide +kernel) ⟨Nat.le_of_ble_eq_true rfl, Nat.le_of_ble_eq_true rfl⟩) hK hP hD hS hA (va_recv (q0 := 0) (ci := 0) (q := (RX0, TX0, 13)) hK hP rfl rfl) rfl hl.1 rfl (Nat.le_of_ble_eq_true rfl) dX0_nextForHand_20 (fun H locs hP hD hS => ?_) ⟨Nat.le_of_ble_eq_true rfl, Nat.le_of_ble_eq_true rfl⟩
    have hP : va_P (dC, dI) vwCl (wC n a ca u) H := hP
    have hD : va_D A (wC n a ca u) := hD
    exact W.iret (v := fc_enc (fc_least (cs_k u) 0 n 0 none 64)) hx hb hr (fun t ht hW => ⟨⟨fc_enc (fc_least (cs_k u) 0 n 0 none 64), u, rfl, ⟨(by first | rfl | (simp only [fc_next, fc_enc, hf1] <;> rfl)), (by first | rfl | (simp only [fc_next, fc_enc, hf1] <;> rfl))⟩, ⟨by rw [ht]; exact hP, va_K.moved hW.alike hK, hD⟩⟩, hS.F ht⟩) hS.2.2 dX0_nextForHand_23
  · have hj2 := fc_least_lt hf1
    refine W.eq (g2 := F0 m 8 ls [.int (nI j2)]) rfl ?_
    refine lv_istore_n hx hb dX0_nextForHand_8 rfl hl (by decide) rfl (fun ls hl => ?_)
    have hl : lv_has ls 2 [(1, .int (nI j2)), (0, .ref (a 0))] := hl
    refine lv_iload_n hx hb dX0_nextForHand_9 rfl (lv_at hl 0 rfl) ?_
    refine lv_iconst (v := (-1)) hx hb dX0_nextForHand_10 (by decide) ?_
    refine lv_icmp_eq hx hb dX0_nextForHand_11 (tgt := 18) rfl (fun h => absurd h (zr_nem (by omega))) (fun _ => ?_)
    refine lv_iload_n hx hb dX0_nextForHand_14 rfl (lv_at hl 0 rfl) ?_
    refine lv_goto hx hb dX0_nextForHand_15 (tgt := 23) rfl ?_
    exact W.iret (v := nI j2) hx hb hr (fun t ht hW => ⟨⟨nI j2, u, rfl, ⟨(by first | rfl | (simp only [fc_next, fc_enc, hf1] <;> rfl)), (by first | rfl | (simp only [fc_next, fc_enc, hf1] <;> rfl))⟩, ⟨by rw [ht]; exact hP, va_K.moved hW.alike hK, hD⟩⟩, hS.F ht⟩) hS.2.2 dX0_nextForHand_23
set_option maxHeartbeats 4000000 in
set_option maxRecDepth 100000 in
theorem c_C_countUsedAfter (l : Launch) (dC : Nat → ClassId) (dI : Nat → Nat → Nat) (n : Nat) (a : Nat → Nat) (ca : Nat → ClassId) (u : StC) (sz : Nat) (sl : Nat) (hn : n ≤ 12) (hs : sl < n) : Met l yX0_countUsedAfter wsX0_countUsedAfter ({ frames := 0, cells := 0, slots := 0, locals := 0 }) (va_Pc [.ref (a 0), .int (nI sl)] (zr_P (dC, dI) vwCl (tC ca) (wC n a ca u) sz)) (va_Qi (fun r u' => r = fc_cua (cs_k u) (cs_l u) sl n 0 0 ∧ u' = u) (fun u' => zr_B (dC, dI) vwCl (tC ca) (va_A (wC n a ca u) sz) (wC n a ca u')) (va_A (wC n a ca u) sz)) 0 0 (va_A (wC n a ca u) sz) := by
  refine Met.ofW (cc := cX0_countUsedAfter) (maxL := 4) (ret := (some .int)) (by decide) rfl ?_
  intro p e s m args below meth c s₁ B hml hv
  obtain ⟨rfl, hsz, hP, hK, hD0⟩ := hv
  have hx := B.exec
  have hb := B.bytes
  have hr := B.returns
  have hts := atoms_spec (ws := wsX0_countUsedAfter) B.pre
  have hown : s.vm.findClass RX0 = some m.cls := findClass_of_methodNamed B.named
  have hlocks := B.notSynchronized
  subst hsz
  have hD := hD0.self (sz := s.heap.size)
  generalize hAe : va_A (wC n a ca u) s.heap.size = A at hD ⊢
  have hA : ∀ q : Nat, s.heap.size ≤ q → A q := fun q h => by rw [← hAe]; exact Or.inr h
  obtain ⟨H, hH, hP, hS⟩ : ∃ H, H = s.heap ∧ va_P (dC, dI) vwCl (wC n a ca u) H ∧ va_S A s.heap H [] := ⟨_, rfl, hP, va_S.rf⟩
  have hin9 : ∀ w ∈ u_ws RX0 TX0 13, w ∈ wsX0_countUsedAfter := fun w h => List.mem_cons_of_mem _ (hinX0 w h)
  rw [← hH]
  have hl := lv_entry ([.ref (a 0), .int (nI sl)]) (n := 4) (Nat.le_of_ble_eq_true rfl)
  rw [lg_entry_eq]
  generalize (lg_sl ([.ref (a 0), .int (nI sl)]) ++ List.replicate (4 - (lg_sl ([.ref (a 0), .int (nI sl)])).length) Slot.unset).toArray = ls at hl ⊢
  have hl : lv_has ls 4 [(0, .ref (a 0)), (1, .int (nI sl))] := hl
  refine lv_iconst (v := 0) hx hb dX0_countUsedAfter_0 (by decide) ?_
  refine lv_istore_n hx hb dX0_countUsedAfter_1 rfl hl (by decide) rfl (fun ls hl => ?_)
  have hl : lv_has ls 4 [(2, .int 0), (0, .ref (a 0)), (1, .int (nI sl))] := hl
  refine lv_iconst (v := 0) hx hb dX0_countUsedAfter_2 (by decide) ?_
  refine lv_istore_n hx hb dX0_countUsedAfter_3 rfl hl (by decide) rfl (fun ls hl => ?_)
  have hl : lv_has ls 4 [(3, .int 0), (2, .int 0), (0, .ref (a 0)), (1, .int (nI sl))] := hl
  refine zr_loop (fun r (x0 : Nat × Int32) ls H locs => r + x0.1 = n ∧ fc_cua (cs_k u) (cs_l u) sl r x0.1 x0.2 = fc_cua (cs_k u) (cs_l u) sl n 0 0 ∧ lv_has ls 4 [(0, .ref (a 0)), (1, .int (nI sl)), (2, .int x0.2), (3, .int (nI x0.1))] ∧ va_P (dC, dI) vwCl (wC n a ca u) H ∧ va_D A (wC n a ca u) ∧ va_S A s.heap H locs) (fun ls => F0 m 4 ls []) ?_ n (0, 0) _ _ _ ⟨by omega, rfl, lv_sub hl [2, 3, 1, 0] rfl, hP, hD, hS⟩
  rintro r ⟨k, q⟩ ls H locs ih ⟨hrk, hinv, hl, hP, hD, hS⟩
  have hrk : r + k = n := hrk
  have hinv : fc_cua (cs_k u) (cs_l u) sl r k q = fc_cua (cs_k u) (cs_l u) sl n 0 0 := hinv
  have hl : lv_has ls 4 [(0, .ref (a 0)), (1, .int (nI sl)), (2, .int q), (3, .int (nI k))] := hl
  have hP : va_P (dC, dI) vwCl (wC n a ca u) H := hP
  have hD : va_D A (wC n a ca u) := hD
  refine lv_iload_n hx hb dX0_countUsedAfter_4 rfl (lv_at hl 3 rfl) ?_
  refine lv_aload_n hx hb dX0_countUsedAfter_5 rfl (lv_at hl 0 rfl) ?_
  refine va_get (D := (dC, dI)) (ci := 0) (v := .int (nI n)) (C := RX0) (T := TX0) (N := 13) hx hb hts hin9 hown hK hP 0 rfl rfl 0 (by decide) (hts _ (List.mem_cons_of_mem _ mf_X0_9)) (fun _ h9 => h9) rfl dX0_countUsedAfter_6 ?_
  refine lv_icmp_ge hx hb dX0_countUsedAfter_9 (tgt := 46) rfl (fun h1 => ?_) (fun h1 => ?_)
  · have h1 := zr_ge (by omega) (by omega) h1
    obtain rfl : r = 0 := by omega
    refine lv_iload_n hx hb dX0_countUsedAfter_46 rfl (lv_at hl 2 rfl) ?_
    exact W.iret (v := q) hx hb hr (fun t ht hW => ⟨⟨q, u, rfl, ⟨(by first | rfl | (rw [← hinv] <;> rfl) | (rw [← hinv]; simp only [fc_cua] <;> rfl) | (simp only [fc_cua]; rw [← hinv] <;> rfl) | (simp only [fc_cua]; rw [← hinv]; simp only [fc_cua] <;> rfl) | (simp only [fc_cua] <;> rfl)), (by first | rfl | (rw [← hinv] <;> rfl) | (rw [← hinv]; simp only [fc_cua] <;> rfl) | (simp only [fc_cua]; rw [← hinv] <;> rfl) | (simp only [fc_cua]; rw [← hinv]; simp only [fc_cua] <;> rfl) | (simp only [fc_cua] <;> rfl))⟩, ⟨by rw [ht]; exact hP, va_K.moved hW.alike hK, hD⟩⟩, hS.F ht⟩) hS.2.2 dX0_countUsedAfter_47
  · have h1 := zr_lt (by omega) (by omega) h1
    obtain ⟨r', rfl⟩ : ∃ z, r = z + 1 := ⟨r - 1, by omega⟩
    refine lv_aload_n hx hb dX0_countUsedAfter_12 rfl (lv_at hl 0 rfl) ?_
    refine va_get (D := (dC, dI)) (ci := 0) (v := .ref (a 3)) (C := RX0) (T := TX0) (N := 13) hx hb hts hin9 hown hK hP 0 rfl rfl 3 (by decide) (hts _ (List.mem_cons_of_mem _ mf_X0_20)) (fun _ h9 => h9) rfl dX0_countUsedAfter_13 ?_
    refine lv_iload_n hx hb dX0_countUsedAfter_16 rfl (lv_at hl 3 rfl) ?_
    refine zr_iald (k := k) hx hb hK hP 3 2 rfl rfl (by omega) (by omega) dX0_countUsedAfter_17 ?_
    refine lv_iconst (v := (-1)) hx hb dX0_countUsedAfter_18 (by decide) ?_
    refine lv_icmp_eq hx hb dX0_countUsedAfter_19 (tgt := 40) rfl (fun h2 => ?_) (fun h2 => ?_)
    · refine lv_iinc (k := 3) (v := nI (k + 1)) hx hb dX0_countUsedAfter_40 hl rfl (zr_incN k) (by decide) rfl (fun ls hl => ?_)
      have hl : lv_has ls 4 [(3, .int (nI (k + 1))), (0, .ref (a 0)), (1, .int (nI sl)), (2, .int q)] := hl
      refine lv_goto hx hb dX0_countUsedAfter_43 (tgt := 4) rfl ?_
      exact ih r' (k + 1, q) _ _ _ (by omega) ⟨by omega, (by rw [← hinv]; first | rfl | (simp only [fc_cua, if_pos h2] <;> rfl)), lv_sub hl [1, 2, 3, 0] rfl, hP, hD, hS⟩
    · refine lv_aload_n hx hb dX0_countUsedAfter_22 rfl (lv_at hl 0 rfl) ?_
      refine va_get (D := (dC, dI)) (ci := 0) (v := .ref (a 5)) (C := RX0) (T := TX0) (N := 13) hx hb hts hin9 hown hK hP 0 rfl rfl 5 (by decide) (hts _ (List.mem_cons_of_mem _ mf_X0_27)) (fun _ h9 => h9) rfl dX0_countUsedAfter_23 ?_
      refine lv_iload_n hx hb dX0_countUsedAfter_26 rfl (lv_at hl 3 rfl) ?_
      refine zr_iald (k := k) hx hb hK hP 5 4 rfl rfl (by omega) (by omega) dX0_countUsedAfter_27 ?_
      refine lv_aload_n hx hb dX0_countUsedAfter_28 rfl (lv_at hl 0 rfl) ?_
      refine va_get (D := (dC, dI)) (ci := 0) (v := .ref (a 5)) (C := RX0) (T := TX0) (N := 13) hx hb hts hin9 hown hK hP 0 rfl rfl 5 (by decide) (hts _ (List.mem_cons_of_mem _ mf_X0_27)) (fun _ h9 => h9) rfl dX0_countUsedAfter_29 ?_
      refine lv_iload_n hx hb dX0_countUsedAfter_32 rfl (lv_at hl 1 rfl) ?_
      refine zr_iald (k := sl) hx hb hK hP 5 4 rfl rfl (by omega) (by omega) dX0_countUsedAfter_33 ?_
      refine lv_icmp_le hx hb dX0_countUsedAfter_34 (tgt := 40) rfl (fun h3 => ?_) (fun h3 => ?_)
      · refine lv_iinc (k := 3) (v := nI (k + 1)) hx hb dX0_countUsedAfter_40 hl rfl (zr_incN k) (by decide) rfl (fun ls hl => ?_)
        have hl : lv_has ls 4 [(3, .int (nI (k + 1))), (0, .ref (a 0)), (1, .int (nI sl)), (2, .int q)] := hl
        refine lv_goto hx hb dX0_countUsedAfter_43 (tgt := 4) rfl ?_
        exact ih r' (k + 1, q) _ _ _ (by omega) ⟨by omega, (by rw [← hinv]; first | rfl | (simp only [fc_cua, if_neg h2, if_pos h3] <;> rfl)), lv_sub hl [1, 2, 3, 0] rfl, hP, hD, hS⟩
      · refine lv_iinc (k := 2) (v := (q + 1)) hx hb dX0_countUsedAfter_37 hl rfl (zr_inc1 q) (by decide) rfl (fun ls hl => ?_)
        have hl : lv_has ls 4 [(2, .int (q + 1)), (0, .ref (a 0)), (1, .int (nI sl)), (3, .int (nI k))] := hl
        refine lv_iinc (k := 3) (v := nI (k + 1)) hx hb dX0_countUsedAfter_40 hl rfl (zr_incN k) (by decide) rfl (fun ls hl => ?_)
        have hl : lv_has ls 4 [(3, .int (nI (k + 1))), (2, .int (q + 1)), (0, .ref (a 0)), (1, .int (nI sl))] := hl
        refine lv_goto hx hb dX0_countUsedAfter_43 (tgt := 4) rfl ?_
        exact ih r' (k + 1, (q + 1)) _ _ _ (by omega) ⟨by omega, (by rw [← hinv]; first | rfl | (simp only [fc_cua, if_neg h2, if_neg h3] <;> rfl)), lv_sub hl [2, 3, 1, 0] rfl, hP, hD, hS⟩
set_option maxHeartbeats 4000000 in
set_option maxRecDepth 100000 in
theorem c_C_countFull (l : Launch) (dC : Nat → ClassId) (dI : Nat → Nat → Nat) (n : Nat) (a : Nat → Nat) (ca : Nat → ClassId) (u : StC) (sz : Nat) (hn : n ≤ 12) : Met l yX0_countFull wsX0_countFull ({ frames := 0, cells := 0, slots := 0, locals := 0 }) (va_Pc [.ref (a 0)] (zr_P (dC, dI) vwCl (tC ca) (wC n a ca u) sz)) (va_Qi (fun r u' => r = fc_full (cs_k u) n 0 0 ∧ u' = u) (fun u' => zr_B (dC, dI) vwCl (tC ca) (va_A (wC n a ca u) sz) (wC n a ca u')) (va_A (wC n a ca u) sz)) 0 0 (va_A (wC n a ca u) sz) := by
  refine Met.ofW (cc := cX0_countFull) (maxL := 3) (ret := (some .int)) (by decide) rfl ?_
  intro p e s m args below meth c s₁ B hml hv
  obtain ⟨rfl, hsz, hP, hK, hD0⟩ := hv
  have hx := B.exec
  have hb := B.bytes
  have hr := B.returns
  have hts := atoms_spec (ws := wsX0_countFull) B.pre
  have hown : s.vm.findClass RX0 = some m.cls := findClass_of_methodNamed B.named
  have hlocks := B.notSynchronized
  subst hsz
  have hD := hD0.self (sz := s.heap.size)
  generalize hAe : va_A (wC n a ca u) s.heap.size = A at hD ⊢
  have hA : ∀ q : Nat, s.heap.size ≤ q → A q := fun q h => by rw [← hAe]; exact Or.inr h
  obtain ⟨H, hH, hP, hS⟩ : ∃ H, H = s.heap ∧ va_P (dC, dI) vwCl (wC n a ca u) H ∧ va_S A s.heap H [] := ⟨_, rfl, hP, va_S.rf⟩
  have hin9 : ∀ w ∈ u_ws RX0 TX0 13, w ∈ wsX0_countFull := fun w h => List.mem_cons_of_mem _ (hinX0 w h)
  rw [← hH]
  have hl := lv_entry ([.ref (a 0)]) (n := 3) (Nat.le_of_ble_eq_true rfl)
  rw [lg_entry_eq]
  generalize (lg_sl ([.ref (a 0)]) ++ List.replicate (3 - (lg_sl ([.ref (a 0)])).length) Slot.unset).toArray = ls at hl ⊢
  have hl : lv_has ls 3 [(0, .ref (a 0))] := hl
  refine lv_iconst (v := 0) hx hb dX0_countFull_0 (by decide) ?_
  refine lv_istore_n hx hb dX0_countFull_1 rfl hl (by decide) rfl (fun ls hl => ?_)
  have hl : lv_has ls 3 [(1, .int 0), (0, .ref (a 0))] := hl
  refine lv_iconst (v := 0) hx hb dX0_countFull_2 (by decide) ?_
  refine lv_istore_n hx hb dX0_countFull_3 rfl hl (by decide) rfl (fun ls hl => ?_)
  have hl : lv_has ls 3 [(2, .int 0), (1, .int 0), (0, .ref (a 0))] := hl
  refine zr_loop (fun r (x0 : Nat × Int32) ls H locs => r + x0.1 = n ∧ fc_full (cs_k u) r x0.1 x0.2 = fc_full (cs_k u) n 0 0 ∧ lv_has ls 3 [(0, .ref (a 0)), (1, .int x0.2), (2, .int (nI x0.1))] ∧ va_P (dC, dI) vwCl (wC n a ca u) H ∧ va_D A (wC n a ca u) ∧ va_S A s.heap H locs) (fun ls => F0 m 4 ls []) ?_ n (0, 0) _ _ _ ⟨by omega, rfl, lv_sub hl [2, 1, 0] rfl, hP, hD, hS⟩
  rintro r ⟨k, q⟩ ls H locs ih ⟨hrk, hinv, hl, hP, hD, hS⟩
  have hrk : r + k = n := hrk
  have hinv : fc_full (cs_k u) r k q = fc_full (cs_k u) n 0 0 := hinv
  have hl : lv_has ls 3 [(0, .ref (a 0)), (1, .int q), (2, .int (nI k))] := hl
  have hP : va_P (dC, dI) vwCl (wC n a ca u) H := hP
  have hD : va_D A (wC n a ca u) := hD
  refine lv_iload_n hx hb dX0_countFull_4 rfl (lv_at hl 2 rfl) ?_
  refine lv_aload_n hx hb dX0_countFull_5 rfl (lv_at hl 0 rfl) ?_
  refine va_get (D := (dC, dI)) (ci := 0) (v := .int (nI n)) (C := RX0) (T := TX0) (N := 13) hx hb hts hin9 hown hK hP 0 rfl rfl 0 (by decide) (hts _ (List.mem_cons_of_mem _ mf_X0_9)) (fun _ h9 => h9) rfl dX0_countFull_6 ?_
  refine lv_icmp_ge hx hb dX0_countFull_9 (tgt := 31) rfl (fun h1 => ?_) (fun h1 => ?_)
  · have h1 := zr_ge (by omega) (by omega) h1
    obtain rfl : r = 0 := by omega
    refine lv_iload_n hx hb dX0_countFull_31 rfl (lv_at hl 1 rfl) ?_
    exact W.iret (v := q) hx hb hr (fun t ht hW => ⟨⟨q, u, rfl, ⟨(by first | rfl | (rw [← hinv] <;> rfl) | (rw [← hinv]; simp only [fc_full] <;> rfl) | (simp only [fc_full]; rw [← hinv] <;> rfl) | (simp only [fc_full]; rw [← hinv]; simp only [fc_full] <;> rfl) | (simp only [fc_full] <;> rfl)), (by first | rfl | (rw [← hinv] <;> rfl) | (rw [← hinv]; simp only [fc_full] <;> rfl) | (simp only [fc_full]; rw [← hinv] <;> rfl) | (simp only [fc_full]; rw [← hinv]; simp only [fc_full] <;> rfl) | (simp only [fc_full] <;> rfl))⟩, ⟨by rw [ht]; exact hP, va_K.moved hW.alike hK, hD⟩⟩, hS.F ht⟩) hS.2.2 dX0_countFull_32
  · have h1 := zr_lt (by omega) (by omega) h1
    obtain ⟨r', rfl⟩ : ∃ z, r = z + 1 := ⟨r - 1, by omega⟩
    refine lv_aload_n hx hb dX0_countFull_12 rfl (lv_at hl 0 rfl) ?_
    refine va_get (D := (dC, dI)) (ci := 0) (v := .ref (a 3)) (C := RX0) (T := TX0) (N := 13) hx hb hts hin9 hown hK hP 0 rfl rfl 3 (by decide) (hts _ (List.mem_cons_of_mem _ mf_X0_20)) (fun _ h9 => h9) rfl dX0_countFull_13 ?_
    refine lv_iload_n hx hb dX0_countFull_16 rfl (lv_at hl 2 rfl) ?_
    refine zr_iald (k := k) hx hb hK hP 3 2 rfl rfl (by omega) (by omega) dX0_countFull_17 ?_
    refine lv_iconst (v := (-1)) hx hb dX0_countFull_18 (by decide) ?_
    refine lv_icmp_eq hx hb dX0_countFull_19 (tgt := 25) rfl (fun h2 => ?_) (fun h2 => ?_)
    · refine lv_iinc (k := 2) (v := nI (k + 1)) hx hb dX0_countFull_25 hl rfl (zr_incN k) (by decide) rfl (fun ls hl => ?_)
      have hl : lv_has ls 3 [(2, .int (nI (k + 1))), (0, .ref (a 0)), (1, .int q)] := hl
      refine lv_goto hx hb dX0_countFull_28 (tgt := 4) rfl ?_
      exact ih r' (k + 1, q) _ _ _ (by omega) ⟨by omega, (by rw [← hinv]; first | rfl | (simp only [fc_full, if_pos h2] <;> rfl)), lv_sub hl [1, 2, 0] rfl, hP, hD, hS⟩
    · refine lv_iinc (k := 1) (v := (q + 1)) hx hb dX0_countFull_22 hl rfl (zr_inc1 q) (by decide) rfl (fun ls hl => ?_)
      have hl : lv_has ls 3 [(1, .int (q + 1)), (0, .ref (a 0)), (2, .int (nI k))] := hl
      refine lv_iinc (k := 2) (v := nI (k + 1)) hx hb dX0_countFull_25 hl rfl (zr_incN k) (by decide) rfl (fun ls hl => ?_)
      have hl : lv_has ls 3 [(2, .int (nI (k + 1))), (1, .int (q + 1)), (0, .ref (a 0))] := hl
      refine lv_goto hx hb dX0_countFull_28 (tgt := 4) rfl ?_
      exact ih r' (k + 1, (q + 1)) _ _ _ (by omega) ⟨by omega, (by rw [← hinv]; first | rfl | (simp only [fc_full, if_neg h2] <;> rfl)), lv_sub hl [2, 1, 0] rfl, hP, hD, hS⟩
set_option maxHeartbeats 4000000 in
set_option maxRecDepth 100000 in
theorem c_C_countDirty (l : Launch) (dC : Nat → ClassId) (dI : Nat → Nat → Nat) (n : Nat) (a : Nat → Nat) (ca : Nat → ClassId) (u : StC) (sz : Nat) (hn : n ≤ 12) : Met l yX0_countDirty wsX0_countDirty ({ frames := 1, cells := 0, slots := 0, locals := 20 }) (va_Pc [.ref (a 0)] (zr_P (dC, dI) vwCl (tC ca) (wC n a ca u) sz)) (va_Qi (fun r u' => r = fc_cdty (cs_k u) n 0 0 ∧ u' = u) (fun u' => zr_B (dC, dI) vwCl (tC ca) (va_A (wC n a ca u) sz) (wC n a ca u')) (va_A (wC n a ca u) sz)) 0 0 (va_A (wC n a ca u) sz) := by
  refine Met.ofW (cc := cX0_countDirty) (maxL := 3) (ret := (some .int)) (by decide) rfl ?_
  intro p e s m args below meth c s₁ B hml hv
  obtain ⟨rfl, hsz, hP, hK, hD0⟩ := hv
  have hx := B.exec
  have hb := B.bytes
  have hr := B.returns
  have hts := atoms_spec (ws := wsX0_countDirty) B.pre
  have hown : s.vm.findClass RX0 = some m.cls := findClass_of_methodNamed B.named
  have hlocks := B.notSynchronized
  subst hsz
  have hD := hD0.self (sz := s.heap.size)
  generalize hAe : va_A (wC n a ca u) s.heap.size = A at hD ⊢
  have hA : ∀ q : Nat, s.heap.size ≤ q → A q := fun q h => by rw [← hAe]; exact Or.inr h
  obtain ⟨H, hH, hP, hS⟩ : ∃ H, H = s.heap ∧ va_P (dC, dI) vwCl (wC n a ca u) H ∧ va_S A s.heap H [] := ⟨_, rfl, hP, va_S.rf⟩
  have hin9 : ∀ w ∈ u_ws RX0 TX0 13, w ∈ wsX0_countDirty := fun w h => List.mem_cons_of_mem _ (hinX0 w h)
  rw [← hH]
  have hl := lv_entry ([.ref (a 0)]) (n := 3) (Nat.le_of_ble_eq_true rfl)
  rw [lg_entry_eq]
  generalize (lg_sl ([.ref (a 0)]) ++ List.replicate (3 - (lg_sl ([.ref (a 0)])).length) Slot.unset).toArray = ls at hl ⊢
  have hl : lv_has ls 3 [(0, .ref (a 0))] := hl
  refine lv_iconst (v := 0) hx hb dX0_countDirty_0 (by decide) ?_
  refine lv_istore_n hx hb dX0_countDirty_1 rfl hl (by decide) rfl (fun ls hl => ?_)
  have hl : lv_has ls 3 [(1, .int 0), (0, .ref (a 0))] := hl
  refine lv_iconst (v := 0) hx hb dX0_countDirty_2 (by decide) ?_
  refine lv_istore_n hx hb dX0_countDirty_3 rfl hl (by decide) rfl (fun ls hl => ?_)
  have hl : lv_has ls 3 [(2, .int 0), (1, .int 0), (0, .ref (a 0))] := hl
  refine zr_loop (fun r (x0 : Nat × Int32) ls H locs => r + x0.1 = n ∧ fc_cdty (cs_k u) r x0.1 x0.2 = fc_cdty (cs_k u) n 0 0 ∧ lv_has ls 3 [(0, .ref (a 0)), (1, .int x0.2), (2, .int (nI x0.1))] ∧ va_P (dC, dI) vwCl (wC n a ca u) H ∧ va_D A (wC n a ca u) ∧ va_S A s.heap H locs) (fun ls => F0 m 4 ls []) ?_ n (0, 0) _ _ _ ⟨by omega, rfl, lv_sub hl [2, 1, 0] rfl, hP, hD, hS⟩
  rintro r ⟨k, q⟩ ls H locs ih ⟨hrk, hinv, hl, hP, hD, hS⟩
  have hrk : r + k = n := hrk
  have hinv : fc_cdty (cs_k u) r k q = fc_cdty (cs_k u) n 0 0 := hinv
  have hl : lv_has ls 3 [(0, .ref (a 0)), (1, .int q), (2, .int (nI k))] := hl
  have hP : va_P (dC, dI) vwCl (wC n a ca u) H := hP
  have hD : va_D A (wC n a ca u) := hD
  refine lv_iload_n hx hb dX0_countDirty_4 rfl (lv_at hl 2 rfl) ?_
  refine lv_aload_n hx hb dX0_countDirty_5 rfl (lv_at hl 0 rfl) ?_
  refine va_get (D := (dC, dI)) (ci := 0) (v := .int (nI n)) (C := RX0) (T := TX0) (N := 13) hx hb hts hin9 hown hK hP 0 rfl rfl 0 (by decide) (hts _ (List.mem_cons_of_mem _ mf_X0_9)) (fun _ h9 => h9) rfl dX0_countDirty_6 ?_
  refine lv_icmp_ge hx hb dX0_countDirty_9 (tgt := 33) rfl (fun h1 => ?_) (fun h1 => ?_)
  · have h1 := zr_ge (by omega) (by omega) h1
    obtain rfl : r = 0 := by omega
    refine lv_iload_n hx hb dX0_countDirty_33 rfl (lv_at hl 1 rfl) ?_
    exact W.iret (v := q) hx hb hr (fun t ht hW => ⟨⟨q, u, rfl, ⟨(by first | rfl | (rw [← hinv] <;> rfl) | (rw [← hinv]; simp only [fc_cdty] <;> rfl) | (simp only [fc_cdty]; rw [← hinv] <;> rfl) | (simp only [fc_cdty]; rw [← hinv]; simp only [fc_cdty] <;> rfl) | (simp only [fc_cdty] <;> rfl)), (by first | rfl | (rw [← hinv] <;> rfl) | (rw [← hinv]; simp only [fc_cdty] <;> rfl) | (simp only [fc_cdty]; rw [← hinv] <;> rfl) | (simp only [fc_cdty]; rw [← hinv]; simp only [fc_cdty] <;> rfl) | (simp only [fc_cdty] <;> rfl))⟩, ⟨by rw [ht]; exact hP, va_K.moved hW.alike hK, hD⟩⟩, hS.F ht⟩) hS.2.2 dX0_countDirty_34
  · have h1 := zr_lt (by omega) (by omega) h1
    obtain ⟨r', rfl⟩ : ∃ z, r = z + 1 := ⟨r - 1, by omega⟩
    refine lv_aload_n hx hb dX0_countDirty_12 rfl (lv_at hl 0 rfl) ?_
    refine va_get (D := (dC, dI)) (ci := 0) (v := .ref (a 3)) (C := RX0) (T := TX0) (N := 13) hx hb hts hin9 hown hK hP 0 rfl rfl 3 (by decide) (hts _ (List.mem_cons_of_mem _ mf_X0_20)) (fun _ h9 => h9) rfl dX0_countDirty_13 ?_
    refine lv_iload_n hx hb dX0_countDirty_16 rfl (lv_at hl 2 rfl) ?_
    refine zr_iald (k := k) hx hb hK hP 3 2 rfl rfl (by omega) (by omega) dX0_countDirty_17 ?_
    refine zr_Si (v := (fc_isd (cs_k u k))) (As := [.int (cs_k u k)]) (rest := []) ⟨hx, hb, hml, hown, hts⟩ (c_C_isDirty l H.size (cs_k u k)) (va_cwS 1 hts gX0_countDirty_X0_isDirty rfl rfl rfl (by decide +kernel) ⟨Nat.le_of_ble_eq_true rfl, Nat.le_of_ble_eq_true rfl⟩) hP hS hA rfl hl.1 rfl (Nat.le_of_ble_eq_true rfl) dX0_countDirty_18 (fun H locs hP hS => ?_) ⟨Nat.le_of_ble_eq_true rfl, Nat.le_of_ble_eq_true rfl⟩
    refine lv_if_eq hx hb dX0_countDirty_21 (tgt := 27) rfl (fun h2 => ?_) (fun h2 => ?_)
    · refine lv_iinc (k := 2) (v := nI (k + 1)) hx hb dX0_countDirty_27 hl rfl (zr_incN k) (by decide) rfl (fun ls hl => ?_)
      have hl : lv_has ls 3 [(2, .int (nI (k + 1))), (0, .ref (a 0)), (1, .int q)] := hl
      refine lv_goto hx hb dX0_countDirty_30 (tgt := 4) rfl ?_
      exact ih r' (k + 1, q) _ _ _ (by omega) ⟨by omega, (by rw [← hinv]; first | rfl | (simp only [fc_cdty, if_pos h2] <;> rfl)), lv_sub hl [1, 2, 0] rfl, hP, hD, hS⟩
    · refine lv_iinc (k := 1) (v := (q + 1)) hx hb dX0_countDirty_24 hl rfl (zr_inc1 q) (by decide) rfl (fun ls hl => ?_)
      have hl : lv_has ls 3 [(1, .int (q + 1)), (0, .ref (a 0)), (2, .int (nI k))] := hl
      refine lv_iinc (k := 2) (v := nI (k + 1)) hx hb dX0_countDirty_27 hl rfl (zr_incN k) (by decide) rfl (fun ls hl => ?_)
      have hl : lv_has ls 3 [(2, .int (nI (k + 1))), (1, .int (q + 1)), (0, .ref (a 0))] := hl
      refine lv_goto hx hb dX0_countDirty_30 (tgt := 4) rfl ?_
      exact ih r' (k + 1, (q + 1)) _ _ _ (by omega) ⟨by omega, (by rw [← hinv]; first | rfl | (simp only [fc_cdty, if_neg h2] <;> rfl)), lv_sub hl [2, 1, 0] rfl, hP, hD, hS⟩
set_option maxHeartbeats 4000000 in
set_option maxRecDepth 100000 in
theorem c_C_check (l : Launch) (dC : Nat → ClassId) (dI : Nat → Nat → Nat) (n : Nat) (a : Nat → Nat) (ca : Nat → ClassId) (u : StC) (sz : Nat) (hn : n ≤ 12) : Met l yX0_check wsX0_check ({ frames := 1, cells := 0, slots := 0, locals := 21 }) (va_Pc [.ref (a 0)] (zr_P (dC, dI) vwCl (tC ca) (wC n a ca u) sz)) (va_Qi (fun r u' => r = (fc_check n 0 0 u).1 ∧ u' = (fc_check n 0 0 u).2) (fun u' => zr_B (dC, dI) vwCl (tC ca) (va_A (wC n a ca u) sz) (wC n a ca u')) (va_A (wC n a ca u) sz)) 0 0 (va_A (wC n a ca u) sz) := by
  refine Met.ofW (cc := cX0_check) (maxL := 3) (ret := (some .int)) (by decide) rfl ?_
  intro p e s m args below meth c s₁ B hml hv
  obtain ⟨rfl, hsz, hP, hK, hD0⟩ := hv
  have hx := B.exec
  have hb := B.bytes
  have hr := B.returns
  have hts := atoms_spec (ws := wsX0_check) B.pre
  have hown : s.vm.findClass RX0 = some m.cls := findClass_of_methodNamed B.named
  have hlocks := B.notSynchronized
  subst hsz
  have hD := hD0.self (sz := s.heap.size)
  generalize hAe : va_A (wC n a ca u) s.heap.size = A at hD ⊢
  have hA : ∀ q : Nat, s.heap.size ≤ q → A q := fun q h => by rw [← hAe]; exact Or.inr h
  obtain ⟨H, hH, hP, hS⟩ : ∃ H, H = s.heap ∧ va_P (dC, dI) vwCl (wC n a ca u) H ∧ va_S A s.heap H [] := ⟨_, rfl, hP, va_S.rf⟩
  have hin9 : ∀ w ∈ u_ws RX0 TX0 13, w ∈ wsX0_check := fun w h => List.mem_cons_of_mem _ (hinX0 w h)
  rw [← hH]
  have hl := lv_entry ([.ref (a 0)]) (n := 3) (Nat.le_of_ble_eq_true rfl)
  rw [lg_entry_eq]
  generalize (lg_sl ([.ref (a 0)]) ++ List.replicate (3 - (lg_sl ([.ref (a 0)])).length) Slot.unset).toArray = ls at hl ⊢
  have hl : lv_has ls 3 [(0, .ref (a 0))] := hl
  refine lv_iconst (v := 0) hx hb dX0_check_0 (by decide) ?_
  refine lv_istore_n hx hb dX0_check_1 rfl hl (by decide) rfl (fun ls hl => ?_)
  have hl : lv_has ls 3 [(1, .int 0), (0, .ref (a 0))] := hl
  refine lv_iconst (v := 0) hx hb dX0_check_2 (by decide) ?_
  refine lv_istore_n hx hb dX0_check_3 rfl hl (by decide) rfl (fun ls hl => ?_)
  have hl : lv_has ls 3 [(2, .int 0), (1, .int 0), (0, .ref (a 0))] := hl
  refine zr_loop (fun r (x0 : Nat × Int32 × StC) ls H locs => r + x0.1 = n ∧ fc_check r x0.1 x0.2.1 x0.2.2 = fc_check n 0 0 u ∧ lv_has ls 3 [(0, .ref (a 0)), (1, .int x0.2.1), (2, .int (nI x0.1))] ∧ va_P (dC, dI) vwCl (wC n a ca x0.2.2) H ∧ va_D A (wC n a ca x0.2.2) ∧ va_S A s.heap H locs) (fun ls => F0 m 4 ls []) ?_ n (0, 0, u) _ _ _ ⟨by omega, rfl, lv_sub hl [2, 1, 0] rfl, hP, hD, hS⟩
  rintro r ⟨k, q, w⟩ ls H locs ih ⟨hrk, hinv, hl, hP, hD, hS⟩
  have hrk : r + k = n := hrk
  have hinv : fc_check r k q w = fc_check n 0 0 u := hinv
  have hl : lv_has ls 3 [(0, .ref (a 0)), (1, .int q), (2, .int (nI k))] := hl
  have hP : va_P (dC, dI) vwCl (wC n a ca w) H := hP
  have hD : va_D A (wC n a ca w) := hD
  refine lv_iload_n hx hb dX0_check_4 rfl (lv_at hl 2 rfl) ?_
  refine lv_aload_n hx hb dX0_check_5 rfl (lv_at hl 0 rfl) ?_
  refine va_get (D := (dC, dI)) (ci := 0) (v := .int (nI n)) (C := RX0) (T := TX0) (N := 13) hx hb hts hin9 hown hK hP 0 rfl rfl 0 (by decide) (hts _ (List.mem_cons_of_mem _ mf_X0_9)) (fun _ h9 => h9) rfl dX0_check_6 ?_
  refine lv_icmp_ge hx hb dX0_check_9 (tgt := 41) rfl (fun h1 => ?_) (fun h1 => ?_)
  · have h1 := zr_ge (by omega) (by omega) h1
    obtain rfl : r = 0 := by omega
    refine lv_iload_n hx hb dX0_check_41 rfl (lv_at hl 1 rfl) ?_
    exact W.iret (v := q) hx hb hr (fun t ht hW => ⟨⟨q, w, rfl, ⟨(by first | rfl | (rw [← hinv] <;> rfl) | (rw [← hinv]; simp only [fc_check] <;> rfl) | (simp only [fc_check]; rw [← hinv] <;> rfl) | (simp only [fc_check]; rw [← hinv]; simp only [fc_check] <;> rfl) | (simp only [fc_check] <;> rfl)), (by first | rfl | (rw [← hinv] <;> rfl) | (rw [← hinv]; simp only [fc_check] <;> rfl) | (simp only [fc_check]; rw [← hinv] <;> rfl) | (simp only [fc_check]; rw [← hinv]; simp only [fc_check] <;> rfl) | (simp only [fc_check] <;> rfl))⟩, ⟨by rw [ht]; exact hP, va_K.moved hW.alike hK, hD⟩⟩, hS.F ht⟩) hS.2.2 dX0_check_42
  · have h1 := zr_lt (by omega) (by omega) h1
    obtain ⟨r', rfl⟩ : ∃ z, r = z + 1 := ⟨r - 1, by omega⟩
    refine lv_aload_n hx hb dX0_check_12 rfl (lv_at hl 0 rfl) ?_
    refine va_get (D := (dC, dI)) (ci := 0) (v := .ref (a 4)) (C := RX0) (T := TX0) (N := 13) hx hb hts hin9 hown hK hP 0 rfl rfl 4 (by decide) (hts _ (List.mem_cons_of_mem _ mf_X0_24)) (fun _ h9 => h9) rfl dX0_check_13 ?_
    refine lv_iload_n hx hb dX0_check_16 rfl (lv_at hl 2 rfl) ?_
    refine zr_iald (k := k) hx hb hK hP 4 3 rfl rfl (by omega) (by omega) dX0_check_17 ?_
    refine lv_aload_n hx hb dX0_check_18 rfl (lv_at hl 0 rfl) ?_
    refine va_get (D := (dC, dI)) (ci := 0) (v := .ref (a 3)) (C := RX0) (T := TX0) (N := 13) hx hb hts hin9 hown hK hP 0 rfl rfl 3 (by decide) (hts _ (List.mem_cons_of_mem _ mf_X0_20)) (fun _ h9 => h9) rfl dX0_check_19 ?_
    refine lv_iload_n hx hb dX0_check_22 rfl (lv_at hl 2 rfl) ?_
    refine zr_iald (k := k) hx hb hK hP 3 2 rfl rfl (by omega) (by omega) dX0_check_23 ?_
    refine lv_icmp_eq hx hb dX0_check_24 (tgt := 35) rfl (fun h2 => ?_) (fun h2 => ?_)
    · refine lv_iinc (k := 2) (v := nI (k + 1)) hx hb dX0_check_35 hl rfl (zr_incN k) (by decide) rfl (fun ls hl => ?_)
      have hl : lv_has ls 3 [(2, .int (nI (k + 1))), (0, .ref (a 0)), (1, .int q)] := hl
      refine lv_goto hx hb dX0_check_38 (tgt := 4) rfl ?_
      exact ih r' (k + 1, q, w) _ _ _ (by omega) ⟨by omega, (by rw [← hinv]; first | rfl | (simp only [fc_check, if_pos h2] <;> rfl)), lv_sub hl [1, 2, 0] rfl, hP, hD, hS⟩
    · refine lv_aload_n hx hb dX0_check_27 rfl (lv_at hl 0 rfl) ?_
      refine lv_iload_n hx hb dX0_check_28 rfl (lv_at hl 2 rfl) ?_
      refine zr_Vv (w := fun z => wC n a ca z) (u := w) (u1 := fc_note w k) (As := [.int (nI k)]) (rest := []) ⟨hx, hb, hml, hown, hts⟩ (c_C_noteSlot l dC dI n a ca w H.size k hn (by omega)) (cwV 1 hts gX0_check_X0_noteSlot rfl rfl rfl (by decide +kernel) ⟨Nat.le_of_ble_eq_true rfl, Nat.le_of_ble_eq_true rfl⟩) hK hP hD hS hA (va_recv (q0 := 0) (ci := 0) (q := (RX0, TX0, 13)) hK hP rfl rfl) rfl hl.1 rfl (Nat.le_of_ble_eq_true rfl) dX0_check_29 (fun H locs hP hD hS => ?_) ⟨Nat.le_of_ble_eq_true rfl, Nat.le_of_ble_eq_true rfl⟩
      have hP : va_P (dC, dI) vwCl (wC n a ca (fc_note w k)) H := hP
      have hD : va_D A (wC n a ca (fc_note w k)) := hD
      refine lv_iinc (k := 1) (v := (q + 1)) hx hb dX0_check_32 hl rfl (zr_inc1 q) (by decide) rfl (fun ls hl => ?_)
      have hl : lv_has ls 3 [(1, .int (q + 1)), (0, .ref (a 0)), (2, .int (nI k))] := hl
      refine lv_iinc (k := 2) (v := nI (k + 1)) hx hb dX0_check_35 hl rfl (zr_incN k) (by decide) rfl (fun ls hl => ?_)
      have hl : lv_has ls 3 [(2, .int (nI (k + 1))), (1, .int (q + 1)), (0, .ref (a 0))] := hl
      refine lv_goto hx hb dX0_check_38 (tgt := 4) rfl ?_
      exact ih r' (k + 1, (q + 1), fc_note w k) _ _ _ (by omega) ⟨by omega, (by rw [← hinv]; first | rfl | (simp only [fc_check, if_neg h2] <;> rfl)), lv_sub hl [2, 1, 0] rfl, hP, hD, hS⟩
set_option maxHeartbeats 4000000 in
set_option maxRecDepth 100000 in
theorem c_C_crash (l : Launch) (dC : Nat → ClassId) (dI : Nat → Nat → Nat) (n : Nat) (a : Nat → Nat) (ca : Nat → ClassId) (u : StC) (sz : Nat) (hn : n ≤ 12) : Met l yX0_crash wsX0_crash ({ frames := 1, cells := 0, slots := 0, locals := 22 }) (va_Pc [.ref (a 0)] (zr_P (dC, dI) vwCl (tC ca) (wC n a ca u) sz)) (va_Qi (fun r u' => r = (fc_crash n u).1 ∧ u' = (fc_crash n u).2) (fun u' => zr_B (dC, dI) vwCl (tC ca) (va_A (wC n a ca u) sz) (wC n a ca u')) (va_A (wC n a ca u) sz)) 0 0 (va_A (wC n a ca u) sz) := by
  refine Met.ofW (cc := cX0_crash) (maxL := 1) (ret := (some .int)) (by decide) rfl ?_
  intro p e s m args below meth c s₁ B hml hv
  obtain ⟨rfl, hsz, hP, hK, hD0⟩ := hv
  have hx := B.exec
  have hb := B.bytes
  have hr := B.returns
  have hts := atoms_spec (ws := wsX0_crash) B.pre
  have hown : s.vm.findClass RX0 = some m.cls := findClass_of_methodNamed B.named
  have hlocks := B.notSynchronized
  subst hsz
  have hD := hD0.self (sz := s.heap.size)
  generalize hAe : va_A (wC n a ca u) s.heap.size = A at hD ⊢
  have hA : ∀ q : Nat, s.heap.size ≤ q → A q := fun q h => by rw [← hAe]; exact Or.inr h
  obtain ⟨H, hH, hP, hS⟩ : ∃ H, H = s.heap ∧ va_P (dC, dI) vwCl (wC n a ca u) H ∧ va_S A s.heap H [] := ⟨_, rfl, hP, va_S.rf⟩
  rw [← hH]
  have hl := lv_entry ([.ref (a 0)]) (n := 1) (Nat.le_of_ble_eq_true rfl)
  rw [lg_entry_eq]
  generalize (lg_sl ([.ref (a 0)]) ++ List.replicate (1 - (lg_sl ([.ref (a 0)])).length) Slot.unset).toArray = ls at hl ⊢
  have hl : lv_has ls 1 [(0, .ref (a 0))] := hl
  refine lv_aload_n hx hb dX0_crash_0 rfl (lv_at hl 0 rfl) ?_
  refine zr_Vv (w := fun z => wC n a ca z) (u := u) (u1 := fc_stop n u) (As := []) (rest := []) ⟨hx, hb, hml, hown, hts⟩ (c_C_stopMachine l dC dI n a ca u H.size hn) (cwV 0 hts gX0_crash_X0_stopMachine rfl rfl rfl (by decide +kernel) ⟨Nat.le_of_ble_eq_true rfl, Nat.le_of_ble_eq_true rfl⟩) hK hP hD hS hA (va_recv (q0 := 0) (ci := 0) (q := (RX0, TX0, 13)) hK hP rfl rfl) rfl hl.1 rfl (Nat.le_of_ble_eq_true rfl) dX0_crash_1 (fun H locs hP hD hS => ?_) ⟨Nat.le_of_ble_eq_true rfl, Nat.le_of_ble_eq_true rfl⟩
  have hP : va_P (dC, dI) vwCl (wC n a ca (fc_stop n u)) H := hP
  have hD : va_D A (wC n a ca (fc_stop n u)) := hD
  refine lv_aload_n hx hb dX0_crash_4 rfl (lv_at hl 0 rfl) ?_
  refine zr_Vi (w := fun z => wC n a ca z) (u := (fc_stop n u)) (u1 := (fc_stop n u)) (v := fc_full (cs_k (fc_stop n u)) n 0 0) (As := []) (rest := []) ⟨hx, hb, hml, hown, hts⟩ (c_C_countFull l dC dI n a ca (fc_stop n u) H.size hn) (cwV 0 hts gX0_crash_X0_countFull rfl rfl rfl (by decide +kernel) ⟨Nat.le_of_ble_eq_true rfl, Nat.le_of_ble_eq_true rfl⟩) hK hP hD hS hA (va_recv (q0 := 0) (ci := 0) (q := (RX0, TX0, 13)) hK hP rfl rfl) rfl hl.1 rfl (Nat.le_of_ble_eq_true rfl) dX0_crash_5 (fun H locs hP hD hS => ?_) ⟨Nat.le_of_ble_eq_true rfl, Nat.le_of_ble_eq_true rfl⟩
  have hP : va_P (dC, dI) vwCl (wC n a ca (fc_stop n u)) H := hP
  have hD : va_D A (wC n a ca (fc_stop n u)) := hD
  exact W.iret (v := fc_full (cs_k (fc_stop n u)) n 0 0) hx hb hr (fun t ht hW => ⟨⟨fc_full (cs_k (fc_stop n u)) n 0 0, fc_stop n u, rfl, ⟨(by first | rfl | (simp only [fc_crash] <;> rfl)), (by first | rfl | (simp only [fc_crash] <;> rfl))⟩, ⟨by rw [ht]; exact hP, va_K.moved hW.alike hK, hD⟩⟩, hS.F ht⟩) hS.2.2 dX0_crash_8
