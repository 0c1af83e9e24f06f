set_option maxHeartbeats 4000000 in
set_option maxRecDepth 100000 in
theorem c_J_fill (l : Launch) (dC : Nat → ClassId) (dI : Nat → Nat → Nat) (q : Nat) (cA : ClassId) (n : Nat) (u : (Nat → Int32)) (sz : Nat) (x : Int32) (hn : n ≤ 64) : Met l yJ7_fill wsJ7_fill ({ frames := 0, cells := 0, slots := 0, locals := 0 }) (va_Pc [.ref q, .int x] (zr_P (dC, dI) vwCl (tF cA) (wF q cA n u) sz)) (va_Qv (fun u' => u' = fc_fil x n 0 u) (fun u' => zr_B (dC, dI) vwCl (tF cA) (va_A (wF q cA n u) sz) (wF q cA n u')) (va_A (wF q cA n u) sz)) 0 0 (va_A (wF q cA n u) sz) := by
  refine Met.ofW (cc := cJ7_fill) (maxL := 4) (ret := none) (by decide) rfl ?_
  intro p e s m args below meth c s₁ B hml hv
  obtain ⟨rfl, hsz, hP, hK, hD0⟩ := hv
  have hx := B.exec
  have hb := B.bytes
  have hr := B.returns
  have hts := atoms_spec (ws := wsJ7_fill) B.pre
  have hown : s.vm.findClass RJ7 = some m.cls := findClass_of_methodNamed B.named
  have hlocks := B.notSynchronized
  subst hsz
  have hD := hD0.self (sz := s.heap.size)
  generalize hAe : va_A (wF q cA n u) s.heap.size = A at hD ⊢
  have hA : ∀ q : Nat, s.heap.size ≤ q → A q := fun q h => by rw [← hAe]; exact Or.inr h
  obtain ⟨H, hH, hP, hS⟩ : ∃ H, H = s.heap ∧ va_P (dC, dI) vwCl (wF q cA n u) H ∧ va_S A s.heap H [] := ⟨_, rfl, hP, va_S.rf⟩
  rw [← hH]
  have hl := lv_entry ([.ref q, .int x]) (n := 4) (Nat.le_of_ble_eq_true rfl)
  rw [lg_entry_eq]
  generalize (lg_sl ([.ref q, .int x]) ++ List.replicate (4 - (lg_sl ([.ref q, .int x])).length) Slot.unset).toArray = ls at hl ⊢
  have hl : lv_has ls 4 [(0, .ref q), (1, .int x)] := hl
  refine lv_iconst (v := 0) hx hb dJ7_fill_0 (by decide) ?_
  refine lv_istore_n hx hb dJ7_fill_1 rfl hl (by decide) rfl (fun ls hl => ?_)
  have hl : lv_has ls 4 [(2, .int 0), (0, .ref q), (1, .int x)] := hl
  refine lv_aload_n hx hb dJ7_fill_2 rfl (lv_at hl 1 rfl) ?_
  refine va_alen (v := nI n) hx hb hK hP 0 0 rfl rfl rfl dJ7_fill_3 ?_
  refine lv_istore_n hx hb dJ7_fill_4 rfl hl (by decide) rfl (fun ls hl => ?_)
  have hl : lv_has ls 4 [(3, .int (nI n)), (2, .int 0), (0, .ref q), (1, .int x)] := hl
  refine zr_loop (fun r (x0 : Nat × (Nat → Int32)) ls H locs => r + x0.1 = n ∧ fc_fil x r x0.1 x0.2 = fc_fil x n 0 u ∧ lv_has ls 4 [(0, .ref q), (1, .int x), (2, .int (nI x0.1)), (3, .int (nI n))] ∧ va_P (dC, dI) vwCl (wF q cA n x0.2) H ∧ va_D A (wF q cA n x0.2) ∧ va_S A s.heap H locs) (fun ls => F0 m 5 ls []) ?_ n (0, u) _ _ _ ⟨by omega, rfl, lv_sub hl [2, 3, 1, 0] rfl, hP, hD, hS⟩
  rintro r ⟨k, w⟩ ls H locs ih ⟨hrk, hinv, hl, hP, hD, hS⟩
  have hrk : r + k = n := hrk
  have hinv : fc_fil x r k w = fc_fil x n 0 u := hinv
  have hl : lv_has ls 4 [(0, .ref q), (1, .int x), (2, .int (nI k)), (3, .int (nI n))] := hl
  have hP : va_P (dC, dI) vwCl (wF q cA n w) H := hP
  have hD : va_D A (wF q cA n w) := hD
  refine lv_iload_n hx hb dJ7_fill_5 rfl (lv_at hl 2 rfl) ?_
  refine lv_iload_n hx hb dJ7_fill_6 rfl (lv_at hl 3 rfl) ?_
  refine lv_icmp_ge hx hb dJ7_fill_7 (tgt := 20) rfl (fun h1 => ?_) (fun h1 => ?_)
  · have h1 := zr_ge (by omega) (by omega) h1
    obtain rfl : r = 0 := by omega
    exact W.vret hx hb hr (fun t ht hW => ⟨⟨w, rfl, (by first | rfl | (rw [← hinv] <;> rfl) | (rw [← hinv]; simp only [fc_fil] <;> rfl) | (simp only [fc_fil]; rw [← hinv] <;> rfl) | (simp only [fc_fil]; rw [← hinv]; simp only [fc_fil] <;> rfl) | (simp only [fc_fil] <;> rfl)), ⟨by rw [ht]; exact hP, va_K.moved hW.alike hK, hD⟩⟩, hS.F ht⟩) hS.2.2 dJ7_fill_20
  · have h1 := zr_lt (by omega) (by omega) h1
    obtain ⟨r', rfl⟩ : ∃ z, r = z + 1 := ⟨r - 1, by omega⟩
    refine lv_aload_n hx hb dJ7_fill_10 rfl (lv_at hl 0 rfl) ?_
    refine lv_iload_n hx hb dJ7_fill_11 rfl (lv_at hl 2 rfl) ?_
    refine lv_iload_n hx hb dJ7_fill_12 rfl (lv_at hl 1 rfl) ?_
    refine zr_iast (k := k) hx hb hK hP hD hS 0 0 rfl rfl (by omega) (by omega) dJ7_fill_13 (fun H locs hP hD hS => ?_)
    have hP : va_P (dC, dI) vwCl (wF q cA n (upd (fs_f w) k x)) H := hP
    have hD : va_D A (wF q cA n (upd (fs_f w) k x)) := hD
    refine lv_iinc (k := 2) (v := nI (k + 1)) hx hb dJ7_fill_14 hl rfl (zr_incN k) (by decide) rfl (fun ls hl => ?_)
    have hl : lv_has ls 4 [(2, .int (nI (k + 1))), (0, .ref q), (1, .int x), (3, .int (nI n))] := hl
    refine lv_goto hx hb dJ7_fill_17 (tgt := 5) rfl ?_
    exact ih r' (k + 1, (upd (fs_f w) k x)) _ _ _ (by omega) ⟨by omega, (by rw [← hinv]; first | rfl | (simp only [fc_fil] <;> rfl)), lv_sub hl [1, 2, 0, 3] rfl, hP, hD, hS⟩
set_option maxHeartbeats 4000000 in
set_option maxRecDepth 100000 in
theorem c_C_lose (l : Launch) (dC : Nat → ClassId) (dI : Nat → Nat → Nat) (n : Nat) (a : Nat → Nat) (ca : Nat → ClassId) (u : StC) (sz : Nat) (hn : n ≤ 12) : Met l yX0_lose wsX0_lose ({ frames := 2, cells := 0, slots := 0, locals := 42 }) (va_Pc [.ref (a 0)] (zr_P (dC, dI) vwCl (tC ca) (wC n a ca u) sz)) (va_Qi (fun r u' => r = (fc_lose n u).1 ∧ u' = (fc_lose n u).2) (fun u' => zr_B (dC, dI) vwCl (tC ca) (va_A (wC n a ca u) sz) (wC n a ca u')) (va_A (wC n a ca u) sz)) 0 0 (va_A (wC n a ca u) sz) := by
  refine Met.ofW (cc := cX0_lose) (maxL := 2) (ret := (some .int)) (by decide) rfl ?_
  intro p e s m args below meth c s₁ B hml hv
  obtain ⟨rfl, hsz, hP, hK, hD0⟩ := hv
  have hx := B.exec
  have hb := B.bytes
  have hr := B.returns
  have hts := atoms_spec (ws := wsX0_lose) B.pre
  have hown : s.vm.findClass RX0 = some m.cls := findClass_of_methodNamed B.named
  have hlocks := B.notSynchronized
  subst hsz
  have hD := hD0.self (sz := s.heap.size)
  generalize hAe : va_A (wC n a ca u) s.heap.size = A at hD ⊢
  have hA : ∀ q : Nat, s.heap.size ≤ q → A q := fun q h => by rw [← hAe]; exact Or.inr h
  obtain ⟨H, hH, hP, hS⟩ : ∃ H, H = s.heap ∧ va_P (dC, dI) vwCl (wC n a ca u) H ∧ va_S A s.heap H [] := ⟨_, rfl, hP, va_S.rf⟩
  have hin9 : ∀ w ∈ u_ws RX0 TX0 13, w ∈ wsX0_lose := fun w h => List.mem_cons_of_mem _ (hinX0 w h)
  rw [← hH]
  have hl := lv_entry ([.ref (a 0)]) (n := 2) (Nat.le_of_ble_eq_true rfl)
  rw [lg_entry_eq]
  generalize (lg_sl ([.ref (a 0)]) ++ List.replicate (2 - (lg_sl ([.ref (a 0)])).length) Slot.unset).toArray = ls at hl ⊢
  have hl : lv_has ls 2 [(0, .ref (a 0))] := hl
  refine lv_aload_n hx hb dX0_lose_0 rfl (lv_at hl 0 rfl) ?_
  refine zr_Vi (w := fun z => wC n a ca z) (u := u) (u1 := u) (v := fc_cdty (cs_k u) n 0 0) (As := []) (rest := []) ⟨hx, hb, hml, hown, hts⟩ (c_C_countDirty l dC dI n a ca u H.size hn) (cwV 0 hts gX0_lose_X0_countDirty rfl rfl rfl (by decide +kernel) ⟨Nat.le_of_ble_eq_true rfl, Nat.le_of_ble_eq_true rfl⟩) hK hP hD hS hA (va_recv (q0 := 0) (ci := 0) (q := (RX0, TX0, 13)) hK hP rfl rfl) rfl hl.1 rfl (Nat.le_of_ble_eq_true rfl) dX0_lose_1 (fun H locs hP hD hS => ?_) ⟨Nat.le_of_ble_eq_true rfl, Nat.le_of_ble_eq_true rfl⟩
  have hP : va_P (dC, dI) vwCl (wC n a ca u) H := hP
  have hD : va_D A (wC n a ca u) := hD
  refine lv_istore_n hx hb dX0_lose_4 rfl hl (by decide) rfl (fun ls hl => ?_)
  have hl : lv_has ls 2 [(1, .int (fc_cdty (cs_k u) n 0 0)), (0, .ref (a 0))] := hl
  refine lv_aload_n hx hb dX0_lose_5 rfl (lv_at hl 1 rfl) ?_
  refine va_get (D := (dC, dI)) (ci := 0) (v := .ref (a 4)) (C := RX0) (T := TX0) (N := 13) hx hb hts hin9 hown hK hP 0 rfl rfl 4 (by decide) (hts _ (List.mem_cons_of_mem _ mf_X0_24)) (fun _ h9 => h9) rfl dX0_lose_6 ?_
  refine lv_iconst (v := (-1)) hx hb dX0_lose_9 (by decide) ?_
  refine zf_v (σ := Nat → Int32) (tys1 := fun _ => tF (ca 4)) (w1 := fun z => wF (a 4) (ca 4) n z) (w0 := (wF (a 4) (ca 4) n (cs_n u))) (wr := [(a 0, .inr (0, [.int (nI n), .ref (a 1), .ref (a 2), .ref (a 3), .ref (a 4), .ref (a 5), .int (cs_u u), .int (cs_m u), .int (cs_h u), .int (cs_i u), .int (cs_j u), .int (cs_w u), .int (cs_t u)])), (a 1, .inl (ca 1, 64, .inr (.inl (cs_o u)))), (a 2, .inl (ca 2, n, .inr (.inl (cs_v u)))), (a 3, .inl (ca 3, n, .inl (cs_k u))), (a 5, .inl (ca 5, n, .inl (cs_l u)))]) (va_runS (As := [.ref (a 4), .int (-1)]) (rest := []) ⟨hx, hb, hml, hown, hts⟩ (c_J_fill l dC dI (a 4) (ca 4) n (cs_n u) H.size (-1) (by omega)) (va_cwS 2 hts gX0_lose_J7_fill rfl rfl rfl (by decide +kernel) ⟨Nat.le_of_ble_eq_true rfl, Nat.le_of_ble_eq_true rfl⟩) ⟨zr_blind, zr_pre (hK.sub (tys' := tF (ca 4)) [3] rfl) (hP.sub (ws' := (wF (a 4) (ca 4) n (cs_n u))) [4] rfl) (hD.sub (ws' := (wF (a 4) (ca 4) n (cs_n u))) [4] (by decide) rfl)⟩ rfl rfl hl.1 rfl (lv_room (Nat.le_of_ble_eq_true rfl)) dX0_lose_10 ⟨Nat.le_of_ble_eq_true rfl, Nat.le_of_ble_eq_true rfl⟩) hP hD hS hA [4] [0, 1, 2, 3, 5] rfl rfl (by decide) (by decide) (fun z H locs hz hP hD _ hS => ?_)
  obtain rfl := hz
  have hP : va_P (dC, dI) vwCl (wC n a ca (cs_o u, cs_v u, cs_k u, fc_fil (-1) n 0 (cs_n u), cs_l u, cs_u u, cs_m u, cs_h u, cs_i u, cs_j u, cs_w u, cs_t u)) H := hP.sub (ws' := (wC n a ca (cs_o u, cs_v u, cs_k u, fc_fil (-1) n 0 (cs_n u), cs_l u, cs_u u, cs_m u, cs_h u, cs_i u, cs_j u, cs_w u, cs_t u))) [0, 1, 2, 3, 5, 4] rfl
  have hD : va_D A (wC n a ca (cs_o u, cs_v u, cs_k u, fc_fil (-1) n 0 (cs_n u), cs_l u, cs_u u, cs_m u, cs_h u, cs_i u, cs_j u, cs_w u, cs_t u)) := hD.sub (ws' := (wC n a ca (cs_o u, cs_v u, cs_k u, fc_fil (-1) n 0 (cs_n u), cs_l u, cs_u u, cs_m u, cs_h u, cs_i u, cs_j u, cs_w u, cs_t u))) [0, 1, 2, 3, 5, 4] (by decide) rfl
  refine lv_aload_n hx hb dX0_lose_13 rfl (lv_at hl 1 rfl) ?_
  refine zr_Vv (w := fun z => wC n a ca z) (u := (cs_o u, cs_v u, cs_k u, fc_fil (-1) n 0 (cs_n u), cs_l u, cs_u u, cs_m u, cs_h u, cs_i u, cs_j u, cs_w u, cs_t u)) (u1 := fc_stop n (cs_o u, cs_v u, cs_k u, fc_fil (-1) n 0 (cs_n u), cs_l u, cs_u u, cs_m u, cs_h u, cs_i u, cs_j u, cs_w u, cs_t u)) (As := []) (rest := []) ⟨hx, hb, hml, hown, hts⟩ (c_C_stopMachine l dC dI n a ca (cs_o u, cs_v u, cs_k u, fc_fil (-1) n 0 (cs_n u), cs_l u, cs_u u, cs_m u, cs_h u, cs_i u, cs_j u, cs_w u, cs_t u) H.size hn) (cwV 0 hts gX0_lose_X0_stopMachine rfl rfl rfl (by decide +kernel) ⟨Nat.le_of_ble_eq_true rfl, Nat.le_of_ble_eq_true rfl⟩) hK hP hD hS hA (va_recv (q0 := 0) (ci := 0) (q := (RX0, TX0, 13)) hK hP rfl rfl) rfl hl.1 rfl (Nat.le_of_ble_eq_true rfl) dX0_lose_14 (fun H locs hP hD hS => ?_) ⟨Nat.le_of_ble_eq_true rfl, Nat.le_of_ble_eq_true rfl⟩
  have hP : va_P (dC, dI) vwCl (wC n a ca (fc_stop n (cs_o u, cs_v u, cs_k u, fc_fil (-1) n 0 (cs_n u), cs_l u, cs_u u, cs_m u, cs_h u, cs_i u, cs_j u, cs_w u, cs_t u))) H := hP
  have hD : va_D A (wC n a ca (fc_stop n (cs_o u, cs_v u, cs_k u, fc_fil (-1) n 0 (cs_n u), cs_l u, cs_u u, cs_m u, cs_h u, cs_i u, cs_j u, cs_w u, cs_t u))) := hD
  refine lv_iload_n hx hb dX0_lose_17 rfl (lv_at hl 0 rfl) ?_
  exact W.iret (v := fc_cdty (cs_k u) n 0 0) hx hb hr (fun t ht hW => ⟨⟨fc_cdty (cs_k u) n 0 0, fc_stop n (cs_o u, cs_v u, cs_k u, fc_fil (-1) n 0 (cs_n u), cs_l u, cs_u u, cs_m u, cs_h u, cs_i u, cs_j u, cs_w u, cs_t u), rfl, ⟨(by first | rfl | (simp only [fc_lose, fc_setn] <;> rfl)), (by first | rfl | (simp only [fc_lose, fc_setn] <;> rfl))⟩, ⟨by rw [ht]; exact hP, va_K.moved hW.alike hK, hD⟩⟩, hS.F ht⟩) hS.2.2 dX0_lose_18
