set_option maxHeartbeats 4000000 in
set_option maxRecDepth 100000 in
theorem c_L_read (l : Launch) (hl9 : l.stackTraces = false) (sa : Nat → Nat) (dC : Nat → ClassId) (dI : Nat → Nat → Nat) (n : Nat) (a : Nat → Nat) (ca : Nat → ClassId) (u : StC) (qo : Nat) (co : ClassId) (f : Nat → Int64) (sz : Nat) (b : Int32) (hn : n ≤ 12) (hn0 : 0 < n) (hok : okK n (cs_k u)) : Met l yL_read wsL_read ({ frames := 8, cells := 1, slots := 6, locals := 138 }) (va_Pc [.ref (a 0), .int b, .ref qo] (fun U => zr_P (dC, dI) vwCl (tC ca ++ [(co, .long)]) (wL n a ca qo co (u, f)) sz U ∧ zE sa (va_A (wL n a ca qo co (u, f)) sz) U ∧ zC U)) (va_Qi (fun r (z : StC × (Nat → Int64)) => (kc_b b = 0 ∧ r = 0 ∧ z = ((fc_read n u b.toNatClampNeg).2, vp_updL f 0 ((fc_read n u b.toNatClampNeg).1))) ∨ (¬ kc_b b = 0 ∧ r = kc_b b ∧ z = (u, f))) (fun z => zr_B (dC, dI) vwCl (tC ca ++ [(co, .long)]) (va_A (wL n a ca qo co (u, f)) sz) (wL n a ca qo co z)) (va_A (wL n a ca qo co (u, f)) sz)) 1 6 (va_A (wL n a ca qo co (u, f)) sz) := by
  refine va_MetW (cc := cL_read) (maxL := 4) (ret := (some .int)) (by decide) rfl ?_
  intro p e s m args below meth c s₁ B hml hv
  obtain ⟨rfl, ⟨hsz, hP, hK, hD0⟩, hE, hC⟩ := hv
  have hx := B.exec
  have hb := B.bytes
  have hr := B.returns
  have hts := atoms_spec (ws := wsL_read) B.pre
  have hTab := vx_table (x := yL_read) B (hts _ List.mem_cons_self)
  have hown : s.vm.findClass RL = some m.cls := findClass_of_methodNamed B.named
  have hlocks := B.notSynchronized
  subst hsz
  have hD := hD0.self (sz := s.heap.size)
  generalize hAe : va_A (wL n a ca qo co (u, f)) s.heap.size = A at hD hE ⊢
  have hA : ∀ q : Nat, s.heap.size ≤ q → A q := fun q h => by rw [← hAe]; exact Or.inr h
  obtain ⟨H, hH, hP, hS⟩ : ∃ H, H = s.heap ∧ va_P (dC, dI) vwCl (wL n a ca qo co (u, f)) H ∧ va_S A s.heap H [] := ⟨_, rfl, hP, va_S.rf⟩
  rw [← hH]
  have hl := lv_entry ([.ref (a 0), .int b, .ref qo]) (n := 4) (Nat.le_of_ble_eq_true rfl)
  rw [lg_entry_eq]
  generalize (lg_sl ([.ref (a 0), .int b, .ref qo]) ++ List.replicate (4 - (lg_sl ([.ref (a 0), .int b, .ref qo])).length) Slot.unset).toArray = ls at hl ⊢
  have hl : lv_has ls 4 [(0, .ref (a 0)), (1, .int b), (2, .ref qo)] := hl
  refine lv_aload_n hx hb dL_read_0 rfl (lv_at hl 2 rfl) ?_
  refine lv_iconst (v := 0) hx hb dL_read_1 (by decide) ?_
  refine lv_aload_n hx hb dL_read_2 rfl (lv_at hl 0 rfl) ?_
  refine lv_iload_n hx hb dL_read_3 rfl (lv_at hl 1 rfl) ?_
  have hFc := va_free (wc := (wC n a ca u)) hD hS hA [0, 1, 2, 3, 4, 5] rfl
  refine zx_l (σ := StC) (τ := Int32 × StC) (tys1 := fun _ => tC ca) (tyX := fun _ => tC ca) (w1 := fun z => wC n a ca z) (wX := fun z => wC n a ca z.2) (EX := fun E z => E = "java/lang/IllegalArgumentException") (w0 := (wC n a ca u)) (wr := [(qo, .inl (co, 1, .inr (.inl f)))]) (vx_runV (As := [.int b]) (rest := [.int 0, .ref qo]) ⟨hx, hb, hml, hown, hts⟩ (c_C_read l hl9 sa dC dI n a ca u H.size b hn hn0 hok) (cwV 1 hts gL_read_X0_read rfl rfl rfl (by decide +kernel) ⟨Nat.le_of_ble_eq_true rfl, Nat.le_of_ble_eq_true rfl⟩) ⟨fun a U g mk q => ⟨q.1, ⟨q.2.1.1, q.2.1.2.1, va_K.moved (u := U) (U := U.calling g mk a) (Vm.Alike.refl U.vm) q.2.1.2.2.1, q.2.1.2.2.2⟩, q.2.2.call⟩, (va_recv (q0 := 0) (ci := 0) (q := (RX0, TX0, 13)) hK hP rfl rfl), fun U hU hW => ⟨rfl, (zr_pre (As := [.ref (a 0)]) (hK.sub (tys' := tC ca) [0, 1, 2, 3, 4] rfl) (hP.sub (ws' := (wC n a ca u)) [0, 1, 2, 3, 4, 5] rfl) (hD.sub (ws' := (wC n a ca u)) [0, 1, 2, 3, 4, 5] (by decide) rfl) U hU hW).2, hE.to hW (fun q h1 h2 => by rw [hU]; exact hS.2.1 q h1 h2) hFc⟩⟩ rfl rfl hl.1 rfl (lv_room (Nat.le_of_ble_eq_true rfl)) dL_read_4 ⟨Nat.le_of_ble_eq_true rfl, Nat.le_of_ble_eq_true rfl⟩) hP hD hS hA [0, 1, 2, 3, 4, 5] [6] rfl rfl (by decide) (by decide) (fun E ce q9 z H locs hpx hEX hP hD hK1 hS hce hcv hcl => ?_) (fun r z H locs hp hP hD hK1 hS => ?_)
  · obtain ⟨kz, uz⟩ := z
    obtain ⟨huz, hkc, hk12⟩ := hpx
    have huz : u = uz := huz.symm
    subst huz
    dsimp only at hkc hk12 hEX
    subst hEX
    have hP : va_P (dC, dI) vwCl (wL n a ca qo co (u, f)) H := hP.sub (ws' := (wL n a ca qo co (u, f))) [1, 2, 3, 4, 5, 6, 0] rfl
    have hD : va_D A (wL n a ca qo co (u, f)) := hD.sub (ws' := (wL n a ca qo co (u, f))) [1, 2, 3, 4, 5, 6, 0] (by decide) rfl
    refine vx_catch (own := RL) (name := "java/lang/IllegalArgumentException") (E := "java/lang/IllegalArgumentException") hown [] ⟨0, 8, 11, 13⟩ [] (by rw [hTab]; rfl) (fun z hz => nomatch hz) (by decide) (by decide) (hts _ (List.mem_cons_of_mem _ mk_L13)) (va_Nw.use rfl hE.2.1.1) hce hcv hcl ?_
    refine lv_astore_n hx hb dL_read_11 rfl hl (by decide) rfl (fun ls hl => ?_)
    have hl : lv_has ls 4 [(3, .ref q9), (0, .ref (a 0)), (1, .int b), (2, .ref qo)] := hl
    refine lv_iconst (v := 1) hx hb dL_read_12 (by decide) ?_
    exact W.iret (v := 1) hx hb hr (fun t ht hW => ⟨⟨1, (u, f), rfl, Or.inr ⟨(k_ne (hkc.symm.trans hk12)), (hk12.symm.trans hkc), rfl⟩, by rw [ht]; exact hP, va_K.moved hW.alike hK, hD⟩, hS.F ht⟩) hS.2.2 dL_read_13
  · obtain ⟨hk0, hr9, hz9⟩ := hp
    subst hr9
    have hz9 : (fc_read n u b.toNatClampNeg).2 = z := hz9.symm
    subst hz9
    have hP : va_P (dC, dI) vwCl (wL n a ca qo co ((fc_read n u b.toNatClampNeg).2, f)) H := hP.sub (ws' := (wL n a ca qo co ((fc_read n u b.toNatClampNeg).2, f))) [1, 2, 3, 4, 5, 6, 0] rfl
    have hD : va_D A (wL n a ca qo co ((fc_read n u b.toNatClampNeg).2, f)) := hD.sub (ws' := (wL n a ca qo co ((fc_read n u b.toNatClampNeg).2, f))) [1, 2, 3, 4, 5, 6, 0] (by decide) rfl
    refine zr_last (k := 0) hx hb hK hP hD hS 6 5 rfl rfl (by decide) (by decide) dL_read_7 (fun H locs hP hD hS => ?_)
    have hP : va_P (dC, dI) vwCl (wL n a ca qo co ((fc_read n u b.toNatClampNeg).2, vp_updL f 0 ((fc_read n u b.toNatClampNeg).1))) H := hP
    have hD : va_D A (wL n a ca qo co ((fc_read n u b.toNatClampNeg).2, vp_updL f 0 ((fc_read n u b.toNatClampNeg).1))) := hD
    refine lv_goto hx hb dL_read_8 (tgt := 14) rfl ?_
    refine lv_iconst (v := 0) hx hb dL_read_14 (by decide) ?_
    exact W.iret (v := 0) hx hb hr (fun t ht hW => ⟨⟨0, ((fc_read n u b.toNatClampNeg).2, vp_updL f 0 ((fc_read n u b.toNatClampNeg).1)), rfl, Or.inl ⟨hk0, rfl, rfl⟩, by rw [ht]; exact hP, va_K.moved hW.alike hK, hD⟩, hS.F ht⟩) hS.2.2 dL_read_15
set_option maxHeartbeats 4000000 in
set_option maxRecDepth 100000 in
theorem c_L_write (l : Launch) (hl9 : l.stackTraces = false) (sa : Nat → Nat) (dC : Nat → ClassId) (dI : Nat → Nat → Nat) (n : Nat) (a : Nat → Nat) (ca : Nat → ClassId) (u : StC) (sz : Nat) (b : Int32) (v : Int64) (hn : n ≤ 12) (hn0 : 0 < n) (hok : okK n (cs_k u)) : Met l yL_write wsL_write ({ frames := 8, cells := 1, slots := 6, locals := 139 }) (va_Pc [.ref (a 0), .int b, .long v] (fun U => zr_P (dC, dI) vwCl (tC ca) (wC n a ca u) sz U ∧ zE sa (va_A (wC n a ca u) sz) U ∧ zC U)) (va_Qi (fun r (z : StC) => (kc_b b = 0 ∧ r = 0 ∧ z = fc_write n u b.toNatClampNeg v) ∨ (¬ kc_b b = 0 ∧ r = kc_b b ∧ z = u)) (fun z => zr_B (dC, dI) vwCl (tC ca) (va_A (wC n a ca u) sz) (wC n a ca z)) (va_A (wC n a ca u) sz)) 1 6 (va_A (wC n a ca u) sz) := by
  refine va_MetW (cc := cL_write) (maxL := 5) (ret := (some .int)) (by decide) rfl ?_
  intro p e s m args below meth c s₁ B hml hv
  obtain ⟨rfl, ⟨hsz, hP, hK, hD0⟩, hE, hC⟩ := hv
  have hx := B.exec
  have hb := B.bytes
  have hr := B.returns
  have hts := atoms_spec (ws := wsL_write) B.pre
  have hTab := vx_table (x := yL_write) B (hts _ List.mem_cons_self)
  have hown : s.vm.findClass RL = some m.cls := findClass_of_methodNamed B.named
  have hlocks := B.notSynchronized
  subst hsz
  have hD := hD0.self (sz := s.heap.size)
  generalize hAe : va_A (wC n a ca u) s.heap.size = A at hD hE ⊢
  have hA : ∀ q : Nat, s.heap.size ≤ q → A q := fun q h => by rw [← hAe]; exact Or.inr h
  obtain ⟨H, hH, hP, hS⟩ : ∃ H, H = s.heap ∧ va_P (dC, dI) vwCl (wC n a ca u) H ∧ va_S A s.heap H [] := ⟨_, rfl, hP, va_S.rf⟩
  rw [← hH]
  have hl := lv_entry ([.ref (a 0), .int b, .long v]) (n := 5) (Nat.le_of_ble_eq_true rfl)
  rw [lg_entry_eq]
  generalize (lg_sl ([.ref (a 0), .int b, .long v]) ++ List.replicate (5 - (lg_sl ([.ref (a 0), .int b, .long v])).length) Slot.unset).toArray = ls at hl ⊢
  have hl : lv_has ls 5 [(0, .ref (a 0)), (1, .int b), (2, .long v)] := hl
  refine lv_aload_n hx hb dL_write_0 rfl (lv_at hl 0 rfl) ?_
  refine lv_iload_n hx hb dL_write_1 rfl (lv_at hl 1 rfl) ?_
  refine lv_lload_n hx hb dL_write_2 rfl (lv_at hl 2 rfl) ?_
  have hFc := va_free (wc := (wC n a ca u)) hD hS hA [0, 1, 2, 3, 4, 5] rfl
  refine zx_v (σ := StC) (τ := Int32 × StC) (tys1 := fun _ => tC ca) (tyX := fun _ => tC ca) (w1 := fun z => wC n a ca z) (wX := fun z => wC n a ca z.2) (EX := fun E z => E = "java/lang/IllegalArgumentException") (w0 := (wC n a ca u)) (wr := []) (vx_runV (As := [.int b, .long v]) (rest := []) ⟨hx, hb, hml, hown, hts⟩ (c_C_write l hl9 sa dC dI n a ca u H.size b v hn hn0 hok) (cwV 2 hts gL_write_X0_write rfl rfl rfl (by decide +kernel) ⟨Nat.le_of_ble_eq_true rfl, Nat.le_of_ble_eq_true rfl⟩) ⟨fun a U g mk q => ⟨q.1, ⟨q.2.1.1, q.2.1.2.1, va_K.moved (u := U) (U := U.calling g mk a) (Vm.Alike.refl U.vm) q.2.1.2.2.1, q.2.1.2.2.2⟩, q.2.2.call⟩, (va_recv (q0 := 0) (ci := 0) (q := (RX0, TX0, 13)) hK hP rfl rfl), fun U hU hW => ⟨rfl, (zr_pre (As := [.ref (a 0)]) (hK.sub (tys' := tC ca) [0, 1, 2, 3, 4] rfl) (hP.sub (ws' := (wC n a ca u)) [0, 1, 2, 3, 4, 5] rfl) (hD.sub (ws' := (wC n a ca u)) [0, 1, 2, 3, 4, 5] (by decide) rfl) U hU hW).2, hE.to hW (fun q h1 h2 => by rw [hU]; exact hS.2.1 q h1 h2) hFc⟩⟩ rfl rfl hl.1 rfl (lv_room (Nat.le_of_ble_eq_true rfl)) dL_write_3 ⟨Nat.le_of_ble_eq_true rfl, Nat.le_of_ble_eq_true rfl⟩) hP hD hS hA [0, 1, 2, 3, 4, 5] [] rfl rfl (by decide) (by decide) (fun E ce q9 z H locs hpx hEX hP hD hK1 hS hce hcv hcl => ?_) (fun z H locs hp hP hD hK1 hS => ?_)
  · obtain ⟨kz, uz⟩ := z
    obtain ⟨huz, hkc, hk12⟩ := hpx
    have huz : u = uz := huz.symm
    subst huz
    dsimp only at hkc hk12 hEX
    subst hEX
    have hP : va_P (dC, dI) vwCl (wC n a ca u) H := hP.sub (ws' := (wC n a ca u)) [0, 1, 2, 3, 4, 5] rfl
    have hD : va_D A (wC n a ca u) := hD.sub (ws' := (wC n a ca u)) [0, 1, 2, 3, 4, 5] (by decide) rfl
    refine vx_catch (own := RL) (name := "java/lang/IllegalArgumentException") (E := "java/lang/IllegalArgumentException") hown [] ⟨0, 6, 9, 13⟩ [] (by rw [hTab]; rfl) (fun z hz => nomatch hz) (by decide) (by decide) (hts _ (List.mem_cons_of_mem _ mk_L13)) (va_Nw.use rfl hE.2.1.1) hce hcv hcl ?_
    refine lv_astore hx hb dL_write_9 hl (by decide) rfl (fun ls hl => ?_)
    have hl : lv_has ls 5 [(4, .ref q9), (0, .ref (a 0)), (1, .int b), (2, .long v)] := hl
    refine lv_iconst (v := 1) hx hb dL_write_11 (by decide) ?_
    exact W.iret (v := 1) hx hb hr (fun t ht hW => ⟨⟨1, u, rfl, Or.inr ⟨(k_ne (hkc.symm.trans hk12)), (hk12.symm.trans hkc), rfl⟩, by rw [ht]; exact hP, va_K.moved hW.alike hK, hD⟩, hS.F ht⟩) hS.2.2 dL_write_12
  · obtain ⟨hk0, hz9⟩ := hp
    have hz9 : fc_write n u b.toNatClampNeg v = z := hz9.symm
    subst hz9
    have hP : va_P (dC, dI) vwCl (wC n a ca (fc_write n u b.toNatClampNeg v)) H := hP.sub (ws' := (wC n a ca (fc_write n u b.toNatClampNeg v))) [0, 1, 2, 3, 4, 5] rfl
    have hD : va_D A (wC n a ca (fc_write n u b.toNatClampNeg v)) := hD.sub (ws' := (wC n a ca (fc_write n u b.toNatClampNeg v))) [0, 1, 2, 3, 4, 5] (by decide) rfl
    refine lv_goto hx hb dL_write_6 (tgt := 13) rfl ?_
    refine lv_iconst (v := 0) hx hb dL_write_13 (by decide) ?_
    exact W.iret (v := 0) hx hb hr (fun t ht hW => ⟨⟨0, fc_write n u b.toNatClampNeg v, rfl, Or.inl ⟨hk0, rfl, rfl⟩, by rw [ht]; exact hP, va_K.moved hW.alike hK, hD⟩, hS.F ht⟩) hS.2.2 dL_write_14
set_option maxHeartbeats 4000000 in
set_option maxRecDepth 100000 in
theorem c_L_cut (l : Launch) (hl9 : l.stackTraces = false) (sa : Nat → Nat) (dC : Nat → ClassId) (dI : Nat → Nat → Nat) (n : Nat) (a : Nat → Nat) (ca : Nat → ClassId) (u : StC) (qo : Nat) (co : ClassId) (f : Nat → Int64) (sz : Nat) (b : Int32) (v : Int64) (q : Int32) (hn : n ≤ 12) (hn0 : 0 < n) (hok : okK n (cs_k u)) : Met l yL_cut wsL_cut ({ frames := 8, cells := 2, slots := 12, locals := 141 }) (va_Pc [.ref (a 0), .int b, .long v, .int q, .ref qo] (fun U => zr_P (dC, dI) vwCl (tC ca ++ [(co, .long)]) (wL n a ca qo co (u, f)) sz U ∧ zE sa (va_A (wL n a ca qo co (u, f)) sz) U ∧ zC U)) (va_Qi (fun r (z : StC × (Nat → Int64)) => (kc_cut (cs_m u) b q = 0 ∧ r = 0 ∧ z = ((fc_cut n u b.toNatClampNeg v q).2, vp_updL f 0 (((fc_cut n u b.toNatClampNeg v q).1).toInt64))) ∨ (¬ kc_cut (cs_m u) b q = 0 ∧ r = kc_cut (cs_m u) b q ∧ z = (u, f))) (fun z => zr_B (dC, dI) vwCl (tC ca ++ [(co, .long)]) (va_A (wL n a ca qo co (u, f)) sz) (wL n a ca qo co z)) (va_A (wL n a ca qo co (u, f)) sz)) 2 12 (va_A (wL n a ca qo co (u, f)) sz) := by
  refine va_MetW (cc := cL_cut) (maxL := 7) (ret := (some .int)) (by decide) rfl ?_
  intro p e s m args below meth c s₁ B hml hv
  obtain ⟨rfl, ⟨hsz, hP, hK, hD0⟩, hE, hC⟩ := hv
  have hx := B.exec
  have hb := B.bytes
  have hr := B.returns
  have hts := atoms_spec (ws := wsL_cut) B.pre
  have hTab := vx_table (x := yL_cut) B (hts _ List.mem_cons_self)
  have hown : s.vm.findClass RL = some m.cls := findClass_of_methodNamed B.named
  have hlocks := B.notSynchronized
  subst hsz
  have hD := hD0.self (sz := s.heap.size)
  generalize hAe : va_A (wL n a ca qo co (u, f)) s.heap.size = A at hD hE ⊢
  have hA : ∀ q : Nat, s.heap.size ≤ q → A q := fun q h => by rw [← hAe]; exact Or.inr h
  obtain ⟨H, hH, hP, hS⟩ : ∃ H, H = s.heap ∧ va_P (dC, dI) vwCl (wL n a ca qo co (u, f)) H ∧ va_S A s.heap H [] := ⟨_, rfl, hP, va_S.rf⟩
  rw [← hH]
  have hl := lv_entry ([.ref (a 0), .int b, .long v, .int q, .ref qo]) (n := 7) (Nat.le_of_ble_eq_true rfl)
  rw [lg_entry_eq]
  generalize (lg_sl ([.ref (a 0), .int b, .long v, .int q, .ref qo]) ++ List.replicate (7 - (lg_sl ([.ref (a 0), .int b, .long v, .int q, .ref qo])).length) Slot.unset).toArray = ls at hl ⊢
  have hl : lv_has ls 7 [(0, .ref (a 0)), (1, .int b), (2, .long v), (4, .int q), (5, .ref qo)] := hl
  refine lv_aload hx hb dL_cut_0 (lv_at hl 4 rfl) ?_
  refine lv_iconst (v := 0) hx hb dL_cut_2 (by decide) ?_
  refine lv_aload_n hx hb dL_cut_3 rfl (lv_at hl 0 rfl) ?_
  refine lv_iload_n hx hb dL_cut_4 rfl (lv_at hl 1 rfl) ?_
  refine lv_lload_n hx hb dL_cut_5 rfl (lv_at hl 2 rfl) ?_
  refine lv_iload hx hb dL_cut_6 (lv_at hl 3 rfl) ?_
  have hFc := va_free (wc := (wC n a ca u)) hD hS hA [0, 1, 2, 3, 4, 5] rfl
  refine zx_i (σ := StC) (τ := Int32 × StC) (tys1 := fun _ => tC ca) (tyX := fun _ => tC ca) (w1 := fun z => wC n a ca z) (wX := fun z => wC n a ca z.2) (EX := fun E z => E = (if z.1 = 1 then "java/lang/IllegalArgumentException" else "java/lang/IllegalStateException")) (w0 := (wC n a ca u)) (wr := [(qo, .inl (co, 1, .inr (.inl f)))]) (vx_runV (As := [.int b, .long v, .int q]) (rest := [.int 0, .ref qo]) ⟨hx, hb, hml, hown, hts⟩ (c_C_cut l hl9 sa dC dI n a ca u H.size b v q hn hn0 hok) (cwV 3 hts gL_cut_X0_cut rfl rfl rfl (by decide +kernel) ⟨Nat.le_of_ble_eq_true rfl, Nat.le_of_ble_eq_true rfl⟩) ⟨fun a U g mk q => ⟨q.1, ⟨q.2.1.1, q.2.1.2.1, va_K.moved (u := U) (U := U.calling g mk a) (Vm.Alike.refl U.vm) q.2.1.2.2.1, q.2.1.2.2.2⟩, q.2.2.call⟩, (va_recv (q0 := 0) (ci := 0) (q := (RX0, TX0, 13)) hK hP rfl rfl), fun U hU hW => ⟨rfl, (zr_pre (As := [.ref (a 0)]) (hK.sub (tys' := tC ca) [0, 1, 2, 3, 4] rfl) (hP.sub (ws' := (wC n a ca u)) [0, 1, 2, 3, 4, 5] rfl) (hD.sub (ws' := (wC n a ca u)) [0, 1, 2, 3, 4, 5] (by decide) rfl) U hU hW).2, hE.to hW (fun q h1 h2 => by rw [hU]; exact hS.2.1 q h1 h2) hFc⟩⟩ rfl rfl hl.1 rfl (lv_room (Nat.le_of_ble_eq_true rfl)) dL_cut_8 ⟨Nat.le_of_ble_eq_true rfl, Nat.le_of_ble_eq_true rfl⟩) hP hD hS hA [0, 1, 2, 3, 4, 5] [6] rfl rfl (by decide) (by decide) (fun E ce q9 z H locs hpx hEX hP hD hK1 hS hce hcv hcl => ?_) (fun r z H locs hp hP hD hK1 hS => ?_)
  · obtain ⟨kz, uz⟩ := z
    obtain ⟨huz, hkc, hk12⟩ := hpx
    have huz : u = uz := huz.symm
    subst huz
    dsimp only at hkc hk12 hEX
    rcases hk12 with e1 | e1
    · subst e1
      rw [if_pos rfl] at hEX
      subst hEX
      have hP : va_P (dC, dI) vwCl (wL n a ca qo co (u, f)) H := hP.sub (ws' := (wL n a ca qo co (u, f))) [1, 2, 3, 4, 5, 6, 0] rfl
      have hD : va_D A (wL n a ca qo co (u, f)) := hD.sub (ws' := (wL n a ca qo co (u, f))) [1, 2, 3, 4, 5, 6, 0] (by decide) rfl
      refine vx_catch (own := RL) (name := "java/lang/IllegalArgumentException") (E := "java/lang/IllegalArgumentException") hown [] ⟨0, 13, 16, 13⟩ [⟨0, 13, 20, 23⟩] (by rw [hTab]; rfl) (fun z hz => nomatch hz) (by decide) (by decide) (hts _ (List.mem_cons_of_mem _ mk_L13)) (va_Nw.use rfl hE.2.1.1) hce hcv hcl ?_
      refine lv_astore hx hb dL_cut_16 hl (by decide) rfl (fun ls hl => ?_)
      have hl : lv_has ls 7 [(6, .ref q9), (0, .ref (a 0)), (1, .int b), (2, .long v), (4, .int q), (5, .ref qo)] := hl
      refine lv_iconst (v := 1) hx hb dL_cut_18 (by decide) ?_
      exact W.iret (v := 1) hx hb hr (fun t ht hW => ⟨⟨1, (u, f), rfl, Or.inr ⟨(k_ne hkc.symm), hkc, rfl⟩, by rw [ht]; exact hP, va_K.moved hW.alike hK, hD⟩, hS.F ht⟩) hS.2.2 dL_cut_19
    · subst e1
      rw [if_neg (by decide)] at hEX
      subst hEX
      have hP : va_P (dC, dI) vwCl (wL n a ca qo co (u, f)) H := hP.sub (ws' := (wL n a ca qo co (u, f))) [1, 2, 3, 4, 5, 6, 0] rfl
      have hD : va_D A (wL n a ca qo co (u, f)) := hD.sub (ws' := (wL n a ca qo co (u, f))) [1, 2, 3, 4, 5, 6, 0] (by decide) rfl
      refine vx_catch (own := RL) (name := "java/lang/IllegalStateException") (E := "java/lang/IllegalStateException") hown [⟨0, 13, 16, 13⟩] ⟨0, 13, 20, 23⟩ [] (by rw [hTab]; rfl) (fun z hz => by rcases List.mem_cons.mp hz with rfl | hz; exact Or.inr ⟨by decide, "java/lang/IllegalArgumentException", hts _ (List.mem_cons_of_mem _ mk_L13), hC.1⟩; cases hz) (by decide) (by decide) (hts _ (List.mem_cons_of_mem _ mk_L23)) (va_Nw.use rfl hE.2.1.2.1) hce hcv hcl ?_
      refine lv_astore hx hb dL_cut_20 hl (by decide) rfl (fun ls hl => ?_)
      have hl : lv_has ls 7 [(6, .ref q9), (0, .ref (a 0)), (1, .int b), (2, .long v), (4, .int q), (5, .ref qo)] := hl
      refine lv_iconst (v := 2) hx hb dL_cut_22 (by decide) ?_
      exact W.iret (v := 2) hx hb hr (fun t ht hW => ⟨⟨2, (u, f), rfl, Or.inr ⟨(k_ne2 hkc.symm), hkc, rfl⟩, by rw [ht]; exact hP, va_K.moved hW.alike hK, hD⟩, hS.F ht⟩) hS.2.2 dL_cut_23
  · obtain ⟨hk0, hr9, hz9⟩ := hp
    subst hr9
    have hz9 : (fc_cut n u b.toNatClampNeg v q).2 = z := hz9.symm
    subst hz9
    have hP : va_P (dC, dI) vwCl (wL n a ca qo co ((fc_cut n u b.toNatClampNeg v q).2, f)) H := hP.sub (ws' := (wL n a ca qo co ((fc_cut n u b.toNatClampNeg v q).2, f))) [1, 2, 3, 4, 5, 6, 0] rfl
    have hD : va_D A (wL n a ca qo co ((fc_cut n u b.toNatClampNeg v q).2, f)) := hD.sub (ws' := (wL n a ca qo co ((fc_cut n u b.toNatClampNeg v q).2, f))) [1, 2, 3, 4, 5, 6, 0] (by decide) rfl
    refine lv_i2l hx hb dL_cut_11 rfl ?_
    refine zr_last (k := 0) hx hb hK hP hD hS 6 5 rfl rfl (by decide) (by decide) dL_cut_12 (fun H locs hP hD hS => ?_)
    have hP : va_P (dC, dI) vwCl (wL n a ca qo co ((fc_cut n u b.toNatClampNeg v q).2, vp_updL f 0 (((fc_cut n u b.toNatClampNeg v q).1).toInt64))) H := hP
    have hD : va_D A (wL n a ca qo co ((fc_cut n u b.toNatClampNeg v q).2, vp_updL f 0 (((fc_cut n u b.toNatClampNeg v q).1).toInt64))) := hD
    refine lv_goto hx hb dL_cut_13 (tgt := 24) rfl ?_
    refine lv_iconst (v := 0) hx hb dL_cut_24 (by decide) ?_
    exact W.iret (v := 0) hx hb hr (fun t ht hW => ⟨⟨0, ((fc_cut n u b.toNatClampNeg v q).2, vp_updL f 0 (((fc_cut n u b.toNatClampNeg v q).1).toInt64)), rfl, Or.inl ⟨hk0, rfl, rfl⟩, by rw [ht]; exact hP, va_K.moved hW.alike hK, hD⟩, hS.F ht⟩) hS.2.2 dL_cut_25
set_option maxHeartbeats 4000000 in
set_option maxRecDepth 100000 in
theorem c_L_mode (l : Launch) (hl9 : l.stackTraces = false) (sa : Nat → Nat) (dC : Nat → ClassId) (dI : Nat → Nat → Nat) (n : Nat) (a : Nat → Nat) (ca : Nat → ClassId) (u : StC) (qo : Nat) (co : ClassId) (f : Nat → Int64) (sz : Nat) (x : Int32) (hn : n ≤ 12) (hok : okK n (cs_k u)) : Met l yL_mode wsL_mode ({ frames := 7, cells := 1, slots := 6, locals := 117 }) (va_Pc [.ref (a 0), .int x, .ref qo] (fun U => zr_P (dC, dI) vwCl (tC ca ++ [(co, .long)]) (wL n a ca qo co (u, f)) sz U ∧ zE sa (va_A (wL n a ca qo co (u, f)) sz) U ∧ zC U)) (va_Qi (fun r (z : StC × (Nat → Int64)) => (kc_mode x = 0 ∧ r = 0 ∧ z = ((fc_mode n u x).2, vp_updL f 0 (((fc_mode n u x).1).toInt64))) ∨ (¬ kc_mode x = 0 ∧ r = kc_mode x ∧ z = (u, f))) (fun z => zr_B (dC, dI) vwCl (tC ca ++ [(co, .long)]) (va_A (wL n a ca qo co (u, f)) sz) (wL n a ca qo co z)) (va_A (wL n a ca qo co (u, f)) sz)) 1 6 (va_A (wL n a ca qo co (u, f)) sz) := by
  refine va_MetW (cc := cL_mode) (maxL := 4) (ret := (some .int)) (by decide) rfl ?_
  intro p e s m args below meth c s₁ B hml hv
  obtain ⟨rfl, ⟨hsz, hP, hK, hD0⟩, hE, hC⟩ := hv
  have hx := B.exec
  have hb := B.bytes
  have hr := B.returns
  have hts := atoms_spec (ws := wsL_mode) B.pre
  have hTab := vx_table (x := yL_mode) B (hts _ List.mem_cons_self)
  have hown : s.vm.findClass RL = some m.cls := findClass_of_methodNamed B.named
  have hlocks := B.notSynchronized
  subst hsz
  have hD := hD0.self (sz := s.heap.size)
  generalize hAe : va_A (wL n a ca qo co (u, f)) s.heap.size = A at hD hE ⊢
  have hA : ∀ q : Nat, s.heap.size ≤ q → A q := fun q h => by rw [← hAe]; exact Or.inr h
  obtain ⟨H, hH, hP, hS⟩ : ∃ H, H = s.heap ∧ va_P (dC, dI) vwCl (wL n a ca qo co (u, f)) H ∧ va_S A s.heap H [] := ⟨_, rfl, hP, va_S.rf⟩
  rw [← hH]
  have hl := lv_entry ([.ref (a 0), .int x, .ref qo]) (n := 4) (Nat.le_of_ble_eq_true rfl)
  rw [lg_entry_eq]
  generalize (lg_sl ([.ref (a 0), .int x, .ref qo]) ++ List.replicate (4 - (lg_sl ([.ref (a 0), .int x, .ref qo])).length) Slot.unset).toArray = ls at hl ⊢
  have hl : lv_has ls 4 [(0, .ref (a 0)), (1, .int x), (2, .ref qo)] := hl
  refine lv_aload_n hx hb dL_mode_0 rfl (lv_at hl 2 rfl) ?_
  refine lv_iconst (v := 0) hx hb dL_mode_1 (by decide) ?_
  refine lv_aload_n hx hb dL_mode_2 rfl (lv_at hl 0 rfl) ?_
  refine lv_iload_n hx hb dL_mode_3 rfl (lv_at hl 1 rfl) ?_
  have hFc := va_free (wc := (wC n a ca u)) hD hS hA [0, 1, 2, 3, 4, 5] rfl
  refine zx_i (σ := StC) (τ := Int32 × StC) (tys1 := fun _ => tC ca) (tyX := fun _ => tC ca) (w1 := fun z => wC n a ca z) (wX := fun z => wC n a ca z.2) (EX := fun E z => E = "java/lang/IllegalArgumentException") (w0 := (wC n a ca u)) (wr := [(qo, .inl (co, 1, .inr (.inl f)))]) (vx_runV (As := [.int x]) (rest := [.int 0, .ref qo]) ⟨hx, hb, hml, hown, hts⟩ (c_C_mode l hl9 sa dC dI n a ca u H.size x hn hok) (cwV 1 hts gL_mode_X0_mode rfl rfl rfl (by decide +kernel) ⟨Nat.le_of_ble_eq_true rfl, Nat.le_of_ble_eq_true rfl⟩) ⟨fun a U g mk q => ⟨q.1, ⟨q.2.1.1, q.2.1.2.1, va_K.moved (u := U) (U := U.calling g mk a) (Vm.Alike.refl U.vm) q.2.1.2.2.1, q.2.1.2.2.2⟩, q.2.2.call⟩, (va_recv (q0 := 0) (ci := 0) (q := (RX0, TX0, 13)) hK hP rfl rfl), fun U hU hW => ⟨rfl, (zr_pre (As := [.ref (a 0)]) (hK.sub (tys' := tC ca) [0, 1, 2, 3, 4] rfl) (hP.sub (ws' := (wC n a ca u)) [0, 1, 2, 3, 4, 5] rfl) (hD.sub (ws' := (wC n a ca u)) [0, 1, 2, 3, 4, 5] (by decide) rfl) U hU hW).2, hE.to hW (fun q h1 h2 => by rw [hU]; exact hS.2.1 q h1 h2) hFc⟩⟩ rfl rfl hl.1 rfl (lv_room (Nat.le_of_ble_eq_true rfl)) dL_mode_4 ⟨Nat.le_of_ble_eq_true rfl, Nat.le_of_ble_eq_true rfl⟩) hP hD hS hA [0, 1, 2, 3, 4, 5] [6] rfl rfl (by decide) (by decide) (fun E ce q9 z H locs hpx hEX hP hD hK1 hS hce hcv hcl => ?_) (fun r z H locs hp hP hD hK1 hS => ?_)
  · obtain ⟨kz, uz⟩ := z
    obtain ⟨huz, hkc, hk12⟩ := hpx
    have huz : u = uz := huz.symm
    subst huz
    dsimp only at hkc hk12 hEX
    subst hEX
    have hP : va_P (dC, dI) vwCl (wL n a ca qo co (u, f)) H := hP.sub (ws' := (wL n a ca qo co (u, f))) [1, 2, 3, 4, 5, 6, 0] rfl
    have hD : va_D A (wL n a ca qo co (u, f)) := hD.sub (ws' := (wL n a ca qo co (u, f))) [1, 2, 3, 4, 5, 6, 0] (by decide) rfl
    refine vx_catch (own := RL) (name := "java/lang/IllegalArgumentException") (E := "java/lang/IllegalArgumentException") hown [] ⟨0, 9, 12, 13⟩ [] (by rw [hTab]; rfl) (fun z hz => nomatch hz) (by decide) (by decide) (hts _ (List.mem_cons_of_mem _ mk_L13)) (va_Nw.use rfl hE.2.1.1) hce hcv hcl ?_
    refine lv_astore_n hx hb dL_mode_12 rfl hl (by decide) rfl (fun ls hl => ?_)
    have hl : lv_has ls 4 [(3, .ref q9), (0, .ref (a 0)), (1, .int x), (2, .ref qo)] := hl
    refine lv_iconst (v := 1) hx hb dL_mode_13 (by decide) ?_
    exact W.iret (v := 1) hx hb hr (fun t ht hW => ⟨⟨1, (u, f), rfl, Or.inr ⟨(k_ne (hkc.symm.trans hk12)), (hk12.symm.trans hkc), rfl⟩, by rw [ht]; exact hP, va_K.moved hW.alike hK, hD⟩, hS.F ht⟩) hS.2.2 dL_mode_14
  · obtain ⟨hk0, hr9, hz9⟩ := hp
    subst hr9
    have hz9 : (fc_mode n u x).2 = z := hz9.symm
    subst hz9
    have hP : va_P (dC, dI) vwCl (wL n a ca qo co ((fc_mode n u x).2, f)) H := hP.sub (ws' := (wL n a ca qo co ((fc_mode n u x).2, f))) [1, 2, 3, 4, 5, 6, 0] rfl
    have hD : va_D A (wL n a ca qo co ((fc_mode n u x).2, f)) := hD.sub (ws' := (wL n a ca qo co ((fc_mode n u x).2, f))) [1, 2, 3, 4, 5, 6, 0] (by decide) rfl
    refine lv_i2l hx hb dL_mode_7 rfl ?_
    refine zr_last (k := 0) hx hb hK hP hD hS 6 5 rfl rfl (by decide) (by decide) dL_mode_8 (fun H locs hP hD hS => ?_)
    have hP : va_P (dC, dI) vwCl (wL n a ca qo co ((fc_mode n u x).2, vp_updL f 0 (((fc_mode n u x).1).toInt64))) H := hP
    have hD : va_D A (wL n a ca qo co ((fc_mode n u x).2, vp_updL f 0 (((fc_mode n u x).1).toInt64))) := hD
    refine lv_goto hx hb dL_mode_9 (tgt := 15) rfl ?_
    refine lv_iconst (v := 0) hx hb dL_mode_15 (by decide) ?_
    exact W.iret (v := 0) hx hb hr (fun t ht hW => ⟨⟨0, ((fc_mode n u x).2, vp_updL f 0 (((fc_mode n u x).1).toInt64)), rfl, Or.inl ⟨hk0, rfl, rfl⟩, by rw [ht]; exact hP, va_K.moved hW.alike hK, hD⟩, hS.F ht⟩) hS.2.2 dL_mode_16
set_option maxHeartbeats 4000000 in
set_option maxRecDepth 100000 in
theorem c_L_back (l : Launch) (hl9 : l.stackTraces = false) (sa : Nat → Nat) (dC : Nat → ClassId) (dI : Nat → Nat → Nat) (n : Nat) (a : Nat → Nat) (ca : Nat → ClassId) (u : StC) (qo : Nat) (co : ClassId) (f : Nat → Int64) (sz : Nat) (q : Int32) (hn : n ≤ 12) (hok : okK n (cs_k u)) : Met l yL_back wsL_back ({ frames := 7, cells := 1, slots := 6, locals := 119 }) (va_Pc [.ref (a 0), .int q, .ref qo] (fun U => zr_P (dC, dI) vwCl (tC ca ++ [(co, .long)]) (wL n a ca qo co (u, f)) sz U ∧ zE sa (va_A (wL n a ca qo co (u, f)) sz) U ∧ zC U)) (va_Qi (fun r (z : StC × (Nat → Int64)) => (kc_back q = 0 ∧ r = 0 ∧ z = ((fc_back n q.toNatClampNeg 0 u).2, vp_updL f 0 (((fc_back n q.toNatClampNeg 0 u).1).toInt64))) ∨ (¬ kc_back q = 0 ∧ r = kc_back q ∧ z = (u, f))) (fun z => zr_B (dC, dI) vwCl (tC ca ++ [(co, .long)]) (va_A (wL n a ca qo co (u, f)) sz) (wL n a ca qo co z)) (va_A (wL n a ca qo co (u, f)) sz)) 1 6 (va_A (wL n a ca qo co (u, f)) sz) := by
  refine va_MetW (cc := cL_back) (maxL := 4) (ret := (some .int)) (by decide) rfl ?_
  intro p e s m args below meth c s₁ B hml hv
  obtain ⟨rfl, ⟨hsz, hP, hK, hD0⟩, hE, hC⟩ := hv
  have hx := B.exec
  have hb := B.bytes
  have hr := B.returns
  have hts := atoms_spec (ws := wsL_back) B.pre
  have hTab := vx_table (x := yL_back) B (hts _ List.mem_cons_self)
  have hown : s.vm.findClass RL = some m.cls := findClass_of_methodNamed B.named
  have hlocks := B.notSynchronized
  subst hsz
  have hD := hD0.self (sz := s.heap.size)
  generalize hAe : va_A (wL n a ca qo co (u, f)) s.heap.size = A at hD hE ⊢
  have hA : ∀ q : Nat, s.heap.size ≤ q → A q := fun q h => by rw [← hAe]; exact Or.inr h
  obtain ⟨H, hH, hP, hS⟩ : ∃ H, H = s.heap ∧ va_P (dC, dI) vwCl (wL n a ca qo co (u, f)) H ∧ va_S A s.heap H [] := ⟨_, rfl, hP, va_S.rf⟩
  rw [← hH]
  have hl := lv_entry ([.ref (a 0), .int q, .ref qo]) (n := 4) (Nat.le_of_ble_eq_true rfl)
  rw [lg_entry_eq]
  generalize (lg_sl ([.ref (a 0), .int q, .ref qo]) ++ List.replicate (4 - (lg_sl ([.ref (a 0), .int q, .ref qo])).length) Slot.unset).toArray = ls at hl ⊢
  have hl : lv_has ls 4 [(0, .ref (a 0)), (1, .int q), (2, .ref qo)] := hl
  refine lv_aload_n hx hb dL_back_0 rfl (lv_at hl 2 rfl) ?_
  refine lv_iconst (v := 0) hx hb dL_back_1 (by decide) ?_
  refine lv_aload_n hx hb dL_back_2 rfl (lv_at hl 0 rfl) ?_
  refine lv_iload_n hx hb dL_back_3 rfl (lv_at hl 1 rfl) ?_
  have hFc := va_free (wc := (wC n a ca u)) hD hS hA [0, 1, 2, 3, 4, 5] rfl
  refine zx_i (σ := StC) (τ := Int32 × StC) (tys1 := fun _ => tC ca) (tyX := fun _ => tC ca) (w1 := fun z => wC n a ca z) (wX := fun z => wC n a ca z.2) (EX := fun E z => E = "java/lang/IllegalArgumentException") (w0 := (wC n a ca u)) (wr := [(qo, .inl (co, 1, .inr (.inl f)))]) (vx_runV (As := [.int q]) (rest := [.int 0, .ref qo]) ⟨hx, hb, hml, hown, hts⟩ (c_C_back l hl9 sa dC dI n a ca u H.size q hn hok) (cwV 1 hts gL_back_X0_back rfl rfl rfl (by decide +kernel) ⟨Nat.le_of_ble_eq_true rfl, Nat.le_of_ble_eq_true rfl⟩) ⟨fun a U g mk q => ⟨q.1, ⟨q.2.1.1, q.2.1.2.1, va_K.moved (u := U) (U := U.calling g mk a) (Vm.Alike.refl U.vm) q.2.1.2.2.1, q.2.1.2.2.2⟩, q.2.2.call⟩, (va_recv (q0 := 0) (ci := 0) (q := (RX0, TX0, 13)) hK hP rfl rfl), fun U hU hW => ⟨rfl, (zr_pre (As := [.ref (a 0)]) (hK.sub (tys' := tC ca) [0, 1, 2, 3, 4] rfl) (hP.sub (ws' := (wC n a ca u)) [0, 1, 2, 3, 4, 5] rfl) (hD.sub (ws' := (wC n a ca u)) [0, 1, 2, 3, 4, 5] (by decide) rfl) U hU hW).2, hE.to hW (fun q h1 h2 => by rw [hU]; exact hS.2.1 q h1 h2) hFc⟩⟩ rfl rfl hl.1 rfl (lv_room (Nat.le_of_ble_eq_true rfl)) dL_back_4 ⟨Nat.le_of_ble_eq_true rfl, Nat.le_of_ble_eq_true rfl⟩) hP hD hS hA [0, 1, 2, 3, 4, 5] [6] rfl rfl (by decide) (by decide) (fun E ce q9 z H locs hpx hEX hP hD hK1 hS hce hcv hcl => ?_) (fun r z H locs hp hP hD hK1 hS => ?_)
  · obtain ⟨kz, uz⟩ := z
    obtain ⟨huz, hkc, hk12⟩ := hpx
    have huz : u = uz := huz.symm
    subst huz
    dsimp only at hkc hk12 hEX
    subst hEX
    have hP : va_P (dC, dI) vwCl (wL n a ca qo co (u, f)) H := hP.sub (ws' := (wL n a ca qo co (u, f))) [1, 2, 3, 4, 5, 6, 0] rfl
    have hD : va_D A (wL n a ca qo co (u, f)) := hD.sub (ws' := (wL n a ca qo co (u, f))) [1, 2, 3, 4, 5, 6, 0] (by decide) rfl
    refine vx_catch (own := RL) (name := "java/lang/IllegalArgumentException") (E := "java/lang/IllegalArgumentException") hown [] ⟨0, 9, 12, 13⟩ [] (by rw [hTab]; rfl) (fun z hz => nomatch hz) (by decide) (by decide) (hts _ (List.mem_cons_of_mem _ mk_L13)) (va_Nw.use rfl hE.2.1.1) hce hcv hcl ?_
    refine lv_astore_n hx hb dL_back_12 rfl hl (by decide) rfl (fun ls hl => ?_)
    have hl : lv_has ls 4 [(3, .ref q9), (0, .ref (a 0)), (1, .int q), (2, .ref qo)] := hl
    refine lv_iconst (v := 1) hx hb dL_back_13 (by decide) ?_
    exact W.iret (v := 1) hx hb hr (fun t ht hW => ⟨⟨1, (u, f), rfl, Or.inr ⟨(k_ne (hkc.symm.trans hk12)), (hk12.symm.trans hkc), rfl⟩, by rw [ht]; exact hP, va_K.moved hW.alike hK, hD⟩, hS.F ht⟩) hS.2.2 dL_back_14
  · obtain ⟨hk0, hr9, hz9⟩ := hp
    subst hr9
    have hz9 : (fc_back n q.toNatClampNeg 0 u).2 = z := hz9.symm
    subst hz9
    have hP : va_P (dC, dI) vwCl (wL n a ca qo co ((fc_back n q.toNatClampNeg 0 u).2, f)) H := hP.sub (ws' := (wL n a ca qo co ((fc_back n q.toNatClampNeg 0 u).2, f))) [1, 2, 3, 4, 5, 6, 0] rfl
    have hD : va_D A (wL n a ca qo co ((fc_back n q.toNatClampNeg 0 u).2, f)) := hD.sub (ws' := (wL n a ca qo co ((fc_back n q.toNatClampNeg 0 u).2, f))) [1, 2, 3, 4, 5, 6, 0] (by decide) rfl
    refine lv_i2l hx hb dL_back_7 rfl ?_
    refine zr_last (k := 0) hx hb hK hP hD hS 6 5 rfl rfl (by decide) (by decide) dL_back_8 (fun H locs hP hD hS => ?_)
    have hP : va_P (dC, dI) vwCl (wL n a ca qo co ((fc_back n q.toNatClampNeg 0 u).2, vp_updL f 0 (((fc_back n q.toNatClampNeg 0 u).1).toInt64))) H := hP
    have hD : va_D A (wL n a ca qo co ((fc_back n q.toNatClampNeg 0 u).2, vp_updL f 0 (((fc_back n q.toNatClampNeg 0 u).1).toInt64))) := hD
    refine lv_goto hx hb dL_back_9 (tgt := 15) rfl ?_
    refine lv_iconst (v := 0) hx hb dL_back_15 (by decide) ?_
    exact W.iret (v := 0) hx hb hr (fun t ht hW => ⟨⟨0, ((fc_back n q.toNatClampNeg 0 u).2, vp_updL f 0 (((fc_back n q.toNatClampNeg 0 u).1).toInt64)), rfl, Or.inl ⟨hk0, rfl, rfl⟩, by rw [ht]; exact hP, va_K.moved hW.alike hK, hD⟩, hS.F ht⟩) hS.2.2 dL_back_16
set_option maxHeartbeats 4000000 in
set_option maxRecDepth 100000 in
theorem c_L_slot (l : Launch) (hl9 : l.stackTraces = false) (sa : Nat → Nat) (dC : Nat → ClassId) (dI : Nat → Nat → Nat) (n : Nat) (a : Nat → Nat) (ca : Nat → ClassId) (u : StC) (qo : Nat) (co : ClassId) (f : Nat → Int64) (sz : Nat) (b : Int32) (hn : n ≤ 12) : Met l yL_slot wsL_slot ({ frames := 8, cells := 1, slots := 6, locals := 137 }) (va_Pc [.ref (a 0), .int b, .ref qo] (fun U => zr_P (dC, dI) vwCl (tC ca ++ [(co, .long)]) (wL n a ca qo co (u, f)) sz U ∧ zE sa (va_A (wL n a ca qo co (u, f)) sz) U ∧ zC U)) (va_Qi (fun r (z : StC × (Nat → Int64)) => (kc_b b = 0 ∧ r = 0 ∧ z = (u, vp_updL f 0 ((fc_enc (fc_find (cs_k u) b.toNatClampNeg n 0)).toInt64))) ∨ (¬ kc_b b = 0 ∧ r = kc_b b ∧ z = (u, f))) (fun z => zr_B (dC, dI) vwCl (tC ca ++ [(co, .long)]) (va_A (wL n a ca qo co (u, f)) sz) (wL n a ca qo co z)) (va_A (wL n a ca qo co (u, f)) sz)) 1 6 (va_A (wL n a ca qo co (u, f)) sz) := by
  refine va_MetW (cc := cL_slot) (maxL := 4) (ret := (some .int)) (by decide) rfl ?_
  intro p e s m args below meth c s₁ B hml hv
  obtain ⟨rfl, ⟨hsz, hP, hK, hD0⟩, hE, hC⟩ := hv
  have hx := B.exec
  have hb := B.bytes
  have hr := B.returns
  have hts := atoms_spec (ws := wsL_slot) B.pre
  have hTab := vx_table (x := yL_slot) B (hts _ List.mem_cons_self)
  have hown : s.vm.findClass RL = some m.cls := findClass_of_methodNamed B.named
  have hlocks := B.notSynchronized
  subst hsz
  have hD := hD0.self (sz := s.heap.size)
  generalize hAe : va_A (wL n a ca qo co (u, f)) s.heap.size = A at hD hE ⊢
  have hA : ∀ q : Nat, s.heap.size ≤ q → A q := fun q h => by rw [← hAe]; exact Or.inr h
  obtain ⟨H, hH, hP, hS⟩ : ∃ H, H = s.heap ∧ va_P (dC, dI) vwCl (wL n a ca qo co (u, f)) H ∧ va_S A s.heap H [] := ⟨_, rfl, hP, va_S.rf⟩
  rw [← hH]
  have hl := lv_entry ([.ref (a 0), .int b, .ref qo]) (n := 4) (Nat.le_of_ble_eq_true rfl)
  rw [lg_entry_eq]
  generalize (lg_sl ([.ref (a 0), .int b, .ref qo]) ++ List.replicate (4 - (lg_sl ([.ref (a 0), .int b, .ref qo])).length) Slot.unset).toArray = ls at hl ⊢
  have hl : lv_has ls 4 [(0, .ref (a 0)), (1, .int b), (2, .ref qo)] := hl
  refine lv_aload_n hx hb dL_slot_0 rfl (lv_at hl 2 rfl) ?_
  refine lv_iconst (v := 0) hx hb dL_slot_1 (by decide) ?_
  refine lv_aload_n hx hb dL_slot_2 rfl (lv_at hl 0 rfl) ?_
  refine lv_iload_n hx hb dL_slot_3 rfl (lv_at hl 1 rfl) ?_
  have hFc := va_free (wc := (wC n a ca u)) hD hS hA [0, 1, 2, 3, 4, 5] rfl
  refine zx_i (σ := StC) (τ := Int32 × StC) (tys1 := fun _ => tC ca) (tyX := fun _ => tC ca) (w1 := fun z => wC n a ca z) (wX := fun z => wC n a ca z.2) (EX := fun E z => E = "java/lang/IllegalArgumentException") (w0 := (wC n a ca u)) (wr := [(qo, .inl (co, 1, .inr (.inl f)))]) (vx_runV (As := [.int b]) (rest := [.int 0, .ref qo]) ⟨hx, hb, hml, hown, hts⟩ (c_C_slot l hl9 sa dC dI n a ca u H.size b hn) (cwV 1 hts gL_slot_X0_slot rfl rfl rfl (by decide +kernel) ⟨Nat.le_of_ble_eq_true rfl, Nat.le_of_ble_eq_true rfl⟩) ⟨fun a U g mk q => ⟨q.1, ⟨q.2.1.1, q.2.1.2.1, va_K.moved (u := U) (U := U.calling g mk a) (Vm.Alike.refl U.vm) q.2.1.2.2.1, q.2.1.2.2.2⟩, q.2.2.call⟩, (va_recv (q0 := 0) (ci := 0) (q := (RX0, TX0, 13)) hK hP rfl rfl), fun U hU hW => ⟨rfl, (zr_pre (As := [.ref (a 0)]) (hK.sub (tys' := tC ca) [0, 1, 2, 3, 4] rfl) (hP.sub (ws' := (wC n a ca u)) [0, 1, 2, 3, 4, 5] rfl) (hD.sub (ws' := (wC n a ca u)) [0, 1, 2, 3, 4, 5] (by decide) rfl) U hU hW).2, hE.to hW (fun q h1 h2 => by rw [hU]; exact hS.2.1 q h1 h2) hFc⟩⟩ rfl rfl hl.1 rfl (lv_room (Nat.le_of_ble_eq_true rfl)) dL_slot_4 ⟨Nat.le_of_ble_eq_true rfl, Nat.le_of_ble_eq_true rfl⟩) hP hD hS hA [0, 1, 2, 3, 4, 5] [6] rfl rfl (by decide) (by decide) (fun E ce q9 z H locs hpx hEX hP hD hK1 hS hce hcv hcl => ?_) (fun r z H locs hp hP hD hK1 hS => ?_)
  · obtain ⟨kz, uz⟩ := z
    obtain ⟨huz, hkc, hk12⟩ := hpx
    have huz : u = uz := huz.symm
    subst huz
    dsimp only at hkc hk12 hEX
    subst hEX
    have hP : va_P (dC, dI) vwCl (wL n a ca qo co (u, f)) H := hP.sub (ws' := (wL n a ca qo co (u, f))) [1, 2, 3, 4, 5, 6, 0] rfl
    have hD : va_D A (wL n a ca qo co (u, f)) := hD.sub (ws' := (wL n a ca qo co (u, f))) [1, 2, 3, 4, 5, 6, 0] (by decide) rfl
    refine vx_catch (own := RL) (name := "java/lang/IllegalArgumentException") (E := "java/lang/IllegalArgumentException") hown [] ⟨0, 9, 12, 13⟩ [] (by rw [hTab]; rfl) (fun z hz => nomatch hz) (by decide) (by decide) (hts _ (List.mem_cons_of_mem _ mk_L13)) (va_Nw.use rfl hE.2.1.1) hce hcv hcl ?_
    refine lv_astore_n hx hb dL_slot_12 rfl hl (by decide) rfl (fun ls hl => ?_)
    have hl : lv_has ls 4 [(3, .ref q9), (0, .ref (a 0)), (1, .int b), (2, .ref qo)] := hl
    refine lv_iconst (v := 1) hx hb dL_slot_13 (by decide) ?_
    exact W.iret (v := 1) hx hb hr (fun t ht hW => ⟨⟨1, (u, f), rfl, Or.inr ⟨(k_ne (hkc.symm.trans hk12)), (hk12.symm.trans hkc), rfl⟩, by rw [ht]; exact hP, va_K.moved hW.alike hK, hD⟩, hS.F ht⟩) hS.2.2 dL_slot_14
  · obtain ⟨hk0, hr9, hz9⟩ := hp
    subst hr9
    have hz9 : u = z := hz9.symm
    subst hz9
    have hP : va_P (dC, dI) vwCl (wL n a ca qo co (u, f)) H := hP.sub (ws' := (wL n a ca qo co (u, f))) [1, 2, 3, 4, 5, 6, 0] rfl
    have hD : va_D A (wL n a ca qo co (u, f)) := hD.sub (ws' := (wL n a ca qo co (u, f))) [1, 2, 3, 4, 5, 6, 0] (by decide) rfl
    refine lv_i2l hx hb dL_slot_7 rfl ?_
    refine zr_last (k := 0) hx hb hK hP hD hS 6 5 rfl rfl (by decide) (by decide) dL_slot_8 (fun H locs hP hD hS => ?_)
    have hP : va_P (dC, dI) vwCl (wL n a ca qo co (u, vp_updL f 0 ((fc_enc (fc_find (cs_k u) b.toNatClampNeg n 0)).toInt64))) H := hP
    have hD : va_D A (wL n a ca qo co (u, vp_updL f 0 ((fc_enc (fc_find (cs_k u) b.toNatClampNeg n 0)).toInt64))) := hD
    refine lv_goto hx hb dL_slot_9 (tgt := 15) rfl ?_
    refine lv_iconst (v := 0) hx hb dL_slot_15 (by decide) ?_
    exact W.iret (v := 0) hx hb hr (fun t ht hW => ⟨⟨0, (u, vp_updL f 0 ((fc_enc (fc_find (cs_k u) b.toNatClampNeg n 0)).toInt64)), rfl, Or.inl ⟨hk0, rfl, rfl⟩, by rw [ht]; exact hP, va_K.moved hW.alike hK, hD⟩, hS.F ht⟩) hS.2.2 dL_slot_16
set_option maxHeartbeats 4000000 in
set_option maxRecDepth 100000 in
theorem c_L_origin (l : Launch) (hl9 : l.stackTraces = false) (sa : Nat → Nat) (dC : Nat → ClassId) (dI : Nat → Nat → Nat) (n : Nat) (a : Nat → Nat) (ca : Nat → ClassId) (u : StC) (qo : Nat) (co : ClassId) (f : Nat → Int64) (sz : Nat) (b : Int32) : Met l yL_origin wsL_origin ({ frames := 8, cells := 1, slots := 6, locals := 137 }) (va_Pc [.ref (a 0), .int b, .ref qo] (fun U => zr_P (dC, dI) vwCl (tC ca ++ [(co, .long)]) (wL n a ca qo co (u, f)) sz U ∧ zE sa (va_A (wL n a ca qo co (u, f)) sz) U ∧ zC U)) (va_Qi (fun r (z : StC × (Nat → Int64)) => (kc_b b = 0 ∧ r = 0 ∧ z = (u, vp_updL f 0 (cs_o u b.toNatClampNeg))) ∨ (¬ kc_b b = 0 ∧ r = kc_b b ∧ z = (u, f))) (fun z => zr_B (dC, dI) vwCl (tC ca ++ [(co, .long)]) (va_A (wL n a ca qo co (u, f)) sz) (wL n a ca qo co z)) (va_A (wL n a ca qo co (u, f)) sz)) 1 6 (va_A (wL n a ca qo co (u, f)) sz) := by
  refine va_MetW (cc := cL_origin) (maxL := 4) (ret := (some .int)) (by decide) rfl ?_
  intro p e s m args below meth c s₁ B hml hv
  obtain ⟨rfl, ⟨hsz, hP, hK, hD0⟩, hE, hC⟩ := hv
  have hx := B.exec
  have hb := B.bytes
  have hr := B.returns
  have hts := atoms_spec (ws := wsL_origin) B.pre
  have hTab := vx_table (x := yL_origin) B (hts _ List.mem_cons_self)
  have hown : s.vm.findClass RL = some m.cls := findClass_of_methodNamed B.named
  have hlocks := B.notSynchronized
  subst hsz
  have hD := hD0.self (sz := s.heap.size)
  generalize hAe : va_A (wL n a ca qo co (u, f)) s.heap.size = A at hD hE ⊢
  have hA : ∀ q : Nat, s.heap.size ≤ q → A q := fun q h => by rw [← hAe]; exact Or.inr h
  obtain ⟨H, hH, hP, hS⟩ : ∃ H, H = s.heap ∧ va_P (dC, dI) vwCl (wL n a ca qo co (u, f)) H ∧ va_S A s.heap H [] := ⟨_, rfl, hP, va_S.rf⟩
  rw [← hH]
  have hl := lv_entry ([.ref (a 0), .int b, .ref qo]) (n := 4) (Nat.le_of_ble_eq_true rfl)
  rw [lg_entry_eq]
  generalize (lg_sl ([.ref (a 0), .int b, .ref qo]) ++ List.replicate (4 - (lg_sl ([.ref (a 0), .int b, .ref qo])).length) Slot.unset).toArray = ls at hl ⊢
  have hl : lv_has ls 4 [(0, .ref (a 0)), (1, .int b), (2, .ref qo)] := hl
  refine lv_aload_n hx hb dL_origin_0 rfl (lv_at hl 2 rfl) ?_
  refine lv_iconst (v := 0) hx hb dL_origin_1 (by decide) ?_
  refine lv_aload_n hx hb dL_origin_2 rfl (lv_at hl 0 rfl) ?_
  refine lv_iload_n hx hb dL_origin_3 rfl (lv_at hl 1 rfl) ?_
  have hFc := va_free (wc := (wC n a ca u)) hD hS hA [0, 1, 2, 3, 4, 5] rfl
  refine zx_l (σ := StC) (τ := Int32 × StC) (tys1 := fun _ => tC ca) (tyX := fun _ => tC ca) (w1 := fun z => wC n a ca z) (wX := fun z => wC n a ca z.2) (EX := fun E z => E = "java/lang/IllegalArgumentException") (w0 := (wC n a ca u)) (wr := [(qo, .inl (co, 1, .inr (.inl f)))]) (vx_runV (As := [.int b]) (rest := [.int 0, .ref qo]) ⟨hx, hb, hml, hown, hts⟩ (c_C_origin l hl9 sa dC dI n a ca u H.size b) (cwV 1 hts gL_origin_X0_origin rfl rfl rfl (by decide +kernel) ⟨Nat.le_of_ble_eq_true rfl, Nat.le_of_ble_eq_true rfl⟩) ⟨fun a U g mk q => ⟨q.1, ⟨q.2.1.1, q.2.1.2.1, va_K.moved (u := U) (U := U.calling g mk a) (Vm.Alike.refl U.vm) q.2.1.2.2.1, q.2.1.2.2.2⟩, q.2.2.call⟩, (va_recv (q0 := 0) (ci := 0) (q := (RX0, TX0, 13)) hK hP rfl rfl), fun U hU hW => ⟨rfl, (zr_pre (As := [.ref (a 0)]) (hK.sub (tys' := tC ca) [0, 1, 2, 3, 4] rfl) (hP.sub (ws' := (wC n a ca u)) [0, 1, 2, 3, 4, 5] rfl) (hD.sub (ws' := (wC n a ca u)) [0, 1, 2, 3, 4, 5] (by decide) rfl) U hU hW).2, hE.to hW (fun q h1 h2 => by rw [hU]; exact hS.2.1 q h1 h2) hFc⟩⟩ rfl rfl hl.1 rfl (lv_room (Nat.le_of_ble_eq_true rfl)) dL_origin_4 ⟨Nat.le_of_ble_eq_true rfl, Nat.le_of_ble_eq_true rfl⟩) hP hD hS hA [0, 1, 2, 3, 4, 5] [6] rfl rfl (by decide) (by decide) (fun E ce q9 z H locs hpx hEX hP hD hK1 hS hce hcv hcl => ?_) (fun r z H locs hp hP hD hK1 hS => ?_)
  · obtain ⟨kz, uz⟩ := z
    obtain ⟨huz, hkc, hk12⟩ := hpx
    have huz : u = uz := huz.symm
    subst huz
    dsimp only at hkc hk12 hEX
    subst hEX
    have hP : va_P (dC, dI) vwCl (wL n a ca qo co (u, f)) H := hP.sub (ws' := (wL n a ca qo co (u, f))) [1, 2, 3, 4, 5, 6, 0] rfl
    have hD : va_D A (wL n a ca qo co (u, f)) := hD.sub (ws' := (wL n a ca qo co (u, f))) [1, 2, 3, 4, 5, 6, 0] (by decide) rfl
    refine vx_catch (own := RL) (name := "java/lang/IllegalArgumentException") (E := "java/lang/IllegalArgumentException") hown [] ⟨0, 8, 11, 13⟩ [] (by rw [hTab]; rfl) (fun z hz => nomatch hz) (by decide) (by decide) (hts _ (List.mem_cons_of_mem _ mk_L13)) (va_Nw.use rfl hE.2.1.1) hce hcv hcl ?_
    refine lv_astore_n hx hb dL_origin_11 rfl hl (by decide) rfl (fun ls hl => ?_)
    have hl : lv_has ls 4 [(3, .ref q9), (0, .ref (a 0)), (1, .int b), (2, .ref qo)] := hl
    refine lv_iconst (v := 1) hx hb dL_origin_12 (by decide) ?_
    exact W.iret (v := 1) hx hb hr (fun t ht hW => ⟨⟨1, (u, f), rfl, Or.inr ⟨(k_ne (hkc.symm.trans hk12)), (hk12.symm.trans hkc), rfl⟩, by rw [ht]; exact hP, va_K.moved hW.alike hK, hD⟩, hS.F ht⟩) hS.2.2 dL_origin_13
  · obtain ⟨hk0, hr9, hz9⟩ := hp
    subst hr9
    have hz9 : u = z := hz9.symm
    subst hz9
    have hP : va_P (dC, dI) vwCl (wL n a ca qo co (u, f)) H := hP.sub (ws' := (wL n a ca qo co (u, f))) [1, 2, 3, 4, 5, 6, 0] rfl
    have hD : va_D A (wL n a ca qo co (u, f)) := hD.sub (ws' := (wL n a ca qo co (u, f))) [1, 2, 3, 4, 5, 6, 0] (by decide) rfl
    refine zr_last (k := 0) hx hb hK hP hD hS 6 5 rfl rfl (by decide) (by decide) dL_origin_7 (fun H locs hP hD hS => ?_)
    have hP : va_P (dC, dI) vwCl (wL n a ca qo co (u, vp_updL f 0 (cs_o u b.toNatClampNeg))) H := hP
    have hD : va_D A (wL n a ca qo co (u, vp_updL f 0 (cs_o u b.toNatClampNeg))) := hD
    refine lv_goto hx hb dL_origin_8 (tgt := 14) rfl ?_
    refine lv_iconst (v := 0) hx hb dL_origin_14 (by decide) ?_
    exact W.iret (v := 0) hx hb hr (fun t ht hW => ⟨⟨0, (u, vp_updL f 0 (cs_o u b.toNatClampNeg)), rfl, Or.inl ⟨hk0, rfl, rfl⟩, by rw [ht]; exact hP, va_K.moved hW.alike hK, hD⟩, hS.F ht⟩) hS.2.2 dL_origin_15
set_option maxHeartbeats 4000000 in
set_option maxRecDepth 100000 in
theorem c_L_order (l : Launch) (hl9 : l.stackTraces = false) (sa : Nat → Nat) (dC : Nat → ClassId) (dI : Nat → Nat → Nat) (n : Nat) (a : Nat → Nat) (ca : Nat → ClassId) (u : StC) (qo : Nat) (co : ClassId) (f : Nat → Int64) (sz : Nat) (q : Int32) (hn : n ≤ 12) : Met l yL_order wsL_order ({ frames := 7, cells := 1, slots := 6, locals := 118 }) (va_Pc [.ref (a 0), .int q, .ref qo] (fun U => zr_P (dC, dI) vwCl (tC ca ++ [(co, .long)]) (wL n a ca qo co (u, f)) sz U ∧ zE sa (va_A (wL n a ca qo co (u, f)) sz) U ∧ zC U)) (va_Qi (fun r (z : StC × (Nat → Int64)) => (kc_order (fc_order (cs_k u) (cs_l u) n q n 0) = 0 ∧ r = 0 ∧ z = (u, vp_updL f 0 (((fc_order (cs_k u) (cs_l u) n q n 0).getD 0).toInt64))) ∨ (¬ kc_order (fc_order (cs_k u) (cs_l u) n q n 0) = 0 ∧ r = kc_order (fc_order (cs_k u) (cs_l u) n q n 0) ∧ z = (u, f))) (fun z => zr_B (dC, dI) vwCl (tC ca ++ [(co, .long)]) (va_A (wL n a ca qo co (u, f)) sz) (wL n a ca qo co z)) (va_A (wL n a ca qo co (u, f)) sz)) 1 6 (va_A (wL n a ca qo co (u, f)) sz) := by
  refine va_MetW (cc := cL_order) (maxL := 4) (ret := (some .int)) (by decide) rfl ?_
  intro p e s m args below meth c s₁ B hml hv
  obtain ⟨rfl, ⟨hsz, hP, hK, hD0⟩, hE, hC⟩ := hv
  have hx := B.exec
  have hb := B.bytes
  have hr := B.returns
  have hts := atoms_spec (ws := wsL_order) B.pre
  have hTab := vx_table (x := yL_order) B (hts _ List.mem_cons_self)
  have hown : s.vm.findClass RL = some m.cls := findClass_of_methodNamed B.named
  have hlocks := B.notSynchronized
  subst hsz
  have hD := hD0.self (sz := s.heap.size)
  generalize hAe : va_A (wL n a ca qo co (u, f)) s.heap.size = A at hD hE ⊢
  have hA : ∀ q : Nat, s.heap.size ≤ q → A q := fun q h => by rw [← hAe]; exact Or.inr h
  obtain ⟨H, hH, hP, hS⟩ : ∃ H, H = s.heap ∧ va_P (dC, dI) vwCl (wL n a ca qo co (u, f)) H ∧ va_S A s.heap H [] := ⟨_, rfl, hP, va_S.rf⟩
  rw [← hH]
  have hl := lv_entry ([.ref (a 0), .int q, .ref qo]) (n := 4) (Nat.le_of_ble_eq_true rfl)
  rw [lg_entry_eq]
  generalize (lg_sl ([.ref (a 0), .int q, .ref qo]) ++ List.replicate (4 - (lg_sl ([.ref (a 0), .int q, .ref qo])).length) Slot.unset).toArray = ls at hl ⊢
  have hl : lv_has ls 4 [(0, .ref (a 0)), (1, .int q), (2, .ref qo)] := hl
  refine lv_aload_n hx hb dL_order_0 rfl (lv_at hl 2 rfl) ?_
  refine lv_iconst (v := 0) hx hb dL_order_1 (by decide) ?_
  refine lv_aload_n hx hb dL_order_2 rfl (lv_at hl 0 rfl) ?_
  refine lv_iload_n hx hb dL_order_3 rfl (lv_at hl 1 rfl) ?_
  have hFc := va_free (wc := (wC n a ca u)) hD hS hA [0, 1, 2, 3, 4, 5] rfl
  refine zx_i (σ := StC) (τ := Int32 × StC) (tys1 := fun _ => tC ca) (tyX := fun _ => tC ca) (w1 := fun z => wC n a ca z) (wX := fun z => wC n a ca z.2) (EX := fun E z => E = "java/lang/IndexOutOfBoundsException") (w0 := (wC n a ca u)) (wr := [(qo, .inl (co, 1, .inr (.inl f)))]) (vx_runV (As := [.int q]) (rest := [.int 0, .ref qo]) ⟨hx, hb, hml, hown, hts⟩ (c_C_order l hl9 sa dC dI n a ca u H.size q hn) (cwV 1 hts gL_order_X0_order rfl rfl rfl (by decide +kernel) ⟨Nat.le_of_ble_eq_true rfl, Nat.le_of_ble_eq_true rfl⟩) ⟨fun a U g mk q => ⟨q.1, ⟨q.2.1.1, q.2.1.2.1, va_K.moved (u := U) (U := U.calling g mk a) (Vm.Alike.refl U.vm) q.2.1.2.2.1, q.2.1.2.2.2⟩, q.2.2.call⟩, (va_recv (q0 := 0) (ci := 0) (q := (RX0, TX0, 13)) hK hP rfl rfl), fun U hU hW => ⟨rfl, (zr_pre (As := [.ref (a 0)]) (hK.sub (tys' := tC ca) [0, 1, 2, 3, 4] rfl) (hP.sub (ws' := (wC n a ca u)) [0, 1, 2, 3, 4, 5] rfl) (hD.sub (ws' := (wC n a ca u)) [0, 1, 2, 3, 4, 5] (by decide) rfl) U hU hW).2, hE.to hW (fun q h1 h2 => by rw [hU]; exact hS.2.1 q h1 h2) hFc⟩⟩ rfl rfl hl.1 rfl (lv_room (Nat.le_of_ble_eq_true rfl)) dL_order_4 ⟨Nat.le_of_ble_eq_true rfl, Nat.le_of_ble_eq_true rfl⟩) hP hD hS hA [0, 1, 2, 3, 4, 5] [6] rfl rfl (by decide) (by decide) (fun E ce q9 z H locs hpx hEX hP hD hK1 hS hce hcv hcl => ?_) (fun r z H locs hp hP hD hK1 hS => ?_)
  · obtain ⟨kz, uz⟩ := z
    obtain ⟨huz, hkc, hk12⟩ := hpx
    have huz : u = uz := huz.symm
    subst huz
    dsimp only at hkc hk12 hEX
    subst hEX
    have hP : va_P (dC, dI) vwCl (wL n a ca qo co (u, f)) H := hP.sub (ws' := (wL n a ca qo co (u, f))) [1, 2, 3, 4, 5, 6, 0] rfl
    have hD : va_D A (wL n a ca qo co (u, f)) := hD.sub (ws' := (wL n a ca qo co (u, f))) [1, 2, 3, 4, 5, 6, 0] (by decide) rfl
    refine vx_catch (own := RL) (name := "java/lang/IndexOutOfBoundsException") (E := "java/lang/IndexOutOfBoundsException") hown [] ⟨0, 9, 12, 47⟩ [] (by rw [hTab]; rfl) (fun z hz => nomatch hz) (by decide) (by decide) (hts _ (List.mem_cons_of_mem _ mk_L47)) (va_Nw.use rfl hE.2.1.2.2.2.1) hce hcv hcl ?_
    refine lv_astore_n hx hb dL_order_12 rfl hl (by decide) rfl (fun ls hl => ?_)
    have hl : lv_has ls 4 [(3, .ref q9), (0, .ref (a 0)), (1, .int q), (2, .ref qo)] := hl
    refine lv_iconst (v := 1) hx hb dL_order_13 (by decide) ?_
    exact W.iret (v := 1) hx hb hr (fun t ht hW => ⟨⟨1, (u, f), rfl, Or.inr ⟨(k_ne (hkc.symm.trans hk12)), (hk12.symm.trans hkc), rfl⟩, by rw [ht]; exact hP, va_K.moved hW.alike hK, hD⟩, hS.F ht⟩) hS.2.2 dL_order_14
  · obtain ⟨hk0, hr9, hz9⟩ := hp
    subst hr9
    have hz9 : u = z := hz9.symm
    subst hz9
    have hP : va_P (dC, dI) vwCl (wL n a ca qo co (u, f)) H := hP.sub (ws' := (wL n a ca qo co (u, f))) [1, 2, 3, 4, 5, 6, 0] rfl
    have hD : va_D A (wL n a ca qo co (u, f)) := hD.sub (ws' := (wL n a ca qo co (u, f))) [1, 2, 3, 4, 5, 6, 0] (by decide) rfl
    refine lv_i2l hx hb dL_order_7 rfl ?_
    refine zr_last (k := 0) hx hb hK hP hD hS 6 5 rfl rfl (by decide) (by decide) dL_order_8 (fun H locs hP hD hS => ?_)
    have hP : va_P (dC, dI) vwCl (wL n a ca qo co (u, vp_updL f 0 (((fc_order (cs_k u) (cs_l u) n q n 0).getD 0).toInt64))) H := hP
    have hD : va_D A (wL n a ca qo co (u, vp_updL f 0 (((fc_order (cs_k u) (cs_l u) n q n 0).getD 0).toInt64))) := hD
    refine lv_goto hx hb dL_order_9 (tgt := 15) rfl ?_
    refine lv_iconst (v := 0) hx hb dL_order_15 (by decide) ?_
    exact W.iret (v := 0) hx hb hr (fun t ht hW => ⟨⟨0, (u, vp_updL f 0 (((fc_order (cs_k u) (cs_l u) n q n 0).getD 0).toInt64)), rfl, Or.inl ⟨hk0, rfl, rfl⟩, by rw [ht]; exact hP, va_K.moved hW.alike hK, hD⟩, hS.F ht⟩) hS.2.2 dL_order_16
set_option maxHeartbeats 4000000 in
set_option maxRecDepth 100000 in
theorem c_L_noted (l : Launch) (hl9 : l.stackTraces = false) (sa : Nat → Nat) (dC : Nat → ClassId) (dI : Nat → Nat → Nat) (n : Nat) (a : Nat → Nat) (ca : Nat → ClassId) (u : StC) (qo : Nat) (co : ClassId) (f : Nat → Int64) (sz : Nat) (q : Int32) (hn : n ≤ 12) : Met l yL_noted wsL_noted ({ frames := 7, cells := 1, slots := 6, locals := 117 }) (va_Pc [.ref (a 0), .int q, .ref qo] (fun U => zr_P (dC, dI) vwCl (tC ca ++ [(co, .long)]) (wL n a ca qo co (u, f)) sz U ∧ zE sa (va_A (wL n a ca qo co (u, f)) sz) U ∧ zC U)) (va_Qi (fun r (z : StC × (Nat → Int64)) => (kc_noted n q = 0 ∧ r = 0 ∧ z = (u, vp_updL f 0 ((cs_n u q.toNatClampNeg).toInt64))) ∨ (¬ kc_noted n q = 0 ∧ r = kc_noted n q ∧ z = (u, f))) (fun z => zr_B (dC, dI) vwCl (tC ca ++ [(co, .long)]) (va_A (wL n a ca qo co (u, f)) sz) (wL n a ca qo co z)) (va_A (wL n a ca qo co (u, f)) sz)) 1 6 (va_A (wL n a ca qo co (u, f)) sz) := by
  refine va_MetW (cc := cL_noted) (maxL := 4) (ret := (some .int)) (by decide) rfl ?_
  intro p e s m args below meth c s₁ B hml hv
  obtain ⟨rfl, ⟨hsz, hP, hK, hD0⟩, hE, hC⟩ := hv
  have hx := B.exec
  have hb := B.bytes
  have hr := B.returns
  have hts := atoms_spec (ws := wsL_noted) B.pre
  have hTab := vx_table (x := yL_noted) B (hts _ List.mem_cons_self)
  have hown : s.vm.findClass RL = some m.cls := findClass_of_methodNamed B.named
  have hlocks := B.notSynchronized
  subst hsz
  have hD := hD0.self (sz := s.heap.size)
  generalize hAe : va_A (wL n a ca qo co (u, f)) s.heap.size = A at hD hE ⊢
  have hA : ∀ q : Nat, s.heap.size ≤ q → A q := fun q h => by rw [← hAe]; exact Or.inr h
  obtain ⟨H, hH, hP, hS⟩ : ∃ H, H = s.heap ∧ va_P (dC, dI) vwCl (wL n a ca qo co (u, f)) H ∧ va_S A s.heap H [] := ⟨_, rfl, hP, va_S.rf⟩
  rw [← hH]
  have hl := lv_entry ([.ref (a 0), .int q, .ref qo]) (n := 4) (Nat.le_of_ble_eq_true rfl)
  rw [lg_entry_eq]
  generalize (lg_sl ([.ref (a 0), .int q, .ref qo]) ++ List.replicate (4 - (lg_sl ([.ref (a 0), .int q, .ref qo])).length) Slot.unset).toArray = ls at hl ⊢
  have hl : lv_has ls 4 [(0, .ref (a 0)), (1, .int q), (2, .ref qo)] := hl
  refine lv_aload_n hx hb dL_noted_0 rfl (lv_at hl 2 rfl) ?_
  refine lv_iconst (v := 0) hx hb dL_noted_1 (by decide) ?_
  refine lv_aload_n hx hb dL_noted_2 rfl (lv_at hl 0 rfl) ?_
  refine lv_iload_n hx hb dL_noted_3 rfl (lv_at hl 1 rfl) ?_
  have hFc := va_free (wc := (wC n a ca u)) hD hS hA [0, 1, 2, 3, 4, 5] rfl
  refine zx_i (σ := StC) (τ := Int32 × StC) (tys1 := fun _ => tC ca) (tyX := fun _ => tC ca) (w1 := fun z => wC n a ca z) (wX := fun z => wC n a ca z.2) (EX := fun E z => E = "java/lang/IndexOutOfBoundsException") (w0 := (wC n a ca u)) (wr := [(qo, .inl (co, 1, .inr (.inl f)))]) (vx_runV (As := [.int q]) (rest := [.int 0, .ref qo]) ⟨hx, hb, hml, hown, hts⟩ (c_C_noted l hl9 sa dC dI n a ca u H.size q hn) (cwV 1 hts gL_noted_X0_noted rfl rfl rfl (by decide +kernel) ⟨Nat.le_of_ble_eq_true rfl, Nat.le_of_ble_eq_true rfl⟩) ⟨fun a U g mk q => ⟨q.1, ⟨q.2.1.1, q.2.1.2.1, va_K.moved (u := U) (U := U.calling g mk a) (Vm.Alike.refl U.vm) q.2.1.2.2.1, q.2.1.2.2.2⟩, q.2.2.call⟩, (va_recv (q0 := 0) (ci := 0) (q := (RX0, TX0, 13)) hK hP rfl rfl), fun U hU hW => ⟨rfl, (zr_pre (As := [.ref (a 0)]) (hK.sub (tys' := tC ca) [0, 1, 2, 3, 4] rfl) (hP.sub (ws' := (wC n a ca u)) [0, 1, 2, 3, 4, 5] rfl) (hD.sub (ws' := (wC n a ca u)) [0, 1, 2, 3, 4, 5] (by decide) rfl) U hU hW).2, hE.to hW (fun q h1 h2 => by rw [hU]; exact hS.2.1 q h1 h2) hFc⟩⟩ rfl rfl hl.1 rfl (lv_room (Nat.le_of_ble_eq_true rfl)) dL_noted_4 ⟨Nat.le_of_ble_eq_true rfl, Nat.le_of_ble_eq_true rfl⟩) hP hD hS hA [0, 1, 2, 3, 4, 5] [6] rfl rfl (by decide) (by decide) (fun E ce q9 z H locs hpx hEX hP hD hK1 hS hce hcv hcl => ?_) (fun r z H locs hp hP hD hK1 hS => ?_)
  · obtain ⟨kz, uz⟩ := z
    obtain ⟨huz, hkc, hk12⟩ := hpx
    have huz : u = uz := huz.symm
    subst huz
    dsimp only at hkc hk12 hEX
    subst hEX
    have hP : va_P (dC, dI) vwCl (wL n a ca qo co (u, f)) H := hP.sub (ws' := (wL n a ca qo co (u, f))) [1, 2, 3, 4, 5, 6, 0] rfl
    have hD : va_D A (wL n a ca qo co (u, f)) := hD.sub (ws' := (wL n a ca qo co (u, f))) [1, 2, 3, 4, 5, 6, 0] (by decide) rfl
    refine vx_catch (own := RL) (name := "java/lang/IndexOutOfBoundsException") (E := "java/lang/IndexOutOfBoundsException") hown [] ⟨0, 9, 12, 47⟩ [] (by rw [hTab]; rfl) (fun z hz => nomatch hz) (by decide) (by decide) (hts _ (List.mem_cons_of_mem _ mk_L47)) (va_Nw.use rfl hE.2.1.2.2.2.1) hce hcv hcl ?_
    refine lv_astore_n hx hb dL_noted_12 rfl hl (by decide) rfl (fun ls hl => ?_)
    have hl : lv_has ls 4 [(3, .ref q9), (0, .ref (a 0)), (1, .int q), (2, .ref qo)] := hl
    refine lv_iconst (v := 1) hx hb dL_noted_13 (by decide) ?_
    exact W.iret (v := 1) hx hb hr (fun t ht hW => ⟨⟨1, (u, f), rfl, Or.inr ⟨(k_ne (hkc.symm.trans hk12)), (hk12.symm.trans hkc), rfl⟩, by rw [ht]; exact hP, va_K.moved hW.alike hK, hD⟩, hS.F ht⟩) hS.2.2 dL_noted_14
  · obtain ⟨hk0, hr9, hz9⟩ := hp
    subst hr9
    have hz9 : u = z := hz9.symm
    subst hz9
    have hP : va_P (dC, dI) vwCl (wL n a ca qo co (u, f)) H := hP.sub (ws' := (wL n a ca qo co (u, f))) [1, 2, 3, 4, 5, 6, 0] rfl
    have hD : va_D A (wL n a ca qo co (u, f)) := hD.sub (ws' := (wL n a ca qo co (u, f))) [1, 2, 3, 4, 5, 6, 0] (by decide) rfl
    refine lv_i2l hx hb dL_noted_7 rfl ?_
    refine zr_last (k := 0) hx hb hK hP hD hS 6 5 rfl rfl (by decide) (by decide) dL_noted_8 (fun H locs hP hD hS => ?_)
    have hP : va_P (dC, dI) vwCl (wL n a ca qo co (u, vp_updL f 0 ((cs_n u q.toNatClampNeg).toInt64))) H := hP
    have hD : va_D A (wL n a ca qo co (u, vp_updL f 0 ((cs_n u q.toNatClampNeg).toInt64))) := hD
    refine lv_goto hx hb dL_noted_9 (tgt := 15) rfl ?_
    refine lv_iconst (v := 0) hx hb dL_noted_15 (by decide) ?_
    exact W.iret (v := 0) hx hb hr (fun t ht hW => ⟨⟨0, (u, vp_updL f 0 ((cs_n u q.toNatClampNeg).toInt64)), rfl, Or.inl ⟨hk0, rfl, rfl⟩, by rw [ht]; exact hP, va_K.moved hW.alike hK, hD⟩, hS.F ht⟩) hS.2.2 dL_noted_16
set_option maxHeartbeats 4000000 in
set_option maxRecDepth 100000 in
theorem c_L_figure (l : Launch) (hl9 : l.stackTraces = false) (sa : Nat → Nat) (dC : Nat → ClassId) (dI : Nat → Nat → Nat) (n : Nat) (a : Nat → Nat) (ca : Nat → ClassId) (u : StC) (qo : Nat) (co : ClassId) (f : Nat → Int64) (sz : Nat) (q : Int32) (hn : n ≤ 12) : Met l yL_figure wsL_figure ({ frames := 7, cells := 1, slots := 6, locals := 117 }) (va_Pc [.ref (a 0), .int q, .ref qo] (fun U => zr_P (dC, dI) vwCl (tC ca ++ [(co, .long)]) (wL n a ca qo co (u, f)) sz U ∧ zE sa (va_A (wL n a ca qo co (u, f)) sz) U ∧ zC U)) (va_Qi (fun r (z : StC × (Nat → Int64)) => (kc_fig q = 0 ∧ r = 0 ∧ z = (u, vp_updL f 0 ((fc_fig n u q).toInt64))) ∨ (¬ kc_fig q = 0 ∧ r = kc_fig q ∧ z = (u, f))) (fun z => zr_B (dC, dI) vwCl (tC ca ++ [(co, .long)]) (va_A (wL n a ca qo co (u, f)) sz) (wL n a ca qo co z)) (va_A (wL n a ca qo co (u, f)) sz)) 1 6 (va_A (wL n a ca qo co (u, f)) sz) := by
  refine va_MetW (cc := cL_figure) (maxL := 4) (ret := (some .int)) (by decide) rfl ?_
  intro p e s m args below meth c s₁ B hml hv
  obtain ⟨rfl, ⟨hsz, hP, hK, hD0⟩, hE, hC⟩ := hv
  have hx := B.exec
  have hb := B.bytes
  have hr := B.returns
  have hts := atoms_spec (ws := wsL_figure) B.pre
  have hTab := vx_table (x := yL_figure) B (hts _ List.mem_cons_self)
  have hown : s.vm.findClass RL = some m.cls := findClass_of_methodNamed B.named
  have hlocks := B.notSynchronized
  subst hsz
  have hD := hD0.self (sz := s.heap.size)
  generalize hAe : va_A (wL n a ca qo co (u, f)) s.heap.size = A at hD hE ⊢
  have hA : ∀ q : Nat, s.heap.size ≤ q → A q := fun q h => by rw [← hAe]; exact Or.inr h
  obtain ⟨H, hH, hP, hS⟩ : ∃ H, H = s.heap ∧ va_P (dC, dI) vwCl (wL n a ca qo co (u, f)) H ∧ va_S A s.heap H [] := ⟨_, rfl, hP, va_S.rf⟩
  rw [← hH]
  have hl := lv_entry ([.ref (a 0), .int q, .ref qo]) (n := 4) (Nat.le_of_ble_eq_true rfl)
  rw [lg_entry_eq]
  generalize (lg_sl ([.ref (a 0), .int q, .ref qo]) ++ List.replicate (4 - (lg_sl ([.ref (a 0), .int q, .ref qo])).length) Slot.unset).toArray = ls at hl ⊢
  have hl : lv_has ls 4 [(0, .ref (a 0)), (1, .int q), (2, .ref qo)] := hl
  refine lv_aload_n hx hb dL_figure_0 rfl (lv_at hl 2 rfl) ?_
  refine lv_iconst (v := 0) hx hb dL_figure_1 (by decide) ?_
  refine lv_aload_n hx hb dL_figure_2 rfl (lv_at hl 0 rfl) ?_
  refine lv_iload_n hx hb dL_figure_3 rfl (lv_at hl 1 rfl) ?_
  have hFc := va_free (wc := (wC n a ca u)) hD hS hA [0, 1, 2, 3, 4, 5] rfl
  refine zx_i (σ := StC) (τ := Int32 × StC) (tys1 := fun _ => tC ca) (tyX := fun _ => tC ca) (w1 := fun z => wC n a ca z) (wX := fun z => wC n a ca z.2) (EX := fun E z => E = "java/lang/IllegalArgumentException") (w0 := (wC n a ca u)) (wr := [(qo, .inl (co, 1, .inr (.inl f)))]) (vx_runV (As := [.int q]) (rest := [.int 0, .ref qo]) ⟨hx, hb, hml, hown, hts⟩ (c_C_figure l hl9 sa dC dI n a ca u H.size q hn) (cwV 1 hts gL_figure_X0_figure rfl rfl rfl (by decide +kernel) ⟨Nat.le_of_ble_eq_true rfl, Nat.le_of_ble_eq_true rfl⟩) ⟨fun a U g mk q => ⟨q.1, ⟨q.2.1.1, q.2.1.2.1, va_K.moved (u := U) (U := U.calling g mk a) (Vm.Alike.refl U.vm) q.2.1.2.2.1, q.2.1.2.2.2⟩, q.2.2.call⟩, (va_recv (q0 := 0) (ci := 0) (q := (RX0, TX0, 13)) hK hP rfl rfl), fun U hU hW => ⟨rfl, (zr_pre (As := [.ref (a 0)]) (hK.sub (tys' := tC ca) [0, 1, 2, 3, 4] rfl) (hP.sub (ws' := (wC n a ca u)) [0, 1, 2, 3, 4, 5] rfl) (hD.sub (ws' := (wC n a ca u)) [0, 1, 2, 3, 4, 5] (by decide) rfl) U hU hW).2, hE.to hW (fun q h1 h2 => by rw [hU]; exact hS.2.1 q h1 h2) hFc⟩⟩ rfl rfl hl.1 rfl (lv_room (Nat.le_of_ble_eq_true rfl)) dL_figure_4 ⟨Nat.le_of_ble_eq_true rfl, Nat.le_of_ble_eq_true rfl⟩) hP hD hS hA [0, 1, 2, 3, 4, 5] [6] rfl rfl (by decide) (by decide) (fun E ce q9 z H locs hpx hEX hP hD hK1 hS hce hcv hcl => ?_) (fun r z H locs hp hP hD hK1 hS => ?_)
  · obtain ⟨kz, uz⟩ := z
    obtain ⟨huz, hkc, hk12⟩ := hpx
    have huz : u = uz := huz.symm
    subst huz
    dsimp only at hkc hk12 hEX
    subst hEX
    have hP : va_P (dC, dI) vwCl (wL n a ca qo co (u, f)) H := hP.sub (ws' := (wL n a ca qo co (u, f))) [1, 2, 3, 4, 5, 6, 0] rfl
    have hD : va_D A (wL n a ca qo co (u, f)) := hD.sub (ws' := (wL n a ca qo co (u, f))) [1, 2, 3, 4, 5, 6, 0] (by decide) rfl
    refine vx_catch (own := RL) (name := "java/lang/IllegalArgumentException") (E := "java/lang/IllegalArgumentException") hown [] ⟨0, 9, 12, 13⟩ [] (by rw [hTab]; rfl) (fun z hz => nomatch hz) (by decide) (by decide) (hts _ (List.mem_cons_of_mem _ mk_L13)) (va_Nw.use rfl hE.2.1.1) hce hcv hcl ?_
    refine lv_astore_n hx hb dL_figure_12 rfl hl (by decide) rfl (fun ls hl => ?_)
    have hl : lv_has ls 4 [(3, .ref q9), (0, .ref (a 0)), (1, .int q), (2, .ref qo)] := hl
    refine lv_iconst (v := 1) hx hb dL_figure_13 (by decide) ?_
    exact W.iret (v := 1) hx hb hr (fun t ht hW => ⟨⟨1, (u, f), rfl, Or.inr ⟨(k_ne (hkc.symm.trans hk12)), (hk12.symm.trans hkc), rfl⟩, by rw [ht]; exact hP, va_K.moved hW.alike hK, hD⟩, hS.F ht⟩) hS.2.2 dL_figure_14
  · obtain ⟨hk0, hr9, hz9⟩ := hp
    subst hr9
    have hz9 : u = z := hz9.symm
    subst hz9
    have hP : va_P (dC, dI) vwCl (wL n a ca qo co (u, f)) H := hP.sub (ws' := (wL n a ca qo co (u, f))) [1, 2, 3, 4, 5, 6, 0] rfl
    have hD : va_D A (wL n a ca qo co (u, f)) := hD.sub (ws' := (wL n a ca qo co (u, f))) [1, 2, 3, 4, 5, 6, 0] (by decide) rfl
    refine lv_i2l hx hb dL_figure_7 rfl ?_
    refine zr_last (k := 0) hx hb hK hP hD hS 6 5 rfl rfl (by decide) (by decide) dL_figure_8 (fun H locs hP hD hS => ?_)
    have hP : va_P (dC, dI) vwCl (wL n a ca qo co (u, vp_updL f 0 ((fc_fig n u q).toInt64))) H := hP
    have hD : va_D A (wL n a ca qo co (u, vp_updL f 0 ((fc_fig n u q).toInt64))) := hD
    refine lv_goto hx hb dL_figure_9 (tgt := 15) rfl ?_
    refine lv_iconst (v := 0) hx hb dL_figure_15 (by decide) ?_
    exact W.iret (v := 0) hx hb hr (fun t ht hW => ⟨⟨0, (u, vp_updL f 0 ((fc_fig n u q).toInt64)), rfl, Or.inl ⟨hk0, rfl, rfl⟩, by rw [ht]; exact hP, va_K.moved hW.alike hK, hD⟩, hS.F ht⟩) hS.2.2 dL_figure_16
