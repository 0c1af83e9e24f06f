set_option maxHeartbeats 4000000 in
set_option maxRecDepth 100000 in
theorem c_L_dirty (l : Launch) (hl9 : l.stackTraces = false) (sa : Nat → Nat) (dC : Nat → ClassId) (dI : Nat → Nat → Nat) (n : Nat) (a : Nat → Nat) (ca : Nat → ClassId) (u : StC) (qo : Nat) (co : ClassId) (f : Nat → Int64) (sz : Nat) (b : Int32) (hn : n ≤ 12) : Met l yL_dirty wsL_dirty ({ frames := 8, cells := 2, slots := 12, locals := 138 }) (va_Pc [.ref (a 0), .int b, .ref qo] (fun U => zr_P (dC, dI) vwCl (tC ca ++ [(co, .long)]) (wL n a ca qo co (u, f)) sz U ∧ zE sa (va_A (wL n a ca qo co (u, f)) sz) U ∧ zC U)) (va_Qi (fun r (z : StC × (Nat → Int64)) => (kc_dirty n (cs_k u) b = 0 ∧ r = 0 ∧ z = (u, vp_updL f 0 (if fc_isd (cs_k u ((fc_find (cs_k u) b.toNatClampNeg n 0).getD 0)) = 0 then 0 else 1))) ∨ (¬ kc_dirty n (cs_k u) b = 0 ∧ r = kc_dirty n (cs_k u) b ∧ z = (u, f))) (fun z => zr_B (dC, dI) vwCl (tC ca ++ [(co, .long)]) (va_A (wL n a ca qo co (u, f)) sz) (wL n a ca qo co z)) (va_A (wL n a ca qo co (u, f)) sz)) 2 12 (va_A (wL n a ca qo co (u, f)) sz) := by
  refine va_MetW (cc := cL_dirty) (maxL := 4) (ret := (some .int)) (by decide) rfl ?_
  intro p e s m args below meth c s₁ B hml hv
  obtain ⟨rfl, ⟨hsz, hP, hK, hD0⟩, hE, hC⟩ := hv
  have hx := B.exec
  have hb := B.bytes
  have hr := B.returns
  have hts := atoms_spec (ws := wsL_dirty) B.pre
  have hTab := vx_table (x := yL_dirty) B (hts _ List.mem_cons_self)
  have hown : s.vm.findClass RL = some m.cls := findClass_of_methodNamed B.named
  have hlocks := B.notSynchronized
  subst hsz
  have hD := hD0.self (sz := s.heap.size)
  generalize hAe : va_A (wL n a ca qo co (u, f)) s.heap.size = A at hD hE ⊢
  have hA : ∀ q : Nat, s.heap.size ≤ q → A q := fun q h => by rw [← hAe]; exact Or.inr h
  obtain ⟨H, hH, hP, hS⟩ : ∃ H, H = s.heap ∧ va_P (dC, dI) vwCl (wL n a ca qo co (u, f)) H ∧ va_S A s.heap H [] := ⟨_, rfl, hP, va_S.rf⟩
  rw [← hH]
  have hl := lv_entry ([.ref (a 0), .int b, .ref qo]) (n := 4) (Nat.le_of_ble_eq_true rfl)
  rw [lg_entry_eq]
  generalize (lg_sl ([.ref (a 0), .int b, .ref qo]) ++ List.replicate (4 - (lg_sl ([.ref (a 0), .int b, .ref qo])).length) Slot.unset).toArray = ls at hl ⊢
  have hl : lv_has ls 4 [(0, .ref (a 0)), (1, .int b), (2, .ref qo)] := hl
  refine lv_aload_n hx hb dL_dirty_0 rfl (lv_at hl 2 rfl) ?_
  refine lv_iconst (v := 0) hx hb dL_dirty_1 (by decide) ?_
  refine lv_aload_n hx hb dL_dirty_2 rfl (lv_at hl 0 rfl) ?_
  refine lv_iload_n hx hb dL_dirty_3 rfl (lv_at hl 1 rfl) ?_
  have hFc := va_free (wc := (wC n a ca u)) hD hS hA [0, 1, 2, 3, 4, 5] rfl
  refine zx_i (σ := StC) (τ := Int32 × StC) (tys1 := fun _ => tC ca) (tyX := fun _ => tC ca) (w1 := fun z => wC n a ca z) (wX := fun z => wC n a ca z.2) (EX := fun E z => E = (if z.1 = 1 then "java/lang/IllegalArgumentException" else "java/util/NoSuchElementException")) (w0 := (wC n a ca u)) (wr := [(qo, .inl (co, 1, .inr (.inl f)))]) (vx_runV (As := [.int b]) (rest := [.int 0, .ref qo]) ⟨hx, hb, hml, hown, hts⟩ (c_C_dirty l hl9 sa dC dI n a ca u H.size b hn) (cwV 1 hts gL_dirty_X0_dirty rfl rfl rfl (by decide +kernel) ⟨Nat.le_of_ble_eq_true rfl, Nat.le_of_ble_eq_true rfl⟩) ⟨fun a U g mk q => ⟨q.1, ⟨q.2.1.1, q.2.1.2.1, va_K.moved (u := U) (U := U.calling g mk a) (Vm.Alike.refl U.vm) q.2.1.2.2.1, q.2.1.2.2.2⟩, q.2.2.call⟩, (va_recv (q0 := 0) (ci := 0) (q := (RX0, TX0, 13)) hK hP rfl rfl), fun U hU hW => ⟨rfl, (zr_pre (As := [.ref (a 0)]) (hK.sub (tys' := tC ca) [0, 1, 2, 3, 4] rfl) (hP.sub (ws' := (wC n a ca u)) [0, 1, 2, 3, 4, 5] rfl) (hD.sub (ws' := (wC n a ca u)) [0, 1, 2, 3, 4, 5] (by decide) rfl) U hU hW).2, hE.to hW (fun q h1 h2 => by rw [hU]; exact hS.2.1 q h1 h2) hFc⟩⟩ rfl rfl hl.1 rfl (lv_room (Nat.le_of_ble_eq_true rfl)) dL_dirty_4 ⟨Nat.le_of_ble_eq_true rfl, Nat.le_of_ble_eq_true rfl⟩) hP hD hS hA [0, 1, 2, 3, 4, 5] [6] rfl rfl (by decide) (by decide) (fun E ce q9 z H locs hpx hEX hP hD hK1 hS hce hcv hcl => ?_) (fun r z H locs hp hP hD hK1 hS => ?_)
  · obtain ⟨kz, uz⟩ := z
    obtain ⟨huz, hkc, hk12⟩ := hpx
    have huz : u = uz := huz.symm
    subst huz
    dsimp only at hkc hk12 hEX
    rcases hk12 with e1 | e1
    · subst e1
      rw [if_pos rfl] at hEX
      subst hEX
      have hP : va_P (dC, dI) vwCl (wL n a ca qo co (u, f)) H := hP.sub (ws' := (wL n a ca qo co (u, f))) [1, 2, 3, 4, 5, 6, 0] rfl
      have hD : va_D A (wL n a ca qo co (u, f)) := hD.sub (ws' := (wL n a ca qo co (u, f))) [1, 2, 3, 4, 5, 6, 0] (by decide) rfl
      refine vx_catch (own := RL) (name := "java/lang/IllegalArgumentException") (E := "java/lang/IllegalArgumentException") hown [] ⟨0, 16, 19, 13⟩ [⟨0, 16, 22, 39⟩] (by rw [hTab]; rfl) (fun z hz => nomatch hz) (by decide) (by decide) (hts _ (List.mem_cons_of_mem _ mk_L13)) (va_Nw.use rfl hE.2.1.1) hce hcv hcl ?_
      refine lv_astore_n hx hb dL_dirty_19 rfl hl (by decide) rfl (fun ls hl => ?_)
      have hl : lv_has ls 4 [(3, .ref q9), (0, .ref (a 0)), (1, .int b), (2, .ref qo)] := hl
      refine lv_iconst (v := 1) hx hb dL_dirty_20 (by decide) ?_
      exact W.iret (v := 1) hx hb hr (fun t ht hW => ⟨⟨1, (u, f), rfl, Or.inr ⟨(k_ne hkc.symm), hkc, rfl⟩, by rw [ht]; exact hP, va_K.moved hW.alike hK, hD⟩, hS.F ht⟩) hS.2.2 dL_dirty_21
    · subst e1
      rw [if_neg (by decide)] at hEX
      subst hEX
      have hP : va_P (dC, dI) vwCl (wL n a ca qo co (u, f)) H := hP.sub (ws' := (wL n a ca qo co (u, f))) [1, 2, 3, 4, 5, 6, 0] rfl
      have hD : va_D A (wL n a ca qo co (u, f)) := hD.sub (ws' := (wL n a ca qo co (u, f))) [1, 2, 3, 4, 5, 6, 0] (by decide) rfl
      refine vx_catch (own := RL) (name := "java/util/NoSuchElementException") (E := "java/util/NoSuchElementException") hown [⟨0, 16, 19, 13⟩] ⟨0, 16, 22, 39⟩ [] (by rw [hTab]; rfl) (fun z hz => by rcases List.mem_cons.mp hz with rfl | hz; exact Or.inr ⟨by decide, "java/lang/IllegalArgumentException", hts _ (List.mem_cons_of_mem _ mk_L13), hC.2⟩; cases hz) (by decide) (by decide) (hts _ (List.mem_cons_of_mem _ mk_L39)) (va_Nw.use rfl hE.2.1.2.2.1) hce hcv hcl ?_
      refine lv_astore_n hx hb dL_dirty_22 rfl hl (by decide) rfl (fun ls hl => ?_)
      have hl : lv_has ls 4 [(3, .ref q9), (0, .ref (a 0)), (1, .int b), (2, .ref qo)] := hl
      refine lv_iconst (v := 2) hx hb dL_dirty_23 (by decide) ?_
      exact W.iret (v := 2) hx hb hr (fun t ht hW => ⟨⟨2, (u, f), rfl, Or.inr ⟨(k_ne2 hkc.symm), hkc, rfl⟩, by rw [ht]; exact hP, va_K.moved hW.alike hK, hD⟩, hS.F ht⟩) hS.2.2 dL_dirty_24
  · obtain ⟨hk0, hr9, hz9⟩ := hp
    subst hr9
    have hz9 : u = z := hz9.symm
    subst hz9
    have hP : va_P (dC, dI) vwCl (wL n a ca qo co (u, f)) H := hP.sub (ws' := (wL n a ca qo co (u, f))) [1, 2, 3, 4, 5, 6, 0] rfl
    have hD : va_D A (wL n a ca qo co (u, f)) := hD.sub (ws' := (wL n a ca qo co (u, f))) [1, 2, 3, 4, 5, 6, 0] (by decide) rfl
    refine lv_if_eq hx hb dL_dirty_7 (tgt := 14) rfl (fun h1 => ?_) (fun h1 => ?_)
    · refine lv_lconst (v := 0) hx hb dL_dirty_14 (by decide) ?_
      refine zr_last (k := 0) hx hb hK hP hD hS 6 5 rfl rfl (by decide) (by decide) dL_dirty_15 (fun H locs hP hD hS => ?_)
      have hP : va_P (dC, dI) vwCl (wL n a ca qo co (u, vp_updL f 0 0)) H := hP
      have hD : va_D A (wL n a ca qo co (u, vp_updL f 0 0)) := hD
      refine lv_goto hx hb dL_dirty_16 (tgt := 25) rfl ?_
      refine lv_iconst (v := 0) hx hb dL_dirty_25 (by decide) ?_
      exact W.iret (v := 0) hx hb hr (fun t ht hW => ⟨⟨0, (u, vp_updL f 0 0), rfl, Or.inl ⟨hk0, rfl, (by rw [if_pos h1])⟩, by rw [ht]; exact hP, va_K.moved hW.alike hK, hD⟩, hS.F ht⟩) hS.2.2 dL_dirty_26
    · refine lv_lconst (v := 1) hx hb dL_dirty_10 (by decide) ?_
      refine lv_goto hx hb dL_dirty_11 (tgt := 15) rfl ?_
      refine zr_last (k := 0) hx hb hK hP hD hS 6 5 rfl rfl (by decide) (by decide) dL_dirty_15 (fun H locs hP hD hS => ?_)
      have hP : va_P (dC, dI) vwCl (wL n a ca qo co (u, vp_updL f 0 1)) H := hP
      have hD : va_D A (wL n a ca qo co (u, vp_updL f 0 1)) := hD
      refine lv_goto hx hb dL_dirty_16 (tgt := 25) rfl ?_
      refine lv_iconst (v := 0) hx hb dL_dirty_25 (by decide) ?_
      exact W.iret (v := 0) hx hb hr (fun t ht hW => ⟨⟨0, (u, vp_updL f 0 1), rfl, Or.inl ⟨hk0, rfl, (by rw [if_neg h1])⟩, by rw [ht]; exact hP, va_K.moved hW.alike hK, hD⟩, hS.F ht⟩) hS.2.2 dL_dirty_26
