set_option maxHeartbeats 4000000 in
set_option maxRecDepth 100000 in
theorem c_C_requireBlock (l : Launch) (hl9 : l.stackTraces = false) (sa : Nat → Nat) (sz : Nat) (b : Int32) : vx_Met l yX0_requireBlock wsX0_requireBlock ({ frames := 6, cells := 1, slots := 6, locals := 96 }) (va_Pc [.int b] (fun U => U.heap.size = sz ∧ zE sa (fun q => sz ≤ q) U)) (va_Qv (fun (_ : Unit) => kc_b b = 0) (fun _ _ => True) (fun q => sz ≤ q)) (vx_X (fun (_ : Unit) => kc_b b = 1) (fun E _ _ => E = "java/lang/IllegalArgumentException") (fun q => sz ≤ q)) 1 6 (fun q => sz ≤ q) := by
  refine vx_ofW (cc := cX0_requireBlock) (maxL := 1) (ret := none) (by decide) rfl ?_
  intro p e s m args below meth c s₁ B hml hEx hv
  obtain ⟨rfl, hsz, hE⟩ := hv
  have hx := B.exec
  have hb := B.bytes
  have hr := B.returns
  have hts := atoms_spec (ws := wsX0_requireBlock) B.pre
  have hown : s.vm.findClass RX0 = some m.cls := findClass_of_methodNamed B.named
  have hlocks := B.notSynchronized
  have hA : ∀ q : Nat, s.heap.size ≤ q → sz ≤ q := fun q h => hsz ▸ h
  obtain ⟨H, hH, hS⟩ : ∃ H, H = s.heap ∧ va_S (fun q => sz ≤ q) s.heap H [] := ⟨_, rfl, va_S.rf⟩
  rw [← hH]
  have hl := lv_entry ([.int b]) (n := 1) (Nat.le_of_ble_eq_true rfl)
  rw [lg_entry_eq]
  generalize (lg_sl ([.int b]) ++ List.replicate (1 - (lg_sl ([.int b])).length) Slot.unset).toArray = ls at hl ⊢
  have hl : lv_has ls 1 [(0, .int b)] := hl
  refine lv_iload_n hx hb dX0_requireBlock_0 rfl (lv_at hl 0 rfl) ?_
  refine lv_if_lt hx hb dX0_requireBlock_1 (tgt := 10) rfl (fun h1 => ?_) (fun h1 => ?_)
  · exact vx_throwS (own := RX0) (cls := "java/lang/IllegalArgumentException") (text := "no such block") (names := ["java/lang/RuntimeException", "java/lang/Exception"]) (ik := 75) (is := 145) (ic := 79) (sa := sa 0) hx hb hl9 hown (by decide +kernel) (by decide +kernel) (hts _ (List.mem_cons_of_mem _ mk_75)) (hts _ (List.mem_cons_of_mem _ mi_e79)) hE.2.2.1 (zat_79 (fun w h => hts w (List.mem_cons_of_mem _ h)) hE.2.1) zgd_79 hE.1.1 hE.1.2 hS (hl.1.trans hml.symm) dX0_requireBlock_10 dX0_requireBlock_13 dX0_requireBlock_14 dX0_requireBlock_16 dX0_requireBlock_19 (fun x hx => (hEx x hx).elim) (Nat.le_of_ble_eq_true rfl) (Nat.le_of_ble_eq_true rfl) (Nat.le_of_ble_eq_true rfl) (Nat.le_of_ble_eq_true rfl) hlocks (fun t ha9 hq1 hq2 => ⟨(), (by first | rfl | (simp only [kc_b, if_pos h1] <;> rfl)), rfl, zr_F hS hq1 hq2⟩) hS.2.2 (by decide) (by decide)
  · refine lv_iload_n hx hb dX0_requireBlock_4 rfl (lv_at hl 0 rfl) ?_
    refine lv_bipush (v := 64) hx hb dX0_requireBlock_5 (by decide) ?_
    refine lv_icmp_lt hx hb dX0_requireBlock_7 (tgt := 20) rfl (fun h2 => ?_) (fun h2 => ?_)
    · refine vx_ret ?_
      refine W.widen (k := 1) (n := 6) (Nat.le_of_ble_eq_true rfl) (Nat.le_of_ble_eq_true rfl) ?_
      exact W.vret hx hb hr (fun t ht hW => ⟨⟨(), rfl, (by first | rfl | (simp only [kc_b, if_neg h1, if_pos h2] <;> rfl)), trivial⟩, hS.F ht⟩) hS.2.2 dX0_requireBlock_20
    · exact vx_throwS (own := RX0) (cls := "java/lang/IllegalArgumentException") (text := "no such block") (names := ["java/lang/RuntimeException", "java/lang/Exception"]) (ik := 75) (is := 145) (ic := 79) (sa := sa 0) hx hb hl9 hown (by decide +kernel) (by decide +kernel) (hts _ (List.mem_cons_of_mem _ mk_75)) (hts _ (List.mem_cons_of_mem _ mi_e79)) hE.2.2.1 (zat_79 (fun w h => hts w (List.mem_cons_of_mem _ h)) hE.2.1) zgd_79 hE.1.1 hE.1.2 hS (hl.1.trans hml.symm) dX0_requireBlock_10 dX0_requireBlock_13 dX0_requireBlock_14 dX0_requireBlock_16 dX0_requireBlock_19 (fun x hx => (hEx x hx).elim) (Nat.le_of_ble_eq_true rfl) (Nat.le_of_ble_eq_true rfl) (Nat.le_of_ble_eq_true rfl) (Nat.le_of_ble_eq_true rfl) hlocks (fun t ha9 hq1 hq2 => ⟨(), (by first | rfl | (simp only [kc_b, if_neg h1, if_neg h2] <;> rfl)), rfl, zr_F hS hq1 hq2⟩) hS.2.2 (by decide) (by decide)
set_option maxHeartbeats 4000000 in
set_option maxRecDepth 100000 in
theorem c_C_origin (l : Launch) (hl9 : l.stackTraces = false) (sa : Nat → Nat) (dC : Nat → ClassId) (dI : Nat → Nat → Nat) (n : Nat) (a : Nat → Nat) (ca : Nat → ClassId) (u : StC) (sz : Nat) (b : Int32) : vx_Met l yX0_origin wsX0_origin ({ frames := 7, cells := 1, slots := 6, locals := 116 }) (va_Pc [.ref (a 0), .int b] (fun U => zr_P (dC, dI) vwCl (tC ca) (wC n a ca u) sz U ∧ zE sa (va_A (wC n a ca u) sz) U)) (va_Ql (fun r u' => kc_b b = 0 ∧ r = cs_o u b.toNatClampNeg ∧ u' = u) (fun u' => zr_B (dC, dI) vwCl (tC ca) (va_A (wC n a ca u) sz) (wC n a ca u')) (va_A (wC n a ca u) sz)) (vx_X (fun (z : Int32 × StC) => z.2 = u ∧ z.1 = kc_b b ∧ z.1 = 1) (fun E z t => E = "java/lang/IllegalArgumentException" ∧ zr_B (dC, dI) vwCl (tC ca) (va_A (wC n a ca u) sz) (wC n a ca z.2) t) (va_A (wC n a ca u) sz)) 1 6 (va_A (wC n a ca u) sz) := by
  refine vx_ofW (cc := cX0_origin) (maxL := 2) (ret := (some .long)) (by decide) rfl ?_
  intro p e s m args below meth c s₁ B hml hEx hv
  obtain ⟨rfl, ⟨hsz, hP, hK, hD0⟩, hE⟩ := hv
  have hx := B.exec
  have hb := B.bytes
  have hr := B.returns
  have hts := atoms_spec (ws := wsX0_origin) B.pre
  have hown : s.vm.findClass RX0 = some m.cls := findClass_of_methodNamed B.named
  have hlocks := B.notSynchronized
  subst hsz
  have hD := hD0.self (sz := s.heap.size)
  generalize hAe : va_A (wC n a ca u) s.heap.size = A at hD hE ⊢
  have hA : ∀ q : Nat, s.heap.size ≤ q → A q := fun q h => by rw [← hAe]; exact Or.inr h
  obtain ⟨H, hH, hP, hS⟩ : ∃ H, H = s.heap ∧ va_P (dC, dI) vwCl (wC n a ca u) H ∧ va_S A s.heap H [] := ⟨_, rfl, hP, va_S.rf⟩
  have hin9 : ∀ w ∈ u_ws RX0 TX0 13, w ∈ wsX0_origin := fun w h => List.mem_cons_of_mem _ (hinX0 w h)
  rw [← hH]
  have hl := lv_entry ([.ref (a 0), .int b]) (n := 2) (Nat.le_of_ble_eq_true rfl)
  rw [lg_entry_eq]
  generalize (lg_sl ([.ref (a 0), .int b]) ++ List.replicate (2 - (lg_sl ([.ref (a 0), .int b])).length) Slot.unset).toArray = ls at hl ⊢
  have hl : lv_has ls 2 [(0, .ref (a 0)), (1, .int b)] := hl
  refine lv_iload_n hx hb dX0_origin_0 rfl (lv_at hl 1 rfl) ?_
  refine zr_SX (p0 := kc_b b = 0) (p1 := kc_b b = 1) (E0 := "java/lang/IllegalArgumentException") (sa := sa) (As := [.int b]) (rest := []) ⟨hx, hb, hml, hown, hts⟩ (c_C_requireBlock l hl9 sa H.size b) (va_cwS 1 hts gX0_origin_X0_requireBlock rfl rfl rfl (by decide +kernel) ⟨Nat.le_of_ble_eq_true rfl, Nat.le_of_ble_eq_true rfl⟩) hE hP hS hA rfl hl.1 rfl (Nat.le_of_ble_eq_true rfl) dX0_origin_1 (fun ce q9 H locs hk1 hP hS hce hcv hcl => ?_) (fun H locs hk1 hP hS => ?_) ⟨Nat.le_of_ble_eq_true rfl, Nat.le_of_ble_eq_true rfl⟩
  · exact vx_out (E := "java/lang/IllegalArgumentException") (fun x hx => (hEx x hx).elim) hlocks hce hcv hcl (fun t ht ha => ⟨(1, u), ⟨rfl, (by first | rfl | (simp only [hk1, if_neg (k_ne hk1)] <;> rfl)), (by first | rfl | exact Or.inl rfl | exact Or.inr rfl)⟩, ⟨rfl, by rw [ht]; exact hP, va_K.moved ha hK, hD⟩, hS.F ht⟩) hS.2.2 (Nat.le_of_ble_eq_true rfl) (Nat.le_of_ble_eq_true rfl)
  · obtain ⟨j2, hj2, rfl⟩ := kb_nI hk1
    refine lv_aload_n hx hb dX0_origin_4 rfl (lv_at hl 0 rfl) ?_
    refine va_get (D := (dC, dI)) (ci := 0) (v := .ref (a 1)) (C := RX0) (T := TX0) (N := 13) hx hb hts hin9 hown hK hP 0 rfl rfl 1 (by decide) (hts _ (List.mem_cons_of_mem _ mf_X0_13)) (fun _ h9 => h9) rfl dX0_origin_5 ?_
    refine lv_iload_n hx hb dX0_origin_8 rfl (lv_at hl 1 rfl) ?_
    refine zr_lald (k := j2) hx hb hK hP 1 0 rfl rfl (by omega) (by omega) dX0_origin_9 ?_
    refine vx_ret ?_
    refine W.widen (k := 1) (n := 6) (Nat.le_of_ble_eq_true rfl) (Nat.le_of_ble_eq_true rfl) ?_
    exact W.lret (v := cs_o u j2) hx hb hr (fun t ht hW => ⟨⟨cs_o u j2, u, rfl, ⟨(by first | rfl | (simp only [if_pos hk1, hk1, nI_clamp (show j2 < 2 ^ 31 by omega)] <;> rfl)), (by first | rfl | (simp only [if_pos hk1, hk1, nI_clamp (show j2 < 2 ^ 31 by omega)] <;> rfl)), (by first | rfl | (simp only [if_pos hk1, hk1, nI_clamp (show j2 < 2 ^ 31 by omega)] <;> rfl))⟩, ⟨by rw [ht]; exact hP, va_K.moved hW.alike hK, hD⟩⟩, hS.F ht⟩) hS.2.2 dX0_origin_10
set_option maxHeartbeats 4000000 in
set_option maxRecDepth 100000 in
theorem c_C_slot (l : Launch) (hl9 : l.stackTraces = false) (sa : Nat → Nat) (dC : Nat → ClassId) (dI : Nat → Nat → Nat) (n : Nat) (a : Nat → Nat) (ca : Nat → ClassId) (u : StC) (sz : Nat) (b : Int32) (hn : n ≤ 12) : vx_Met l yX0_slot wsX0_slot ({ frames := 7, cells := 1, slots := 6, locals := 116 }) (va_Pc [.ref (a 0), .int b] (fun U => zr_P (dC, dI) vwCl (tC ca) (wC n a ca u) sz U ∧ zE sa (va_A (wC n a ca u) sz) U)) (va_Qi (fun r u' => kc_b b = 0 ∧ r = fc_enc (fc_find (cs_k u) b.toNatClampNeg n 0) ∧ u' = u) (fun u' => zr_B (dC, dI) vwCl (tC ca) (va_A (wC n a ca u) sz) (wC n a ca u')) (va_A (wC n a ca u) sz)) (vx_X (fun (z : Int32 × StC) => z.2 = u ∧ z.1 = kc_b b ∧ z.1 = 1) (fun E z t => E = "java/lang/IllegalArgumentException" ∧ zr_B (dC, dI) vwCl (tC ca) (va_A (wC n a ca u) sz) (wC n a ca z.2) t) (va_A (wC n a ca u) sz)) 1 6 (va_A (wC n a ca u) sz) := by
  refine vx_ofW (cc := cX0_slot) (maxL := 2) (ret := (some .int)) (by decide) rfl ?_
  intro p e s m args below meth c s₁ B hml hEx hv
  obtain ⟨rfl, ⟨hsz, hP, hK, hD0⟩, hE⟩ := hv
  have hx := B.exec
  have hb := B.bytes
  have hr := B.returns
  have hts := atoms_spec (ws := wsX0_slot) B.pre
  have hown : s.vm.findClass RX0 = some m.cls := findClass_of_methodNamed B.named
  have hlocks := B.notSynchronized
  subst hsz
  have hD := hD0.self (sz := s.heap.size)
  generalize hAe : va_A (wC n a ca u) s.heap.size = A at hD hE ⊢
  have hA : ∀ q : Nat, s.heap.size ≤ q → A q := fun q h => by rw [← hAe]; exact Or.inr h
  obtain ⟨H, hH, hP, hS⟩ : ∃ H, H = s.heap ∧ va_P (dC, dI) vwCl (wC n a ca u) H ∧ va_S A s.heap H [] := ⟨_, rfl, hP, va_S.rf⟩
  rw [← hH]
  have hl := lv_entry ([.ref (a 0), .int b]) (n := 2) (Nat.le_of_ble_eq_true rfl)
  rw [lg_entry_eq]
  generalize (lg_sl ([.ref (a 0), .int b]) ++ List.replicate (2 - (lg_sl ([.ref (a 0), .int b])).length) Slot.unset).toArray = ls at hl ⊢
  have hl : lv_has ls 2 [(0, .ref (a 0)), (1, .int b)] := hl
  refine lv_iload_n hx hb dX0_slot_0 rfl (lv_at hl 1 rfl) ?_
  refine zr_SX (p0 := kc_b b = 0) (p1 := kc_b b = 1) (E0 := "java/lang/IllegalArgumentException") (sa := sa) (As := [.int b]) (rest := []) ⟨hx, hb, hml, hown, hts⟩ (c_C_requireBlock l hl9 sa H.size b) (va_cwS 1 hts gX0_slot_X0_requireBlock rfl rfl rfl (by decide +kernel) ⟨Nat.le_of_ble_eq_true rfl, Nat.le_of_ble_eq_true rfl⟩) hE hP hS hA rfl hl.1 rfl (Nat.le_of_ble_eq_true rfl) dX0_slot_1 (fun ce q9 H locs hk1 hP hS hce hcv hcl => ?_) (fun H locs hk1 hP hS => ?_) ⟨Nat.le_of_ble_eq_true rfl, Nat.le_of_ble_eq_true rfl⟩
  · exact vx_out (E := "java/lang/IllegalArgumentException") (fun x hx => (hEx x hx).elim) hlocks hce hcv hcl (fun t ht ha => ⟨(1, u), ⟨rfl, (by first | rfl | (simp only [hk1, if_neg (k_ne hk1)] <;> rfl)), (by first | rfl | exact Or.inl rfl | exact Or.inr rfl)⟩, ⟨rfl, by rw [ht]; exact hP, va_K.moved ha hK, hD⟩, hS.F ht⟩) hS.2.2 (Nat.le_of_ble_eq_true rfl) (Nat.le_of_ble_eq_true rfl)
  · obtain ⟨j2, hj2, rfl⟩ := kb_nI hk1
    refine lv_aload_n hx hb dX0_slot_4 rfl (lv_at hl 0 rfl) ?_
    refine lv_iload_n hx hb dX0_slot_5 rfl (lv_at hl 1 rfl) ?_
    refine zr_Vi (w := fun z => wC n a ca z) (u := u) (u1 := u) (v := fc_enc (fc_find (cs_k u) j2 n 0)) (As := [.int (nI j2)]) (rest := []) ⟨hx, hb, hml, hown, hts⟩ (c_C_slotWith l dC dI n a ca u H.size j2 hn) (cwV 1 hts gX0_slot_X0_slotWith rfl rfl rfl (by decide +kernel) ⟨Nat.le_of_ble_eq_true rfl, Nat.le_of_ble_eq_true rfl⟩) hK hP hD hS hA (va_recv (q0 := 0) (ci := 0) (q := (RX0, TX0, 13)) hK hP rfl rfl) rfl hl.1 rfl (Nat.le_of_ble_eq_true rfl) dX0_slot_6 (fun H locs hP hD hS => ?_) ⟨Nat.le_of_ble_eq_true rfl, Nat.le_of_ble_eq_true rfl⟩
    have hP : va_P (dC, dI) vwCl (wC n a ca u) H := hP
    have hD : va_D A (wC n a ca u) := hD
    refine vx_ret ?_
    refine W.widen (k := 1) (n := 6) (Nat.le_of_ble_eq_true rfl) (Nat.le_of_ble_eq_true rfl) ?_
    exact W.iret (v := fc_enc (fc_find (cs_k u) j2 n 0)) hx hb hr (fun t ht hW => ⟨⟨fc_enc (fc_find (cs_k u) j2 n 0), u, rfl, ⟨(by first | rfl | (simp only [if_pos hk1, hk1, nI_clamp (show j2 < 2 ^ 31 by omega)] <;> rfl)), (by first | rfl | (simp only [if_pos hk1, hk1, nI_clamp (show j2 < 2 ^ 31 by omega)] <;> rfl)), (by first | rfl | (simp only [if_pos hk1, hk1, nI_clamp (show j2 < 2 ^ 31 by omega)] <;> rfl))⟩, ⟨by rw [ht]; exact hP, va_K.moved hW.alike hK, hD⟩⟩, hS.F ht⟩) hS.2.2 dX0_slot_9
set_option maxHeartbeats 4000000 in
set_option maxRecDepth 100000 in
theorem c_C_read (l : Launch) (hl9 : l.stackTraces = false) (sa : Nat → Nat) (dC : Nat → ClassId) (dI : Nat → Nat → Nat) (n : Nat) (a : Nat → Nat) (ca : Nat → ClassId) (u : StC) (sz : Nat) (b : Int32) (hn : n ≤ 12) (hn0 : 0 < n) (hok : okK n (cs_k u)) : vx_Met l yX0_read wsX0_read ({ frames := 7, cells := 1, slots := 6, locals := 116 }) (va_Pc [.ref (a 0), .int b] (fun U => zr_P (dC, dI) vwCl (tC ca) (wC n a ca u) sz U ∧ zE sa (va_A (wC n a ca u) sz) U)) (va_Ql (fun r u' => kc_b b = 0 ∧ r = (fc_read n u b.toNatClampNeg).1 ∧ u' = (fc_read n u b.toNatClampNeg).2) (fun u' => zr_B (dC, dI) vwCl (tC ca) (va_A (wC n a ca u) sz) (wC n a ca u')) (va_A (wC n a ca u) sz)) (vx_X (fun (z : Int32 × StC) => z.2 = u ∧ z.1 = kc_b b ∧ z.1 = 1) (fun E z t => E = "java/lang/IllegalArgumentException" ∧ zr_B (dC, dI) vwCl (tC ca) (va_A (wC n a ca u) sz) (wC n a ca z.2) t) (va_A (wC n a ca u) sz)) 1 6 (va_A (wC n a ca u) sz) := by
  refine vx_ofW (cc := cX0_read) (maxL := 3) (ret := (some .long)) (by decide) rfl ?_
  intro p e s m args below meth c s₁ B hml hEx hv
  obtain ⟨rfl, ⟨hsz, hP, hK, hD0⟩, hE⟩ := hv
  have hx := B.exec
  have hb := B.bytes
  have hr := B.returns
  have hts := atoms_spec (ws := wsX0_read) B.pre
  have hown : s.vm.findClass RX0 = some m.cls := findClass_of_methodNamed B.named
  have hlocks := B.notSynchronized
  subst hsz
  have hD := hD0.self (sz := s.heap.size)
  generalize hAe : va_A (wC n a ca u) s.heap.size = A at hD hE ⊢
  have hA : ∀ q : Nat, s.heap.size ≤ q → A q := fun q h => by rw [← hAe]; exact Or.inr h
  obtain ⟨H, hH, hP, hS⟩ : ∃ H, H = s.heap ∧ va_P (dC, dI) vwCl (wC n a ca u) H ∧ va_S A s.heap H [] := ⟨_, rfl, hP, va_S.rf⟩
  have hin9 : ∀ w ∈ u_ws RX0 TX0 13, w ∈ wsX0_read := fun w h => List.mem_cons_of_mem _ (hinX0 w h)
  rw [← hH]
  have hl := lv_entry ([.ref (a 0), .int b]) (n := 3) (Nat.le_of_ble_eq_true rfl)
  rw [lg_entry_eq]
  generalize (lg_sl ([.ref (a 0), .int b]) ++ List.replicate (3 - (lg_sl ([.ref (a 0), .int b])).length) Slot.unset).toArray = ls at hl ⊢
  have hl : lv_has ls 3 [(0, .ref (a 0)), (1, .int b)] := hl
  refine lv_iload_n hx hb dX0_read_0 rfl (lv_at hl 1 rfl) ?_
  refine zr_SX (p0 := kc_b b = 0) (p1 := kc_b b = 1) (E0 := "java/lang/IllegalArgumentException") (sa := sa) (As := [.int b]) (rest := []) ⟨hx, hb, hml, hown, hts⟩ (c_C_requireBlock l hl9 sa H.size b) (va_cwS 1 hts gX0_read_X0_requireBlock rfl rfl rfl (by decide +kernel) ⟨Nat.le_of_ble_eq_true rfl, Nat.le_of_ble_eq_true rfl⟩) hE hP hS hA rfl hl.1 rfl (Nat.le_of_ble_eq_true rfl) dX0_read_1 (fun ce q9 H locs hk1 hP hS hce hcv hcl => ?_) (fun H locs hk1 hP hS => ?_) ⟨Nat.le_of_ble_eq_true rfl, Nat.le_of_ble_eq_true rfl⟩
  · exact vx_out (E := "java/lang/IllegalArgumentException") (fun x hx => (hEx x hx).elim) hlocks hce hcv hcl (fun t ht ha => ⟨(1, u), ⟨rfl, (by first | rfl | (simp only [hk1, if_neg (k_ne hk1)] <;> rfl)), (by first | rfl | exact Or.inl rfl | exact Or.inr rfl)⟩, ⟨rfl, by rw [ht]; exact hP, va_K.moved ha hK, hD⟩, hS.F ht⟩) hS.2.2 (Nat.le_of_ble_eq_true rfl) (Nat.le_of_ble_eq_true rfl)
  · obtain ⟨j2, hj2, rfl⟩ := kb_nI hk1
    refine lv_aload_n hx hb dX0_read_4 rfl (lv_at hl 0 rfl) ?_
    refine lv_iload_n hx hb dX0_read_5 rfl (lv_at hl 1 rfl) ?_
    refine zr_Vi (w := fun z => wC n a ca z) (u := u) (u1 := u) (v := fc_enc (fc_find (cs_k u) j2 n 0)) (As := [.int (nI j2)]) (rest := []) ⟨hx, hb, hml, hown, hts⟩ (c_C_slotWith l dC dI n a ca u H.size j2 hn) (cwV 1 hts gX0_read_X0_slotWith rfl rfl rfl (by decide +kernel) ⟨Nat.le_of_ble_eq_true rfl, Nat.le_of_ble_eq_true rfl⟩) hK hP hD hS hA (va_recv (q0 := 0) (ci := 0) (q := (RX0, TX0, 13)) hK hP rfl rfl) rfl hl.1 rfl (Nat.le_of_ble_eq_true rfl) dX0_read_6 (fun H locs hP hD hS => ?_) ⟨Nat.le_of_ble_eq_true rfl, Nat.le_of_ble_eq_true rfl⟩
    have hP : va_P (dC, dI) vwCl (wC n a ca u) H := hP
    have hD : va_D A (wC n a ca u) := hD
    rcases hf3 : fc_find (cs_k u) j2 n 0 with _ | j4
    · refine W.eq (g2 := F0 m 9 ls [.int (-1)]) rfl ?_
      refine lv_istore_n hx hb dX0_read_9 rfl hl (by decide) rfl (fun ls hl => ?_)
      have hl : lv_has ls 3 [(2, .int (-1)), (0, .ref (a 0)), (1, .int (nI j2))] := hl
      refine lv_iload_n hx hb dX0_read_10 rfl (lv_at hl 0 rfl) ?_
      refine lv_iconst (v := (-1)) hx hb dX0_read_11 (by decide) ?_
      refine lv_icmp_eq hx hb dX0_read_12 (tgt := 37) rfl (fun _ => ?_) (fun h => absurd (by decide) h)
      refine lv_aload_n hx hb dX0_read_37 rfl (lv_at hl 1 rfl) ?_
      refine lv_dup hx hb dX0_read_38 rfl ?_
      refine va_get (D := (dC, dI)) (ci := 0) (v := .int (cs_j u)) (C := RX0) (T := TX0) (N := 13) hx hb hts hin9 hown hK hP 0 rfl rfl 10 (by decide) (hts _ (List.mem_cons_of_mem _ mf_X0_50)) (fun _ h9 => h9) rfl dX0_read_39 ?_
      refine lv_iconst (v := 1) hx hb dX0_read_42 (by decide) ?_
      refine lv_iadd hx hb dX0_read_43 ?_
      refine va_put (D := (dC, dI)) (ci := 0) (v := .int ((cs_j u) + 1)) (ty := .int) (C := RX0) (T := TX0) (N := 13) hx hb hts hin9 tyX0 tyX0_ok nmX0 hown hK hP hD hS 0 rfl rfl 10 (by decide) (hts _ (List.mem_cons_of_mem _ mf_X0_50)) (fun _ h9 => h9) rfl (by decide +kernel) rfl rfl (Nat.le_of_ble_eq_true rfl) dX0_read_44 (fun H locs hP hD hS => ?_)
      have hP : va_P (dC, dI) vwCl (wC n a ca (cs_o u, cs_v u, cs_k u, cs_n u, cs_l u, cs_u u, cs_m u, cs_h u, cs_i u, ((cs_j u) + 1), cs_w u, cs_t u)) H := hP
      have hD : va_D A (wC n a ca (cs_o u, cs_v u, cs_k u, cs_n u, cs_l u, cs_u u, cs_m u, cs_h u, cs_i u, ((cs_j u) + 1), cs_w u, cs_t u)) := hD
      refine lv_aload_n hx hb dX0_read_47 rfl (lv_at hl 1 rfl) ?_
      refine va_get (D := (dC, dI)) (ci := 0) (v := .int (cs_m u)) (C := RX0) (T := TX0) (N := 13) hx hb hts hin9 hown hK hP 0 rfl rfl 7 (by decide) (hts _ (List.mem_cons_of_mem _ mf_X0_53)) (fun _ h9 => h9) rfl dX0_read_48 ?_
      refine lv_iconst (v := 2) hx hb dX0_read_51 (by decide) ?_
      refine lv_icmp_eq hx hb dX0_read_52 (tgt := 64) rfl (fun h5 => ?_) (fun h5 => ?_)
      · refine lv_aload_n hx hb dX0_read_64 rfl (lv_at hl 1 rfl) ?_
        refine va_get (D := (dC, dI)) (ci := 0) (v := .ref (a 1)) (C := RX0) (T := TX0) (N := 13) hx hb hts hin9 hown hK hP 0 rfl rfl 1 (by decide) (hts _ (List.mem_cons_of_mem _ mf_X0_13)) (fun _ h9 => h9) rfl dX0_read_65 ?_
        refine lv_iload_n hx hb dX0_read_68 rfl (lv_at hl 2 rfl) ?_
        refine zr_lald (k := j2) hx hb hK hP 1 0 rfl rfl (by omega) (by omega) dX0_read_69 ?_
        refine vx_ret ?_
        refine W.widen (k := 1) (n := 6) (Nat.le_of_ble_eq_true rfl) (Nat.le_of_ble_eq_true rfl) ?_
        exact W.lret (v := cs_o u j2) hx hb hr (fun t ht hW => ⟨⟨cs_o u j2, (cs_o u, cs_v u, cs_k u, cs_n u, cs_l u, cs_u u, cs_m u, cs_h u, cs_i u, ((cs_j u) + 1), cs_w u, cs_t u), rfl, ⟨(by first | rfl | (simp only [if_pos hk1, hk1, nI_clamp (show j2 < 2 ^ 31 by omega), hf3, if_pos h5] <;> rfl)), (by first | rfl | (simp only [fc_read, fc_hit, if_pos hk1, hk1, nI_clamp (show j2 < 2 ^ 31 by omega), hf3, if_pos h5] <;> rfl)), (by first | rfl | (simp only [fc_read, fc_hit, if_pos hk1, hk1, nI_clamp (show j2 < 2 ^ 31 by omega), hf3, if_pos h5] <;> rfl))⟩, ⟨by rw [ht]; exact hP, va_K.moved hW.alike hK, hD⟩⟩, hS.F ht⟩) hS.2.2 dX0_read_70
      · refine lv_aload_n hx hb dX0_read_55 rfl (lv_at hl 1 rfl) ?_
        refine lv_aload_n hx hb dX0_read_56 rfl (lv_at hl 1 rfl) ?_
        refine zr_Vi (w := fun z => wC n a ca z) (u := (cs_o u, cs_v u, cs_k u, cs_n u, cs_l u, cs_u u, cs_m u, cs_h u, cs_i u, ((cs_j u) + 1), cs_w u, cs_t u)) (u1 := (fc_room n 0 0 (cs_o u, cs_v u, cs_k u, cs_n u, cs_l u, cs_u u, cs_m u, cs_h u, cs_i u, ((cs_j u) + 1), cs_w u, cs_t u)).2) (v := nI (fc_room n 0 0 (cs_o u, cs_v u, cs_k u, cs_n u, cs_l u, cs_u u, cs_m u, cs_h u, cs_i u, ((cs_j u) + 1), cs_w u, cs_t u)).1) (As := []) (rest := [.ref (a 0)]) ⟨hx, hb, hml, hown, hts⟩ (c_C_findRoom l dC dI n a ca (cs_o u, cs_v u, cs_k u, cs_n u, cs_l u, cs_u u, cs_m u, cs_h u, cs_i u, ((cs_j u) + 1), cs_w u, cs_t u) H.size hn hn0 hok) (cwV 0 hts gX0_read_X0_findRoom rfl rfl rfl (by decide +kernel) ⟨Nat.le_of_ble_eq_true rfl, Nat.le_of_ble_eq_true rfl⟩) hK hP hD hS hA (va_recv (q0 := 0) (ci := 0) (q := (RX0, TX0, 13)) hK hP rfl rfl) rfl hl.1 rfl (Nat.le_of_ble_eq_true rfl) dX0_read_57 (fun H locs hP hD hS => ?_) ⟨Nat.le_of_ble_eq_true rfl, Nat.le_of_ble_eq_true rfl⟩
        have hP : va_P (dC, dI) vwCl (wC n a ca ((fc_room n 0 0 (cs_o u, cs_v u, cs_k u, cs_n u, cs_l u, cs_u u, cs_m u, cs_h u, cs_i u, ((cs_j u) + 1), cs_w u, cs_t u)).2)) H := hP
        have hD : va_D A (wC n a ca ((fc_room n 0 0 (cs_o u, cs_v u, cs_k u, cs_n u, cs_l u, cs_u u, cs_m u, cs_h u, cs_i u, ((cs_j u) + 1), cs_w u, cs_t u)).2)) := hD
        have hrm := fc_room_lt hn0 (cs_o u, cs_v u, cs_k u, cs_n u, cs_l u, cs_u u, cs_m u, cs_h u, cs_i u, ((cs_j u) + 1), cs_w u, cs_t u)
        refine lv_iload_n hx hb dX0_read_60 rfl (lv_at hl 2 rfl) ?_
        refine zr_Vv (w := fun z => wC n a ca z) (u := ((fc_room n 0 0 (cs_o u, cs_v u, cs_k u, cs_n u, cs_l u, cs_u u, cs_m u, cs_h u, cs_i u, ((cs_j u) + 1), cs_w u, cs_t u)).2)) (u1 := fc_keep ((fc_room n 0 0 (cs_o u, cs_v u, cs_k u, cs_n u, cs_l u, cs_u u, cs_m u, cs_h u, cs_i u, ((cs_j u) + 1), cs_w u, cs_t u)).2) ((fc_room n 0 0 (cs_o u, cs_v u, cs_k u, cs_n u, cs_l u, cs_u u, cs_m u, cs_h u, cs_i u, ((cs_j u) + 1), cs_w u, cs_t u)).1) j2) (As := [.int (nI (fc_room n 0 0 (cs_o u, cs_v u, cs_k u, cs_n u, cs_l u, cs_u u, cs_m u, cs_h u, cs_i u, ((cs_j u) + 1), cs_w u, cs_t u)).1), .int (nI j2)]) (rest := []) ⟨hx, hb, hml, hown, hts⟩ (c_C_keepClean l dC dI n a ca ((fc_room n 0 0 (cs_o u, cs_v u, cs_k u, cs_n u, cs_l u, cs_u u, cs_m u, cs_h u, cs_i u, ((cs_j u) + 1), cs_w u, cs_t u)).2) H.size ((fc_room n 0 0 (cs_o u, cs_v u, cs_k u, cs_n u, cs_l u, cs_u u, cs_m u, cs_h u, cs_i u, ((cs_j u) + 1), cs_w u, cs_t u)).1) j2 hn (by omega) (by omega)) (cwV 2 hts gX0_read_X0_keepClean rfl rfl rfl (by decide +kernel) ⟨Nat.le_of_ble_eq_true rfl, Nat.le_of_ble_eq_true rfl⟩) hK hP hD hS hA (va_recv (q0 := 0) (ci := 0) (q := (RX0, TX0, 13)) hK hP rfl rfl) rfl hl.1 rfl (Nat.le_of_ble_eq_true rfl) dX0_read_61 (fun H locs hP hD hS => ?_) ⟨Nat.le_of_ble_eq_true rfl, Nat.le_of_ble_eq_true rfl⟩
        have hP : va_P (dC, dI) vwCl (wC n a ca (fc_keep ((fc_room n 0 0 (cs_o u, cs_v u, cs_k u, cs_n u, cs_l u, cs_u u, cs_m u, cs_h u, cs_i u, ((cs_j u) + 1), cs_w u, cs_t u)).2) ((fc_room n 0 0 (cs_o u, cs_v u, cs_k u, cs_n u, cs_l u, cs_u u, cs_m u, cs_h u, cs_i u, ((cs_j u) + 1), cs_w u, cs_t u)).1) j2)) H := hP
        have hD : va_D A (wC n a ca (fc_keep ((fc_room n 0 0 (cs_o u, cs_v u, cs_k u, cs_n u, cs_l u, cs_u u, cs_m u, cs_h u, cs_i u, ((cs_j u) + 1), cs_w u, cs_t u)).2) ((fc_room n 0 0 (cs_o u, cs_v u, cs_k u, cs_n u, cs_l u, cs_u u, cs_m u, cs_h u, cs_i u, ((cs_j u) + 1), cs_w u, cs_t u)).1) j2)) := hD
        refine lv_aload_n hx hb dX0_read_64 rfl (lv_at hl 1 rfl) ?_
        refine va_get (D := (dC, dI)) (ci := 0) (v := .ref (a 1)) (C := RX0) (T := TX0) (N := 13) hx hb hts hin9 hown hK hP 0 rfl rfl 1 (by decide) (hts _ (List.mem_cons_of_mem _ mf_X0_13)) (fun _ h9 => h9) rfl dX0_read_65 ?_
        refine lv_iload_n hx hb dX0_read_68 rfl (lv_at hl 2 rfl) ?_
        refine zr_lald (k := j2) hx hb hK hP 1 0 rfl rfl (by omega) (by omega) dX0_read_69 ?_
        refine vx_ret ?_
        refine W.widen (k := 1) (n := 6) (Nat.le_of_ble_eq_true rfl) (Nat.le_of_ble_eq_true rfl) ?_
        exact W.lret (v := (cs_o (fc_keep ((fc_room n 0 0 (cs_o u, cs_v u, cs_k u, cs_n u, cs_l u, cs_u u, cs_m u, cs_h u, cs_i u, ((cs_j u) + 1), cs_w u, cs_t u)).2) ((fc_room n 0 0 (cs_o u, cs_v u, cs_k u, cs_n u, cs_l u, cs_u u, cs_m u, cs_h u, cs_i u, ((cs_j u) + 1), cs_w u, cs_t u)).1) j2)) j2) hx hb hr (fun t ht hW => ⟨⟨(cs_o (fc_keep ((fc_room n 0 0 (cs_o u, cs_v u, cs_k u, cs_n u, cs_l u, cs_u u, cs_m u, cs_h u, cs_i u, ((cs_j u) + 1), cs_w u, cs_t u)).2) ((fc_room n 0 0 (cs_o u, cs_v u, cs_k u, cs_n u, cs_l u, cs_u u, cs_m u, cs_h u, cs_i u, ((cs_j u) + 1), cs_w u, cs_t u)).1) j2)) j2, fc_keep ((fc_room n 0 0 (cs_o u, cs_v u, cs_k u, cs_n u, cs_l u, cs_u u, cs_m u, cs_h u, cs_i u, ((cs_j u) + 1), cs_w u, cs_t u)).2) ((fc_room n 0 0 (cs_o u, cs_v u, cs_k u, cs_n u, cs_l u, cs_u u, cs_m u, cs_h u, cs_i u, ((cs_j u) + 1), cs_w u, cs_t u)).1) j2, rfl, ⟨(by first | rfl | (simp only [if_pos hk1, hk1, nI_clamp (show j2 < 2 ^ 31 by omega), hf3, if_neg h5] <;> rfl)), (by first | rfl | (simp only [fc_read, fc_hit, if_pos hk1, hk1, nI_clamp (show j2 < 2 ^ 31 by omega), hf3, if_neg h5] <;> rfl)), (by first | rfl | (simp only [fc_read, fc_hit, if_pos hk1, hk1, nI_clamp (show j2 < 2 ^ 31 by omega), hf3, if_neg h5] <;> rfl))⟩, ⟨by rw [ht]; exact hP, va_K.moved hW.alike hK, hD⟩⟩, hS.F ht⟩) hS.2.2 dX0_read_70
    · have hj4 := fc_find_lt hf3
      refine W.eq (g2 := F0 m 9 ls [.int (nI j4)]) rfl ?_
      refine lv_istore_n hx hb dX0_read_9 rfl hl (by decide) rfl (fun ls hl => ?_)
      have hl : lv_has ls 3 [(2, .int (nI j4)), (0, .ref (a 0)), (1, .int (nI j2))] := hl
      refine lv_iload_n hx hb dX0_read_10 rfl (lv_at hl 0 rfl) ?_
      refine lv_iconst (v := (-1)) hx hb dX0_read_11 (by decide) ?_
      refine lv_icmp_eq hx hb dX0_read_12 (tgt := 37) rfl (fun h => absurd h (zr_nem (by omega))) (fun _ => ?_)
      refine lv_aload_n hx hb dX0_read_15 rfl (lv_at hl 1 rfl) ?_
      refine lv_dup hx hb dX0_read_16 rfl ?_
      refine va_get (D := (dC, dI)) (ci := 0) (v := .int (cs_i u)) (C := RX0) (T := TX0) (N := 13) hx hb hts hin9 hown hK hP 0 rfl rfl 9 (by decide) (hts _ (List.mem_cons_of_mem _ mf_X0_44)) (fun _ h9 => h9) rfl dX0_read_17 ?_
      refine lv_iconst (v := 1) hx hb dX0_read_20 (by decide) ?_
      refine lv_iadd hx hb dX0_read_21 ?_
      refine va_put (D := (dC, dI)) (ci := 0) (v := .int ((cs_i u) + 1)) (ty := .int) (C := RX0) (T := TX0) (N := 13) hx hb hts hin9 tyX0 tyX0_ok nmX0 hown hK hP hD hS 0 rfl rfl 9 (by decide) (hts _ (List.mem_cons_of_mem _ mf_X0_44)) (fun _ h9 => h9) rfl (by decide +kernel) rfl rfl (Nat.le_of_ble_eq_true rfl) dX0_read_22 (fun H locs hP hD hS => ?_)
      have hP : va_P (dC, dI) vwCl (wC n a ca (cs_o u, cs_v u, cs_k u, cs_n u, cs_l u, cs_u u, cs_m u, cs_h u, ((cs_i u) + 1), cs_j u, cs_w u, cs_t u)) H := hP
      have hD : va_D A (wC n a ca (cs_o u, cs_v u, cs_k u, cs_n u, cs_l u, cs_u u, cs_m u, cs_h u, ((cs_i u) + 1), cs_j u, cs_w u, cs_t u)) := hD
      refine lv_aload_n hx hb dX0_read_25 rfl (lv_at hl 1 rfl) ?_
      refine lv_iload_n hx hb dX0_read_26 rfl (lv_at hl 0 rfl) ?_
      refine zr_Vv (w := fun z => wC n a ca z) (u := (cs_o u, cs_v u, cs_k u, cs_n u, cs_l u, cs_u u, cs_m u, cs_h u, ((cs_i u) + 1), cs_j u, cs_w u, cs_t u)) (u1 := fc_use (cs_o u, cs_v u, cs_k u, cs_n u, cs_l u, cs_u u, cs_m u, cs_h u, ((cs_i u) + 1), cs_j u, cs_w u, cs_t u) j4) (As := [.int (nI j4)]) (rest := []) ⟨hx, hb, hml, hown, hts⟩ (c_C_useSlot l dC dI n a ca (cs_o u, cs_v u, cs_k u, cs_n u, cs_l u, cs_u u, cs_m u, cs_h u, ((cs_i u) + 1), cs_j u, cs_w u, cs_t u) H.size j4 hn (by omega)) (cwV 1 hts gX0_read_X0_useSlot rfl rfl rfl (by decide +kernel) ⟨Nat.le_of_ble_eq_true rfl, Nat.le_of_ble_eq_true rfl⟩) hK hP hD hS hA (va_recv (q0 := 0) (ci := 0) (q := (RX0, TX0, 13)) hK hP rfl rfl) rfl hl.1 rfl (Nat.le_of_ble_eq_true rfl) dX0_read_27 (fun H locs hP hD hS => ?_) ⟨Nat.le_of_ble_eq_true rfl, Nat.le_of_ble_eq_true rfl⟩
      have hP : va_P (dC, dI) vwCl (wC n a ca (fc_use (cs_o u, cs_v u, cs_k u, cs_n u, cs_l u, cs_u u, cs_m u, cs_h u, ((cs_i u) + 1), cs_j u, cs_w u, cs_t u) j4)) H := hP
      have hD : va_D A (wC n a ca (fc_use (cs_o u, cs_v u, cs_k u, cs_n u, cs_l u, cs_u u, cs_m u, cs_h u, ((cs_i u) + 1), cs_j u, cs_w u, cs_t u) j4)) := hD
      refine lv_aload_n hx hb dX0_read_30 rfl (lv_at hl 1 rfl) ?_
      refine va_get (D := (dC, dI)) (ci := 0) (v := .ref (a 2)) (C := RX0) (T := TX0) (N := 13) hx hb hts hin9 hown hK hP 0 rfl rfl 2 (by decide) (hts _ (List.mem_cons_of_mem _ mf_X0_17)) (fun _ h9 => h9) rfl dX0_read_31 ?_
      refine lv_iload_n hx hb dX0_read_34 rfl (lv_at hl 0 rfl) ?_
      refine zr_lald (k := j4) hx hb hK hP 2 1 rfl rfl (by omega) (by omega) dX0_read_35 ?_
      refine vx_ret ?_
      refine W.widen (k := 1) (n := 6) (Nat.le_of_ble_eq_true rfl) (Nat.le_of_ble_eq_true rfl) ?_
      exact W.lret (v := (cs_v (fc_use (cs_o u, cs_v u, cs_k u, cs_n u, cs_l u, cs_u u, cs_m u, cs_h u, ((cs_i u) + 1), cs_j u, cs_w u, cs_t u) j4)) j4) hx hb hr (fun t ht hW => ⟨⟨(cs_v (fc_use (cs_o u, cs_v u, cs_k u, cs_n u, cs_l u, cs_u u, cs_m u, cs_h u, ((cs_i u) + 1), cs_j u, cs_w u, cs_t u) j4)) j4, fc_use (cs_o u, cs_v u, cs_k u, cs_n u, cs_l u, cs_u u, cs_m u, cs_h u, ((cs_i u) + 1), cs_j u, cs_w u, cs_t u) j4, rfl, ⟨(by first | rfl | (simp only [if_pos hk1, hk1, nI_clamp (show j2 < 2 ^ 31 by omega), hf3] <;> rfl)), (by first | rfl | (simp only [fc_read, fc_hit, if_pos hk1, hk1, nI_clamp (show j2 < 2 ^ 31 by omega), hf3] <;> rfl)), (by first | rfl | (simp only [fc_read, fc_hit, if_pos hk1, hk1, nI_clamp (show j2 < 2 ^ 31 by omega), hf3] <;> rfl))⟩, ⟨by rw [ht]; exact hP, va_K.moved hW.alike hK, hD⟩⟩, hS.F ht⟩) hS.2.2 dX0_read_36
set_option maxHeartbeats 4000000 in
set_option maxRecDepth 100000 in
theorem c_C_write (l : Launch) (hl9 : l.stackTraces = false) (sa : Nat → Nat) (dC : Nat → ClassId) (dI : Nat → Nat → Nat) (n : Nat) (a : Nat → Nat) (ca : Nat → ClassId) (u : StC) (sz : Nat) (b : Int32) (v : Int64) (hn : n ≤ 12) (hn0 : 0 < n) (hok : okK n (cs_k u)) : vx_Met l yX0_write wsX0_write ({ frames := 7, cells := 1, slots := 6, locals := 116 }) (va_Pc [.ref (a 0), .int b, .long v] (fun U => zr_P (dC, dI) vwCl (tC ca) (wC n a ca u) sz U ∧ zE sa (va_A (wC n a ca u) sz) U)) (va_Qv (fun u' => kc_b b = 0 ∧ u' = fc_write n u b.toNatClampNeg v) (fun u' => zr_B (dC, dI) vwCl (tC ca) (va_A (wC n a ca u) sz) (wC n a ca u')) (va_A (wC n a ca u) sz)) (vx_X (fun (z : Int32 × StC) => z.2 = u ∧ z.1 = kc_b b ∧ z.1 = 1) (fun E z t => E = "java/lang/IllegalArgumentException" ∧ zr_B (dC, dI) vwCl (tC ca) (va_A (wC n a ca u) sz) (wC n a ca z.2) t) (va_A (wC n a ca u) sz)) 1 6 (va_A (wC n a ca u) sz) := by
  refine vx_ofW (cc := cX0_write) (maxL := 4) (ret := none) (by decide) rfl ?_
  intro p e s m args below meth c s₁ B hml hEx hv
  obtain ⟨rfl, ⟨hsz, hP, hK, hD0⟩, hE⟩ := hv
  have hx := B.exec
  have hb := B.bytes
  have hr := B.returns
  have hts := atoms_spec (ws := wsX0_write) B.pre
  have hown : s.vm.findClass RX0 = some m.cls := findClass_of_methodNamed B.named
  have hlocks := B.notSynchronized
  subst hsz
  have hD := hD0.self (sz := s.heap.size)
  generalize hAe : va_A (wC n a ca u) s.heap.size = A at hD hE ⊢
  have hA : ∀ q : Nat, s.heap.size ≤ q → A q := fun q h => by rw [← hAe]; exact Or.inr h
  obtain ⟨H, hH, hP, hS⟩ : ∃ H, H = s.heap ∧ va_P (dC, dI) vwCl (wC n a ca u) H ∧ va_S A s.heap H [] := ⟨_, rfl, hP, va_S.rf⟩
  have hin9 : ∀ w ∈ u_ws RX0 TX0 13, w ∈ wsX0_write := fun w h => List.mem_cons_of_mem _ (hinX0 w h)
  rw [← hH]
  have hl := lv_entry ([.ref (a 0), .int b, .long v]) (n := 4) (Nat.le_of_ble_eq_true rfl)
  rw [lg_entry_eq]
  generalize (lg_sl ([.ref (a 0), .int b, .long v]) ++ List.replicate (4 - (lg_sl ([.ref (a 0), .int b, .long v])).length) Slot.unset).toArray = ls at hl ⊢
  have hl : lv_has ls 4 [(0, .ref (a 0)), (1, .int b), (2, .long v)] := hl
  refine lv_iload_n hx hb dX0_write_0 rfl (lv_at hl 1 rfl) ?_
  refine zr_SX (p0 := kc_b b = 0) (p1 := kc_b b = 1) (E0 := "java/lang/IllegalArgumentException") (sa := sa) (As := [.int b]) (rest := []) ⟨hx, hb, hml, hown, hts⟩ (c_C_requireBlock l hl9 sa H.size b) (va_cwS 1 hts gX0_write_X0_requireBlock rfl rfl rfl (by decide +kernel) ⟨Nat.le_of_ble_eq_true rfl, Nat.le_of_ble_eq_true rfl⟩) hE hP hS hA rfl hl.1 rfl (Nat.le_of_ble_eq_true rfl) dX0_write_1 (fun ce q9 H locs hk1 hP hS hce hcv hcl => ?_) (fun H locs hk1 hP hS => ?_) ⟨Nat.le_of_ble_eq_true rfl, Nat.le_of_ble_eq_true rfl⟩
  · exact vx_out (E := "java/lang/IllegalArgumentException") (fun x hx => (hEx x hx).elim) hlocks hce hcv hcl (fun t ht ha => ⟨(1, u), ⟨rfl, (by first | rfl | (simp only [hk1, if_neg (k_ne hk1)] <;> rfl)), (by first | rfl | exact Or.inl rfl | exact Or.inr rfl)⟩, ⟨rfl, by rw [ht]; exact hP, va_K.moved ha hK, hD⟩, hS.F ht⟩) hS.2.2 (Nat.le_of_ble_eq_true rfl) (Nat.le_of_ble_eq_true rfl)
  · obtain ⟨j2, hj2, rfl⟩ := kb_nI hk1
    refine lv_aload_n hx hb dX0_write_4 rfl (lv_at hl 0 rfl) ?_
    refine va_get (D := (dC, dI)) (ci := 0) (v := .int (cs_m u)) (C := RX0) (T := TX0) (N := 13) hx hb hts hin9 hown hK hP 0 rfl rfl 7 (by decide) (hts _ (List.mem_cons_of_mem _ mf_X0_53)) (fun _ h9 => h9) rfl dX0_write_5 ?_
    refine lv_iconst (v := 1) hx hb dX0_write_8 (by decide) ?_
    refine lv_icmp_ne hx hb dX0_write_9 (tgt := 21) rfl (fun h3 => ?_) (fun h3 => ?_)
    · refine lv_aload_n hx hb dX0_write_21 rfl (lv_at hl 0 rfl) ?_
      refine va_get (D := (dC, dI)) (ci := 0) (v := .int (cs_m u)) (C := RX0) (T := TX0) (N := 13) hx hb hts hin9 hown hK hP 0 rfl rfl 7 (by decide) (hts _ (List.mem_cons_of_mem _ mf_X0_53)) (fun _ h9 => h9) rfl dX0_write_22 ?_
      refine lv_iconst (v := 2) hx hb dX0_write_25 (by decide) ?_
      refine lv_icmp_ne hx hb dX0_write_26 (tgt := 38) rfl (fun h4 => ?_) (fun h4 => ?_)
      · refine lv_aload_n hx hb dX0_write_38 rfl (lv_at hl 0 rfl) ?_
        refine lv_iload_n hx hb dX0_write_39 rfl (lv_at hl 1 rfl) ?_
        refine lv_lload_n hx hb dX0_write_40 rfl (lv_at hl 2 rfl) ?_
        refine lv_iconst (v := 2) hx hb dX0_write_41 (by decide) ?_
        refine zr_Vi (w := fun z => wC n a ca z) (u := u) (u1 := (fc_wis n u j2 v 2).2) (v := (fc_wis n u j2 v 2).1) (As := [.int (nI j2), .long v, .int 2]) (rest := []) ⟨hx, hb, hml, hown, hts⟩ (c_C_writeInSteps l dC dI n a ca u H.size j2 v 2 hn hn0 hok) (cwV 3 hts gX0_write_X0_writeInSteps rfl rfl rfl (by decide +kernel) ⟨Nat.le_of_ble_eq_true rfl, Nat.le_of_ble_eq_true rfl⟩) hK hP hD hS hA (va_recv (q0 := 0) (ci := 0) (q := (RX0, TX0, 13)) hK hP rfl rfl) rfl hl.1 rfl (Nat.le_of_ble_eq_true rfl) dX0_write_42 (fun H locs hP hD hS => ?_) ⟨Nat.le_of_ble_eq_true rfl, Nat.le_of_ble_eq_true rfl⟩
        have hP : va_P (dC, dI) vwCl (wC n a ca ((fc_wis n u j2 v 2).2)) H := hP
        have hD : va_D A (wC n a ca ((fc_wis n u j2 v 2).2)) := hD
        refine lv_pop hx hb dX0_write_45 rfl ?_
        refine vx_ret ?_
        refine W.widen (k := 1) (n := 6) (Nat.le_of_ble_eq_true rfl) (Nat.le_of_ble_eq_true rfl) ?_
        exact W.vret hx hb hr (fun t ht hW => ⟨⟨(fc_wis n u j2 v 2).2, rfl, ⟨(by first | rfl | (simp only [if_pos hk1, hk1, nI_clamp (show j2 < 2 ^ 31 by omega), if_neg h3, if_neg h4] <;> rfl)), (by first | rfl | (simp only [fc_write, if_pos hk1, hk1, nI_clamp (show j2 < 2 ^ 31 by omega), if_neg h3, if_neg h4] <;> rfl))⟩, ⟨by rw [ht]; exact hP, va_K.moved hW.alike hK, hD⟩⟩, hS.F ht⟩) hS.2.2 dX0_write_46
      · refine lv_aload_n hx hb dX0_write_29 rfl (lv_at hl 0 rfl) ?_
        refine lv_iload_n hx hb dX0_write_30 rfl (lv_at hl 1 rfl) ?_
        refine lv_lload_n hx hb dX0_write_31 rfl (lv_at hl 2 rfl) ?_
        refine zr_Vv (w := fun z => wC n a ca z) (u := u) (u1 := fc_past n u j2 v) (As := [.int (nI j2), .long v]) (rest := []) ⟨hx, hb, hml, hown, hts⟩ (c_C_writePast l dC dI n a ca u H.size j2 v hn (by omega)) (cwV 2 hts gX0_write_X0_writePast rfl rfl rfl (by decide +kernel) ⟨Nat.le_of_ble_eq_true rfl, Nat.le_of_ble_eq_true rfl⟩) hK hP hD hS hA (va_recv (q0 := 0) (ci := 0) (q := (RX0, TX0, 13)) hK hP rfl rfl) rfl hl.1 rfl (Nat.le_of_ble_eq_true rfl) dX0_write_32 (fun H locs hP hD hS => ?_) ⟨Nat.le_of_ble_eq_true rfl, Nat.le_of_ble_eq_true rfl⟩
        have hP : va_P (dC, dI) vwCl (wC n a ca (fc_past n u j2 v)) H := hP
        have hD : va_D A (wC n a ca (fc_past n u j2 v)) := hD
        refine lv_goto hx hb dX0_write_35 (tgt := 46) rfl ?_
        refine vx_ret ?_
        refine W.widen (k := 1) (n := 6) (Nat.le_of_ble_eq_true rfl) (Nat.le_of_ble_eq_true rfl) ?_
        exact W.vret hx hb hr (fun t ht hW => ⟨⟨fc_past n u j2 v, rfl, ⟨(by first | rfl | (simp only [if_pos hk1, hk1, nI_clamp (show j2 < 2 ^ 31 by omega), if_neg h3, if_pos h4] <;> rfl)), (by first | rfl | (simp only [fc_write, if_pos hk1, hk1, nI_clamp (show j2 < 2 ^ 31 by omega), if_neg h3, if_pos h4] <;> rfl))⟩, ⟨by rw [ht]; exact hP, va_K.moved hW.alike hK, hD⟩⟩, hS.F ht⟩) hS.2.2 dX0_write_46
    · refine lv_aload_n hx hb dX0_write_12 rfl (lv_at hl 0 rfl) ?_
      refine lv_iload_n hx hb dX0_write_13 rfl (lv_at hl 1 rfl) ?_
      refine lv_lload_n hx hb dX0_write_14 rfl (lv_at hl 2 rfl) ?_
      refine zr_Vv (w := fun z => wC n a ca z) (u := u) (u1 := fc_thru n u j2 v) (As := [.int (nI j2), .long v]) (rest := []) ⟨hx, hb, hml, hown, hts⟩ (c_C_writeThrough l dC dI n a ca u H.size j2 v hn (by omega)) (cwV 2 hts gX0_write_X0_writeThrough rfl rfl rfl (by decide +kernel) ⟨Nat.le_of_ble_eq_true rfl, Nat.le_of_ble_eq_true rfl⟩) hK hP hD hS hA (va_recv (q0 := 0) (ci := 0) (q := (RX0, TX0, 13)) hK hP rfl rfl) rfl hl.1 rfl (Nat.le_of_ble_eq_true rfl) dX0_write_15 (fun H locs hP hD hS => ?_) ⟨Nat.le_of_ble_eq_true rfl, Nat.le_of_ble_eq_true rfl⟩
      have hP : va_P (dC, dI) vwCl (wC n a ca (fc_thru n u j2 v)) H := hP
      have hD : va_D A (wC n a ca (fc_thru n u j2 v)) := hD
      refine lv_goto hx hb dX0_write_18 (tgt := 46) rfl ?_
      refine vx_ret ?_
      refine W.widen (k := 1) (n := 6) (Nat.le_of_ble_eq_true rfl) (Nat.le_of_ble_eq_true rfl) ?_
      exact W.vret hx hb hr (fun t ht hW => ⟨⟨fc_thru n u j2 v, rfl, ⟨(by first | rfl | (simp only [if_pos hk1, hk1, nI_clamp (show j2 < 2 ^ 31 by omega), if_pos h3] <;> rfl)), (by first | rfl | (simp only [fc_write, if_pos hk1, hk1, nI_clamp (show j2 < 2 ^ 31 by omega), if_pos h3] <;> rfl))⟩, ⟨by rw [ht]; exact hP, va_K.moved hW.alike hK, hD⟩⟩, hS.F ht⟩) hS.2.2 dX0_write_46
set_option maxHeartbeats 4000000 in
set_option maxRecDepth 100000 in
theorem c_C_cut (l : Launch) (hl9 : l.stackTraces = false) (sa : Nat → Nat) (dC : Nat → ClassId) (dI : Nat → Nat → Nat) (n : Nat) (a : Nat → Nat) (ca : Nat → ClassId) (u : StC) (sz : Nat) (b : Int32) (v : Int64) (q : Int32) (hn : n ≤ 12) (hn0 : 0 < n) (hok : okK n (cs_k u)) : vx_Met l yX0_cut wsX0_cut ({ frames := 7, cells := 2, slots := 12, locals := 116 }) (va_Pc [.ref (a 0), .int b, .long v, .int q] (fun U => zr_P (dC, dI) vwCl (tC ca) (wC n a ca u) sz U ∧ zE sa (va_A (wC n a ca u) sz) U)) (va_Qi (fun r u' => kc_cut (cs_m u) b q = 0 ∧ r = (fc_cut n u b.toNatClampNeg v q).1 ∧ u' = (fc_cut n u b.toNatClampNeg v q).2) (fun u' => zr_B (dC, dI) vwCl (tC ca) (va_A (wC n a ca u) sz) (wC n a ca u')) (va_A (wC n a ca u) sz)) (vx_X (fun (z : Int32 × StC) => z.2 = u ∧ z.1 = kc_cut (cs_m u) b q ∧ (z.1 = 1 ∨ z.1 = 2)) (fun E z t => E = (if z.1 = 1 then "java/lang/IllegalArgumentException" else "java/lang/IllegalStateException") ∧ zr_B (dC, dI) vwCl (tC ca) (va_A (wC n a ca u) sz) (wC n a ca z.2) t) (va_A (wC n a ca u) sz)) 2 12 (va_A (wC n a ca u) sz) := by
  refine vx_ofW (cc := cX0_cut) (maxL := 6) (ret := (some .int)) (by decide) rfl ?_
  intro p e s m args below meth c s₁ B hml hEx hv
  obtain ⟨rfl, ⟨hsz, hP, hK, hD0⟩, hE⟩ := hv
  have hx := B.exec
  have hb := B.bytes
  have hr := B.returns
  have hts := atoms_spec (ws := wsX0_cut) B.pre
  have hown : s.vm.findClass RX0 = some m.cls := findClass_of_methodNamed B.named
  have hlocks := B.notSynchronized
  subst hsz
  have hD := hD0.self (sz := s.heap.size)
  generalize hAe : va_A (wC n a ca u) s.heap.size = A at hD hE ⊢
  have hA : ∀ q : Nat, s.heap.size ≤ q → A q := fun q h => by rw [← hAe]; exact Or.inr h
  obtain ⟨H, hH, hP, hS⟩ : ∃ H, H = s.heap ∧ va_P (dC, dI) vwCl (wC n a ca u) H ∧ va_S A s.heap H [] := ⟨_, rfl, hP, va_S.rf⟩
  have hin9 : ∀ w ∈ u_ws RX0 TX0 13, w ∈ wsX0_cut := fun w h => List.mem_cons_of_mem _ (hinX0 w h)
  rw [← hH]
  have hl := lv_entry ([.ref (a 0), .int b, .long v, .int q]) (n := 6) (Nat.le_of_ble_eq_true rfl)
  rw [lg_entry_eq]
  generalize (lg_sl ([.ref (a 0), .int b, .long v, .int q]) ++ List.replicate (6 - (lg_sl ([.ref (a 0), .int b, .long v, .int q])).length) Slot.unset).toArray = ls at hl ⊢
  have hl : lv_has ls 6 [(0, .ref (a 0)), (1, .int b), (2, .long v), (4, .int q)] := hl
  refine lv_iload_n hx hb dX0_cut_0 rfl (lv_at hl 1 rfl) ?_
  refine zr_SX (p0 := kc_b b = 0) (p1 := kc_b b = 1) (E0 := "java/lang/IllegalArgumentException") (sa := sa) (As := [.int b]) (rest := []) ⟨hx, hb, hml, hown, hts⟩ (c_C_requireBlock l hl9 sa H.size b) (va_cwS 1 hts gX0_cut_X0_requireBlock rfl rfl rfl (by decide +kernel) ⟨Nat.le_of_ble_eq_true rfl, Nat.le_of_ble_eq_true rfl⟩) hE hP hS hA rfl hl.1 rfl (Nat.le_of_ble_eq_true rfl) dX0_cut_1 (fun ce q9 H locs hk1 hP hS hce hcv hcl => ?_) (fun H locs hk1 hP hS => ?_) ⟨Nat.le_of_ble_eq_true rfl, Nat.le_of_ble_eq_true rfl⟩
  · exact vx_out (E := "java/lang/IllegalArgumentException") (fun x hx => (hEx x hx).elim) hlocks hce hcv hcl (fun t ht ha => ⟨(1, u), ⟨rfl, (by first | rfl | (simp only [kc_cut, hk1, if_neg (k_ne hk1)] <;> rfl)), (by first | rfl | exact Or.inl rfl | exact Or.inr rfl)⟩, ⟨rfl, by rw [ht]; exact hP, va_K.moved ha hK, hD⟩, hS.F ht⟩) hS.2.2 (Nat.le_of_ble_eq_true rfl) (Nat.le_of_ble_eq_true rfl)
  · obtain ⟨j2, hj2, rfl⟩ := kb_nI hk1
    refine lv_iload hx hb dX0_cut_4 (lv_at hl 3 rfl) ?_
    refine lv_if_lt hx hb dX0_cut_6 (tgt := 15) rfl (fun h3 => ?_) (fun h3 => ?_)
    · exact vx_throwS (own := RX0) (cls := "java/lang/IllegalArgumentException") (text := "no such number of steps") (names := ["java/lang/RuntimeException", "java/lang/Exception"]) (ik := 75) (is := 77) (ic := 79) (sa := sa 1) hx hb hl9 hown (by decide +kernel) (by decide +kernel) (hts _ (List.mem_cons_of_mem _ mk_75)) (hts _ (List.mem_cons_of_mem _ mi_e79)) hE.2.2.2.1 (zat_79 (fun w h => hts w (List.mem_cons_of_mem _ h)) hE.2.1) zgd_79 hE.1.1 hE.1.2 hS (hl.1.trans hml.symm) dX0_cut_15 dX0_cut_18 dX0_cut_19 dX0_cut_21 dX0_cut_24 (fun x hx => (hEx x hx).elim) (Nat.le_of_ble_eq_true rfl) (Nat.le_of_ble_eq_true rfl) (Nat.le_of_ble_eq_true rfl) (Nat.le_of_ble_eq_true rfl) hlocks (fun t ha9 hq1 hq2 => ⟨(1, u), ⟨rfl, (by first | rfl | (simp only [kc_cut, if_pos hk1, hk1, nI_clamp (show j2 < 2 ^ 31 by omega), if_pos h3] <;> rfl)), (by first | rfl | exact Or.inl rfl | exact Or.inr rfl)⟩, ⟨rfl, hP.kept (fun k q hq => hq2 q.1 (hP k q hq).lt), va_K.moved ha9 hK, hD⟩, zr_F hS hq1 hq2⟩) hS.2.2 (by decide) (by decide)
    · refine lv_iload hx hb dX0_cut_9 (lv_at hl 3 rfl) ?_
      refine lv_iconst (v := 2) hx hb dX0_cut_11 (by decide) ?_
      refine lv_icmp_le hx hb dX0_cut_12 (tgt := 25) rfl (fun h4 => ?_) (fun h4 => ?_)
      · refine lv_aload_n hx hb dX0_cut_25 rfl (lv_at hl 0 rfl) ?_
        refine va_get (D := (dC, dI)) (ci := 0) (v := .int (cs_m u)) (C := RX0) (T := TX0) (N := 13) hx hb hts hin9 hown hK hP 0 rfl rfl 7 (by decide) (hts _ (List.mem_cons_of_mem _ mf_X0_53)) (fun _ h9 => h9) rfl dX0_cut_26 ?_
        refine lv_if_eq hx hb dX0_cut_29 (tgt := 42) rfl (fun h5 => ?_) (fun h5 => ?_)
        · refine lv_aload_n hx hb dX0_cut_42 rfl (lv_at hl 0 rfl) ?_
          refine lv_iload_n hx hb dX0_cut_43 rfl (lv_at hl 1 rfl) ?_
          refine lv_lload_n hx hb dX0_cut_44 rfl (lv_at hl 2 rfl) ?_
          refine lv_iload hx hb dX0_cut_45 (lv_at hl 3 rfl) ?_
          refine zr_Vi (w := fun z => wC n a ca z) (u := u) (u1 := (fc_wis n u j2 v q).2) (v := (fc_wis n u j2 v q).1) (As := [.int (nI j2), .long v, .int q]) (rest := []) ⟨hx, hb, hml, hown, hts⟩ (c_C_writeInSteps l dC dI n a ca u H.size j2 v q hn hn0 hok) (cwV 3 hts gX0_cut_X0_writeInSteps rfl rfl rfl (by decide +kernel) ⟨Nat.le_of_ble_eq_true rfl, Nat.le_of_ble_eq_true rfl⟩) hK hP hD hS hA (va_recv (q0 := 0) (ci := 0) (q := (RX0, TX0, 13)) hK hP rfl rfl) rfl hl.1 rfl (Nat.le_of_ble_eq_true rfl) dX0_cut_47 (fun H locs hP hD hS => ?_) ⟨Nat.le_of_ble_eq_true rfl, Nat.le_of_ble_eq_true rfl⟩
          have hP : va_P (dC, dI) vwCl (wC n a ca ((fc_wis n u j2 v q).2)) H := hP
          have hD : va_D A (wC n a ca ((fc_wis n u j2 v q).2)) := hD
          refine lv_istore hx hb dX0_cut_50 hl (by decide) rfl (fun ls hl => ?_)
          have hl : lv_has ls 6 [(5, .int ((fc_wis n u j2 v q).1)), (0, .ref (a 0)), (1, .int (nI j2)), (2, .long v), (4, .int q)] := hl
          refine lv_aload_n hx hb dX0_cut_52 rfl (lv_at hl 1 rfl) ?_
          refine zr_Vv (w := fun z => wC n a ca z) (u := ((fc_wis n u j2 v q).2)) (u1 := fc_stop n ((fc_wis n u j2 v q).2)) (As := []) (rest := []) ⟨hx, hb, hml, hown, hts⟩ (c_C_stopMachine l dC dI n a ca ((fc_wis n u j2 v q).2) H.size hn) (cwV 0 hts gX0_cut_X0_stopMachine rfl rfl rfl (by decide +kernel) ⟨Nat.le_of_ble_eq_true rfl, Nat.le_of_ble_eq_true rfl⟩) hK hP hD hS hA (va_recv (q0 := 0) (ci := 0) (q := (RX0, TX0, 13)) hK hP rfl rfl) rfl hl.1 rfl (Nat.le_of_ble_eq_true rfl) dX0_cut_53 (fun H locs hP hD hS => ?_) ⟨Nat.le_of_ble_eq_true rfl, Nat.le_of_ble_eq_true rfl⟩
          have hP : va_P (dC, dI) vwCl (wC n a ca (fc_stop n ((fc_wis n u j2 v q).2))) H := hP
          have hD : va_D A (wC n a ca (fc_stop n ((fc_wis n u j2 v q).2))) := hD
          refine lv_iload hx hb dX0_cut_56 (lv_at hl 0 rfl) ?_
          refine vx_ret ?_
          refine W.widen (k := 2) (n := 12) (Nat.le_of_ble_eq_true rfl) (Nat.le_of_ble_eq_true rfl) ?_
          exact W.iret (v := (fc_wis n u j2 v q).1) hx hb hr (fun t ht hW => ⟨⟨(fc_wis n u j2 v q).1, fc_stop n ((fc_wis n u j2 v q).2), rfl, ⟨(by first | rfl | (simp only [kc_cut, if_pos hk1, hk1, nI_clamp (show j2 < 2 ^ 31 by omega), if_neg h3, if_pos h4, if_pos h5] <;> rfl)), (by first | rfl | (simp only [fc_cut, if_pos hk1, hk1, nI_clamp (show j2 < 2 ^ 31 by omega), if_neg h3, if_pos h4, if_pos h5] <;> rfl)), (by first | rfl | (simp only [fc_cut, if_pos hk1, hk1, nI_clamp (show j2 < 2 ^ 31 by omega), if_neg h3, if_pos h4, if_pos h5] <;> rfl))⟩, ⟨by rw [ht]; exact hP, va_K.moved hW.alike hK, hD⟩⟩, hS.F ht⟩) hS.2.2 dX0_cut_58
        · exact vx_throwS (own := RX0) (cls := "java/lang/IllegalStateException") (text := "the mode is not BACK") (names := ["java/lang/RuntimeException", "java/lang/Exception"]) (ik := 82) (is := 84) (ic := 86) (sa := sa 2) hx hb hl9 hown (by decide +kernel) (by decide +kernel) (hts _ (List.mem_cons_of_mem _ mk_82)) (hts _ (List.mem_cons_of_mem _ mi_e86)) hE.2.2.2.2.1 (zat_86 (fun w h => hts w (List.mem_cons_of_mem _ h)) hE.2.1) zgd_86 hE.1.1 hE.1.2 hS (hl.1.trans hml.symm) dX0_cut_32 dX0_cut_35 dX0_cut_36 dX0_cut_38 dX0_cut_41 (fun x hx => (hEx x hx).elim) (Nat.le_of_ble_eq_true rfl) (Nat.le_of_ble_eq_true rfl) (Nat.le_of_ble_eq_true rfl) (Nat.le_of_ble_eq_true rfl) hlocks (fun t ha9 hq1 hq2 => ⟨(2, u), ⟨rfl, (by first | rfl | (simp only [kc_cut, if_pos hk1, hk1, nI_clamp (show j2 < 2 ^ 31 by omega), if_neg h3, if_pos h4, if_neg h5] <;> rfl)), (by first | rfl | exact Or.inl rfl | exact Or.inr rfl)⟩, ⟨rfl, hP.kept (fun k q hq => hq2 q.1 (hP k q hq).lt), va_K.moved ha9 hK, hD⟩, zr_F hS hq1 hq2⟩) hS.2.2 (by decide) (by decide)
      · exact vx_throwS (own := RX0) (cls := "java/lang/IllegalArgumentException") (text := "no such number of steps") (names := ["java/lang/RuntimeException", "java/lang/Exception"]) (ik := 75) (is := 77) (ic := 79) (sa := sa 1) hx hb hl9 hown (by decide +kernel) (by decide +kernel) (hts _ (List.mem_cons_of_mem _ mk_75)) (hts _ (List.mem_cons_of_mem _ mi_e79)) hE.2.2.2.1 (zat_79 (fun w h => hts w (List.mem_cons_of_mem _ h)) hE.2.1) zgd_79 hE.1.1 hE.1.2 hS (hl.1.trans hml.symm) dX0_cut_15 dX0_cut_18 dX0_cut_19 dX0_cut_21 dX0_cut_24 (fun x hx => (hEx x hx).elim) (Nat.le_of_ble_eq_true rfl) (Nat.le_of_ble_eq_true rfl) (Nat.le_of_ble_eq_true rfl) (Nat.le_of_ble_eq_true rfl) hlocks (fun t ha9 hq1 hq2 => ⟨(1, u), ⟨rfl, (by first | rfl | (simp only [kc_cut, if_pos hk1, hk1, nI_clamp (show j2 < 2 ^ 31 by omega), if_neg h3, if_neg h4] <;> rfl)), (by first | rfl | exact Or.inl rfl | exact Or.inr rfl)⟩, ⟨rfl, hP.kept (fun k q hq => hq2 q.1 (hP k q hq).lt), va_K.moved ha9 hK, hD⟩, zr_F hS hq1 hq2⟩) hS.2.2 (by decide) (by decide)
set_option maxHeartbeats 4000000 in
set_option maxRecDepth 100000 in
theorem c_C_mode (l : Launch) (hl9 : l.stackTraces = false) (sa : Nat → Nat) (dC : Nat → ClassId) (dI : Nat → Nat → Nat) (n : Nat) (a : Nat → Nat) (ca : Nat → ClassId) (u : StC) (sz : Nat) (x : Int32) (hn : n ≤ 12) (hok : okK n (cs_k u)) : vx_Met l yX0_mode wsX0_mode ({ frames := 6, cells := 1, slots := 6, locals := 96 }) (va_Pc [.ref (a 0), .int x] (fun U => zr_P (dC, dI) vwCl (tC ca) (wC n a ca u) sz U ∧ zE sa (va_A (wC n a ca u) sz) U)) (va_Qi (fun r u' => kc_mode x = 0 ∧ r = (fc_mode n u x).1 ∧ u' = (fc_mode n u x).2) (fun u' => zr_B (dC, dI) vwCl (tC ca) (va_A (wC n a ca u) sz) (wC n a ca u')) (va_A (wC n a ca u) sz)) (vx_X (fun (z : Int32 × StC) => z.2 = u ∧ z.1 = kc_mode x ∧ z.1 = 1) (fun E z t => E = "java/lang/IllegalArgumentException" ∧ zr_B (dC, dI) vwCl (tC ca) (va_A (wC n a ca u) sz) (wC n a ca z.2) t) (va_A (wC n a ca u) sz)) 1 6 (va_A (wC n a ca u) sz) := by
  refine vx_ofW (cc := cX0_mode) (maxL := 2) (ret := (some .int)) (by decide) rfl ?_
  intro p e s m args below meth c s₁ B hml hEx hv
  obtain ⟨rfl, ⟨hsz, hP, hK, hD0⟩, hE⟩ := hv
  have hx := B.exec
  have hb := B.bytes
  have hr := B.returns
  have hts := atoms_spec (ws := wsX0_mode) B.pre
  have hown : s.vm.findClass RX0 = some m.cls := findClass_of_methodNamed B.named
  have hlocks := B.notSynchronized
  subst hsz
  have hD := hD0.self (sz := s.heap.size)
  generalize hAe : va_A (wC n a ca u) s.heap.size = A at hD hE ⊢
  have hA : ∀ q : Nat, s.heap.size ≤ q → A q := fun q h => by rw [← hAe]; exact Or.inr h
  obtain ⟨H, hH, hP, hS⟩ : ∃ H, H = s.heap ∧ va_P (dC, dI) vwCl (wC n a ca u) H ∧ va_S A s.heap H [] := ⟨_, rfl, hP, va_S.rf⟩
  have hin9 : ∀ w ∈ u_ws RX0 TX0 13, w ∈ wsX0_mode := fun w h => List.mem_cons_of_mem _ (hinX0 w h)
  rw [← hH]
  have hl := lv_entry ([.ref (a 0), .int x]) (n := 2) (Nat.le_of_ble_eq_true rfl)
  rw [lg_entry_eq]
  generalize (lg_sl ([.ref (a 0), .int x]) ++ List.replicate (2 - (lg_sl ([.ref (a 0), .int x])).length) Slot.unset).toArray = ls at hl ⊢
  have hl : lv_has ls 2 [(0, .ref (a 0)), (1, .int x)] := hl
  refine lv_iload_n hx hb dX0_mode_0 rfl (lv_at hl 1 rfl) ?_
  refine lv_if_eq hx hb dX0_mode_1 (tgt := 24) rfl (fun h1 => ?_) (fun h1 => ?_)
  · refine lv_aload_n hx hb dX0_mode_24 rfl (lv_at hl 0 rfl) ?_
    refine lv_iload_n hx hb dX0_mode_25 rfl (lv_at hl 1 rfl) ?_
    refine va_put (D := (dC, dI)) (ci := 0) (v := .int x) (ty := .int) (C := RX0) (T := TX0) (N := 13) hx hb hts hin9 tyX0 tyX0_ok nmX0 hown hK hP hD hS 0 rfl rfl 7 (by decide) (hts _ (List.mem_cons_of_mem _ mf_X0_53)) (fun _ h9 => h9) rfl (by decide +kernel) rfl rfl (Nat.le_of_ble_eq_true rfl) dX0_mode_26 (fun H locs hP hD hS => ?_)
    have hP : va_P (dC, dI) vwCl (wC n a ca (cs_o u, cs_v u, cs_k u, cs_n u, cs_l u, cs_u u, x, cs_h u, cs_i u, cs_j u, cs_w u, cs_t u)) H := hP
    have hD : va_D A (wC n a ca (cs_o u, cs_v u, cs_k u, cs_n u, cs_l u, cs_u u, x, cs_h u, cs_i u, cs_j u, cs_w u, cs_t u)) := hD
    refine lv_iload_n hx hb dX0_mode_29 rfl (lv_at hl 1 rfl) ?_
    refine lv_if_ne hx hb dX0_mode_30 (tgt := 37) rfl (fun h => absurd h1 h) (fun _ => ?_)
    refine lv_iconst (v := 0) hx hb dX0_mode_33 (by decide) ?_
    refine lv_goto hx hb dX0_mode_34 (tgt := 41) rfl ?_
    refine vx_ret ?_
    refine W.widen (k := 1) (n := 6) (Nat.le_of_ble_eq_true rfl) (Nat.le_of_ble_eq_true rfl) ?_
    exact W.iret (v := 0) hx hb hr (fun t ht hW => ⟨⟨0, (cs_o u, cs_v u, cs_k u, cs_n u, cs_l u, cs_u u, x, cs_h u, cs_i u, cs_j u, cs_w u, cs_t u), rfl, ⟨(by first | rfl | (simp only [kc_mode, if_pos h1] <;> rfl)), (by first | rfl | (simp only [fc_mode, fc_setm, if_pos h1] <;> rfl)), (by first | rfl | (simp only [fc_mode, fc_setm, if_pos h1] <;> rfl))⟩, ⟨by rw [ht]; exact hP, va_K.moved hW.alike hK, hD⟩⟩, hS.F ht⟩) hS.2.2 dX0_mode_41
  · refine lv_iload_n hx hb dX0_mode_4 rfl (lv_at hl 1 rfl) ?_
    refine lv_iconst (v := 1) hx hb dX0_mode_5 (by decide) ?_
    refine lv_icmp_eq hx hb dX0_mode_6 (tgt := 24) rfl (fun h2 => ?_) (fun h2 => ?_)
    · refine lv_aload_n hx hb dX0_mode_24 rfl (lv_at hl 0 rfl) ?_
      refine lv_iload_n hx hb dX0_mode_25 rfl (lv_at hl 1 rfl) ?_
      refine va_put (D := (dC, dI)) (ci := 0) (v := .int x) (ty := .int) (C := RX0) (T := TX0) (N := 13) hx hb hts hin9 tyX0 tyX0_ok nmX0 hown hK hP hD hS 0 rfl rfl 7 (by decide) (hts _ (List.mem_cons_of_mem _ mf_X0_53)) (fun _ h9 => h9) rfl (by decide +kernel) rfl rfl (Nat.le_of_ble_eq_true rfl) dX0_mode_26 (fun H locs hP hD hS => ?_)
      have hP : va_P (dC, dI) vwCl (wC n a ca (cs_o u, cs_v u, cs_k u, cs_n u, cs_l u, cs_u u, x, cs_h u, cs_i u, cs_j u, cs_w u, cs_t u)) H := hP
      have hD : va_D A (wC n a ca (cs_o u, cs_v u, cs_k u, cs_n u, cs_l u, cs_u u, x, cs_h u, cs_i u, cs_j u, cs_w u, cs_t u)) := hD
      refine lv_iload_n hx hb dX0_mode_29 rfl (lv_at hl 1 rfl) ?_
      refine lv_if_ne hx hb dX0_mode_30 (tgt := 37) rfl (fun _ => ?_) (fun h => absurd h h1)
      refine lv_aload_n hx hb dX0_mode_37 rfl (lv_at hl 0 rfl) ?_
      refine zr_Vi (w := fun z => wC n a ca z) (u := (cs_o u, cs_v u, cs_k u, cs_n u, cs_l u, cs_u u, x, cs_h u, cs_i u, cs_j u, cs_w u, cs_t u)) (u1 := (fc_wab n 0 0 (cs_o u, cs_v u, cs_k u, cs_n u, cs_l u, cs_u u, x, cs_h u, cs_i u, cs_j u, cs_w u, cs_t u)).2) (v := (fc_wab n 0 0 (cs_o u, cs_v u, cs_k u, cs_n u, cs_l u, cs_u u, x, cs_h u, cs_i u, cs_j u, cs_w u, cs_t u)).1) (As := []) (rest := []) ⟨hx, hb, hml, hown, hts⟩ (c_C_writeAllBack l dC dI n a ca (cs_o u, cs_v u, cs_k u, cs_n u, cs_l u, cs_u u, x, cs_h u, cs_i u, cs_j u, cs_w u, cs_t u) H.size hn hok) (cwV 0 hts gX0_mode_X0_writeAllBack rfl rfl rfl (by decide +kernel) ⟨Nat.le_of_ble_eq_true rfl, Nat.le_of_ble_eq_true rfl⟩) hK hP hD hS hA (va_recv (q0 := 0) (ci := 0) (q := (RX0, TX0, 13)) hK hP rfl rfl) rfl hl.1 rfl (Nat.le_of_ble_eq_true rfl) dX0_mode_38 (fun H locs hP hD hS => ?_) ⟨Nat.le_of_ble_eq_true rfl, Nat.le_of_ble_eq_true rfl⟩
      have hP : va_P (dC, dI) vwCl (wC n a ca ((fc_wab n 0 0 (cs_o u, cs_v u, cs_k u, cs_n u, cs_l u, cs_u u, x, cs_h u, cs_i u, cs_j u, cs_w u, cs_t u)).2)) H := hP
      have hD : va_D A (wC n a ca ((fc_wab n 0 0 (cs_o u, cs_v u, cs_k u, cs_n u, cs_l u, cs_u u, x, cs_h u, cs_i u, cs_j u, cs_w u, cs_t u)).2)) := hD
      refine vx_ret ?_
      refine W.widen (k := 1) (n := 6) (Nat.le_of_ble_eq_true rfl) (Nat.le_of_ble_eq_true rfl) ?_
      exact W.iret (v := (fc_wab n 0 0 (cs_o u, cs_v u, cs_k u, cs_n u, cs_l u, cs_u u, x, cs_h u, cs_i u, cs_j u, cs_w u, cs_t u)).1) hx hb hr (fun t ht hW => ⟨⟨(fc_wab n 0 0 (cs_o u, cs_v u, cs_k u, cs_n u, cs_l u, cs_u u, x, cs_h u, cs_i u, cs_j u, cs_w u, cs_t u)).1, (fc_wab n 0 0 (cs_o u, cs_v u, cs_k u, cs_n u, cs_l u, cs_u u, x, cs_h u, cs_i u, cs_j u, cs_w u, cs_t u)).2, rfl, ⟨(by first | rfl | (simp only [kc_mode, if_neg h1, if_pos h2] <;> rfl)), (by first | rfl | (simp only [fc_mode, fc_setm, if_neg h1, if_pos h2] <;> rfl)), (by first | rfl | (simp only [fc_mode, fc_setm, if_neg h1, if_pos h2] <;> rfl))⟩, ⟨by rw [ht]; exact hP, va_K.moved hW.alike hK, hD⟩⟩, hS.F ht⟩) hS.2.2 dX0_mode_41
    · refine lv_iload_n hx hb dX0_mode_9 rfl (lv_at hl 1 rfl) ?_
      refine lv_iconst (v := 2) hx hb dX0_mode_10 (by decide) ?_
      refine lv_icmp_eq hx hb dX0_mode_11 (tgt := 24) rfl (fun h3 => ?_) (fun h3 => ?_)
      · refine lv_aload_n hx hb dX0_mode_24 rfl (lv_at hl 0 rfl) ?_
        refine lv_iload_n hx hb dX0_mode_25 rfl (lv_at hl 1 rfl) ?_
        refine va_put (D := (dC, dI)) (ci := 0) (v := .int x) (ty := .int) (C := RX0) (T := TX0) (N := 13) hx hb hts hin9 tyX0 tyX0_ok nmX0 hown hK hP hD hS 0 rfl rfl 7 (by decide) (hts _ (List.mem_cons_of_mem _ mf_X0_53)) (fun _ h9 => h9) rfl (by decide +kernel) rfl rfl (Nat.le_of_ble_eq_true rfl) dX0_mode_26 (fun H locs hP hD hS => ?_)
        have hP : va_P (dC, dI) vwCl (wC n a ca (cs_o u, cs_v u, cs_k u, cs_n u, cs_l u, cs_u u, x, cs_h u, cs_i u, cs_j u, cs_w u, cs_t u)) H := hP
        have hD : va_D A (wC n a ca (cs_o u, cs_v u, cs_k u, cs_n u, cs_l u, cs_u u, x, cs_h u, cs_i u, cs_j u, cs_w u, cs_t u)) := hD
        refine lv_iload_n hx hb dX0_mode_29 rfl (lv_at hl 1 rfl) ?_
        refine lv_if_ne hx hb dX0_mode_30 (tgt := 37) rfl (fun _ => ?_) (fun h => absurd h h1)
        refine lv_aload_n hx hb dX0_mode_37 rfl (lv_at hl 0 rfl) ?_
        refine zr_Vi (w := fun z => wC n a ca z) (u := (cs_o u, cs_v u, cs_k u, cs_n u, cs_l u, cs_u u, x, cs_h u, cs_i u, cs_j u, cs_w u, cs_t u)) (u1 := (fc_wab n 0 0 (cs_o u, cs_v u, cs_k u, cs_n u, cs_l u, cs_u u, x, cs_h u, cs_i u, cs_j u, cs_w u, cs_t u)).2) (v := (fc_wab n 0 0 (cs_o u, cs_v u, cs_k u, cs_n u, cs_l u, cs_u u, x, cs_h u, cs_i u, cs_j u, cs_w u, cs_t u)).1) (As := []) (rest := []) ⟨hx, hb, hml, hown, hts⟩ (c_C_writeAllBack l dC dI n a ca (cs_o u, cs_v u, cs_k u, cs_n u, cs_l u, cs_u u, x, cs_h u, cs_i u, cs_j u, cs_w u, cs_t u) H.size hn hok) (cwV 0 hts gX0_mode_X0_writeAllBack rfl rfl rfl (by decide +kernel) ⟨Nat.le_of_ble_eq_true rfl, Nat.le_of_ble_eq_true rfl⟩) hK hP hD hS hA (va_recv (q0 := 0) (ci := 0) (q := (RX0, TX0, 13)) hK hP rfl rfl) rfl hl.1 rfl (Nat.le_of_ble_eq_true rfl) dX0_mode_38 (fun H locs hP hD hS => ?_) ⟨Nat.le_of_ble_eq_true rfl, Nat.le_of_ble_eq_true rfl⟩
        have hP : va_P (dC, dI) vwCl (wC n a ca ((fc_wab n 0 0 (cs_o u, cs_v u, cs_k u, cs_n u, cs_l u, cs_u u, x, cs_h u, cs_i u, cs_j u, cs_w u, cs_t u)).2)) H := hP
        have hD : va_D A (wC n a ca ((fc_wab n 0 0 (cs_o u, cs_v u, cs_k u, cs_n u, cs_l u, cs_u u, x, cs_h u, cs_i u, cs_j u, cs_w u, cs_t u)).2)) := hD
        refine vx_ret ?_
        refine W.widen (k := 1) (n := 6) (Nat.le_of_ble_eq_true rfl) (Nat.le_of_ble_eq_true rfl) ?_
        exact W.iret (v := (fc_wab n 0 0 (cs_o u, cs_v u, cs_k u, cs_n u, cs_l u, cs_u u, x, cs_h u, cs_i u, cs_j u, cs_w u, cs_t u)).1) hx hb hr (fun t ht hW => ⟨⟨(fc_wab n 0 0 (cs_o u, cs_v u, cs_k u, cs_n u, cs_l u, cs_u u, x, cs_h u, cs_i u, cs_j u, cs_w u, cs_t u)).1, (fc_wab n 0 0 (cs_o u, cs_v u, cs_k u, cs_n u, cs_l u, cs_u u, x, cs_h u, cs_i u, cs_j u, cs_w u, cs_t u)).2, rfl, ⟨(by first | rfl | (simp only [kc_mode, if_neg h1, if_neg h2, if_pos h3] <;> rfl)), (by first | rfl | (simp only [fc_mode, fc_setm, if_neg h1, if_neg h2, if_pos h3] <;> rfl)), (by first | rfl | (simp only [fc_mode, fc_setm, if_neg h1, if_neg h2, if_pos h3] <;> rfl))⟩, ⟨by rw [ht]; exact hP, va_K.moved hW.alike hK, hD⟩⟩, hS.F ht⟩) hS.2.2 dX0_mode_41
      · exact vx_throwS (own := RX0) (cls := "java/lang/IllegalArgumentException") (text := "no such mode") (names := ["java/lang/RuntimeException", "java/lang/Exception"]) (ik := 75) (is := 90) (ic := 79) (sa := sa 3) hx hb hl9 hown (by decide +kernel) (by decide +kernel) (hts _ (List.mem_cons_of_mem _ mk_75)) (hts _ (List.mem_cons_of_mem _ mi_e79)) hE.2.2.2.2.2.1 (zat_79 (fun w h => hts w (List.mem_cons_of_mem _ h)) hE.2.1) zgd_79 hE.1.1 hE.1.2 hS (hl.1.trans hml.symm) dX0_mode_14 dX0_mode_17 dX0_mode_18 dX0_mode_20 dX0_mode_23 (fun x hx => (hEx x hx).elim) (Nat.le_of_ble_eq_true rfl) (Nat.le_of_ble_eq_true rfl) (Nat.le_of_ble_eq_true rfl) (Nat.le_of_ble_eq_true rfl) hlocks (fun t ha9 hq1 hq2 => ⟨(1, u), ⟨rfl, (by first | rfl | (simp only [kc_mode, if_neg h1, if_neg h2, if_neg h3] <;> rfl)), (by first | rfl | exact Or.inl rfl | exact Or.inr rfl)⟩, ⟨rfl, hP.kept (fun k q hq => hq2 q.1 (hP k q hq).lt), va_K.moved ha9 hK, hD⟩, zr_F hS hq1 hq2⟩) hS.2.2 (by decide) (by decide)
