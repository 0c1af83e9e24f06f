set_option maxHeartbeats 4000000 in
set_option maxRecDepth 100000 in
theorem c_C_back (l : Launch) (hl9 : l.stackTraces = false) (sa : Nat → Nat) (dC : Nat → ClassId) (dI : Nat → Nat → Nat) (n : Nat) (a : Nat → Nat) (ca : Nat → ClassId) (u : StC) (sz : Nat) (q : Int32) (hn : n ≤ 12) (hok : okK n (cs_k u)) : vx_Met l yX0_back wsX0_back ({ frames := 6, cells := 1, slots := 6, locals := 96 }) (va_Pc [.ref (a 0), .int q] (fun U => zr_P (dC, dI) vwCl (tC ca) (wC n a ca u) sz U ∧ zE sa (va_A (wC n a ca u) sz) U)) (va_Qi (fun r u' => kc_back q = 0 ∧ r = (fc_back n q.toNatClampNeg 0 u).1 ∧ u' = (fc_back n q.toNatClampNeg 0 u).2) (fun u' => zr_B (dC, dI) vwCl (tC ca) (va_A (wC n a ca u) sz) (wC n a ca u')) (va_A (wC n a ca u) sz)) (vx_X (fun (z : Int32 × StC) => z.2 = u ∧ z.1 = kc_back q ∧ z.1 = 1) (fun E z t => E = "java/lang/IllegalArgumentException" ∧ zr_B (dC, dI) vwCl (tC ca) (va_A (wC n a ca u) sz) (wC n a ca z.2) t) (va_A (wC n a ca u) sz)) 1 6 (va_A (wC n a ca u) sz) := by
  refine vx_ofW (cc := cX0_back) (maxL := 4) (ret := (some .int)) (by decide) rfl ?_
  intro p e s m args below meth c s₁ B hml hEx hv
  obtain ⟨rfl, ⟨hsz, hP, hK, hD0⟩, hE⟩ := hv
  have hx := B.exec
  have hb := B.bytes
  have hr := B.returns
  have hts := atoms_spec (ws := wsX0_back) B.pre
  have hown : s.vm.findClass RX0 = some m.cls := findClass_of_methodNamed B.named
  have hlocks := B.notSynchronized
  subst hsz
  have hD := hD0.self (sz := s.heap.size)
  generalize hAe : va_A (wC n a ca u) s.heap.size = A at hD hE ⊢
  have hA : ∀ q : Nat, s.heap.size ≤ q → A q := fun q h => by rw [← hAe]; exact Or.inr h
  obtain ⟨H, hH, hP, hS⟩ : ∃ H, H = s.heap ∧ va_P (dC, dI) vwCl (wC n a ca u) H ∧ va_S A s.heap H [] := ⟨_, rfl, hP, va_S.rf⟩
  have hin9 : ∀ w ∈ u_ws RX0 TX0 13, w ∈ wsX0_back := fun w h => List.mem_cons_of_mem _ (hinX0 w h)
  rw [← hH]
  have hl := lv_entry ([.ref (a 0), .int q]) (n := 4) (Nat.le_of_ble_eq_true rfl)
  rw [lg_entry_eq]
  generalize (lg_sl ([.ref (a 0), .int q]) ++ List.replicate (4 - (lg_sl ([.ref (a 0), .int q])).length) Slot.unset).toArray = ls at hl ⊢
  have hl : lv_has ls 4 [(0, .ref (a 0)), (1, .int q)] := hl
  refine lv_iload_n hx hb dX0_back_0 rfl (lv_at hl 1 rfl) ?_
  refine lv_if_lt hx hb dX0_back_1 (tgt := 10) rfl (fun h1 => ?_) (fun h1 => ?_)
  · exact vx_throwS (own := RX0) (cls := "java/lang/IllegalArgumentException") (text := "no such number of slots") (names := ["java/lang/RuntimeException", "java/lang/Exception"]) (ik := 75) (is := 95) (ic := 79) (sa := sa 4) hx hb hl9 hown (by decide +kernel) (by decide +kernel) (hts _ (List.mem_cons_of_mem _ mk_75)) (hts _ (List.mem_cons_of_mem _ mi_e79)) hE.2.2.2.2.2.2.1 (zat_79 (fun w h => hts w (List.mem_cons_of_mem _ h)) hE.2.1) zgd_79 hE.1.1 hE.1.2 hS (hl.1.trans hml.symm) dX0_back_10 dX0_back_13 dX0_back_14 dX0_back_16 dX0_back_19 (fun x hx => (hEx x hx).elim) (Nat.le_of_ble_eq_true rfl) (Nat.le_of_ble_eq_true rfl) (Nat.le_of_ble_eq_true rfl) (Nat.le_of_ble_eq_true rfl) hlocks (fun t ha9 hq1 hq2 => ⟨(1, u), ⟨rfl, (by first | rfl | (simp only [kc_back, if_pos h1] <;> rfl)), (by first | rfl | exact Or.inl rfl | exact Or.inr rfl)⟩, ⟨rfl, hP.kept (fun k q hq => hq2 q.1 (hP k q hq).lt), va_K.moved ha9 hK, hD⟩, zr_F hS hq1 hq2⟩) hS.2.2 (by decide) (by decide)
  · refine lv_iload_n hx hb dX0_back_4 rfl (lv_at hl 1 rfl) ?_
    refine lv_bipush (v := 12) hx hb dX0_back_5 (by decide) ?_
    refine lv_icmp_le hx hb dX0_back_7 (tgt := 20) rfl (fun h2 => ?_) (fun h2 => ?_)
    · obtain ⟨N, hN, rfl⟩ := nI_of2 (M := 12) (n := 12) (by decide) h1 h2
      refine lv_iconst (v := 0) hx hb dX0_back_20 (by decide) ?_
      refine lv_istore_n hx hb dX0_back_21 rfl hl (by decide) rfl (fun ls hl => ?_)
      have hl : lv_has ls 4 [(2, .int 0), (0, .ref (a 0)), (1, .int (nI N))] := hl
      refine zr_loop (fun r (x0 : Nat × StC) ls H locs => r + x0.1 = N ∧ fc_back n r x0.1 x0.2 = fc_back n N 0 u ∧ (okK n (cs_k x0.2)) ∧ lv_has ls 4 [(0, .ref (a 0)), (1, .int (nI N)), (2, .int (nI x0.1))] ∧ va_P (dC, dI) vwCl (wC n a ca x0.2) H ∧ va_D A (wC n a ca x0.2) ∧ va_S A s.heap H locs) (fun ls => F0 m 22 ls []) ?_ N (0, u) _ _ _ ⟨by omega, rfl, hok, lv_sub hl [1, 2, 0] rfl, hP, hD, hS⟩
      rintro r ⟨k, w⟩ ls H locs ih ⟨hrk, hinv, hok, hl, hP, hD, hS⟩
      have hrk : r + k = N := hrk
      have hinv : fc_back n r k w = fc_back n N 0 u := hinv
      have hok : okK n (cs_k w) := hok
      have hl : lv_has ls 4 [(0, .ref (a 0)), (1, .int (nI N)), (2, .int (nI k))] := hl
      have hP : va_P (dC, dI) vwCl (wC n a ca w) H := hP
      have hD : va_D A (wC n a ca w) := hD
      refine lv_iload_n hx hb dX0_back_22 rfl (lv_at hl 2 rfl) ?_
      refine lv_iload_n hx hb dX0_back_23 rfl (lv_at hl 1 rfl) ?_
      refine lv_icmp_ge hx hb dX0_back_24 (tgt := 66) rfl (fun h3 => ?_) (fun h3 => ?_)
      · have h3 := zr_ge (by omega) (by omega) h3
        obtain rfl : r = 0 := by omega
        obtain rfl : N = k := by omega
        refine lv_iload_n hx hb dX0_back_66 rfl (lv_at hl 1 rfl) ?_
        refine vx_ret ?_
        refine W.widen (k := 1) (n := 6) (Nat.le_of_ble_eq_true rfl) (Nat.le_of_ble_eq_true rfl) ?_
        exact W.iret (v := nI N) hx hb hr (fun t ht hW => ⟨⟨nI N, w, rfl, ⟨(by first | rfl | (simp only [kc_back, if_neg h1, if_pos h2, nI_clamp (show N < 2 ^ 31 by omega)] <;> rfl) | (simp only [kc_back, if_neg h1, if_pos h2, nI_clamp (show N < 2 ^ 31 by omega)]; rw [← hinv] <;> rfl) | (rw [← hinv] <;> rfl) | (simp only [kc_back, if_neg h1, if_pos h2, nI_clamp (show N < 2 ^ 31 by omega)]; rw [← hinv]; simp only [kc_back, if_neg h1, if_pos h2, nI_clamp (show N < 2 ^ 31 by omega)] <;> rfl)), (by first | rfl | (rw [← hinv] <;> rfl) | (rw [← hinv]; simp only [fc_back, if_neg h1, if_pos h2, nI_clamp (show N < 2 ^ 31 by omega)] <;> rfl) | (simp only [fc_back, if_neg h1, if_pos h2, nI_clamp (show N < 2 ^ 31 by omega)]; rw [← hinv] <;> rfl) | (simp only [fc_back, if_neg h1, if_pos h2, nI_clamp (show N < 2 ^ 31 by omega)]; rw [← hinv]; simp only [fc_back, if_neg h1, if_pos h2, nI_clamp (show N < 2 ^ 31 by omega)] <;> rfl) | (simp only [fc_back, if_neg h1, if_pos h2, nI_clamp (show N < 2 ^ 31 by omega)] <;> rfl)), (by first | rfl | (rw [← hinv] <;> rfl) | (rw [← hinv]; simp only [fc_back, if_neg h1, if_pos h2, nI_clamp (show N < 2 ^ 31 by omega)] <;> rfl) | (simp only [fc_back, if_neg h1, if_pos h2, nI_clamp (show N < 2 ^ 31 by omega)]; rw [← hinv] <;> rfl) | (simp only [fc_back, if_neg h1, if_pos h2, nI_clamp (show N < 2 ^ 31 by omega)]; rw [← hinv]; simp only [fc_back, if_neg h1, if_pos h2, nI_clamp (show N < 2 ^ 31 by omega)] <;> rfl) | (simp only [fc_back, if_neg h1, if_pos h2, nI_clamp (show N < 2 ^ 31 by omega)] <;> rfl))⟩, ⟨by rw [ht]; exact hP, va_K.moved hW.alike hK, hD⟩⟩, hS.F ht⟩) hS.2.2 dX0_back_67
      · have h3 := zr_lt (by omega) (by omega) h3
        obtain ⟨r', rfl⟩ : ∃ z, r = z + 1 := ⟨r - 1, by omega⟩
        refine lv_aload_n hx hb dX0_back_27 rfl (lv_at hl 0 rfl) ?_
        refine zr_Vi (w := fun z => wC n a ca z) (u := w) (u1 := w) (v := fc_enc (fc_next n w)) (As := []) (rest := []) ⟨hx, hb, hml, hown, hts⟩ (c_C_nextForHand l dC dI n a ca w H.size hn) (cwV 0 hts gX0_back_X0_nextForHand rfl rfl rfl (by decide +kernel) ⟨Nat.le_of_ble_eq_true rfl, Nat.le_of_ble_eq_true rfl⟩) hK hP hD hS hA (va_recv (q0 := 0) (ci := 0) (q := (RX0, TX0, 13)) hK hP rfl rfl) rfl hl.1 rfl (Nat.le_of_ble_eq_true rfl) dX0_back_28 (fun H locs hP hD hS => ?_) ⟨Nat.le_of_ble_eq_true rfl, Nat.le_of_ble_eq_true rfl⟩
        have hP : va_P (dC, dI) vwCl (wC n a ca w) H := hP
        have hD : va_D A (wC n a ca w) := hD
        rcases hf4 : fc_next n w with _ | j5
        · refine W.eq (g2 := F0 m 31 ls [.int (-1)]) rfl ?_
          refine lv_istore_n hx hb dX0_back_31 rfl hl (by decide) rfl (fun ls hl => ?_)
          have hl : lv_has ls 4 [(3, .int (-1)), (0, .ref (a 0)), (1, .int (nI N)), (2, .int (nI k))] := hl
          refine lv_iload_n hx hb dX0_back_32 rfl (lv_at hl 0 rfl) ?_
          refine lv_iconst (v := (-1)) hx hb dX0_back_33 (by decide) ?_
          refine lv_icmp_ne hx hb dX0_back_34 (tgt := 39) rfl (fun h => absurd (by decide) h) (fun _ => ?_)
          refine lv_iload_n hx hb dX0_back_37 rfl (lv_at hl 3 rfl) ?_
          refine vx_ret ?_
          refine W.widen (k := 1) (n := 6) (Nat.le_of_ble_eq_true rfl) (Nat.le_of_ble_eq_true rfl) ?_
          exact W.iret (v := nI k) hx hb hr (fun t ht hW => ⟨⟨nI k, w, rfl, ⟨(by first | rfl | (simp only [kc_back, if_neg h1, if_pos h2, nI_clamp (show N < 2 ^ 31 by omega), hf4] <;> rfl) | (simp only [kc_back, if_neg h1, if_pos h2, nI_clamp (show N < 2 ^ 31 by omega), hf4]; rw [← hinv] <;> rfl) | (rw [← hinv] <;> rfl) | (simp only [kc_back, if_neg h1, if_pos h2, nI_clamp (show N < 2 ^ 31 by omega), hf4]; rw [← hinv]; simp only [kc_back, if_neg h1, if_pos h2, nI_clamp (show N < 2 ^ 31 by omega), hf4] <;> rfl)), (by first | rfl | (rw [← hinv] <;> rfl) | (rw [← hinv]; simp only [fc_back, if_neg h1, if_pos h2, nI_clamp (show N < 2 ^ 31 by omega), hf4] <;> rfl) | (simp only [fc_back, if_neg h1, if_pos h2, nI_clamp (show N < 2 ^ 31 by omega), hf4]; rw [← hinv] <;> rfl) | (simp only [fc_back, if_neg h1, if_pos h2, nI_clamp (show N < 2 ^ 31 by omega), hf4]; rw [← hinv]; simp only [fc_back, if_neg h1, if_pos h2, nI_clamp (show N < 2 ^ 31 by omega), hf4] <;> rfl) | (simp only [fc_back, if_neg h1, if_pos h2, nI_clamp (show N < 2 ^ 31 by omega), hf4] <;> rfl)), (by first | rfl | (rw [← hinv] <;> rfl) | (rw [← hinv]; simp only [fc_back, if_neg h1, if_pos h2, nI_clamp (show N < 2 ^ 31 by omega), hf4] <;> rfl) | (simp only [fc_back, if_neg h1, if_pos h2, nI_clamp (show N < 2 ^ 31 by omega), hf4]; rw [← hinv] <;> rfl) | (simp only [fc_back, if_neg h1, if_pos h2, nI_clamp (show N < 2 ^ 31 by omega), hf4]; rw [← hinv]; simp only [fc_back, if_neg h1, if_pos h2, nI_clamp (show N < 2 ^ 31 by omega), hf4] <;> rfl) | (simp only [fc_back, if_neg h1, if_pos h2, nI_clamp (show N < 2 ^ 31 by omega), hf4] <;> rfl))⟩, ⟨by rw [ht]; exact hP, va_K.moved hW.alike hK, hD⟩⟩, hS.F ht⟩) hS.2.2 dX0_back_38
        · have hj5 := fc_next_lt hf4
          refine W.eq (g2 := F0 m 31 ls [.int (nI j5)]) rfl ?_
          refine lv_istore_n hx hb dX0_back_31 rfl hl (by decide) rfl (fun ls hl => ?_)
          have hl : lv_has ls 4 [(3, .int (nI j5)), (0, .ref (a 0)), (1, .int (nI N)), (2, .int (nI k))] := hl
          refine lv_iload_n hx hb dX0_back_32 rfl (lv_at hl 0 rfl) ?_
          refine lv_iconst (v := (-1)) hx hb dX0_back_33 (by decide) ?_
          refine lv_icmp_ne hx hb dX0_back_34 (tgt := 39) rfl (fun _ => ?_) (fun h => absurd h (zr_nem (by omega)))
          refine lv_aload_n hx hb dX0_back_39 rfl (lv_at hl 1 rfl) ?_
          refine lv_iload_n hx hb dX0_back_40 rfl (lv_at hl 0 rfl) ?_
          refine zr_Vi (w := fun z => wC n a ca z) (u := w) (u1 := (fc_wbd w j5).2) (v := (fc_wbd w j5).1) (As := [.int (nI j5)]) (rest := []) ⟨hx, hb, hml, hown, hts⟩ (c_C_writeBackIfDirty l dC dI n a ca w H.size j5 hn (by omega) (hok _ (by omega))) (cwV 1 hts gX0_back_X0_writeBackIfDirty rfl rfl rfl (by decide +kernel) ⟨Nat.le_of_ble_eq_true rfl, Nat.le_of_ble_eq_true rfl⟩) hK hP hD hS hA (va_recv (q0 := 0) (ci := 0) (q := (RX0, TX0, 13)) hK hP rfl rfl) rfl hl.1 rfl (Nat.le_of_ble_eq_true rfl) dX0_back_41 (fun H locs hP hD hS => ?_) ⟨Nat.le_of_ble_eq_true rfl, Nat.le_of_ble_eq_true rfl⟩
          have hP : va_P (dC, dI) vwCl (wC n a ca ((fc_wbd w j5).2)) H := hP
          have hD : va_D A (wC n a ca ((fc_wbd w j5).2)) := hD
          refine lv_pop hx hb dX0_back_44 rfl ?_
          refine lv_aload_n hx hb dX0_back_45 rfl (lv_at hl 1 rfl) ?_
          refine lv_aload_n hx hb dX0_back_46 rfl (lv_at hl 1 rfl) ?_
          refine va_get (D := (dC, dI)) (ci := 0) (v := .ref (a 3)) (C := RX0) (T := TX0) (N := 13) hx hb hts hin9 hown hK hP 0 rfl rfl 3 (by decide) (hts _ (List.mem_cons_of_mem _ mf_X0_20)) (fun _ h9 => h9) rfl dX0_back_47 ?_
          refine lv_iload_n hx hb dX0_back_50 rfl (lv_at hl 0 rfl) ?_
          refine zr_iald (k := j5) hx hb hK hP 3 2 rfl rfl (by omega) (by omega) dX0_back_51 ?_
          refine zr_Si (v := (fc_blk ((cs_k ((fc_wbd w j5).2)) j5))) (As := [.int ((cs_k ((fc_wbd w j5).2)) j5)]) (rest := [.ref (a 0)]) ⟨hx, hb, hml, hown, hts⟩ (c_C_blockOf l H.size ((cs_k ((fc_wbd w j5).2)) j5)) (va_cwS 1 hts gX0_back_X0_blockOf rfl rfl rfl (by decide +kernel) ⟨Nat.le_of_ble_eq_true rfl, Nat.le_of_ble_eq_true rfl⟩) hP hS hA rfl hl.1 rfl (Nat.le_of_ble_eq_true rfl) dX0_back_52 (fun H locs hP hS => ?_) ⟨Nat.le_of_ble_eq_true rfl, Nat.le_of_ble_eq_true rfl⟩
          refine lv_iconst (v := 1) hx hb dX0_back_55 (by decide) ?_
          refine lv_iadd hx hb dX0_back_56 ?_
          refine va_put (D := (dC, dI)) (ci := 0) (v := .int ((fc_blk ((cs_k ((fc_wbd w j5).2)) j5)) + 1)) (ty := .int) (C := RX0) (T := TX0) (N := 13) hx hb hts hin9 tyX0 tyX0_ok nmX0 hown hK hP hD hS 0 rfl rfl 8 (by decide) (hts _ (List.mem_cons_of_mem _ mf_X0_107)) (fun _ h9 => h9) rfl (by decide +kernel) rfl rfl (Nat.le_of_ble_eq_true rfl) dX0_back_57 (fun H locs hP hD hS => ?_)
          have hP : va_P (dC, dI) vwCl (wC n a ca (cs_o ((fc_wbd w j5).2), cs_v ((fc_wbd w j5).2), cs_k ((fc_wbd w j5).2), cs_n ((fc_wbd w j5).2), cs_l ((fc_wbd w j5).2), cs_u ((fc_wbd w j5).2), cs_m ((fc_wbd w j5).2), ((fc_blk ((cs_k ((fc_wbd w j5).2)) j5)) + 1), cs_i ((fc_wbd w j5).2), cs_j ((fc_wbd w j5).2), cs_w ((fc_wbd w j5).2), cs_t ((fc_wbd w j5).2))) H := hP
          have hD : va_D A (wC n a ca (cs_o ((fc_wbd w j5).2), cs_v ((fc_wbd w j5).2), cs_k ((fc_wbd w j5).2), cs_n ((fc_wbd w j5).2), cs_l ((fc_wbd w j5).2), cs_u ((fc_wbd w j5).2), cs_m ((fc_wbd w j5).2), ((fc_blk ((cs_k ((fc_wbd w j5).2)) j5)) + 1), cs_i ((fc_wbd w j5).2), cs_j ((fc_wbd w j5).2), cs_w ((fc_wbd w j5).2), cs_t ((fc_wbd w j5).2))) := hD
          refine lv_iinc (k := 3) (v := nI (k + 1)) hx hb dX0_back_60 hl rfl (zr_incN k) (by decide) rfl (fun ls hl => ?_)
          have hl : lv_has ls 4 [(2, .int (nI (k + 1))), (3, .int (nI j5)), (0, .ref (a 0)), (1, .int (nI N))] := hl
          refine lv_goto hx hb dX0_back_63 (tgt := 22) rfl ?_
          exact ih r' (k + 1, (cs_o ((fc_wbd w j5).2), cs_v ((fc_wbd w j5).2), cs_k ((fc_wbd w j5).2), cs_n ((fc_wbd w j5).2), cs_l ((fc_wbd w j5).2), cs_u ((fc_wbd w j5).2), cs_m ((fc_wbd w j5).2), ((fc_blk ((cs_k ((fc_wbd w j5).2)) j5)) + 1), cs_i ((fc_wbd w j5).2), cs_j ((fc_wbd w j5).2), cs_w ((fc_wbd w j5).2), cs_t ((fc_wbd w j5).2))) _ _ _ (by omega) ⟨by omega, (by rw [← hinv]; first | rfl | (simp only [fc_back, fc_back1, fc_seth, hf4] <;> rfl)), (ok_wbd hok (by omega)), lv_sub hl [2, 3, 0] rfl, hP, hD, hS⟩
    · exact vx_throwS (own := RX0) (cls := "java/lang/IllegalArgumentException") (text := "no such number of slots") (names := ["java/lang/RuntimeException", "java/lang/Exception"]) (ik := 75) (is := 95) (ic := 79) (sa := sa 4) hx hb hl9 hown (by decide +kernel) (by decide +kernel) (hts _ (List.mem_cons_of_mem _ mk_75)) (hts _ (List.mem_cons_of_mem _ mi_e79)) hE.2.2.2.2.2.2.1 (zat_79 (fun w h => hts w (List.mem_cons_of_mem _ h)) hE.2.1) zgd_79 hE.1.1 hE.1.2 hS (hl.1.trans hml.symm) dX0_back_10 dX0_back_13 dX0_back_14 dX0_back_16 dX0_back_19 (fun x hx => (hEx x hx).elim) (Nat.le_of_ble_eq_true rfl) (Nat.le_of_ble_eq_true rfl) (Nat.le_of_ble_eq_true rfl) (Nat.le_of_ble_eq_true rfl) hlocks (fun t ha9 hq1 hq2 => ⟨(1, u), ⟨rfl, (by first | rfl | (simp only [kc_back, if_neg h1, if_neg h2] <;> rfl)), (by first | rfl | exact Or.inl rfl | exact Or.inr rfl)⟩, ⟨rfl, hP.kept (fun k q hq => hq2 q.1 (hP k q hq).lt), va_K.moved ha9 hK, hD⟩, zr_F hS hq1 hq2⟩) hS.2.2 (by decide) (by decide)
set_option maxHeartbeats 4000000 in
set_option maxRecDepth 100000 in
theorem c_C_order (l : Launch) (hl9 : l.stackTraces = false) (sa : Nat → Nat) (dC : Nat → ClassId) (dI : Nat → Nat → Nat) (n : Nat) (a : Nat → Nat) (ca : Nat → ClassId) (u : StC) (sz : Nat) (q : Int32) (hn : n ≤ 12) : vx_Met l yX0_order wsX0_order ({ frames := 6, cells := 1, slots := 6, locals := 96 }) (va_Pc [.ref (a 0), .int q] (fun U => zr_P (dC, dI) vwCl (tC ca) (wC n a ca u) sz U ∧ zE sa (va_A (wC n a ca u) sz) U)) (va_Qi (fun r u' => kc_order (fc_order (cs_k u) (cs_l u) n q n 0) = 0 ∧ r = (fc_order (cs_k u) (cs_l u) n q n 0).getD 0 ∧ u' = u) (fun u' => zr_B (dC, dI) vwCl (tC ca) (va_A (wC n a ca u) sz) (wC n a ca u')) (va_A (wC n a ca u) sz)) (vx_X (fun (z : Int32 × StC) => z.2 = u ∧ z.1 = kc_order (fc_order (cs_k u) (cs_l u) n q n 0) ∧ z.1 = 1) (fun E z t => E = "java/lang/IndexOutOfBoundsException" ∧ zr_B (dC, dI) vwCl (tC ca) (va_A (wC n a ca u) sz) (wC n a ca z.2) t) (va_A (wC n a ca u) sz)) 1 6 (va_A (wC n a ca u) sz) := by
  refine vx_ofW (cc := cX0_order) (maxL := 3) (ret := (some .int)) (by decide) rfl ?_
  intro p e s m args below meth c s₁ B hml hEx hv
  obtain ⟨rfl, ⟨hsz, hP, hK, hD0⟩, hE⟩ := hv
  have hx := B.exec
  have hb := B.bytes
  have hr := B.returns
  have hts := atoms_spec (ws := wsX0_order) B.pre
  have hown : s.vm.findClass RX0 = some m.cls := findClass_of_methodNamed B.named
  have hlocks := B.notSynchronized
  subst hsz
  have hD := hD0.self (sz := s.heap.size)
  generalize hAe : va_A (wC n a ca u) s.heap.size = A at hD hE ⊢
  have hA : ∀ q : Nat, s.heap.size ≤ q → A q := fun q h => by rw [← hAe]; exact Or.inr h
  obtain ⟨H, hH, hP, hS⟩ : ∃ H, H = s.heap ∧ va_P (dC, dI) vwCl (wC n a ca u) H ∧ va_S A s.heap H [] := ⟨_, rfl, hP, va_S.rf⟩
  have hin9 : ∀ w ∈ u_ws RX0 TX0 13, w ∈ wsX0_order := fun w h => List.mem_cons_of_mem _ (hinX0 w h)
  rw [← hH]
  have hl := lv_entry ([.ref (a 0), .int q]) (n := 3) (Nat.le_of_ble_eq_true rfl)
  rw [lg_entry_eq]
  generalize (lg_sl ([.ref (a 0), .int q]) ++ List.replicate (3 - (lg_sl ([.ref (a 0), .int q])).length) Slot.unset).toArray = ls at hl ⊢
  have hl : lv_has ls 3 [(0, .ref (a 0)), (1, .int q)] := hl
  refine lv_iconst (v := 0) hx hb dX0_order_0 (by decide) ?_
  refine lv_istore_n hx hb dX0_order_1 rfl hl (by decide) rfl (fun ls hl => ?_)
  have hl : lv_has ls 3 [(2, .int 0), (0, .ref (a 0)), (1, .int q)] := hl
  refine zr_loop (fun r (x0 : Nat) ls H locs => r + x0 = n ∧ fc_order (cs_k u) (cs_l u) n q r x0 = fc_order (cs_k u) (cs_l u) n q n 0 ∧ lv_has ls 3 [(0, .ref (a 0)), (1, .int q), (2, .int (nI x0))] ∧ va_P (dC, dI) vwCl (wC n a ca u) H ∧ va_D A (wC n a ca u) ∧ va_S A s.heap H locs) (fun ls => F0 m 2 ls []) ?_ n 0 _ _ _ ⟨by omega, rfl, lv_sub hl [1, 2, 0] rfl, hP, hD, hS⟩
  rintro r k ls H locs ih ⟨hrk, hinv, hl, hP, hD, hS⟩
  have hrk : r + k = n := hrk
  have hinv : fc_order (cs_k u) (cs_l u) n q r k = fc_order (cs_k u) (cs_l u) n q n 0 := hinv
  have hl : lv_has ls 3 [(0, .ref (a 0)), (1, .int q), (2, .int (nI k))] := hl
  have hP : va_P (dC, dI) vwCl (wC n a ca u) H := hP
  have hD : va_D A (wC n a ca u) := hD
  refine lv_iload_n hx hb dX0_order_2 rfl (lv_at hl 2 rfl) ?_
  refine lv_aload_n hx hb dX0_order_3 rfl (lv_at hl 0 rfl) ?_
  refine va_get (D := (dC, dI)) (ci := 0) (v := .int (nI n)) (C := RX0) (T := TX0) (N := 13) hx hb hts hin9 hown hK hP 0 rfl rfl 0 (by decide) (hts _ (List.mem_cons_of_mem _ mf_X0_9)) (fun _ h9 => h9) rfl dX0_order_4 ?_
  refine lv_icmp_ge hx hb dX0_order_7 (tgt := 45) rfl (fun h1 => ?_) (fun h1 => ?_)
  · have h1 := zr_ge (by omega) (by omega) h1
    obtain rfl : r = 0 := by omega
    exact vx_throwS (own := RX0) (cls := "java/lang/IndexOutOfBoundsException") (text := "no such place in the order") (names := ["java/lang/RuntimeException", "java/lang/Exception"]) (ik := 130) (is := 132) (ic := 134) (sa := sa 6) hx hb hl9 hown (by decide +kernel) (by decide +kernel) (hts _ (List.mem_cons_of_mem _ mk_130)) (hts _ (List.mem_cons_of_mem _ mi_e134)) hE.2.2.2.2.2.2.2.2.1 (zat_134 (fun w h => hts w (List.mem_cons_of_mem _ h)) hE.2.1) zgd_134 hE.1.1 hE.1.2 hS (hl.1.trans hml.symm) dX0_order_45 dX0_order_48 dX0_order_49 dX0_order_51 dX0_order_54 (fun x hx => (hEx x hx).elim) (Nat.le_of_ble_eq_true rfl) (Nat.le_of_ble_eq_true rfl) (Nat.le_of_ble_eq_true rfl) (Nat.le_of_ble_eq_true rfl) hlocks (fun t ha9 hq1 hq2 => ⟨(1, u), ⟨rfl, (by first | rfl | (simp only [kc_order, fc_order] <;> rfl) | (simp only [kc_order, fc_order]; rw [← hinv] <;> rfl) | (rw [← hinv] <;> rfl) | (simp only [kc_order, fc_order]; rw [← hinv]; simp only [kc_order, fc_order] <;> rfl)), (by first | rfl | exact Or.inl rfl | exact Or.inr rfl)⟩, ⟨rfl, hP.kept (fun k q hq => hq2 q.1 (hP k q hq).lt), va_K.moved ha9 hK, hD⟩, zr_F hS hq1 hq2⟩) hS.2.2 (by decide) (by decide)
  · have h1 := zr_lt (by omega) (by omega) h1
    obtain ⟨r', rfl⟩ : ∃ z, r = z + 1 := ⟨r - 1, by omega⟩
    refine lv_aload_n hx hb dX0_order_10 rfl (lv_at hl 0 rfl) ?_
    refine va_get (D := (dC, dI)) (ci := 0) (v := .ref (a 3)) (C := RX0) (T := TX0) (N := 13) hx hb hts hin9 hown hK hP 0 rfl rfl 3 (by decide) (hts _ (List.mem_cons_of_mem _ mf_X0_20)) (fun _ h9 => h9) rfl dX0_order_11 ?_
    refine lv_iload_n hx hb dX0_order_14 rfl (lv_at hl 2 rfl) ?_
    refine zr_iald (k := k) hx hb hK hP 3 2 rfl rfl (by omega) (by omega) dX0_order_15 ?_
    refine lv_iconst (v := (-1)) hx hb dX0_order_16 (by decide) ?_
    refine lv_icmp_eq hx hb dX0_order_17 (tgt := 39) rfl (fun h2 => ?_) (fun h2 => ?_)
    · refine lv_iinc (k := 2) (v := nI (k + 1)) hx hb dX0_order_39 hl rfl (zr_incN k) (by decide) rfl (fun ls hl => ?_)
      have hl : lv_has ls 3 [(2, .int (nI (k + 1))), (0, .ref (a 0)), (1, .int q)] := hl
      refine lv_goto hx hb dX0_order_42 (tgt := 2) rfl ?_
      exact ih r' (k + 1) _ _ _ (by omega) ⟨by omega, (by rw [← hinv]; first | rfl | (simp only [fc_order, if_pos h2] <;> rfl)), lv_sub hl [1, 2, 0] rfl, hP, hD, hS⟩
    · refine lv_aload_n hx hb dX0_order_20 rfl (lv_at hl 0 rfl) ?_
      refine lv_iload_n hx hb dX0_order_21 rfl (lv_at hl 2 rfl) ?_
      refine zr_Vi (w := fun z => wC n a ca z) (u := u) (u1 := u) (v := fc_cua (cs_k u) (cs_l u) k n 0 0) (As := [.int (nI k)]) (rest := []) ⟨hx, hb, hml, hown, hts⟩ (c_C_countUsedAfter l dC dI n a ca u H.size k hn (by omega)) (cwV 1 hts gX0_order_X0_countUsedAfter rfl rfl rfl (by decide +kernel) ⟨Nat.le_of_ble_eq_true rfl, Nat.le_of_ble_eq_true rfl⟩) hK hP hD hS hA (va_recv (q0 := 0) (ci := 0) (q := (RX0, TX0, 13)) hK hP rfl rfl) rfl hl.1 rfl (Nat.le_of_ble_eq_true rfl) dX0_order_22 (fun H locs hP hD hS => ?_) ⟨Nat.le_of_ble_eq_true rfl, Nat.le_of_ble_eq_true rfl⟩
      have hP : va_P (dC, dI) vwCl (wC n a ca u) H := hP
      have hD : va_D A (wC n a ca u) := hD
      refine lv_iload_n hx hb dX0_order_25 rfl (lv_at hl 1 rfl) ?_
      refine lv_icmp_ne hx hb dX0_order_26 (tgt := 39) rfl (fun h3 => ?_) (fun h3 => ?_)
      · refine lv_iinc (k := 2) (v := nI (k + 1)) hx hb dX0_order_39 hl rfl (zr_incN k) (by decide) rfl (fun ls hl => ?_)
        have hl : lv_has ls 3 [(2, .int (nI (k + 1))), (0, .ref (a 0)), (1, .int q)] := hl
        refine lv_goto hx hb dX0_order_42 (tgt := 2) rfl ?_
        exact ih r' (k + 1) _ _ _ (by omega) ⟨by omega, (by rw [← hinv]; first | rfl | (simp only [fc_order, if_neg h2, if_neg h3] <;> rfl)), lv_sub hl [1, 2, 0] rfl, hP, hD, hS⟩
      · refine lv_aload_n hx hb dX0_order_29 rfl (lv_at hl 0 rfl) ?_
        refine va_get (D := (dC, dI)) (ci := 0) (v := .ref (a 3)) (C := RX0) (T := TX0) (N := 13) hx hb hts hin9 hown hK hP 0 rfl rfl 3 (by decide) (hts _ (List.mem_cons_of_mem _ mf_X0_20)) (fun _ h9 => h9) rfl dX0_order_30 ?_
        refine lv_iload_n hx hb dX0_order_33 rfl (lv_at hl 2 rfl) ?_
        refine zr_iald (k := k) hx hb hK hP 3 2 rfl rfl (by omega) (by omega) dX0_order_34 ?_
        refine zr_Si (v := (fc_blk (cs_k u k))) (As := [.int (cs_k u k)]) (rest := []) ⟨hx, hb, hml, hown, hts⟩ (c_C_blockOf l H.size (cs_k u k)) (va_cwS 1 hts gX0_order_X0_blockOf rfl rfl rfl (by decide +kernel) ⟨Nat.le_of_ble_eq_true rfl, Nat.le_of_ble_eq_true rfl⟩) hP hS hA rfl hl.1 rfl (Nat.le_of_ble_eq_true rfl) dX0_order_35 (fun H locs hP hS => ?_) ⟨Nat.le_of_ble_eq_true rfl, Nat.le_of_ble_eq_true rfl⟩
        refine vx_ret ?_
        refine W.widen (k := 1) (n := 6) (Nat.le_of_ble_eq_true rfl) (Nat.le_of_ble_eq_true rfl) ?_
        exact W.iret (v := (fc_blk (cs_k u k))) hx hb hr (fun t ht hW => ⟨⟨(fc_blk (cs_k u k)), u, rfl, ⟨(by first | rfl | (simp only [kc_order, fc_order, if_neg h2, if_pos h3] <;> rfl) | (simp only [kc_order, fc_order, if_neg h2, if_pos h3]; rw [← hinv] <;> rfl) | (rw [← hinv] <;> rfl) | (simp only [kc_order, fc_order, if_neg h2, if_pos h3]; rw [← hinv]; simp only [kc_order, fc_order, if_neg h2, if_pos h3] <;> rfl)), (by first | rfl | (rw [← hinv] <;> rfl) | (rw [← hinv]; simp only [fc_order, if_neg h2, if_pos h3] <;> rfl) | (simp only [fc_order, if_neg h2, if_pos h3]; rw [← hinv] <;> rfl) | (simp only [fc_order, if_neg h2, if_pos h3]; rw [← hinv]; simp only [fc_order, if_neg h2, if_pos h3] <;> rfl) | (simp only [fc_order, if_neg h2, if_pos h3] <;> rfl)), (by first | rfl | (rw [← hinv] <;> rfl) | (rw [← hinv]; simp only [fc_order, if_neg h2, if_pos h3] <;> rfl) | (simp only [fc_order, if_neg h2, if_pos h3]; rw [← hinv] <;> rfl) | (simp only [fc_order, if_neg h2, if_pos h3]; rw [← hinv]; simp only [fc_order, if_neg h2, if_pos h3] <;> rfl) | (simp only [fc_order, if_neg h2, if_pos h3] <;> rfl))⟩, ⟨by rw [ht]; exact hP, va_K.moved hW.alike hK, hD⟩⟩, hS.F ht⟩) hS.2.2 dX0_order_38
set_option maxHeartbeats 4000000 in
set_option maxRecDepth 100000 in
theorem c_C_noted (l : Launch) (hl9 : l.stackTraces = false) (sa : Nat → Nat) (dC : Nat → ClassId) (dI : Nat → Nat → Nat) (n : Nat) (a : Nat → Nat) (ca : Nat → ClassId) (u : StC) (sz : Nat) (q : Int32) (hn : n ≤ 12) : vx_Met l yX0_noted wsX0_noted ({ frames := 6, cells := 1, slots := 6, locals := 96 }) (va_Pc [.ref (a 0), .int q] (fun U => zr_P (dC, dI) vwCl (tC ca) (wC n a ca u) sz U ∧ zE sa (va_A (wC n a ca u) sz) U)) (va_Qi (fun r u' => kc_noted n q = 0 ∧ r = cs_n u q.toNatClampNeg ∧ u' = u) (fun u' => zr_B (dC, dI) vwCl (tC ca) (va_A (wC n a ca u) sz) (wC n a ca u')) (va_A (wC n a ca u) sz)) (vx_X (fun (z : Int32 × StC) => z.2 = u ∧ z.1 = kc_noted n q ∧ z.1 = 1) (fun E z t => E = "java/lang/IndexOutOfBoundsException" ∧ zr_B (dC, dI) vwCl (tC ca) (va_A (wC n a ca u) sz) (wC n a ca z.2) t) (va_A (wC n a ca u) sz)) 1 6 (va_A (wC n a ca u) sz) := by
  refine vx_ofW (cc := cX0_noted) (maxL := 2) (ret := (some .int)) (by decide) rfl ?_
  intro p e s m args below meth c s₁ B hml hEx hv
  obtain ⟨rfl, ⟨hsz, hP, hK, hD0⟩, hE⟩ := hv
  have hx := B.exec
  have hb := B.bytes
  have hr := B.returns
  have hts := atoms_spec (ws := wsX0_noted) B.pre
  have hown : s.vm.findClass RX0 = some m.cls := findClass_of_methodNamed B.named
  have hlocks := B.notSynchronized
  subst hsz
  have hD := hD0.self (sz := s.heap.size)
  generalize hAe : va_A (wC n a ca u) s.heap.size = A at hD hE ⊢
  have hA : ∀ q : Nat, s.heap.size ≤ q → A q := fun q h => by rw [← hAe]; exact Or.inr h
  obtain ⟨H, hH, hP, hS⟩ : ∃ H, H = s.heap ∧ va_P (dC, dI) vwCl (wC n a ca u) H ∧ va_S A s.heap H [] := ⟨_, rfl, hP, va_S.rf⟩
  have hin9 : ∀ w ∈ u_ws RX0 TX0 13, w ∈ wsX0_noted := fun w h => List.mem_cons_of_mem _ (hinX0 w h)
  rw [← hH]
  have hl := lv_entry ([.ref (a 0), .int q]) (n := 2) (Nat.le_of_ble_eq_true rfl)
  rw [lg_entry_eq]
  generalize (lg_sl ([.ref (a 0), .int q]) ++ List.replicate (2 - (lg_sl ([.ref (a 0), .int q])).length) Slot.unset).toArray = ls at hl ⊢
  have hl : lv_has ls 2 [(0, .ref (a 0)), (1, .int q)] := hl
  refine lv_iload_n hx hb dX0_noted_0 rfl (lv_at hl 1 rfl) ?_
  refine lv_if_lt hx hb dX0_noted_1 (tgt := 12) rfl (fun h1 => ?_) (fun h1 => ?_)
  · exact vx_throwS (own := RX0) (cls := "java/lang/IndexOutOfBoundsException") (text := "no such slot") (names := ["java/lang/RuntimeException", "java/lang/Exception"]) (ik := 130) (is := 135) (ic := 134) (sa := sa 7) hx hb hl9 hown (by decide +kernel) (by decide +kernel) (hts _ (List.mem_cons_of_mem _ mk_130)) (hts _ (List.mem_cons_of_mem _ mi_e134)) hE.2.2.2.2.2.2.2.2.2.1 (zat_134 (fun w h => hts w (List.mem_cons_of_mem _ h)) hE.2.1) zgd_134 hE.1.1 hE.1.2 hS (hl.1.trans hml.symm) dX0_noted_12 dX0_noted_15 dX0_noted_16 dX0_noted_18 dX0_noted_21 (fun x hx => (hEx x hx).elim) (Nat.le_of_ble_eq_true rfl) (Nat.le_of_ble_eq_true rfl) (Nat.le_of_ble_eq_true rfl) (Nat.le_of_ble_eq_true rfl) hlocks (fun t ha9 hq1 hq2 => ⟨(1, u), ⟨rfl, (by first | rfl | (simp only [kc_noted, if_pos h1] <;> rfl)), (by first | rfl | exact Or.inl rfl | exact Or.inr rfl)⟩, ⟨rfl, hP.kept (fun k q hq => hq2 q.1 (hP k q hq).lt), va_K.moved ha9 hK, hD⟩, zr_F hS hq1 hq2⟩) hS.2.2 (by decide) (by decide)
  · refine lv_iload_n hx hb dX0_noted_4 rfl (lv_at hl 1 rfl) ?_
    refine lv_aload_n hx hb dX0_noted_5 rfl (lv_at hl 0 rfl) ?_
    refine va_get (D := (dC, dI)) (ci := 0) (v := .int (nI n)) (C := RX0) (T := TX0) (N := 13) hx hb hts hin9 hown hK hP 0 rfl rfl 0 (by decide) (hts _ (List.mem_cons_of_mem _ mf_X0_9)) (fun _ h9 => h9) rfl dX0_noted_6 ?_
    refine lv_icmp_lt hx hb dX0_noted_9 (tgt := 22) rfl (fun h2 => ?_) (fun h2 => ?_)
    · obtain ⟨j, hj, rfl⟩ := zr_q hn h1 h2
      refine lv_aload_n hx hb dX0_noted_22 rfl (lv_at hl 0 rfl) ?_
      refine va_get (D := (dC, dI)) (ci := 0) (v := .ref (a 4)) (C := RX0) (T := TX0) (N := 13) hx hb hts hin9 hown hK hP 0 rfl rfl 4 (by decide) (hts _ (List.mem_cons_of_mem _ mf_X0_24)) (fun _ h9 => h9) rfl dX0_noted_23 ?_
      refine lv_iload_n hx hb dX0_noted_26 rfl (lv_at hl 1 rfl) ?_
      refine zr_iald (k := j) hx hb hK hP 4 3 rfl rfl (by omega) (by omega) dX0_noted_27 ?_
      refine vx_ret ?_
      refine W.widen (k := 1) (n := 6) (Nat.le_of_ble_eq_true rfl) (Nat.le_of_ble_eq_true rfl) ?_
      exact W.iret (v := cs_n u j) hx hb hr (fun t ht hW => ⟨⟨cs_n u j, u, rfl, ⟨(by first | rfl | (simp only [kc_noted, if_neg h1, if_pos h2, nI_clamp (show j < 2 ^ 31 by omega)] <;> rfl)), (by first | rfl | (simp only [if_neg h1, if_pos h2, nI_clamp (show j < 2 ^ 31 by omega)] <;> rfl)), (by first | rfl | (simp only [if_neg h1, if_pos h2, nI_clamp (show j < 2 ^ 31 by omega)] <;> rfl))⟩, ⟨by rw [ht]; exact hP, va_K.moved hW.alike hK, hD⟩⟩, hS.F ht⟩) hS.2.2 dX0_noted_28
    · exact vx_throwS (own := RX0) (cls := "java/lang/IndexOutOfBoundsException") (text := "no such slot") (names := ["java/lang/RuntimeException", "java/lang/Exception"]) (ik := 130) (is := 135) (ic := 134) (sa := sa 7) hx hb hl9 hown (by decide +kernel) (by decide +kernel) (hts _ (List.mem_cons_of_mem _ mk_130)) (hts _ (List.mem_cons_of_mem _ mi_e134)) hE.2.2.2.2.2.2.2.2.2.1 (zat_134 (fun w h => hts w (List.mem_cons_of_mem _ h)) hE.2.1) zgd_134 hE.1.1 hE.1.2 hS (hl.1.trans hml.symm) dX0_noted_12 dX0_noted_15 dX0_noted_16 dX0_noted_18 dX0_noted_21 (fun x hx => (hEx x hx).elim) (Nat.le_of_ble_eq_true rfl) (Nat.le_of_ble_eq_true rfl) (Nat.le_of_ble_eq_true rfl) (Nat.le_of_ble_eq_true rfl) hlocks (fun t ha9 hq1 hq2 => ⟨(1, u), ⟨rfl, (by first | rfl | (simp only [kc_noted, if_neg h1, if_neg h2] <;> rfl)), (by first | rfl | exact Or.inl rfl | exact Or.inr rfl)⟩, ⟨rfl, hP.kept (fun k q hq => hq2 q.1 (hP k q hq).lt), va_K.moved ha9 hK, hD⟩, zr_F hS hq1 hq2⟩) hS.2.2 (by decide) (by decide)
set_option maxHeartbeats 4000000 in
set_option maxRecDepth 100000 in
theorem c_C_figure (l : Launch) (hl9 : l.stackTraces = false) (sa : Nat → Nat) (dC : Nat → ClassId) (dI : Nat → Nat → Nat) (n : Nat) (a : Nat → Nat) (ca : Nat → ClassId) (u : StC) (sz : Nat) (q : Int32) (hn : n ≤ 12) : vx_Met l yX0_figure wsX0_figure ({ frames := 6, cells := 1, slots := 6, locals := 96 }) (va_Pc [.ref (a 0), .int q] (fun U => zr_P (dC, dI) vwCl (tC ca) (wC n a ca u) sz U ∧ zE sa (va_A (wC n a ca u) sz) U)) (va_Qi (fun r u' => kc_fig q = 0 ∧ r = fc_fig n u q ∧ u' = u) (fun u' => zr_B (dC, dI) vwCl (tC ca) (va_A (wC n a ca u) sz) (wC n a ca u')) (va_A (wC n a ca u) sz)) (vx_X (fun (z : Int32 × StC) => z.2 = u ∧ z.1 = kc_fig q ∧ z.1 = 1) (fun E z t => E = "java/lang/IllegalArgumentException" ∧ zr_B (dC, dI) vwCl (tC ca) (va_A (wC n a ca u) sz) (wC n a ca z.2) t) (va_A (wC n a ca u) sz)) 1 6 (va_A (wC n a ca u) sz) := by
  refine vx_ofW (cc := cX0_figure) (maxL := 2) (ret := (some .int)) (by decide) rfl ?_
  intro p e s m args below meth c s₁ B hml hEx hv
  obtain ⟨rfl, ⟨hsz, hP, hK, hD0⟩, hE⟩ := hv
  have hx := B.exec
  have hb := B.bytes
  have hr := B.returns
  have hts := atoms_spec (ws := wsX0_figure) B.pre
  have hown : s.vm.findClass RX0 = some m.cls := findClass_of_methodNamed B.named
  have hlocks := B.notSynchronized
  subst hsz
  have hD := hD0.self (sz := s.heap.size)
  generalize hAe : va_A (wC n a ca u) s.heap.size = A at hD hE ⊢
  have hA : ∀ q : Nat, s.heap.size ≤ q → A q := fun q h => by rw [← hAe]; exact Or.inr h
  obtain ⟨H, hH, hP, hS⟩ : ∃ H, H = s.heap ∧ va_P (dC, dI) vwCl (wC n a ca u) H ∧ va_S A s.heap H [] := ⟨_, rfl, hP, va_S.rf⟩
  have hin9 : ∀ w ∈ u_ws RX0 TX0 13, w ∈ wsX0_figure := fun w h => List.mem_cons_of_mem _ (hinX0 w h)
  rw [← hH]
  have hl := lv_entry ([.ref (a 0), .int q]) (n := 2) (Nat.le_of_ble_eq_true rfl)
  rw [lg_entry_eq]
  generalize (lg_sl ([.ref (a 0), .int q]) ++ List.replicate (2 - (lg_sl ([.ref (a 0), .int q])).length) Slot.unset).toArray = ls at hl ⊢
  have hl : lv_has ls 2 [(0, .ref (a 0)), (1, .int q)] := hl
  refine lv_iload_n hx hb dX0_figure_0 rfl (lv_at hl 1 rfl) ?_
  rcases Classical.em (q = 0) with e0 | e0
  · refine lv_tableIn (off := 47) (tgt := 48) hx hb dX0_figure_1 (by rw [e0]; decide) (by rw [e0]; decide) (by rw [e0]; decide) rfl ?_
    refine lv_aload_n hx hb dX0_figure_48 rfl (lv_at hl 0 rfl) ?_
    refine va_get (D := (dC, dI)) (ci := 0) (v := .int (cs_i u)) (C := RX0) (T := TX0) (N := 13) hx hb hts hin9 hown hK hP 0 rfl rfl 9 (by decide) (hts _ (List.mem_cons_of_mem _ mf_X0_44)) (fun _ h9 => h9) rfl dX0_figure_49 ?_
    refine vx_ret ?_
    refine W.widen (k := 1) (n := 6) (Nat.le_of_ble_eq_true rfl) (Nat.le_of_ble_eq_true rfl) ?_
    exact W.iret (v := cs_i u) hx hb hr (fun t ht hW => ⟨⟨cs_i u, u, rfl, ⟨(by first | rfl | (simp only [kc_fig, if_pos e0] <;> rfl)), (by first | rfl | (simp only [fc_fig, if_pos e0] <;> rfl)), (by first | rfl | (simp only [fc_fig, if_pos e0] <;> rfl))⟩, ⟨by rw [ht]; exact hP, va_K.moved hW.alike hK, hD⟩⟩, hS.F ht⟩) hS.2.2 dX0_figure_52
  · rcases Classical.em (q = 1) with e1 | e1
    · refine lv_tableIn (off := 52) (tgt := 53) hx hb dX0_figure_1 (by rw [e1]; decide) (by rw [e1]; decide) (by rw [e1]; decide) rfl ?_
      refine lv_aload_n hx hb dX0_figure_53 rfl (lv_at hl 0 rfl) ?_
      refine va_get (D := (dC, dI)) (ci := 0) (v := .int (cs_j u)) (C := RX0) (T := TX0) (N := 13) hx hb hts hin9 hown hK hP 0 rfl rfl 10 (by decide) (hts _ (List.mem_cons_of_mem _ mf_X0_50)) (fun _ h9 => h9) rfl dX0_figure_54 ?_
      refine vx_ret ?_
      refine W.widen (k := 1) (n := 6) (Nat.le_of_ble_eq_true rfl) (Nat.le_of_ble_eq_true rfl) ?_
      exact W.iret (v := cs_j u) hx hb hr (fun t ht hW => ⟨⟨cs_j u, u, rfl, ⟨(by first | rfl | (simp only [kc_fig, if_neg e0, if_pos e1] <;> rfl)), (by first | rfl | (simp only [fc_fig, if_neg e0, if_pos e1] <;> rfl)), (by first | rfl | (simp only [fc_fig, if_neg e0, if_pos e1] <;> rfl))⟩, ⟨by rw [ht]; exact hP, va_K.moved hW.alike hK, hD⟩⟩, hS.F ht⟩) hS.2.2 dX0_figure_57
    · rcases Classical.em (q = 2) with e2 | e2
      · refine lv_tableIn (off := 57) (tgt := 58) hx hb dX0_figure_1 (by rw [e2]; decide) (by rw [e2]; decide) (by rw [e2]; decide) rfl ?_
        refine lv_aload_n hx hb dX0_figure_58 rfl (lv_at hl 0 rfl) ?_
        refine va_get (D := (dC, dI)) (ci := 0) (v := .int (cs_w u)) (C := RX0) (T := TX0) (N := 13) hx hb hts hin9 hown hK hP 0 rfl rfl 11 (by decide) (hts _ (List.mem_cons_of_mem _ mf_X0_137)) (fun _ h9 => h9) rfl dX0_figure_59 ?_
        refine vx_ret ?_
        refine W.widen (k := 1) (n := 6) (Nat.le_of_ble_eq_true rfl) (Nat.le_of_ble_eq_true rfl) ?_
        exact W.iret (v := cs_w u) hx hb hr (fun t ht hW => ⟨⟨cs_w u, u, rfl, ⟨(by first | rfl | (simp only [kc_fig, if_neg e0, if_neg e1, if_pos e2] <;> rfl)), (by first | rfl | (simp only [fc_fig, if_neg e0, if_neg e1, if_pos e2] <;> rfl)), (by first | rfl | (simp only [fc_fig, if_neg e0, if_neg e1, if_pos e2] <;> rfl))⟩, ⟨by rw [ht]; exact hP, va_K.moved hW.alike hK, hD⟩⟩, hS.F ht⟩) hS.2.2 dX0_figure_62
      · rcases Classical.em (q = 3) with e3 | e3
        · refine lv_tableIn (off := 62) (tgt := 63) hx hb dX0_figure_1 (by rw [e3]; decide) (by rw [e3]; decide) (by rw [e3]; decide) rfl ?_
          refine lv_aload_n hx hb dX0_figure_63 rfl (lv_at hl 0 rfl) ?_
          refine va_get (D := (dC, dI)) (ci := 0) (v := .int (cs_t u)) (C := RX0) (T := TX0) (N := 13) hx hb hts hin9 hown hK hP 0 rfl rfl 12 (by decide) (hts _ (List.mem_cons_of_mem _ mf_X0_140)) (fun _ h9 => h9) rfl dX0_figure_64 ?_
          refine vx_ret ?_
          refine W.widen (k := 1) (n := 6) (Nat.le_of_ble_eq_true rfl) (Nat.le_of_ble_eq_true rfl) ?_
          exact W.iret (v := cs_t u) hx hb hr (fun t ht hW => ⟨⟨cs_t u, u, rfl, ⟨(by first | rfl | (simp only [kc_fig, if_neg e0, if_neg e1, if_neg e2, if_pos e3] <;> rfl)), (by first | rfl | (simp only [fc_fig, if_neg e0, if_neg e1, if_neg e2, if_pos e3] <;> rfl)), (by first | rfl | (simp only [fc_fig, if_neg e0, if_neg e1, if_neg e2, if_pos e3] <;> rfl))⟩, ⟨by rw [ht]; exact hP, va_K.moved hW.alike hK, hD⟩⟩, hS.F ht⟩) hS.2.2 dX0_figure_67
        · rcases Classical.em (q = 4) with e4 | e4
          · refine lv_tableIn (off := 67) (tgt := 68) hx hb dX0_figure_1 (by rw [e4]; decide) (by rw [e4]; decide) (by rw [e4]; decide) rfl ?_
            refine lv_aload_n hx hb dX0_figure_68 rfl (lv_at hl 0 rfl) ?_
            refine zr_Vi (w := fun z => wC n a ca z) (u := u) (u1 := u) (v := fc_full (cs_k u) n 0 0) (As := []) (rest := []) ⟨hx, hb, hml, hown, hts⟩ (c_C_countFull l dC dI n a ca u H.size hn) (cwV 0 hts gX0_figure_X0_countFull rfl rfl rfl (by decide +kernel) ⟨Nat.le_of_ble_eq_true rfl, Nat.le_of_ble_eq_true rfl⟩) hK hP hD hS hA (va_recv (q0 := 0) (ci := 0) (q := (RX0, TX0, 13)) hK hP rfl rfl) rfl hl.1 rfl (Nat.le_of_ble_eq_true rfl) dX0_figure_69 (fun H locs hP hD hS => ?_) ⟨Nat.le_of_ble_eq_true rfl, Nat.le_of_ble_eq_true rfl⟩
            have hP : va_P (dC, dI) vwCl (wC n a ca u) H := hP
            have hD : va_D A (wC n a ca u) := hD
            refine vx_ret ?_
            refine W.widen (k := 1) (n := 6) (Nat.le_of_ble_eq_true rfl) (Nat.le_of_ble_eq_true rfl) ?_
            exact W.iret (v := fc_full (cs_k u) n 0 0) hx hb hr (fun t ht hW => ⟨⟨fc_full (cs_k u) n 0 0, u, rfl, ⟨(by first | rfl | (simp only [kc_fig, if_neg e0, if_neg e1, if_neg e2, if_neg e3, if_pos e4] <;> rfl)), (by first | rfl | (simp only [fc_fig, if_neg e0, if_neg e1, if_neg e2, if_neg e3, if_pos e4] <;> rfl)), (by first | rfl | (simp only [fc_fig, if_neg e0, if_neg e1, if_neg e2, if_neg e3, if_pos e4] <;> rfl))⟩, ⟨by rw [ht]; exact hP, va_K.moved hW.alike hK, hD⟩⟩, hS.F ht⟩) hS.2.2 dX0_figure_72
          · rcases Classical.em (q = 5) with e5 | e5
            · refine lv_tableIn (off := 72) (tgt := 73) hx hb dX0_figure_1 (by rw [e5]; decide) (by rw [e5]; decide) (by rw [e5]; decide) rfl ?_
              refine lv_aload_n hx hb dX0_figure_73 rfl (lv_at hl 0 rfl) ?_
              refine zr_Vi (w := fun z => wC n a ca z) (u := u) (u1 := u) (v := fc_cdty (cs_k u) n 0 0) (As := []) (rest := []) ⟨hx, hb, hml, hown, hts⟩ (c_C_countDirty l dC dI n a ca u H.size hn) (cwV 0 hts gX0_figure_X0_countDirty rfl rfl rfl (by decide +kernel) ⟨Nat.le_of_ble_eq_true rfl, Nat.le_of_ble_eq_true rfl⟩) hK hP hD hS hA (va_recv (q0 := 0) (ci := 0) (q := (RX0, TX0, 13)) hK hP rfl rfl) rfl hl.1 rfl (Nat.le_of_ble_eq_true rfl) dX0_figure_74 (fun H locs hP hD hS => ?_) ⟨Nat.le_of_ble_eq_true rfl, Nat.le_of_ble_eq_true rfl⟩
              have hP : va_P (dC, dI) vwCl (wC n a ca u) H := hP
              have hD : va_D A (wC n a ca u) := hD
              refine vx_ret ?_
              refine W.widen (k := 1) (n := 6) (Nat.le_of_ble_eq_true rfl) (Nat.le_of_ble_eq_true rfl) ?_
              exact W.iret (v := fc_cdty (cs_k u) n 0 0) hx hb hr (fun t ht hW => ⟨⟨fc_cdty (cs_k u) n 0 0, u, rfl, ⟨(by first | rfl | (simp only [kc_fig, if_neg e0, if_neg e1, if_neg e2, if_neg e3, if_neg e4, if_pos e5] <;> rfl)), (by first | rfl | (simp only [fc_fig, if_neg e0, if_neg e1, if_neg e2, if_neg e3, if_neg e4, if_pos e5] <;> rfl)), (by first | rfl | (simp only [fc_fig, if_neg e0, if_neg e1, if_neg e2, if_neg e3, if_neg e4, if_pos e5] <;> rfl))⟩, ⟨by rw [ht]; exact hP, va_K.moved hW.alike hK, hD⟩⟩, hS.F ht⟩) hS.2.2 dX0_figure_77
            · rcases Classical.em (q = 6) with e6 | e6
              · refine lv_tableIn (off := 77) (tgt := 78) hx hb dX0_figure_1 (by rw [e6]; decide) (by rw [e6]; decide) (by rw [e6]; decide) rfl ?_
                refine lv_aload_n hx hb dX0_figure_78 rfl (lv_at hl 0 rfl) ?_
                refine va_get (D := (dC, dI)) (ci := 0) (v := .int (cs_m u)) (C := RX0) (T := TX0) (N := 13) hx hb hts hin9 hown hK hP 0 rfl rfl 7 (by decide) (hts _ (List.mem_cons_of_mem _ mf_X0_53)) (fun _ h9 => h9) rfl dX0_figure_79 ?_
                refine vx_ret ?_
                refine W.widen (k := 1) (n := 6) (Nat.le_of_ble_eq_true rfl) (Nat.le_of_ble_eq_true rfl) ?_
                exact W.iret (v := cs_m u) hx hb hr (fun t ht hW => ⟨⟨cs_m u, u, rfl, ⟨(by first | rfl | (simp only [kc_fig, if_neg e0, if_neg e1, if_neg e2, if_neg e3, if_neg e4, if_neg e5, if_pos e6] <;> rfl)), (by first | rfl | (simp only [fc_fig, if_neg e0, if_neg e1, if_neg e2, if_neg e3, if_neg e4, if_neg e5, if_pos e6] <;> rfl)), (by first | rfl | (simp only [fc_fig, if_neg e0, if_neg e1, if_neg e2, if_neg e3, if_neg e4, if_neg e5, if_pos e6] <;> rfl))⟩, ⟨by rw [ht]; exact hP, va_K.moved hW.alike hK, hD⟩⟩, hS.F ht⟩) hS.2.2 dX0_figure_82
              · rcases Classical.em (q = 7) with e7 | e7
                · refine lv_tableIn (off := 82) (tgt := 83) hx hb dX0_figure_1 (by rw [e7]; decide) (by rw [e7]; decide) (by rw [e7]; decide) rfl ?_
                  refine lv_aload_n hx hb dX0_figure_83 rfl (lv_at hl 0 rfl) ?_
                  refine va_get (D := (dC, dI)) (ci := 0) (v := .int (cs_h u)) (C := RX0) (T := TX0) (N := 13) hx hb hts hin9 hown hK hP 0 rfl rfl 8 (by decide) (hts _ (List.mem_cons_of_mem _ mf_X0_107)) (fun _ h9 => h9) rfl dX0_figure_84 ?_
                  refine vx_ret ?_
                  refine W.widen (k := 1) (n := 6) (Nat.le_of_ble_eq_true rfl) (Nat.le_of_ble_eq_true rfl) ?_
                  exact W.iret (v := cs_h u) hx hb hr (fun t ht hW => ⟨⟨cs_h u, u, rfl, ⟨(by first | rfl | (simp only [kc_fig, if_neg e0, if_neg e1, if_neg e2, if_neg e3, if_neg e4, if_neg e5, if_neg e6, if_pos e7] <;> rfl)), (by first | rfl | (simp only [fc_fig, if_neg e0, if_neg e1, if_neg e2, if_neg e3, if_neg e4, if_neg e5, if_neg e6, if_pos e7] <;> rfl)), (by first | rfl | (simp only [fc_fig, if_neg e0, if_neg e1, if_neg e2, if_neg e3, if_neg e4, if_neg e5, if_neg e6, if_pos e7] <;> rfl))⟩, ⟨by rw [ht]; exact hP, va_K.moved hW.alike hK, hD⟩⟩, hS.F ht⟩) hS.2.2 dX0_figure_87
                · refine lv_tableOut hx hb dX0_figure_1 (zr_out8 e0 e1 e2 e3 e4 e5 e6 e7) (tgt := 88) rfl ?_
                  exact vx_throwS (own := RX0) (cls := "java/lang/IllegalArgumentException") (text := "no such figure") (names := ["java/lang/RuntimeException", "java/lang/Exception"]) (ik := 75) (is := 143) (ic := 79) (sa := sa 8) hx hb hl9 hown (by decide +kernel) (by decide +kernel) (hts _ (List.mem_cons_of_mem _ mk_75)) (hts _ (List.mem_cons_of_mem _ mi_e79)) hE.2.2.2.2.2.2.2.2.2.2 (zat_79 (fun w h => hts w (List.mem_cons_of_mem _ h)) hE.2.1) zgd_79 hE.1.1 hE.1.2 hS (hl.1.trans hml.symm) dX0_figure_88 dX0_figure_91 dX0_figure_92 dX0_figure_94 dX0_figure_97 (fun x hx => (hEx x hx).elim) (Nat.le_of_ble_eq_true rfl) (Nat.le_of_ble_eq_true rfl) (Nat.le_of_ble_eq_true rfl) (Nat.le_of_ble_eq_true rfl) hlocks (fun t ha9 hq1 hq2 => ⟨(1, u), ⟨rfl, (by first | rfl | (simp only [kc_fig, if_neg e0, if_neg e1, if_neg e2, if_neg e3, if_neg e4, if_neg e5, if_neg e6, if_neg e7] <;> rfl)), (by first | rfl | exact Or.inl rfl | exact Or.inr rfl)⟩, ⟨rfl, hP.kept (fun k q hq => hq2 q.1 (hP k q hq).lt), va_K.moved ha9 hK, hD⟩, zr_F hS hq1 hq2⟩) hS.2.2 (by decide) (by decide)
