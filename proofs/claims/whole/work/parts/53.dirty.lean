theorem zr_isd (x : Int32) : narrow .boolean (.int (fc_isd x)) = .int (fc_isd x) := by
  rcases isd_01 x with e | e <;> rw [e] <;> rfl
set_option maxHeartbeats 4000000 in
set_option maxRecDepth 100000 in
theorem c_C_dirty (l : Launch) (hl9 : l.stackTraces = false) (sa : Nat → Nat) (dC : Nat → ClassId) (dI : Nat → Nat → Nat) (n : Nat) (a : Nat → Nat) (ca : Nat → ClassId) (u : StC) (sz : Nat) (b : Int32) (hn : n ≤ 12) : vx_Met l yX0_dirty wsX0_dirty ({ frames := 7, cells := 2, slots := 12, locals := 116 }) (va_Pc [.ref (a 0), .int b] (fun U => zr_P (dC, dI) vwCl (tC ca) (wC n a ca u) sz U ∧ zE sa (va_A (wC n a ca u) sz) U)) (va_Qi (fun r u' => kc_dirty n (cs_k u) b = 0 ∧ r = fc_isd (cs_k u ((fc_find (cs_k u) b.toNatClampNeg n 0).getD 0)) ∧ u' = u) (fun u' => zr_B (dC, dI) vwCl (tC ca) (va_A (wC n a ca u) sz) (wC n a ca u')) (va_A (wC n a ca u) sz)) (vx_X (fun (z : Int32 × StC) => z.2 = u ∧ z.1 = kc_dirty n (cs_k u) b ∧ (z.1 = 1 ∨ z.1 = 2)) (fun E z t => E = (if z.1 = 1 then "java/lang/IllegalArgumentException" else "java/util/NoSuchElementException") ∧ zr_B (dC, dI) vwCl (tC ca) (va_A (wC n a ca u) sz) (wC n a ca z.2) t) (va_A (wC n a ca u) sz)) 2 12 (va_A (wC n a ca u) sz) := by
  refine vx_ofW (cc := cX0_dirty) (maxL := 3) (ret := (some .boolean)) (by decide) rfl ?_
  intro p e s m args below meth c s₁ B hml hEx hv
  obtain ⟨rfl, ⟨hsz, hP, hK, hD0⟩, hE⟩ := hv
  have hx := B.exec
  have hb := B.bytes
  have hr := B.returns
  have hts := atoms_spec (ws := wsX0_dirty) B.pre
  have hown : s.vm.findClass RX0 = some m.cls := findClass_of_methodNamed B.named
  have hlocks := B.notSynchronized
  subst hsz
  have hD := hD0.self (sz := s.heap.size)
  generalize hAe : va_A (wC n a ca u) s.heap.size = A at hD hE ⊢
  have hA : ∀ q : Nat, s.heap.size ≤ q → A q := fun q h => by rw [← hAe]; exact Or.inr h
  obtain ⟨H, hH, hP, hS⟩ : ∃ H, H = s.heap ∧ va_P (dC, dI) vwCl (wC n a ca u) H ∧ va_S A s.heap H [] := ⟨_, rfl, hP, va_S.rf⟩
  have hin9 : ∀ w ∈ u_ws RX0 TX0 13, w ∈ wsX0_dirty := fun w h => List.mem_cons_of_mem _ (hinX0 w h)
  rw [← hH]
  have hl := lv_entry ([.ref (a 0), .int b]) (n := 3) (Nat.le_of_ble_eq_true rfl)
  rw [lg_entry_eq]
  generalize (lg_sl ([.ref (a 0), .int b]) ++ List.replicate (3 - (lg_sl ([.ref (a 0), .int b])).length) Slot.unset).toArray = ls at hl ⊢
  have hl : lv_has ls 3 [(0, .ref (a 0)), (1, .int b)] := hl
  refine lv_iload_n hx hb dX0_dirty_0 rfl (lv_at hl 1 rfl) ?_
  refine zr_SX (p0 := kc_b b = 0) (p1 := kc_b b = 1) (E0 := "java/lang/IllegalArgumentException") (sa := sa) (As := [.int b]) (rest := []) ⟨hx, hb, hml, hown, hts⟩ (c_C_requireBlock l hl9 sa H.size b) (va_cwS 1 hts gX0_dirty_X0_requireBlock rfl rfl rfl (by decide +kernel) ⟨Nat.le_of_ble_eq_true rfl, Nat.le_of_ble_eq_true rfl⟩) hE hP hS hA rfl hl.1 rfl (Nat.le_of_ble_eq_true rfl) dX0_dirty_1 (fun ce q9 H locs hk1 hP hS hce hcv hcl => ?_) (fun H locs hk1 hP hS => ?_) ⟨Nat.le_of_ble_eq_true rfl, Nat.le_of_ble_eq_true rfl⟩
  · exact vx_out (E := "java/lang/IllegalArgumentException") (fun x hx => (hEx x hx).elim) hlocks hce hcv hcl (fun t ht ha => ⟨(1, u), ⟨rfl, (by first | rfl | (simp only [kc_dirty, hk1, if_neg (k_ne hk1)] <;> rfl)), (by first | rfl | exact Or.inl rfl | exact Or.inr rfl)⟩, ⟨rfl, by rw [ht]; exact hP, va_K.moved ha hK, hD⟩, hS.F ht⟩) hS.2.2 (Nat.le_of_ble_eq_true rfl) (Nat.le_of_ble_eq_true rfl)
  · obtain ⟨j2, hj2, rfl⟩ := kb_nI hk1
    refine lv_aload_n hx hb dX0_dirty_4 rfl (lv_at hl 0 rfl) ?_
    refine lv_iload_n hx hb dX0_dirty_5 rfl (lv_at hl 1 rfl) ?_
    refine zr_Vi (w := fun z => wC n a ca z) (u := u) (u1 := u) (v := fc_enc (fc_find (cs_k u) j2 n 0)) (As := [.int (nI j2)]) (rest := []) ⟨hx, hb, hml, hown, hts⟩ (c_C_slotWith l dC dI n a ca u H.size j2 hn) (cwV 1 hts gX0_dirty_X0_slotWith rfl rfl rfl (by decide +kernel) ⟨Nat.le_of_ble_eq_true rfl, Nat.le_of_ble_eq_true rfl⟩) hK hP hD hS hA (va_recv (q0 := 0) (ci := 0) (q := (RX0, TX0, 13)) hK hP rfl rfl) rfl hl.1 rfl (Nat.le_of_ble_eq_true rfl) dX0_dirty_6 (fun H locs hP hD hS => ?_) ⟨Nat.le_of_ble_eq_true rfl, Nat.le_of_ble_eq_true rfl⟩
    have hP : va_P (dC, dI) vwCl (wC n a ca u) H := hP
    have hD : va_D A (wC n a ca u) := hD
    rcases hf3 : fc_find (cs_k u) j2 n 0 with _ | j4
    · refine W.eq (g2 := F0 m 9 ls [.int (-1)]) rfl ?_
      refine lv_istore_n hx hb dX0_dirty_9 rfl hl (by decide) rfl (fun ls hl => ?_)
      have hl : lv_has ls 3 [(2, .int (-1)), (0, .ref (a 0)), (1, .int (nI j2))] := hl
      refine lv_iload_n hx hb dX0_dirty_10 rfl (lv_at hl 0 rfl) ?_
      refine lv_iconst (v := (-1)) hx hb dX0_dirty_11 (by decide) ?_
      refine lv_icmp_ne hx hb dX0_dirty_12 (tgt := 25) rfl (fun h => absurd (by decide) h) (fun _ => ?_)
      exact zn_throwS (own := RX0) (text := "the block is not cached") (ik := 119) (is := 121) (ic := 123) (sa := sa 5) hx hb hl9 hown (hts _ (List.mem_cons_of_mem _ mk_119)) (hts _ (List.mem_cons_of_mem _ mi_e123)) hE.2.2.2.2.2.2.2.1 (zat_123 (fun w h => hts w (List.mem_cons_of_mem _ h)) hE.2.1) zgd_123 hE.1.1 hE.1.2 hS (hl.1.trans hml.symm) dX0_dirty_15 dX0_dirty_18 dX0_dirty_19 dX0_dirty_21 dX0_dirty_24 (fun x hx => (hEx x hx).elim) (Nat.le_of_ble_eq_true rfl) (Nat.le_of_ble_eq_true rfl) (Nat.le_of_ble_eq_true rfl) (Nat.le_of_ble_eq_true rfl) hlocks (fun t ha9 hq1 hq2 => ⟨(2, u), ⟨rfl, (by first | rfl | (simp only [kc_dirty, if_pos hk1, hk1, nI_clamp (show j2 < 2 ^ 31 by omega), hf3] <;> rfl)), (by first | rfl | exact Or.inl rfl | exact Or.inr rfl)⟩, ⟨rfl, hP.kept (fun k q hq => hq2 q.1 (hP k q hq).lt), va_K.moved ha9 hK, hD⟩, zr_F hS hq1 hq2⟩) hS.2.2 (by decide) (by decide)
    · have hj4 := fc_find_lt hf3
      refine W.eq (g2 := F0 m 9 ls [.int (nI j4)]) rfl ?_
      refine lv_istore_n hx hb dX0_dirty_9 rfl hl (by decide) rfl (fun ls hl => ?_)
      have hl : lv_has ls 3 [(2, .int (nI j4)), (0, .ref (a 0)), (1, .int (nI j2))] := hl
      refine lv_iload_n hx hb dX0_dirty_10 rfl (lv_at hl 0 rfl) ?_
      refine lv_iconst (v := (-1)) hx hb dX0_dirty_11 (by decide) ?_
      refine lv_icmp_ne hx hb dX0_dirty_12 (tgt := 25) rfl (fun _ => ?_) (fun h => absurd h (zr_nem (by omega)))
      refine lv_aload_n hx hb dX0_dirty_25 rfl (lv_at hl 1 rfl) ?_
      refine va_get (D := (dC, dI)) (ci := 0) (v := .ref (a 3)) (C := RX0) (T := TX0) (N := 13) hx hb hts hin9 hown hK hP 0 rfl rfl 3 (by decide) (hts _ (List.mem_cons_of_mem _ mf_X0_20)) (fun _ h9 => h9) rfl dX0_dirty_26 ?_
      refine lv_iload_n hx hb dX0_dirty_29 rfl (lv_at hl 0 rfl) ?_
      refine zr_iald (k := j4) hx hb hK hP 3 2 rfl rfl (by omega) (by omega) dX0_dirty_30 ?_
      refine zr_Si (v := (fc_isd (cs_k u j4))) (As := [.int (cs_k u j4)]) (rest := []) ⟨hx, hb, hml, hown, hts⟩ (c_C_isDirty l H.size (cs_k u j4)) (va_cwS 1 hts gX0_dirty_X0_isDirty rfl rfl rfl (by decide +kernel) ⟨Nat.le_of_ble_eq_true rfl, Nat.le_of_ble_eq_true rfl⟩) hP hS hA rfl hl.1 rfl (Nat.le_of_ble_eq_true rfl) dX0_dirty_31 (fun H locs hP hS => ?_) ⟨Nat.le_of_ble_eq_true rfl, Nat.le_of_ble_eq_true rfl⟩
      refine vx_ret ?_
      refine W.widen (k := 2) (n := 12) (Nat.le_of_ble_eq_true rfl) (Nat.le_of_ble_eq_true rfl) ?_
      exact W.zret (v := (fc_isd (cs_k u j4))) hx hb hr (zr_isd _) (fun t ht hW => ⟨⟨(fc_isd (cs_k u j4)), u, rfl, ⟨(by first | rfl | (simp only [kc_dirty, if_pos hk1, hk1, nI_clamp (show j2 < 2 ^ 31 by omega), hf3] <;> rfl)), (by first | rfl | (simp only [if_pos hk1, hk1, nI_clamp (show j2 < 2 ^ 31 by omega), hf3] <;> rfl)), (by first | rfl | (simp only [if_pos hk1, hk1, nI_clamp (show j2 < 2 ^ 31 by omega), hf3] <;> rfl))⟩, ⟨by rw [ht]; exact hP, va_K.moved hW.alike hK, hD⟩⟩, hS.F ht⟩) hS.2.2 dX0_dirty_34
