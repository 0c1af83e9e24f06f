set_option maxHeartbeats 4000000 in
set_option maxRecDepth 100000 in
theorem c_M_nextDirty (l : Launch) (dC : Nat → ClassId) (dI : Nat → Nat → Nat) (n : Nat) (a : Nat → Nat) (ca : Nat → ClassId) (u : StM) (sz : Nat) (q : Int32) (hn : n ≤ 12) : Met l yX1_nextDirty wsX1_nextDirty ({ frames := 0, cells := 0, slots := 0, locals := 0 }) (va_Pc [.ref (a 0), .int q] (zr_P (dC, dI) vwCl (tM ca) (wM n a ca u) sz)) (va_Qi (fun r u' => r = fc_enc (fm_next (ms_b u) (ms_d u) q n 0 none) ∧ u' = u) (fun u' => zr_B (dC, dI) vwCl (tM ca) (va_A (wM n a ca u) sz) (wM n a ca u')) (va_A (wM n a ca u) sz)) 0 0 (va_A (wM n a ca u) sz) := by
  refine Met.ofW (cc := cX1_nextDirty) (maxL := 5) (ret := (some .int)) (by decide) rfl ?_
  intro p e s m args below meth c s₁ B hml hv
  obtain ⟨rfl, hsz, hP, hK, hD0⟩ := hv
  have hx := B.exec
  have hb := B.bytes
  have hr := B.returns
  have hts := atoms_spec (ws := wsX1_nextDirty) B.pre
  have hown : s.vm.findClass RX1 = some m.cls := findClass_of_methodNamed B.named
  have hlocks := B.notSynchronized
  subst hsz
  have hD := hD0.self (sz := s.heap.size)
  generalize hAe : va_A (wM n a ca u) s.heap.size = A at hD ⊢
  have hA : ∀ q : Nat, s.heap.size ≤ q → A q := fun q h => by rw [← hAe]; exact Or.inr h
  obtain ⟨H, hH, hP, hS⟩ : ∃ H, H = s.heap ∧ va_P (dC, dI) vwCl (wM n a ca u) H ∧ va_S A s.heap H [] := ⟨_, rfl, hP, va_S.rf⟩
  have hin9 : ∀ w ∈ u_ws RX1 TX1 15, w ∈ wsX1_nextDirty := fun w h => List.mem_cons_of_mem _ (hinX1 w h)
  rw [← hH]
  have hl := lv_entry ([.ref (a 0), .int q]) (n := 5) (Nat.le_of_ble_eq_true rfl)
  rw [lg_entry_eq]
  generalize (lg_sl ([.ref (a 0), .int q]) ++ List.replicate (5 - (lg_sl ([.ref (a 0), .int q])).length) Slot.unset).toArray = ls at hl ⊢
  have hl : lv_has ls 5 [(0, .ref (a 0)), (1, .int q)] := hl
  refine lv_iconst (v := (-1)) hx hb dX1_nextDirty_0 (by decide) ?_
  refine lv_istore_n hx hb dX1_nextDirty_1 rfl hl (by decide) rfl (fun ls hl => ?_)
  have hl : lv_has ls 5 [(2, .int (-1)), (0, .ref (a 0)), (1, .int q)] := hl
  refine lv_iconst (v := 0) hx hb dX1_nextDirty_2 (by decide) ?_
  refine lv_istore_n hx hb dX1_nextDirty_3 rfl hl (by decide) rfl (fun ls hl => ?_)
  have hl : lv_has ls 5 [(3, .int 0), (2, .int (-1)), (0, .ref (a 0)), (1, .int q)] := hl
  refine zr_loop (fun r (x0 : Nat × Option Nat) ls H locs => r + x0.1 = n ∧ fm_next (ms_b u) (ms_d u) q r x0.1 x0.2 = fm_next (ms_b u) (ms_d u) q n 0 none ∧ (∀ j, x0.2 = some j → j < n) ∧ lv_has ls 5 [(0, .ref (a 0)), (1, .int q), (2, .int (fc_enc x0.2)), (3, .int (nI x0.1))] ∧ va_P (dC, dI) vwCl (wM n a ca u) H ∧ va_D A (wM n a ca u) ∧ va_S A s.heap H locs) (fun ls => F0 m 4 ls []) ?_ n (0, none) _ _ _ ⟨by omega, rfl, (fun _ h => nomatch h), lv_sub hl [2, 3, 1, 0] rfl, hP, hD, hS⟩
  rintro r ⟨k, o⟩ ls H locs ih ⟨hrk, hinv, ho, hl, hP, hD, hS⟩
  have hrk : r + k = n := hrk
  have hinv : fm_next (ms_b u) (ms_d u) q r k o = fm_next (ms_b u) (ms_d u) q n 0 none := hinv
  have ho : ∀ j, o = some j → j < n := ho
  have hl : lv_has ls 5 [(0, .ref (a 0)), (1, .int q), (2, .int (fc_enc o)), (3, .int (nI k))] := hl
  have hP : va_P (dC, dI) vwCl (wM n a ca u) H := hP
  have hD : va_D A (wM n a ca u) := hD
  refine lv_iload_n hx hb dX1_nextDirty_4 rfl (lv_at hl 3 rfl) ?_
  refine lv_aload_n hx hb dX1_nextDirty_5 rfl (lv_at hl 0 rfl) ?_
  refine va_get (D := (dC, dI)) (ci := 1) (v := .int (nI n)) (C := RX1) (T := TX1) (N := 15) hx hb hts hin9 hown hK hP 0 rfl rfl 1 (by decide) (hts _ (List.mem_cons_of_mem _ mf_X1_30)) (fun _ h9 => h9) rfl dX1_nextDirty_6 ?_
  refine lv_icmp_ge hx hb dX1_nextDirty_9 (tgt := 74) rfl (fun h1 => ?_) (fun h1 => ?_)
  · have h1 := zr_ge (by omega) (by omega) h1
    obtain rfl : r = 0 := by omega
    refine lv_iload_n hx hb dX1_nextDirty_74 rfl (lv_at hl 2 rfl) ?_
    exact W.iret (v := fc_enc o) hx hb hr (fun t ht hW => ⟨⟨fc_enc o, u, rfl, ⟨(by first | rfl | (rw [← hinv] <;> rfl) | (rw [← hinv]; simp only [fm_next] <;> rfl) | (simp only [fm_next]; rw [← hinv] <;> rfl) | (simp only [fm_next]; rw [← hinv]; simp only [fm_next] <;> rfl) | (simp only [fm_next] <;> rfl)), (by first | rfl | (rw [← hinv] <;> rfl) | (rw [← hinv]; simp only [fm_next] <;> rfl) | (simp only [fm_next]; rw [← hinv] <;> rfl) | (simp only [fm_next]; rw [← hinv]; simp only [fm_next] <;> rfl) | (simp only [fm_next] <;> rfl))⟩, ⟨by rw [ht]; exact hP, va_K.moved hW.alike hK, hD⟩⟩, hS.F ht⟩) hS.2.2 dX1_nextDirty_75
  · have h1 := zr_lt (by omega) (by omega) h1
    obtain ⟨r', rfl⟩ : ∃ z, r = z + 1 := ⟨r - 1, by omega⟩
    rcases o with _ | j
    · have hl : lv_has ls 5 [(0, .ref (a 0)), (1, .int q), (2, .int (-1)), (3, .int (nI k))] := hl
      refine lv_aload_n hx hb dX1_nextDirty_12 rfl (lv_at hl 0 rfl) ?_
      refine va_get (D := (dC, dI)) (ci := 1) (v := .ref (a 2)) (C := RX1) (T := TX1) (N := 15) hx hb hts hin9 hown hK hP 0 rfl rfl 3 (by decide) (hts _ (List.mem_cons_of_mem _ mf_X1_13)) (fun _ h9 => h9) rfl dX1_nextDirty_13 ?_
      refine lv_iload_n hx hb dX1_nextDirty_16 rfl (lv_at hl 3 rfl) ?_
      refine zr_iald (k := k) hx hb hK hP 2 1 rfl rfl (by omega) (by omega) dX1_nextDirty_17 ?_
      refine lv_iload_n hx hb dX1_nextDirty_18 rfl (lv_at hl 1 rfl) ?_
      refine lv_icmp_lt hx hb dX1_nextDirty_19 (tgt := 35) rfl (fun h2 => ?_) (fun h2 => ?_)
      · refine lv_iconst (v := 0) hx hb dX1_nextDirty_35 (by decide) ?_
        refine lv_istore hx hb dX1_nextDirty_36 hl (by decide) rfl (fun ls hl => ?_)
        have hl : lv_has ls 5 [(4, .int 0), (0, .ref (a 0)), (1, .int q), (2, .int (-1)), (3, .int (nI k))] := hl
        refine lv_iload hx hb dX1_nextDirty_38 (lv_at hl 0 rfl) ?_
        refine lv_if_eq hx hb dX1_nextDirty_40 (tgt := 66) rfl (fun _ => ?_) (fun h => absurd (by decide) h)
        refine lv_iload_n hx hb dX1_nextDirty_66 rfl (lv_at hl 3 rfl) ?_
        refine lv_istore_n hx hb dX1_nextDirty_67 rfl hl (by decide) rfl (fun ls hl => ?_)
        have hl : lv_has ls 5 [(2, .int (-1)), (4, .int 0), (0, .ref (a 0)), (1, .int q), (3, .int (nI k))] := hl
        refine lv_iinc (k := 4) (v := nI (k + 1)) hx hb dX1_nextDirty_68 hl rfl (zr_incN k) (by decide) rfl (fun ls hl => ?_)
        have hl : lv_has ls 5 [(3, .int (nI (k + 1))), (2, .int (-1)), (4, .int 0), (0, .ref (a 0)), (1, .int q)] := hl
        refine lv_goto hx hb dX1_nextDirty_71 (tgt := 4) rfl ?_
        exact ih r' (k + 1, none) _ _ _ (by omega) ⟨by omega, (by rw [← hinv]; first | rfl | (simp only [fm_next, if_pos h2] <;> rfl)), (fun _ h => nomatch h), lv_sub hl [3, 4, 1, 0] rfl, hP, hD, hS⟩
      · refine lv_aload_n hx hb dX1_nextDirty_22 rfl (lv_at hl 0 rfl) ?_
        refine va_get (D := (dC, dI)) (ci := 1) (v := .ref (a 4)) (C := RX1) (T := TX1) (N := 15) hx hb hts hin9 hown hK hP 0 rfl rfl 5 (by decide) (hts _ (List.mem_cons_of_mem _ mf_X1_20)) (fun _ h9 => h9) rfl dX1_nextDirty_23 ?_
        refine lv_iload_n hx hb dX1_nextDirty_26 rfl (lv_at hl 3 rfl) ?_
        refine zr_zald (k := k) hx hb hK hP 4 3 rfl rfl (by omega) (by omega) dX1_nextDirty_27 ?_
        refine lv_if_eq hx hb dX1_nextDirty_28 (tgt := 35) rfl (fun h3 => ?_) (fun h3 => ?_)
        · refine lv_iconst (v := 0) hx hb dX1_nextDirty_35 (by decide) ?_
          refine lv_istore hx hb dX1_nextDirty_36 hl (by decide) rfl (fun ls hl => ?_)
          have hl : lv_has ls 5 [(4, .int 0), (0, .ref (a 0)), (1, .int q), (2, .int (-1)), (3, .int (nI k))] := hl
          refine lv_iload hx hb dX1_nextDirty_38 (lv_at hl 0 rfl) ?_
          refine lv_if_eq hx hb dX1_nextDirty_40 (tgt := 66) rfl (fun _ => ?_) (fun h => absurd (by decide) h)
          refine lv_iload_n hx hb dX1_nextDirty_66 rfl (lv_at hl 3 rfl) ?_
          refine lv_istore_n hx hb dX1_nextDirty_67 rfl hl (by decide) rfl (fun ls hl => ?_)
          have hl : lv_has ls 5 [(2, .int (-1)), (4, .int 0), (0, .ref (a 0)), (1, .int q), (3, .int (nI k))] := hl
          refine lv_iinc (k := 4) (v := nI (k + 1)) hx hb dX1_nextDirty_68 hl rfl (zr_incN k) (by decide) rfl (fun ls hl => ?_)
          have hl : lv_has ls 5 [(3, .int (nI (k + 1))), (2, .int (-1)), (4, .int 0), (0, .ref (a 0)), (1, .int q)] := hl
          refine lv_goto hx hb dX1_nextDirty_71 (tgt := 4) rfl ?_
          exact ih r' (k + 1, none) _ _ _ (by omega) ⟨by omega, (by rw [← hinv]; first | rfl | (simp only [fm_next, if_neg h2, if_pos h3] <;> rfl)), (fun _ h => nomatch h), lv_sub hl [3, 4, 1, 0] rfl, hP, hD, hS⟩
        · refine lv_iconst (v := 1) hx hb dX1_nextDirty_31 (by decide) ?_
          refine lv_goto hx hb dX1_nextDirty_32 (tgt := 36) rfl ?_
          refine lv_istore hx hb dX1_nextDirty_36 hl (by decide) rfl (fun ls hl => ?_)
          have hl : lv_has ls 5 [(4, .int 1), (0, .ref (a 0)), (1, .int q), (2, .int (-1)), (3, .int (nI k))] := hl
          refine lv_iload hx hb dX1_nextDirty_38 (lv_at hl 0 rfl) ?_
          refine lv_if_eq hx hb dX1_nextDirty_40 (tgt := 66) rfl (fun h => absurd h (by decide)) (fun _ => ?_)
          refine lv_iload_n hx hb dX1_nextDirty_43 rfl (lv_at hl 3 rfl) ?_
          refine lv_if_lt hx hb dX1_nextDirty_44 (tgt := 62) rfl (fun _ => ?_) (fun h => absurd (by decide) h)
          refine lv_iload_n hx hb dX1_nextDirty_62 rfl (lv_at hl 4 rfl) ?_
          refine lv_goto hx hb dX1_nextDirty_63 (tgt := 67) rfl ?_
          refine lv_istore_n hx hb dX1_nextDirty_67 rfl hl (by decide) rfl (fun ls hl => ?_)
          have hl : lv_has ls 5 [(2, .int (nI k)), (4, .int 1), (0, .ref (a 0)), (1, .int q), (3, .int (nI k))] := hl
          refine lv_iinc (k := 4) (v := nI (k + 1)) hx hb dX1_nextDirty_68 hl rfl (zr_incN k) (by decide) rfl (fun ls hl => ?_)
          have hl : lv_has ls 5 [(3, .int (nI (k + 1))), (2, .int (nI k)), (4, .int 1), (0, .ref (a 0)), (1, .int q)] := hl
          refine lv_goto hx hb dX1_nextDirty_71 (tgt := 4) rfl ?_
          exact ih r' (k + 1, (some k)) _ _ _ (by omega) ⟨by omega, (by rw [← hinv]; first | rfl | (simp only [fm_next, if_neg h2, if_neg h3] <;> rfl)), (fun j h => by cases h; omega), lv_sub hl [3, 4, 1, 0] rfl, hP, hD, hS⟩
    · have hj := ho j rfl
      have hl : lv_has ls 5 [(0, .ref (a 0)), (1, .int q), (2, .int (nI j)), (3, .int (nI k))] := hl
      refine lv_aload_n hx hb dX1_nextDirty_12 rfl (lv_at hl 0 rfl) ?_
      refine va_get (D := (dC, dI)) (ci := 1) (v := .ref (a 2)) (C := RX1) (T := TX1) (N := 15) hx hb hts hin9 hown hK hP 0 rfl rfl 3 (by decide) (hts _ (List.mem_cons_of_mem _ mf_X1_13)) (fun _ h9 => h9) rfl dX1_nextDirty_13 ?_
      refine lv_iload_n hx hb dX1_nextDirty_16 rfl (lv_at hl 3 rfl) ?_
      refine zr_iald (k := k) hx hb hK hP 2 1 rfl rfl (by omega) (by omega) dX1_nextDirty_17 ?_
      refine lv_iload_n hx hb dX1_nextDirty_18 rfl (lv_at hl 1 rfl) ?_
      refine lv_icmp_lt hx hb dX1_nextDirty_19 (tgt := 35) rfl (fun h4 => ?_) (fun h4 => ?_)
      · refine lv_iconst (v := 0) hx hb dX1_nextDirty_35 (by decide) ?_
        refine lv_istore hx hb dX1_nextDirty_36 hl (by decide) rfl (fun ls hl => ?_)
        have hl : lv_has ls 5 [(4, .int 0), (0, .ref (a 0)), (1, .int q), (2, .int (nI j)), (3, .int (nI k))] := hl
        refine lv_iload hx hb dX1_nextDirty_38 (lv_at hl 0 rfl) ?_
        refine lv_if_eq hx hb dX1_nextDirty_40 (tgt := 66) rfl (fun _ => ?_) (fun h => absurd (by decide) h)
        refine lv_iload_n hx hb dX1_nextDirty_66 rfl (lv_at hl 3 rfl) ?_
        refine lv_istore_n hx hb dX1_nextDirty_67 rfl hl (by decide) rfl (fun ls hl => ?_)
        have hl : lv_has ls 5 [(2, .int (nI j)), (4, .int 0), (0, .ref (a 0)), (1, .int q), (3, .int (nI k))] := hl
        refine lv_iinc (k := 4) (v := nI (k + 1)) hx hb dX1_nextDirty_68 hl rfl (zr_incN k) (by decide) rfl (fun ls hl => ?_)
        have hl : lv_has ls 5 [(3, .int (nI (k + 1))), (2, .int (nI j)), (4, .int 0), (0, .ref (a 0)), (1, .int q)] := hl
        refine lv_goto hx hb dX1_nextDirty_71 (tgt := 4) rfl ?_
        exact ih r' (k + 1, (some j)) _ _ _ (by omega) ⟨by omega, (by rw [← hinv]; first | rfl | (simp only [fm_next, if_pos h4] <;> rfl)), (fun j h => by cases h; omega), lv_sub hl [3, 4, 1, 0] rfl, hP, hD, hS⟩
      · refine lv_aload_n hx hb dX1_nextDirty_22 rfl (lv_at hl 0 rfl) ?_
        refine va_get (D := (dC, dI)) (ci := 1) (v := .ref (a 4)) (C := RX1) (T := TX1) (N := 15) hx hb hts hin9 hown hK hP 0 rfl rfl 5 (by decide) (hts _ (List.mem_cons_of_mem _ mf_X1_20)) (fun _ h9 => h9) rfl dX1_nextDirty_23 ?_
        refine lv_iload_n hx hb dX1_nextDirty_26 rfl (lv_at hl 3 rfl) ?_
        refine zr_zald (k := k) hx hb hK hP 4 3 rfl rfl (by omega) (by omega) dX1_nextDirty_27 ?_
        refine lv_if_eq hx hb dX1_nextDirty_28 (tgt := 35) rfl (fun h5 => ?_) (fun h5 => ?_)
        · refine lv_iconst (v := 0) hx hb dX1_nextDirty_35 (by decide) ?_
          refine lv_istore hx hb dX1_nextDirty_36 hl (by decide) rfl (fun ls hl => ?_)
          have hl : lv_has ls 5 [(4, .int 0), (0, .ref (a 0)), (1, .int q), (2, .int (nI j)), (3, .int (nI k))] := hl
          refine lv_iload hx hb dX1_nextDirty_38 (lv_at hl 0 rfl) ?_
          refine lv_if_eq hx hb dX1_nextDirty_40 (tgt := 66) rfl (fun _ => ?_) (fun h => absurd (by decide) h)
          refine lv_iload_n hx hb dX1_nextDirty_66 rfl (lv_at hl 3 rfl) ?_
          refine lv_istore_n hx hb dX1_nextDirty_67 rfl hl (by decide) rfl (fun ls hl => ?_)
          have hl : lv_has ls 5 [(2, .int (nI j)), (4, .int 0), (0, .ref (a 0)), (1, .int q), (3, .int (nI k))] := hl
          refine lv_iinc (k := 4) (v := nI (k + 1)) hx hb dX1_nextDirty_68 hl rfl (zr_incN k) (by decide) rfl (fun ls hl => ?_)
          have hl : lv_has ls 5 [(3, .int (nI (k + 1))), (2, .int (nI j)), (4, .int 0), (0, .ref (a 0)), (1, .int q)] := hl
          refine lv_goto hx hb dX1_nextDirty_71 (tgt := 4) rfl ?_
          exact ih r' (k + 1, (some j)) _ _ _ (by omega) ⟨by omega, (by rw [← hinv]; first | rfl | (simp only [fm_next, if_neg h4, if_pos h5] <;> rfl)), (fun j h => by cases h; omega), lv_sub hl [3, 4, 1, 0] rfl, hP, hD, hS⟩
        · refine lv_iconst (v := 1) hx hb dX1_nextDirty_31 (by decide) ?_
          refine lv_goto hx hb dX1_nextDirty_32 (tgt := 36) rfl ?_
          refine lv_istore hx hb dX1_nextDirty_36 hl (by decide) rfl (fun ls hl => ?_)
          have hl : lv_has ls 5 [(4, .int 1), (0, .ref (a 0)), (1, .int q), (2, .int (nI j)), (3, .int (nI k))] := hl
          refine lv_iload hx hb dX1_nextDirty_38 (lv_at hl 0 rfl) ?_
          refine lv_if_eq hx hb dX1_nextDirty_40 (tgt := 66) rfl (fun h => absurd h (by decide)) (fun _ => ?_)
          refine lv_iload_n hx hb dX1_nextDirty_43 rfl (lv_at hl 3 rfl) ?_
          refine lv_if_lt hx hb dX1_nextDirty_44 (tgt := 62) rfl (fun h => absurd h (zr_nneg (by omega))) (fun _ => ?_)
          refine lv_aload_n hx hb dX1_nextDirty_47 rfl (lv_at hl 1 rfl) ?_
          refine va_get (D := (dC, dI)) (ci := 1) (v := .ref (a 2)) (C := RX1) (T := TX1) (N := 15) hx hb hts hin9 hown hK hP 0 rfl rfl 3 (by decide) (hts _ (List.mem_cons_of_mem _ mf_X1_13)) (fun _ h9 => h9) rfl dX1_nextDirty_48 ?_
          refine lv_iload_n hx hb dX1_nextDirty_51 rfl (lv_at hl 4 rfl) ?_
          refine zr_iald (k := k) hx hb hK hP 2 1 rfl rfl (by omega) (by omega) dX1_nextDirty_52 ?_
          refine lv_aload_n hx hb dX1_nextDirty_53 rfl (lv_at hl 1 rfl) ?_
          refine va_get (D := (dC, dI)) (ci := 1) (v := .ref (a 2)) (C := RX1) (T := TX1) (N := 15) hx hb hts hin9 hown hK hP 0 rfl rfl 3 (by decide) (hts _ (List.mem_cons_of_mem _ mf_X1_13)) (fun _ h9 => h9) rfl dX1_nextDirty_54 ?_
          refine lv_iload_n hx hb dX1_nextDirty_57 rfl (lv_at hl 3 rfl) ?_
          refine zr_iald (k := j) hx hb hK hP 2 1 rfl rfl (by omega) (by omega) dX1_nextDirty_58 ?_
          refine lv_icmp_ge hx hb dX1_nextDirty_59 (tgt := 66) rfl (fun h6 => ?_) (fun h6 => ?_)
          · refine lv_iload_n hx hb dX1_nextDirty_66 rfl (lv_at hl 3 rfl) ?_
            refine lv_istore_n hx hb dX1_nextDirty_67 rfl hl (by decide) rfl (fun ls hl => ?_)
            have hl : lv_has ls 5 [(2, .int (nI j)), (4, .int 1), (0, .ref (a 0)), (1, .int q), (3, .int (nI k))] := hl
            refine lv_iinc (k := 4) (v := nI (k + 1)) hx hb dX1_nextDirty_68 hl rfl (zr_incN k) (by decide) rfl (fun ls hl => ?_)
            have hl : lv_has ls 5 [(3, .int (nI (k + 1))), (2, .int (nI j)), (4, .int 1), (0, .ref (a 0)), (1, .int q)] := hl
            refine lv_goto hx hb dX1_nextDirty_71 (tgt := 4) rfl ?_
            exact ih r' (k + 1, (some j)) _ _ _ (by omega) ⟨by omega, (by rw [← hinv]; first | rfl | (simp only [fm_next, if_neg h4, if_neg h5, if_pos h6] <;> rfl)), (fun j h => by cases h; omega), lv_sub hl [3, 4, 1, 0] rfl, hP, hD, hS⟩
          · refine lv_iload_n hx hb dX1_nextDirty_62 rfl (lv_at hl 4 rfl) ?_
            refine lv_goto hx hb dX1_nextDirty_63 (tgt := 67) rfl ?_
            refine lv_istore_n hx hb dX1_nextDirty_67 rfl hl (by decide) rfl (fun ls hl => ?_)
            have hl : lv_has ls 5 [(2, .int (nI k)), (4, .int 1), (0, .ref (a 0)), (1, .int q), (3, .int (nI k))] := hl
            refine lv_iinc (k := 4) (v := nI (k + 1)) hx hb dX1_nextDirty_68 hl rfl (zr_incN k) (by decide) rfl (fun ls hl => ?_)
            have hl : lv_has ls 5 [(3, .int (nI (k + 1))), (2, .int (nI k)), (4, .int 1), (0, .ref (a 0)), (1, .int q)] := hl
            refine lv_goto hx hb dX1_nextDirty_71 (tgt := 4) rfl ?_
            exact ih r' (k + 1, (some k)) _ _ _ (by omega) ⟨by omega, (by rw [← hinv]; first | rfl | (simp only [fm_next, if_neg h4, if_neg h5, if_neg h6] <;> rfl)), (fun j h => by cases h; omega), lv_sub hl [3, 4, 1, 0] rfl, hP, hD, hS⟩
