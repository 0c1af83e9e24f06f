set_option maxHeartbeats 16000000 in
set_option maxRecDepth 100000 in
theorem whole_start {p : Program} {e : Env} {s : State} {m : MethodId} {below : List Frame} {meth : Method} {c : Code} (l : Launch) (hl9 : l.stackTraces = false) {b L : Nat} {xs : Nat → Int32} (hL : L ≤ 2561) (C0 : lw_At p s m meth c b L xs) : W p l e room_1 s m #[Value.ref b] below meth c s.heap [] 0 0 (lw_Z below #[Value.ref b] s) (entryFrame m ([Value.ref b] : List Value).toArray 8) := by
  obtain ⟨hx, hb, hr, hml, hown0, htsT, hX, hbl, hlocks, hgv⟩ := C0
  have hown : s.vm.findClass RL = some m.cls := hown0
  have hts : ∀ w ∈ wsL_law, w.before #[Value.ref b] s = true := fun w h => htsT w (List.mem_filter.mp h).1
  obtain ⟨sa, hE, hC⟩ := st_E htsT hgv
  obtain ⟨c0, i0, k0⟩ := u_known (C := RX0) (T := TX0) (N := 13) hts hinX0 (hts _ mn_X0)
  obtain ⟨c1, i1, k1⟩ := u_known (C := RX1) (T := TX1) (N := 15) hts hinX1 (hts _ mn_X1)
  obtain ⟨dC, hdC⟩ : ∃ dC : Nat → ClassId, dC = fun k => match k with | 0 => c0 | _ => c1 := ⟨_, rfl⟩
  obtain ⟨dI, hdI⟩ : ∃ dI : Nat → Nat → Nat, dI = fun k => match k with | 0 => i0 | _ => i1 := ⟨_, rfl⟩
  have hK : va_K (dC, dI) vwCl [] s := by
    rw [hdC, hdI]
    refine ⟨fun c q hq => ?_, fun k q hk => by simp at hk⟩
    rcases c with _ | _ | c
    · exact (Option.some.inj hq) ▸ k0
    · exact (Option.some.inj hq) ▸ k1
    · simp at hq
  obtain ⟨A, hAd⟩ : ∃ A : Nat → Prop, A = fun q => s.heap.size ≤ q := ⟨_, rfl⟩
  rw [← hAd] at hE
  have hA : ∀ q : Nat, s.heap.size ≤ q → A q := fun q h => by rw [hAd]; exact h
  have hbA : ¬ A b := by rw [hAd]; exact Nat.not_le.mpr hbl
  obtain ⟨H, hH, hP, hD, hS⟩ : ∃ H, H = s.heap ∧ va_P (dC, dI) vwCl [] H ∧ va_D A [] ∧ va_S A s.heap H [] := ⟨_, rfl, fun k q h => by simp at h, ⟨fun i j p q h => by simp at h, fun k q h => by simp at h⟩, va_S.rf⟩
  rw [← hH]
  obtain ⟨x0, hx0⟩ : ∃ x0, (if L = 0 then 0 else xs 0) = x0 := ⟨_, rfl⟩
  obtain ⟨hn0, hn⟩ := slots_le x0
  have hctorX0 := fun h sz => c_C_init l dC dI h sz x0
  have hctorX1 := fun h sz => c_M_init l dC dI h sz x0
  generalize fc_slots x0 = n at hn0 hn hctorX0 hctorX1
  have hl := lv_entry ([.ref b]) (n := 8) (Nat.le_of_ble_eq_true rfl)
  rw [lg_entry_eq]
  generalize (lg_sl ([.ref b]) ++ List.replicate (8 - (lg_sl ([.ref b])).length) Slot.unset).toArray = ls at hl ⊢
  have hl : lv_has ls 8 [(0, .ref b)] := hl
  have hcw : 0 + 1 ≤ 648629 := by decide
  have hsw : 0 + 13 ≤ 7150182 := by decide
  refine va_new (ci := 0) (fs := [.int 0, .null, .null, .null, .null, .null, .int 0, .int 0, .int 0, .int 0, .int 0, .int 0, .int 0]) (C := RX0) (T := TX0) (N := 13) hx hb hts hinX0 tyX0 tyX0_ok hown (hts _ mk_LX0) (hts _ mn_X0) (hts _ mi_X0) hK hP hD hS hA rfl (fun j hj => by rcases (show j = 0 ∨ j = 1 ∨ j = 2 ∨ j = 3 ∨ j = 4 ∨ j = 5 ∨ j = 6 ∨ j = 7 ∨ j = 8 ∨ j = 9 ∨ j = 10 ∨ j = 11 ∨ j = 12 by omega) with rfl | rfl | rfl | rfl | rfl | rfl | rfl | rfl | rfl | rfl | rfl | rfl | rfl <;> rfl) hcw hsw dL_law_0 (fun h0 H hP hD hS => ?_)
  have hP : va_P (dC, dI) vwCl [(h0, .inr (0, [.int 0, .null, .null, .null, .null, .null, .int 0, .int 0, .int 0, .int 0, .int 0, .int 0, .int 0]))] H := hP
  have hD : va_D A [(h0, .inr (0, [.int 0, .null, .null, .null, .null, .null, .int 0, .int 0, .int 0, .int 0, .int 0, .int 0, .int 0]))] := hD
  refine lv_dup hx hb dL_law_3 rfl ?_
  refine lv_aload_n hx hb dL_law_4 rfl (lv_at hl 0 rfl) ?_
  refine lv_iconst (v := 0) hx hb dL_law_5 (by decide) ?_
  refine zr_cell (rest := [.ref h0, .ref h0]) hx hb hml hown hts hX hbl hbA hL hP hS hA hl.1 (Nat.le_of_ble_eq_true rfl) dL_law_6 gL_law_L_cell ⟨by decide, by decide⟩ (fun H locs hP hS => ?_) ⟨by decide, by decide⟩
  rw [show (if L = 0 then 0 else xs 0) = x0 from hx0]
  refine zf_v (σ := (Nat → Nat) × (Nat → ClassId)) (tys1 := fun z => tC z.2) (w1 := fun z => wC n z.1 z.2 (fc_ini n)) (w0 := [(h0, .inr (0, [.int 0, .null, .null, .null, .null, .null, .int 0, .int 0, .int 0, .int 0, .int 0, .int 0, .int 0]))]) (wr := []) (va_runI (As := [.int x0]) (rest := [.ref h0]) ⟨hx, hb, hml, hown, hts⟩ (hctorX0 h0 H.size) (cwI 1 hts gL_law_X0_init rfl rfl rfl (hts _ mi_X0) (hts _ ml_L_61) (hts _ mm_X0_init) rfl (by decide +kernel) ⟨Nat.le_of_ble_eq_true rfl, Nat.le_of_ble_eq_true rfl⟩) ⟨zr_blind, zr_pre (hK.sub (tys' := []) [] rfl) (hP.sub (ws' := [(h0, .inr (0, [.int 0, .null, .null, .null, .null, .null, .int 0, .int 0, .int 0, .int 0, .int 0, .int 0, .int 0]))]) [0] rfl) (hD.sub (ws' := [(h0, .inr (0, [.int 0, .null, .null, .null, .null, .null, .int 0, .int 0, .int 0, .int 0, .int 0, .int 0, .int 0]))]) [0] (by decide) rfl)⟩ rfl rfl hl.1 rfl (lv_room (Nat.le_of_ble_eq_true rfl)) dL_law_9 ⟨by decide, by decide⟩) hP hD hS hA [0] [] rfl rfl (by decide) (by decide) (fun z H locs hz hPn hDn hK1 hS => ?_)
  obtain ⟨a, ca⟩ := z
  have hz : a 0 = h0 := hz
  subst hz
  have hP : va_P (dC, dI) vwCl (wC n a ca (fc_ini n)) H := hPn
  have hD : va_D A (wC n a ca (fc_ini n)) := hDn
  have hK : va_K (dC, dI) vwCl (tC ca) s := hK1
  refine lv_astore_n hx hb dL_law_12 rfl hl (by decide) rfl (fun ls hl => ?_)
  have hl : lv_has ls 8 [(1, .ref (a 0)), (0, .ref b)] := hl
  have hcw : 0 + 1 + 5 + 1 ≤ 648629 := by decide
  have hsw : 0 + 13 + 112 + 15 ≤ 7150182 := by decide
  refine va_new (ci := 1) (fs := [.int 0, .int 0, .null, .null, .null, .null, .null, .null, .long 0, .int 0, .int 0, .int 0, .int 0, .int 0, .int 0]) (C := RX1) (T := TX1) (N := 15) hx hb hts hinX1 tyX1 tyX1_ok hown (hts _ mk_LX1) (hts _ mn_X1) (hts _ mi_X1) hK hP hD hS hA rfl (fun j hj => by rcases (show j = 0 ∨ j = 1 ∨ j = 2 ∨ j = 3 ∨ j = 4 ∨ j = 5 ∨ j = 6 ∨ j = 7 ∨ j = 8 ∨ j = 9 ∨ j = 10 ∨ j = 11 ∨ j = 12 ∨ j = 13 ∨ j = 14 by omega) with rfl | rfl | rfl | rfl | rfl | rfl | rfl | rfl | rfl | rfl | rfl | rfl | rfl | rfl | rfl <;> rfl) hcw hsw dL_law_13 (fun h1 H hP hD hS => ?_)
  have hP : va_P (dC, dI) vwCl (wC n a ca (fc_ini n) ++ [(h1, .inr (1, [.int 0, .int 0, .null, .null, .null, .null, .null, .null, .long 0, .int 0, .int 0, .int 0, .int 0, .int 0, .int 0]))]) H := hP
  have hD : va_D A (wC n a ca (fc_ini n) ++ [(h1, .inr (1, [.int 0, .int 0, .null, .null, .null, .null, .null, .null, .long 0, .int 0, .int 0, .int 0, .int 0, .int 0, .int 0]))]) := hD
  refine lv_dup hx hb dL_law_16 rfl ?_
  refine lv_aload_n hx hb dL_law_17 rfl (lv_at hl 1 rfl) ?_
  refine lv_iconst (v := 0) hx hb dL_law_18 (by decide) ?_
  refine zr_cell (rest := [.ref h1, .ref h1]) hx hb hml hown hts hX hbl hbA hL hP hS hA hl.1 (Nat.le_of_ble_eq_true rfl) dL_law_19 gL_law_L_cell ⟨by decide, by decide⟩ (fun H locs hP hS => ?_) ⟨by decide, by decide⟩
  rw [show (if L = 0 then 0 else xs 0) = x0 from hx0]
  refine zf_v (σ := (Nat → Nat) × (Nat → ClassId)) (tys1 := fun z => tM z.2) (w1 := fun z => wM n z.1 z.2 fm_ini) (w0 := [(h1, .inr (1, [.int 0, .int 0, .null, .null, .null, .null, .null, .null, .long 0, .int 0, .int 0, .int 0, .int 0, .int 0, .int 0]))]) (wr := wC n a ca (fc_ini n)) (va_runI (As := [.int x0]) (rest := [.ref h1]) ⟨hx, hb, hml, hown, hts⟩ (hctorX1 h1 H.size) (cwI 1 hts gL_law_X1_init rfl rfl rfl (hts _ mi_X1) (hts _ ml_L_66) (hts _ mm_X1_init) rfl (by decide +kernel) ⟨Nat.le_of_ble_eq_true rfl, Nat.le_of_ble_eq_true rfl⟩) ⟨zr_blind, zr_pre (hK.sub (tys' := []) [] rfl) (hP.sub (ws' := [(h1, .inr (1, [.int 0, .int 0, .null, .null, .null, .null, .null, .null, .long 0, .int 0, .int 0, .int 0, .int 0, .int 0, .int 0]))]) [6] rfl) (hD.sub (ws' := [(h1, .inr (1, [.int 0, .int 0, .null, .null, .null, .null, .null, .null, .long 0, .int 0, .int 0, .int 0, .int 0, .int 0, .int 0]))]) [6] (by decide) rfl)⟩ rfl rfl hl.1 rfl (lv_room (Nat.le_of_ble_eq_true rfl)) dL_law_22 ⟨by decide, by decide⟩) hP hD hS hA [6] [0, 1, 2, 3, 4, 5] rfl rfl (by decide) (by decide) (fun z H locs hz hPn hDn hK1 hS => ?_)
  obtain ⟨a2, ca2⟩ := z
  have hz : a2 0 = h1 := hz
  subst hz
  have hP : va_P (dC, dI) vwCl (wC n a ca (fc_ini n) ++ wM n a2 ca2 fm_ini) H := hPn
  have hD : va_D A (wC n a ca (fc_ini n) ++ wM n a2 ca2 fm_ini) := hDn
  have hK : va_K (dC, dI) vwCl (tC ca ++ tM ca2) s := hK.app hK1
  refine lv_astore_n hx hb dL_law_25 rfl hl (by decide) rfl (fun ls hl => ?_)
  have hl : lv_has ls 8 [(2, .ref (a2 0)), (1, .ref (a 0)), (0, .ref b)] := hl
  refine lv_iconst (v := 1) hx hb dL_law_26 (by decide) ?_
  have hcw : 0 + 1 + 5 + 1 + 6 + 1 ≤ 648629 := by decide
  have hsw : 0 + 13 + 112 + 15 + 124 + 1 ≤ 7150182 := by decide
  refine va_newa (atype := .long) (ty := .long) (N' := 1) (a0 := (1, .inr (.inl (fun _ => 0)))) hx hb (hts _ ma_long) rfl hK hP hD hS hA (fun _ => rfl) (by decide) (by decide) (by decide) hcw hsw dL_law_27 (fun qo co H hK hP hD hS => ?_)
  have hP : va_P (dC, dI) vwCl (wA n a ca a2 ca2 qo co (fc_ini n, fm_ini, fun _ => 0)) H := hP
  have hD : va_D A (wA n a ca a2 ca2 qo co (fc_ini n, fm_ini, fun _ => 0)) := hD
  have hK : va_K (dC, dI) vwCl (tA ca ca2 co) s := hK
  refine lv_astore_n hx hb dL_law_29 rfl hl (by decide) rfl (fun ls hl => ?_)
  have hl : lv_has ls 8 [(3, .ref qo), (2, .ref (a2 0)), (1, .ref (a 0)), (0, .ref b)] := hl
  refine lv_iconst (v := 1) hx hb dL_law_30 (by decide) ?_
  refine lv_istore hx hb dL_law_31 hl (by decide) rfl (fun ls hl => ?_)
  have hl : lv_has ls 8 [(4, .int 1), (3, .ref qo), (2, .ref (a2 0)), (1, .ref (a 0)), (0, .ref b)] := hl
  refine W.widen (k := 14 + 2 * 0) (n := 265 + 12 * 0) (by decide) (by decide) ?_
  refine zr_loopC (fun x => 14 + 2 * x.1) (fun x => 265 + 12 * x.1) (fun r (x : Nat × StC × StM × (Nat → Int64)) ls H locs => r + x.1 = 512 ∧ rR n (2 * x.1) x.2.1 x.2.2.1 ∧ lv_has ls 8 [(0, .ref b), (1, .ref (a 0)), (2, .ref (a2 0)), (3, .ref qo), (4, .int (nI (1 + 5 * x.1)))] ∧ va_P (dC, dI) vwCl (wA n a ca a2 ca2 qo co x.2) H ∧ va_D A (wA n a ca a2 ca2 qo co x.2) ∧ va_S A s.heap H locs) (fun ls => F0 m 33 ls []) ?_ 512 (0, fc_ini n, fm_ini, fun _ => 0) _ _ _ ⟨rfl, ini_sim hn, lv_sub hl [4, 3, 2, 1, 0] rfl, hP, hD, hS⟩
  rintro r ⟨t, u, v, f⟩ ls H locs ih ⟨hrk, hR, hl, hP, hD, hS⟩
  dsimp only at hrk hR
  have hl : lv_has ls 8 [(0, .ref b), (1, .ref (a 0)), (2, .ref (a2 0)), (3, .ref qo), (4, .int (nI (1 + 5 * t)))] := hl
  have hP : va_P (dC, dI) vwCl (wA n a ca a2 ca2 qo co (u, v, f)) H := hP
  have hD : va_D A (wA n a ca a2 ca2 qo co (u, v, f)) := hD
  refine lv_iload hx hb dL_law_33 (lv_at hl 4 rfl) ?_
  refine lv_aload_n hx hb dL_law_35 rfl (lv_at hl 0 rfl) ?_
  refine va_slen hx hb hX hbl hbA hS dL_law_36 ?_
  refine lv_iconst (v := 5) hx hb dL_law_37 (by decide) ?_
  refine lv_isub hx hb dL_law_38 ?_
  refine lv_icmp_gt hx hb dL_law_39 (tgt := 866) rfl (fun hex => ?_) (fun hgo => ?_)
  · refine lv_iconst (v := 1) hx hb dL_law_866 (by decide) ?_
    refine va_forget (fun q hq => by have h9 := hS.2.2 q hq; rw [hAd] at h9; exact h9) ?_
    refine W.widen (k := 648629) (n := 7150182) (by omega) (by omega) ?_
    exact lw_ret hx hb hr hlocks dL_law_867
  · have hgo := zr_lc hL (by omega) hgo
    obtain ⟨r', rfl⟩ : ∃ z, r = z + 1 := ⟨r - 1, by omega⟩
    refine lv_aload_n hx hb dL_law_42 rfl (lv_at hl 0 rfl) ?_
    refine lv_iload hx hb dL_law_43 (lv_at hl 4 rfl) ?_
    refine zr_sld0 hx hb hX hbl hbA hS (by omega) hL dL_law_45 ?_
    refine lv_bipush (v := 15) hx hb dL_law_46 (by decide) ?_
    refine lv_iand hx hb dL_law_48 ?_
    obtain ⟨y0, hy0⟩ : ∃ y, y = ((xs (1 + 5 * t)) &&& 15) := ⟨_, rfl⟩
    rw [← hy0]
    rcases Classical.em (y0 = 0) with e0 | e0
    · refine lv_tableIn (off := 71) (tgt := 120) hx hb dL_law_49 (by rw [e0]; decide) (by rw [e0]; decide) (by rw [e0]; decide) rfl ?_
      refine lv_aload_n hx hb dL_law_120 rfl (lv_at hl 1 rfl) ?_
      refine lv_aload_n hx hb dL_law_121 rfl (lv_at hl 0 rfl) ?_
      refine lv_iload hx hb dL_law_122 (lv_at hl 4 rfl) ?_
      refine lv_iconst (v := 1) hx hb dL_law_124 (by decide) ?_
      refine lv_iadd hx hb dL_law_125 ?_
      refine zr_sldk hx hb hX hbl hbA hS 1 (by decide) (by omega) hL dL_law_126 ?_
      refine lv_aload_n hx hb dL_law_127 rfl (lv_at hl 3 rfl) ?_
      have hFc := va_free (wc := (wL n a ca qo co (u, f))) hD hS hA [0, 1, 2, 3, 4, 5, 13] rfl
      refine zf_i (mc := 1) (ms := 6) (σ := StC × (Nat → Int64)) (tys1 := fun _ => (tC ca ++ [(co, .long)])) (w1 := fun z => wL n a ca qo co z) (w0 := (wL n a ca qo co (u, f))) (wr := (wM n a2 ca2 v)) (vx_runSW (As := [.ref (a 0), .int (xs (1 + 5 * t + 1)), .ref qo]) (rest := []) ⟨hx, hb, hml, hown, hts⟩ (c_L_read l hl9 sa dC dI n a ca u qo co f H.size (xs (1 + 5 * t + 1)) hn hn0 hR.1.ok) (vx_cwSW 3 hts gL_law_L_read rfl rfl rfl (by decide +kernel) ⟨Nat.le_of_ble_eq_true rfl, Nat.le_of_ble_eq_true rfl⟩) ⟨fun a U g mk q => ⟨q.1, ⟨q.2.1.1, q.2.1.2.1, va_K.moved (u := U) (U := U.calling g mk a) (Vm.Alike.refl U.vm) q.2.1.2.2.1, q.2.1.2.2.2⟩, q.2.2.1.call, q.2.2.2.to (U := U.calling g mk a) (Vm.Alike.refl U.vm)⟩, fun U hU hW => ⟨rfl, (zr_pre (As := [.ref (a 0)]) (hK.sub (tys' := (tC ca ++ [(co, .long)])) [0, 1, 2, 3, 4, 11] rfl) (hP.sub (ws' := (wL n a ca qo co (u, f))) [0, 1, 2, 3, 4, 5, 13] rfl) (hD.sub (ws' := (wL n a ca qo co (u, f))) [0, 1, 2, 3, 4, 5, 13] (by decide) rfl) U hU hW).2, hE.to hW (fun q h1 h2 => by rw [hU]; exact hS.2.1 q h1 h2) hFc, hC.to hW.alike⟩⟩ rfl rfl hl.1 rfl (lv_room (Nat.le_of_ble_eq_true rfl)) dL_law_128 ⟨by show _ ≤ 648629; omega, by show _ ≤ 7150182; omega⟩) hP hD hS hA [0, 1, 2, 3, 4, 5, 13] [6, 7, 8, 9, 10, 11, 12] rfl rfl (by decide) (by decide) (fun r5 z5 H locs hp hP hD _ hS => ?_)
      refine W.widen (k := 14 + 2 * (t + 1)) (n := 265 + 12 * (t + 1)) (by omega) (by omega) ?_
      have hP : va_P (dC, dI) vwCl (wA n a ca a2 ca2 qo co (z5.1, v, z5.2)) H := hP.sub (ws' := (wA n a ca a2 ca2 qo co (z5.1, v, z5.2))) [7, 8, 9, 10, 11, 12, 0, 1, 2, 3, 4, 5, 6, 13] rfl
      have hD : va_D A (wA n a ca a2 ca2 qo co (z5.1, v, z5.2)) := hD.sub (ws' := (wA n a ca a2 ca2 qo co (z5.1, v, z5.2))) [7, 8, 9, 10, 11, 12, 0, 1, 2, 3, 4, 5, 6, 13] (by decide) rfl
      refine lv_istore hx hb dL_law_131 hl (by decide) rfl (fun ls hl => ?_)
      have hl : lv_has ls 8 [(5, .int r5), (0, .ref b), (1, .ref (a 0)), (2, .ref (a2 0)), (3, .ref qo), (4, .int (nI (1 + 5 * t)))] := hl
      refine lv_aload_n hx hb dL_law_133 rfl (lv_at hl 3 rfl) ?_
      refine lv_aload_n hx hb dL_law_134 rfl (lv_at hl 1 rfl) ?_
      refine lv_iload hx hb dL_law_135 (lv_at hl 5 rfl) ?_
      refine lv_iconst (v := 1) hx hb dL_law_137 (by decide) ?_
      refine lv_iadd hx hb dL_law_138 ?_
      refine zr_sldk hx hb hX hbl hbA hS 1 (by decide) (by omega) hL dL_law_139 ?_
      refine zf_l (mc := 0) (ms := 0) (σ := StM) (tys1 := fun _ => tM ca2) (w1 := fun z => wM n a2 ca2 z) (w0 := (wM n a2 ca2 v)) (wr := (wC n a ca z5.1 ++ [(qo, .inl (co, 1, .inr (.inl z5.2)))])) (va_runV (As := [.int (xs (1 + 5 * t + 1))]) (rest := []) ⟨hx, hb, hml, hown, hts⟩ (c_M_read l dC dI n a2 ca2 v H.size (xs (1 + 5 * t + 1)) hn hn0 (okM_of hR.1)) (cwV 1 hts gL_law_X1_read rfl rfl rfl (by decide +kernel) ⟨Nat.le_of_ble_eq_true rfl, Nat.le_of_ble_eq_true rfl⟩) ⟨zr_blind, (va_recv (q0 := 6) (ci := 1) (q := (RX1, TX1, 15)) hK hP rfl rfl), zr_pre (hK.sub (tys' := tM ca2) [5, 6, 7, 8, 9, 10] rfl) (hP.sub (ws' := (wM n a2 ca2 v)) [6, 7, 8, 9, 10, 11, 12] rfl) (hD.sub (ws' := (wM n a2 ca2 v)) [6, 7, 8, 9, 10, 11, 12] (by decide) rfl)⟩ rfl rfl hl.1 rfl (lv_room (Nat.le_of_ble_eq_true rfl)) dL_law_140 ⟨by show _ ≤ 648629; omega, by show _ ≤ 7150182; omega⟩) hP hD hS hA [6, 7, 8, 9, 10, 11, 12] [0, 1, 2, 3, 4, 5, 13] rfl rfl (by decide) (by decide) (fun r9 z9 H locs hp9 hP hD _ hS => ?_)
      obtain ⟨hr9, hz9⟩ := hp9
      subst hr9
      have hz9 : (fm_read n v (xs (1 + 5 * t + 1))).2 = z9 := hz9.symm
      subst hz9
      have hP : va_P (dC, dI) vwCl (wA n a ca a2 ca2 qo co (z5.1, (fm_read n v (xs (1 + 5 * t + 1))).2, z5.2)) H := hP.sub (ws' := (wA n a ca a2 ca2 qo co (z5.1, (fm_read n v (xs (1 + 5 * t + 1))).2, z5.2))) [0, 1, 2, 3, 4, 5, 7, 8, 9, 10, 11, 12, 13, 6] rfl
      have hD : va_D A (wA n a ca a2 ca2 qo co (z5.1, (fm_read n v (xs (1 + 5 * t + 1))).2, z5.2)) := hD.sub (ws' := (wA n a ca a2 ca2 qo co (z5.1, (fm_read n v (xs (1 + 5 * t + 1))).2, z5.2))) [0, 1, 2, 3, 4, 5, 7, 8, 9, 10, 11, 12, 13, 6] (by decide) rfl
      obtain ⟨hq1, hq2, hR⟩ := law_read hn0 hR (by omega) (xs (1 + 5 * t + 1)) hp
      have hR : rR n (2 * (t + 1)) z5.1 ((fm_read n v (xs (1 + 5 * t + 1))).2) := hR.up (by omega)
      refine lv_lstore hx hb dL_law_143 hl (by decide) rfl (fun ls hl => ?_)
      have hl : lv_has ls 8 [(6, .long ((fm_read n v (xs (1 + 5 * t + 1))).1)), (5, .int r5), (0, .ref b), (1, .ref (a 0)), (2, .ref (a2 0)), (3, .ref qo), (4, .int (nI (1 + 5 * t)))] := hl
      refine lv_aload_n hx hb dL_law_145 rfl (lv_at hl 4 rfl) ?_
      refine zf_i (mc := 0) (ms := 0) (σ := StM) (tys1 := fun _ => tM ca2) (w1 := fun z => wM n a2 ca2 z) (w0 := (wM n a2 ca2 ((fm_read n v (xs (1 + 5 * t + 1))).2))) (wr := (wC n a ca z5.1 ++ [(qo, .inl (co, 1, .inr (.inl z5.2)))])) (va_runV (As := []) (rest := []) ⟨hx, hb, hml, hown, hts⟩ (c_M_thrown l dC dI n a2 ca2 ((fm_read n v (xs (1 + 5 * t + 1))).2) H.size ) (cwV 0 hts gL_law_X1_thrown rfl rfl rfl (by decide +kernel) ⟨Nat.le_of_ble_eq_true rfl, Nat.le_of_ble_eq_true rfl⟩) ⟨zr_blind, (va_recv (q0 := 6) (ci := 1) (q := (RX1, TX1, 15)) hK hP rfl rfl), zr_pre (hK.sub (tys' := tM ca2) [5, 6, 7, 8, 9, 10] rfl) (hP.sub (ws' := (wM n a2 ca2 ((fm_read n v (xs (1 + 5 * t + 1))).2))) [6, 7, 8, 9, 10, 11, 12] rfl) (hD.sub (ws' := (wM n a2 ca2 ((fm_read n v (xs (1 + 5 * t + 1))).2))) [6, 7, 8, 9, 10, 11, 12] (by decide) rfl)⟩ rfl rfl hl.1 rfl (lv_room (Nat.le_of_ble_eq_true rfl)) dL_law_146 ⟨by show _ ≤ 648629; omega, by show _ ≤ 7150182; omega⟩) hP hD hS hA [6, 7, 8, 9, 10, 11, 12] [0, 1, 2, 3, 4, 5, 13] rfl rfl (by decide) (by decide) (fun r9 z9 H locs hp9 hP hD _ hS => ?_)
      obtain ⟨hr9, hz9⟩ := hp9
      subst hr9
      have hz9 : ((fm_read n v (xs (1 + 5 * t + 1))).2) = z9 := hz9.symm
      subst hz9
      have hP : va_P (dC, dI) vwCl (wA n a ca a2 ca2 qo co (z5.1, (fm_read n v (xs (1 + 5 * t + 1))).2, z5.2)) H := hP.sub (ws' := (wA n a ca a2 ca2 qo co (z5.1, (fm_read n v (xs (1 + 5 * t + 1))).2, z5.2))) [0, 1, 2, 3, 4, 5, 7, 8, 9, 10, 11, 12, 13, 6] rfl
      have hD : va_D A (wA n a ca a2 ca2 qo co (z5.1, (fm_read n v (xs (1 + 5 * t + 1))).2, z5.2)) := hD.sub (ws' := (wA n a ca a2 ca2 qo co (z5.1, (fm_read n v (xs (1 + 5 * t + 1))).2, z5.2))) [0, 1, 2, 3, 4, 5, 7, 8, 9, 10, 11, 12, 13, 6] (by decide) rfl
      refine lv_iload hx hb dL_law_149 (lv_at hl 1 rfl) ?_
      refine lv_icmp_eq hx hb dL_law_151 (tgt := 156) rfl (fun _ => ?_) (fun h => absurd hq1 h)
      refine lv_iload hx hb dL_law_156 (lv_at hl 1 rfl) ?_
      refine lv_if_ne hx hb dL_law_158 (tgt := 172) rfl (fun _ => ?_) (fun hk0 => ?_)
      · refine lv_goto hx hb dL_law_172 (tgt := 860) rfl ?_
        refine lv_iinc (k := 6) (v := nI (1 + 5 * (t + 1))) hx hb dL_law_860 hl rfl (by rw [show Int32.ofInt 5 = nI 5 by decide, nI_add]; exact congrArg nI (by omega)) (by decide) rfl (fun ls hl => ?_)
        have hl : lv_has ls 8 [(4, .int (nI (1 + 5 * (t + 1)))), (6, .long ((fm_read n v (xs (1 + 5 * t + 1))).1)), (5, .int r5), (0, .ref b), (1, .ref (a 0)), (2, .ref (a2 0)), (3, .ref qo)] := hl
        refine lv_goto hx hb dL_law_863 (tgt := 33) rfl ?_
        exact ih r' (t + 1, z5.1, (fm_read n v (xs (1 + 5 * t + 1))).2, z5.2) _ _ _ (by omega) ⟨by show r' + (t + 1) = 512; omega, hR, lv_sub hl [3, 4, 5, 6, 0] rfl, hP, hD, hS⟩
      · refine lv_aload_n hx hb dL_law_161 rfl (lv_at hl 5 rfl) ?_
        refine lv_iconst (v := 0) hx hb dL_law_162 (by decide) ?_
        refine zr_lald (k := 0) hx hb hK hP 13 11 rfl rfl (by decide) (by decide) dL_law_163 ?_
        refine lv_lload hx hb dL_law_164 (lv_at hl 0 rfl) ?_
        refine W.lcmp hx hb dL_law_166 ?_
        refine lv_if_eq hx hb dL_law_167 (tgt := 172) rfl (fun _ => ?_) (fun h => absurd ((lg_cmp_eq _ _).mpr (hq2 hk0)) h)
        refine lv_goto hx hb dL_law_172 (tgt := 860) rfl ?_
        refine lv_iinc (k := 6) (v := nI (1 + 5 * (t + 1))) hx hb dL_law_860 hl rfl (by rw [show Int32.ofInt 5 = nI 5 by decide, nI_add]; exact congrArg nI (by omega)) (by decide) rfl (fun ls hl => ?_)
        have hl : lv_has ls 8 [(4, .int (nI (1 + 5 * (t + 1)))), (6, .long ((fm_read n v (xs (1 + 5 * t + 1))).1)), (5, .int r5), (0, .ref b), (1, .ref (a 0)), (2, .ref (a2 0)), (3, .ref qo)] := hl
        refine lv_goto hx hb dL_law_863 (tgt := 33) rfl ?_
        exact ih r' (t + 1, z5.1, (fm_read n v (xs (1 + 5 * t + 1))).2, z5.2) _ _ _ (by omega) ⟨by show r' + (t + 1) = 512; omega, hR, lv_sub hl [3, 4, 5, 6, 0] rfl, hP, hD, hS⟩
    · rcases Classical.em (y0 = 1) with e1 | e1
      · refine lv_tableIn (off := 126) (tgt := 175) hx hb dL_law_49 (by rw [e1]; decide) (by rw [e1]; decide) (by rw [e1]; decide) rfl ?_
        refine lv_aload_n hx hb dL_law_175 rfl (lv_at hl 1 rfl) ?_
        refine lv_aload_n hx hb dL_law_176 rfl (lv_at hl 0 rfl) ?_
        refine lv_iload hx hb dL_law_177 (lv_at hl 4 rfl) ?_
        refine lv_iconst (v := 1) hx hb dL_law_179 (by decide) ?_
        refine lv_iadd hx hb dL_law_180 ?_
        refine zr_sldk hx hb hX hbl hbA hS 1 (by decide) (by omega) hL dL_law_181 ?_
        refine lv_aload_n hx hb dL_law_182 rfl (lv_at hl 0 rfl) ?_
        refine lv_iload hx hb dL_law_183 (lv_at hl 4 rfl) ?_
        refine lv_iconst (v := 2) hx hb dL_law_185 (by decide) ?_
        refine lv_iadd hx hb dL_law_186 ?_
        refine zr_sldk hx hb hX hbl hbA hS 2 (by decide) (by omega) hL dL_law_187 ?_
        refine lv_i2l hx hb dL_law_188 rfl ?_
        refine lv_bipush (v := 32) hx hb dL_law_189 (by decide) ?_
        refine lv_lshl hx hb dL_law_191 rfl ?_
        refine lv_aload_n hx hb dL_law_192 rfl (lv_at hl 0 rfl) ?_
        refine lv_iload hx hb dL_law_193 (lv_at hl 4 rfl) ?_
        refine lv_iconst (v := 3) hx hb dL_law_195 (by decide) ?_
        refine lv_iadd hx hb dL_law_196 ?_
        refine zr_sldk hx hb hX hbl hbA hS 3 (by decide) (by omega) hL dL_law_197 ?_
        refine lv_i2l hx hb dL_law_198 rfl ?_
        refine lv_ldc2 (v := 4294967295) hx hb hown (hts _ mcl_75) dL_law_199 ?_
        refine lv_land hx hb dL_law_202 ?_
        refine lv_lor hx hb dL_law_203 ?_
        have hFc := va_free (wc := (wC n a ca u)) hD hS hA [0, 1, 2, 3, 4, 5] rfl
        refine zf_i (mc := 1) (ms := 6) (σ := StC) (tys1 := fun _ => (tC ca)) (w1 := fun z => wC n a ca z) (w0 := (wC n a ca u)) (wr := (wM n a2 ca2 v ++ [(qo, .inl (co, 1, .inr (.inl f)))])) (vx_runSW (As := [.ref (a 0), .int (xs (1 + 5 * t + 1)), .long ((((xs (1 + 5 * t + 2)).toInt64) <<< ((32 : Int32).toInt64 &&& 63)) ||| (((xs (1 + 5 * t + 3)).toInt64) &&& 4294967295))]) (rest := []) ⟨hx, hb, hml, hown, hts⟩ (c_L_write l hl9 sa dC dI n a ca u H.size (xs (1 + 5 * t + 1)) ((((xs (1 + 5 * t + 2)).toInt64) <<< ((32 : Int32).toInt64 &&& 63)) ||| (((xs (1 + 5 * t + 3)).toInt64) &&& 4294967295)) hn hn0 hR.1.ok) (vx_cwSW 3 hts gL_law_L_write rfl rfl rfl (by decide +kernel) ⟨Nat.le_of_ble_eq_true rfl, Nat.le_of_ble_eq_true rfl⟩) ⟨fun a U g mk q => ⟨q.1, ⟨q.2.1.1, q.2.1.2.1, va_K.moved (u := U) (U := U.calling g mk a) (Vm.Alike.refl U.vm) q.2.1.2.2.1, q.2.1.2.2.2⟩, q.2.2.1.call, q.2.2.2.to (U := U.calling g mk a) (Vm.Alike.refl U.vm)⟩, fun U hU hW => ⟨rfl, (zr_pre (As := [.ref (a 0)]) (hK.sub (tys' := (tC ca)) [0, 1, 2, 3, 4] rfl) (hP.sub (ws' := (wC n a ca u)) [0, 1, 2, 3, 4, 5] rfl) (hD.sub (ws' := (wC n a ca u)) [0, 1, 2, 3, 4, 5] (by decide) rfl) U hU hW).2, hE.to hW (fun q h1 h2 => by rw [hU]; exact hS.2.1 q h1 h2) hFc, hC.to hW.alike⟩⟩ rfl rfl hl.1 rfl (lv_room (Nat.le_of_ble_eq_true rfl)) dL_law_204 ⟨by show _ ≤ 648629; omega, by show _ ≤ 7150182; omega⟩) hP hD hS hA [0, 1, 2, 3, 4, 5] [6, 7, 8, 9, 10, 11, 12, 13] rfl rfl (by decide) (by decide) (fun r5 z5 H locs hp hP hD _ hS => ?_)
        refine W.widen (k := 14 + 2 * (t + 1)) (n := 265 + 12 * (t + 1)) (by omega) (by omega) ?_
        have hP : va_P (dC, dI) vwCl (wA n a ca a2 ca2 qo co (z5, v, f)) H := hP.sub (ws' := (wA n a ca a2 ca2 qo co (z5, v, f))) [8, 9, 10, 11, 12, 13, 0, 1, 2, 3, 4, 5, 6, 7] rfl
        have hD : va_D A (wA n a ca a2 ca2 qo co (z5, v, f)) := hD.sub (ws' := (wA n a ca a2 ca2 qo co (z5, v, f))) [8, 9, 10, 11, 12, 13, 0, 1, 2, 3, 4, 5, 6, 7] (by decide) rfl
        refine lv_istore hx hb dL_law_207 hl (by decide) rfl (fun ls hl => ?_)
        have hl : lv_has ls 8 [(5, .int r5), (0, .ref b), (1, .ref (a 0)), (2, .ref (a2 0)), (3, .ref qo), (4, .int (nI (1 + 5 * t)))] := hl
        refine lv_aload_n hx hb dL_law_209 rfl (lv_at hl 3 rfl) ?_
        refine lv_aload_n hx hb dL_law_210 rfl (lv_at hl 1 rfl) ?_
        refine lv_iload hx hb dL_law_211 (lv_at hl 5 rfl) ?_
        refine lv_iconst (v := 1) hx hb dL_law_213 (by decide) ?_
        refine lv_iadd hx hb dL_law_214 ?_
        refine zr_sldk hx hb hX hbl hbA hS 1 (by decide) (by omega) hL dL_law_215 ?_
        refine lv_aload_n hx hb dL_law_216 rfl (lv_at hl 1 rfl) ?_
        refine lv_iload hx hb dL_law_217 (lv_at hl 5 rfl) ?_
        refine lv_iconst (v := 2) hx hb dL_law_219 (by decide) ?_
        refine lv_iadd hx hb dL_law_220 ?_
        refine zr_sldk hx hb hX hbl hbA hS 2 (by decide) (by omega) hL dL_law_221 ?_
        refine lv_i2l hx hb dL_law_222 rfl ?_
        refine lv_bipush (v := 32) hx hb dL_law_223 (by decide) ?_
        refine lv_lshl hx hb dL_law_225 rfl ?_
        refine lv_aload_n hx hb dL_law_226 rfl (lv_at hl 1 rfl) ?_
        refine lv_iload hx hb dL_law_227 (lv_at hl 5 rfl) ?_
        refine lv_iconst (v := 3) hx hb dL_law_229 (by decide) ?_
        refine lv_iadd hx hb dL_law_230 ?_
        refine zr_sldk hx hb hX hbl hbA hS 3 (by decide) (by omega) hL dL_law_231 ?_
        refine lv_i2l hx hb dL_law_232 rfl ?_
        refine lv_ldc2 (v := 4294967295) hx hb hown (hts _ mcl_75) dL_law_233 ?_
        refine lv_land hx hb dL_law_236 ?_
        refine lv_lor hx hb dL_law_237 ?_
        refine zf_v (mc := 0) (ms := 0) (σ := StM) (tys1 := fun _ => tM ca2) (w1 := fun z => wM n a2 ca2 z) (w0 := (wM n a2 ca2 v)) (wr := (wC n a ca z5 ++ [(qo, .inl (co, 1, .inr (.inl f)))])) (va_runV (As := [.int (xs (1 + 5 * t + 1)), .long ((((xs (1 + 5 * t + 2)).toInt64) <<< ((32 : Int32).toInt64 &&& 63)) ||| (((xs (1 + 5 * t + 3)).toInt64) &&& 4294967295))]) (rest := []) ⟨hx, hb, hml, hown, hts⟩ (c_M_write l dC dI n a2 ca2 v H.size (xs (1 + 5 * t + 1)) ((((xs (1 + 5 * t + 2)).toInt64) <<< ((32 : Int32).toInt64 &&& 63)) ||| (((xs (1 + 5 * t + 3)).toInt64) &&& 4294967295)) hn hn0 (okM_of hR.1)) (cwV 2 hts gL_law_X1_write rfl rfl rfl (by decide +kernel) ⟨Nat.le_of_ble_eq_true rfl, Nat.le_of_ble_eq_true rfl⟩) ⟨zr_blind, (va_recv (q0 := 6) (ci := 1) (q := (RX1, TX1, 15)) hK hP rfl rfl), zr_pre (hK.sub (tys' := tM ca2) [5, 6, 7, 8, 9, 10] rfl) (hP.sub (ws' := (wM n a2 ca2 v)) [6, 7, 8, 9, 10, 11, 12] rfl) (hD.sub (ws' := (wM n a2 ca2 v)) [6, 7, 8, 9, 10, 11, 12] (by decide) rfl)⟩ rfl rfl hl.1 rfl (lv_room (Nat.le_of_ble_eq_true rfl)) dL_law_238 ⟨by show _ ≤ 648629; omega, by show _ ≤ 7150182; omega⟩) hP hD hS hA [6, 7, 8, 9, 10, 11, 12] [0, 1, 2, 3, 4, 5, 13] rfl rfl (by decide) (by decide) (fun z9 H locs hp9 hP hD _ hS => ?_)
        have hz9 := hp9
        have hz9 : fm_write n v (xs (1 + 5 * t + 1)) ((((xs (1 + 5 * t + 2)).toInt64) <<< ((32 : Int32).toInt64 &&& 63)) ||| (((xs (1 + 5 * t + 3)).toInt64) &&& 4294967295)) = z9 := hz9.symm
        subst hz9
        have hP : va_P (dC, dI) vwCl (wA n a ca a2 ca2 qo co (z5, fm_write n v (xs (1 + 5 * t + 1)) ((((xs (1 + 5 * t + 2)).toInt64) <<< ((32 : Int32).toInt64 &&& 63)) ||| (((xs (1 + 5 * t + 3)).toInt64) &&& 4294967295)), f)) H := hP.sub (ws' := (wA n a ca a2 ca2 qo co (z5, fm_write n v (xs (1 + 5 * t + 1)) ((((xs (1 + 5 * t + 2)).toInt64) <<< ((32 : Int32).toInt64 &&& 63)) ||| (((xs (1 + 5 * t + 3)).toInt64) &&& 4294967295)), f))) [0, 1, 2, 3, 4, 5, 7, 8, 9, 10, 11, 12, 13, 6] rfl
        have hD : va_D A (wA n a ca a2 ca2 qo co (z5, fm_write n v (xs (1 + 5 * t + 1)) ((((xs (1 + 5 * t + 2)).toInt64) <<< ((32 : Int32).toInt64 &&& 63)) ||| (((xs (1 + 5 * t + 3)).toInt64) &&& 4294967295)), f)) := hD.sub (ws' := (wA n a ca a2 ca2 qo co (z5, fm_write n v (xs (1 + 5 * t + 1)) ((((xs (1 + 5 * t + 2)).toInt64) <<< ((32 : Int32).toInt64 &&& 63)) ||| (((xs (1 + 5 * t + 3)).toInt64) &&& 4294967295)), f))) [0, 1, 2, 3, 4, 5, 7, 8, 9, 10, 11, 12, 13, 6] (by decide) rfl
        obtain ⟨hq1, hR⟩ := law_write hn0 hR (by omega) (xs (1 + 5 * t + 1)) ((((xs (1 + 5 * t + 2)).toInt64) <<< ((32 : Int32).toInt64 &&& 63)) ||| (((xs (1 + 5 * t + 3)).toInt64) &&& 4294967295)) hp
        have hR : rR n (2 * (t + 1)) z5 (fm_write n v (xs (1 + 5 * t + 1)) ((((xs (1 + 5 * t + 2)).toInt64) <<< ((32 : Int32).toInt64 &&& 63)) ||| (((xs (1 + 5 * t + 3)).toInt64) &&& 4294967295))) := hR.up (by omega)
        refine lv_aload_n hx hb dL_law_241 rfl (lv_at hl 3 rfl) ?_
        refine zf_i (mc := 0) (ms := 0) (σ := StM) (tys1 := fun _ => tM ca2) (w1 := fun z => wM n a2 ca2 z) (w0 := (wM n a2 ca2 (fm_write n v (xs (1 + 5 * t + 1)) ((((xs (1 + 5 * t + 2)).toInt64) <<< ((32 : Int32).toInt64 &&& 63)) ||| (((xs (1 + 5 * t + 3)).toInt64) &&& 4294967295))))) (wr := (wC n a ca z5 ++ [(qo, .inl (co, 1, .inr (.inl f)))])) (va_runV (As := []) (rest := []) ⟨hx, hb, hml, hown, hts⟩ (c_M_thrown l dC dI n a2 ca2 (fm_write n v (xs (1 + 5 * t + 1)) ((((xs (1 + 5 * t + 2)).toInt64) <<< ((32 : Int32).toInt64 &&& 63)) ||| (((xs (1 + 5 * t + 3)).toInt64) &&& 4294967295))) H.size ) (cwV 0 hts gL_law_X1_thrown rfl rfl rfl (by decide +kernel) ⟨Nat.le_of_ble_eq_true rfl, Nat.le_of_ble_eq_true rfl⟩) ⟨zr_blind, (va_recv (q0 := 6) (ci := 1) (q := (RX1, TX1, 15)) hK hP rfl rfl), zr_pre (hK.sub (tys' := tM ca2) [5, 6, 7, 8, 9, 10] rfl) (hP.sub (ws' := (wM n a2 ca2 (fm_write n v (xs (1 + 5 * t + 1)) ((((xs (1 + 5 * t + 2)).toInt64) <<< ((32 : Int32).toInt64 &&& 63)) ||| (((xs (1 + 5 * t + 3)).toInt64) &&& 4294967295))))) [6, 7, 8, 9, 10, 11, 12] rfl) (hD.sub (ws' := (wM n a2 ca2 (fm_write n v (xs (1 + 5 * t + 1)) ((((xs (1 + 5 * t + 2)).toInt64) <<< ((32 : Int32).toInt64 &&& 63)) ||| (((xs (1 + 5 * t + 3)).toInt64) &&& 4294967295))))) [6, 7, 8, 9, 10, 11, 12] (by decide) rfl)⟩ rfl rfl hl.1 rfl (lv_room (Nat.le_of_ble_eq_true rfl)) dL_law_242 ⟨by show _ ≤ 648629; omega, by show _ ≤ 7150182; omega⟩) hP hD hS hA [6, 7, 8, 9, 10, 11, 12] [0, 1, 2, 3, 4, 5, 13] rfl rfl (by decide) (by decide) (fun r9 z9 H locs hp9 hP hD _ hS => ?_)
        obtain ⟨hr9, hz9⟩ := hp9
        subst hr9
        have hz9 : (fm_write n v (xs (1 + 5 * t + 1)) ((((xs (1 + 5 * t + 2)).toInt64) <<< ((32 : Int32).toInt64 &&& 63)) ||| (((xs (1 + 5 * t + 3)).toInt64) &&& 4294967295))) = z9 := hz9.symm
        subst hz9
        have hP : va_P (dC, dI) vwCl (wA n a ca a2 ca2 qo co (z5, fm_write n v (xs (1 + 5 * t + 1)) ((((xs (1 + 5 * t + 2)).toInt64) <<< ((32 : Int32).toInt64 &&& 63)) ||| (((xs (1 + 5 * t + 3)).toInt64) &&& 4294967295)), f)) H := hP.sub (ws' := (wA n a ca a2 ca2 qo co (z5, fm_write n v (xs (1 + 5 * t + 1)) ((((xs (1 + 5 * t + 2)).toInt64) <<< ((32 : Int32).toInt64 &&& 63)) ||| (((xs (1 + 5 * t + 3)).toInt64) &&& 4294967295)), f))) [0, 1, 2, 3, 4, 5, 7, 8, 9, 10, 11, 12, 13, 6] rfl
        have hD : va_D A (wA n a ca a2 ca2 qo co (z5, fm_write n v (xs (1 + 5 * t + 1)) ((((xs (1 + 5 * t + 2)).toInt64) <<< ((32 : Int32).toInt64 &&& 63)) ||| (((xs (1 + 5 * t + 3)).toInt64) &&& 4294967295)), f)) := hD.sub (ws' := (wA n a ca a2 ca2 qo co (z5, fm_write n v (xs (1 + 5 * t + 1)) ((((xs (1 + 5 * t + 2)).toInt64) <<< ((32 : Int32).toInt64 &&& 63)) ||| (((xs (1 + 5 * t + 3)).toInt64) &&& 4294967295)), f))) [0, 1, 2, 3, 4, 5, 7, 8, 9, 10, 11, 12, 13, 6] (by decide) rfl
        refine lv_iload hx hb dL_law_245 (lv_at hl 0 rfl) ?_
        refine lv_icmp_eq hx hb dL_law_247 (tgt := 252) rfl (fun _ => ?_) (fun h => absurd hq1 h)
        refine lv_goto hx hb dL_law_252 (tgt := 860) rfl ?_
        refine lv_iinc (k := 5) (v := nI (1 + 5 * (t + 1))) hx hb dL_law_860 hl rfl (by rw [show Int32.ofInt 5 = nI 5 by decide, nI_add]; exact congrArg nI (by omega)) (by decide) rfl (fun ls hl => ?_)
        have hl : lv_has ls 8 [(4, .int (nI (1 + 5 * (t + 1)))), (5, .int r5), (0, .ref b), (1, .ref (a 0)), (2, .ref (a2 0)), (3, .ref qo)] := hl
        refine lv_goto hx hb dL_law_863 (tgt := 33) rfl ?_
        exact ih r' (t + 1, z5, fm_write n v (xs (1 + 5 * t + 1)) ((((xs (1 + 5 * t + 2)).toInt64) <<< ((32 : Int32).toInt64 &&& 63)) ||| (((xs (1 + 5 * t + 3)).toInt64) &&& 4294967295)), f) _ _ _ (by omega) ⟨by show r' + (t + 1) = 512; omega, hR, lv_sub hl [2, 3, 4, 5, 0] rfl, hP, hD, hS⟩
      · rcases Classical.em (y0 = 2) with e2 | e2
        · refine lv_tableIn (off := 206) (tgt := 255) hx hb dL_law_49 (by rw [e2]; decide) (by rw [e2]; decide) (by rw [e2]; decide) rfl ?_
          refine lv_aload_n hx hb dL_law_255 rfl (lv_at hl 1 rfl) ?_
          refine lv_aload_n hx hb dL_law_256 rfl (lv_at hl 0 rfl) ?_
          refine lv_iload hx hb dL_law_257 (lv_at hl 4 rfl) ?_
          refine lv_iconst (v := 1) hx hb dL_law_259 (by decide) ?_
          refine lv_iadd hx hb dL_law_260 ?_
          refine zr_sldk hx hb hX hbl hbA hS 1 (by decide) (by omega) hL dL_law_261 ?_
          refine lv_aload_n hx hb dL_law_262 rfl (lv_at hl 0 rfl) ?_
          refine lv_iload hx hb dL_law_263 (lv_at hl 4 rfl) ?_
          refine lv_iconst (v := 2) hx hb dL_law_265 (by decide) ?_
          refine lv_iadd hx hb dL_law_266 ?_
          refine zr_sldk hx hb hX hbl hbA hS 2 (by decide) (by omega) hL dL_law_267 ?_
          refine lv_i2l hx hb dL_law_268 rfl ?_
          refine lv_bipush (v := 32) hx hb dL_law_269 (by decide) ?_
          refine lv_lshl hx hb dL_law_271 rfl ?_
          refine lv_aload_n hx hb dL_law_272 rfl (lv_at hl 0 rfl) ?_
          refine lv_iload hx hb dL_law_273 (lv_at hl 4 rfl) ?_
          refine lv_iconst (v := 3) hx hb dL_law_275 (by decide) ?_
          refine lv_iadd hx hb dL_law_276 ?_
          refine zr_sldk hx hb hX hbl hbA hS 3 (by decide) (by omega) hL dL_law_277 ?_
          refine lv_i2l hx hb dL_law_278 rfl ?_
          refine lv_ldc2 (v := 4294967295) hx hb hown (hts _ mcl_75) dL_law_279 ?_
          refine lv_land hx hb dL_law_282 ?_
          refine lv_lor hx hb dL_law_283 ?_
          refine lv_aload_n hx hb dL_law_284 rfl (lv_at hl 0 rfl) ?_
          refine lv_iload hx hb dL_law_285 (lv_at hl 4 rfl) ?_
          refine lv_iconst (v := 4) hx hb dL_law_287 (by decide) ?_
          refine lv_iadd hx hb dL_law_288 ?_
          refine zr_sldk hx hb hX hbl hbA hS 4 (by decide) (by omega) hL dL_law_289 ?_
          refine lv_aload_n hx hb dL_law_290 rfl (lv_at hl 3 rfl) ?_
          have hFc := va_free (wc := (wL n a ca qo co (u, f))) hD hS hA [0, 1, 2, 3, 4, 5, 13] rfl
          refine zf_i (mc := 2) (ms := 12) (σ := StC × (Nat → Int64)) (tys1 := fun _ => (tC ca ++ [(co, .long)])) (w1 := fun z => wL n a ca qo co z) (w0 := (wL n a ca qo co (u, f))) (wr := (wM n a2 ca2 v)) (vx_runSW (As := [.ref (a 0), .int (xs (1 + 5 * t + 1)), .long ((((xs (1 + 5 * t + 2)).toInt64) <<< ((32 : Int32).toInt64 &&& 63)) ||| (((xs (1 + 5 * t + 3)).toInt64) &&& 4294967295)), .int (xs (1 + 5 * t + 4)), .ref qo]) (rest := []) ⟨hx, hb, hml, hown, hts⟩ (c_L_cut l hl9 sa dC dI n a ca u qo co f H.size (xs (1 + 5 * t + 1)) ((((xs (1 + 5 * t + 2)).toInt64) <<< ((32 : Int32).toInt64 &&& 63)) ||| (((xs (1 + 5 * t + 3)).toInt64) &&& 4294967295)) (xs (1 + 5 * t + 4)) hn hn0 hR.1.ok) (vx_cwSW 5 hts gL_law_L_cut rfl rfl rfl (by decide +kernel) ⟨Nat.le_of_ble_eq_true rfl, Nat.le_of_ble_eq_true rfl⟩) ⟨fun a U g mk q => ⟨q.1, ⟨q.2.1.1, q.2.1.2.1, va_K.moved (u := U) (U := U.calling g mk a) (Vm.Alike.refl U.vm) q.2.1.2.2.1, q.2.1.2.2.2⟩, q.2.2.1.call, q.2.2.2.to (U := U.calling g mk a) (Vm.Alike.refl U.vm)⟩, fun U hU hW => ⟨rfl, (zr_pre (As := [.ref (a 0)]) (hK.sub (tys' := (tC ca ++ [(co, .long)])) [0, 1, 2, 3, 4, 11] rfl) (hP.sub (ws' := (wL n a ca qo co (u, f))) [0, 1, 2, 3, 4, 5, 13] rfl) (hD.sub (ws' := (wL n a ca qo co (u, f))) [0, 1, 2, 3, 4, 5, 13] (by decide) rfl) U hU hW).2, hE.to hW (fun q h1 h2 => by rw [hU]; exact hS.2.1 q h1 h2) hFc, hC.to hW.alike⟩⟩ rfl rfl hl.1 rfl (lv_room (Nat.le_of_ble_eq_true rfl)) dL_law_291 ⟨by show _ ≤ 648629; omega, by show _ ≤ 7150182; omega⟩) hP hD hS hA [0, 1, 2, 3, 4, 5, 13] [6, 7, 8, 9, 10, 11, 12] rfl rfl (by decide) (by decide) (fun r5 z5 H locs hp hP hD _ hS => ?_)
          refine W.widen (k := 14 + 2 * (t + 1)) (n := 265 + 12 * (t + 1)) (by omega) (by omega) ?_
          have hP : va_P (dC, dI) vwCl (wA n a ca a2 ca2 qo co (z5.1, v, z5.2)) H := hP.sub (ws' := (wA n a ca a2 ca2 qo co (z5.1, v, z5.2))) [7, 8, 9, 10, 11, 12, 0, 1, 2, 3, 4, 5, 6, 13] rfl
          have hD : va_D A (wA n a ca a2 ca2 qo co (z5.1, v, z5.2)) := hD.sub (ws' := (wA n a ca a2 ca2 qo co (z5.1, v, z5.2))) [7, 8, 9, 10, 11, 12, 0, 1, 2, 3, 4, 5, 6, 13] (by decide) rfl
          refine lv_istore hx hb dL_law_294 hl (by decide) rfl (fun ls hl => ?_)
          have hl : lv_has ls 8 [(5, .int r5), (0, .ref b), (1, .ref (a 0)), (2, .ref (a2 0)), (3, .ref qo), (4, .int (nI (1 + 5 * t)))] := hl
          refine lv_aload_n hx hb dL_law_296 rfl (lv_at hl 3 rfl) ?_
          refine lv_aload_n hx hb dL_law_297 rfl (lv_at hl 1 rfl) ?_
          refine lv_iload hx hb dL_law_298 (lv_at hl 5 rfl) ?_
          refine lv_iconst (v := 1) hx hb dL_law_300 (by decide) ?_
          refine lv_iadd hx hb dL_law_301 ?_
          refine zr_sldk hx hb hX hbl hbA hS 1 (by decide) (by omega) hL dL_law_302 ?_
          refine lv_aload_n hx hb dL_law_303 rfl (lv_at hl 1 rfl) ?_
          refine lv_iload hx hb dL_law_304 (lv_at hl 5 rfl) ?_
          refine lv_iconst (v := 2) hx hb dL_law_306 (by decide) ?_
          refine lv_iadd hx hb dL_law_307 ?_
          refine zr_sldk hx hb hX hbl hbA hS 2 (by decide) (by omega) hL dL_law_308 ?_
          refine lv_i2l hx hb dL_law_309 rfl ?_
          refine lv_bipush (v := 32) hx hb dL_law_310 (by decide) ?_
          refine lv_lshl hx hb dL_law_312 rfl ?_
          refine lv_aload_n hx hb dL_law_313 rfl (lv_at hl 1 rfl) ?_
          refine lv_iload hx hb dL_law_314 (lv_at hl 5 rfl) ?_
          refine lv_iconst (v := 3) hx hb dL_law_316 (by decide) ?_
          refine lv_iadd hx hb dL_law_317 ?_
          refine zr_sldk hx hb hX hbl hbA hS 3 (by decide) (by omega) hL dL_law_318 ?_
          refine lv_i2l hx hb dL_law_319 rfl ?_
          refine lv_ldc2 (v := 4294967295) hx hb hown (hts _ mcl_75) dL_law_320 ?_
          refine lv_land hx hb dL_law_323 ?_
          refine lv_lor hx hb dL_law_324 ?_
          refine lv_aload_n hx hb dL_law_325 rfl (lv_at hl 1 rfl) ?_
          refine lv_iload hx hb dL_law_326 (lv_at hl 5 rfl) ?_
          refine lv_iconst (v := 4) hx hb dL_law_328 (by decide) ?_
          refine lv_iadd hx hb dL_law_329 ?_
          refine zr_sldk hx hb hX hbl hbA hS 4 (by decide) (by omega) hL dL_law_330 ?_
          refine zf_i (mc := 0) (ms := 0) (σ := StM) (tys1 := fun _ => tM ca2) (w1 := fun z => wM n a2 ca2 z) (w0 := (wM n a2 ca2 v)) (wr := (wC n a ca z5.1 ++ [(qo, .inl (co, 1, .inr (.inl z5.2)))])) (va_runV (As := [.int (xs (1 + 5 * t + 1)), .long ((((xs (1 + 5 * t + 2)).toInt64) <<< ((32 : Int32).toInt64 &&& 63)) ||| (((xs (1 + 5 * t + 3)).toInt64) &&& 4294967295)), .int (xs (1 + 5 * t + 4))]) (rest := []) ⟨hx, hb, hml, hown, hts⟩ (c_M_cut l dC dI n a2 ca2 v H.size (xs (1 + 5 * t + 1)) ((((xs (1 + 5 * t + 2)).toInt64) <<< ((32 : Int32).toInt64 &&& 63)) ||| (((xs (1 + 5 * t + 3)).toInt64) &&& 4294967295)) (xs (1 + 5 * t + 4)) hn hn0 (okM_of hR.1)) (cwV 3 hts gL_law_X1_cut rfl rfl rfl (by decide +kernel) ⟨Nat.le_of_ble_eq_true rfl, Nat.le_of_ble_eq_true rfl⟩) ⟨zr_blind, (va_recv (q0 := 6) (ci := 1) (q := (RX1, TX1, 15)) hK hP rfl rfl), zr_pre (hK.sub (tys' := tM ca2) [5, 6, 7, 8, 9, 10] rfl) (hP.sub (ws' := (wM n a2 ca2 v)) [6, 7, 8, 9, 10, 11, 12] rfl) (hD.sub (ws' := (wM n a2 ca2 v)) [6, 7, 8, 9, 10, 11, 12] (by decide) rfl)⟩ rfl rfl hl.1 rfl (lv_room (Nat.le_of_ble_eq_true rfl)) dL_law_331 ⟨by show _ ≤ 648629; omega, by show _ ≤ 7150182; omega⟩) hP hD hS hA [6, 7, 8, 9, 10, 11, 12] [0, 1, 2, 3, 4, 5, 13] rfl rfl (by decide) (by decide) (fun r9 z9 H locs hp9 hP hD _ hS => ?_)
          obtain ⟨hr9, hz9⟩ := hp9
          subst hr9
          have hz9 : (fm_cut n v (xs (1 + 5 * t + 1)) ((((xs (1 + 5 * t + 2)).toInt64) <<< ((32 : Int32).toInt64 &&& 63)) ||| (((xs (1 + 5 * t + 3)).toInt64) &&& 4294967295)) (xs (1 + 5 * t + 4))).2 = z9 := hz9.symm
          subst hz9
          have hP : va_P (dC, dI) vwCl (wA n a ca a2 ca2 qo co (z5.1, (fm_cut n v (xs (1 + 5 * t + 1)) ((((xs (1 + 5 * t + 2)).toInt64) <<< ((32 : Int32).toInt64 &&& 63)) ||| (((xs (1 + 5 * t + 3)).toInt64) &&& 4294967295)) (xs (1 + 5 * t + 4))).2, z5.2)) H := hP.sub (ws' := (wA n a ca a2 ca2 qo co (z5.1, (fm_cut n v (xs (1 + 5 * t + 1)) ((((xs (1 + 5 * t + 2)).toInt64) <<< ((32 : Int32).toInt64 &&& 63)) ||| (((xs (1 + 5 * t + 3)).toInt64) &&& 4294967295)) (xs (1 + 5 * t + 4))).2, z5.2))) [0, 1, 2, 3, 4, 5, 7, 8, 9, 10, 11, 12, 13, 6] rfl
          have hD : va_D A (wA n a ca a2 ca2 qo co (z5.1, (fm_cut n v (xs (1 + 5 * t + 1)) ((((xs (1 + 5 * t + 2)).toInt64) <<< ((32 : Int32).toInt64 &&& 63)) ||| (((xs (1 + 5 * t + 3)).toInt64) &&& 4294967295)) (xs (1 + 5 * t + 4))).2, z5.2)) := hD.sub (ws' := (wA n a ca a2 ca2 qo co (z5.1, (fm_cut n v (xs (1 + 5 * t + 1)) ((((xs (1 + 5 * t + 2)).toInt64) <<< ((32 : Int32).toInt64 &&& 63)) ||| (((xs (1 + 5 * t + 3)).toInt64) &&& 4294967295)) (xs (1 + 5 * t + 4))).2, z5.2))) [0, 1, 2, 3, 4, 5, 7, 8, 9, 10, 11, 12, 13, 6] (by decide) rfl
          obtain ⟨hq1, hq2, hR⟩ := law_cut hn0 hn hR (by omega) (xs (1 + 5 * t + 1)) ((((xs (1 + 5 * t + 2)).toInt64) <<< ((32 : Int32).toInt64 &&& 63)) ||| (((xs (1 + 5 * t + 3)).toInt64) &&& 4294967295)) (xs (1 + 5 * t + 4)) hp
          have hR : rR n (2 * (t + 1)) z5.1 ((fm_cut n v (xs (1 + 5 * t + 1)) ((((xs (1 + 5 * t + 2)).toInt64) <<< ((32 : Int32).toInt64 &&& 63)) ||| (((xs (1 + 5 * t + 3)).toInt64) &&& 4294967295)) (xs (1 + 5 * t + 4))).2) := hR.up (by omega)
          refine lv_istore hx hb dL_law_334 hl (by decide) rfl (fun ls hl => ?_)
          have hl : lv_has ls 8 [(6, .int ((fm_cut n v (xs (1 + 5 * t + 1)) ((((xs (1 + 5 * t + 2)).toInt64) <<< ((32 : Int32).toInt64 &&& 63)) ||| (((xs (1 + 5 * t + 3)).toInt64) &&& 4294967295)) (xs (1 + 5 * t + 4))).1)), (5, .int r5), (0, .ref b), (1, .ref (a 0)), (2, .ref (a2 0)), (3, .ref qo), (4, .int (nI (1 + 5 * t)))] := hl
          refine lv_aload_n hx hb dL_law_336 rfl (lv_at hl 4 rfl) ?_
          refine zf_i (mc := 0) (ms := 0) (σ := StM) (tys1 := fun _ => tM ca2) (w1 := fun z => wM n a2 ca2 z) (w0 := (wM n a2 ca2 ((fm_cut n v (xs (1 + 5 * t + 1)) ((((xs (1 + 5 * t + 2)).toInt64) <<< ((32 : Int32).toInt64 &&& 63)) ||| (((xs (1 + 5 * t + 3)).toInt64) &&& 4294967295)) (xs (1 + 5 * t + 4))).2))) (wr := (wC n a ca z5.1 ++ [(qo, .inl (co, 1, .inr (.inl z5.2)))])) (va_runV (As := []) (rest := []) ⟨hx, hb, hml, hown, hts⟩ (c_M_thrown l dC dI n a2 ca2 ((fm_cut n v (xs (1 + 5 * t + 1)) ((((xs (1 + 5 * t + 2)).toInt64) <<< ((32 : Int32).toInt64 &&& 63)) ||| (((xs (1 + 5 * t + 3)).toInt64) &&& 4294967295)) (xs (1 + 5 * t + 4))).2) H.size ) (cwV 0 hts gL_law_X1_thrown rfl rfl rfl (by decide +kernel) ⟨Nat.le_of_ble_eq_true rfl, Nat.le_of_ble_eq_true rfl⟩) ⟨zr_blind, (va_recv (q0 := 6) (ci := 1) (q := (RX1, TX1, 15)) hK hP rfl rfl), zr_pre (hK.sub (tys' := tM ca2) [5, 6, 7, 8, 9, 10] rfl) (hP.sub (ws' := (wM n a2 ca2 ((fm_cut n v (xs (1 + 5 * t + 1)) ((((xs (1 + 5 * t + 2)).toInt64) <<< ((32 : Int32).toInt64 &&& 63)) ||| (((xs (1 + 5 * t + 3)).toInt64) &&& 4294967295)) (xs (1 + 5 * t + 4))).2))) [6, 7, 8, 9, 10, 11, 12] rfl) (hD.sub (ws' := (wM n a2 ca2 ((fm_cut n v (xs (1 + 5 * t + 1)) ((((xs (1 + 5 * t + 2)).toInt64) <<< ((32 : Int32).toInt64 &&& 63)) ||| (((xs (1 + 5 * t + 3)).toInt64) &&& 4294967295)) (xs (1 + 5 * t + 4))).2))) [6, 7, 8, 9, 10, 11, 12] (by decide) rfl)⟩ rfl rfl hl.1 rfl (lv_room (Nat.le_of_ble_eq_true rfl)) dL_law_337 ⟨by show _ ≤ 648629; omega, by show _ ≤ 7150182; omega⟩) hP hD hS hA [6, 7, 8, 9, 10, 11, 12] [0, 1, 2, 3, 4, 5, 13] rfl rfl (by decide) (by decide) (fun r9 z9 H locs hp9 hP hD _ hS => ?_)
          obtain ⟨hr9, hz9⟩ := hp9
          subst hr9
          have hz9 : ((fm_cut n v (xs (1 + 5 * t + 1)) ((((xs (1 + 5 * t + 2)).toInt64) <<< ((32 : Int32).toInt64 &&& 63)) ||| (((xs (1 + 5 * t + 3)).toInt64) &&& 4294967295)) (xs (1 + 5 * t + 4))).2) = z9 := hz9.symm
          subst hz9
          have hP : va_P (dC, dI) vwCl (wA n a ca a2 ca2 qo co (z5.1, (fm_cut n v (xs (1 + 5 * t + 1)) ((((xs (1 + 5 * t + 2)).toInt64) <<< ((32 : Int32).toInt64 &&& 63)) ||| (((xs (1 + 5 * t + 3)).toInt64) &&& 4294967295)) (xs (1 + 5 * t + 4))).2, z5.2)) H := hP.sub (ws' := (wA n a ca a2 ca2 qo co (z5.1, (fm_cut n v (xs (1 + 5 * t + 1)) ((((xs (1 + 5 * t + 2)).toInt64) <<< ((32 : Int32).toInt64 &&& 63)) ||| (((xs (1 + 5 * t + 3)).toInt64) &&& 4294967295)) (xs (1 + 5 * t + 4))).2, z5.2))) [0, 1, 2, 3, 4, 5, 7, 8, 9, 10, 11, 12, 13, 6] rfl
          have hD : va_D A (wA n a ca a2 ca2 qo co (z5.1, (fm_cut n v (xs (1 + 5 * t + 1)) ((((xs (1 + 5 * t + 2)).toInt64) <<< ((32 : Int32).toInt64 &&& 63)) ||| (((xs (1 + 5 * t + 3)).toInt64) &&& 4294967295)) (xs (1 + 5 * t + 4))).2, z5.2)) := hD.sub (ws' := (wA n a ca a2 ca2 qo co (z5.1, (fm_cut n v (xs (1 + 5 * t + 1)) ((((xs (1 + 5 * t + 2)).toInt64) <<< ((32 : Int32).toInt64 &&& 63)) ||| (((xs (1 + 5 * t + 3)).toInt64) &&& 4294967295)) (xs (1 + 5 * t + 4))).2, z5.2))) [0, 1, 2, 3, 4, 5, 7, 8, 9, 10, 11, 12, 13, 6] (by decide) rfl
          refine lv_iload hx hb dL_law_340 (lv_at hl 1 rfl) ?_
          refine lv_icmp_eq hx hb dL_law_342 (tgt := 347) rfl (fun _ => ?_) (fun h => absurd hq1 h)
          refine lv_iload hx hb dL_law_347 (lv_at hl 1 rfl) ?_
          refine lv_if_ne hx hb dL_law_349 (tgt := 364) rfl (fun _ => ?_) (fun hk0 => ?_)
          · refine lv_goto hx hb dL_law_364 (tgt := 860) rfl ?_
            refine lv_iinc (k := 6) (v := nI (1 + 5 * (t + 1))) hx hb dL_law_860 hl rfl (by rw [show Int32.ofInt 5 = nI 5 by decide, nI_add]; exact congrArg nI (by omega)) (by decide) rfl (fun ls hl => ?_)
            have hl : lv_has ls 8 [(4, .int (nI (1 + 5 * (t + 1)))), (6, .int ((fm_cut n v (xs (1 + 5 * t + 1)) ((((xs (1 + 5 * t + 2)).toInt64) <<< ((32 : Int32).toInt64 &&& 63)) ||| (((xs (1 + 5 * t + 3)).toInt64) &&& 4294967295)) (xs (1 + 5 * t + 4))).1)), (5, .int r5), (0, .ref b), (1, .ref (a 0)), (2, .ref (a2 0)), (3, .ref qo)] := hl
            refine lv_goto hx hb dL_law_863 (tgt := 33) rfl ?_
            exact ih r' (t + 1, z5.1, (fm_cut n v (xs (1 + 5 * t + 1)) ((((xs (1 + 5 * t + 2)).toInt64) <<< ((32 : Int32).toInt64 &&& 63)) ||| (((xs (1 + 5 * t + 3)).toInt64) &&& 4294967295)) (xs (1 + 5 * t + 4))).2, z5.2) _ _ _ (by omega) ⟨by show r' + (t + 1) = 512; omega, hR, lv_sub hl [3, 4, 5, 6, 0] rfl, hP, hD, hS⟩
          · refine lv_aload_n hx hb dL_law_352 rfl (lv_at hl 5 rfl) ?_
            refine lv_iconst (v := 0) hx hb dL_law_353 (by decide) ?_
            refine zr_lald (k := 0) hx hb hK hP 13 11 rfl rfl (by decide) (by decide) dL_law_354 ?_
            refine lv_iload hx hb dL_law_355 (lv_at hl 0 rfl) ?_
            refine lv_i2l hx hb dL_law_357 rfl ?_
            refine W.lcmp hx hb dL_law_358 ?_
            refine lv_if_eq hx hb dL_law_359 (tgt := 364) rfl (fun _ => ?_) (fun h => absurd ((lg_cmp_eq _ _).mpr (hq2 hk0)) h)
            refine lv_goto hx hb dL_law_364 (tgt := 860) rfl ?_
            refine lv_iinc (k := 6) (v := nI (1 + 5 * (t + 1))) hx hb dL_law_860 hl rfl (by rw [show Int32.ofInt 5 = nI 5 by decide, nI_add]; exact congrArg nI (by omega)) (by decide) rfl (fun ls hl => ?_)
            have hl : lv_has ls 8 [(4, .int (nI (1 + 5 * (t + 1)))), (6, .int ((fm_cut n v (xs (1 + 5 * t + 1)) ((((xs (1 + 5 * t + 2)).toInt64) <<< ((32 : Int32).toInt64 &&& 63)) ||| (((xs (1 + 5 * t + 3)).toInt64) &&& 4294967295)) (xs (1 + 5 * t + 4))).1)), (5, .int r5), (0, .ref b), (1, .ref (a 0)), (2, .ref (a2 0)), (3, .ref qo)] := hl
            refine lv_goto hx hb dL_law_863 (tgt := 33) rfl ?_
            exact ih r' (t + 1, z5.1, (fm_cut n v (xs (1 + 5 * t + 1)) ((((xs (1 + 5 * t + 2)).toInt64) <<< ((32 : Int32).toInt64 &&& 63)) ||| (((xs (1 + 5 * t + 3)).toInt64) &&& 4294967295)) (xs (1 + 5 * t + 4))).2, z5.2) _ _ _ (by omega) ⟨by show r' + (t + 1) = 512; omega, hR, lv_sub hl [3, 4, 5, 6, 0] rfl, hP, hD, hS⟩
        · rcases Classical.em (y0 = 3) with e3 | e3
          · refine lv_tableIn (off := 318) (tgt := 367) hx hb dL_law_49 (by rw [e3]; decide) (by rw [e3]; decide) (by rw [e3]; decide) rfl ?_
            refine lv_aload_n hx hb dL_law_367 rfl (lv_at hl 1 rfl) ?_
            refine lv_aload_n hx hb dL_law_368 rfl (lv_at hl 0 rfl) ?_
            refine lv_iload hx hb dL_law_369 (lv_at hl 4 rfl) ?_
            refine lv_iconst (v := 1) hx hb dL_law_371 (by decide) ?_
            refine lv_iadd hx hb dL_law_372 ?_
            refine zr_sldk hx hb hX hbl hbA hS 1 (by decide) (by omega) hL dL_law_373 ?_
            refine lv_aload_n hx hb dL_law_374 rfl (lv_at hl 3 rfl) ?_
            have hFc := va_free (wc := (wL n a ca qo co (u, f))) hD hS hA [0, 1, 2, 3, 4, 5, 13] rfl
            refine zf_i (mc := 1) (ms := 6) (σ := StC × (Nat → Int64)) (tys1 := fun _ => (tC ca ++ [(co, .long)])) (w1 := fun z => wL n a ca qo co z) (w0 := (wL n a ca qo co (u, f))) (wr := (wM n a2 ca2 v)) (vx_runSW (As := [.ref (a 0), .int (xs (1 + 5 * t + 1)), .ref qo]) (rest := []) ⟨hx, hb, hml, hown, hts⟩ (c_L_mode l hl9 sa dC dI n a ca u qo co f H.size (xs (1 + 5 * t + 1)) hn hR.1.ok) (vx_cwSW 3 hts gL_law_L_mode rfl rfl rfl (by decide +kernel) ⟨Nat.le_of_ble_eq_true rfl, Nat.le_of_ble_eq_true rfl⟩) ⟨fun a U g mk q => ⟨q.1, ⟨q.2.1.1, q.2.1.2.1, va_K.moved (u := U) (U := U.calling g mk a) (Vm.Alike.refl U.vm) q.2.1.2.2.1, q.2.1.2.2.2⟩, q.2.2.1.call, q.2.2.2.to (U := U.calling g mk a) (Vm.Alike.refl U.vm)⟩, fun U hU hW => ⟨rfl, (zr_pre (As := [.ref (a 0)]) (hK.sub (tys' := (tC ca ++ [(co, .long)])) [0, 1, 2, 3, 4, 11] rfl) (hP.sub (ws' := (wL n a ca qo co (u, f))) [0, 1, 2, 3, 4, 5, 13] rfl) (hD.sub (ws' := (wL n a ca qo co (u, f))) [0, 1, 2, 3, 4, 5, 13] (by decide) rfl) U hU hW).2, hE.to hW (fun q h1 h2 => by rw [hU]; exact hS.2.1 q h1 h2) hFc, hC.to hW.alike⟩⟩ rfl rfl hl.1 rfl (lv_room (Nat.le_of_ble_eq_true rfl)) dL_law_375 ⟨by show _ ≤ 648629; omega, by show _ ≤ 7150182; omega⟩) hP hD hS hA [0, 1, 2, 3, 4, 5, 13] [6, 7, 8, 9, 10, 11, 12] rfl rfl (by decide) (by decide) (fun r5 z5 H locs hp hP hD _ hS => ?_)
            refine W.widen (k := 14 + 2 * (t + 1)) (n := 265 + 12 * (t + 1)) (by omega) (by omega) ?_
            have hP : va_P (dC, dI) vwCl (wA n a ca a2 ca2 qo co (z5.1, v, z5.2)) H := hP.sub (ws' := (wA n a ca a2 ca2 qo co (z5.1, v, z5.2))) [7, 8, 9, 10, 11, 12, 0, 1, 2, 3, 4, 5, 6, 13] rfl
            have hD : va_D A (wA n a ca a2 ca2 qo co (z5.1, v, z5.2)) := hD.sub (ws' := (wA n a ca a2 ca2 qo co (z5.1, v, z5.2))) [7, 8, 9, 10, 11, 12, 0, 1, 2, 3, 4, 5, 6, 13] (by decide) rfl
            refine lv_istore hx hb dL_law_378 hl (by decide) rfl (fun ls hl => ?_)
            have hl : lv_has ls 8 [(5, .int r5), (0, .ref b), (1, .ref (a 0)), (2, .ref (a2 0)), (3, .ref qo), (4, .int (nI (1 + 5 * t)))] := hl
            refine lv_aload_n hx hb dL_law_380 rfl (lv_at hl 3 rfl) ?_
            refine lv_aload_n hx hb dL_law_381 rfl (lv_at hl 1 rfl) ?_
            refine lv_iload hx hb dL_law_382 (lv_at hl 5 rfl) ?_
            refine lv_iconst (v := 1) hx hb dL_law_384 (by decide) ?_
            refine lv_iadd hx hb dL_law_385 ?_
            refine zr_sldk hx hb hX hbl hbA hS 1 (by decide) (by omega) hL dL_law_386 ?_
            refine zf_i (mc := 0) (ms := 0) (σ := StM) (tys1 := fun _ => tM ca2) (w1 := fun z => wM n a2 ca2 z) (w0 := (wM n a2 ca2 v)) (wr := (wC n a ca z5.1 ++ [(qo, .inl (co, 1, .inr (.inl z5.2)))])) (va_runV (As := [.int (xs (1 + 5 * t + 1))]) (rest := []) ⟨hx, hb, hml, hown, hts⟩ (c_M_mode l dC dI n a2 ca2 v H.size (xs (1 + 5 * t + 1)) hn (okM_of hR.1)) (cwV 1 hts gL_law_X1_mode rfl rfl rfl (by decide +kernel) ⟨Nat.le_of_ble_eq_true rfl, Nat.le_of_ble_eq_true rfl⟩) ⟨zr_blind, (va_recv (q0 := 6) (ci := 1) (q := (RX1, TX1, 15)) hK hP rfl rfl), zr_pre (hK.sub (tys' := tM ca2) [5, 6, 7, 8, 9, 10] rfl) (hP.sub (ws' := (wM n a2 ca2 v)) [6, 7, 8, 9, 10, 11, 12] rfl) (hD.sub (ws' := (wM n a2 ca2 v)) [6, 7, 8, 9, 10, 11, 12] (by decide) rfl)⟩ rfl rfl hl.1 rfl (lv_room (Nat.le_of_ble_eq_true rfl)) dL_law_387 ⟨by show _ ≤ 648629; omega, by show _ ≤ 7150182; omega⟩) hP hD hS hA [6, 7, 8, 9, 10, 11, 12] [0, 1, 2, 3, 4, 5, 13] rfl rfl (by decide) (by decide) (fun r9 z9 H locs hp9 hP hD _ hS => ?_)
            obtain ⟨hr9, hz9⟩ := hp9
            subst hr9
            have hz9 : (fm_mode n v (xs (1 + 5 * t + 1))).2 = z9 := hz9.symm
            subst hz9
            have hP : va_P (dC, dI) vwCl (wA n a ca a2 ca2 qo co (z5.1, (fm_mode n v (xs (1 + 5 * t + 1))).2, z5.2)) H := hP.sub (ws' := (wA n a ca a2 ca2 qo co (z5.1, (fm_mode n v (xs (1 + 5 * t + 1))).2, z5.2))) [0, 1, 2, 3, 4, 5, 7, 8, 9, 10, 11, 12, 13, 6] rfl
            have hD : va_D A (wA n a ca a2 ca2 qo co (z5.1, (fm_mode n v (xs (1 + 5 * t + 1))).2, z5.2)) := hD.sub (ws' := (wA n a ca a2 ca2 qo co (z5.1, (fm_mode n v (xs (1 + 5 * t + 1))).2, z5.2))) [0, 1, 2, 3, 4, 5, 7, 8, 9, 10, 11, 12, 13, 6] (by decide) rfl
            obtain ⟨hq1, hq2, hR⟩ := law_mode hR (xs (1 + 5 * t + 1)) hp
            have hR : rR n (2 * (t + 1)) z5.1 ((fm_mode n v (xs (1 + 5 * t + 1))).2) := hR.up (by omega)
            refine lv_istore hx hb dL_law_390 hl (by decide) rfl (fun ls hl => ?_)
            have hl : lv_has ls 8 [(6, .int ((fm_mode n v (xs (1 + 5 * t + 1))).1)), (5, .int r5), (0, .ref b), (1, .ref (a 0)), (2, .ref (a2 0)), (3, .ref qo), (4, .int (nI (1 + 5 * t)))] := hl
            refine lv_aload_n hx hb dL_law_392 rfl (lv_at hl 4 rfl) ?_
            refine zf_i (mc := 0) (ms := 0) (σ := StM) (tys1 := fun _ => tM ca2) (w1 := fun z => wM n a2 ca2 z) (w0 := (wM n a2 ca2 ((fm_mode n v (xs (1 + 5 * t + 1))).2))) (wr := (wC n a ca z5.1 ++ [(qo, .inl (co, 1, .inr (.inl z5.2)))])) (va_runV (As := []) (rest := []) ⟨hx, hb, hml, hown, hts⟩ (c_M_thrown l dC dI n a2 ca2 ((fm_mode n v (xs (1 + 5 * t + 1))).2) H.size ) (cwV 0 hts gL_law_X1_thrown rfl rfl rfl (by decide +kernel) ⟨Nat.le_of_ble_eq_true rfl, Nat.le_of_ble_eq_true rfl⟩) ⟨zr_blind, (va_recv (q0 := 6) (ci := 1) (q := (RX1, TX1, 15)) hK hP rfl rfl), zr_pre (hK.sub (tys' := tM ca2) [5, 6, 7, 8, 9, 10] rfl) (hP.sub (ws' := (wM n a2 ca2 ((fm_mode n v (xs (1 + 5 * t + 1))).2))) [6, 7, 8, 9, 10, 11, 12] rfl) (hD.sub (ws' := (wM n a2 ca2 ((fm_mode n v (xs (1 + 5 * t + 1))).2))) [6, 7, 8, 9, 10, 11, 12] (by decide) rfl)⟩ rfl rfl hl.1 rfl (lv_room (Nat.le_of_ble_eq_true rfl)) dL_law_393 ⟨by show _ ≤ 648629; omega, by show _ ≤ 7150182; omega⟩) hP hD hS hA [6, 7, 8, 9, 10, 11, 12] [0, 1, 2, 3, 4, 5, 13] rfl rfl (by decide) (by decide) (fun r9 z9 H locs hp9 hP hD _ hS => ?_)
            obtain ⟨hr9, hz9⟩ := hp9
            subst hr9
            have hz9 : ((fm_mode n v (xs (1 + 5 * t + 1))).2) = z9 := hz9.symm
            subst hz9
            have hP : va_P (dC, dI) vwCl (wA n a ca a2 ca2 qo co (z5.1, (fm_mode n v (xs (1 + 5 * t + 1))).2, z5.2)) H := hP.sub (ws' := (wA n a ca a2 ca2 qo co (z5.1, (fm_mode n v (xs (1 + 5 * t + 1))).2, z5.2))) [0, 1, 2, 3, 4, 5, 7, 8, 9, 10, 11, 12, 13, 6] rfl
            have hD : va_D A (wA n a ca a2 ca2 qo co (z5.1, (fm_mode n v (xs (1 + 5 * t + 1))).2, z5.2)) := hD.sub (ws' := (wA n a ca a2 ca2 qo co (z5.1, (fm_mode n v (xs (1 + 5 * t + 1))).2, z5.2))) [0, 1, 2, 3, 4, 5, 7, 8, 9, 10, 11, 12, 13, 6] (by decide) rfl
            refine lv_iload hx hb dL_law_396 (lv_at hl 1 rfl) ?_
            refine lv_icmp_eq hx hb dL_law_398 (tgt := 403) rfl (fun _ => ?_) (fun h => absurd hq1 h)
            refine lv_iload hx hb dL_law_403 (lv_at hl 1 rfl) ?_
            refine lv_if_ne hx hb dL_law_405 (tgt := 420) rfl (fun _ => ?_) (fun hk0 => ?_)
            · refine lv_goto hx hb dL_law_420 (tgt := 860) rfl ?_
              refine lv_iinc (k := 6) (v := nI (1 + 5 * (t + 1))) hx hb dL_law_860 hl rfl (by rw [show Int32.ofInt 5 = nI 5 by decide, nI_add]; exact congrArg nI (by omega)) (by decide) rfl (fun ls hl => ?_)
              have hl : lv_has ls 8 [(4, .int (nI (1 + 5 * (t + 1)))), (6, .int ((fm_mode n v (xs (1 + 5 * t + 1))).1)), (5, .int r5), (0, .ref b), (1, .ref (a 0)), (2, .ref (a2 0)), (3, .ref qo)] := hl
              refine lv_goto hx hb dL_law_863 (tgt := 33) rfl ?_
              exact ih r' (t + 1, z5.1, (fm_mode n v (xs (1 + 5 * t + 1))).2, z5.2) _ _ _ (by omega) ⟨by show r' + (t + 1) = 512; omega, hR, lv_sub hl [3, 4, 5, 6, 0] rfl, hP, hD, hS⟩
            · refine lv_aload_n hx hb dL_law_408 rfl (lv_at hl 5 rfl) ?_
              refine lv_iconst (v := 0) hx hb dL_law_409 (by decide) ?_
              refine zr_lald (k := 0) hx hb hK hP 13 11 rfl rfl (by decide) (by decide) dL_law_410 ?_
              refine lv_iload hx hb dL_law_411 (lv_at hl 0 rfl) ?_
              refine lv_i2l hx hb dL_law_413 rfl ?_
              refine W.lcmp hx hb dL_law_414 ?_
              refine lv_if_eq hx hb dL_law_415 (tgt := 420) rfl (fun _ => ?_) (fun h => absurd ((lg_cmp_eq _ _).mpr (hq2 hk0)) h)
              refine lv_goto hx hb dL_law_420 (tgt := 860) rfl ?_
              refine lv_iinc (k := 6) (v := nI (1 + 5 * (t + 1))) hx hb dL_law_860 hl rfl (by rw [show Int32.ofInt 5 = nI 5 by decide, nI_add]; exact congrArg nI (by omega)) (by decide) rfl (fun ls hl => ?_)
              have hl : lv_has ls 8 [(4, .int (nI (1 + 5 * (t + 1)))), (6, .int ((fm_mode n v (xs (1 + 5 * t + 1))).1)), (5, .int r5), (0, .ref b), (1, .ref (a 0)), (2, .ref (a2 0)), (3, .ref qo)] := hl
              refine lv_goto hx hb dL_law_863 (tgt := 33) rfl ?_
              exact ih r' (t + 1, z5.1, (fm_mode n v (xs (1 + 5 * t + 1))).2, z5.2) _ _ _ (by omega) ⟨by show r' + (t + 1) = 512; omega, hR, lv_sub hl [3, 4, 5, 6, 0] rfl, hP, hD, hS⟩
          · rcases Classical.em (y0 = 4) with e4 | e4
            · refine lv_tableIn (off := 374) (tgt := 423) hx hb dL_law_49 (by rw [e4]; decide) (by rw [e4]; decide) (by rw [e4]; decide) rfl ?_
              refine lv_aload_n hx hb dL_law_423 rfl (lv_at hl 1 rfl) ?_
              refine lv_aload_n hx hb dL_law_424 rfl (lv_at hl 0 rfl) ?_
              refine lv_iload hx hb dL_law_425 (lv_at hl 4 rfl) ?_
              refine lv_iconst (v := 1) hx hb dL_law_427 (by decide) ?_
              refine lv_iadd hx hb dL_law_428 ?_
              refine zr_sldk hx hb hX hbl hbA hS 1 (by decide) (by omega) hL dL_law_429 ?_
              refine lv_aload_n hx hb dL_law_430 rfl (lv_at hl 3 rfl) ?_
              have hFc := va_free (wc := (wL n a ca qo co (u, f))) hD hS hA [0, 1, 2, 3, 4, 5, 13] rfl
              refine zf_i (mc := 1) (ms := 6) (σ := StC × (Nat → Int64)) (tys1 := fun _ => (tC ca ++ [(co, .long)])) (w1 := fun z => wL n a ca qo co z) (w0 := (wL n a ca qo co (u, f))) (wr := (wM n a2 ca2 v)) (vx_runSW (As := [.ref (a 0), .int (xs (1 + 5 * t + 1)), .ref qo]) (rest := []) ⟨hx, hb, hml, hown, hts⟩ (c_L_back l hl9 sa dC dI n a ca u qo co f H.size (xs (1 + 5 * t + 1)) hn hR.1.ok) (vx_cwSW 3 hts gL_law_L_back rfl rfl rfl (by decide +kernel) ⟨Nat.le_of_ble_eq_true rfl, Nat.le_of_ble_eq_true rfl⟩) ⟨fun a U g mk q => ⟨q.1, ⟨q.2.1.1, q.2.1.2.1, va_K.moved (u := U) (U := U.calling g mk a) (Vm.Alike.refl U.vm) q.2.1.2.2.1, q.2.1.2.2.2⟩, q.2.2.1.call, q.2.2.2.to (U := U.calling g mk a) (Vm.Alike.refl U.vm)⟩, fun U hU hW => ⟨rfl, (zr_pre (As := [.ref (a 0)]) (hK.sub (tys' := (tC ca ++ [(co, .long)])) [0, 1, 2, 3, 4, 11] rfl) (hP.sub (ws' := (wL n a ca qo co (u, f))) [0, 1, 2, 3, 4, 5, 13] rfl) (hD.sub (ws' := (wL n a ca qo co (u, f))) [0, 1, 2, 3, 4, 5, 13] (by decide) rfl) U hU hW).2, hE.to hW (fun q h1 h2 => by rw [hU]; exact hS.2.1 q h1 h2) hFc, hC.to hW.alike⟩⟩ rfl rfl hl.1 rfl (lv_room (Nat.le_of_ble_eq_true rfl)) dL_law_431 ⟨by show _ ≤ 648629; omega, by show _ ≤ 7150182; omega⟩) hP hD hS hA [0, 1, 2, 3, 4, 5, 13] [6, 7, 8, 9, 10, 11, 12] rfl rfl (by decide) (by decide) (fun r5 z5 H locs hp hP hD _ hS => ?_)
              refine W.widen (k := 14 + 2 * (t + 1)) (n := 265 + 12 * (t + 1)) (by omega) (by omega) ?_
              have hP : va_P (dC, dI) vwCl (wA n a ca a2 ca2 qo co (z5.1, v, z5.2)) H := hP.sub (ws' := (wA n a ca a2 ca2 qo co (z5.1, v, z5.2))) [7, 8, 9, 10, 11, 12, 0, 1, 2, 3, 4, 5, 6, 13] rfl
              have hD : va_D A (wA n a ca a2 ca2 qo co (z5.1, v, z5.2)) := hD.sub (ws' := (wA n a ca a2 ca2 qo co (z5.1, v, z5.2))) [7, 8, 9, 10, 11, 12, 0, 1, 2, 3, 4, 5, 6, 13] (by decide) rfl
              refine lv_istore hx hb dL_law_434 hl (by decide) rfl (fun ls hl => ?_)
              have hl : lv_has ls 8 [(5, .int r5), (0, .ref b), (1, .ref (a 0)), (2, .ref (a2 0)), (3, .ref qo), (4, .int (nI (1 + 5 * t)))] := hl
              refine lv_aload_n hx hb dL_law_436 rfl (lv_at hl 3 rfl) ?_
              refine lv_aload_n hx hb dL_law_437 rfl (lv_at hl 1 rfl) ?_
              refine lv_iload hx hb dL_law_438 (lv_at hl 5 rfl) ?_
              refine lv_iconst (v := 1) hx hb dL_law_440 (by decide) ?_
              refine lv_iadd hx hb dL_law_441 ?_
              refine zr_sldk hx hb hX hbl hbA hS 1 (by decide) (by omega) hL dL_law_442 ?_
              refine zf_i (mc := 0) (ms := 0) (σ := StM) (tys1 := fun _ => tM ca2) (w1 := fun z => wM n a2 ca2 z) (w0 := (wM n a2 ca2 v)) (wr := (wC n a ca z5.1 ++ [(qo, .inl (co, 1, .inr (.inl z5.2)))])) (va_runV (As := [.int (xs (1 + 5 * t + 1))]) (rest := []) ⟨hx, hb, hml, hown, hts⟩ (c_M_back l dC dI n a2 ca2 v H.size (xs (1 + 5 * t + 1)) hn (okM_of hR.1)) (cwV 1 hts gL_law_X1_back rfl rfl rfl (by decide +kernel) ⟨Nat.le_of_ble_eq_true rfl, Nat.le_of_ble_eq_true rfl⟩) ⟨zr_blind, (va_recv (q0 := 6) (ci := 1) (q := (RX1, TX1, 15)) hK hP rfl rfl), zr_pre (hK.sub (tys' := tM ca2) [5, 6, 7, 8, 9, 10] rfl) (hP.sub (ws' := (wM n a2 ca2 v)) [6, 7, 8, 9, 10, 11, 12] rfl) (hD.sub (ws' := (wM n a2 ca2 v)) [6, 7, 8, 9, 10, 11, 12] (by decide) rfl)⟩ rfl rfl hl.1 rfl (lv_room (Nat.le_of_ble_eq_true rfl)) dL_law_443 ⟨by show _ ≤ 648629; omega, by show _ ≤ 7150182; omega⟩) hP hD hS hA [6, 7, 8, 9, 10, 11, 12] [0, 1, 2, 3, 4, 5, 13] rfl rfl (by decide) (by decide) (fun r9 z9 H locs hp9 hP hD _ hS => ?_)
              obtain ⟨hr9, hz9⟩ := hp9
              subst hr9
              have hz9 : (fm_back n v (xs (1 + 5 * t + 1))).2 = z9 := hz9.symm
              subst hz9
              have hP : va_P (dC, dI) vwCl (wA n a ca a2 ca2 qo co (z5.1, (fm_back n v (xs (1 + 5 * t + 1))).2, z5.2)) H := hP.sub (ws' := (wA n a ca a2 ca2 qo co (z5.1, (fm_back n v (xs (1 + 5 * t + 1))).2, z5.2))) [0, 1, 2, 3, 4, 5, 7, 8, 9, 10, 11, 12, 13, 6] rfl
              have hD : va_D A (wA n a ca a2 ca2 qo co (z5.1, (fm_back n v (xs (1 + 5 * t + 1))).2, z5.2)) := hD.sub (ws' := (wA n a ca a2 ca2 qo co (z5.1, (fm_back n v (xs (1 + 5 * t + 1))).2, z5.2))) [0, 1, 2, 3, 4, 5, 7, 8, 9, 10, 11, 12, 13, 6] (by decide) rfl
              obtain ⟨hq1, hq2, hR⟩ := law_back hR (xs (1 + 5 * t + 1)) hp
              have hR : rR n (2 * (t + 1)) z5.1 ((fm_back n v (xs (1 + 5 * t + 1))).2) := hR.up (by omega)
              refine lv_istore hx hb dL_law_446 hl (by decide) rfl (fun ls hl => ?_)
              have hl : lv_has ls 8 [(6, .int ((fm_back n v (xs (1 + 5 * t + 1))).1)), (5, .int r5), (0, .ref b), (1, .ref (a 0)), (2, .ref (a2 0)), (3, .ref qo), (4, .int (nI (1 + 5 * t)))] := hl
              refine lv_aload_n hx hb dL_law_448 rfl (lv_at hl 4 rfl) ?_
              refine zf_i (mc := 0) (ms := 0) (σ := StM) (tys1 := fun _ => tM ca2) (w1 := fun z => wM n a2 ca2 z) (w0 := (wM n a2 ca2 ((fm_back n v (xs (1 + 5 * t + 1))).2))) (wr := (wC n a ca z5.1 ++ [(qo, .inl (co, 1, .inr (.inl z5.2)))])) (va_runV (As := []) (rest := []) ⟨hx, hb, hml, hown, hts⟩ (c_M_thrown l dC dI n a2 ca2 ((fm_back n v (xs (1 + 5 * t + 1))).2) H.size ) (cwV 0 hts gL_law_X1_thrown rfl rfl rfl (by decide +kernel) ⟨Nat.le_of_ble_eq_true rfl, Nat.le_of_ble_eq_true rfl⟩) ⟨zr_blind, (va_recv (q0 := 6) (ci := 1) (q := (RX1, TX1, 15)) hK hP rfl rfl), zr_pre (hK.sub (tys' := tM ca2) [5, 6, 7, 8, 9, 10] rfl) (hP.sub (ws' := (wM n a2 ca2 ((fm_back n v (xs (1 + 5 * t + 1))).2))) [6, 7, 8, 9, 10, 11, 12] rfl) (hD.sub (ws' := (wM n a2 ca2 ((fm_back n v (xs (1 + 5 * t + 1))).2))) [6, 7, 8, 9, 10, 11, 12] (by decide) rfl)⟩ rfl rfl hl.1 rfl (lv_room (Nat.le_of_ble_eq_true rfl)) dL_law_449 ⟨by show _ ≤ 648629; omega, by show _ ≤ 7150182; omega⟩) hP hD hS hA [6, 7, 8, 9, 10, 11, 12] [0, 1, 2, 3, 4, 5, 13] rfl rfl (by decide) (by decide) (fun r9 z9 H locs hp9 hP hD _ hS => ?_)
              obtain ⟨hr9, hz9⟩ := hp9
              subst hr9
              have hz9 : ((fm_back n v (xs (1 + 5 * t + 1))).2) = z9 := hz9.symm
              subst hz9
              have hP : va_P (dC, dI) vwCl (wA n a ca a2 ca2 qo co (z5.1, (fm_back n v (xs (1 + 5 * t + 1))).2, z5.2)) H := hP.sub (ws' := (wA n a ca a2 ca2 qo co (z5.1, (fm_back n v (xs (1 + 5 * t + 1))).2, z5.2))) [0, 1, 2, 3, 4, 5, 7, 8, 9, 10, 11, 12, 13, 6] rfl
              have hD : va_D A (wA n a ca a2 ca2 qo co (z5.1, (fm_back n v (xs (1 + 5 * t + 1))).2, z5.2)) := hD.sub (ws' := (wA n a ca a2 ca2 qo co (z5.1, (fm_back n v (xs (1 + 5 * t + 1))).2, z5.2))) [0, 1, 2, 3, 4, 5, 7, 8, 9, 10, 11, 12, 13, 6] (by decide) rfl
              refine lv_iload hx hb dL_law_452 (lv_at hl 1 rfl) ?_
              refine lv_icmp_eq hx hb dL_law_454 (tgt := 459) rfl (fun _ => ?_) (fun h => absurd hq1 h)
              refine lv_iload hx hb dL_law_459 (lv_at hl 1 rfl) ?_
              refine lv_if_ne hx hb dL_law_461 (tgt := 476) rfl (fun _ => ?_) (fun hk0 => ?_)
              · refine lv_goto hx hb dL_law_476 (tgt := 860) rfl ?_
                refine lv_iinc (k := 6) (v := nI (1 + 5 * (t + 1))) hx hb dL_law_860 hl rfl (by rw [show Int32.ofInt 5 = nI 5 by decide, nI_add]; exact congrArg nI (by omega)) (by decide) rfl (fun ls hl => ?_)
                have hl : lv_has ls 8 [(4, .int (nI (1 + 5 * (t + 1)))), (6, .int ((fm_back n v (xs (1 + 5 * t + 1))).1)), (5, .int r5), (0, .ref b), (1, .ref (a 0)), (2, .ref (a2 0)), (3, .ref qo)] := hl
                refine lv_goto hx hb dL_law_863 (tgt := 33) rfl ?_
                exact ih r' (t + 1, z5.1, (fm_back n v (xs (1 + 5 * t + 1))).2, z5.2) _ _ _ (by omega) ⟨by show r' + (t + 1) = 512; omega, hR, lv_sub hl [3, 4, 5, 6, 0] rfl, hP, hD, hS⟩
              · refine lv_aload_n hx hb dL_law_464 rfl (lv_at hl 5 rfl) ?_
                refine lv_iconst (v := 0) hx hb dL_law_465 (by decide) ?_
                refine zr_lald (k := 0) hx hb hK hP 13 11 rfl rfl (by decide) (by decide) dL_law_466 ?_
                refine lv_iload hx hb dL_law_467 (lv_at hl 0 rfl) ?_
                refine lv_i2l hx hb dL_law_469 rfl ?_
                refine W.lcmp hx hb dL_law_470 ?_
                refine lv_if_eq hx hb dL_law_471 (tgt := 476) rfl (fun _ => ?_) (fun h => absurd ((lg_cmp_eq _ _).mpr (hq2 hk0)) h)
                refine lv_goto hx hb dL_law_476 (tgt := 860) rfl ?_
                refine lv_iinc (k := 6) (v := nI (1 + 5 * (t + 1))) hx hb dL_law_860 hl rfl (by rw [show Int32.ofInt 5 = nI 5 by decide, nI_add]; exact congrArg nI (by omega)) (by decide) rfl (fun ls hl => ?_)
                have hl : lv_has ls 8 [(4, .int (nI (1 + 5 * (t + 1)))), (6, .int ((fm_back n v (xs (1 + 5 * t + 1))).1)), (5, .int r5), (0, .ref b), (1, .ref (a 0)), (2, .ref (a2 0)), (3, .ref qo)] := hl
                refine lv_goto hx hb dL_law_863 (tgt := 33) rfl ?_
                exact ih r' (t + 1, z5.1, (fm_back n v (xs (1 + 5 * t + 1))).2, z5.2) _ _ _ (by omega) ⟨by show r' + (t + 1) = 512; omega, hR, lv_sub hl [3, 4, 5, 6, 0] rfl, hP, hD, hS⟩
            · rcases Classical.em (y0 = 5) with e5 | e5
              · refine lv_tableIn (off := 430) (tgt := 479) hx hb dL_law_49 (by rw [e5]; decide) (by rw [e5]; decide) (by rw [e5]; decide) rfl ?_
                refine W.widen (k := 14 + 2 * (t + 1)) (n := 265 + 12 * (t + 1)) (by omega) (by omega) ?_
                refine lv_aload_n hx hb dL_law_479 rfl (lv_at hl 1 rfl) ?_
                refine zf_i (mc := 0) (ms := 0) (σ := StC) (tys1 := fun _ => tC ca) (w1 := fun z => wC n a ca z) (w0 := (wC n a ca u)) (wr := (wM n a2 ca2 v ++ [(qo, .inl (co, 1, .inr (.inl f)))])) (va_runV (As := []) (rest := []) ⟨hx, hb, hml, hown, hts⟩ (c_C_check l dC dI n a ca u H.size hn) (cwV 0 hts gL_law_X0_check rfl rfl rfl (by decide +kernel) ⟨Nat.le_of_ble_eq_true rfl, Nat.le_of_ble_eq_true rfl⟩) ⟨zr_blind, (va_recv (q0 := 0) (ci := 0) (q := (RX0, TX0, 13)) hK hP rfl rfl), zr_pre (hK.sub (tys' := tC ca) [0, 1, 2, 3, 4] rfl) (hP.sub (ws' := (wC n a ca u)) [0, 1, 2, 3, 4, 5] rfl) (hD.sub (ws' := (wC n a ca u)) [0, 1, 2, 3, 4, 5] (by decide) rfl)⟩ rfl rfl hl.1 rfl (lv_room (Nat.le_of_ble_eq_true rfl)) dL_law_480 ⟨by show _ ≤ 648629; omega, by show _ ≤ 7150182; omega⟩) hP hD hS hA [0, 1, 2, 3, 4, 5] [6, 7, 8, 9, 10, 11, 12, 13] rfl rfl (by decide) (by decide) (fun r9 z9 H locs hp9 hP hD _ hS => ?_)
                obtain ⟨hr9, hz9⟩ := hp9
                subst hr9
                have hz9 : (fc_check n 0 0 u).2 = z9 := hz9.symm
                subst hz9
                have hP : va_P (dC, dI) vwCl (wA n a ca a2 ca2 qo co ((fc_check n 0 0 u).2, v, f)) H := hP.sub (ws' := (wA n a ca a2 ca2 qo co ((fc_check n 0 0 u).2, v, f))) [8, 9, 10, 11, 12, 13, 0, 1, 2, 3, 4, 5, 6, 7] rfl
                have hD : va_D A (wA n a ca a2 ca2 qo co ((fc_check n 0 0 u).2, v, f)) := hD.sub (ws' := (wA n a ca a2 ca2 qo co ((fc_check n 0 0 u).2, v, f))) [8, 9, 10, 11, 12, 13, 0, 1, 2, 3, 4, 5, 6, 7] (by decide) rfl
                refine lv_aload_n hx hb dL_law_483 rfl (lv_at hl 2 rfl) ?_
                refine zf_i (mc := 0) (ms := 0) (σ := StM) (tys1 := fun _ => tM ca2) (w1 := fun z => wM n a2 ca2 z) (w0 := (wM n a2 ca2 v)) (wr := (wC n a ca ((fc_check n 0 0 u).2) ++ [(qo, .inl (co, 1, .inr (.inl f)))])) (va_runV (As := []) (rest := [.int ((fc_check n 0 0 u).1)]) ⟨hx, hb, hml, hown, hts⟩ (c_M_check l dC dI n a2 ca2 v H.size hn) (cwV 0 hts gL_law_X1_check rfl rfl rfl (by decide +kernel) ⟨Nat.le_of_ble_eq_true rfl, Nat.le_of_ble_eq_true rfl⟩) ⟨zr_blind, (va_recv (q0 := 6) (ci := 1) (q := (RX1, TX1, 15)) hK hP rfl rfl), zr_pre (hK.sub (tys' := tM ca2) [5, 6, 7, 8, 9, 10] rfl) (hP.sub (ws' := (wM n a2 ca2 v)) [6, 7, 8, 9, 10, 11, 12] rfl) (hD.sub (ws' := (wM n a2 ca2 v)) [6, 7, 8, 9, 10, 11, 12] (by decide) rfl)⟩ rfl rfl hl.1 rfl (lv_room (Nat.le_of_ble_eq_true rfl)) dL_law_484 ⟨by show _ ≤ 648629; omega, by show _ ≤ 7150182; omega⟩) hP hD hS hA [6, 7, 8, 9, 10, 11, 12] [0, 1, 2, 3, 4, 5, 13] rfl rfl (by decide) (by decide) (fun r9 z9 H locs hp9 hP hD _ hS => ?_)
                obtain ⟨hr9, hz9⟩ := hp9
                subst hr9
                have hz9 : (fm_check n v).2 = z9 := hz9.symm
                subst hz9
                have hP : va_P (dC, dI) vwCl (wA n a ca a2 ca2 qo co ((fc_check n 0 0 u).2, (fm_check n v).2, f)) H := hP.sub (ws' := (wA n a ca a2 ca2 qo co ((fc_check n 0 0 u).2, (fm_check n v).2, f))) [0, 1, 2, 3, 4, 5, 7, 8, 9, 10, 11, 12, 13, 6] rfl
                have hD : va_D A (wA n a ca a2 ca2 qo co ((fc_check n 0 0 u).2, (fm_check n v).2, f)) := hD.sub (ws' := (wA n a ca a2 ca2 qo co ((fc_check n 0 0 u).2, (fm_check n v).2, f))) [0, 1, 2, 3, 4, 5, 7, 8, 9, 10, 11, 12, 13, 6] (by decide) rfl
                obtain ⟨hq1, hR⟩ := sim_check hR
                have hR : rR n (2 * (t + 1)) ((fc_check n 0 0 u).2) ((fm_check n v).2) := hR.up (by omega)
                refine lv_icmp_eq hx hb dL_law_487 (tgt := 860) rfl (fun _ => ?_) (fun h => absurd hq1.symm h)
                refine lv_iinc (k := 4) (v := nI (1 + 5 * (t + 1))) hx hb dL_law_860 hl rfl (by rw [show Int32.ofInt 5 = nI 5 by decide, nI_add]; exact congrArg nI (by omega)) (by decide) rfl (fun ls hl => ?_)
                have hl : lv_has ls 8 [(4, .int (nI (1 + 5 * (t + 1)))), (0, .ref b), (1, .ref (a 0)), (2, .ref (a2 0)), (3, .ref qo)] := hl
                refine lv_goto hx hb dL_law_863 (tgt := 33) rfl ?_
                exact ih r' (t + 1, (fc_check n 0 0 u).2, (fm_check n v).2, f) _ _ _ (by omega) ⟨by show r' + (t + 1) = 512; omega, hR, lv_sub hl [1, 2, 3, 4, 0] rfl, hP, hD, hS⟩
              · rcases Classical.em (y0 = 6) with e6 | e6
                · refine lv_tableIn (off := 443) (tgt := 492) hx hb dL_law_49 (by rw [e6]; decide) (by rw [e6]; decide) (by rw [e6]; decide) rfl ?_
                  refine W.widen (k := 14 + 2 * (t + 1)) (n := 265 + 12 * (t + 1)) (by omega) (by omega) ?_
                  refine lv_aload_n hx hb dL_law_492 rfl (lv_at hl 1 rfl) ?_
                  refine zf_i (mc := 0) (ms := 0) (σ := StC) (tys1 := fun _ => tC ca) (w1 := fun z => wC n a ca z) (w0 := (wC n a ca u)) (wr := (wM n a2 ca2 v ++ [(qo, .inl (co, 1, .inr (.inl f)))])) (va_runV (As := []) (rest := []) ⟨hx, hb, hml, hown, hts⟩ (c_C_crash l dC dI n a ca u H.size hn) (cwV 0 hts gL_law_X0_crash rfl rfl rfl (by decide +kernel) ⟨Nat.le_of_ble_eq_true rfl, Nat.le_of_ble_eq_true rfl⟩) ⟨zr_blind, (va_recv (q0 := 0) (ci := 0) (q := (RX0, TX0, 13)) hK hP rfl rfl), zr_pre (hK.sub (tys' := tC ca) [0, 1, 2, 3, 4] rfl) (hP.sub (ws' := (wC n a ca u)) [0, 1, 2, 3, 4, 5] rfl) (hD.sub (ws' := (wC n a ca u)) [0, 1, 2, 3, 4, 5] (by decide) rfl)⟩ rfl rfl hl.1 rfl (lv_room (Nat.le_of_ble_eq_true rfl)) dL_law_493 ⟨by show _ ≤ 648629; omega, by show _ ≤ 7150182; omega⟩) hP hD hS hA [0, 1, 2, 3, 4, 5] [6, 7, 8, 9, 10, 11, 12, 13] rfl rfl (by decide) (by decide) (fun r9 z9 H locs hp9 hP hD _ hS => ?_)
                  obtain ⟨hr9, hz9⟩ := hp9
                  subst hr9
                  have hz9 : (fc_crash n u).2 = z9 := hz9.symm
                  subst hz9
                  have hP : va_P (dC, dI) vwCl (wA n a ca a2 ca2 qo co ((fc_crash n u).2, v, f)) H := hP.sub (ws' := (wA n a ca a2 ca2 qo co ((fc_crash n u).2, v, f))) [8, 9, 10, 11, 12, 13, 0, 1, 2, 3, 4, 5, 6, 7] rfl
                  have hD : va_D A (wA n a ca a2 ca2 qo co ((fc_crash n u).2, v, f)) := hD.sub (ws' := (wA n a ca a2 ca2 qo co ((fc_crash n u).2, v, f))) [8, 9, 10, 11, 12, 13, 0, 1, 2, 3, 4, 5, 6, 7] (by decide) rfl
                  refine lv_aload_n hx hb dL_law_496 rfl (lv_at hl 2 rfl) ?_
                  refine zf_i (mc := 0) (ms := 0) (σ := StM) (tys1 := fun _ => tM ca2) (w1 := fun z => wM n a2 ca2 z) (w0 := (wM n a2 ca2 v)) (wr := (wC n a ca ((fc_crash n u).2) ++ [(qo, .inl (co, 1, .inr (.inl f)))])) (va_runV (As := []) (rest := [.int ((fc_crash n u).1)]) ⟨hx, hb, hml, hown, hts⟩ (c_M_crash l dC dI n a2 ca2 v H.size hn) (cwV 0 hts gL_law_X1_crash rfl rfl rfl (by decide +kernel) ⟨Nat.le_of_ble_eq_true rfl, Nat.le_of_ble_eq_true rfl⟩) ⟨zr_blind, (va_recv (q0 := 6) (ci := 1) (q := (RX1, TX1, 15)) hK hP rfl rfl), zr_pre (hK.sub (tys' := tM ca2) [5, 6, 7, 8, 9, 10] rfl) (hP.sub (ws' := (wM n a2 ca2 v)) [6, 7, 8, 9, 10, 11, 12] rfl) (hD.sub (ws' := (wM n a2 ca2 v)) [6, 7, 8, 9, 10, 11, 12] (by decide) rfl)⟩ rfl rfl hl.1 rfl (lv_room (Nat.le_of_ble_eq_true rfl)) dL_law_497 ⟨by show _ ≤ 648629; omega, by show _ ≤ 7150182; omega⟩) hP hD hS hA [6, 7, 8, 9, 10, 11, 12] [0, 1, 2, 3, 4, 5, 13] rfl rfl (by decide) (by decide) (fun r9 z9 H locs hp9 hP hD _ hS => ?_)
                  obtain ⟨hr9, hz9⟩ := hp9
                  subst hr9
                  have hz9 : (fm_crash n v).2 = z9 := hz9.symm
                  subst hz9
                  have hP : va_P (dC, dI) vwCl (wA n a ca a2 ca2 qo co ((fc_crash n u).2, (fm_crash n v).2, f)) H := hP.sub (ws' := (wA n a ca a2 ca2 qo co ((fc_crash n u).2, (fm_crash n v).2, f))) [0, 1, 2, 3, 4, 5, 7, 8, 9, 10, 11, 12, 13, 6] rfl
                  have hD : va_D A (wA n a ca a2 ca2 qo co ((fc_crash n u).2, (fm_crash n v).2, f)) := hD.sub (ws' := (wA n a ca a2 ca2 qo co ((fc_crash n u).2, (fm_crash n v).2, f))) [0, 1, 2, 3, 4, 5, 7, 8, 9, 10, 11, 12, 13, 6] (by decide) rfl
                  obtain ⟨hq1, hR⟩ := sim_crash hn hR (by omega)
                  have hR : rR n (2 * (t + 1)) ((fc_crash n u).2) ((fm_crash n v).2) := hR.up (by omega)
                  refine lv_icmp_eq hx hb dL_law_500 (tgt := 860) rfl (fun _ => ?_) (fun h => absurd hq1.symm h)
                  refine lv_iinc (k := 4) (v := nI (1 + 5 * (t + 1))) hx hb dL_law_860 hl rfl (by rw [show Int32.ofInt 5 = nI 5 by decide, nI_add]; exact congrArg nI (by omega)) (by decide) rfl (fun ls hl => ?_)
                  have hl : lv_has ls 8 [(4, .int (nI (1 + 5 * (t + 1)))), (0, .ref b), (1, .ref (a 0)), (2, .ref (a2 0)), (3, .ref qo)] := hl
                  refine lv_goto hx hb dL_law_863 (tgt := 33) rfl ?_
                  exact ih r' (t + 1, (fc_crash n u).2, (fm_crash n v).2, f) _ _ _ (by omega) ⟨by show r' + (t + 1) = 512; omega, hR, lv_sub hl [1, 2, 3, 4, 0] rfl, hP, hD, hS⟩
                · rcases Classical.em (y0 = 7) with e7 | e7
                  · refine lv_tableIn (off := 456) (tgt := 505) hx hb dL_law_49 (by rw [e7]; decide) (by rw [e7]; decide) (by rw [e7]; decide) rfl ?_
                    refine W.widen (k := 14 + 2 * (t + 1)) (n := 265 + 12 * (t + 1)) (by omega) (by omega) ?_
                    refine lv_aload_n hx hb dL_law_505 rfl (lv_at hl 1 rfl) ?_
                    refine zf_i (mc := 0) (ms := 0) (σ := StC) (tys1 := fun _ => tC ca) (w1 := fun z => wC n a ca z) (w0 := (wC n a ca u)) (wr := (wM n a2 ca2 v ++ [(qo, .inl (co, 1, .inr (.inl f)))])) (va_runV (As := []) (rest := []) ⟨hx, hb, hml, hown, hts⟩ (c_C_lose l dC dI n a ca u H.size hn) (cwV 0 hts gL_law_X0_lose rfl rfl rfl (by decide +kernel) ⟨Nat.le_of_ble_eq_true rfl, Nat.le_of_ble_eq_true rfl⟩) ⟨zr_blind, (va_recv (q0 := 0) (ci := 0) (q := (RX0, TX0, 13)) hK hP rfl rfl), zr_pre (hK.sub (tys' := tC ca) [0, 1, 2, 3, 4] rfl) (hP.sub (ws' := (wC n a ca u)) [0, 1, 2, 3, 4, 5] rfl) (hD.sub (ws' := (wC n a ca u)) [0, 1, 2, 3, 4, 5] (by decide) rfl)⟩ rfl rfl hl.1 rfl (lv_room (Nat.le_of_ble_eq_true rfl)) dL_law_506 ⟨by show _ ≤ 648629; omega, by show _ ≤ 7150182; omega⟩) hP hD hS hA [0, 1, 2, 3, 4, 5] [6, 7, 8, 9, 10, 11, 12, 13] rfl rfl (by decide) (by decide) (fun r9 z9 H locs hp9 hP hD _ hS => ?_)
                    obtain ⟨hr9, hz9⟩ := hp9
                    subst hr9
                    have hz9 : (fc_lose n u).2 = z9 := hz9.symm
                    subst hz9
                    have hP : va_P (dC, dI) vwCl (wA n a ca a2 ca2 qo co ((fc_lose n u).2, v, f)) H := hP.sub (ws' := (wA n a ca a2 ca2 qo co ((fc_lose n u).2, v, f))) [8, 9, 10, 11, 12, 13, 0, 1, 2, 3, 4, 5, 6, 7] rfl
                    have hD : va_D A (wA n a ca a2 ca2 qo co ((fc_lose n u).2, v, f)) := hD.sub (ws' := (wA n a ca a2 ca2 qo co ((fc_lose n u).2, v, f))) [8, 9, 10, 11, 12, 13, 0, 1, 2, 3, 4, 5, 6, 7] (by decide) rfl
                    refine lv_aload_n hx hb dL_law_509 rfl (lv_at hl 2 rfl) ?_
                    refine zf_i (mc := 0) (ms := 0) (σ := StM) (tys1 := fun _ => tM ca2) (w1 := fun z => wM n a2 ca2 z) (w0 := (wM n a2 ca2 v)) (wr := (wC n a ca ((fc_lose n u).2) ++ [(qo, .inl (co, 1, .inr (.inl f)))])) (va_runV (As := []) (rest := [.int ((fc_lose n u).1)]) ⟨hx, hb, hml, hown, hts⟩ (c_M_lose l dC dI n a2 ca2 v H.size hn) (cwV 0 hts gL_law_X1_lose rfl rfl rfl (by decide +kernel) ⟨Nat.le_of_ble_eq_true rfl, Nat.le_of_ble_eq_true rfl⟩) ⟨zr_blind, (va_recv (q0 := 6) (ci := 1) (q := (RX1, TX1, 15)) hK hP rfl rfl), zr_pre (hK.sub (tys' := tM ca2) [5, 6, 7, 8, 9, 10] rfl) (hP.sub (ws' := (wM n a2 ca2 v)) [6, 7, 8, 9, 10, 11, 12] rfl) (hD.sub (ws' := (wM n a2 ca2 v)) [6, 7, 8, 9, 10, 11, 12] (by decide) rfl)⟩ rfl rfl hl.1 rfl (lv_room (Nat.le_of_ble_eq_true rfl)) dL_law_510 ⟨by show _ ≤ 648629; omega, by show _ ≤ 7150182; omega⟩) hP hD hS hA [6, 7, 8, 9, 10, 11, 12] [0, 1, 2, 3, 4, 5, 13] rfl rfl (by decide) (by decide) (fun r9 z9 H locs hp9 hP hD _ hS => ?_)
                    obtain ⟨hr9, hz9⟩ := hp9
                    subst hr9
                    have hz9 : (fm_lose n v).2 = z9 := hz9.symm
                    subst hz9
                    have hP : va_P (dC, dI) vwCl (wA n a ca a2 ca2 qo co ((fc_lose n u).2, (fm_lose n v).2, f)) H := hP.sub (ws' := (wA n a ca a2 ca2 qo co ((fc_lose n u).2, (fm_lose n v).2, f))) [0, 1, 2, 3, 4, 5, 7, 8, 9, 10, 11, 12, 13, 6] rfl
                    have hD : va_D A (wA n a ca a2 ca2 qo co ((fc_lose n u).2, (fm_lose n v).2, f)) := hD.sub (ws' := (wA n a ca a2 ca2 qo co ((fc_lose n u).2, (fm_lose n v).2, f))) [0, 1, 2, 3, 4, 5, 7, 8, 9, 10, 11, 12, 13, 6] (by decide) rfl
                    obtain ⟨hq1, hR⟩ := sim_lose hn hR (by omega)
                    have hR : rR n (2 * (t + 1)) ((fc_lose n u).2) ((fm_lose n v).2) := hR.up (by omega)
                    refine lv_icmp_eq hx hb dL_law_513 (tgt := 860) rfl (fun _ => ?_) (fun h => absurd hq1.symm h)
                    refine lv_iinc (k := 4) (v := nI (1 + 5 * (t + 1))) hx hb dL_law_860 hl rfl (by rw [show Int32.ofInt 5 = nI 5 by decide, nI_add]; exact congrArg nI (by omega)) (by decide) rfl (fun ls hl => ?_)
                    have hl : lv_has ls 8 [(4, .int (nI (1 + 5 * (t + 1)))), (0, .ref b), (1, .ref (a 0)), (2, .ref (a2 0)), (3, .ref qo)] := hl
                    refine lv_goto hx hb dL_law_863 (tgt := 33) rfl ?_
                    exact ih r' (t + 1, (fc_lose n u).2, (fm_lose n v).2, f) _ _ _ (by omega) ⟨by show r' + (t + 1) = 512; omega, hR, lv_sub hl [1, 2, 3, 4, 0] rfl, hP, hD, hS⟩
                  · rcases Classical.em (y0 = 8) with e8 | e8
                    · refine lv_tableIn (off := 469) (tgt := 518) hx hb dL_law_49 (by rw [e8]; decide) (by rw [e8]; decide) (by rw [e8]; decide) rfl ?_
                      refine lv_aload_n hx hb dL_law_518 rfl (lv_at hl 1 rfl) ?_
                      refine lv_aload_n hx hb dL_law_519 rfl (lv_at hl 0 rfl) ?_
                      refine lv_iload hx hb dL_law_520 (lv_at hl 4 rfl) ?_
                      refine lv_iconst (v := 1) hx hb dL_law_522 (by decide) ?_
                      refine lv_iadd hx hb dL_law_523 ?_
                      refine zr_sldk hx hb hX hbl hbA hS 1 (by decide) (by omega) hL dL_law_524 ?_
                      refine lv_aload_n hx hb dL_law_525 rfl (lv_at hl 3 rfl) ?_
                      have hFc := va_free (wc := (wL n a ca qo co (u, f))) hD hS hA [0, 1, 2, 3, 4, 5, 13] rfl
                      refine zf_i (mc := 1) (ms := 6) (σ := StC × (Nat → Int64)) (tys1 := fun _ => (tC ca ++ [(co, .long)])) (w1 := fun z => wL n a ca qo co z) (w0 := (wL n a ca qo co (u, f))) (wr := (wM n a2 ca2 v)) (vx_runSW (As := [.ref (a 0), .int (xs (1 + 5 * t + 1)), .ref qo]) (rest := []) ⟨hx, hb, hml, hown, hts⟩ (c_L_slot l hl9 sa dC dI n a ca u qo co f H.size (xs (1 + 5 * t + 1)) hn) (vx_cwSW 3 hts gL_law_L_slot rfl rfl rfl (by decide +kernel) ⟨Nat.le_of_ble_eq_true rfl, Nat.le_of_ble_eq_true rfl⟩) ⟨fun a U g mk q => ⟨q.1, ⟨q.2.1.1, q.2.1.2.1, va_K.moved (u := U) (U := U.calling g mk a) (Vm.Alike.refl U.vm) q.2.1.2.2.1, q.2.1.2.2.2⟩, q.2.2.1.call, q.2.2.2.to (U := U.calling g mk a) (Vm.Alike.refl U.vm)⟩, fun U hU hW => ⟨rfl, (zr_pre (As := [.ref (a 0)]) (hK.sub (tys' := (tC ca ++ [(co, .long)])) [0, 1, 2, 3, 4, 11] rfl) (hP.sub (ws' := (wL n a ca qo co (u, f))) [0, 1, 2, 3, 4, 5, 13] rfl) (hD.sub (ws' := (wL n a ca qo co (u, f))) [0, 1, 2, 3, 4, 5, 13] (by decide) rfl) U hU hW).2, hE.to hW (fun q h1 h2 => by rw [hU]; exact hS.2.1 q h1 h2) hFc, hC.to hW.alike⟩⟩ rfl rfl hl.1 rfl (lv_room (Nat.le_of_ble_eq_true rfl)) dL_law_526 ⟨by show _ ≤ 648629; omega, by show _ ≤ 7150182; omega⟩) hP hD hS hA [0, 1, 2, 3, 4, 5, 13] [6, 7, 8, 9, 10, 11, 12] rfl rfl (by decide) (by decide) (fun r5 z5 H locs hp hP hD _ hS => ?_)
                      refine W.widen (k := 14 + 2 * (t + 1)) (n := 265 + 12 * (t + 1)) (by omega) (by omega) ?_
                      have hP : va_P (dC, dI) vwCl (wA n a ca a2 ca2 qo co (z5.1, v, z5.2)) H := hP.sub (ws' := (wA n a ca a2 ca2 qo co (z5.1, v, z5.2))) [7, 8, 9, 10, 11, 12, 0, 1, 2, 3, 4, 5, 6, 13] rfl
                      have hD : va_D A (wA n a ca a2 ca2 qo co (z5.1, v, z5.2)) := hD.sub (ws' := (wA n a ca a2 ca2 qo co (z5.1, v, z5.2))) [7, 8, 9, 10, 11, 12, 0, 1, 2, 3, 4, 5, 6, 13] (by decide) rfl
                      refine lv_istore hx hb dL_law_529 hl (by decide) rfl (fun ls hl => ?_)
                      have hl : lv_has ls 8 [(5, .int r5), (0, .ref b), (1, .ref (a 0)), (2, .ref (a2 0)), (3, .ref qo), (4, .int (nI (1 + 5 * t)))] := hl
                      refine lv_aload_n hx hb dL_law_531 rfl (lv_at hl 3 rfl) ?_
                      refine lv_aload_n hx hb dL_law_532 rfl (lv_at hl 1 rfl) ?_
                      refine lv_iload hx hb dL_law_533 (lv_at hl 5 rfl) ?_
                      refine lv_iconst (v := 1) hx hb dL_law_535 (by decide) ?_
                      refine lv_iadd hx hb dL_law_536 ?_
                      refine zr_sldk hx hb hX hbl hbA hS 1 (by decide) (by omega) hL dL_law_537 ?_
                      refine zf_i (mc := 0) (ms := 0) (σ := StM) (tys1 := fun _ => tM ca2) (w1 := fun z => wM n a2 ca2 z) (w0 := (wM n a2 ca2 v)) (wr := (wC n a ca z5.1 ++ [(qo, .inl (co, 1, .inr (.inl z5.2)))])) (va_runV (As := [.int (xs (1 + 5 * t + 1))]) (rest := []) ⟨hx, hb, hml, hown, hts⟩ (c_M_slot l dC dI n a2 ca2 v H.size (xs (1 + 5 * t + 1)) hn) (cwV 1 hts gL_law_X1_slot rfl rfl rfl (by decide +kernel) ⟨Nat.le_of_ble_eq_true rfl, Nat.le_of_ble_eq_true rfl⟩) ⟨zr_blind, (va_recv (q0 := 6) (ci := 1) (q := (RX1, TX1, 15)) hK hP rfl rfl), zr_pre (hK.sub (tys' := tM ca2) [5, 6, 7, 8, 9, 10] rfl) (hP.sub (ws' := (wM n a2 ca2 v)) [6, 7, 8, 9, 10, 11, 12] rfl) (hD.sub (ws' := (wM n a2 ca2 v)) [6, 7, 8, 9, 10, 11, 12] (by decide) rfl)⟩ rfl rfl hl.1 rfl (lv_room (Nat.le_of_ble_eq_true rfl)) dL_law_538 ⟨by show _ ≤ 648629; omega, by show _ ≤ 7150182; omega⟩) hP hD hS hA [6, 7, 8, 9, 10, 11, 12] [0, 1, 2, 3, 4, 5, 13] rfl rfl (by decide) (by decide) (fun r9 z9 H locs hp9 hP hD _ hS => ?_)
                      obtain ⟨hr9, hz9⟩ := hp9
                      subst hr9
                      have hz9 : (fm_slot n v (xs (1 + 5 * t + 1))).2 = z9 := hz9.symm
                      subst hz9
                      have hP : va_P (dC, dI) vwCl (wA n a ca a2 ca2 qo co (z5.1, (fm_slot n v (xs (1 + 5 * t + 1))).2, z5.2)) H := hP.sub (ws' := (wA n a ca a2 ca2 qo co (z5.1, (fm_slot n v (xs (1 + 5 * t + 1))).2, z5.2))) [0, 1, 2, 3, 4, 5, 7, 8, 9, 10, 11, 12, 13, 6] rfl
                      have hD : va_D A (wA n a ca a2 ca2 qo co (z5.1, (fm_slot n v (xs (1 + 5 * t + 1))).2, z5.2)) := hD.sub (ws' := (wA n a ca a2 ca2 qo co (z5.1, (fm_slot n v (xs (1 + 5 * t + 1))).2, z5.2))) [0, 1, 2, 3, 4, 5, 7, 8, 9, 10, 11, 12, 13, 6] (by decide) rfl
                      obtain ⟨hq1, hq2, hR⟩ := law_slot hR (xs (1 + 5 * t + 1)) hp
                      have hR : rR n (2 * (t + 1)) z5.1 ((fm_slot n v (xs (1 + 5 * t + 1))).2) := hR.up (by omega)
                      refine lv_istore hx hb dL_law_541 hl (by decide) rfl (fun ls hl => ?_)
                      have hl : lv_has ls 8 [(6, .int ((fm_slot n v (xs (1 + 5 * t + 1))).1)), (5, .int r5), (0, .ref b), (1, .ref (a 0)), (2, .ref (a2 0)), (3, .ref qo), (4, .int (nI (1 + 5 * t)))] := hl
                      refine lv_aload_n hx hb dL_law_543 rfl (lv_at hl 4 rfl) ?_
                      refine zf_i (mc := 0) (ms := 0) (σ := StM) (tys1 := fun _ => tM ca2) (w1 := fun z => wM n a2 ca2 z) (w0 := (wM n a2 ca2 ((fm_slot n v (xs (1 + 5 * t + 1))).2))) (wr := (wC n a ca z5.1 ++ [(qo, .inl (co, 1, .inr (.inl z5.2)))])) (va_runV (As := []) (rest := []) ⟨hx, hb, hml, hown, hts⟩ (c_M_thrown l dC dI n a2 ca2 ((fm_slot n v (xs (1 + 5 * t + 1))).2) H.size ) (cwV 0 hts gL_law_X1_thrown rfl rfl rfl (by decide +kernel) ⟨Nat.le_of_ble_eq_true rfl, Nat.le_of_ble_eq_true rfl⟩) ⟨zr_blind, (va_recv (q0 := 6) (ci := 1) (q := (RX1, TX1, 15)) hK hP rfl rfl), zr_pre (hK.sub (tys' := tM ca2) [5, 6, 7, 8, 9, 10] rfl) (hP.sub (ws' := (wM n a2 ca2 ((fm_slot n v (xs (1 + 5 * t + 1))).2))) [6, 7, 8, 9, 10, 11, 12] rfl) (hD.sub (ws' := (wM n a2 ca2 ((fm_slot n v (xs (1 + 5 * t + 1))).2))) [6, 7, 8, 9, 10, 11, 12] (by decide) rfl)⟩ rfl rfl hl.1 rfl (lv_room (Nat.le_of_ble_eq_true rfl)) dL_law_544 ⟨by show _ ≤ 648629; omega, by show _ ≤ 7150182; omega⟩) hP hD hS hA [6, 7, 8, 9, 10, 11, 12] [0, 1, 2, 3, 4, 5, 13] rfl rfl (by decide) (by decide) (fun r9 z9 H locs hp9 hP hD _ hS => ?_)
                      obtain ⟨hr9, hz9⟩ := hp9
                      subst hr9
                      have hz9 : ((fm_slot n v (xs (1 + 5 * t + 1))).2) = z9 := hz9.symm
                      subst hz9
                      have hP : va_P (dC, dI) vwCl (wA n a ca a2 ca2 qo co (z5.1, (fm_slot n v (xs (1 + 5 * t + 1))).2, z5.2)) H := hP.sub (ws' := (wA n a ca a2 ca2 qo co (z5.1, (fm_slot n v (xs (1 + 5 * t + 1))).2, z5.2))) [0, 1, 2, 3, 4, 5, 7, 8, 9, 10, 11, 12, 13, 6] rfl
                      have hD : va_D A (wA n a ca a2 ca2 qo co (z5.1, (fm_slot n v (xs (1 + 5 * t + 1))).2, z5.2)) := hD.sub (ws' := (wA n a ca a2 ca2 qo co (z5.1, (fm_slot n v (xs (1 + 5 * t + 1))).2, z5.2))) [0, 1, 2, 3, 4, 5, 7, 8, 9, 10, 11, 12, 13, 6] (by decide) rfl
                      refine lv_iload hx hb dL_law_547 (lv_at hl 1 rfl) ?_
                      refine lv_icmp_eq hx hb dL_law_549 (tgt := 554) rfl (fun _ => ?_) (fun h => absurd hq1 h)
                      refine lv_iload hx hb dL_law_554 (lv_at hl 1 rfl) ?_
                      refine lv_if_ne hx hb dL_law_556 (tgt := 571) rfl (fun _ => ?_) (fun hk0 => ?_)
                      · refine lv_goto hx hb dL_law_571 (tgt := 860) rfl ?_
                        refine lv_iinc (k := 6) (v := nI (1 + 5 * (t + 1))) hx hb dL_law_860 hl rfl (by rw [show Int32.ofInt 5 = nI 5 by decide, nI_add]; exact congrArg nI (by omega)) (by decide) rfl (fun ls hl => ?_)
                        have hl : lv_has ls 8 [(4, .int (nI (1 + 5 * (t + 1)))), (6, .int ((fm_slot n v (xs (1 + 5 * t + 1))).1)), (5, .int r5), (0, .ref b), (1, .ref (a 0)), (2, .ref (a2 0)), (3, .ref qo)] := hl
                        refine lv_goto hx hb dL_law_863 (tgt := 33) rfl ?_
                        exact ih r' (t + 1, z5.1, (fm_slot n v (xs (1 + 5 * t + 1))).2, z5.2) _ _ _ (by omega) ⟨by show r' + (t + 1) = 512; omega, hR, lv_sub hl [3, 4, 5, 6, 0] rfl, hP, hD, hS⟩
                      · refine lv_aload_n hx hb dL_law_559 rfl (lv_at hl 5 rfl) ?_
                        refine lv_iconst (v := 0) hx hb dL_law_560 (by decide) ?_
                        refine zr_lald (k := 0) hx hb hK hP 13 11 rfl rfl (by decide) (by decide) dL_law_561 ?_
                        refine lv_iload hx hb dL_law_562 (lv_at hl 0 rfl) ?_
                        refine lv_i2l hx hb dL_law_564 rfl ?_
                        refine W.lcmp hx hb dL_law_565 ?_
                        refine lv_if_eq hx hb dL_law_566 (tgt := 571) rfl (fun _ => ?_) (fun h => absurd ((lg_cmp_eq _ _).mpr (hq2 hk0)) h)
                        refine lv_goto hx hb dL_law_571 (tgt := 860) rfl ?_
                        refine lv_iinc (k := 6) (v := nI (1 + 5 * (t + 1))) hx hb dL_law_860 hl rfl (by rw [show Int32.ofInt 5 = nI 5 by decide, nI_add]; exact congrArg nI (by omega)) (by decide) rfl (fun ls hl => ?_)
                        have hl : lv_has ls 8 [(4, .int (nI (1 + 5 * (t + 1)))), (6, .int ((fm_slot n v (xs (1 + 5 * t + 1))).1)), (5, .int r5), (0, .ref b), (1, .ref (a 0)), (2, .ref (a2 0)), (3, .ref qo)] := hl
                        refine lv_goto hx hb dL_law_863 (tgt := 33) rfl ?_
                        exact ih r' (t + 1, z5.1, (fm_slot n v (xs (1 + 5 * t + 1))).2, z5.2) _ _ _ (by omega) ⟨by show r' + (t + 1) = 512; omega, hR, lv_sub hl [3, 4, 5, 6, 0] rfl, hP, hD, hS⟩
                    · rcases Classical.em (y0 = 9) with e9 | e9
                      · refine lv_tableIn (off := 525) (tgt := 574) hx hb dL_law_49 (by rw [e9]; decide) (by rw [e9]; decide) (by rw [e9]; decide) rfl ?_
                        refine lv_aload_n hx hb dL_law_574 rfl (lv_at hl 1 rfl) ?_
                        refine lv_aload_n hx hb dL_law_575 rfl (lv_at hl 0 rfl) ?_
                        refine lv_iload hx hb dL_law_576 (lv_at hl 4 rfl) ?_
                        refine lv_iconst (v := 1) hx hb dL_law_578 (by decide) ?_
                        refine lv_iadd hx hb dL_law_579 ?_
                        refine zr_sldk hx hb hX hbl hbA hS 1 (by decide) (by omega) hL dL_law_580 ?_
                        refine lv_aload_n hx hb dL_law_581 rfl (lv_at hl 3 rfl) ?_
                        have hFc := va_free (wc := (wL n a ca qo co (u, f))) hD hS hA [0, 1, 2, 3, 4, 5, 13] rfl
                        refine zf_i (mc := 2) (ms := 12) (σ := StC × (Nat → Int64)) (tys1 := fun _ => (tC ca ++ [(co, .long)])) (w1 := fun z => wL n a ca qo co z) (w0 := (wL n a ca qo co (u, f))) (wr := (wM n a2 ca2 v)) (vx_runSW (As := [.ref (a 0), .int (xs (1 + 5 * t + 1)), .ref qo]) (rest := []) ⟨hx, hb, hml, hown, hts⟩ (c_L_dirty l hl9 sa dC dI n a ca u qo co f H.size (xs (1 + 5 * t + 1)) hn) (vx_cwSW 3 hts gL_law_L_dirty rfl rfl rfl (by decide +kernel) ⟨Nat.le_of_ble_eq_true rfl, Nat.le_of_ble_eq_true rfl⟩) ⟨fun a U g mk q => ⟨q.1, ⟨q.2.1.1, q.2.1.2.1, va_K.moved (u := U) (U := U.calling g mk a) (Vm.Alike.refl U.vm) q.2.1.2.2.1, q.2.1.2.2.2⟩, q.2.2.1.call, q.2.2.2.to (U := U.calling g mk a) (Vm.Alike.refl U.vm)⟩, fun U hU hW => ⟨rfl, (zr_pre (As := [.ref (a 0)]) (hK.sub (tys' := (tC ca ++ [(co, .long)])) [0, 1, 2, 3, 4, 11] rfl) (hP.sub (ws' := (wL n a ca qo co (u, f))) [0, 1, 2, 3, 4, 5, 13] rfl) (hD.sub (ws' := (wL n a ca qo co (u, f))) [0, 1, 2, 3, 4, 5, 13] (by decide) rfl) U hU hW).2, hE.to hW (fun q h1 h2 => by rw [hU]; exact hS.2.1 q h1 h2) hFc, hC.to hW.alike⟩⟩ rfl rfl hl.1 rfl (lv_room (Nat.le_of_ble_eq_true rfl)) dL_law_582 ⟨by show _ ≤ 648629; omega, by show _ ≤ 7150182; omega⟩) hP hD hS hA [0, 1, 2, 3, 4, 5, 13] [6, 7, 8, 9, 10, 11, 12] rfl rfl (by decide) (by decide) (fun r5 z5 H locs hp hP hD _ hS => ?_)
                        refine W.widen (k := 14 + 2 * (t + 1)) (n := 265 + 12 * (t + 1)) (by omega) (by omega) ?_
                        have hP : va_P (dC, dI) vwCl (wA n a ca a2 ca2 qo co (z5.1, v, z5.2)) H := hP.sub (ws' := (wA n a ca a2 ca2 qo co (z5.1, v, z5.2))) [7, 8, 9, 10, 11, 12, 0, 1, 2, 3, 4, 5, 6, 13] rfl
                        have hD : va_D A (wA n a ca a2 ca2 qo co (z5.1, v, z5.2)) := hD.sub (ws' := (wA n a ca a2 ca2 qo co (z5.1, v, z5.2))) [7, 8, 9, 10, 11, 12, 0, 1, 2, 3, 4, 5, 6, 13] (by decide) rfl
                        refine lv_istore hx hb dL_law_585 hl (by decide) rfl (fun ls hl => ?_)
                        have hl : lv_has ls 8 [(5, .int r5), (0, .ref b), (1, .ref (a 0)), (2, .ref (a2 0)), (3, .ref qo), (4, .int (nI (1 + 5 * t)))] := hl
                        refine lv_aload_n hx hb dL_law_587 rfl (lv_at hl 3 rfl) ?_
                        refine lv_aload_n hx hb dL_law_588 rfl (lv_at hl 1 rfl) ?_
                        refine lv_iload hx hb dL_law_589 (lv_at hl 5 rfl) ?_
                        refine lv_iconst (v := 1) hx hb dL_law_591 (by decide) ?_
                        refine lv_iadd hx hb dL_law_592 ?_
                        refine zr_sldk hx hb hX hbl hbA hS 1 (by decide) (by omega) hL dL_law_593 ?_
                        refine zf_i (mc := 0) (ms := 0) (σ := StM) (tys1 := fun _ => tM ca2) (w1 := fun z => wM n a2 ca2 z) (w0 := (wM n a2 ca2 v)) (wr := (wC n a ca z5.1 ++ [(qo, .inl (co, 1, .inr (.inl z5.2)))])) (va_runV (As := [.int (xs (1 + 5 * t + 1))]) (rest := []) ⟨hx, hb, hml, hown, hts⟩ (c_M_dirty l dC dI n a2 ca2 v H.size (xs (1 + 5 * t + 1)) hn) (cwV 1 hts gL_law_X1_dirty rfl rfl rfl (by decide +kernel) ⟨Nat.le_of_ble_eq_true rfl, Nat.le_of_ble_eq_true rfl⟩) ⟨zr_blind, (va_recv (q0 := 6) (ci := 1) (q := (RX1, TX1, 15)) hK hP rfl rfl), zr_pre (hK.sub (tys' := tM ca2) [5, 6, 7, 8, 9, 10] rfl) (hP.sub (ws' := (wM n a2 ca2 v)) [6, 7, 8, 9, 10, 11, 12] rfl) (hD.sub (ws' := (wM n a2 ca2 v)) [6, 7, 8, 9, 10, 11, 12] (by decide) rfl)⟩ rfl rfl hl.1 rfl (lv_room (Nat.le_of_ble_eq_true rfl)) dL_law_594 ⟨by show _ ≤ 648629; omega, by show _ ≤ 7150182; omega⟩) hP hD hS hA [6, 7, 8, 9, 10, 11, 12] [0, 1, 2, 3, 4, 5, 13] rfl rfl (by decide) (by decide) (fun r9 z9 H locs hp9 hP hD _ hS => ?_)
                        obtain ⟨hr9, hz9⟩ := hp9
                        subst hr9
                        have hz9 : (fm_dirty n v (xs (1 + 5 * t + 1))).2 = z9 := hz9.symm
                        subst hz9
                        have hP : va_P (dC, dI) vwCl (wA n a ca a2 ca2 qo co (z5.1, (fm_dirty n v (xs (1 + 5 * t + 1))).2, z5.2)) H := hP.sub (ws' := (wA n a ca a2 ca2 qo co (z5.1, (fm_dirty n v (xs (1 + 5 * t + 1))).2, z5.2))) [0, 1, 2, 3, 4, 5, 7, 8, 9, 10, 11, 12, 13, 6] rfl
                        have hD : va_D A (wA n a ca a2 ca2 qo co (z5.1, (fm_dirty n v (xs (1 + 5 * t + 1))).2, z5.2)) := hD.sub (ws' := (wA n a ca a2 ca2 qo co (z5.1, (fm_dirty n v (xs (1 + 5 * t + 1))).2, z5.2))) [0, 1, 2, 3, 4, 5, 7, 8, 9, 10, 11, 12, 13, 6] (by decide) rfl
                        obtain ⟨hq1, hq2, hR⟩ := law_dirty hR (xs (1 + 5 * t + 1)) hp
                        have hR : rR n (2 * (t + 1)) z5.1 ((fm_dirty n v (xs (1 + 5 * t + 1))).2) := hR.up (by omega)
                        refine lv_istore hx hb dL_law_597 hl (by decide) rfl (fun ls hl => ?_)
                        have hl : lv_has ls 8 [(6, .int ((fm_dirty n v (xs (1 + 5 * t + 1))).1)), (5, .int r5), (0, .ref b), (1, .ref (a 0)), (2, .ref (a2 0)), (3, .ref qo), (4, .int (nI (1 + 5 * t)))] := hl
                        refine lv_aload_n hx hb dL_law_599 rfl (lv_at hl 4 rfl) ?_
                        refine zf_i (mc := 0) (ms := 0) (σ := StM) (tys1 := fun _ => tM ca2) (w1 := fun z => wM n a2 ca2 z) (w0 := (wM n a2 ca2 ((fm_dirty n v (xs (1 + 5 * t + 1))).2))) (wr := (wC n a ca z5.1 ++ [(qo, .inl (co, 1, .inr (.inl z5.2)))])) (va_runV (As := []) (rest := []) ⟨hx, hb, hml, hown, hts⟩ (c_M_thrown l dC dI n a2 ca2 ((fm_dirty n v (xs (1 + 5 * t + 1))).2) H.size ) (cwV 0 hts gL_law_X1_thrown rfl rfl rfl (by decide +kernel) ⟨Nat.le_of_ble_eq_true rfl, Nat.le_of_ble_eq_true rfl⟩) ⟨zr_blind, (va_recv (q0 := 6) (ci := 1) (q := (RX1, TX1, 15)) hK hP rfl rfl), zr_pre (hK.sub (tys' := tM ca2) [5, 6, 7, 8, 9, 10] rfl) (hP.sub (ws' := (wM n a2 ca2 ((fm_dirty n v (xs (1 + 5 * t + 1))).2))) [6, 7, 8, 9, 10, 11, 12] rfl) (hD.sub (ws' := (wM n a2 ca2 ((fm_dirty n v (xs (1 + 5 * t + 1))).2))) [6, 7, 8, 9, 10, 11, 12] (by decide) rfl)⟩ rfl rfl hl.1 rfl (lv_room (Nat.le_of_ble_eq_true rfl)) dL_law_600 ⟨by show _ ≤ 648629; omega, by show _ ≤ 7150182; omega⟩) hP hD hS hA [6, 7, 8, 9, 10, 11, 12] [0, 1, 2, 3, 4, 5, 13] rfl rfl (by decide) (by decide) (fun r9 z9 H locs hp9 hP hD _ hS => ?_)
                        obtain ⟨hr9, hz9⟩ := hp9
                        subst hr9
                        have hz9 : ((fm_dirty n v (xs (1 + 5 * t + 1))).2) = z9 := hz9.symm
                        subst hz9
                        have hP : va_P (dC, dI) vwCl (wA n a ca a2 ca2 qo co (z5.1, (fm_dirty n v (xs (1 + 5 * t + 1))).2, z5.2)) H := hP.sub (ws' := (wA n a ca a2 ca2 qo co (z5.1, (fm_dirty n v (xs (1 + 5 * t + 1))).2, z5.2))) [0, 1, 2, 3, 4, 5, 7, 8, 9, 10, 11, 12, 13, 6] rfl
                        have hD : va_D A (wA n a ca a2 ca2 qo co (z5.1, (fm_dirty n v (xs (1 + 5 * t + 1))).2, z5.2)) := hD.sub (ws' := (wA n a ca a2 ca2 qo co (z5.1, (fm_dirty n v (xs (1 + 5 * t + 1))).2, z5.2))) [0, 1, 2, 3, 4, 5, 7, 8, 9, 10, 11, 12, 13, 6] (by decide) rfl
                        refine lv_iload hx hb dL_law_603 (lv_at hl 1 rfl) ?_
                        refine lv_icmp_eq hx hb dL_law_605 (tgt := 610) rfl (fun _ => ?_) (fun h => absurd hq1 h)
                        refine lv_iload hx hb dL_law_610 (lv_at hl 1 rfl) ?_
                        refine lv_if_ne hx hb dL_law_612 (tgt := 634) rfl (fun _ => ?_) (fun hk0 => ?_)
                        · refine lv_goto hx hb dL_law_634 (tgt := 860) rfl ?_
                          refine lv_iinc (k := 6) (v := nI (1 + 5 * (t + 1))) hx hb dL_law_860 hl rfl (by rw [show Int32.ofInt 5 = nI 5 by decide, nI_add]; exact congrArg nI (by omega)) (by decide) rfl (fun ls hl => ?_)
                          have hl : lv_has ls 8 [(4, .int (nI (1 + 5 * (t + 1)))), (6, .int ((fm_dirty n v (xs (1 + 5 * t + 1))).1)), (5, .int r5), (0, .ref b), (1, .ref (a 0)), (2, .ref (a2 0)), (3, .ref qo)] := hl
                          refine lv_goto hx hb dL_law_863 (tgt := 33) rfl ?_
                          exact ih r' (t + 1, z5.1, (fm_dirty n v (xs (1 + 5 * t + 1))).2, z5.2) _ _ _ (by omega) ⟨by show r' + (t + 1) = 512; omega, hR, lv_sub hl [3, 4, 5, 6, 0] rfl, hP, hD, hS⟩
                        · refine lv_aload_n hx hb dL_law_615 rfl (lv_at hl 5 rfl) ?_
                          refine lv_iconst (v := 0) hx hb dL_law_616 (by decide) ?_
                          refine zr_lald (k := 0) hx hb hK hP 13 11 rfl rfl (by decide) (by decide) dL_law_617 ?_
                          refine lv_iload hx hb dL_law_618 (lv_at hl 0 rfl) ?_
                          refine lv_if_eq hx hb dL_law_620 (tgt := 627) rfl (fun hbl9 => ?_) (fun hbl9 => ?_)
                          · refine lv_lconst (v := 0) hx hb dL_law_627 (by decide) ?_
                            refine W.lcmp hx hb dL_law_628 ?_
                            refine lv_if_eq hx hb dL_law_629 (tgt := 634) rfl (fun _ => ?_) (fun h => absurd ((lg_cmp_eq _ _).mpr ((hq2 hk0).trans (if_pos hbl9))) h)
                            refine lv_goto hx hb dL_law_634 (tgt := 860) rfl ?_
                            refine lv_iinc (k := 6) (v := nI (1 + 5 * (t + 1))) hx hb dL_law_860 hl rfl (by rw [show Int32.ofInt 5 = nI 5 by decide, nI_add]; exact congrArg nI (by omega)) (by decide) rfl (fun ls hl => ?_)
                            have hl : lv_has ls 8 [(4, .int (nI (1 + 5 * (t + 1)))), (6, .int ((fm_dirty n v (xs (1 + 5 * t + 1))).1)), (5, .int r5), (0, .ref b), (1, .ref (a 0)), (2, .ref (a2 0)), (3, .ref qo)] := hl
                            refine lv_goto hx hb dL_law_863 (tgt := 33) rfl ?_
                            exact ih r' (t + 1, z5.1, (fm_dirty n v (xs (1 + 5 * t + 1))).2, z5.2) _ _ _ (by omega) ⟨by show r' + (t + 1) = 512; omega, hR, lv_sub hl [3, 4, 5, 6, 0] rfl, hP, hD, hS⟩
                          · refine lv_lconst (v := 1) hx hb dL_law_623 (by decide) ?_
                            refine lv_goto hx hb dL_law_624 (tgt := 628) rfl ?_
                            refine W.lcmp hx hb dL_law_628 ?_
                            refine lv_if_eq hx hb dL_law_629 (tgt := 634) rfl (fun _ => ?_) (fun h => absurd ((lg_cmp_eq _ _).mpr ((hq2 hk0).trans (if_neg hbl9))) h)
                            refine lv_goto hx hb dL_law_634 (tgt := 860) rfl ?_
                            refine lv_iinc (k := 6) (v := nI (1 + 5 * (t + 1))) hx hb dL_law_860 hl rfl (by rw [show Int32.ofInt 5 = nI 5 by decide, nI_add]; exact congrArg nI (by omega)) (by decide) rfl (fun ls hl => ?_)
                            have hl : lv_has ls 8 [(4, .int (nI (1 + 5 * (t + 1)))), (6, .int ((fm_dirty n v (xs (1 + 5 * t + 1))).1)), (5, .int r5), (0, .ref b), (1, .ref (a 0)), (2, .ref (a2 0)), (3, .ref qo)] := hl
                            refine lv_goto hx hb dL_law_863 (tgt := 33) rfl ?_
                            exact ih r' (t + 1, z5.1, (fm_dirty n v (xs (1 + 5 * t + 1))).2, z5.2) _ _ _ (by omega) ⟨by show r' + (t + 1) = 512; omega, hR, lv_sub hl [3, 4, 5, 6, 0] rfl, hP, hD, hS⟩
                      · rcases Classical.em (y0 = 10) with e10 | e10
                        · refine lv_tableIn (off := 588) (tgt := 637) hx hb dL_law_49 (by rw [e10]; decide) (by rw [e10]; decide) (by rw [e10]; decide) rfl ?_
                          refine lv_aload_n hx hb dL_law_637 rfl (lv_at hl 1 rfl) ?_
                          refine lv_aload_n hx hb dL_law_638 rfl (lv_at hl 0 rfl) ?_
                          refine lv_iload hx hb dL_law_639 (lv_at hl 4 rfl) ?_
                          refine lv_iconst (v := 1) hx hb dL_law_641 (by decide) ?_
                          refine lv_iadd hx hb dL_law_642 ?_
                          refine zr_sldk hx hb hX hbl hbA hS 1 (by decide) (by omega) hL dL_law_643 ?_
                          refine lv_aload_n hx hb dL_law_644 rfl (lv_at hl 3 rfl) ?_
                          have hFc := va_free (wc := (wL n a ca qo co (u, f))) hD hS hA [0, 1, 2, 3, 4, 5, 13] rfl
                          refine zf_i (mc := 1) (ms := 6) (σ := StC × (Nat → Int64)) (tys1 := fun _ => (tC ca ++ [(co, .long)])) (w1 := fun z => wL n a ca qo co z) (w0 := (wL n a ca qo co (u, f))) (wr := (wM n a2 ca2 v)) (vx_runSW (As := [.ref (a 0), .int (xs (1 + 5 * t + 1)), .ref qo]) (rest := []) ⟨hx, hb, hml, hown, hts⟩ (c_L_origin l hl9 sa dC dI n a ca u qo co f H.size (xs (1 + 5 * t + 1))) (vx_cwSW 3 hts gL_law_L_origin rfl rfl rfl (by decide +kernel) ⟨Nat.le_of_ble_eq_true rfl, Nat.le_of_ble_eq_true rfl⟩) ⟨fun a U g mk q => ⟨q.1, ⟨q.2.1.1, q.2.1.2.1, va_K.moved (u := U) (U := U.calling g mk a) (Vm.Alike.refl U.vm) q.2.1.2.2.1, q.2.1.2.2.2⟩, q.2.2.1.call, q.2.2.2.to (U := U.calling g mk a) (Vm.Alike.refl U.vm)⟩, fun U hU hW => ⟨rfl, (zr_pre (As := [.ref (a 0)]) (hK.sub (tys' := (tC ca ++ [(co, .long)])) [0, 1, 2, 3, 4, 11] rfl) (hP.sub (ws' := (wL n a ca qo co (u, f))) [0, 1, 2, 3, 4, 5, 13] rfl) (hD.sub (ws' := (wL n a ca qo co (u, f))) [0, 1, 2, 3, 4, 5, 13] (by decide) rfl) U hU hW).2, hE.to hW (fun q h1 h2 => by rw [hU]; exact hS.2.1 q h1 h2) hFc, hC.to hW.alike⟩⟩ rfl rfl hl.1 rfl (lv_room (Nat.le_of_ble_eq_true rfl)) dL_law_645 ⟨by show _ ≤ 648629; omega, by show _ ≤ 7150182; omega⟩) hP hD hS hA [0, 1, 2, 3, 4, 5, 13] [6, 7, 8, 9, 10, 11, 12] rfl rfl (by decide) (by decide) (fun r5 z5 H locs hp hP hD _ hS => ?_)
                          refine W.widen (k := 14 + 2 * (t + 1)) (n := 265 + 12 * (t + 1)) (by omega) (by omega) ?_
                          have hP : va_P (dC, dI) vwCl (wA n a ca a2 ca2 qo co (z5.1, v, z5.2)) H := hP.sub (ws' := (wA n a ca a2 ca2 qo co (z5.1, v, z5.2))) [7, 8, 9, 10, 11, 12, 0, 1, 2, 3, 4, 5, 6, 13] rfl
                          have hD : va_D A (wA n a ca a2 ca2 qo co (z5.1, v, z5.2)) := hD.sub (ws' := (wA n a ca a2 ca2 qo co (z5.1, v, z5.2))) [7, 8, 9, 10, 11, 12, 0, 1, 2, 3, 4, 5, 6, 13] (by decide) rfl
                          refine lv_istore hx hb dL_law_648 hl (by decide) rfl (fun ls hl => ?_)
                          have hl : lv_has ls 8 [(5, .int r5), (0, .ref b), (1, .ref (a 0)), (2, .ref (a2 0)), (3, .ref qo), (4, .int (nI (1 + 5 * t)))] := hl
                          refine lv_aload_n hx hb dL_law_650 rfl (lv_at hl 3 rfl) ?_
                          refine lv_aload_n hx hb dL_law_651 rfl (lv_at hl 1 rfl) ?_
                          refine lv_iload hx hb dL_law_652 (lv_at hl 5 rfl) ?_
                          refine lv_iconst (v := 1) hx hb dL_law_654 (by decide) ?_
                          refine lv_iadd hx hb dL_law_655 ?_
                          refine zr_sldk hx hb hX hbl hbA hS 1 (by decide) (by omega) hL dL_law_656 ?_
                          refine zf_l (mc := 0) (ms := 0) (σ := StM) (tys1 := fun _ => tM ca2) (w1 := fun z => wM n a2 ca2 z) (w0 := (wM n a2 ca2 v)) (wr := (wC n a ca z5.1 ++ [(qo, .inl (co, 1, .inr (.inl z5.2)))])) (va_runV (As := [.int (xs (1 + 5 * t + 1))]) (rest := []) ⟨hx, hb, hml, hown, hts⟩ (c_M_origin l dC dI n a2 ca2 v H.size (xs (1 + 5 * t + 1))) (cwV 1 hts gL_law_X1_origin rfl rfl rfl (by decide +kernel) ⟨Nat.le_of_ble_eq_true rfl, Nat.le_of_ble_eq_true rfl⟩) ⟨zr_blind, (va_recv (q0 := 6) (ci := 1) (q := (RX1, TX1, 15)) hK hP rfl rfl), zr_pre (hK.sub (tys' := tM ca2) [5, 6, 7, 8, 9, 10] rfl) (hP.sub (ws' := (wM n a2 ca2 v)) [6, 7, 8, 9, 10, 11, 12] rfl) (hD.sub (ws' := (wM n a2 ca2 v)) [6, 7, 8, 9, 10, 11, 12] (by decide) rfl)⟩ rfl rfl hl.1 rfl (lv_room (Nat.le_of_ble_eq_true rfl)) dL_law_657 ⟨by show _ ≤ 648629; omega, by show _ ≤ 7150182; omega⟩) hP hD hS hA [6, 7, 8, 9, 10, 11, 12] [0, 1, 2, 3, 4, 5, 13] rfl rfl (by decide) (by decide) (fun r9 z9 H locs hp9 hP hD _ hS => ?_)
                          obtain ⟨hr9, hz9⟩ := hp9
                          subst hr9
                          have hz9 : (fm_origin v (xs (1 + 5 * t + 1))).2 = z9 := hz9.symm
                          subst hz9
                          have hP : va_P (dC, dI) vwCl (wA n a ca a2 ca2 qo co (z5.1, (fm_origin v (xs (1 + 5 * t + 1))).2, z5.2)) H := hP.sub (ws' := (wA n a ca a2 ca2 qo co (z5.1, (fm_origin v (xs (1 + 5 * t + 1))).2, z5.2))) [0, 1, 2, 3, 4, 5, 7, 8, 9, 10, 11, 12, 13, 6] rfl
                          have hD : va_D A (wA n a ca a2 ca2 qo co (z5.1, (fm_origin v (xs (1 + 5 * t + 1))).2, z5.2)) := hD.sub (ws' := (wA n a ca a2 ca2 qo co (z5.1, (fm_origin v (xs (1 + 5 * t + 1))).2, z5.2))) [0, 1, 2, 3, 4, 5, 7, 8, 9, 10, 11, 12, 13, 6] (by decide) rfl
                          obtain ⟨hq1, hq2, hR⟩ := law_origin hR (xs (1 + 5 * t + 1)) hp
                          have hR : rR n (2 * (t + 1)) z5.1 ((fm_origin v (xs (1 + 5 * t + 1))).2) := hR.up (by omega)
                          refine lv_lstore hx hb dL_law_660 hl (by decide) rfl (fun ls hl => ?_)
                          have hl : lv_has ls 8 [(6, .long ((fm_origin v (xs (1 + 5 * t + 1))).1)), (5, .int r5), (0, .ref b), (1, .ref (a 0)), (2, .ref (a2 0)), (3, .ref qo), (4, .int (nI (1 + 5 * t)))] := hl
                          refine lv_aload_n hx hb dL_law_662 rfl (lv_at hl 4 rfl) ?_
                          refine zf_i (mc := 0) (ms := 0) (σ := StM) (tys1 := fun _ => tM ca2) (w1 := fun z => wM n a2 ca2 z) (w0 := (wM n a2 ca2 ((fm_origin v (xs (1 + 5 * t + 1))).2))) (wr := (wC n a ca z5.1 ++ [(qo, .inl (co, 1, .inr (.inl z5.2)))])) (va_runV (As := []) (rest := []) ⟨hx, hb, hml, hown, hts⟩ (c_M_thrown l dC dI n a2 ca2 ((fm_origin v (xs (1 + 5 * t + 1))).2) H.size ) (cwV 0 hts gL_law_X1_thrown rfl rfl rfl (by decide +kernel) ⟨Nat.le_of_ble_eq_true rfl, Nat.le_of_ble_eq_true rfl⟩) ⟨zr_blind, (va_recv (q0 := 6) (ci := 1) (q := (RX1, TX1, 15)) hK hP rfl rfl), zr_pre (hK.sub (tys' := tM ca2) [5, 6, 7, 8, 9, 10] rfl) (hP.sub (ws' := (wM n a2 ca2 ((fm_origin v (xs (1 + 5 * t + 1))).2))) [6, 7, 8, 9, 10, 11, 12] rfl) (hD.sub (ws' := (wM n a2 ca2 ((fm_origin v (xs (1 + 5 * t + 1))).2))) [6, 7, 8, 9, 10, 11, 12] (by decide) rfl)⟩ rfl rfl hl.1 rfl (lv_room (Nat.le_of_ble_eq_true rfl)) dL_law_663 ⟨by show _ ≤ 648629; omega, by show _ ≤ 7150182; omega⟩) hP hD hS hA [6, 7, 8, 9, 10, 11, 12] [0, 1, 2, 3, 4, 5, 13] rfl rfl (by decide) (by decide) (fun r9 z9 H locs hp9 hP hD _ hS => ?_)
                          obtain ⟨hr9, hz9⟩ := hp9
                          subst hr9
                          have hz9 : ((fm_origin v (xs (1 + 5 * t + 1))).2) = z9 := hz9.symm
                          subst hz9
                          have hP : va_P (dC, dI) vwCl (wA n a ca a2 ca2 qo co (z5.1, (fm_origin v (xs (1 + 5 * t + 1))).2, z5.2)) H := hP.sub (ws' := (wA n a ca a2 ca2 qo co (z5.1, (fm_origin v (xs (1 + 5 * t + 1))).2, z5.2))) [0, 1, 2, 3, 4, 5, 7, 8, 9, 10, 11, 12, 13, 6] rfl
                          have hD : va_D A (wA n a ca a2 ca2 qo co (z5.1, (fm_origin v (xs (1 + 5 * t + 1))).2, z5.2)) := hD.sub (ws' := (wA n a ca a2 ca2 qo co (z5.1, (fm_origin v (xs (1 + 5 * t + 1))).2, z5.2))) [0, 1, 2, 3, 4, 5, 7, 8, 9, 10, 11, 12, 13, 6] (by decide) rfl
                          refine lv_iload hx hb dL_law_666 (lv_at hl 1 rfl) ?_
                          refine lv_icmp_eq hx hb dL_law_668 (tgt := 673) rfl (fun _ => ?_) (fun h => absurd hq1 h)
                          refine lv_iload hx hb dL_law_673 (lv_at hl 1 rfl) ?_
                          refine lv_if_ne hx hb dL_law_675 (tgt := 689) rfl (fun _ => ?_) (fun hk0 => ?_)
                          · refine lv_goto hx hb dL_law_689 (tgt := 860) rfl ?_
                            refine lv_iinc (k := 6) (v := nI (1 + 5 * (t + 1))) hx hb dL_law_860 hl rfl (by rw [show Int32.ofInt 5 = nI 5 by decide, nI_add]; exact congrArg nI (by omega)) (by decide) rfl (fun ls hl => ?_)
                            have hl : lv_has ls 8 [(4, .int (nI (1 + 5 * (t + 1)))), (6, .long ((fm_origin v (xs (1 + 5 * t + 1))).1)), (5, .int r5), (0, .ref b), (1, .ref (a 0)), (2, .ref (a2 0)), (3, .ref qo)] := hl
                            refine lv_goto hx hb dL_law_863 (tgt := 33) rfl ?_
                            exact ih r' (t + 1, z5.1, (fm_origin v (xs (1 + 5 * t + 1))).2, z5.2) _ _ _ (by omega) ⟨by show r' + (t + 1) = 512; omega, hR, lv_sub hl [3, 4, 5, 6, 0] rfl, hP, hD, hS⟩
                          · refine lv_aload_n hx hb dL_law_678 rfl (lv_at hl 5 rfl) ?_
                            refine lv_iconst (v := 0) hx hb dL_law_679 (by decide) ?_
                            refine zr_lald (k := 0) hx hb hK hP 13 11 rfl rfl (by decide) (by decide) dL_law_680 ?_
                            refine lv_lload hx hb dL_law_681 (lv_at hl 0 rfl) ?_
                            refine W.lcmp hx hb dL_law_683 ?_
                            refine lv_if_eq hx hb dL_law_684 (tgt := 689) rfl (fun _ => ?_) (fun h => absurd ((lg_cmp_eq _ _).mpr (hq2 hk0)) h)
                            refine lv_goto hx hb dL_law_689 (tgt := 860) rfl ?_
                            refine lv_iinc (k := 6) (v := nI (1 + 5 * (t + 1))) hx hb dL_law_860 hl rfl (by rw [show Int32.ofInt 5 = nI 5 by decide, nI_add]; exact congrArg nI (by omega)) (by decide) rfl (fun ls hl => ?_)
                            have hl : lv_has ls 8 [(4, .int (nI (1 + 5 * (t + 1)))), (6, .long ((fm_origin v (xs (1 + 5 * t + 1))).1)), (5, .int r5), (0, .ref b), (1, .ref (a 0)), (2, .ref (a2 0)), (3, .ref qo)] := hl
                            refine lv_goto hx hb dL_law_863 (tgt := 33) rfl ?_
                            exact ih r' (t + 1, z5.1, (fm_origin v (xs (1 + 5 * t + 1))).2, z5.2) _ _ _ (by omega) ⟨by show r' + (t + 1) = 512; omega, hR, lv_sub hl [3, 4, 5, 6, 0] rfl, hP, hD, hS⟩
                        · rcases Classical.em (y0 = 11) with e11 | e11
                          · refine lv_tableIn (off := 643) (tgt := 692) hx hb dL_law_49 (by rw [e11]; decide) (by rw [e11]; decide) (by rw [e11]; decide) rfl ?_
                            refine lv_aload_n hx hb dL_law_692 rfl (lv_at hl 1 rfl) ?_
                            refine lv_aload_n hx hb dL_law_693 rfl (lv_at hl 0 rfl) ?_
                            refine lv_iload hx hb dL_law_694 (lv_at hl 4 rfl) ?_
                            refine lv_iconst (v := 1) hx hb dL_law_696 (by decide) ?_
                            refine lv_iadd hx hb dL_law_697 ?_
                            refine zr_sldk hx hb hX hbl hbA hS 1 (by decide) (by omega) hL dL_law_698 ?_
                            refine lv_aload_n hx hb dL_law_699 rfl (lv_at hl 3 rfl) ?_
                            have hFc := va_free (wc := (wL n a ca qo co (u, f))) hD hS hA [0, 1, 2, 3, 4, 5, 13] rfl
                            refine zf_i (mc := 1) (ms := 6) (σ := StC × (Nat → Int64)) (tys1 := fun _ => (tC ca ++ [(co, .long)])) (w1 := fun z => wL n a ca qo co z) (w0 := (wL n a ca qo co (u, f))) (wr := (wM n a2 ca2 v)) (vx_runSW (As := [.ref (a 0), .int (xs (1 + 5 * t + 1)), .ref qo]) (rest := []) ⟨hx, hb, hml, hown, hts⟩ (c_L_order l hl9 sa dC dI n a ca u qo co f H.size (xs (1 + 5 * t + 1)) hn) (vx_cwSW 3 hts gL_law_L_order rfl rfl rfl (by decide +kernel) ⟨Nat.le_of_ble_eq_true rfl, Nat.le_of_ble_eq_true rfl⟩) ⟨fun a U g mk q => ⟨q.1, ⟨q.2.1.1, q.2.1.2.1, va_K.moved (u := U) (U := U.calling g mk a) (Vm.Alike.refl U.vm) q.2.1.2.2.1, q.2.1.2.2.2⟩, q.2.2.1.call, q.2.2.2.to (U := U.calling g mk a) (Vm.Alike.refl U.vm)⟩, fun U hU hW => ⟨rfl, (zr_pre (As := [.ref (a 0)]) (hK.sub (tys' := (tC ca ++ [(co, .long)])) [0, 1, 2, 3, 4, 11] rfl) (hP.sub (ws' := (wL n a ca qo co (u, f))) [0, 1, 2, 3, 4, 5, 13] rfl) (hD.sub (ws' := (wL n a ca qo co (u, f))) [0, 1, 2, 3, 4, 5, 13] (by decide) rfl) U hU hW).2, hE.to hW (fun q h1 h2 => by rw [hU]; exact hS.2.1 q h1 h2) hFc, hC.to hW.alike⟩⟩ rfl rfl hl.1 rfl (lv_room (Nat.le_of_ble_eq_true rfl)) dL_law_700 ⟨by show _ ≤ 648629; omega, by show _ ≤ 7150182; omega⟩) hP hD hS hA [0, 1, 2, 3, 4, 5, 13] [6, 7, 8, 9, 10, 11, 12] rfl rfl (by decide) (by decide) (fun r5 z5 H locs hp hP hD _ hS => ?_)
                            refine W.widen (k := 14 + 2 * (t + 1)) (n := 265 + 12 * (t + 1)) (by omega) (by omega) ?_
                            have hP : va_P (dC, dI) vwCl (wA n a ca a2 ca2 qo co (z5.1, v, z5.2)) H := hP.sub (ws' := (wA n a ca a2 ca2 qo co (z5.1, v, z5.2))) [7, 8, 9, 10, 11, 12, 0, 1, 2, 3, 4, 5, 6, 13] rfl
                            have hD : va_D A (wA n a ca a2 ca2 qo co (z5.1, v, z5.2)) := hD.sub (ws' := (wA n a ca a2 ca2 qo co (z5.1, v, z5.2))) [7, 8, 9, 10, 11, 12, 0, 1, 2, 3, 4, 5, 6, 13] (by decide) rfl
                            refine lv_istore hx hb dL_law_703 hl (by decide) rfl (fun ls hl => ?_)
                            have hl : lv_has ls 8 [(5, .int r5), (0, .ref b), (1, .ref (a 0)), (2, .ref (a2 0)), (3, .ref qo), (4, .int (nI (1 + 5 * t)))] := hl
                            refine lv_aload_n hx hb dL_law_705 rfl (lv_at hl 3 rfl) ?_
                            refine lv_aload_n hx hb dL_law_706 rfl (lv_at hl 1 rfl) ?_
                            refine lv_iload hx hb dL_law_707 (lv_at hl 5 rfl) ?_
                            refine lv_iconst (v := 1) hx hb dL_law_709 (by decide) ?_
                            refine lv_iadd hx hb dL_law_710 ?_
                            refine zr_sldk hx hb hX hbl hbA hS 1 (by decide) (by omega) hL dL_law_711 ?_
                            refine zf_i (mc := 0) (ms := 0) (σ := StM) (tys1 := fun _ => tM ca2) (w1 := fun z => wM n a2 ca2 z) (w0 := (wM n a2 ca2 v)) (wr := (wC n a ca z5.1 ++ [(qo, .inl (co, 1, .inr (.inl z5.2)))])) (va_runV (As := [.int (xs (1 + 5 * t + 1))]) (rest := []) ⟨hx, hb, hml, hown, hts⟩ (c_M_order l dC dI n a2 ca2 v H.size (xs (1 + 5 * t + 1)) hn) (cwV 1 hts gL_law_X1_order rfl rfl rfl (by decide +kernel) ⟨Nat.le_of_ble_eq_true rfl, Nat.le_of_ble_eq_true rfl⟩) ⟨zr_blind, (va_recv (q0 := 6) (ci := 1) (q := (RX1, TX1, 15)) hK hP rfl rfl), zr_pre (hK.sub (tys' := tM ca2) [5, 6, 7, 8, 9, 10] rfl) (hP.sub (ws' := (wM n a2 ca2 v)) [6, 7, 8, 9, 10, 11, 12] rfl) (hD.sub (ws' := (wM n a2 ca2 v)) [6, 7, 8, 9, 10, 11, 12] (by decide) rfl)⟩ rfl rfl hl.1 rfl (lv_room (Nat.le_of_ble_eq_true rfl)) dL_law_712 ⟨by show _ ≤ 648629; omega, by show _ ≤ 7150182; omega⟩) hP hD hS hA [6, 7, 8, 9, 10, 11, 12] [0, 1, 2, 3, 4, 5, 13] rfl rfl (by decide) (by decide) (fun r9 z9 H locs hp9 hP hD _ hS => ?_)
                            obtain ⟨hr9, hz9⟩ := hp9
                            subst hr9
                            have hz9 : (fm_order n v (xs (1 + 5 * t + 1))).2 = z9 := hz9.symm
                            subst hz9
                            have hP : va_P (dC, dI) vwCl (wA n a ca a2 ca2 qo co (z5.1, (fm_order n v (xs (1 + 5 * t + 1))).2, z5.2)) H := hP.sub (ws' := (wA n a ca a2 ca2 qo co (z5.1, (fm_order n v (xs (1 + 5 * t + 1))).2, z5.2))) [0, 1, 2, 3, 4, 5, 7, 8, 9, 10, 11, 12, 13, 6] rfl
                            have hD : va_D A (wA n a ca a2 ca2 qo co (z5.1, (fm_order n v (xs (1 + 5 * t + 1))).2, z5.2)) := hD.sub (ws' := (wA n a ca a2 ca2 qo co (z5.1, (fm_order n v (xs (1 + 5 * t + 1))).2, z5.2))) [0, 1, 2, 3, 4, 5, 7, 8, 9, 10, 11, 12, 13, 6] (by decide) rfl
                            obtain ⟨hq1, hq2, hR⟩ := law_order hR (xs (1 + 5 * t + 1)) hp
                            have hR : rR n (2 * (t + 1)) z5.1 ((fm_order n v (xs (1 + 5 * t + 1))).2) := hR.up (by omega)
                            refine lv_istore hx hb dL_law_715 hl (by decide) rfl (fun ls hl => ?_)
                            have hl : lv_has ls 8 [(6, .int ((fm_order n v (xs (1 + 5 * t + 1))).1)), (5, .int r5), (0, .ref b), (1, .ref (a 0)), (2, .ref (a2 0)), (3, .ref qo), (4, .int (nI (1 + 5 * t)))] := hl
                            refine lv_aload_n hx hb dL_law_717 rfl (lv_at hl 4 rfl) ?_
                            refine zf_i (mc := 0) (ms := 0) (σ := StM) (tys1 := fun _ => tM ca2) (w1 := fun z => wM n a2 ca2 z) (w0 := (wM n a2 ca2 ((fm_order n v (xs (1 + 5 * t + 1))).2))) (wr := (wC n a ca z5.1 ++ [(qo, .inl (co, 1, .inr (.inl z5.2)))])) (va_runV (As := []) (rest := []) ⟨hx, hb, hml, hown, hts⟩ (c_M_thrown l dC dI n a2 ca2 ((fm_order n v (xs (1 + 5 * t + 1))).2) H.size ) (cwV 0 hts gL_law_X1_thrown rfl rfl rfl (by decide +kernel) ⟨Nat.le_of_ble_eq_true rfl, Nat.le_of_ble_eq_true rfl⟩) ⟨zr_blind, (va_recv (q0 := 6) (ci := 1) (q := (RX1, TX1, 15)) hK hP rfl rfl), zr_pre (hK.sub (tys' := tM ca2) [5, 6, 7, 8, 9, 10] rfl) (hP.sub (ws' := (wM n a2 ca2 ((fm_order n v (xs (1 + 5 * t + 1))).2))) [6, 7, 8, 9, 10, 11, 12] rfl) (hD.sub (ws' := (wM n a2 ca2 ((fm_order n v (xs (1 + 5 * t + 1))).2))) [6, 7, 8, 9, 10, 11, 12] (by decide) rfl)⟩ rfl rfl hl.1 rfl (lv_room (Nat.le_of_ble_eq_true rfl)) dL_law_718 ⟨by show _ ≤ 648629; omega, by show _ ≤ 7150182; omega⟩) hP hD hS hA [6, 7, 8, 9, 10, 11, 12] [0, 1, 2, 3, 4, 5, 13] rfl rfl (by decide) (by decide) (fun r9 z9 H locs hp9 hP hD _ hS => ?_)
                            obtain ⟨hr9, hz9⟩ := hp9
                            subst hr9
                            have hz9 : ((fm_order n v (xs (1 + 5 * t + 1))).2) = z9 := hz9.symm
                            subst hz9
                            have hP : va_P (dC, dI) vwCl (wA n a ca a2 ca2 qo co (z5.1, (fm_order n v (xs (1 + 5 * t + 1))).2, z5.2)) H := hP.sub (ws' := (wA n a ca a2 ca2 qo co (z5.1, (fm_order n v (xs (1 + 5 * t + 1))).2, z5.2))) [0, 1, 2, 3, 4, 5, 7, 8, 9, 10, 11, 12, 13, 6] rfl
                            have hD : va_D A (wA n a ca a2 ca2 qo co (z5.1, (fm_order n v (xs (1 + 5 * t + 1))).2, z5.2)) := hD.sub (ws' := (wA n a ca a2 ca2 qo co (z5.1, (fm_order n v (xs (1 + 5 * t + 1))).2, z5.2))) [0, 1, 2, 3, 4, 5, 7, 8, 9, 10, 11, 12, 13, 6] (by decide) rfl
                            refine lv_iload hx hb dL_law_721 (lv_at hl 1 rfl) ?_
                            refine lv_icmp_eq hx hb dL_law_723 (tgt := 728) rfl (fun _ => ?_) (fun h => absurd hq1 h)
                            refine lv_iload hx hb dL_law_728 (lv_at hl 1 rfl) ?_
                            refine lv_if_ne hx hb dL_law_730 (tgt := 745) rfl (fun _ => ?_) (fun hk0 => ?_)
                            · refine lv_goto hx hb dL_law_745 (tgt := 860) rfl ?_
                              refine lv_iinc (k := 6) (v := nI (1 + 5 * (t + 1))) hx hb dL_law_860 hl rfl (by rw [show Int32.ofInt 5 = nI 5 by decide, nI_add]; exact congrArg nI (by omega)) (by decide) rfl (fun ls hl => ?_)
                              have hl : lv_has ls 8 [(4, .int (nI (1 + 5 * (t + 1)))), (6, .int ((fm_order n v (xs (1 + 5 * t + 1))).1)), (5, .int r5), (0, .ref b), (1, .ref (a 0)), (2, .ref (a2 0)), (3, .ref qo)] := hl
                              refine lv_goto hx hb dL_law_863 (tgt := 33) rfl ?_
                              exact ih r' (t + 1, z5.1, (fm_order n v (xs (1 + 5 * t + 1))).2, z5.2) _ _ _ (by omega) ⟨by show r' + (t + 1) = 512; omega, hR, lv_sub hl [3, 4, 5, 6, 0] rfl, hP, hD, hS⟩
                            · refine lv_aload_n hx hb dL_law_733 rfl (lv_at hl 5 rfl) ?_
                              refine lv_iconst (v := 0) hx hb dL_law_734 (by decide) ?_
                              refine zr_lald (k := 0) hx hb hK hP 13 11 rfl rfl (by decide) (by decide) dL_law_735 ?_
                              refine lv_iload hx hb dL_law_736 (lv_at hl 0 rfl) ?_
                              refine lv_i2l hx hb dL_law_738 rfl ?_
                              refine W.lcmp hx hb dL_law_739 ?_
                              refine lv_if_eq hx hb dL_law_740 (tgt := 745) rfl (fun _ => ?_) (fun h => absurd ((lg_cmp_eq _ _).mpr (hq2 hk0)) h)
                              refine lv_goto hx hb dL_law_745 (tgt := 860) rfl ?_
                              refine lv_iinc (k := 6) (v := nI (1 + 5 * (t + 1))) hx hb dL_law_860 hl rfl (by rw [show Int32.ofInt 5 = nI 5 by decide, nI_add]; exact congrArg nI (by omega)) (by decide) rfl (fun ls hl => ?_)
                              have hl : lv_has ls 8 [(4, .int (nI (1 + 5 * (t + 1)))), (6, .int ((fm_order n v (xs (1 + 5 * t + 1))).1)), (5, .int r5), (0, .ref b), (1, .ref (a 0)), (2, .ref (a2 0)), (3, .ref qo)] := hl
                              refine lv_goto hx hb dL_law_863 (tgt := 33) rfl ?_
                              exact ih r' (t + 1, z5.1, (fm_order n v (xs (1 + 5 * t + 1))).2, z5.2) _ _ _ (by omega) ⟨by show r' + (t + 1) = 512; omega, hR, lv_sub hl [3, 4, 5, 6, 0] rfl, hP, hD, hS⟩
                          · rcases Classical.em (y0 = 12) with e12 | e12
                            · refine lv_tableIn (off := 699) (tgt := 748) hx hb dL_law_49 (by rw [e12]; decide) (by rw [e12]; decide) (by rw [e12]; decide) rfl ?_
                              refine lv_aload_n hx hb dL_law_748 rfl (lv_at hl 1 rfl) ?_
                              refine lv_aload_n hx hb dL_law_749 rfl (lv_at hl 0 rfl) ?_
                              refine lv_iload hx hb dL_law_750 (lv_at hl 4 rfl) ?_
                              refine lv_iconst (v := 1) hx hb dL_law_752 (by decide) ?_
                              refine lv_iadd hx hb dL_law_753 ?_
                              refine zr_sldk hx hb hX hbl hbA hS 1 (by decide) (by omega) hL dL_law_754 ?_
                              refine lv_aload_n hx hb dL_law_755 rfl (lv_at hl 3 rfl) ?_
                              have hFc := va_free (wc := (wL n a ca qo co (u, f))) hD hS hA [0, 1, 2, 3, 4, 5, 13] rfl
                              refine zf_i (mc := 1) (ms := 6) (σ := StC × (Nat → Int64)) (tys1 := fun _ => (tC ca ++ [(co, .long)])) (w1 := fun z => wL n a ca qo co z) (w0 := (wL n a ca qo co (u, f))) (wr := (wM n a2 ca2 v)) (vx_runSW (As := [.ref (a 0), .int (xs (1 + 5 * t + 1)), .ref qo]) (rest := []) ⟨hx, hb, hml, hown, hts⟩ (c_L_noted l hl9 sa dC dI n a ca u qo co f H.size (xs (1 + 5 * t + 1)) hn) (vx_cwSW 3 hts gL_law_L_noted rfl rfl rfl (by decide +kernel) ⟨Nat.le_of_ble_eq_true rfl, Nat.le_of_ble_eq_true rfl⟩) ⟨fun a U g mk q => ⟨q.1, ⟨q.2.1.1, q.2.1.2.1, va_K.moved (u := U) (U := U.calling g mk a) (Vm.Alike.refl U.vm) q.2.1.2.2.1, q.2.1.2.2.2⟩, q.2.2.1.call, q.2.2.2.to (U := U.calling g mk a) (Vm.Alike.refl U.vm)⟩, fun U hU hW => ⟨rfl, (zr_pre (As := [.ref (a 0)]) (hK.sub (tys' := (tC ca ++ [(co, .long)])) [0, 1, 2, 3, 4, 11] rfl) (hP.sub (ws' := (wL n a ca qo co (u, f))) [0, 1, 2, 3, 4, 5, 13] rfl) (hD.sub (ws' := (wL n a ca qo co (u, f))) [0, 1, 2, 3, 4, 5, 13] (by decide) rfl) U hU hW).2, hE.to hW (fun q h1 h2 => by rw [hU]; exact hS.2.1 q h1 h2) hFc, hC.to hW.alike⟩⟩ rfl rfl hl.1 rfl (lv_room (Nat.le_of_ble_eq_true rfl)) dL_law_756 ⟨by show _ ≤ 648629; omega, by show _ ≤ 7150182; omega⟩) hP hD hS hA [0, 1, 2, 3, 4, 5, 13] [6, 7, 8, 9, 10, 11, 12] rfl rfl (by decide) (by decide) (fun r5 z5 H locs hp hP hD _ hS => ?_)
                              refine W.widen (k := 14 + 2 * (t + 1)) (n := 265 + 12 * (t + 1)) (by omega) (by omega) ?_
                              have hP : va_P (dC, dI) vwCl (wA n a ca a2 ca2 qo co (z5.1, v, z5.2)) H := hP.sub (ws' := (wA n a ca a2 ca2 qo co (z5.1, v, z5.2))) [7, 8, 9, 10, 11, 12, 0, 1, 2, 3, 4, 5, 6, 13] rfl
                              have hD : va_D A (wA n a ca a2 ca2 qo co (z5.1, v, z5.2)) := hD.sub (ws' := (wA n a ca a2 ca2 qo co (z5.1, v, z5.2))) [7, 8, 9, 10, 11, 12, 0, 1, 2, 3, 4, 5, 6, 13] (by decide) rfl
                              refine lv_istore hx hb dL_law_759 hl (by decide) rfl (fun ls hl => ?_)
                              have hl : lv_has ls 8 [(5, .int r5), (0, .ref b), (1, .ref (a 0)), (2, .ref (a2 0)), (3, .ref qo), (4, .int (nI (1 + 5 * t)))] := hl
                              refine lv_aload_n hx hb dL_law_761 rfl (lv_at hl 3 rfl) ?_
                              refine lv_aload_n hx hb dL_law_762 rfl (lv_at hl 1 rfl) ?_
                              refine lv_iload hx hb dL_law_763 (lv_at hl 5 rfl) ?_
                              refine lv_iconst (v := 1) hx hb dL_law_765 (by decide) ?_
                              refine lv_iadd hx hb dL_law_766 ?_
                              refine zr_sldk hx hb hX hbl hbA hS 1 (by decide) (by omega) hL dL_law_767 ?_
                              refine zf_i (mc := 0) (ms := 0) (σ := StM) (tys1 := fun _ => tM ca2) (w1 := fun z => wM n a2 ca2 z) (w0 := (wM n a2 ca2 v)) (wr := (wC n a ca z5.1 ++ [(qo, .inl (co, 1, .inr (.inl z5.2)))])) (va_runV (As := [.int (xs (1 + 5 * t + 1))]) (rest := []) ⟨hx, hb, hml, hown, hts⟩ (c_M_noted l dC dI n a2 ca2 v H.size (xs (1 + 5 * t + 1)) hn) (cwV 1 hts gL_law_X1_noted rfl rfl rfl (by decide +kernel) ⟨Nat.le_of_ble_eq_true rfl, Nat.le_of_ble_eq_true rfl⟩) ⟨zr_blind, (va_recv (q0 := 6) (ci := 1) (q := (RX1, TX1, 15)) hK hP rfl rfl), zr_pre (hK.sub (tys' := tM ca2) [5, 6, 7, 8, 9, 10] rfl) (hP.sub (ws' := (wM n a2 ca2 v)) [6, 7, 8, 9, 10, 11, 12] rfl) (hD.sub (ws' := (wM n a2 ca2 v)) [6, 7, 8, 9, 10, 11, 12] (by decide) rfl)⟩ rfl rfl hl.1 rfl (lv_room (Nat.le_of_ble_eq_true rfl)) dL_law_768 ⟨by show _ ≤ 648629; omega, by show _ ≤ 7150182; omega⟩) hP hD hS hA [6, 7, 8, 9, 10, 11, 12] [0, 1, 2, 3, 4, 5, 13] rfl rfl (by decide) (by decide) (fun r9 z9 H locs hp9 hP hD _ hS => ?_)
                              obtain ⟨hr9, hz9⟩ := hp9
                              subst hr9
                              have hz9 : (fm_noted n v (xs (1 + 5 * t + 1))).2 = z9 := hz9.symm
                              subst hz9
                              have hP : va_P (dC, dI) vwCl (wA n a ca a2 ca2 qo co (z5.1, (fm_noted n v (xs (1 + 5 * t + 1))).2, z5.2)) H := hP.sub (ws' := (wA n a ca a2 ca2 qo co (z5.1, (fm_noted n v (xs (1 + 5 * t + 1))).2, z5.2))) [0, 1, 2, 3, 4, 5, 7, 8, 9, 10, 11, 12, 13, 6] rfl
                              have hD : va_D A (wA n a ca a2 ca2 qo co (z5.1, (fm_noted n v (xs (1 + 5 * t + 1))).2, z5.2)) := hD.sub (ws' := (wA n a ca a2 ca2 qo co (z5.1, (fm_noted n v (xs (1 + 5 * t + 1))).2, z5.2))) [0, 1, 2, 3, 4, 5, 7, 8, 9, 10, 11, 12, 13, 6] (by decide) rfl
                              obtain ⟨hq1, hq2, hR⟩ := law_noted hn hR (xs (1 + 5 * t + 1)) hp
                              have hR : rR n (2 * (t + 1)) z5.1 ((fm_noted n v (xs (1 + 5 * t + 1))).2) := hR.up (by omega)
                              refine lv_istore hx hb dL_law_771 hl (by decide) rfl (fun ls hl => ?_)
                              have hl : lv_has ls 8 [(6, .int ((fm_noted n v (xs (1 + 5 * t + 1))).1)), (5, .int r5), (0, .ref b), (1, .ref (a 0)), (2, .ref (a2 0)), (3, .ref qo), (4, .int (nI (1 + 5 * t)))] := hl
                              refine lv_aload_n hx hb dL_law_773 rfl (lv_at hl 4 rfl) ?_
                              refine zf_i (mc := 0) (ms := 0) (σ := StM) (tys1 := fun _ => tM ca2) (w1 := fun z => wM n a2 ca2 z) (w0 := (wM n a2 ca2 ((fm_noted n v (xs (1 + 5 * t + 1))).2))) (wr := (wC n a ca z5.1 ++ [(qo, .inl (co, 1, .inr (.inl z5.2)))])) (va_runV (As := []) (rest := []) ⟨hx, hb, hml, hown, hts⟩ (c_M_thrown l dC dI n a2 ca2 ((fm_noted n v (xs (1 + 5 * t + 1))).2) H.size ) (cwV 0 hts gL_law_X1_thrown rfl rfl rfl (by decide +kernel) ⟨Nat.le_of_ble_eq_true rfl, Nat.le_of_ble_eq_true rfl⟩) ⟨zr_blind, (va_recv (q0 := 6) (ci := 1) (q := (RX1, TX1, 15)) hK hP rfl rfl), zr_pre (hK.sub (tys' := tM ca2) [5, 6, 7, 8, 9, 10] rfl) (hP.sub (ws' := (wM n a2 ca2 ((fm_noted n v (xs (1 + 5 * t + 1))).2))) [6, 7, 8, 9, 10, 11, 12] rfl) (hD.sub (ws' := (wM n a2 ca2 ((fm_noted n v (xs (1 + 5 * t + 1))).2))) [6, 7, 8, 9, 10, 11, 12] (by decide) rfl)⟩ rfl rfl hl.1 rfl (lv_room (Nat.le_of_ble_eq_true rfl)) dL_law_774 ⟨by show _ ≤ 648629; omega, by show _ ≤ 7150182; omega⟩) hP hD hS hA [6, 7, 8, 9, 10, 11, 12] [0, 1, 2, 3, 4, 5, 13] rfl rfl (by decide) (by decide) (fun r9 z9 H locs hp9 hP hD _ hS => ?_)
                              obtain ⟨hr9, hz9⟩ := hp9
                              subst hr9
                              have hz9 : ((fm_noted n v (xs (1 + 5 * t + 1))).2) = z9 := hz9.symm
                              subst hz9
                              have hP : va_P (dC, dI) vwCl (wA n a ca a2 ca2 qo co (z5.1, (fm_noted n v (xs (1 + 5 * t + 1))).2, z5.2)) H := hP.sub (ws' := (wA n a ca a2 ca2 qo co (z5.1, (fm_noted n v (xs (1 + 5 * t + 1))).2, z5.2))) [0, 1, 2, 3, 4, 5, 7, 8, 9, 10, 11, 12, 13, 6] rfl
                              have hD : va_D A (wA n a ca a2 ca2 qo co (z5.1, (fm_noted n v (xs (1 + 5 * t + 1))).2, z5.2)) := hD.sub (ws' := (wA n a ca a2 ca2 qo co (z5.1, (fm_noted n v (xs (1 + 5 * t + 1))).2, z5.2))) [0, 1, 2, 3, 4, 5, 7, 8, 9, 10, 11, 12, 13, 6] (by decide) rfl
                              refine lv_iload hx hb dL_law_777 (lv_at hl 1 rfl) ?_
                              refine lv_icmp_eq hx hb dL_law_779 (tgt := 784) rfl (fun _ => ?_) (fun h => absurd hq1 h)
                              refine lv_iload hx hb dL_law_784 (lv_at hl 1 rfl) ?_
                              refine lv_if_ne hx hb dL_law_786 (tgt := 801) rfl (fun _ => ?_) (fun hk0 => ?_)
                              · refine lv_goto hx hb dL_law_801 (tgt := 860) rfl ?_
                                refine lv_iinc (k := 6) (v := nI (1 + 5 * (t + 1))) hx hb dL_law_860 hl rfl (by rw [show Int32.ofInt 5 = nI 5 by decide, nI_add]; exact congrArg nI (by omega)) (by decide) rfl (fun ls hl => ?_)
                                have hl : lv_has ls 8 [(4, .int (nI (1 + 5 * (t + 1)))), (6, .int ((fm_noted n v (xs (1 + 5 * t + 1))).1)), (5, .int r5), (0, .ref b), (1, .ref (a 0)), (2, .ref (a2 0)), (3, .ref qo)] := hl
                                refine lv_goto hx hb dL_law_863 (tgt := 33) rfl ?_
                                exact ih r' (t + 1, z5.1, (fm_noted n v (xs (1 + 5 * t + 1))).2, z5.2) _ _ _ (by omega) ⟨by show r' + (t + 1) = 512; omega, hR, lv_sub hl [3, 4, 5, 6, 0] rfl, hP, hD, hS⟩
                              · refine lv_aload_n hx hb dL_law_789 rfl (lv_at hl 5 rfl) ?_
                                refine lv_iconst (v := 0) hx hb dL_law_790 (by decide) ?_
                                refine zr_lald (k := 0) hx hb hK hP 13 11 rfl rfl (by decide) (by decide) dL_law_791 ?_
                                refine lv_iload hx hb dL_law_792 (lv_at hl 0 rfl) ?_
                                refine lv_i2l hx hb dL_law_794 rfl ?_
                                refine W.lcmp hx hb dL_law_795 ?_
                                refine lv_if_eq hx hb dL_law_796 (tgt := 801) rfl (fun _ => ?_) (fun h => absurd ((lg_cmp_eq _ _).mpr (hq2 hk0)) h)
                                refine lv_goto hx hb dL_law_801 (tgt := 860) rfl ?_
                                refine lv_iinc (k := 6) (v := nI (1 + 5 * (t + 1))) hx hb dL_law_860 hl rfl (by rw [show Int32.ofInt 5 = nI 5 by decide, nI_add]; exact congrArg nI (by omega)) (by decide) rfl (fun ls hl => ?_)
                                have hl : lv_has ls 8 [(4, .int (nI (1 + 5 * (t + 1)))), (6, .int ((fm_noted n v (xs (1 + 5 * t + 1))).1)), (5, .int r5), (0, .ref b), (1, .ref (a 0)), (2, .ref (a2 0)), (3, .ref qo)] := hl
                                refine lv_goto hx hb dL_law_863 (tgt := 33) rfl ?_
                                exact ih r' (t + 1, z5.1, (fm_noted n v (xs (1 + 5 * t + 1))).2, z5.2) _ _ _ (by omega) ⟨by show r' + (t + 1) = 512; omega, hR, lv_sub hl [3, 4, 5, 6, 0] rfl, hP, hD, hS⟩
                            · rcases Classical.em (y0 = 13) with e13 | e13
                              · refine lv_tableIn (off := 755) (tgt := 804) hx hb dL_law_49 (by rw [e13]; decide) (by rw [e13]; decide) (by rw [e13]; decide) rfl ?_
                                refine lv_aload_n hx hb dL_law_804 rfl (lv_at hl 1 rfl) ?_
                                refine lv_aload_n hx hb dL_law_805 rfl (lv_at hl 0 rfl) ?_
                                refine lv_iload hx hb dL_law_806 (lv_at hl 4 rfl) ?_
                                refine lv_iconst (v := 1) hx hb dL_law_808 (by decide) ?_
                                refine lv_iadd hx hb dL_law_809 ?_
                                refine zr_sldk hx hb hX hbl hbA hS 1 (by decide) (by omega) hL dL_law_810 ?_
                                refine lv_aload_n hx hb dL_law_811 rfl (lv_at hl 3 rfl) ?_
                                have hFc := va_free (wc := (wL n a ca qo co (u, f))) hD hS hA [0, 1, 2, 3, 4, 5, 13] rfl
                                refine zf_i (mc := 1) (ms := 6) (σ := StC × (Nat → Int64)) (tys1 := fun _ => (tC ca ++ [(co, .long)])) (w1 := fun z => wL n a ca qo co z) (w0 := (wL n a ca qo co (u, f))) (wr := (wM n a2 ca2 v)) (vx_runSW (As := [.ref (a 0), .int (xs (1 + 5 * t + 1)), .ref qo]) (rest := []) ⟨hx, hb, hml, hown, hts⟩ (c_L_figure l hl9 sa dC dI n a ca u qo co f H.size (xs (1 + 5 * t + 1)) hn) (vx_cwSW 3 hts gL_law_L_figure rfl rfl rfl (by decide +kernel) ⟨Nat.le_of_ble_eq_true rfl, Nat.le_of_ble_eq_true rfl⟩) ⟨fun a U g mk q => ⟨q.1, ⟨q.2.1.1, q.2.1.2.1, va_K.moved (u := U) (U := U.calling g mk a) (Vm.Alike.refl U.vm) q.2.1.2.2.1, q.2.1.2.2.2⟩, q.2.2.1.call, q.2.2.2.to (U := U.calling g mk a) (Vm.Alike.refl U.vm)⟩, fun U hU hW => ⟨rfl, (zr_pre (As := [.ref (a 0)]) (hK.sub (tys' := (tC ca ++ [(co, .long)])) [0, 1, 2, 3, 4, 11] rfl) (hP.sub (ws' := (wL n a ca qo co (u, f))) [0, 1, 2, 3, 4, 5, 13] rfl) (hD.sub (ws' := (wL n a ca qo co (u, f))) [0, 1, 2, 3, 4, 5, 13] (by decide) rfl) U hU hW).2, hE.to hW (fun q h1 h2 => by rw [hU]; exact hS.2.1 q h1 h2) hFc, hC.to hW.alike⟩⟩ rfl rfl hl.1 rfl (lv_room (Nat.le_of_ble_eq_true rfl)) dL_law_812 ⟨by show _ ≤ 648629; omega, by show _ ≤ 7150182; omega⟩) hP hD hS hA [0, 1, 2, 3, 4, 5, 13] [6, 7, 8, 9, 10, 11, 12] rfl rfl (by decide) (by decide) (fun r5 z5 H locs hp hP hD _ hS => ?_)
                                refine W.widen (k := 14 + 2 * (t + 1)) (n := 265 + 12 * (t + 1)) (by omega) (by omega) ?_
                                have hP : va_P (dC, dI) vwCl (wA n a ca a2 ca2 qo co (z5.1, v, z5.2)) H := hP.sub (ws' := (wA n a ca a2 ca2 qo co (z5.1, v, z5.2))) [7, 8, 9, 10, 11, 12, 0, 1, 2, 3, 4, 5, 6, 13] rfl
                                have hD : va_D A (wA n a ca a2 ca2 qo co (z5.1, v, z5.2)) := hD.sub (ws' := (wA n a ca a2 ca2 qo co (z5.1, v, z5.2))) [7, 8, 9, 10, 11, 12, 0, 1, 2, 3, 4, 5, 6, 13] (by decide) rfl
                                refine lv_istore hx hb dL_law_815 hl (by decide) rfl (fun ls hl => ?_)
                                have hl : lv_has ls 8 [(5, .int r5), (0, .ref b), (1, .ref (a 0)), (2, .ref (a2 0)), (3, .ref qo), (4, .int (nI (1 + 5 * t)))] := hl
                                refine lv_aload_n hx hb dL_law_817 rfl (lv_at hl 3 rfl) ?_
                                refine lv_aload_n hx hb dL_law_818 rfl (lv_at hl 1 rfl) ?_
                                refine lv_iload hx hb dL_law_819 (lv_at hl 5 rfl) ?_
                                refine lv_iconst (v := 1) hx hb dL_law_821 (by decide) ?_
                                refine lv_iadd hx hb dL_law_822 ?_
                                refine zr_sldk hx hb hX hbl hbA hS 1 (by decide) (by omega) hL dL_law_823 ?_
                                refine zf_i (mc := 0) (ms := 0) (σ := StM) (tys1 := fun _ => tM ca2) (w1 := fun z => wM n a2 ca2 z) (w0 := (wM n a2 ca2 v)) (wr := (wC n a ca z5.1 ++ [(qo, .inl (co, 1, .inr (.inl z5.2)))])) (va_runV (As := [.int (xs (1 + 5 * t + 1))]) (rest := []) ⟨hx, hb, hml, hown, hts⟩ (c_M_figure l dC dI n a2 ca2 v H.size (xs (1 + 5 * t + 1)) hn) (cwV 1 hts gL_law_X1_figure rfl rfl rfl (by decide +kernel) ⟨Nat.le_of_ble_eq_true rfl, Nat.le_of_ble_eq_true rfl⟩) ⟨zr_blind, (va_recv (q0 := 6) (ci := 1) (q := (RX1, TX1, 15)) hK hP rfl rfl), zr_pre (hK.sub (tys' := tM ca2) [5, 6, 7, 8, 9, 10] rfl) (hP.sub (ws' := (wM n a2 ca2 v)) [6, 7, 8, 9, 10, 11, 12] rfl) (hD.sub (ws' := (wM n a2 ca2 v)) [6, 7, 8, 9, 10, 11, 12] (by decide) rfl)⟩ rfl rfl hl.1 rfl (lv_room (Nat.le_of_ble_eq_true rfl)) dL_law_824 ⟨by show _ ≤ 648629; omega, by show _ ≤ 7150182; omega⟩) hP hD hS hA [6, 7, 8, 9, 10, 11, 12] [0, 1, 2, 3, 4, 5, 13] rfl rfl (by decide) (by decide) (fun r9 z9 H locs hp9 hP hD _ hS => ?_)
                                obtain ⟨hr9, hz9⟩ := hp9
                                subst hr9
                                have hz9 : (fm_figure n v (xs (1 + 5 * t + 1))).2 = z9 := hz9.symm
                                subst hz9
                                have hP : va_P (dC, dI) vwCl (wA n a ca a2 ca2 qo co (z5.1, (fm_figure n v (xs (1 + 5 * t + 1))).2, z5.2)) H := hP.sub (ws' := (wA n a ca a2 ca2 qo co (z5.1, (fm_figure n v (xs (1 + 5 * t + 1))).2, z5.2))) [0, 1, 2, 3, 4, 5, 7, 8, 9, 10, 11, 12, 13, 6] rfl
                                have hD : va_D A (wA n a ca a2 ca2 qo co (z5.1, (fm_figure n v (xs (1 + 5 * t + 1))).2, z5.2)) := hD.sub (ws' := (wA n a ca a2 ca2 qo co (z5.1, (fm_figure n v (xs (1 + 5 * t + 1))).2, z5.2))) [0, 1, 2, 3, 4, 5, 7, 8, 9, 10, 11, 12, 13, 6] (by decide) rfl
                                obtain ⟨hq1, hq2, hR⟩ := law_figure hR (xs (1 + 5 * t + 1)) hp
                                have hR : rR n (2 * (t + 1)) z5.1 ((fm_figure n v (xs (1 + 5 * t + 1))).2) := hR.up (by omega)
                                refine lv_istore hx hb dL_law_827 hl (by decide) rfl (fun ls hl => ?_)
                                have hl : lv_has ls 8 [(6, .int ((fm_figure n v (xs (1 + 5 * t + 1))).1)), (5, .int r5), (0, .ref b), (1, .ref (a 0)), (2, .ref (a2 0)), (3, .ref qo), (4, .int (nI (1 + 5 * t)))] := hl
                                refine lv_aload_n hx hb dL_law_829 rfl (lv_at hl 4 rfl) ?_
                                refine zf_i (mc := 0) (ms := 0) (σ := StM) (tys1 := fun _ => tM ca2) (w1 := fun z => wM n a2 ca2 z) (w0 := (wM n a2 ca2 ((fm_figure n v (xs (1 + 5 * t + 1))).2))) (wr := (wC n a ca z5.1 ++ [(qo, .inl (co, 1, .inr (.inl z5.2)))])) (va_runV (As := []) (rest := []) ⟨hx, hb, hml, hown, hts⟩ (c_M_thrown l dC dI n a2 ca2 ((fm_figure n v (xs (1 + 5 * t + 1))).2) H.size ) (cwV 0 hts gL_law_X1_thrown rfl rfl rfl (by decide +kernel) ⟨Nat.le_of_ble_eq_true rfl, Nat.le_of_ble_eq_true rfl⟩) ⟨zr_blind, (va_recv (q0 := 6) (ci := 1) (q := (RX1, TX1, 15)) hK hP rfl rfl), zr_pre (hK.sub (tys' := tM ca2) [5, 6, 7, 8, 9, 10] rfl) (hP.sub (ws' := (wM n a2 ca2 ((fm_figure n v (xs (1 + 5 * t + 1))).2))) [6, 7, 8, 9, 10, 11, 12] rfl) (hD.sub (ws' := (wM n a2 ca2 ((fm_figure n v (xs (1 + 5 * t + 1))).2))) [6, 7, 8, 9, 10, 11, 12] (by decide) rfl)⟩ rfl rfl hl.1 rfl (lv_room (Nat.le_of_ble_eq_true rfl)) dL_law_830 ⟨by show _ ≤ 648629; omega, by show _ ≤ 7150182; omega⟩) hP hD hS hA [6, 7, 8, 9, 10, 11, 12] [0, 1, 2, 3, 4, 5, 13] rfl rfl (by decide) (by decide) (fun r9 z9 H locs hp9 hP hD _ hS => ?_)
                                obtain ⟨hr9, hz9⟩ := hp9
                                subst hr9
                                have hz9 : ((fm_figure n v (xs (1 + 5 * t + 1))).2) = z9 := hz9.symm
                                subst hz9
                                have hP : va_P (dC, dI) vwCl (wA n a ca a2 ca2 qo co (z5.1, (fm_figure n v (xs (1 + 5 * t + 1))).2, z5.2)) H := hP.sub (ws' := (wA n a ca a2 ca2 qo co (z5.1, (fm_figure n v (xs (1 + 5 * t + 1))).2, z5.2))) [0, 1, 2, 3, 4, 5, 7, 8, 9, 10, 11, 12, 13, 6] rfl
                                have hD : va_D A (wA n a ca a2 ca2 qo co (z5.1, (fm_figure n v (xs (1 + 5 * t + 1))).2, z5.2)) := hD.sub (ws' := (wA n a ca a2 ca2 qo co (z5.1, (fm_figure n v (xs (1 + 5 * t + 1))).2, z5.2))) [0, 1, 2, 3, 4, 5, 7, 8, 9, 10, 11, 12, 13, 6] (by decide) rfl
                                refine lv_iload hx hb dL_law_833 (lv_at hl 1 rfl) ?_
                                refine lv_icmp_eq hx hb dL_law_835 (tgt := 840) rfl (fun _ => ?_) (fun h => absurd hq1 h)
                                refine lv_iload hx hb dL_law_840 (lv_at hl 1 rfl) ?_
                                refine lv_if_ne hx hb dL_law_842 (tgt := 857) rfl (fun _ => ?_) (fun hk0 => ?_)
                                · refine lv_goto hx hb dL_law_857 (tgt := 860) rfl ?_
                                  refine lv_iinc (k := 6) (v := nI (1 + 5 * (t + 1))) hx hb dL_law_860 hl rfl (by rw [show Int32.ofInt 5 = nI 5 by decide, nI_add]; exact congrArg nI (by omega)) (by decide) rfl (fun ls hl => ?_)
                                  have hl : lv_has ls 8 [(4, .int (nI (1 + 5 * (t + 1)))), (6, .int ((fm_figure n v (xs (1 + 5 * t + 1))).1)), (5, .int r5), (0, .ref b), (1, .ref (a 0)), (2, .ref (a2 0)), (3, .ref qo)] := hl
                                  refine lv_goto hx hb dL_law_863 (tgt := 33) rfl ?_
                                  exact ih r' (t + 1, z5.1, (fm_figure n v (xs (1 + 5 * t + 1))).2, z5.2) _ _ _ (by omega) ⟨by show r' + (t + 1) = 512; omega, hR, lv_sub hl [3, 4, 5, 6, 0] rfl, hP, hD, hS⟩
                                · refine lv_aload_n hx hb dL_law_845 rfl (lv_at hl 5 rfl) ?_
                                  refine lv_iconst (v := 0) hx hb dL_law_846 (by decide) ?_
                                  refine zr_lald (k := 0) hx hb hK hP 13 11 rfl rfl (by decide) (by decide) dL_law_847 ?_
                                  refine lv_iload hx hb dL_law_848 (lv_at hl 0 rfl) ?_
                                  refine lv_i2l hx hb dL_law_850 rfl ?_
                                  refine W.lcmp hx hb dL_law_851 ?_
                                  refine lv_if_eq hx hb dL_law_852 (tgt := 857) rfl (fun _ => ?_) (fun h => absurd ((lg_cmp_eq _ _).mpr (hq2 hk0)) h)
                                  refine lv_goto hx hb dL_law_857 (tgt := 860) rfl ?_
                                  refine lv_iinc (k := 6) (v := nI (1 + 5 * (t + 1))) hx hb dL_law_860 hl rfl (by rw [show Int32.ofInt 5 = nI 5 by decide, nI_add]; exact congrArg nI (by omega)) (by decide) rfl (fun ls hl => ?_)
                                  have hl : lv_has ls 8 [(4, .int (nI (1 + 5 * (t + 1)))), (6, .int ((fm_figure n v (xs (1 + 5 * t + 1))).1)), (5, .int r5), (0, .ref b), (1, .ref (a 0)), (2, .ref (a2 0)), (3, .ref qo)] := hl
                                  refine lv_goto hx hb dL_law_863 (tgt := 33) rfl ?_
                                  exact ih r' (t + 1, z5.1, (fm_figure n v (xs (1 + 5 * t + 1))).2, z5.2) _ _ _ (by omega) ⟨by show r' + (t + 1) = 512; omega, hR, lv_sub hl [3, 4, 5, 6, 0] rfl, hP, hD, hS⟩
                              · refine lv_tableOut hx hb dL_law_49 (zr_out14 e0 e1 e2 e3 e4 e5 e6 e7 e8 e9 e10 e11 e12 e13) (tgt := 860) rfl ?_
                                refine W.widen (k := 14 + 2 * (t + 1)) (n := 265 + 12 * (t + 1)) (by omega) (by omega) ?_
                                have hR := hR.up (show 2 * t ≤ 2 * (t + 1) by omega)
                                refine lv_iinc (k := 4) (v := nI (1 + 5 * (t + 1))) hx hb dL_law_860 hl rfl (by rw [show Int32.ofInt 5 = nI 5 by decide, nI_add]; exact congrArg nI (by omega)) (by decide) rfl (fun ls hl => ?_)
                                have hl : lv_has ls 8 [(4, .int (nI (1 + 5 * (t + 1)))), (0, .ref b), (1, .ref (a 0)), (2, .ref (a2 0)), (3, .ref qo)] := hl
                                refine lv_goto hx hb dL_law_863 (tgt := 33) rfl ?_
                                exact ih r' (t + 1, u, v, f) _ _ _ (by omega) ⟨by show r' + (t + 1) = 512; omega, hR, lv_sub hl [1, 2, 3, 4, 0] rfl, hP, hD, hS⟩
