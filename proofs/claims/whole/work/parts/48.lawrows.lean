abbrev wA (n : Nat) (a : Nat → Nat) (ca : Nat → ClassId) (a2 : Nat → Nat) (ca2 : Nat → ClassId) (qo : Nat) (co : ClassId) (z : StC × StM × (Nat → Int64)) : va_W := wC n a ca z.1 ++ (wM n a2 ca2 z.2.1 ++ [(qo, .inl (co, 1, .inr (.inl z.2.2)))])
abbrev tA (ca ca2 : Nat → ClassId) (co : ClassId) : List (ClassId × FieldType) := tC ca ++ (tM ca2 ++ [(co, .long)])
theorem slots_le (x : Int32) : 1 ≤ fc_slots x ∧ fc_slots x ≤ 12 := by
  by_cases h1 : x < 1
  · obtain ⟨n, a, b, e, -⟩ := zs_a h1; omega
  · by_cases h2 : 12 < x
    · obtain ⟨n, a, b, e, -⟩ := zs_b h1 h2; omega
    · obtain ⟨n, a, b, e, -⟩ := zs_c h1 h2; omega
theorem zr_lc {L j : Nat} (hL : L ≤ 2561) (hj : j ≤ 3000) (h : ¬ Int32.ofNat L - 5 < nI j) : j + 5 ≤ L := by
  have e1 : (Int32.ofNat L).toInt = (L : Int) := nI_toInt (n := L) (by omega)
  have e5 : (5 : Int32).toInt = 5 := by decide
  have e2 : (Int32.ofNat L - 5).toInt = (L : Int) - 5 := by
    rw [Jvm.Kit.i32_sub (by rw [e1, e5]; omega) (by rw [e1, e5]; omega), e1, e5]
  rw [Int32.lt_iff_toInt_lt, e2, nI_toInt (by omega)] at h
  omega
theorem zr_out14 {q : Int32} (e0 : ¬ q = 0) (e1 : ¬ q = 1) (e2 : ¬ q = 2) (e3 : ¬ q = 3) (e4 : ¬ q = 4) (e5 : ¬ q = 5) (e6 : ¬ q = 6) (e7 : ¬ q = 7) (e8 : ¬ q = 8) (e9 : ¬ q = 9) (e10 : ¬ q = 10) (e11 : ¬ q = 11) (e12 : ¬ q = 12) (e13 : ¬ q = 13) : q.toInt < 0 ∨ 13 < q.toInt := by
  have f0 : ¬ q.toInt = 0 := lv_neT e0 (by decide)
  have f1 : ¬ q.toInt = 1 := lv_neT e1 (by decide)
  have f2 : ¬ q.toInt = 2 := lv_neT e2 (by decide)
  have f3 : ¬ q.toInt = 3 := lv_neT e3 (by decide)
  have f4 : ¬ q.toInt = 4 := lv_neT e4 (by decide)
  have f5 : ¬ q.toInt = 5 := lv_neT e5 (by decide)
  have f6 : ¬ q.toInt = 6 := lv_neT e6 (by decide)
  have f7 : ¬ q.toInt = 7 := lv_neT e7 (by decide)
  have f8 : ¬ q.toInt = 8 := lv_neT e8 (by decide)
  have f9 : ¬ q.toInt = 9 := lv_neT e9 (by decide)
  have f10 : ¬ q.toInt = 10 := lv_neT e10 (by decide)
  have f11 : ¬ q.toInt = 11 := lv_neT e11 (by decide)
  have f12 : ¬ q.toInt = 12 := lv_neT e12 (by decide)
  have f13 : ¬ q.toInt = 13 := lv_neT e13 (by decide)
  omega
section ZL
variable {p : Program} {l : Launch} {e : Env} {R : Room} {s : State} {m : MethodId} {args : Array Value} {below : List Frame} {meth : Method} {c : Code} {H H0 : Heap} {locs : List Loc} {cells slots : Nat} {Q : State → Prop}
variable {cc : ByteArray} {pc : Nat} {ls : Array Slot} {rest : List Value} {A : Nat → Prop}
theorem zr_loopC {σ : Type} (kc ks : σ → Nat) (I : Nat → σ → Array Slot → Heap → List Loc → Prop) (g : Array Slot → JFrame)
    (step : ∀ (r : Nat) (x : σ) (ls : Array Slot) (H : Heap) (locs : List Loc), (∀ (r' : Nat) (x' : σ) (ls' : Array Slot) (H' : Heap) (locs' : List Loc), r' < r → I r' x' ls' H' locs' → W p l e R s m args below meth c H' locs' (kc x') (ks x') Q (g ls')) → I r x ls H locs → W p l e R s m args below meth c H locs (kc x) (ks x) Q (g ls))
    (r : Nat) (x : σ) (ls : Array Slot) (H : Heap) (locs : List Loc) (h : I r x ls H locs) : W p l e R s m args below meth c H locs (kc x) (ks x) Q (g ls) := by
  have key : ∀ (N r : Nat) (x : σ) (ls : Array Slot) (H : Heap) (locs : List Loc), r < N → I r x ls H locs → W p l e R s m args below meth c H locs (kc x) (ks x) Q (g ls) := by
    intro N
    induction N with
    | zero => intro r x ls H locs h0; omega
    | succ N ih => intro r x ls H locs h0 hI; exact step r x ls H locs (fun r' x' ls' H' locs' h1 h2 => ih r' x' ls' H' locs' (by omega) h2) hI
  exact key (r + 1) r x ls H locs (by omega) h
theorem zr_sld0 (hx : p.tables.exec = Jvm.exec) (hb : c.code = cc) {b L : Nat} {xs : Nat → Int32} (hX : va_X b L xs s H0) (hbl : b < H0.size) (hbA : ¬ A b) (hS : va_S A H0 H locs) {j : Nat} (hj : j < L) (hL : L ≤ 2561) (d : decode cc pc = .ok (.iaload, 1))
    (kk : W p l e R s m args below meth c H locs cells slots Q (F0 m (pc + 1) ls (.int (xs j) :: rest))) : W p l e R s m args below meth c H locs cells slots Q (F0 m pc ls (.int (nI j) :: .ref b :: rest)) := by
  refine va_sld hx hb hX hbl hbA hS (vp_in_nI hj (by omega)) d ?_
  rw [nI_clamp (by omega)]
  exact kk
theorem zr_sldk (hx : p.tables.exec = Jvm.exec) (hb : c.code = cc) {b L : Nat} {xs : Nat → Int32} (hX : va_X b L xs s H0) (hbl : b < H0.size) (hbA : ¬ A b) (hS : va_S A H0 H locs) {j : Nat} (k : Nat) {q : Int32} (hq : q = nI k) (hj : j + k < L) (hL : L ≤ 2561) (d : decode cc pc = .ok (.iaload, 1))
    (kk : W p l e R s m args below meth c H locs cells slots Q (F0 m (pc + 1) ls (.int (xs (j + k)) :: rest))) : W p l e R s m args below meth c H locs cells slots Q (F0 m pc ls (.int (nI j + q) :: .ref b :: rest)) := by
  rw [hq, nI_add]
  exact zr_sld0 hx hb hX hbl hbA hS hj hL d kk
end ZL
set_option maxHeartbeats 4000000 in
set_option maxRecDepth 100000 in
theorem c_L_cell (l : Launch) (b L : Nat) (xs : Nat → Int32) (hL : L ≤ 2561) (sz : Nat) : Met l yL_cell wsL_cell ({ frames := 0, cells := 0, slots := 0, locals := 0 }) (va_Pc [.ref b, .int 0] (fun U => U.heap.size = sz ∧ va_X b L xs U U.heap ∧ b < sz)) (va_Qi (fun r (_ : Unit) => r = if L = 0 then 0 else xs 0) (fun _ _ => True) (fun q => sz ≤ q)) 0 0 (fun q => sz ≤ q) := by
  refine Met.ofW (cc := cL_cell) (maxL := 2) (ret := (some .int)) (by decide) rfl ?_
  intro p e s m args below meth c s₁ B hml hv
  obtain ⟨rfl, hsz, hX, hbs⟩ := hv
  have hx := B.exec
  have hb := B.bytes
  have hr := B.returns
  have hlocks := B.notSynchronized
  have hbl : b < s.heap.size := by omega
  have hbA : ¬ sz ≤ b := by omega
  obtain ⟨H, hH, hS⟩ : ∃ H, H = s.heap ∧ va_S (fun q => sz ≤ q) s.heap H [] := ⟨_, rfl, va_S.rf⟩
  rw [← hH]
  have hl := lv_entry ([.ref b, .int 0]) (n := 2) (Nat.le_of_ble_eq_true rfl)
  rw [lg_entry_eq]
  generalize (lg_sl ([.ref b, .int 0]) ++ List.replicate (2 - (lg_sl ([.ref b, .int 0])).length) Slot.unset).toArray = ls at hl ⊢
  have hl : lv_has ls 2 [(0, .ref b), (1, .int 0)] := hl
  refine lv_iload_n hx hb dL_cell_0 rfl (lv_at hl 1 rfl) ?_
  refine lv_aload_n hx hb dL_cell_1 rfl (lv_at hl 0 rfl) ?_
  refine va_slen hx hb hX hbl hbA hS dL_cell_2 ?_
  refine lv_icmp_ge hx hb dL_cell_3 (tgt := 12) rfl (fun h => ?_) (fun h => ?_)
  · have h0 : L = 0 := by
      have := (nI_leI (a := L) (b := 0) (by omega) (by omega)).mp h
      omega
    refine lv_iconst (v := 0) hx hb dL_cell_12 (by decide) ?_
    exact W.iret (v := 0) hx hb hr (fun t ht hW => ⟨⟨0, (), rfl, (if_pos h0).symm, trivial⟩, hS.F ht⟩) hS.2.2 dL_cell_13
  · have h0 : 0 < L := Nat.pos_of_ne_zero fun z => h (by subst z; decide)
    refine lv_aload_n hx hb dL_cell_6 rfl (lv_at hl 0 rfl) ?_
    refine lv_iload_n hx hb dL_cell_7 rfl (lv_at hl 1 rfl) ?_
    refine zr_sld0 (j := 0) hx hb hX hbl hbA hS h0 hL dL_cell_8 ?_
    refine lv_goto hx hb dL_cell_9 (tgt := 13) rfl ?_
    exact W.iret (v := xs 0) hx hb hr (fun t ht hW => ⟨⟨xs 0, (), rfl, (if_neg (by omega)).symm, trivial⟩, hS.F ht⟩) hS.2.2 dL_cell_13
theorem st_str {b k : Nat} {s : State} (h : (Cond.exactly (.string "WriteBackTier" k) "java/lang/String").before #[Value.ref b] s = true) : ∃ a : Nat, (Term.string "WriteBackTier" k).eval #[Value.ref b] s none [] s = some (.ref a) := by
  obtain ⟨a, c, cA, kA, q1, -⟩ := Cond.exactly_spec (args := #[Value.ref b]) (first := s) (o := none) (s := s) (idx := []) (t := .string "WriteBackTier" k) (cls := "java/lang/String") h
  exact ⟨a, q1⟩
set_option maxHeartbeats 4000000 in
set_option maxRecDepth 100000 in
theorem st_E {b : Nat} {s : State} (hts : ∀ w ∈ lw_tbl, w.before #[Value.ref b] s = true) (hgv : (Jvm.Cond.and given_1 narrow_1).before #[Value.ref b] s = true) : ∃ sa : Nat → Nat, zE sa (fun q => s.heap.size ≤ q) s ∧ zC s := by
  have hs := flat_of_before _ hgv
  obtain ⟨a0, g0⟩ := st_str (k := 145) (hs _ (by decide +kernel))
  obtain ⟨a1, g1⟩ := st_str (k := 77) (hs _ (by decide +kernel))
  obtain ⟨a2, g2⟩ := st_str (k := 84) (hs _ (by decide +kernel))
  obtain ⟨a3, g3⟩ := st_str (k := 90) (hs _ (by decide +kernel))
  obtain ⟨a4, g4⟩ := st_str (k := 95) (hs _ (by decide +kernel))
  obtain ⟨a5, g5⟩ := st_str (k := 121) (hs _ (by decide +kernel))
  obtain ⟨a6, g6⟩ := st_str (k := 132) (hs _ (by decide +kernel))
  obtain ⟨a7, g7⟩ := st_str (k := 135) (hs _ (by decide +kernel))
  obtain ⟨a8, g8⟩ := st_str (k := 143) (hs _ (by decide +kernel))
  refine ⟨fun i => match i with | 0 => a0 | 1 => a1 | 2 => a2 | 3 => a3 | 4 => a4 | 5 => a5 | 6 => a6 | 7 => a7 | _ => a8, ⟨⟨?_, ?_⟩, ⟨?_, ?_, ?_, ?_, ?_, ?_, ?_⟩, ⟨?_, ?_, ?_, ?_, ?_, ?_, ?_, ?_, ?_⟩⟩, ?_, ?_⟩
  · exact vx_Zqof (hts (.laysStatic Bundle.tN "UNASSIGNED_STACK" Bundle.steD) (by decide +kernel)) (hts (.initialized Bundle.tN) (by decide +kernel)) (hs (.isRef (.static Bundle.tN "UNASSIGNED_STACK" Bundle.steD)) (by decide +kernel)) (fun a h9 => Nat.not_le.mpr h9)
  · exact vx_Zqof (hts (.laysStatic Bundle.tN "SUPPRESSED_SENTINEL" Bundle.listD) (by decide +kernel)) (hts (.initialized Bundle.tN) (by decide +kernel)) (hs (.isRef (.static Bundle.tN "SUPPRESSED_SENTINEL" Bundle.listD)) (by decide +kernel)) (fun a h9 => Nat.not_le.mpr h9)
  · exact va_Nw.of rfl (hts _ (by decide +kernel))
  · exact va_Nw.of rfl (hts _ (by decide +kernel))
  · exact va_Nw.of rfl (hts _ (by decide +kernel))
  · exact va_Nw.of rfl (hts _ (by decide +kernel))
  · exact va_Nw.of rfl (hts _ (by decide +kernel))
  · exact va_Nw.of rfl (hts _ (by decide +kernel))
  · exact va_Nw.of rfl (hts _ (by decide +kernel))
  · exact vk_R.of (A := #[Value.ref b]) (hts (.stringRef "WriteBackTier" 145 "no such block") (by decide +kernel)) g0
  · exact vk_R.of (A := #[Value.ref b]) (hts (.stringRef "WriteBackTier" 77 "no such number of steps") (by decide +kernel)) g1
  · exact vk_R.of (A := #[Value.ref b]) (hts (.stringRef "WriteBackTier" 84 "the mode is not BACK") (by decide +kernel)) g2
  · exact vk_R.of (A := #[Value.ref b]) (hts (.stringRef "WriteBackTier" 90 "no such mode") (by decide +kernel)) g3
  · exact vk_R.of (A := #[Value.ref b]) (hts (.stringRef "WriteBackTier" 95 "no such number of slots") (by decide +kernel)) g4
  · exact vk_R.of (A := #[Value.ref b]) (hts (.stringRef "WriteBackTier" 121 "the block is not cached") (by decide +kernel)) g5
  · exact vk_R.of (A := #[Value.ref b]) (hts (.stringRef "WriteBackTier" 132 "no such place in the order") (by decide +kernel)) g6
  · exact vk_R.of (A := #[Value.ref b]) (hts (.stringRef "WriteBackTier" 135 "no such slot") (by decide +kernel)) g7
  · exact vk_R.of (A := #[Value.ref b]) (hts (.stringRef "WriteBackTier" 143 "no such figure") (by decide +kernel)) g8
  · exact va_Nc.of (hs _ (by decide +kernel))
  · exact va_Nc.of (hs _ (by decide +kernel))
