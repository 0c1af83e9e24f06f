theorem kb_of {j : Nat} (h : j < 64) : kc_b (nI j) = 0 := by
  unfold kc_b
  rw [if_neg (nI_pos (by omega))]
  exact if_pos ((nI_ltI (b := 64) (by omega) (by omega)).mpr h)
theorem kb_no {b : Int32} (h : ¬ kc_b b = 0) : fm_isb b = 0 ∧ kc_b b = 1 := by
  refine ⟨Classical.byContradiction fun q => ?_, (kb_10 b).resolve_left h⟩
  obtain ⟨j, hj, rfl⟩ := isb_nI q
  exact h (kb_of hj)
theorem mc_clean (v : StM) (s : Nat) : ms_c (fm_clean v s) = ms_c v := by unfold fm_clean; split <;> rfl
theorem mc_empty (v : StM) (s : Nat) : ms_c (fm_empty v s) = ms_c v := by unfold fm_empty; split <;> rfl
theorem mc_drop (v : StM) (s : Nat) : ms_c (fm_drop v s) = ms_c v := by
  unfold fm_drop
  split
  · exact mc_empty _ _
  · exact (mc_empty _ _).trans (cM_wb _ _)
theorem mc_room (n : Nat) (v : StM) : ms_c (fm_room n v).2 = ms_c v := by
  unfold fm_room
  split
  · rfl
  · exact mc_drop _ _
theorem mc_readB (n : Nat) (v : StM) (b : Nat) : ms_c (fm_readB n v b).2 = ms_c v := by
  unfold fm_readB
  split
  · rfl
  · split
    · rfl
    · exact mc_room n (fm_mis v)
theorem mc_stF (v : StM) (s b : Nat) (x : Int64) (q : Int32) : ms_c (fm_stF v s b x q).2 = ms_c v := by
  unfold fm_stF
  split <;> split <;> rfl
theorem mc_stW (v : StM) (s : Nat) (x : Int64) (q d : Int32) : ms_c (fm_stW v s x q d).2 = ms_c v := by
  unfold fm_stW
  split <;> rfl
theorem mc_stO (v : StM) (s b : Nat) (x : Int64) (q : Int32) : ms_c (fm_stO v s b x q).2 = ms_c v := by
  unfold fm_stO
  split
  · exact mc_stW _ _ _ _ _
  · split
    · exact mc_stW _ _ _ _ _
    · exact mc_stW _ _ _ _ _
theorem mc_steps (n : Nat) (v : StM) (b : Nat) (x : Int64) (q : Int32) : ms_c (fm_steps n v b x q).2 = ms_c v := by
  unfold fm_steps
  split
  · exact (mc_stF _ _ _ _ _).trans (mc_room n v)
  · exact mc_stO _ _ _ _ _
theorem mc_writeB (n : Nat) (v : StM) (b : Nat) (x : Int64) : ms_c (fm_writeB n v b x) = ms_c v := by
  unfold fm_writeB
  split
  · exact mc_steps _ _ _ _ _
  · split
    · rfl
    · split
      · exact mc_clean _ _
      · exact mc_empty _ _
theorem mc_stopL (n : Nat) : ∀ r k (v : StM), ms_c (fm_stopL n r k v) = ms_c v := by
  intro r
  induction r with
  | zero => intro k v; rfl
  | succ r ih => intro k v; rw [fm_stopL]; exact ih _ _
theorem mc_modeL (x : Int32) : ∀ r k c (v : StM), ms_c (fm_modeL x r k c v).2 = ms_c v := by
  intro r
  induction r with
  | zero => intro k c v; rfl
  | succ r ih =>
    intro k c v
    rw [fm_modeL]
    split
    · rfl
    · split
      · exact ih _ _ _
      · exact (ih _ _ _).trans (cM_wb _ _)
theorem mc_backL (n : Nat) : ∀ r c (v : StM), ms_c (fm_backL n r c v).2 = ms_c v := by
  intro r
  induction r with
  | zero => intro c v; rfl
  | succ r ih =>
    intro c v
    rw [fm_backL]
    split
    · exact ih _ _
    · exact (ih _ _).trans (cM_wb v _)
abbrev lwP (kc : Int32) (r : Int32) (z : StC × (Nat → Int64)) (ok : StC × (Nat → Int64)) (u : StC) (f : Nat → Int64) : Prop := (kc = 0 ∧ r = 0 ∧ z = ok) ∨ (¬ kc = 0 ∧ r = kc ∧ z = (u, f))
section LP
variable {n K : Nat} {u : StC} {v : StM} {f : Nat → Int64} {r : Int32} {z : StC × (Nat → Int64)}
theorem law_read (hn : 0 < n) (h : rR n K u v) (hK : K < 5000) (b : Int32) (hp : lwP (kc_b b) r z ((fc_read n u b.toNatClampNeg).2, vp_updL f 0 (fc_read n u b.toNatClampNeg).1) u f) :
    ms_c (fm_read n v b).2 = r ∧ (r = 0 → z.2 0 = (fm_read n v b).1) ∧ rR n (K + 1) z.1 (fm_read n v b).2 := by
  unfold fm_read
  rcases hp with ⟨hk, rfl, rfl⟩ | ⟨hk, rfl, rfl⟩
  · obtain ⟨j, hj, rfl⟩ := kb_nI hk
    rw [if_neg (isb_of hj), nI_clamp (by omega)]
    obtain ⟨h1, h2⟩ := sim_read hn (h.setc 0) hK hj
    exact ⟨mc_readB _ _ _, fun _ => h1.symm, h2⟩
  · obtain ⟨h1, h2⟩ := kb_no hk
    rw [if_pos h1]
    exact ⟨h2.symm, fun q => absurd q hk, (h.setc 1).up (by omega)⟩
theorem law_write (hn : 0 < n) (h : rR n K u v) (hK : K < 5000) (b : Int32) (x : Int64) {z : StC} (hp : (kc_b b = 0 ∧ r = 0 ∧ z = fc_write n u b.toNatClampNeg x) ∨ (¬ kc_b b = 0 ∧ r = kc_b b ∧ z = u)) :
    ms_c (fm_write n v b x) = r ∧ rR n (K + 1) z (fm_write n v b x) := by
  unfold fm_write
  rcases hp with ⟨hk, rfl, rfl⟩ | ⟨hk, rfl, rfl⟩
  · obtain ⟨j, hj, rfl⟩ := kb_nI hk
    rw [if_neg (isb_of hj), nI_clamp (by omega)]
    exact ⟨mc_writeB _ _ _ _, sim_write hn (h.setc 0) hK hj⟩
  · obtain ⟨h1, h2⟩ := kb_no hk
    rw [if_pos h1]
    exact ⟨h2.symm, (h.setc 1).up (by omega)⟩
theorem cutc_eq (m b q : Int32) : fm_cutc m b q = kc_cut m b q := by
  unfold fm_cutc kc_cut
  by_cases e : kc_b b = 0
  · obtain ⟨j, hj, rfl⟩ := kb_nI e
    rw [if_neg (isb_of hj), if_pos e]
  · rw [if_pos (kb_no e).1, if_neg e]
theorem cut_q {m b q : Int32} (h : kc_cut m b q = 0) : kc_b b = 0 ∧ (q = 0 ∨ q = 1 ∨ q = 2) := by
  unfold kc_cut at h
  by_cases e : kc_b b = 0
  · refine ⟨e, ?_⟩
    rw [if_pos e] at h
    by_cases h1 : q < 0
    · rw [if_pos h1] at h; exact absurd h (by decide)
    · rw [if_neg h1] at h
      by_cases h2 : q ≤ 2
      · obtain ⟨j, hj, rfl⟩ := nI_of2 (M := 2) (n := 2) (by decide) h1 h2
        rcases (show j = 0 ∨ j = 1 ∨ j = 2 by omega) with rfl | rfl | rfl
        · exact Or.inl (by decide)
        · exact Or.inr (Or.inl (by decide))
        · exact Or.inr (Or.inr (by decide))
      · rw [if_neg h2] at h; exact absurd h (by decide)
  · rw [if_neg e] at h; exact absurd h (by decide)
theorem law_cut (hn : 0 < n) (hn12 : n ≤ 12) (h : rR n K u v) (hK : K < 4000) (b : Int32) (x : Int64) (q : Int32) (hp : lwP (kc_cut (cs_m u) b q) r z ((fc_cut n u b.toNatClampNeg x q).2, vp_updL f 0 ((fc_cut n u b.toNatClampNeg x q).1).toInt64) u f) :
    ms_c (fm_cut n v b x q).2 = r ∧ (r = 0 → z.2 0 = (fm_cut n v b x q).1.toInt64) ∧ rR n (K + 2) z.1 (fm_cut n v b x q).2 := by
  unfold fm_cut
  rw [cutc_eq, ← h.1.2.2.2.2.1]
  rcases hp with ⟨hk, rfl, rfl⟩ | ⟨hk, rfl, rfl⟩
  · obtain ⟨hb, hq⟩ := cut_q hk
    obtain ⟨j, hj, rfl⟩ := kb_nI hb
    rw [if_pos hk, nI_clamp (by omega)]
    obtain ⟨h1, h2⟩ := sim_steps (x := x) hn (h.setc 0) (by omega) hj hq
    have h3 := sim_stop hn12 h2.1 h2.2.2 (by omega)
    exact ⟨(mc_stopL _ _ _ _).trans (mc_steps _ _ _ _ _), fun _ => (congrArg Int32.toInt64 h1).symm, h3⟩
  · rw [if_neg hk]
    exact ⟨rfl, fun q => absurd q hk, (h.setc _).up (by omega)⟩
theorem law_mode (h : rR n K u v) (x : Int32) (hp : lwP (kc_mode x) r z ((fc_mode n u x).2, vp_updL f 0 ((fc_mode n u x).1).toInt64) u f) :
    ms_c (fm_mode n v x).2 = r ∧ (r = 0 → z.2 0 = (fm_mode n v x).1.toInt64) ∧ rR n K z.1 (fm_mode n v x).2 := by
  have hv : kc_mode x = 0 → x = 0 ∨ x = 1 ∨ x = 2 := by
    unfold kc_mode
    intro q
    by_cases e0 : x = 0
    · exact Or.inl e0
    · by_cases e1 : x = 1
      · exact Or.inr (Or.inl e1)
      · by_cases e2 : x = 2
        · exact Or.inr (Or.inr e2)
        · rw [if_neg e0, if_neg e1, if_neg e2] at q; exact absurd q (by decide)
  unfold fm_mode
  rcases hp with ⟨hk, rfl, rfl⟩ | ⟨hk, rfl, rfl⟩
  · have hx := hv hk
    have h1 : ¬ x < 0 := by rcases hx with rfl | rfl | rfl <;> decide
    have h2 : x ≤ 2 := by rcases hx with rfl | rfl | rfl <;> decide
    rw [if_neg h1, if_pos h2]
    obtain ⟨i1, i2⟩ := sim_mode (h.setc 0) hx
    exact ⟨mc_modeL _ _ _ _ _, fun _ => (congrArg Int32.toInt64 i1).symm, i2⟩
  · have hk1 : kc_mode x = 1 := by
      unfold kc_mode at hk ⊢
      by_cases e0 : x = 0
      · rw [if_pos e0] at hk; exact absurd rfl hk
      · rw [if_neg e0] at hk ⊢
        by_cases e1 : x = 1
        · rw [if_pos e1] at hk; exact absurd rfl hk
        · rw [if_neg e1] at hk ⊢
          by_cases e2 : x = 2
          · rw [if_pos e2] at hk; exact absurd rfl hk
          · rw [if_neg e2]
    by_cases h1 : x < 0
    · rw [if_pos h1]; exact ⟨hk1.symm, fun q => absurd q hk, h.setc 1⟩
    · by_cases h2 : x ≤ 2
      · exfalso
        obtain ⟨j, hj, rfl⟩ := nI_of2 (M := 2) (n := 2) (by decide) h1 h2
        rcases (show j = 0 ∨ j = 1 ∨ j = 2 by omega) with rfl | rfl | rfl
        · exact hk (by decide)
        · exact hk (by decide)
        · exact hk (by decide)
      · rw [if_neg h1, if_neg h2]; exact ⟨hk1.symm, fun q => absurd q hk, h.setc 1⟩
theorem law_back (h : rR n K u v) (q : Int32) (hp : lwP (kc_back q) r z ((fc_back n q.toNatClampNeg 0 u).2, vp_updL f 0 ((fc_back n q.toNatClampNeg 0 u).1).toInt64) u f) :
    ms_c (fm_back n v q).2 = r ∧ (r = 0 → z.2 0 = (fm_back n v q).1.toInt64) ∧ rR n K z.1 (fm_back n v q).2 := by
  unfold fm_back
  by_cases h1 : q < 0
  · have hk1 : kc_back q = 1 := by unfold kc_back; rw [if_pos h1]
    rcases hp with ⟨hk, -⟩ | ⟨hk, rfl, rfl⟩
    · exact absurd (hk1.symm.trans hk) (by decide)
    · rw [if_pos h1]; exact ⟨hk1.symm, fun q => absurd q hk, h.setc 1⟩
  · by_cases h2 : q ≤ 12
    · have hk1 : kc_back q = 0 := by unfold kc_back; rw [if_neg h1, if_pos h2]
      rcases hp with ⟨hk, rfl, rfl⟩ | ⟨hk, rfl, rfl⟩
      · rw [if_neg h1, if_pos h2]
        obtain ⟨i1, i2⟩ := sim_back (d := q.toNatClampNeg) (h.setc 0)
        exact ⟨mc_backL _ _ _ _, fun _ => (congrArg Int32.toInt64 i1).symm, i2⟩
      · exact absurd hk1 hk
    · have hk1 : kc_back q = 1 := by unfold kc_back; rw [if_neg h1, if_neg h2]
      rcases hp with ⟨hk, -⟩ | ⟨hk, rfl, rfl⟩
      · exact absurd (hk1.symm.trans hk) (by decide)
      · rw [if_neg h1, if_neg h2]; exact ⟨hk1.symm, fun q => absurd q hk, h.setc 1⟩
theorem law_slot (h : rR n K u v) (b : Int32) (hp : lwP (kc_b b) r z (u, vp_updL f 0 (fc_enc (fc_find (cs_k u) b.toNatClampNeg n 0)).toInt64) u f) :
    ms_c (fm_slot n v b).2 = r ∧ (r = 0 → z.2 0 = (fm_slot n v b).1.toInt64) ∧ rR n K z.1 (fm_slot n v b).2 := by
  unfold fm_slot
  rcases hp with ⟨hk, rfl, rfl⟩ | ⟨hk, rfl, rfl⟩
  · obtain ⟨j, hj, rfl⟩ := kb_nI hk
    rw [if_neg (isb_of hj), nI_clamp (by omega), h.1.find hj]
    exact ⟨rfl, fun _ => rfl, h.setc 0⟩
  · obtain ⟨h1, h2⟩ := kb_no hk
    rw [if_pos h1]
    exact ⟨h2.symm, fun q => absurd q hk, h.setc 1⟩
theorem law_dirty (h : rR n K u v) (b : Int32) (hp : lwP (kc_dirty n (cs_k u) b) r z (u, vp_updL f 0 (if fc_isd (cs_k u ((fc_find (cs_k u) b.toNatClampNeg n 0).getD 0)) = 0 then 0 else 1)) u f) :
    ms_c (fm_dirty n v b).2 = r ∧ (r = 0 → z.2 0 = if (fm_dirty n v b).1 = 0 then 0 else 1) ∧ rR n K z.1 (fm_dirty n v b).2 := by
  unfold fm_dirty
  by_cases e : kc_b b = 0
  · obtain ⟨j, hj, rfl⟩ := kb_nI e
    rw [if_neg (isb_of hj), nI_clamp (by omega), h.1.find hj]
    unfold kc_dirty at hp
    rw [if_pos e, nI_clamp (by omega)] at hp
    rcases hf : fc_find (cs_k u) j n 0 with _ | s
    · rw [hf] at hp
      rcases hp with ⟨hk, -⟩ | ⟨hk, rfl, rfl⟩
      · exact absurd hk (by decide)
      · exact ⟨rfl, fun q => absurd q (by decide), h.setc 2⟩
    · rw [hf] at hp
      rcases hp with ⟨hk, rfl, rfl⟩ | ⟨hk, rfl, rfl⟩
      · have h3 := (h.1.2.2.1 s (h.1.fnd hj hf).1).isd
        dsimp only
        by_cases q : ms_d v s = 0
        · simp only [if_pos q]
          refine ⟨rfl, fun _ => ?_, h.setc 0⟩
          show (if fc_isd (cs_k u s) = 0 then (0 : Int64) else 1) = _
          rw [h3, if_pos q]; rfl
        · simp only [if_neg q]
          refine ⟨rfl, fun _ => ?_, h.setc 0⟩
          show (if fc_isd (cs_k u s) = 0 then (0 : Int64) else 1) = _
          rw [h3, if_neg q]; rfl
      · exact absurd rfl hk
  · obtain ⟨h1, h2⟩ := kb_no e
    have hk1 : kc_dirty n (cs_k u) b = 1 := by unfold kc_dirty; rw [if_neg e]
    rcases hp with ⟨hk, -⟩ | ⟨hk, rfl, rfl⟩
    · exact absurd (hk1.symm.trans hk) (by decide)
    · rw [if_pos h1]; exact ⟨hk1.symm, fun q => absurd q hk, h.setc 1⟩
theorem law_origin (h : rR n K u v) (b : Int32) (hp : lwP (kc_b b) r z (u, vp_updL f 0 (cs_o u b.toNatClampNeg)) u f) :
    ms_c (fm_origin v b).2 = r ∧ (r = 0 → z.2 0 = (fm_origin v b).1) ∧ rR n K z.1 (fm_origin v b).2 := by
  unfold fm_origin
  rcases hp with ⟨hk, rfl, rfl⟩ | ⟨hk, rfl, rfl⟩
  · obtain ⟨j, hj, rfl⟩ := kb_nI hk
    rw [if_neg (isb_of hj), nI_clamp (by omega)]
    exact ⟨rfl, fun _ => h.1.1 j hj, h.setc 0⟩
  · obtain ⟨h1, h2⟩ := kb_no hk
    rw [if_pos h1]
    exact ⟨h2.symm, fun q => absurd q hk, h.setc 1⟩
theorem law_order (h : rR n K u v) (q : Int32) (hp : lwP (kc_order (fc_order (cs_k u) (cs_l u) n q n 0)) r z (u, vp_updL f 0 (((fc_order (cs_k u) (cs_l u) n q n 0).getD 0)).toInt64) u f) :
    ms_c (fm_order n v q).2 = r ∧ (r = 0 → z.2 0 = (fm_order n v q).1.toInt64) ∧ rR n K z.1 (fm_order n v q).2 := by
  unfold fm_order
  rw [order_sim h.1 h.2.1 n 0 (by omega)]
  rcases hf : fc_order (cs_k u) (cs_l u) n q n 0 with _ | x
  · rw [hf] at hp
    rcases hp with ⟨hk, -⟩ | ⟨hk, rfl, rfl⟩
    · exact absurd hk (by decide)
    · exact ⟨rfl, fun q => absurd q (by decide), h.setc 1⟩
  · rw [hf] at hp
    rcases hp with ⟨hk, rfl, rfl⟩ | ⟨hk, -⟩
    · exact ⟨rfl, fun _ => rfl, h.setc 0⟩
    · exact absurd rfl hk
theorem law_noted (hn : n ≤ 12) (h : rR n K u v) (q : Int32) (hp : lwP (kc_noted n q) r z (u, vp_updL f 0 (cs_n u q.toNatClampNeg).toInt64) u f) :
    ms_c (fm_noted n v q).2 = r ∧ (r = 0 → z.2 0 = (fm_noted n v q).1.toInt64) ∧ rR n K z.1 (fm_noted n v q).2 := by
  unfold fm_noted
  unfold kc_noted at hp
  by_cases h1 : q < 0
  · rw [if_pos h1] at hp ⊢
    rcases hp with ⟨hk, -⟩ | ⟨hk, rfl, rfl⟩
    · exact absurd hk (by decide)
    · exact ⟨rfl, fun q => absurd q (by decide), h.setc 1⟩
  · rw [if_neg h1] at hp ⊢
    by_cases h2 : q < nI n
    · rw [if_pos h2] at hp ⊢
      obtain ⟨j, hj, rfl⟩ := zr_q hn h1 h2
      rcases hp with ⟨hk, rfl, rfl⟩ | ⟨hk, -⟩
      · rw [nI_clamp (by omega)]
        exact ⟨rfl, fun _ => congrArg Int32.toInt64 (h.1.2.2.1 j hj).1.symm, h.setc 0⟩
      · exact absurd rfl hk
    · rw [if_neg h2] at hp ⊢
      rcases hp with ⟨hk, -⟩ | ⟨hk, rfl, rfl⟩
      · exact absurd hk (by decide)
      · exact ⟨rfl, fun q => absurd q (by decide), h.setc 1⟩
theorem law_figure (h : rR n K u v) (q : Int32) (hp : lwP (kc_fig q) r z (u, vp_updL f 0 (fc_fig n u q).toInt64) u f) :
    ms_c (fm_figure n v q).2 = r ∧ (r = 0 → z.2 0 = (fm_figure n v q).1.toInt64) ∧ rR n K z.1 (fm_figure n v q).2 := by
  have hkc : (if q < 0 then (1 : Int32) else if q ≤ 7 then 0 else 1) = kc_fig q := by
    by_cases h1 : q < 0
    · rw [if_pos h1]
      unfold kc_fig
      iterate 8 rw [if_neg (fun z => by rw [z] at h1; exact absurd h1 (by decide))]
    · rw [if_neg h1]
      by_cases h2 : q ≤ 7
      · rw [if_pos h2]
        obtain ⟨j, hj, rfl⟩ := nI_of2 (M := 7) (n := 7) (by decide) h1 h2
        rcases (show j = 0 ∨ j = 1 ∨ j = 2 ∨ j = 3 ∨ j = 4 ∨ j = 5 ∨ j = 6 ∨ j = 7 by omega) with rfl | rfl | rfl | rfl | rfl | rfl | rfl | rfl <;> decide
      · rw [if_neg h2]
        unfold kc_fig
        iterate 8 rw [if_neg (fun z => by rw [z] at h2; exact absurd (by decide) h2)]
  have hfig : kc_fig q = 0 → fm_fig n v q = fc_fig n u q := by
    intro hk
    unfold fm_fig fc_fig
    rw [h.1.2.2.2.2.2.2.2.1, h.1.2.2.2.2.2.2.2.2.1, h.1.2.2.2.2.2.2.2.2.2.1, h.1.2.2.2.2.2.2.2.2.2.2, full_sim h.1 n 0 0 (by omega), dts_sim h.1 n 0 0 (by omega), h.1.2.2.2.2.1, h.1.2.2.2.2.2.2.1]
    unfold kc_fig at hk
    by_cases e7 : q = 7
    · rw [if_pos e7]
    · by_cases e0 : q = 0
      · rw [if_pos e0, if_pos e0]
      · by_cases e1 : q = 1
        · rw [if_neg e0, if_neg e0, if_pos e1, if_pos e1]
        · by_cases e2 : q = 2
          · rw [if_neg e0, if_neg e0, if_neg e1, if_neg e1, if_pos e2, if_pos e2]
          · by_cases e3 : q = 3
            · rw [if_neg e0, if_neg e0, if_neg e1, if_neg e1, if_neg e2, if_neg e2, if_pos e3, if_pos e3]
            · by_cases e4 : q = 4
              · rw [if_neg e0, if_neg e0, if_neg e1, if_neg e1, if_neg e2, if_neg e2, if_neg e3, if_neg e3, if_pos e4, if_pos e4]
              · by_cases e5 : q = 5
                · rw [if_neg e0, if_neg e0, if_neg e1, if_neg e1, if_neg e2, if_neg e2, if_neg e3, if_neg e3, if_neg e4, if_neg e4, if_pos e5, if_pos e5]
                · by_cases e6 : q = 6
                  · rw [if_neg e0, if_neg e0, if_neg e1, if_neg e1, if_neg e2, if_neg e2, if_neg e3, if_neg e3, if_neg e4, if_neg e4, if_neg e5, if_neg e5, if_pos e6, if_pos e6]
                  · rw [if_neg e0, if_neg e1, if_neg e2, if_neg e3, if_neg e4, if_neg e5, if_neg e6, if_neg e7] at hk
                    exact absurd hk (by decide)
  show (if q < 0 then (1 : Int32) else if q ≤ 7 then 0 else 1) = r ∧ (r = 0 → z.2 0 = (fm_fig n v q).toInt64) ∧ rR n K z.1 (fm_setc v (if q < 0 then 1 else if q ≤ 7 then 0 else 1))
  rw [hkc]
  rcases hp with ⟨hk, rfl, rfl⟩ | ⟨hk, rfl, rfl⟩
  · exact ⟨hk, fun _ => congrArg Int32.toInt64 (hfig hk).symm, h.setc _⟩
  · exact ⟨rfl, fun q => absurd q hk, h.setc _⟩
end LP
theorem okM_of {n : Nat} {u : StC} {v : StM} (h : rA n u v) : okM n v := fun s hs hd => by
  rcases (h.2.2.1 s hs).2 with ⟨-, -, -, q⟩ | ⟨B, D, hB, hD, -, q, -⟩
  · exact absurd q hd
  · exact ⟨B, hB, q⟩
theorem iniL_sp : ∀ r k (v : StM), (∀ t, ms_b (fm_iniL r k v) t = if k ≤ t ∧ t < k + r then -1 else ms_b v t) ∧ (∀ t, ms_n (fm_iniL r k v) t = if k ≤ t ∧ t < k + r then -1 else ms_n v t) ∧ ms_c (fm_iniL r k v) = ms_c v ∧ ms_o (fm_iniL r k v) = ms_o v ∧ ms_v (fm_iniL r k v) = ms_v v ∧ ms_d (fm_iniL r k v) = ms_d v ∧ ms_l (fm_iniL r k v) = ms_l v ∧ ms_u (fm_iniL r k v) = ms_u v ∧ ms_m (fm_iniL r k v) = ms_m v ∧ ms_h (fm_iniL r k v) = ms_h v ∧ ms_i (fm_iniL r k v) = ms_i v ∧ ms_j (fm_iniL r k v) = ms_j v ∧ ms_w (fm_iniL r k v) = ms_w v ∧ ms_t (fm_iniL r k v) = ms_t v := by
  intro r
  induction r with
  | zero => intro k v; exact ⟨fun t => (if_neg (by omega)).symm, fun t => (if_neg (by omega)).symm, rfl, rfl, rfl, rfl, rfl, rfl, rfl, rfl, rfl, rfl, rfl, rfl⟩
  | succ r ih =>
    intro k v
    rw [fm_iniL]
    obtain ⟨h1, h2, h3⟩ := ih (k + 1) (ms_c v, ms_o v, upd (ms_b v) k (-1), ms_v v, ms_d v, upd (ms_n v) k (-1), ms_l v, ms_u v, ms_m v, ms_h v, ms_i v, ms_j v, ms_w v, ms_t v)
    refine ⟨fun t => ?_, fun t => ?_, h3⟩
    · rw [h1]
      show (if k + 1 ≤ t ∧ t < k + 1 + r then -1 else upd (ms_b v) k (-1) t) = _
      by_cases e : t = k
      · subst e; rw [if_neg (by omega), if_pos (by omega), zq_at]
      · rw [zq_ne _ _ e]
        by_cases q : k + 1 ≤ t ∧ t < k + 1 + r
        · rw [if_pos q, if_pos (by omega)]
        · rw [if_neg q, if_neg (by omega)]
    · rw [h2]
      show (if k + 1 ≤ t ∧ t < k + 1 + r then -1 else upd (ms_n v) k (-1) t) = _
      by_cases e : t = k
      · subst e; rw [if_neg (by omega), if_pos (by omega), zq_at]
      · rw [zq_ne _ _ e]
        by_cases q : k + 1 ≤ t ∧ t < k + 1 + r
        · rw [if_pos q, if_pos (by omega)]
        · rw [if_neg q, if_neg (by omega)]
theorem ini_sim {n : Nat} (hn : n ≤ 12) : rR n 0 (fc_ini n) fm_ini := by
  obtain ⟨h1, h2, h3, h4, h5, h6, h7, h8, h9, h10, h11, h12, h13, h14⟩ := iniL_sp 12 0 (0, fun _ => 0, fun _ => 0, fun _ => 0, fun _ => 0, fun _ => 0, fun _ => 0, 0, 0, 0, 0, 0, 0, 0)
  have hk : ∀ s, s < n → cs_k (fc_ini n) s = -1 := fun s hs => (filC (-1) n 0 _ s).trans (if_pos (by omega))
  have hb : ∀ s, s < n → ms_b fm_ini s = -1 := fun s hs => (h1 s).trans (if_pos (by omega))
  have z32 : (0 : Int32).toInt = 0 := by decide
  have z64 : (0 : Int64).toInt = 0 := by decide
  refine ⟨⟨fun b _ => ?_, fun s _ => ?_, fun s hs => ?_, fun s t hs _ _ q => absurd (hb s hs) q, ?_, Or.inl rfl, ?_, ?_, ?_, ?_, ?_⟩, ⟨fun s t hs _ _ _ q _ => absurd (hk s hs) q, fun s _ => ?_, fun s _ => ?_⟩, ?_, ?_, ?_, ?_⟩
  · exact (congrFun h4 b).symm
  · exact (congrFun h5 s).symm
  · rw [hk s hs, hb s hs, show ms_n fm_ini s = -1 from (h2 s).trans (if_pos (by omega)), show cs_n (fc_ini n) s = -1 from (filC (-1) n 0 _ s).trans (if_pos (by omega)), show ms_d fm_ini s = 0 from congrFun h6 s]
    exact ⟨rfl, Or.inl ⟨rfl, rfl, rfl, rfl⟩⟩
  · exact h9.symm
  · exact h10.symm
  · exact h11.symm
  · exact h12.symm
  · exact h13.symm
  · exact h14.symm
  · exact Int.le_refl _
  · show (ms_l fm_ini s).toInt ≤ (ms_u fm_ini).toInt
    rw [show ms_l fm_ini s = 0 from congrFun h7 s, show ms_u fm_ini = 0 from h8]
    exact Int.le_refl _
  · show (0 : Int) ≤ (0 : Int32).toInt
    rw [z32]; exact Int.le_refl _
  · show (0 : Int32).toInt ≤ ((0 : Nat) : Int)
    rw [z32]; exact Int.le_refl _
  · show (0 : Int) ≤ (ms_u fm_ini).toInt
    rw [show ms_u fm_ini = 0 from h8, z64]; exact Int.le_refl _
  · show (ms_u fm_ini).toInt ≤ 13 * ((0 : Nat) : Int)
    rw [show ms_u fm_ini = 0 from h8, z64]; omega
