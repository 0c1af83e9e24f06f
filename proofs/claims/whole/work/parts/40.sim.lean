def slR (k n b d m : Int32) : Prop := m = n ∧ ((k = -1 ∧ n = -1 ∧ b = -1 ∧ d = 0) ∨ ∃ B D : Nat, B < 64 ∧ D < 2 ∧ k = nI (2 * B + D) ∧ b = nI B ∧ d = nI D ∧ (n = -1 ∨ ∃ E : Nat, E < 2 ∧ n = nI (2 * B + E)))
theorem slR.ok {k n b d m : Int32} (h : slR k n b d m) : okf k := by
  rcases h.2 with ⟨h1, -⟩ | ⟨B, D, hB, hD, h1, -⟩
  · exact Or.inl h1
  · exact Or.inr ⟨B, D, hB, hD, h1⟩
theorem slR.so {k n b d m : Int32} (h : slR k n b d m) : fm_so b d = k := by
  rcases h.2 with ⟨rfl, -, rfl, rfl⟩ | ⟨B, D, hB, hD, rfl, rfl, rfl, -⟩
  · exact pf_tb3.2.2.2.2.2.1
  · exact (pf hB hD).2.2.2.2.2.2
theorem slR.isd {k n b d m : Int32} (h : slR k n b d m) : fc_isd k = d := by
  rcases h.2 with ⟨rfl, -, rfl, rfl⟩ | ⟨B, D, hB, hD, rfl, rfl, rfl, -⟩
  · exact pf_tb3.2.2.2.2.1
  · exact (pf hB hD).2.1
theorem slR.ind {k n b d m : Int32} (h : slR k n b d m) : fc_isd n = fm_ind m := by
  obtain ⟨rfl, h⟩ := h
  rcases h with ⟨-, rfl, -⟩ | ⟨B, D, hB, hD, -, -, -, rfl | ⟨E, hE, rfl⟩⟩
  · exact pf_tb3.2.2.2.2.1.trans pf_tb3.2.2.2.2.2.2.symm
  · exact pf_tb3.2.2.2.2.1.trans pf_tb3.2.2.2.2.2.2.symm
  · exact (pf hB hE).2.1.trans (pf hB hE).2.2.2.2.2.1.symm
theorem slR.emp {k n b d m : Int32} (h : slR k n b d m) : k = -1 ↔ b < 0 := by
  rcases h.2 with ⟨rfl, -, rfl, rfl⟩ | ⟨B, D, hB, hD, rfl, rfl, rfl, -⟩
  · exact ⟨fun _ => by decide, fun _ => rfl⟩
  · exact ⟨fun q => absurd q (pf hB hD).2.2.1, fun q => absurd q (pf2 hB).2.2.2.2⟩
theorem slR.emq {k n b d m : Int32} (h : slR k n b d m) : k = -1 ↔ b = -1 := by
  rcases h.2 with ⟨rfl, -, rfl, rfl⟩ | ⟨B, D, hB, hD, rfl, rfl, rfl, -⟩
  · exact ⟨fun _ => rfl, fun _ => rfl⟩
  · exact ⟨fun q => absurd q (pf hB hD).2.2.1, fun q => absurd q (pf2 hB).2.2.1⟩
theorem slR.emn {k n b d m : Int32} (h : slR k n b d m) : k = -1 ↔ ¬ 0 ≤ b := by
  rcases h.2 with ⟨rfl, -, rfl, rfl⟩ | ⟨B, D, hB, hD, rfl, rfl, rfl, -⟩
  · exact ⟨fun _ => by decide, fun _ => rfl⟩
  · exact ⟨fun q => absurd q (pf hB hD).2.2.1, fun q => absurd (pf2 hB).2.2.2.1 q⟩
theorem slR.nem {k n b d m : Int32} (h : slR k n b d m) : n = -1 ↔ m < 0 := by
  obtain ⟨rfl, h⟩ := h
  rcases h with ⟨-, rfl, -⟩ | ⟨B, D, hB, hD, -, -, -, rfl | ⟨E, hE, rfl⟩⟩
  · exact ⟨fun _ => by decide, fun _ => rfl⟩
  · exact ⟨fun _ => by decide, fun _ => rfl⟩
  · exact ⟨fun q => absurd q (pf hB hE).2.2.1, fun q => absurd (pf hB hE).2.2.2.1 (Int32.not_le.mpr q)⟩
theorem slR.blk {k n b d m : Int32} (h : slR k n b d m) (hk : ¬ k = -1) : fc_blk k = b ∧ ∃ B, B < 64 ∧ b = nI B := by
  rcases h.2 with ⟨rfl, -⟩ | ⟨B, D, hB, hD, rfl, rfl, rfl, -⟩
  · exact absurd rfl hk
  · exact ⟨(pf hB hD).1, B, hB, rfl⟩
theorem slR.fnd {k n b d m : Int32} {B0 : Nat} (h : slR k n b d m) (h0 : B0 < 64) : (¬ k = -1 ∧ fc_blk k = nI B0) ↔ b = nI B0 := by
  rcases h.2 with ⟨rfl, -, rfl, rfl⟩ | ⟨B, D, hB, hD, rfl, rfl, rfl, -⟩
  · exact ⟨fun q => absurd rfl q.1, fun q => absurd q.symm (pf2 h0).2.2.1⟩
  · rw [(pf hB hD).1]
    exact ⟨fun q => q.2, fun q => ⟨(pf hB hD).2.2.1, q⟩⟩
theorem slR.note {k n b d m : Int32} (h : slR k n b d m) : slR k k b d (fm_so b d) := by
  refine ⟨h.so, ?_⟩
  rcases h.2 with ⟨rfl, -, rfl, rfl⟩ | ⟨B, D, hB, hD, rfl, rfl, rfl, -⟩
  · exact Or.inl ⟨rfl, rfl, rfl, rfl⟩
  · exact Or.inr ⟨B, D, hB, hD, rfl, rfl, rfl, Or.inr ⟨D, hD, rfl⟩⟩
theorem slR.cln {k n b d m : Int32} (h : slR k n b d m) (hk : ¬ k = -1) : slR (2 * fc_blk k) n b (vp_nar .boolean 0) m := by
  refine ⟨h.1, ?_⟩
  rcases h.2 with ⟨rfl, -⟩ | ⟨B, D, hB, hD, rfl, rfl, rfl, h9⟩
  · exact absurd rfl hk
  · exact Or.inr ⟨B, 0, hB, by omega, by rw [(pf hB hD).1]; exact (pf2 hB).1, rfl, by rw [pf_tb3.1, pf_tb3.2.2.1], h9⟩
theorem slR.mty {k n b d m : Int32} (h : slR k n b d m) (hn : n = -1) : slR (-1) n (-1) (vp_nar .boolean 0) m :=
  ⟨h.1, Or.inl ⟨rfl, hn, rfl, pf_tb3.1⟩⟩
theorem slR_e : slR (-1) (-1) (-1) (vp_nar .boolean 0) (fm_so (-1) (vp_nar .boolean 0)) := by
  rw [pf_tb3.1]
  exact ⟨pf_tb3.2.2.2.2.2.1, Or.inl ⟨rfl, rfl, rfl, rfl⟩⟩
theorem slR.stp {k n b d m : Int32} (h : slR k n b d m) : slR n n (if 0 ≤ m then m / 2 else -1) (vp_nar .boolean (fm_ind m)) m := by
  obtain ⟨rfl, h⟩ := h
  refine ⟨rfl, ?_⟩
  rcases h with ⟨-, rfl, -⟩ | ⟨B, D, hB, hD, -, -, -, rfl | ⟨E, hE, rfl⟩⟩
  · exact Or.inl ⟨rfl, rfl, rfl, by rw [pf_tb3.2.2.2.2.2.2]; exact pf_tb3.1⟩
  · exact Or.inl ⟨rfl, rfl, rfl, by rw [pf_tb3.2.2.2.2.2.2]; exact pf_tb3.1⟩
  · refine Or.inr ⟨B, E, hB, hE, rfl, ?_, ?_, Or.inr ⟨E, hE, rfl⟩⟩
    · rw [if_pos (pf hB hE).2.2.2.1]; exact (pf hB hE).2.2.2.2.1
    · rw [(pf hB hE).2.2.2.2.2.1]
      rcases d01 hE with rfl | rfl
      · rw [pf_tb3.2.2.1]; exact pf_tb3.1
      · rw [pf_tb3.2.2.2.1]; exact pf_tb3.2.1
/-- both sides hold the same: all but the order -/
def rA (n : Nat) (u : StC) (v : StM) : Prop :=
  (∀ b, b < 64 → cs_o u b = ms_o v b) ∧ (∀ s, s < n → cs_v u s = ms_v v s) ∧ (∀ s, s < n → slR (cs_k u s) (cs_n u s) (ms_b v s) (ms_d v s) (ms_n v s)) ∧
  (∀ s t, s < n → t < n → ms_b v s = ms_b v t → ¬ ms_b v s = -1 → s = t) ∧ cs_m u = ms_m v ∧ (cs_m u = 0 ∨ cs_m u = 1 ∨ cs_m u = 2) ∧ cs_h u = ms_h v ∧ cs_i u = ms_i v ∧ cs_j u = ms_j v ∧ cs_w u = ms_w v ∧ cs_t u = ms_t v
theorem rA.ok {n : Nat} {u : StC} {v : StM} (h : rA n u v) : okK n (cs_k u) := fun k hk => (h.2.2.1 k hk).ok
theorem rA.setc {n : Nat} {u : StC} {v : StM} (h : rA n u v) (x : Int32) : rA n u (fm_setc v x) := h
theorem rA.hit {n : Nat} {u : StC} {v : StM} (h : rA n u v) : rA n (fc_hit u) (fm_hit v) := by
  obtain ⟨h1, h2, h3, h4, h5, h6, h7, h8, h9, h10, h11⟩ := h
  exact ⟨h1, h2, h3, h4, h5, h6, h7, congrArg (· + 1) h8, h9, h10, h11⟩
theorem rA.mis {n : Nat} {u : StC} {v : StM} (h : rA n u v) : rA n (fc_mis u) (fm_mis v) := by
  obtain ⟨h1, h2, h3, h4, h5, h6, h7, h8, h9, h10, h11⟩ := h
  exact ⟨h1, h2, h3, h4, h5, h6, h7, h8, congrArg (· + 1) h9, h10, h11⟩
theorem rA.use {n : Nat} {u : StC} {v : StM} (h : rA n u v) (s : Nat) : rA n (fc_use u s) (fm_use v s) := h
theorem rA.note {n s : Nat} {u : StC} {v : StM} (h : rA n u v) : rA n (fc_note u s) (fm_note v s) := by
  obtain ⟨h1, h2, h3, h4, h5, h6, h7, h8, h9, h10, h11⟩ := h
  refine ⟨h1, h2, fun t ht => ?_, h4, h5, h6, h7, h8, h9, h10, congrArg (· + 1) h11⟩
  show slR (cs_k u t) (upd (cs_n u) s (cs_k u s) t) (ms_b v t) (ms_d v t) (upd (ms_n v) s (fm_so (ms_b v s) (ms_d v s)) t)
  by_cases e : t = s
  · subst e; rw [zq_at, zq_at]; exact (h3 t ht).note
  · rw [zq_ne _ _ e, zq_ne _ _ e]; exact h3 t ht
theorem rA.give {n b : Nat} {u : StC} {v : StM} (h : rA n u v) (x : Int64) : rA n (fc_give u b x) (fm_give v b x) := by
  obtain ⟨h1, h2, h3, h4, h5, h6, h7, h8, h9, h10, h11⟩ := h
  refine ⟨fun t ht => ?_, h2, h3, h4, h5, h6, h7, h8, h9, congrArg (· + 1) h10, h11⟩
  show vp_updL (cs_o u) b x t = vp_updL (ms_o v) b x t
  by_cases e : t = b
  · subst e; rw [zl_at, zl_at]
  · rw [zl_ne _ _ e, zl_ne _ _ e]; exact h1 t ht
theorem rA.setv {n s : Nat} {u : StC} {v : StM} (h : rA n u v) (x : Int64) : rA n (fc_setv u s x) (fm_setv v s x) := by
  obtain ⟨h1, h2, h3, h4, h5, h6, h7, h8, h9, h10, h11⟩ := h
  refine ⟨h1, fun t ht => ?_, h3, h4, h5, h6, h7, h8, h9, h10, h11⟩
  show vp_updL (cs_v u) s x t = vp_updL (ms_v v) s x t
  by_cases e : t = s
  · subst e; rw [zl_at, zl_at]
  · rw [zl_ne _ _ e, zl_ne _ _ e]; exact h2 t ht
/-- the contents of one slot change on both sides -/
theorem rA.slot {n s : Nat} {u : StC} {v : StM} {k b d : Int32} (h : rA n u v) (hn : s < n → slR k (cs_n u s) b (vp_nar .boolean d) (ms_n v s)) (hb : s < n → b = ms_b v s ∨ b = -1 ∨ ∀ t, t < n → ¬ t = s → ¬ ms_b v t = b) :
    rA n (fc_setk u s k) (fm_setd (fm_setb v s b) s d) := by
  obtain ⟨h1, h2, h3, h4, h5, h6, h7, h8, h9, h10, h11⟩ := h
  refine ⟨h1, h2, fun t ht => ?_, ?_, h5, h6, h7, h8, h9, h10, h11⟩
  · show slR (upd (cs_k u) s k t) (cs_n u t) (upd (ms_b v) s b t) (upd (ms_d v) s (vp_nar .boolean d) t) (ms_n v t)
    by_cases e : t = s
    · subst e; rw [zq_at, zq_at, zq_at]; exact hn ht
    · rw [zq_ne _ _ e, zq_ne _ _ e, zq_ne _ _ e]; exact h3 t ht
  · show ∀ x y, x < n → y < n → upd (ms_b v) s b x = upd (ms_b v) s b y → ¬ upd (ms_b v) s b x = -1 → x = y
    intro x y hx hy
    by_cases ex : x = s
    · by_cases ey : y = s
      · intro _ _; omega
      · subst ex
        rw [zq_at, zq_ne _ _ ey]
        intro q1 q2
        rcases hb hx with e1 | e1 | e1
        · exact h4 x y hx hy (e1.symm.trans q1) (fun z => q2 (e1.trans z))
        · exact absurd e1 q2
        · exact absurd q1.symm (e1 y hy ey)
    · by_cases ey : y = s
      · subst ey
        rw [zq_at, zq_ne _ _ ex]
        intro q1 q2
        rcases hb hy with e1 | e1 | e1
        · exact h4 x y hx hy (q1.trans e1) q2
        · exact absurd (q1.trans e1) q2
        · exact absurd q1 (e1 x hx ex)
      · rw [zq_ne _ _ ex, zq_ne _ _ ey]
        exact h4 x y hx hy
theorem upd_self (f : Nat → Int32) (s : Nat) : upd f s (f s) = f := by
  funext t
  by_cases e : t = s
  · subst e; rw [zq_at]
  · rw [zq_ne _ _ e]
theorem fm_setb_self (v : StM) (s : Nat) : fm_setb v s (ms_b v s) = v := by
  unfold fm_setb
  rw [upd_self]
/-- dirty alone changes on the reference's side -/
theorem rA.slotd {n s : Nat} {u : StC} {v : StM} {k d : Int32} (h : rA n u v) (hn : s < n → slR k (cs_n u s) (ms_b v s) (vp_nar .boolean d) (ms_n v s)) : rA n (fc_setk u s k) (fm_setd v s d) := by
  have := h.slot (s := s) (k := k) (b := ms_b v s) (d := d) hn (fun _ => Or.inl rfl)
  rw [fm_setb_self] at this
  exact this
theorem rA.clean {n s : Nat} {u : StC} {v : StM} (h : rA n u v) (hs : s < n) (hk : ¬ cs_k u s = -1) : rA n (fc_clean u s) (fm_clean v s) := by
  have h3 := h.2.2.1 s hs
  have h0 : rA n (fc_setk u s (2 * fc_blk (cs_k u s))) (fm_setd v s 0) := h.slotd fun _ => h3.cln hk
  unfold fc_clean fm_clean
  rw [← h3.ind]
  split
  · exact h0
  · exact h0.note
theorem rA.empty {n s : Nat} {u : StC} {v : StM} (h : rA n u v) (hs : s < n) : rA n (fc_empty u s) (fm_empty v s) := by
  have h3 := h.2.2.1 s hs
  unfold fc_empty fm_empty
  by_cases e : cs_n u s = -1
  · rw [if_pos e, if_pos (h3.nem.mp e)]
    exact h.slot (fun _ => h3.mty e) (fun _ => Or.inr (Or.inl rfl))
  · rw [if_neg e, if_neg (fun q => e (h3.nem.mpr q))]
    obtain ⟨h1, h2, h3, h4, h5, h6, h7, h8, h9, h10, h11⟩ := h
    refine ⟨h1, h2, fun t ht => ?_, ?_, h5, h6, h7, h8, h9, h10, congrArg (· + 1) h11⟩
    · show slR (upd (cs_k u) s (-1) t) (upd (cs_n u) s (upd (cs_k u) s (-1) s) t) (upd (ms_b v) s (-1) t) (upd (ms_d v) s (vp_nar .boolean 0) t) (upd (ms_n v) s (fm_so (upd (ms_b v) s (-1) s) (upd (ms_d v) s (vp_nar .boolean 0) s)) t)
      by_cases e : t = s
      · subst e; simp only [zq_at]; exact slR_e
      · simp only [zq_ne _ _ e]; exact h3 t ht
    · show ∀ x y, x < n → y < n → upd (ms_b v) s (-1) x = upd (ms_b v) s (-1) y → ¬ upd (ms_b v) s (-1) x = -1 → x = y
      intro x y hx hy
      by_cases ex : x = s
      · subst ex; rw [zq_at]; intro _ q; exact absurd rfl q
      · rw [zq_ne _ _ ex]
        by_cases ey : y = s
        · subst ey; rw [zq_at]; intro q1 q2; exact absurd q1 q2
        · rw [zq_ne _ _ ey]; exact h4 x y hx hy
def fm_wbd (v : StM) (s : Nat) : StM := if ms_d v s = 0 then v else fm_wb v s
theorem rA.wbd {n s : Nat} {u : StC} {v : StM} (h : rA n u v) (hs : s < n) : (fc_wbd u s).1 = (if ms_d v s = 0 then 0 else 1) ∧ rA n (fc_wbd u s).2 (fm_wbd v s) := by
  have h3 := h.2.2.1 s hs
  unfold fc_wbd fm_wbd
  rw [h3.isd]
  by_cases e : ms_d v s = 0
  · rw [if_pos e, if_pos e, if_pos e]; exact ⟨rfl, h⟩
  · rw [if_neg e, if_neg e, if_neg e]
    refine ⟨rfl, ?_⟩
    have hk : ¬ cs_k u s = -1 := fun q => by
      rcases h3.2 with ⟨-, -, -, q4⟩ | ⟨B, D, hB, hD, q1, -⟩
      · exact e q4
      · exact (pf hB hD).2.2.1 (q1.symm.trans q)
    show rA n (fc_clean (fc_give u (fc_blk (cs_k u s)).toNatClampNeg (cs_v u s)) s) (fm_clean (fm_give v (ms_b v s).toNatClampNeg (ms_v v s)) s)
    rw [(h3.blk hk).1, h.2.1 s hs]
    exact (h.give _).clean hs hk
theorem fm_find_none (f : Nat → Int32) (b : Nat) : ∀ r k a, (∀ i, k ≤ i → i < k + r → ¬ f i = nI b) → fm_find f b r k a = a := by
  intro r
  induction r with
  | zero => intro k a _; rfl
  | succ r ih =>
    intro k a h
    rw [fm_find, if_neg (h k (Nat.le_refl _) (by omega))]
    exact ih _ _ (fun i h1 h2 => h i (by omega) (by omega))
theorem fm_find_some (f : Nat → Int32) (b j : Nat) (hj : f j = nI b) : ∀ r k a, (∀ i, k ≤ i → i < k + r → f i = nI b → i = j) → k ≤ j → j < k + r → fm_find f b r k a = some j := by
  intro r
  induction r with
  | zero => intro k a _ _ _; omega
  | succ r ih =>
    intro k a h h1 h2
    rw [fm_find]
    by_cases e : k = j
    · subst e
      rw [if_pos hj]
      exact fm_find_none _ _ _ _ _ (fun i q1 q2 q3 => by have := h i (by omega) (by omega) q3; omega)
    · rw [if_neg (fun q => e (h k (Nat.le_refl _) (by omega) q))]
      exact ih _ _ (fun i q1 q2 => h i (by omega) (by omega)) (by omega) (by omega)
theorem rA.find {n b : Nat} {u : StC} {v : StM} (h : rA n u v) (hb : b < 64) : fm_find (ms_b v) b n 0 none = fc_find (cs_k u) b n 0 := by
  rcases hf : fc_find (cs_k u) b n 0 with _ | j
  · refine fm_find_none _ _ _ _ _ fun i _ h2 q => ?_
    have := (h.2.2.1 i (by omega)).fnd hb |>.mpr q
    rcases fc_find_no _ _ _ _ hf i (Nat.zero_le _) h2 with q1 | q1
    · exact this.1 q1
    · exact q1 this.2
  · obtain ⟨-, h2, h3, h4⟩ := fc_find_sp _ _ _ _ _ hf
    have hj : ms_b v j = nI b := ((h.2.2.1 j (by omega)).fnd hb).mp ⟨h3, h4⟩
    refine fm_find_some _ _ _ hj _ _ _ (fun i _ q2 q3 => ?_) (Nat.zero_le _) h2
    exact h.2.2.2.1 i j (by omega) (by omega) (q3.trans hj.symm) (fun q => (pf2 hb).2.2.1 (q3.symm.trans q))
theorem rA.fnd {n b j : Nat} {u : StC} {v : StM} (h : rA n u v) (hb : b < 64) (hf : fc_find (cs_k u) b n 0 = some j) : j < n ∧ ¬ cs_k u j = -1 ∧ ms_b v j = nI b ∧ fc_blk (cs_k u j) = nI b := by
  obtain ⟨-, h2, h3, h4⟩ := fc_find_sp _ _ _ _ _ hf
  exact ⟨by omega, h3, ((h.2.2.1 j (by omega)).fnd hb).mp ⟨h3, h4⟩, h4⟩
theorem rA.fno {n b : Nat} {u : StC} {v : StM} (h : rA n u v) (hb : b < 64) (hf : fc_find (cs_k u) b n 0 = none) : ∀ t, t < n → ¬ ms_b v t = nI b := fun t ht q => by
  have := (h.2.2.1 t ht).fnd hb |>.mpr q
  rcases fc_find_no _ _ _ _ hf t (Nat.zero_le _) (by omega) with q1 | q1
  · exact this.1 q1
  · exact q1 this.2
def rO (n x : Nat) (u : StC) (v : StM) : Prop :=
  (∀ s t, s < n → t < n → ¬ s = x → ¬ t = x → ¬ cs_k u s = -1 → ¬ cs_k u t = -1 → (cs_l u s < cs_l u t ↔ ms_l v s < ms_l v t)) ∧ (∀ s, s < n → (cs_l u s).toInt ≤ (cs_u u).toInt) ∧ (∀ s, s < n → (ms_l v s).toInt ≤ (ms_u v).toInt)
def rB (K : Nat) (u : StC) (v : StM) : Prop := 0 ≤ (cs_u u).toInt ∧ (cs_u u).toInt ≤ K ∧ 0 ≤ (ms_u v).toInt ∧ (ms_u v).toInt ≤ 13 * K
theorem p_one : (1 : Int32).toInt = 1 ∧ (1 : Int64).toInt = 1 := by decide
theorem add1_32 {x : Int32} (h0 : 0 ≤ x.toInt) (h : x.toInt ≤ 100000) : (x + 1).toInt = x.toInt + 1 := by
  rw [Jvm.Kit.i32_add (by rw [p_one.1]; omega) (by rw [p_one.1]; omega), p_one.1]
theorem add1_64 {x : Int64} (h0 : 0 ≤ x.toInt) (h : x.toInt ≤ 100000) : (x + 1).toInt = x.toInt + 1 := by
  rw [Jvm.Kit.i64_add (by rw [p_one.2]; omega) (by rw [p_one.2]; omega), p_one.2]
theorem rO.use {n s K : Nat} {u : StC} {v : StM} (h : rO n s u v) (hB : rB K u v) (hK : K < 5000) : rO n n (fc_use u s) (fm_use v s) ∧ rB (K + 1) (fc_use u s) (fm_use v s) := by
  obtain ⟨h1, h2, h3⟩ := h
  obtain ⟨b1, b2, b3, b4⟩ := hB
  have e1 : (cs_u u + 1).toInt = (cs_u u).toInt + 1 := add1_32 b1 (by omega)
  have e2 : (ms_u v + 1).toInt = (ms_u v).toInt + 1 := add1_64 b3 (by omega)
  refine ⟨⟨?_, ?_, ?_⟩, ?_⟩
  · show ∀ x t, x < n → t < n → ¬ x = n → ¬ t = n → ¬ cs_k u x = -1 → ¬ cs_k u t = -1 → (upd (cs_l u) s (cs_u u + 1) x < upd (cs_l u) s (cs_u u + 1) t ↔ vp_updL (ms_l v) s (ms_u v + 1) x < vp_updL (ms_l v) s (ms_u v + 1) t)
    intro x t hx ht _ _ kx kt
    by_cases ex : x = s
    · by_cases et : t = s
      · subst ex; subst et
        exact ⟨fun q => absurd q Int32.lt_irrefl, fun q => absurd q Int64.lt_irrefl⟩
      · subst ex
        rw [zq_at, zl_at, zq_ne _ _ et, zl_ne _ _ et, Int32.lt_iff_toInt_lt, Int64.lt_iff_toInt_lt, e1, e2]
        have q1 := h2 t ht
        have q2 := h3 t ht
        constructor <;> intro <;> omega
    · by_cases et : t = s
      · subst et
        rw [zq_at, zl_at, zq_ne _ _ ex, zl_ne _ _ ex, Int32.lt_iff_toInt_lt, Int64.lt_iff_toInt_lt, e1, e2]
        have q1 := h2 x hx
        have q2 := h3 x hx
        constructor <;> intro <;> omega
      · rw [zq_ne _ _ ex, zq_ne _ _ et, zl_ne _ _ ex, zl_ne _ _ et]
        exact h1 x t hx ht ex et kx kt
  · show ∀ x, x < n → (upd (cs_l u) s (cs_u u + 1) x).toInt ≤ (cs_u u + 1).toInt
    intro x hx
    by_cases ex : x = s
    · subst ex; rw [zq_at]; exact Int.le_refl _
    · rw [zq_ne _ _ ex, e1]; have := h2 x hx; omega
  · show ∀ x, x < n → (vp_updL (ms_l v) s (ms_u v + 1) x).toInt ≤ (ms_u v + 1).toInt
    intro x hx
    by_cases ex : x = s
    · subst ex; rw [zl_at]; exact Int.le_refl _
    · rw [zl_ne _ _ ex, e2]; have := h3 x hx; omega
  · show 0 ≤ (cs_u u + 1).toInt ∧ (cs_u u + 1).toInt ≤ ((K + 1 : Nat) : Int) ∧ 0 ≤ (ms_u v + 1).toInt ∧ (ms_u v + 1).toInt ≤ 13 * ((K + 1 : Nat) : Int)
    rw [e1, e2]
    omega
/-- the order's words look at contents (empty or not), last uses and the clocks alone -/
theorem rO.to {n x y : Nat} {u u' : StC} {v v' : StM} (h : rO n x u v) (hl : cs_l u' = cs_l u) (hu : cs_u u' = cs_u u) (hl' : ms_l v' = ms_l v) (hu' : ms_u v' = ms_u v) (hk : ∀ s, s < n → ¬ s = y → ¬ cs_k u' s = -1 → ¬ s = x ∧ ¬ cs_k u s = -1) : rO n y u' v' := by
  obtain ⟨h1, h2, h3⟩ := h
  refine ⟨fun s t hs ht ys yt ks kt => ?_, fun s hs => ?_, fun s hs => ?_⟩
  · rw [hl, hl']
    exact h1 s t hs ht (hk s hs ys ks).1 (hk t ht yt kt).1 (hk s hs ys ks).2 (hk t ht yt kt).2
  · rw [hl, hu]; exact h2 s hs
  · rw [hl', hu']; exact h3 s hs
theorem rB.to {K : Nat} {u u' : StC} {v v' : StM} (h : rB K u v) (hu : cs_u u' = cs_u u) (hu' : ms_u v' = ms_u v) : rB K u' v' := by
  obtain ⟨h1, h2, h3, h4⟩ := h
  exact ⟨by rw [hu]; exact h1, by rw [hu]; exact h2, by rw [hu']; exact h3, by rw [hu']; exact h4⟩
theorem rB.up {K L : Nat} {u : StC} {v : StM} (h : rB K u v) (hl : K ≤ L) : rB L u v := ⟨h.1, by have := h.2.1; omega, h.2.2.1, by have := h.2.2.2; omega⟩
/-- what a method leaves: last uses and clock -/
def keC (u u' : StC) : Prop := cs_l u' = cs_l u ∧ cs_u u' = cs_u u
def keM (v v' : StM) : Prop := ms_l v' = ms_l v ∧ ms_u v' = ms_u v
theorem ke_clean (u : StC) (s : Nat) : keC u (fc_clean u s) := by unfold fc_clean; split <;> exact ⟨rfl, rfl⟩
theorem ke_empty (u : StC) (s : Nat) : keC u (fc_empty u s) := by unfold fc_empty; split <;> exact ⟨rfl, rfl⟩
theorem keC.trans {a b c : StC} (h : keC a b) (g : keC b c) : keC a c := ⟨g.1.trans h.1, g.2.trans h.2⟩
theorem keM.trans {a b c : StM} (h : keM a b) (g : keM b c) : keM a c := ⟨g.1.trans h.1, g.2.trans h.2⟩
theorem ke_wbd (u : StC) (s : Nat) : keC u (fc_wbd u s).2 := by
  unfold fc_wbd
  split
  · exact ⟨rfl, rfl⟩
  · exact (show keC u (fc_give u _ _) from ⟨rfl, rfl⟩).trans (ke_clean _ _)
theorem kem_clean (v : StM) (s : Nat) : keM v (fm_clean v s) := by unfold fm_clean; split <;> exact ⟨rfl, rfl⟩
theorem kem_empty (v : StM) (s : Nat) : keM v (fm_empty v s) := by unfold fm_empty; split <;> exact ⟨rfl, rfl⟩
theorem kem_wb (v : StM) (s : Nat) : keM v (fm_wb v s) := (show keM v (fm_give v _ _) from ⟨rfl, rfl⟩).trans (kem_clean _ _)
theorem kem_wbd (v : StM) (s : Nat) : keM v (fm_wbd v s) := by
  unfold fm_wbd
  split
  · exact ⟨rfl, rfl⟩
  · exact kem_wb _ _
def fc_lru (g : Nat → Int32) : Nat → Nat → Nat → Nat
  | 0, _, lo => lo
  | r + 1, k, lo => if g lo ≤ g k then fc_lru g r (k + 1) lo else fc_lru g r (k + 1) k
theorem lru_eq {g : Nat → Int32} {g' : Nat → Int64} {n : Nat} (h : ∀ s t, s < n → t < n → (g s < g t ↔ g' s < g' t)) : ∀ r k lo, r + k = n → lo < n → fc_lru g r k lo = fm_lru g' r k lo := by
  intro r
  induction r with
  | zero => intro k lo _ _; rfl
  | succ r ih =>
    intro k lo h1 h2
    rw [fc_lru, fm_lru]
    have e := h k lo (by omega) h2
    by_cases q : g lo ≤ g k
    · rw [if_pos q, if_pos ((lg_cmp_ge _ _).mpr (Int64.not_lt.mp fun z => Int32.not_lt.mpr q (e.mpr z)))]
      exact ih _ _ (by omega) h2
    · rw [if_neg q, if_neg (fun z => absurd (e.mp (Int32.not_le.mp q)) (Int64.not_lt.mpr ((lg_cmp_ge _ _).mp z)))]
      exact ih _ _ (by omega) (by omega)
theorem fc_room_emp (n e : Nat) (u : StC) (he : cs_k u e = -1) (hf : ∀ i, i < e → ¬ cs_k u i = -1) (hen : e < n) : ∀ r k lo, r + k = n → k ≤ e → fc_room r k lo u = (e, u) := by
  intro r
  induction r with
  | zero => intro k lo h1 h2; omega
  | succ r ih =>
    intro k lo h1 h2
    rw [fc_room]
    by_cases q : k = e
    · subst q; rw [if_pos he]
    · rw [if_neg (hf k (by omega))]
      split
      · exact ih _ _ (by omega) (by omega)
      · exact ih _ _ (by omega) (by omega)
theorem fc_room_ful (n : Nat) (u : StC) (hf : ∀ i, i < n → ¬ cs_k u i = -1) : ∀ r k lo, r + k = n → fc_room r k lo u = (fc_lru (cs_l u) r k lo, fc_empty (fc_wbd u (fc_lru (cs_l u) r k lo)).2 (fc_lru (cs_l u) r k lo)) := by
  intro r
  induction r with
  | zero => intro k lo h1; rfl
  | succ r ih =>
    intro k lo h1
    rw [fc_room, if_neg (hf k (by omega)), fc_lru]
    split
    · exact ih _ _ (by omega)
    · exact ih _ _ (by omega)
theorem fm_emp_no (f : Nat → Int32) : ∀ m a, (∀ i, i < m → 0 ≤ f i) → fm_emp f m a = a := by
  intro m
  induction m with
  | zero => intro a _; rfl
  | succ m ih =>
    intro a h
    rw [fm_emp, if_pos (h m (by omega))]
    exact ih _ (fun i hi => h i (by omega))
theorem fm_emp_so (f : Nat → Int32) (e : Nat) (he : ¬ 0 ≤ f e) (hf : ∀ i, i < e → 0 ≤ f i) : ∀ m a, e < m → fm_emp f m a = some e := by
  intro m
  induction m with
  | zero => intro a h; omega
  | succ m ih =>
    intro a h
    rw [fm_emp]
    by_cases q : m = e
    · subst q; rw [if_neg he]; exact fm_emp_no _ _ _ hf
    · split
      · exact ih _ (by omega)
      · exact ih _ (by omega)
theorem first_emp (f : Nat → Int32) : ∀ n, (∀ i, i < n → ¬ f i = -1) ∨ ∃ e, e < n ∧ f e = -1 ∧ ∀ i, i < e → ¬ f i = -1 := by
  intro n
  induction n with
  | zero => exact Or.inl fun i h => by omega
  | succ n ih =>
    rcases ih with h | ⟨e, h1, h2, h3⟩
    · by_cases q : f n = -1
      · exact Or.inr ⟨n, by omega, q, h⟩
      · refine Or.inl fun i hi => ?_
        by_cases z : i = n
        · subst z; exact q
        · exact h i (by omega)
    · exact Or.inr ⟨e, by omega, h2, h3⟩
/-- finding room, both sides: the same slot, empty then; no other slot's contents change; what is found nowhere stays so -/
theorem room_sim {n : Nat} {u : StC} {v : StM} (hn : 0 < n) (h : rA n u v) (hO : rO n n u v) : ∃ (e : Nat) (u' : StC) (v' : StM), fc_room n 0 0 u = (e, u') ∧ fm_room n v = (e, v') ∧ e < n ∧ rA n u' v' ∧ cs_k u' e = -1 ∧ keC u u' ∧ keM v v' ∧ (∀ t, t < n → ¬ t = e → ¬ cs_k u' t = -1 → ¬ cs_k u t = -1) ∧ (∀ t x, t < n → ¬ x = -1 → ¬ ms_b v t = x → ¬ ms_b v' t = x) := by
  have hs := h.2.2.1
  rcases first_emp (cs_k u) n with hf | ⟨e, he, h1, h2⟩
  · have hlru : fc_lru (cs_l u) n 0 0 = fm_lru (ms_l v) (n - 1) 1 0 := by
      obtain ⟨m, rfl⟩ : ∃ m, n = m + 1 := ⟨n - 1, by omega⟩
      rw [fc_lru, if_pos (Int32.le_refl _)]
      exact lru_eq (n := m + 1) (fun s t h1 h2 => hO.1 s t h1 h2 (by omega) (by omega) (hf s h1) (hf t h2)) m 1 0 (by omega) (by omega)
    have hlt : fm_lru (ms_l v) (n - 1) 1 0 < n := fm_lru_lt _ n _ _ _ (by omega) hn
    have hemp : fm_emp (ms_b v) n none = none := fm_emp_no _ _ _ fun i hi => Classical.byContradiction fun q => hf i hi ((hs i hi).emn.mpr q)
    refine ⟨fm_lru (ms_l v) (n - 1) 1 0, _, _, (fc_room_ful n u hf n 0 0 rfl).trans (by rw [hlru]), by unfold fm_room; rw [hemp], hlt, ?_, ?_, ?_, ?_, ?_, ?_⟩
    · have hw := (h.wbd hlt).2
      have := hw.empty hlt
      unfold fm_wbd at this
      unfold fm_drop
      split <;> rename_i q
      · rw [if_pos q] at this; exact this
      · rw [if_neg q] at this; exact this
    · rw [ck_empty]; exact zq_at _ _ _
    · exact (ke_wbd _ _).trans (ke_empty _ _)
    · unfold fm_drop
      split
      · exact kem_empty _ _
      · exact (kem_wb _ _).trans (kem_empty _ _)
    · intro t ht _ _
      exact hf t ht
    · intro t x ht hx hq
      have key : ∀ (v' : StM) (e : Nat), (∀ t, ms_b v' t = ms_b v t) → ¬ ms_b (fm_empty v' e) t = x := by
        intro v' e hv'
        have : ms_b (fm_empty v' e) = upd (ms_b v') e (-1) := by unfold fm_empty; split <;> rfl
        rw [this]
        by_cases z : t = e
        · subst z; rw [zq_at]; exact fun z => hx z.symm
        · rw [zq_ne _ _ z, hv']; exact hq
      unfold fm_drop
      split
      · exact key _ _ (fun _ => rfl)
      · exact key _ _ (fun t => by unfold fm_wb fm_clean; split <;> rfl)
  · refine ⟨e, u, v, fc_room_emp n e u h1 h2 he n 0 0 rfl (Nat.zero_le _), ?_, he, h, h1, ⟨rfl, rfl⟩, ⟨rfl, rfl⟩, fun _ _ _ q => q, fun _ _ _ _ q => q⟩
    have hemp : fm_emp (ms_b v) n none = some e := fm_emp_so _ e ((hs e he).emn.mp h1) (fun i hi => Classical.byContradiction fun q => h2 i hi ((hs i (by omega)).emn.mpr q)) n none he
    unfold fm_room
    rw [hemp]
/-- the whole relation -/
def rR (n K : Nat) (u : StC) (v : StM) : Prop := rA n u v ∧ rO n n u v ∧ rB K u v
theorem rR.up {n K L : Nat} {u : StC} {v : StM} (h : rR n K u v) (hl : K ≤ L) : rR n L u v := ⟨h.1, h.2.1, h.2.2.up hl⟩
theorem rR.setc {n K : Nat} {u : StC} {v : StM} (h : rR n K u v) (x : Int32) : rR n K u (fm_setc v x) := h
theorem slR.fil {n m k b d : Int32} {B D : Nat} (h : slR k n b d m) (hk : k = -1) (hB : B < 64) (hD : D < 2) : slR (nI (2 * B + D)) n (nI B) (vp_nar .boolean (nI D)) m := by
  refine ⟨h.1, Or.inr ⟨B, D, hB, hD, rfl, rfl, ?_, Or.inl ?_⟩⟩
  · rcases d01 hD with rfl | rfl
    · rw [pf_tb3.2.2.1]; exact pf_tb3.1
    · rw [pf_tb3.2.2.2.1]; exact pf_tb3.2.1
  · rcases h.2 with ⟨-, q, -⟩ | ⟨B', D', hB', hD', q, -⟩
    · exact q
    · exact absurd (q.symm.trans hk) (pf hB' hD').2.2.1
theorem slR.ovr {n m k b d : Int32} {B D : Nat} (h : slR k n b d m) (hb : b = nI B) (hB : B < 64) (hD : D < 2) : slR (nI (2 * B + D)) n b (vp_nar .boolean (nI D)) m := by
  refine ⟨h.1, Or.inr ⟨B, D, hB, hD, rfl, hb, ?_, ?_⟩⟩
  · rcases d01 hD with rfl | rfl
    · rw [pf_tb3.2.2.1]; exact pf_tb3.1
    · rw [pf_tb3.2.2.2.1]; exact pf_tb3.2.1
  · rcases h.2 with ⟨-, q, -⟩ | ⟨B', D', hB', hD', -, q, -, q9⟩
    · exact Or.inl q
    · have e : B' = B := (nI_eq (by omega) (by omega)).mp (q.symm.trans hb)
      subst e
      exact q9
theorem fill0 (u : StC) (s b : Nat) (x : Int64) : fc_fill u s b x 0 = (0, u) := if_neg (by decide)
theorem fill1 (u : StC) (s b : Nat) (x : Int64) : fc_fill u s b x 1 = (1, fc_setv (fc_setk u s (2 * nI b + 1)) s x) := (if_pos (by decide)).trans (if_neg (by decide))
theorem fill2 (u : StC) (s b : Nat) (x : Int64) : fc_fill u s b x 2 = (2, fc_note (fc_setv (fc_setk u s (2 * nI b + 1)) s x) s) := (if_pos (by decide)).trans (if_pos (by decide))
theorem owd0 (u : StC) (s b : Nat) (x : Int64) : fc_owd u s b x 0 = (0, u) := if_neg (by decide)
theorem owd1 (u : StC) (s b : Nat) (x : Int64) : fc_owd u s b x 1 = (1, fc_setv (fc_setk u s (2 * nI b + 1)) s x) := if_pos (by decide)
theorem owd2 (u : StC) (s b : Nat) (x : Int64) : fc_owd u s b x 2 = (1, fc_setv (fc_setk u s (2 * nI b + 1)) s x) := if_pos (by decide)
theorem owc0 (u : StC) (s b : Nat) (x : Int64) : fc_owc u s b x 0 = (0, u) := if_neg (by decide)
theorem owc1 (u : StC) (s b : Nat) (x : Int64) : fc_owc u s b x 1 = (1, fc_note (fc_setk u s (2 * nI b + 1)) s) := (if_pos (by decide)).trans (if_neg (by decide))
theorem owc2 (u : StC) (s b : Nat) (x : Int64) : fc_owc u s b x 2 = (2, fc_setv (fc_note (fc_setk u s (2 * nI b + 1)) s) s x) := (if_pos (by decide)).trans (if_pos (by decide))
theorem stF0 (v : StM) (s b : Nat) (x : Int64) : fm_stF v s b x 0 = (0, v) := (if_pos (by decide)).trans (if_pos (by decide))
theorem stF1 (v : StM) (s b : Nat) (x : Int64) : fm_stF v s b x 1 = (0 + 1, fm_setd (fm_setv (fm_setb v s (nI b)) s x) s 1) := (if_neg (by decide)).trans (if_pos (by decide))
theorem stF2 (v : StM) (s b : Nat) (x : Int64) : fm_stF v s b x 2 = (0 + 1 + 1, fm_note (fm_setd (fm_setv (fm_setb v s (nI b)) s x) s 1) s) := (if_neg (by decide)).trans (if_neg (by decide))
theorem stW00 (v : StM) (s : Nat) (x : Int64) : fm_stW v s x 0 0 = (0, v) := if_pos (by decide)
theorem stW10 (v : StM) (s : Nat) (x : Int64) : fm_stW v s x 1 0 = (0 + 1, fm_setd (fm_setv v s x) s 1) := if_neg (by decide)
theorem stW20 (v : StM) (s : Nat) (x : Int64) : fm_stW v s x 2 0 = (0 + 1, fm_setd (fm_setv v s x) s 1) := if_neg (by decide)
theorem stW11 (v : StM) (s : Nat) (x : Int64) : fm_stW v s x 1 (0 + 1) = (0 + 1, v) := if_pos (by decide)
theorem stW21 (v : StM) (s : Nat) (x : Int64) : fm_stW v s x 2 (0 + 1) = (0 + 1 + 1, fm_setd (fm_setv v s x) s 1) := if_neg (by decide)
theorem fm_setd_self (v : StM) (s : Nat) (d : Int32) (h : ms_d v s = vp_nar .boolean d) : fm_setd v s d = v := by
  unfold fm_setd
  rw [← h, upd_self]
theorem n_one : nI 1 = 1 ∧ (0 : Int32) + 1 = 1 ∧ (0 : Int32) + 1 + 1 = 2 := by decide
theorem rA.fill {n s b : Nat} {u : StC} {v : StM} (h : rA n u v) (hs : s < n) (hk : cs_k u s = -1) (hb : b < 64) (hno : ∀ t, t < n → ¬ ms_b v t = nI b) (x : Int64) : rA n (fc_setv (fc_setk u s (2 * nI b + 1)) s x) (fm_setd (fm_setv (fm_setb v s (nI b)) s x) s 1) := by
  have h3 := h.2.2.1 s hs
  have := (h.slot (s := s) (k := nI (2 * b + 1)) (b := nI b) (d := 1) (fun _ => by have := h3.fil hk hb (D := 1) (by omega); rw [n_one.1] at this; exact this) (fun _ => Or.inr (Or.inr fun t ht _ => hno t ht))).setv (s := s) x
  rw [(pf2 hb).2.1]
  exact this
theorem rA.kept {n s b : Nat} {u : StC} {v : StM} (h : rA n u v) (hs : s < n) (hk : cs_k u s = -1) (hb : b < 64) (hno : ∀ t, t < n → ¬ ms_b v t = nI b) (x : Int64) : rA n (fc_setv (fc_setk u s (2 * nI b)) s x) (fm_setd (fm_setv (fm_setb v s (nI b)) s x) s 0) := by
  have h3 := h.2.2.1 s hs
  have := (h.slot (s := s) (k := nI (2 * b)) (b := nI b) (d := 0) (fun _ => by have := h3.fil hk hb (D := 0) (by omega); rw [pf_tb3.2.2.1] at this; exact this) (fun _ => Or.inr (Or.inr fun t ht _ => hno t ht))).setv (s := s) x
  rw [(pf2 hb).1]
  exact this
theorem rA.over {n s b : Nat} {u : StC} {v : StM} (h : rA n u v) (hs : s < n) (hb : b < 64) (hf : ms_b v s = nI b) : rA n (fc_setk u s (2 * nI b + 1)) (fm_setd v s 1) := by
  have h3 := h.2.2.1 s hs
  rw [(pf2 hb).2.1]
  exact h.slotd fun _ => by have := h3.ovr hf hb (D := 1) (by omega); rw [n_one.1] at this; exact this
theorem ord_k {n y : Nat} {u u' : StC} {v v' : StM} (hO : rO n n u v) (hc : keC u u') (hm : keM v v') (hk : ∀ t, t < n → ¬ t = y → ¬ cs_k u' t = -1 → ¬ cs_k u t = -1) : rO n y u' v' :=
  hO.to hc.1 hc.2 hm.1 hm.2 fun s hs hy q => ⟨by omega, hk s hs hy q⟩
theorem use_sim {n s K : Nat} {u u' : StC} {v v' : StM} (hA : rA n u' v') (hO : rO n n u v) (hB : rB K u v) (hK : K < 5000) (hc : keC u u') (hm : keM v v') (hk : ∀ t, t < n → ¬ t = s → ¬ cs_k u' t = -1 → ¬ cs_k u t = -1) : rR n (K + 1) (fc_use u' s) (fm_use v' s) := by
  have h1 := (ord_k (y := s) hO hc hm hk).use (hB.to hc.2 hm.2) hK
  exact ⟨hA.use s, h1.1, h1.2⟩
theorem setk_k {u : StC} {s : Nat} {x : Int32} : ∀ t, ¬ t = s → cs_k (fc_setk u s x) t = cs_k u t := fun t h => zq_ne _ _ h
theorem sim_read {n K b : Nat} {u : StC} {v : StM} (hn : 0 < n) (h : rR n K u v) (hK : K < 5000) (hb : b < 64) : (fm_readB n v b).1 = (fc_read n u b).1 ∧ rR n (K + 1) (fc_read n u b).2 (fm_readB n v b).2 := by
  obtain ⟨hA, hO, hB⟩ := h
  unfold fm_readB fc_read
  rw [hA.find hb]
  rcases hf : fc_find (cs_k u) b n 0 with _ | j
  · dsimp only
    rw [hA.2.2.2.2.1]
    by_cases q : ms_m v = 2
    · rw [if_pos q, if_pos q]
      exact ⟨(hA.1 b hb).symm, hA.mis, hO, hB.up (by omega)⟩
    · rw [if_neg q, if_neg q]
      obtain ⟨e, u', v', e1, e2, he, hA', hk', hc, hm, hk, hno⟩ := room_sim hn hA.mis (show rO n n (fc_mis u) (fm_mis v) from hO)
      rw [e1, e2]
      dsimp only
      have ho : ms_o v' b = cs_o u' b := (hA'.1 b hb).symm
      refine ⟨ho, ?_⟩
      have hA2 := hA'.kept he hk' hb (fun t ht => hno t (nI b) ht (pf2 hb).2.2.1 (hA.fno hb hf t ht)) (cs_o u' b)
      unfold fc_keep fm_keep
      rw [ho]
      refine use_sim hA2 hO hB hK hc hm fun t ht hte q => hk t ht hte ?_
      exact fun z => q ((setk_k t hte).trans z)
  · obtain ⟨hj, hkj, hbj, -⟩ := hA.fnd hb hf
    exact ⟨(hA.2.1 j hj).symm, use_sim hA.hit hO hB hK ⟨rfl, rfl⟩ ⟨rfl, rfl⟩ fun _ _ _ q => q⟩
theorem sim_steps {n K b : Nat} {u : StC} {v : StM} {x : Int64} {q : Int32} (hn : 0 < n) (h : rR n K u v) (hK : K < 5000) (hb : b < 64) (hq : q = 0 ∨ q = 1 ∨ q = 2) : (fm_steps n v b x q).1 = (fc_wis n u b x q).1 ∧ rR n (K + 1) (fc_wis n u b x q).2 (fm_steps n v b x q).2 := by
  obtain ⟨hA, hO, hB⟩ := h
  unfold fm_steps fc_wis
  rw [hA.find hb]
  rcases hf : fc_find (cs_k u) b n 0 with _ | j
  · dsimp only
    obtain ⟨e, u', v', e1, e2, he, hA', hk', hc, hm, hk, hno⟩ := room_sim hn hA hO
    rw [e1, e2]
    dsimp only
    have hA2 := hA'.fill he hk' hb (fun t ht => hno t (nI b) ht (pf2 hb).2.2.1 (hA.fno hb hf t ht)) x
    rcases hq with rfl | rfl | rfl
    · rw [fill0, stF0]
      exact ⟨rfl, use_sim hA' hO hB hK hc hm hk⟩
    · rw [fill1, stF1]
      exact ⟨n_one.2.1, use_sim hA2 hO hB hK hc hm fun t ht hte q => hk t ht hte fun z => q ((setk_k t hte).trans z)⟩
    · rw [fill2, stF2]
      exact ⟨n_one.2.2, use_sim hA2.note hO hB hK hc hm fun t ht hte q => hk t ht hte fun z => q ((setk_k t hte).trans z)⟩
  · obtain ⟨hj, hkj, hbj, -⟩ := hA.fnd hb hf
    dsimp only
    have hkk : ∀ (u1 : StC) (y : Int32), cs_k u1 = cs_k (fc_setk u j y) → ∀ t, t < n → ¬ t = j → ¬ cs_k u1 t = -1 → ¬ cs_k u t = -1 := fun u1 y e t ht hte q z => q (by rw [e]; exact (setk_k t hte).trans z)
    unfold fm_stO
    rw [(hA.2.2.1 j hj).1]
    by_cases e : cs_n u j = 2 * nI b + 1
    · rw [if_pos e, if_pos e]
      have hA2 := (hA.over hj hb hbj).setv (s := j) x
      rcases hq with rfl | rfl | rfl
      · rw [owd0, stW00]
        exact ⟨rfl, use_sim hA hO hB hK ⟨rfl, rfl⟩ ⟨rfl, rfl⟩ fun _ _ _ q => q⟩
      · rw [owd1, stW10]
        exact ⟨n_one.2.1, use_sim hA2 hO hB hK ⟨rfl, rfl⟩ ⟨rfl, rfl⟩ (hkk _ _ rfl)⟩
      · rw [owd2, stW20]
        exact ⟨n_one.2.1, use_sim hA2 hO hB hK ⟨rfl, rfl⟩ ⟨rfl, rfl⟩ (hkk _ _ rfl)⟩
    · rw [if_neg e, if_neg e]
      have hA2 := (hA.over hj hb hbj).note (s := j)
      have hA3 := hA2.setv (s := j) x
      rcases hq with rfl | rfl | rfl
      · rw [if_pos (by decide), owc0, stW00]
        exact ⟨rfl, use_sim hA hO hB hK ⟨rfl, rfl⟩ ⟨rfl, rfl⟩ fun _ _ _ q => q⟩
      · rw [if_neg (by decide), owc1, stW11]
        exact ⟨n_one.2.1, use_sim hA2 hO hB hK ⟨rfl, rfl⟩ ⟨rfl, rfl⟩ (hkk _ _ rfl)⟩
      · rw [if_neg (by decide), owc2, stW21, fm_setd_self _ _ _ (show upd (ms_d v) j (vp_nar .boolean 1) j = vp_nar .boolean 1 from zq_at _ _ _)]
        exact ⟨n_one.2.2, use_sim hA3 hO hB hK ⟨rfl, rfl⟩ ⟨rfl, rfl⟩ (hkk _ _ rfl)⟩
theorem sim_write {n K b : Nat} {u : StC} {v : StM} {x : Int64} (hn : 0 < n) (h : rR n K u v) (hK : K < 5000) (hb : b < 64) : rR n (K + 1) (fc_write n u b x) (fm_writeB n v b x) := by
  have hst := (sim_steps (x := x) hn h hK hb (Or.inr (Or.inr rfl))).2
  obtain ⟨hA, hO, hB⟩ := h
  unfold fm_writeB fc_write
  rw [hA.find hb, ← hA.2.2.2.2.1]
  rcases hA.2.2.2.2.2.1 with e | e | e
  · rw [e, if_neg (by decide), if_neg (by decide), if_pos rfl]
    exact hst
  · rw [e, if_pos rfl, if_neg (by decide)]
    unfold fc_thru
    rcases hf : fc_find (cs_k u) b n 0 with _ | j
    · exact ⟨hA.give _, hO, hB.up (by omega)⟩
    · obtain ⟨hj, hkj, hbj, -⟩ := hA.fnd hb hf
      dsimp only
      rw [if_pos rfl]
      refine use_sim (((hA.give (b := b) x).setv (s := j) x).clean hj hkj) hO hB hK ?_ ?_ ?_
      · exact (show keC u (fc_setv (fc_give u b x) j x) from ⟨rfl, rfl⟩).trans (ke_clean _ _)
      · exact (show keM v (fm_setv (fm_give v b x) j x) from ⟨rfl, rfl⟩).trans (kem_clean _ _)
      · intro t ht hte q z
        refine q ?_
        rw [ck_clean]
        exact (zq_ne _ _ hte).trans z
  · rw [e, if_neg (by decide), if_pos rfl, if_neg (by decide)]
    unfold fc_past
    rcases hf : fc_find (cs_k u) b n 0 with _ | j
    · exact ⟨hA.give _, hO, hB.up (by omega)⟩
    · obtain ⟨hj, hkj, hbj, -⟩ := hA.fnd hb hf
      dsimp only
      rw [if_neg (by decide)]
      refine ⟨(hA.give (b := b) x).empty hj, ord_k hO ((show keC u (fc_give u b x) from ⟨rfl, rfl⟩).trans (ke_empty _ _)) ((show keM v (fm_give v b x) from ⟨rfl, rfl⟩).trans (kem_empty _ _)) ?_, (hB.to (ke_empty (fc_give u b x) j).2 (kem_empty (fm_give v b x) j).2).up (by omega)⟩
      intro t ht _ q z
      refine q ?_
      rw [ck_empty]
      by_cases hte : t = j
      · subst hte; exact zq_at _ _ _
      · exact (zq_ne _ _ hte).trans z
theorem stopC : ∀ r k (u : StC), (∀ t, cs_k (fc_stopL r k u) t = if k ≤ t ∧ t < k + r then cs_n u t else cs_k u t) ∧ (∀ t, cs_l (fc_stopL r k u) t = if k ≤ t ∧ t < k + r then -(nI t) else cs_l u t) ∧ cs_o (fc_stopL r k u) = cs_o u ∧ cs_v (fc_stopL r k u) = cs_v u ∧ cs_n (fc_stopL r k u) = cs_n u ∧ cs_u (fc_stopL r k u) = cs_u u ∧ cs_m (fc_stopL r k u) = 0 ∧ cs_h (fc_stopL r k u) = 0 ∧ cs_i (fc_stopL r k u) = cs_i u ∧ cs_j (fc_stopL r k u) = cs_j u ∧ cs_w (fc_stopL r k u) = cs_w u ∧ cs_t (fc_stopL r k u) = cs_t u := by
  intro r
  induction r with
  | zero =>
    intro k u
    exact ⟨fun t => (if_neg (by omega)).symm, fun t => (if_neg (by omega)).symm, rfl, rfl, rfl, rfl, rfl, rfl, rfl, rfl, rfl, rfl⟩
  | succ r ih =>
    intro k u
    rw [fc_stopL]
    obtain ⟨h1, h2, h3, h4, h5, h6, h7, h8, h9, h10, h11, h12⟩ := ih (k + 1) (fc_stop1 u k)
    refine ⟨fun t => ?_, fun t => ?_, h3, h4, h5, h6, h7, h8, h9, h10, h11, h12⟩
    · rw [h1]
      show (if k + 1 ≤ t ∧ t < k + 1 + r then cs_n u t else upd (cs_k u) k (cs_n u k) t) = _
      by_cases e : t = k
      · subst e; rw [if_neg (by omega), if_pos (by omega), zq_at]
      · rw [zq_ne _ _ e]
        by_cases q : k + 1 ≤ t ∧ t < k + 1 + r
        · rw [if_pos q, if_pos (by omega)]
        · rw [if_neg q, if_neg (by omega)]
    · rw [h2]
      show (if k + 1 ≤ t ∧ t < k + 1 + r then -(nI t) else upd (cs_l u) k (-(nI k)) t) = _
      by_cases e : t = k
      · subst e; rw [if_neg (by omega), if_pos (by omega), zq_at]
      · rw [zq_ne _ _ e]
        by_cases q : k + 1 ≤ t ∧ t < k + 1 + r
        · rw [if_pos q, if_pos (by omega)]
        · rw [if_neg q, if_neg (by omega)]
theorem stopM (n : Nat) : ∀ r k (v : StM), r + k = n → 0 ≤ (ms_u v).toInt → (ms_u v).toInt + r ≤ 90000 → (∀ t, ms_b (fm_stopL n r k v) t = if k ≤ t ∧ t < n then (if 0 ≤ ms_n v t then ms_n v t / 2 else -1) else ms_b v t) ∧ (∀ t, ms_d (fm_stopL n r k v) t = if k ≤ t ∧ t < n then vp_nar .boolean (fm_ind (ms_n v t)) else ms_d v t) ∧
    (∀ t, t < n → (ms_l (fm_stopL n r k v) t).toInt = if k + t < n then (ms_u v).toInt + (n - t - k : Int) else (ms_l v t).toInt) ∧ (ms_u (fm_stopL n r k v)).toInt = (ms_u v).toInt + r ∧
    ms_o (fm_stopL n r k v) = ms_o v ∧ ms_v (fm_stopL n r k v) = ms_v v ∧ ms_n (fm_stopL n r k v) = ms_n v ∧ ms_m (fm_stopL n r k v) = 0 ∧ ms_h (fm_stopL n r k v) = 0 ∧ ms_i (fm_stopL n r k v) = ms_i v ∧ ms_j (fm_stopL n r k v) = ms_j v ∧ ms_w (fm_stopL n r k v) = ms_w v ∧ ms_t (fm_stopL n r k v) = ms_t v ∧ ms_c (fm_stopL n r k v) = ms_c v := by
  intro r
  induction r with
  | zero =>
    intro k v h _ _
    exact ⟨fun t => (if_neg (by omega)).symm, fun t => (if_neg (by omega)).symm, fun t ht => (if_neg (by omega)).symm, (by show (ms_u v).toInt = (ms_u v).toInt + ((0 : Nat) : Int); omega), rfl, rfl, rfl, rfl, rfl, rfl, rfl, rfl, rfl, rfl⟩
  | succ r ih =>
    intro k v h h0 hb
    rw [fm_stopL]
    have e1 : (ms_u v + 1).toInt = (ms_u v).toInt + 1 := add1_64 h0 (by omega)
    obtain ⟨h1, h2, h3, h4, h5, h6, h7, h8, h9, h10, h11, h12, h13, h14⟩ := ih (k + 1) (fm_stop1 n v k) (by omega) (show 0 ≤ (ms_u v + 1).toInt by omega) (show (ms_u v + 1).toInt + r ≤ 90000 by omega)
    refine ⟨fun t => ?_, fun t => ?_, fun t ht => ?_, ?_, h5, h6, h7, h8, h9, h10, h11, h12, h13, h14⟩
    · rw [h1]
      show (if k + 1 ≤ t ∧ t < n then (if 0 ≤ ms_n v t then ms_n v t / 2 else -1) else upd (ms_b v) k (if 0 ≤ ms_n v k then ms_n v k / 2 else -1) t) = _
      by_cases e : t = k
      · subst e
        rw [if_neg (show ¬ (t + 1 ≤ t ∧ t < n) by omega), zq_at]
        exact (if_pos (by omega)).symm
      · rw [zq_ne _ _ e]
        by_cases q : k + 1 ≤ t ∧ t < n
        · rw [if_pos q]
          exact (if_pos (by omega)).symm
        · rw [if_neg q]
          exact (if_neg (by omega)).symm
    · rw [h2]
      show (if k + 1 ≤ t ∧ t < n then vp_nar .boolean (fm_ind (ms_n v t)) else upd (ms_d v) k (vp_nar .boolean (fm_ind (ms_n v k))) t) = _
      by_cases e : t = k
      · subst e; rw [if_neg (by omega), if_pos (by omega), zq_at]
      · rw [zq_ne _ _ e]
        by_cases q : k + 1 ≤ t ∧ t < n
        · rw [if_pos q, if_pos (by omega)]
        · rw [if_neg q, if_neg (by omega)]
    · rw [h3 t ht]
      show (if k + 1 + t < n then (ms_u v + 1).toInt + (n - t - (k + 1 : Nat) : Int) else (vp_updL (ms_l v) (n - 1 - k) (ms_u v + 1) t).toInt) = _
      by_cases e : t = n - 1 - k
      · rw [if_neg (by omega), if_pos (by omega), e, zl_at, e1]
        omega
      · rw [zl_ne _ _ e]
        by_cases q : k + 1 + t < n
        · rw [if_pos q, if_pos (by omega), e1]; omega
        · rw [if_neg q, if_neg (by omega)]
    · rw [h4]
      show (ms_u v + 1).toInt + r = (ms_u v).toInt + ((r + 1 : Nat) : Int)
      omega
theorem neg_nI {t : Nat} (h : t ≤ 64) : (-(nI t)).toInt = -(t : Int) := by
  rw [Jvm.Kit.i32_neg (by rw [nI_toInt (by omega)]; omega), nI_toInt (by omega)]
theorem sim_stop {n K : Nat} {u : StC} {v : StM} (hn : n ≤ 12) (hA : rA n u v) (hB : rB K u v) (hK : K < 5000) : rR n (K + 1) (fc_stop n u) (fm_stop n v) := by
  obtain ⟨h1, h2, h3, h4, h5, h6, h7, h8, h9, h10, h11⟩ := hA
  obtain ⟨b1, b2, b3, b4⟩ := hB
  obtain ⟨c1, c2, c3, c4, c5, c6, c7, c8, c9, c10, c11, c12⟩ := stopC n 0 u
  obtain ⟨m1, m2, m3, m4, m5, m6, m7, m8, m9, m10, m11, m12, m13, m14⟩ := stopM n n 0 v (by omega) b3 (by omega)
  unfold fc_stop fm_stop
  refine ⟨⟨?_, ?_, ?_, ?_, ?_, ?_, ?_, ?_, ?_, ?_, ?_⟩, ⟨?_, ?_, ?_⟩, ?_, ?_, ?_, ?_⟩
  · intro b hb; rw [c3, m5]; exact h1 b hb
  · intro s hs; rw [c4, m6]; exact h2 s hs
  · intro s hs
    have i1 : 0 ≤ s ∧ s < 0 + n := by omega
    have i2 : 0 ≤ s ∧ s < n := by omega
    rw [c1, if_pos i1, c5, m1, if_pos i2, m2, if_pos i2, m7]
    exact (h3 s hs).stp
  · intro s t hs ht
    have i1 : 0 ≤ s ∧ s < n := by omega
    have i2 : 0 ≤ t ∧ t < n := by omega
    rw [m1, m1, if_pos i1, if_pos i2]
    intro q1 q2
    have key : ∀ s, s < n → ¬ (if 0 ≤ ms_n v s then ms_n v s / 2 else -1) = -1 → (if 0 ≤ ms_n v s then ms_n v s / 2 else -1) = ms_b v s ∧ ¬ ms_b v s = -1 := by
      intro s hs q
      obtain ⟨e0, q9⟩ := h3 s hs
      rcases q9 with ⟨-, z, -⟩ | ⟨B, D, hB, hD, -, z1, -, z | ⟨E, hE, z⟩⟩
      · rw [e0, z] at q; exact absurd rfl q
      · rw [e0, z] at q; exact absurd rfl q
      · rw [e0, z, if_pos (pf hB hE).2.2.2.1, (pf hB hE).2.2.2.2.1, z1]
        exact ⟨rfl, (pf2 hB).2.2.1⟩
    have k1 := key s hs q2
    have k2 := key t ht (fun z => q2 (q1.trans z))
    exact h4 s t hs ht (k1.1.symm.trans (q1.trans k2.1)) k1.2
  · rw [c7, m8]
  · rw [c7]; exact Or.inl rfl
  · rw [c8, m9]
  · rw [c9, m10]; exact h8
  · rw [c10, m11]; exact h9
  · rw [c11, m12]; exact h10
  · rw [c12, m13]; exact h11
  · intro s t hs ht _ _ _ _
    rw [c2, c2, if_pos (by omega), if_pos (by omega), Int32.lt_iff_toInt_lt, Int64.lt_iff_toInt_lt, neg_nI (by omega), neg_nI (by omega), m3 s hs, m3 t ht, if_pos (by omega), if_pos (by omega)]
    omega
  · intro s hs
    rw [c2, if_pos (by omega), neg_nI (by omega), c6]
    omega
  · intro s hs
    rw [m3 s hs, if_pos (by omega), m4]
    omega
  · rw [c6]; exact b1
  · rw [c6]; omega
  · rw [m4]; omega
  · rw [m4]; omega
theorem wbd_ne {u : StC} {s t : Nat} (h : ¬ cs_k (fc_wbd u s).2 t = -1) : ¬ cs_k u t = -1 := by
  intro q
  refine h ?_
  rw [ck_wbd]
  split
  · exact q
  · rename_i z
    by_cases e : t = s
    · subst e; rw [q] at z; exact absurd pf_tb3.2.2.2.2.1 z
    · exact (zq_ne _ _ e).trans q
theorem wab_sim {n : Nat} {x : Int32} (hx : ¬ x = 0) : ∀ r k c (u : StC) (v : StM), r + k = n → rA n u v → (fm_modeL x r k c v).1 = (fc_wab r k c u).1 ∧ rA n (fc_wab r k c u).2 (fm_modeL x r k c v).2 ∧ keC u (fc_wab r k c u).2 ∧ keM v (fm_modeL x r k c v).2 ∧ ∀ t, ¬ cs_k (fc_wab r k c u).2 t = -1 → ¬ cs_k u t = -1 := by
  intro r
  induction r with
  | zero => intro k c u v _ h; exact ⟨rfl, h, ⟨rfl, rfl⟩, ⟨rfl, rfl⟩, fun _ q => q⟩
  | succ r ih =>
    intro k c u v hk h
    rw [fm_modeL, fc_wab, if_neg hx]
    obtain ⟨w1, w2⟩ := h.wbd (s := k) (by omega)
    unfold fm_wbd at w2
    by_cases e : ms_d v k = 0
    · rw [if_pos e] at w1 w2 ⊢
      rw [if_pos w1]
      obtain ⟨i1, i2, i3, i4, i5⟩ := ih (k + 1) c _ _ (by omega) w2
      exact ⟨i1, i2, (ke_wbd _ _).trans i3, i4, fun t q => wbd_ne (i5 t q)⟩
    · rw [if_neg e] at w1 w2 ⊢
      rw [if_neg (by rw [w1]; decide)]
      obtain ⟨i1, i2, i3, i4, i5⟩ := ih (k + 1) (c + 1) _ _ (by omega) w2
      exact ⟨i1, i2, (ke_wbd _ _).trans i3, (kem_wb _ _).trans i4, fun t q => wbd_ne (i5 t q)⟩
theorem rA.setm {n : Nat} {u : StC} {v : StM} {x : Int32} (h : rA n u v) (hx : x = 0 ∨ x = 1 ∨ x = 2) : rA n (fc_setm u x) (fm_setm v x) := by
  obtain ⟨h1, h2, h3, h4, h5, h6, h7, h8, h9, h10, h11⟩ := h
  exact ⟨h1, h2, h3, h4, rfl, hx, h7, h8, h9, h10, h11⟩
theorem sim_mode {n K : Nat} {u : StC} {v : StM} {x : Int32} (h : rR n K u v) (hx : x = 0 ∨ x = 1 ∨ x = 2) : (fm_modeL x n 0 0 (fm_setm v x)).1 = (fc_mode n u x).1 ∧ rR n K (fc_mode n u x).2 (fm_modeL x n 0 0 (fm_setm v x)).2 := by
  obtain ⟨hA, hO, hB⟩ := h
  unfold fc_mode
  by_cases e : x = 0
  · rw [if_pos e]
    have : fm_modeL x n 0 0 (fm_setm v x) = (0, fm_setm v x) := by
      cases n with
      | zero => rfl
      | succ n => rw [fm_modeL, if_pos e]
    rw [this]
    exact ⟨rfl, hA.setm hx, hO, hB⟩
  · rw [if_neg e]
    obtain ⟨i1, i2, i3, i4, i5⟩ := wab_sim e n 0 0 _ _ (by omega) (hA.setm hx)
    exact ⟨i1, i2, ord_k hO i3 i4 (fun t _ _ q => i5 t q), hB.to i3.2 i4.2⟩
def fm_lb (v : StM) : Option Nat → Int32
  | none => 64
  | some j => ms_b v j
theorem least_sim {n : Nat} {u : StC} {v : StM} (hA : rA n u v) (lo : Int32) : ∀ r k a, r + k = n → (∀ j, a = some j → j < n ∧ ∃ B, B < 64 ∧ ms_b v j = nI B) → fm_next (ms_b v) (ms_d v) lo r k a = fc_least (cs_k u) lo r k a (fm_lb v a) := by
  intro r
  induction r with
  | zero => intro k a _ _; rfl
  | succ r ih =>
    intro k a h1 h2
    have h3 := hA.2.2.1 k (by omega)
    have e0 : fm_next (ms_b v) (ms_d v) lo (r + 1) k a = if ms_b v k < lo then fm_next (ms_b v) (ms_d v) lo r (k + 1) a else if ms_d v k = 0 then fm_next (ms_b v) (ms_d v) lo r (k + 1) a else if fm_lb v a ≤ ms_b v k ∧ ¬ a = none then fm_next (ms_b v) (ms_d v) lo r (k + 1) a else fm_next (ms_b v) (ms_d v) lo r (k + 1) (some k) := by
      cases a with
      | none => rw [fm_next]; simp
      | some j => rw [fm_next]; simp [fm_lb]
    rw [e0, fc_least, h3.isd]
    by_cases e : ms_d v k = 0
    · rw [if_pos e, if_pos e, ih _ _ (by omega) h2]
      split <;> rfl
    · rw [if_neg e, if_neg e]
      have hk : ¬ cs_k u k = -1 := fun q => by
        rcases h3.2 with ⟨-, -, -, q4⟩ | ⟨B, D, hB, hD, q1, -⟩
        · exact e q4
        · exact (pf hB hD).2.2.1 (q1.symm.trans q)
      obtain ⟨hb, B, hB, eB⟩ := h3.blk hk
      rw [hb]
      have hk2 : ∀ j, some k = some j → j < n ∧ ∃ B, B < 64 ∧ ms_b v j = nI B := fun j hj => by cases hj; exact ⟨by omega, B, hB, eB⟩
      by_cases q : ms_b v k < lo
      · rw [if_pos q, if_pos q]; exact ih _ _ (by omega) h2
      · rw [if_neg q, if_neg q]
        cases a with
        | none =>
          have : ¬ fm_lb v none ≤ ms_b v k := by
            rw [eB]
            exact fun z => by
              have := (nI_leI (a := 64) (b := B) (by omega) (by omega)).mp z
              omega
          rw [if_neg this, if_neg (fun z => this z.1)]
          exact ih _ (some k) (by omega) hk2
        | some j =>
          by_cases z : fm_lb v (some j) ≤ ms_b v k
          · rw [if_pos z, if_pos ⟨z, by simp⟩]; exact ih _ (some j) (by omega) h2
          · rw [if_neg z, if_neg (fun z2 => z z2.1)]; exact ih _ (some k) (by omega) hk2
theorem next_sim {n : Nat} {u : StC} {v : StM} (hA : rA n u v) : fm_nxt n v = fc_next n u := by
  have h := fun lo => least_sim hA lo n 0 none (by omega) (fun _ h => nomatch h)
  unfold fm_nxt fc_next
  rw [h, h, hA.2.2.2.2.2.2.1]
  rfl
theorem fm_nxt_d {n j : Nat} {v : StM} (h : fm_nxt n v = some j) : ¬ ms_d v j = 0 := by
  unfold fm_nxt at h
  split at h
  · exact fm_next_d _ _ _ _ _ none (fun _ h => nomatch h) j h
  · rename_i q
    cases h
    exact fm_next_d _ _ _ _ _ none (fun _ h => nomatch h) j q
theorem backL_no {n : Nat} {v : StM} (h : fm_nxt n v = none) : ∀ r c, fm_backL n r c v = (c, v) := by
  intro r
  induction r with
  | zero => intro c; rfl
  | succ r ih => intro c; rw [fm_backL, h]; exact ih c
theorem back_sim {n : Nat} : ∀ r d (u : StC) (v : StM), rA n u v → (fm_backL n r (nI d) v).1 = (fc_back n r d u).1 ∧ rA n (fc_back n r d u).2 (fm_backL n r (nI d) v).2 ∧ keC u (fc_back n r d u).2 ∧ keM v (fm_backL n r (nI d) v).2 ∧ ∀ t, ¬ cs_k (fc_back n r d u).2 t = -1 → ¬ cs_k u t = -1 := by
  intro r
  induction r with
  | zero => intro d u v h; exact ⟨rfl, h, ⟨rfl, rfl⟩, ⟨rfl, rfl⟩, fun _ q => q⟩
  | succ r ih =>
    intro d u v h
    rcases hf : fc_next n u with _ | j
    · rw [backL_no ((next_sim h).trans hf), fc_back, hf]
      exact ⟨rfl, h, ⟨rfl, rfl⟩, ⟨rfl, rfl⟩, fun _ q => q⟩
    · have hm := (next_sim h).trans hf
      have hd := fm_nxt_d hm
      have hj := fc_next_lt hf
      rw [fc_back, fm_backL, hf, hm]
      dsimp only
      rw [nI_1]
      obtain ⟨-, w2⟩ := h.wbd hj
      unfold fm_wbd at w2
      rw [if_neg hd] at w2
      have h3 := w2.2.2.1 j hj
      have hk0 : ¬ cs_k u j = -1 := fun q => by
        rcases (h.2.2.1 j hj).2 with ⟨-, -, -, q4⟩ | ⟨B, D, hB, hD, q1, -⟩
        · exact hd q4
        · exact (pf hB hD).2.2.1 (q1.symm.trans q)
      have hk : ¬ cs_k (fc_wbd u j).2 j = -1 := by
        have hid : ¬ fc_isd (cs_k u j) = 0 := by rw [(h.2.2.1 j hj).isd]; exact hd
        rw [ck_wbd, if_neg hid, zq_at]
        obtain ⟨hb, B, hB, eB⟩ := (h.2.2.1 j hj).blk hk0
        rw [hb, eB, (pf2 hB).1]
        exact (pf hB (d := 0) (by omega)).2.2.1
      have hR : rA n (fc_back1 u j) (fm_back1 v j) := by
        obtain ⟨h1, h2, h3', h4, h5, h6, h7, h8, h9, h10, h11⟩ := w2
        exact ⟨h1, h2, h3', h4, h5, h6, congrArg (· + 1) (h3.blk hk).1, h8, h9, h10, h11⟩
      obtain ⟨i1, i2, i3, i4, i5⟩ := ih (d + 1) _ _ hR
      exact ⟨i1, i2, (show keC u (fc_back1 u j) from ke_wbd u j).trans i3, (show keM v (fm_back1 v j) from kem_wb v j).trans i4, fun t q => wbd_ne (i5 t q)⟩
theorem sim_back {n K d : Nat} {u : StC} {v : StM} (h : rR n K u v) : (fm_backL n d 0 v).1 = (fc_back n d 0 u).1 ∧ rR n K (fc_back n d 0 u).2 (fm_backL n d 0 v).2 := by
  obtain ⟨hA, hO, hB⟩ := h
  have := back_sim d 0 u v hA
  rw [pf_tb3.2.2.1] at this
  obtain ⟨i1, i2, i3, i4, i5⟩ := this
  exact ⟨i1, i2, ord_k hO i3 i4 (fun t _ _ q => i5 t q), hB.to i3.2 i4.2⟩
theorem check_sim {n : Nat} : ∀ r k c (u : StC) (v : StM), r + k = n → rA n u v → (fm_checkL r k c v).1 = (fc_check r k c u).1 ∧ rA n (fc_check r k c u).2 (fm_checkL r k c v).2 ∧ keC u (fc_check r k c u).2 ∧ keM v (fm_checkL r k c v).2 ∧ cs_k (fc_check r k c u).2 = cs_k u := by
  intro r
  induction r with
  | zero => intro k c u v _ h; exact ⟨rfl, h, ⟨rfl, rfl⟩, ⟨rfl, rfl⟩, rfl⟩
  | succ r ih =>
    intro k c u v hk h
    have h3 := h.2.2.1 k (by omega)
    rw [fm_checkL, fc_check, h3.so, h3.1]
    by_cases e : cs_n u k = cs_k u k
    · rw [if_pos e, if_pos e]; exact ih _ _ _ _ (by omega) h
    · rw [if_neg e, if_neg e]
      obtain ⟨i1, i2, i3, i4, i5⟩ := ih (k + 1) (c + 1) _ _ (by omega) (h.note (s := k))
      exact ⟨i1, i2, i3, i4, i5⟩
theorem sim_check {n K : Nat} {u : StC} {v : StM} (h : rR n K u v) : (fm_check n v).1 = (fc_check n 0 0 u).1 ∧ rR n K (fc_check n 0 0 u).2 (fm_check n v).2 := by
  obtain ⟨hA, hO, hB⟩ := h
  obtain ⟨i1, i2, i3, i4, i5⟩ := check_sim n 0 0 u (fm_setc v 0) (by omega) (hA.setc 0)
  exact ⟨i1, i2, ord_k hO i3 i4 (fun t _ _ q => by rw [i5] at q; exact q), hB.to i3.2 i4.2⟩
theorem full_sim {n : Nat} {u : StC} {v : StM} (h : rA n u v) : ∀ r k c, r + k = n → fm_full (ms_b v) r k c = fc_full (cs_k u) r k c := by
  intro r
  induction r with
  | zero => intro k c _; rfl
  | succ r ih =>
    intro k c hk
    have h3 := h.2.2.1 k (by omega)
    rw [fm_full, fc_full, Int32.add_zero]
    by_cases e : cs_k u k = -1
    · rw [if_pos e, if_pos (h3.emp.mp e)]; exact ih _ _ (by omega)
    · rw [if_neg e, if_neg (fun q => e (h3.emp.mpr q))]; exact ih _ _ (by omega)
theorem dts_sim {n : Nat} {u : StC} {v : StM} (h : rA n u v) : ∀ r k c, r + k = n → fm_dts (ms_b v) (ms_d v) r k c = fc_cdty (cs_k u) r k c := by
  intro r
  induction r with
  | zero => intro k c _; rfl
  | succ r ih =>
    intro k c hk
    have h3 := h.2.2.1 k (by omega)
    rw [fm_dts, fc_cdty, Int32.add_zero, h3.isd]
    by_cases e : ms_d v k = 0
    · rw [if_pos e, if_pos e]
      split <;> exact ih _ _ (by omega)
    · rw [if_neg e, if_neg e, if_neg (fun q => by
        rcases h3.2 with ⟨-, -, -, q4⟩ | ⟨B, D, hB, hD, -, q1, -⟩
        · exact e q4
        · rw [q1] at q; exact absurd q (pf2 hB).2.2.2.2)]
      exact ih _ _ (by omega)
theorem sim_crash {n K : Nat} {u : StC} {v : StM} (hn : n ≤ 12) (h : rR n K u v) (hK : K < 5000) : (fm_crash n v).1 = (fc_crash n u).1 ∧ rR n (K + 1) (fc_crash n u).2 (fm_crash n v).2 := by
  have hs := sim_stop hn (h.1.setc 0) h.2.2 hK
  exact ⟨full_sim hs.1 n 0 0 (by omega), hs⟩
theorem clrM : ∀ r k (v : StM), (∀ t, ms_n (fm_clrL r k v) t = if k ≤ t ∧ t < k + r then -1 else ms_n v t) ∧ ms_c (fm_clrL r k v) = ms_c v ∧ ms_o (fm_clrL r k v) = ms_o v ∧ ms_b (fm_clrL r k v) = ms_b v ∧ ms_v (fm_clrL r k v) = ms_v v ∧ ms_d (fm_clrL r k v) = ms_d v ∧ ms_l (fm_clrL r k v) = ms_l v ∧ ms_u (fm_clrL r k v) = ms_u v ∧ ms_m (fm_clrL r k v) = ms_m v ∧ ms_h (fm_clrL r k v) = ms_h v ∧ ms_i (fm_clrL r k v) = ms_i v ∧ ms_j (fm_clrL r k v) = ms_j v ∧ ms_w (fm_clrL r k v) = ms_w v ∧ ms_t (fm_clrL r k v) = ms_t v := by
  intro r
  induction r with
  | zero => intro k v; exact ⟨fun t => (if_neg (by omega)).symm, rfl, rfl, rfl, rfl, rfl, rfl, rfl, rfl, rfl, rfl, rfl, rfl, rfl⟩
  | succ r ih =>
    intro k v
    rw [fm_clrL]
    obtain ⟨h1, h2⟩ := ih (k + 1) (ms_c v, ms_o v, ms_b v, ms_v v, ms_d v, upd (ms_n v) k (-1), ms_l v, ms_u v, ms_m v, ms_h v, ms_i v, ms_j v, ms_w v, ms_t v)
    refine ⟨fun t => ?_, h2⟩
    rw [h1]
    show (if k + 1 ≤ t ∧ t < k + 1 + r then -1 else upd (ms_n v) k (-1) t) = _
    by_cases e : t = k
    · subst e; rw [if_neg (by omega), if_pos (by omega), zq_at]
    · rw [zq_ne _ _ e]
      by_cases q : k + 1 ≤ t ∧ t < k + 1 + r
      · rw [if_pos q, if_pos (by omega)]
      · rw [if_neg q, if_neg (by omega)]
theorem filC (x : Int32) : ∀ r k f t, fc_fil x r k f t = if k ≤ t ∧ t < k + r then x else f t := by
  intro r
  induction r with
  | zero => intro k f t; exact (if_neg (by omega)).symm
  | succ r ih =>
    intro k f t
    rw [fc_fil, ih]
    by_cases e : t = k
    · subst e; rw [if_neg (by omega), if_pos (by omega), zq_at]
    · rw [zq_ne _ _ e]
      by_cases q : k + 1 ≤ t ∧ t < k + 1 + r
      · rw [if_pos q, if_pos (by omega)]
      · rw [if_neg q, if_neg (by omega)]
theorem slR.los {k n b d m : Int32} (h : slR k n b d m) : slR k (-1) b d (-1) := by
  refine ⟨rfl, ?_⟩
  rcases h.2 with ⟨h1, -, h3, h4⟩ | ⟨B, D, hB, hD, h1, h2, h3, -⟩
  · exact Or.inl ⟨h1, rfl, h3, h4⟩
  · exact Or.inr ⟨B, D, hB, hD, h1, h2, h3, Or.inl rfl⟩
theorem sim_lose {n K : Nat} {u : StC} {v : StM} (hn : n ≤ 12) (h : rR n K u v) (hK : K < 5000) : (fm_lose n v).1 = (fc_lose n u).1 ∧ rR n (K + 1) (fc_lose n u).2 (fm_lose n v).2 := by
  obtain ⟨hA, hO, hB⟩ := h
  refine ⟨dts_sim hA n 0 0 (by omega), ?_⟩
  obtain ⟨m1, m2, m3, m4, m5, m6, m7, m8, m9, m10, m11, m12, m13, m14⟩ := clrM n 0 (fm_setc v 0)
  unfold fc_lose fm_lose
  refine sim_stop hn ?_ ?_ hK
  · obtain ⟨h1, h2, h3, h4, h5, h6, h7, h8, h9, h10, h11⟩ := hA
    refine ⟨?_, ?_, fun s hs => ?_, ?_, ?_, h6, ?_, ?_, ?_, ?_, ?_⟩
    · rw [m3]; exact h1
    · rw [m5]; exact h2
    · show slR (cs_k u s) (fc_fil (-1) n 0 (cs_n u) s) _ _ _
      rw [filC, if_pos (by omega), m1, if_pos (by omega), m4, m6]
      exact (h3 s hs).los
    · rw [m4]; exact h4
    · rw [m9]; exact h5
    · rw [m10]; exact h7
    · rw [m11]; exact h8
    · rw [m12]; exact h9
    · rw [m13]; exact h10
    · rw [m14]; exact h11
  · exact ⟨hB.1, hB.2.1, by rw [m8]; exact hB.2.2.1, by rw [m8]; exact hB.2.2.2⟩
theorem cua_sim {n s : Nat} {u : StC} {v : StM} (hA : rA n u v) (hO : rO n n u v) (hs : s < n) (hk : ¬ cs_k u s = -1) : ∀ r k c, r + k = n → fm_bef (ms_b v) (ms_l v) s r k c = fc_cua (cs_k u) (cs_l u) s r k c := by
  intro r
  induction r with
  | zero => intro k c _; rfl
  | succ r ih =>
    intro k c h1
    have h3 := hA.2.2.1 k (by omega)
    rw [fm_bef, fc_cua, Int32.add_zero]
    by_cases e : cs_k u k = -1
    · rw [if_pos e, if_pos (h3.emp.mp e)]; exact ih _ _ (by omega)
    · rw [if_neg e, if_neg (fun q => e (h3.emp.mpr q))]
      have o := hO.1 s k hs (by omega) (by omega) (by omega) hk e
      by_cases q : cs_l u k ≤ cs_l u s
      · rw [if_pos q, if_pos ((lg_cmp_le _ _).mpr (Int64.not_lt.mp fun z => Int32.not_lt.mpr q (o.mpr z)))]; exact ih _ _ (by omega)
      · rw [if_neg q, if_neg (fun z => absurd (o.mp (Int32.not_le.mp q)) (Int64.not_lt.mpr ((lg_cmp_le _ _).mp z)))]; exact ih _ _ (by omega)
theorem order_sim {n : Nat} {u : StC} {v : StM} {q : Int32} (hA : rA n u v) (hO : rO n n u v) : ∀ r k, r + k = n → fm_orderL (ms_b v) (ms_l v) n q r k = fc_order (cs_k u) (cs_l u) n q r k := by
  intro r
  induction r with
  | zero => intro k _; rfl
  | succ r ih =>
    intro k h1
    have h3 := hA.2.2.1 k (by omega)
    rw [fm_orderL, fc_order]
    by_cases e : cs_k u k = -1
    · rw [if_pos e, if_pos (h3.emp.mp e)]; exact ih _ (by omega)
    · rw [if_neg e, if_neg (fun q => e (h3.emp.mpr q)), cua_sim hA hO (by omega) e n 0 0 (by omega), (h3.blk e).1]
      split
      · rfl
      · exact ih _ (by omega)
