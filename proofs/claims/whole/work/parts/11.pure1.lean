def okf (x : Int32) : Prop := x = -1 ∨ ∃ b d : Nat, b < 64 ∧ d < 2 ∧ x = nI (2 * b + d)
def okK (n : Nat) (f : Nat → Int32) : Prop := ∀ k, k < n → okf (f k)
theorem zq_at (f : Nat → Int32) (k : Nat) (x : Int32) : upd f k x k = x := if_pos rfl
theorem zq_ne (f : Nat → Int32) {k j : Nat} (x : Int32) (h : j ≠ k) : upd f k x j = f j := if_neg h
theorem zl_at (f : Nat → Int64) (k : Nat) (x : Int64) : vp_updL f k x k = x := if_pos rfl
theorem zl_ne (f : Nat → Int64) {k j : Nat} (x : Int64) (h : j ≠ k) : vp_updL f k x j = f j := if_neg h
theorem pf_tab : ∀ b : Fin 64, ∀ d : Fin 2, fc_blk (nI (2 * b.val + d.val)) = nI b.val ∧ fc_isd (nI (2 * b.val + d.val)) = nI d.val ∧ ¬ nI (2 * b.val + d.val) = -1 ∧ 0 ≤ nI (2 * b.val + d.val) ∧ nI (2 * b.val + d.val) / 2 = nI b.val ∧ fm_ind (nI (2 * b.val + d.val)) = nI d.val ∧ fm_so (nI b.val) (nI d.val) = nI (2 * b.val + d.val) := by decide +kernel
theorem pf_tb2 : ∀ b : Fin 64, 2 * nI b.val = nI (2 * b.val) ∧ 2 * nI b.val + 1 = nI (2 * b.val + 1) ∧ ¬ nI b.val = -1 ∧ 0 ≤ nI b.val ∧ ¬ nI b.val < 0 := by decide +kernel
theorem pf_tb3 : vp_nar .boolean 0 = 0 ∧ vp_nar .boolean 1 = 1 ∧ nI 0 = 0 ∧ nI 1 = 1 ∧ fc_isd (-1) = 0 ∧ fm_so (-1) 0 = -1 ∧ fm_ind (-1) = 0 := by decide +kernel
theorem pf {b d : Nat} (hb : b < 64) (hd : d < 2) : fc_blk (nI (2 * b + d)) = nI b ∧ fc_isd (nI (2 * b + d)) = nI d ∧ ¬ nI (2 * b + d) = -1 ∧ 0 ≤ nI (2 * b + d) ∧ nI (2 * b + d) / 2 = nI b ∧ fm_ind (nI (2 * b + d)) = nI d ∧ fm_so (nI b) (nI d) = nI (2 * b + d) := pf_tab ⟨b, hb⟩ ⟨d, hd⟩
theorem pf2 {b : Nat} (hb : b < 64) : 2 * nI b = nI (2 * b) ∧ 2 * nI b + 1 = nI (2 * b + 1) ∧ ¬ nI b = -1 ∧ 0 ≤ nI b ∧ ¬ nI b < 0 := pf_tb2 ⟨b, hb⟩
theorem d01 {d : Nat} (hd : d < 2) : d = 0 ∨ d = 1 := by omega
theorem okf_blk {x : Int32} (h : okf x) (hd : ¬ fc_isd x = 0) : ∃ b, b < 64 ∧ fc_blk x = nI b := by
  rcases h with rfl | ⟨b, d, hb, hd2, rfl⟩
  · exact absurd pf_tb3.2.2.2.2.1 hd
  · exact ⟨b, hb, (pf hb hd2).1⟩
theorem okf_cln {x : Int32} (h : okf x) (hd : ¬ fc_isd x = 0) : okf (2 * fc_blk x) := by
  obtain ⟨b, hb, e⟩ := okf_blk h hd
  exact Or.inr ⟨b, 0, hb, by omega, by rw [e]; exact (pf2 hb).1⟩
theorem isd_01 (x : Int32) : fc_isd x = 0 ∨ fc_isd x = 1 := by
  unfold fc_isd
  split
  · exact Or.inl rfl
  · split
    · exact Or.inr rfl
    · exact Or.inl rfl
theorem fc_find_sp (f : Nat → Int32) (b : Nat) : ∀ r k j, fc_find f b r k = some j → k ≤ j ∧ j < k + r ∧ ¬ f j = -1 ∧ fc_blk (f j) = nI b := by
  intro r
  induction r with
  | zero => intro k j h; cases h
  | succ r ih =>
    intro k j h
    rw [fc_find] at h
    split at h
    · obtain ⟨h1, h2, h3⟩ := ih _ _ h
      exact ⟨by omega, by omega, h3⟩
    · split at h
      · cases h
        rename_i h1 h2
        exact ⟨Nat.le_refl _, by omega, h1, h2⟩
      · obtain ⟨h1, h2, h3⟩ := ih _ _ h
        exact ⟨by omega, by omega, h3⟩
theorem fc_find_no (f : Nat → Int32) (b : Nat) : ∀ r k, fc_find f b r k = none → ∀ i, k ≤ i → i < k + r → f i = -1 ∨ ¬ fc_blk (f i) = nI b := by
  intro r
  induction r with
  | zero => intro k _ i h1 h2; omega
  | succ r ih =>
    intro k h i h1 h2
    rw [fc_find] at h
    split at h
    · rename_i q1
      by_cases e : i = k
      · subst e; exact Or.inl q1
      · exact ih _ h i (by omega) (by omega)
    · split at h
      · cases h
      · rename_i q1 q2
        by_cases e : i = k
        · subst e; exact Or.inr q2
        · exact ih _ h i (by omega) (by omega)
theorem fc_find_lt {f : Nat → Int32} {b n j : Nat} (h : fc_find f b n 0 = some j) : j < n := by
  have := (fc_find_sp f b n 0 j h).2.1
  omega
theorem fc_room_lt0 (n : Nat) (u : StC) : ∀ r k lo, r + k = n → lo < n → (fc_room r k lo u).1 < n := by
  intro r
  induction r with
  | zero => intro k lo _ h; exact h
  | succ r ih =>
    intro k lo h1 h2
    rw [fc_room]
    split
    · show k < n
      omega
    · split
      · exact ih _ _ (by omega) h2
      · exact ih _ _ (by omega) (by omega)
theorem fc_room_lt {n : Nat} (h : 0 < n) (u : StC) : (fc_room n 0 0 u).1 < n := fc_room_lt0 n u n 0 0 rfl h
theorem fc_least_lt0 (f : Nat → Int32) (q : Int32) (n : Nat) : ∀ r k a lb, r + k = n → (∀ j, a = some j → j < n) → ∀ j, fc_least f q r k a lb = some j → j < n := by
  intro r
  induction r with
  | zero => intro k a lb _ h j hj; exact h j hj
  | succ r ih =>
    intro k a lb h1 h2 j hj
    rw [fc_least] at hj
    split at hj
    · exact ih _ _ _ (by omega) h2 j hj
    · split at hj
      · exact ih _ _ _ (by omega) h2 j hj
      · split at hj
        · exact ih _ _ _ (by omega) h2 j hj
        · exact ih _ _ _ (by omega) (fun j h => by cases h; omega) j hj
theorem fc_least_lt {f : Nat → Int32} {q : Int32} {n j : Nat} (h : fc_least f q n 0 none 64 = some j) : j < n := fc_least_lt0 f q n n 0 none 64 rfl (fun _ h => nomatch h) j h
theorem fc_next_lt {n j : Nat} {u : StC} (h : fc_next n u = some j) : j < n := by
  unfold fc_next at h
  split at h
  · exact fc_least_lt h
  · rename_i q1
    cases h
    exact fc_least_lt q1
theorem ck_note (u : StC) (s : Nat) : cs_k (fc_note u s) = cs_k u := rfl
theorem ck_clean (u : StC) (s : Nat) : cs_k (fc_clean u s) = upd (cs_k u) s (2 * fc_blk (cs_k u s)) := by
  unfold fc_clean
  split <;> rfl
theorem ck_empty (u : StC) (s : Nat) : cs_k (fc_empty u s) = upd (cs_k u) s (-1) := by
  unfold fc_empty
  split <;> rfl
theorem ck_wbd (u : StC) (s : Nat) : cs_k (fc_wbd u s).2 = if fc_isd (cs_k u s) = 0 then cs_k u else upd (cs_k u) s (2 * fc_blk (cs_k u s)) := by
  unfold fc_wbd
  split
  · rfl
  · exact ck_clean _ _
theorem ok_wbd {n s : Nat} {u : StC} (h : okK n (cs_k u)) (hs : s < n) : okK n (cs_k (fc_wbd u s).2) := by
  rw [ck_wbd]
  split
  · exact h
  · rename_i q
    intro k hk
    by_cases e : k = s
    · subst e; rw [zq_at]; exact okf_cln (h k hk) q
    · rw [zq_ne _ _ e]; exact h k hk
theorem isb_nI {b : Int32} (h : ¬ fm_isb b = 0) : ∃ j, j < 64 ∧ b = nI j := by
  unfold fm_isb at h
  by_cases h1 : b < 0
  · rw [if_pos h1] at h; exact absurd rfl h
  · rw [if_neg h1] at h
    by_cases h2 : 63 < b
    · rw [if_pos h2] at h; exact absurd rfl h
    · obtain ⟨j, hj, e⟩ := nI_of2 (M := 63) (n := 63) (by decide) h1 (Int32.not_lt.mp h2)
      exact ⟨j, by omega, e⟩
theorem isb_of {j : Nat} (h : j < 64) : ¬ fm_isb (nI j) = 0 := by
  unfold fm_isb
  have h2 : ¬ (63 : Int32) < nI j := Int32.not_lt.mpr ((nI_leI (a := j) (b := 63) (by omega) (by omega)).mpr (by omega))
  rw [if_neg (nI_pos (by omega)), if_neg h2]
  decide
theorem fm_find_lt0 (f : Nat → Int32) (b n : Nat) : ∀ r k a, r + k = n → (∀ j, a = some j → j < n) → ∀ j, fm_find f b r k a = some j → j < n := by
  intro r
  induction r with
  | zero => intro k a _ h j hj; exact h j hj
  | succ r ih =>
    intro k a h1 h2 j hj
    rw [fm_find] at hj
    split at hj
    · exact ih _ _ (by omega) (fun j h => by cases h; omega) j hj
    · exact ih _ _ (by omega) h2 j hj
theorem fm_find_lt {f : Nat → Int32} {b n j : Nat} (h : fm_find f b n 0 none = some j) : j < n := fm_find_lt0 f b n n 0 none rfl (fun _ h => nomatch h) j h
def okM (n : Nat) (v : StM) : Prop := ∀ s, s < n → ¬ ms_d v s = 0 → ∃ B, B < 64 ∧ ms_b v s = nI B
theorem mb_wb (v : StM) (s : Nat) : ms_b (fm_wb v s) = ms_b v := by unfold fm_wb fm_clean; split <;> rfl
theorem md_wb (v : StM) (s : Nat) : ms_d (fm_wb v s) = upd (ms_d v) s (vp_nar .boolean 0) := by unfold fm_wb fm_clean; split <;> rfl
theorem cM_wb (v : StM) (s : Nat) : ms_c (fm_wb v s) = ms_c v := by unfold fm_wb fm_clean; split <;> rfl
theorem okM_wb {n : Nat} {v : StM} (h : okM n v) (s : Nat) : okM n (fm_wb v s) := by
  intro t ht
  rw [mb_wb, md_wb]
  by_cases e : t = s
  · subst e; rw [zq_at]; exact fun q => absurd pf_tb3.1 q
  · rw [zq_ne _ _ e]; exact h t ht
theorem fm_emp_lt (f : Nat → Int32) (n : Nat) : ∀ m a, m ≤ n → (∀ j, a = some j → j < n) → ∀ j, fm_emp f m a = some j → j < n := by
  intro m
  induction m with
  | zero => intro a _ h j hj; exact h j hj
  | succ m ih =>
    intro a h1 h2 j hj
    rw [fm_emp] at hj
    split at hj
    · exact ih _ (by omega) h2 j hj
    · exact ih _ (by omega) (fun j h => by cases h; omega) j hj
theorem fm_lru_lt (g : Nat → Int64) (n : Nat) : ∀ r k lo, r + k = n → lo < n → fm_lru g r k lo < n := by
  intro r
  induction r with
  | zero => intro k lo _ h; exact h
  | succ r ih =>
    intro k lo h1 h2
    rw [fm_lru]
    split
    · exact ih _ _ (by omega) h2
    · exact ih _ _ (by omega) (by omega)
theorem fm_room_lt {n : Nat} (h : 0 < n) (v : StM) : (fm_room n v).1 < n := by
  unfold fm_room
  split
  · rename_i q
    exact fm_emp_lt _ n n none (Nat.le_refl _) (fun _ h => nomatch h) _ q
  · exact fm_lru_lt _ n _ _ _ (by omega) h
theorem zr_p0 {k : Nat} (hk : k ≤ 64) (h : nI k - 1 < 0) : k = 0 := by
  cases k with
  | zero => rfl
  | succ k => rw [nI_pred] at h; exact absurd h (nI_pos (by omega))
theorem zr_p1 {k : Nat} (hk : k ≤ 64) (h : ¬ nI k - 1 < 0) : 0 < k := by
  cases k with
  | zero => exact absurd (by decide) h
  | succ k => omega
theorem zr_rev {n k : Nat} (h : k < n) (hn : n ≤ 64) : nI n - 1 - nI k = nI (n - 1 - k) := by
  obtain ⟨m, rfl⟩ : ∃ m, n = m + 1 := ⟨n - 1, by omega⟩
  rw [nI_pred]
  exact (Int32.ofNat_sub m k (by omega)).symm
theorem fm_next_lt0 (f g : Nat → Int32) (lo : Int32) (n : Nat) : ∀ r k a, r + k = n → (∀ j, a = some j → j < n) → ∀ j, fm_next f g lo r k a = some j → j < n := by
  intro r
  induction r with
  | zero => intro k a _ h j hj; exact h j hj
  | succ r ih =>
    intro k a h1 h2 j hj
    have hk : ∀ j, some k = some j → j < n := fun j h => by cases h; omega
    cases a with
    | none =>
      rw [fm_next] at hj
      split at hj
      · exact ih _ _ (by omega) h2 j hj
      · split at hj
        · exact ih _ _ (by omega) h2 j hj
        · exact ih _ _ (by omega) hk j hj
    | some i =>
      rw [fm_next] at hj
      split at hj
      · exact ih _ _ (by omega) h2 j hj
      · split at hj
        · exact ih _ _ (by omega) h2 j hj
        · split at hj
          · exact ih _ _ (by omega) h2 j hj
          · exact ih _ _ (by omega) hk j hj
theorem fm_next_lt {f g : Nat → Int32} {lo : Int32} {n j : Nat} (h : fm_next f g lo n 0 none = some j) : j < n := fm_next_lt0 f g lo n n 0 none rfl (fun _ h => nomatch h) j h
theorem fm_next_d (f g : Nat → Int32) (lo : Int32) : ∀ r k a, (∀ j, a = some j → ¬ g j = 0) → ∀ j, fm_next f g lo r k a = some j → ¬ g j = 0 := by
  intro r
  induction r with
  | zero => intro k a h j hj; exact h j hj
  | succ r ih =>
    intro k a h j hj
    cases a with
    | none =>
      rw [fm_next] at hj
      split at hj
      · exact ih _ _ h j hj
      · split at hj
        · exact ih _ _ h j hj
        · rename_i q1 q2
          exact ih _ _ (fun j hj => by cases hj; exact q2) j hj
    | some i =>
      rw [fm_next] at hj
      split at hj
      · exact ih _ _ h j hj
      · split at hj
        · exact ih _ _ h j hj
        · rename_i q1 q2
          split at hj
          · exact ih _ _ h j hj
          · exact ih _ _ (fun j hj => by cases hj; exact q2) j hj
theorem zr_q {n : Nat} {q : Int32} (hn : n ≤ 12) (h1 : ¬ q < 0) (h2 : q < nI n) : ∃ j, j < n ∧ q = nI j := by
  obtain ⟨j, hj, rfl⟩ := nI_of h1
  exact ⟨j, (nI_ltI hj (by omega)).mp h2, rfl⟩
theorem zr_out8 {q : Int32} (e0 : ¬ q = 0) (e1 : ¬ q = 1) (e2 : ¬ q = 2) (e3 : ¬ q = 3) (e4 : ¬ q = 4) (e5 : ¬ q = 5) (e6 : ¬ q = 6) (e7 : ¬ q = 7) : q.toInt < 0 ∨ 7 < q.toInt := by
  have f0 : ¬ q.toInt = 0 := lv_neT e0 (by decide)
  have f1 : ¬ q.toInt = 1 := lv_neT e1 (by decide)
  have f2 : ¬ q.toInt = 2 := lv_neT e2 (by decide)
  have f3 : ¬ q.toInt = 3 := lv_neT e3 (by decide)
  have f4 : ¬ q.toInt = 4 := lv_neT e4 (by decide)
  have f5 : ¬ q.toInt = 5 := lv_neT e5 (by decide)
  have f6 : ¬ q.toInt = 6 := lv_neT e6 (by decide)
  have f7 : ¬ q.toInt = 7 := lv_neT e7 (by decide)
  omega
