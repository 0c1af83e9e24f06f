theorem zs_a {x : Int32} (h : x < 1) : ∃ n, 1 ≤ n ∧ n ≤ 12 ∧ fc_slots x = n ∧ (6 : Int32) = nI n := ⟨6, by decide, by decide, by unfold fc_slots; rw [if_pos h], by decide⟩
theorem zs_b {x : Int32} (h1 : ¬ x < 1) (h : 12 < x) : ∃ n, 1 ≤ n ∧ n ≤ 12 ∧ fc_slots x = n ∧ (6 : Int32) = nI n := ⟨6, by decide, by decide, by unfold fc_slots; rw [if_neg h1, if_pos h], by decide⟩
theorem zs_c {x : Int32} (h1 : ¬ x < 1) (h : ¬ 12 < x) : ∃ n, 1 ≤ n ∧ n ≤ 12 ∧ fc_slots x = n ∧ x = nI n := by
  have h0 : ¬ x < 0 := fun q => h1 (by
    rw [Int32.lt_iff_toInt_lt] at q ⊢
    have e0 : (0 : Int32).toInt = 0 := by decide
    have e1 : (1 : Int32).toInt = 1 := by decide
    omega)
  obtain ⟨j, hj, rfl⟩ := nI_of2 (M := 12) (n := 12) (by decide) h0 (Int32.not_lt.mp h)
  have hj1 : 1 ≤ j := Nat.le_of_not_lt fun q => h1 ((nI_ltI (a := j) (b := 1) (by omega) (by omega)).mpr q)
  exact ⟨j, hj1, hj, by unfold fc_slots; rw [if_neg h1, if_neg h, nI_clamp (by omega)], rfl⟩
section ZF
variable {p : Program} {l : Launch} {e : Env} {R : Room} {s : State} {m : MethodId} {args : Array Value} {below : List Frame} {meth : Method} {c : Code} {H H0 : Heap} {locs : List Loc} {cells slots mc ms : Nat} {Q : State → Prop}
variable {pc : Nat} {ls : Array Slot} {rest st0 : List Value} {D : va_G} {cl : List vw_C} {A : Nat → Prop} {a : Array Value} {σ : Type} {tys1 : σ → List (ClassId × FieldType)} {w1 : σ → va_W} {w0 wr ws : va_W}
theorem zf_i {post : Int32 → σ → Prop} (hr : va_Run p l e R s m args below meth c H locs cells slots mc ms (F0 m pc ls st0) rest (va_Qi post (fun z => zr_B D cl (tys1 z) (va_A w0 H.size) (w1 z)) (va_A w0 H.size) a) (va_A w0 H.size))
    (hP : va_P D cl ws H) (hD : va_D A ws) (hS : va_S A H0 H locs) (hA : ∀ q, H0.size ≤ q → A q) (isC isR : List Nat) (hC : isC.map (fun i => ws[i]?) = w0.map some) (hR : isR.map (fun i => ws[i]?) = wr.map some) (hn : va_nd isR = true) (hdis : ∀ i ∈ isR, i ∉ isC)
    (kk : ∀ (r : Int32) (z : σ) (H1 : Heap) (locs1 : List Loc), post r z → va_P D cl (wr ++ w1 z) H1 → va_D A (wr ++ w1 z) → va_K D cl (tys1 z) s → va_S A H0 H1 locs1 → W p l e R s m args below meth c H1 locs1 (cells + mc) (slots + ms) Q (F0 m (pc + 3) ls (.int r :: rest))) : W p l e R s m args below meth c H locs cells slots Q (F0 m pc ls st0) := by
  have hF := va_free (wc := w0) hD hS hA isC hC
  refine va_calli hr hS (fun q _ h => hF q h) hF (fun r z t H1 locs1 ht hvm hp hB hz hk hS1 => ?_)
  obtain ⟨hP1, hK1, hD1⟩ := hB
  rw [ht] at hP1
  obtain ⟨hP2, hD2⟩ := va_join (wr := wr) (w1 := w1 z) hP hD isC isR hC hR hn hdis hk hF hP1 hD1
  exact kk r z H1 locs1 hp hP2 hD2 (va_K.moved hvm.symm hK1) hS1
theorem zf_l {post : Int64 → σ → Prop} (hr : va_Run p l e R s m args below meth c H locs cells slots mc ms (F0 m pc ls st0) rest (va_Ql post (fun z => zr_B D cl (tys1 z) (va_A w0 H.size) (w1 z)) (va_A w0 H.size) a) (va_A w0 H.size))
    (hP : va_P D cl ws H) (hD : va_D A ws) (hS : va_S A H0 H locs) (hA : ∀ q, H0.size ≤ q → A q) (isC isR : List Nat) (hC : isC.map (fun i => ws[i]?) = w0.map some) (hR : isR.map (fun i => ws[i]?) = wr.map some) (hn : va_nd isR = true) (hdis : ∀ i ∈ isR, i ∉ isC)
    (kk : ∀ (r : Int64) (z : σ) (H1 : Heap) (locs1 : List Loc), post r z → va_P D cl (wr ++ w1 z) H1 → va_D A (wr ++ w1 z) → va_K D cl (tys1 z) s → va_S A H0 H1 locs1 → W p l e R s m args below meth c H1 locs1 (cells + mc) (slots + ms) Q (F0 m (pc + 3) ls (.long r :: rest))) : W p l e R s m args below meth c H locs cells slots Q (F0 m pc ls st0) := by
  have hF := va_free (wc := w0) hD hS hA isC hC
  refine va_calll hr hS (fun q _ h => hF q h) hF (fun r z t H1 locs1 ht hvm hp hB hz hk hS1 => ?_)
  obtain ⟨hP1, hK1, hD1⟩ := hB
  rw [ht] at hP1
  obtain ⟨hP2, hD2⟩ := va_join (wr := wr) (w1 := w1 z) hP hD isC isR hC hR hn hdis hk hF hP1 hD1
  exact kk r z H1 locs1 hp hP2 hD2 (va_K.moved hvm.symm hK1) hS1
theorem zf_v {post : σ → Prop} (hr : va_Run p l e R s m args below meth c H locs cells slots mc ms (F0 m pc ls st0) rest (va_Qv post (fun z => zr_B D cl (tys1 z) (va_A w0 H.size) (w1 z)) (va_A w0 H.size) a) (va_A w0 H.size))
    (hP : va_P D cl ws H) (hD : va_D A ws) (hS : va_S A H0 H locs) (hA : ∀ q, H0.size ≤ q → A q) (isC isR : List Nat) (hC : isC.map (fun i => ws[i]?) = w0.map some) (hR : isR.map (fun i => ws[i]?) = wr.map some) (hn : va_nd isR = true) (hdis : ∀ i ∈ isR, i ∉ isC)
    (kk : ∀ (z : σ) (H1 : Heap) (locs1 : List Loc), post z → va_P D cl (wr ++ w1 z) H1 → va_D A (wr ++ w1 z) → va_K D cl (tys1 z) s → va_S A H0 H1 locs1 → W p l e R s m args below meth c H1 locs1 (cells + mc) (slots + ms) Q (F0 m (pc + 3) ls rest)) : W p l e R s m args below meth c H locs cells slots Q (F0 m pc ls st0) := by
  have hF := va_free (wc := w0) hD hS hA isC hC
  refine va_callv hr hS (fun q _ h => hF q h) hF (fun z t H1 locs1 ht hvm hp hB hz hk hS1 => ?_)
  obtain ⟨hP1, hK1, hD1⟩ := hB
  rw [ht] at hP1
  obtain ⟨hP2, hD2⟩ := va_join (wr := wr) (w1 := w1 z) hP hD isC isR hC hR hn hdis hk hF hP1 hD1
  exact kk z H1 locs1 hp hP2 hD2 (va_K.moved hvm.symm hK1) hS1
variable {τ : Type} {px : τ → Prop} {tyX : τ → List (ClassId × FieldType)} {wX : τ → va_W} {EX : String → τ → Prop}
theorem zx_i {post : Int32 → σ → Prop} (hr : vx_Run p l e R s m args below meth c H locs cells slots mc ms (F0 m pc ls st0) rest (va_Qi post (fun z => zr_B D cl (tys1 z) (va_A w0 H.size) (w1 z)) (va_A w0 H.size) a) (vx_X px (fun E z t => EX E z ∧ zr_B D cl (tyX z) (va_A w0 H.size) (wX z) t) (va_A w0 H.size)) (va_A w0 H.size))
    (hP : va_P D cl ws H) (hD : va_D A ws) (hS : va_S A H0 H locs) (hA : ∀ q, H0.size ≤ q → A q) (isC isR : List Nat) (hC : isC.map (fun i => ws[i]?) = w0.map some) (hR : isR.map (fun i => ws[i]?) = wr.map some) (hn : va_nd isR = true) (hdis : ∀ i ∈ isR, i ∉ isC)
    (kx : ∀ (E : String) (ce : Cell) (q9 : Addr) (z : τ) (H1 : Heap) (locs1 : List Loc), px z → EX E z → va_P D cl (wr ++ wX z) H1 → va_D A (wr ++ wX z) → va_K D cl (tyX z) s → va_S A H0 H1 locs1 → H1[q9]? = some ce → ce.vm = .none → s.vm.findClass E = some ce.cls → vx_W p l e R s m args below meth c H1 locs1 (cells + mc) (slots + ms) Q (F0 m pc ls rest) q9)
    (kk : ∀ (r : Int32) (z : σ) (H1 : Heap) (locs1 : List Loc), post r z → va_P D cl (wr ++ w1 z) H1 → va_D A (wr ++ w1 z) → va_K D cl (tys1 z) s → va_S A H0 H1 locs1 → W p l e R s m args below meth c H1 locs1 (cells + mc) (slots + ms) Q (F0 m (pc + 3) ls (.int r :: rest))) : W p l e R s m args below meth c H locs cells slots Q (F0 m pc ls st0) := by
  have hF := va_free (wc := w0) hD hS hA isC hC
  refine vx_calli hr hS (fun q _ h => hF q h) hF (fun q _ h => hF q h) (fun E ce q9 z t H1 locs1 ht hvm hp hB hz hk hS1 hce hcv hcl => ?_) (fun r z t H1 locs1 ht hvm hp hB hz hk hS1 => ?_)
  · obtain ⟨hEX, hP1, hK1, hD1⟩ := hB
    rw [ht] at hP1
    obtain ⟨hP2, hD2⟩ := va_join (wr := wr) (w1 := wX z) hP hD isC isR hC hR hn hdis hk hF hP1 hD1
    exact kx E ce q9 z H1 locs1 hp hEX hP2 hD2 (va_K.moved hvm.symm hK1) hS1 hce hcv hcl
  · obtain ⟨hP1, hK1, hD1⟩ := hB
    rw [ht] at hP1
    obtain ⟨hP2, hD2⟩ := va_join (wr := wr) (w1 := w1 z) hP hD isC isR hC hR hn hdis hk hF hP1 hD1
    exact kk r z H1 locs1 hp hP2 hD2 (va_K.moved hvm.symm hK1) hS1
theorem zx_l {post : Int64 → σ → Prop} (hr : vx_Run p l e R s m args below meth c H locs cells slots mc ms (F0 m pc ls st0) rest (va_Ql post (fun z => zr_B D cl (tys1 z) (va_A w0 H.size) (w1 z)) (va_A w0 H.size) a) (vx_X px (fun E z t => EX E z ∧ zr_B D cl (tyX z) (va_A w0 H.size) (wX z) t) (va_A w0 H.size)) (va_A w0 H.size))
    (hP : va_P D cl ws H) (hD : va_D A ws) (hS : va_S A H0 H locs) (hA : ∀ q, H0.size ≤ q → A q) (isC isR : List Nat) (hC : isC.map (fun i => ws[i]?) = w0.map some) (hR : isR.map (fun i => ws[i]?) = wr.map some) (hn : va_nd isR = true) (hdis : ∀ i ∈ isR, i ∉ isC)
    (kx : ∀ (E : String) (ce : Cell) (q9 : Addr) (z : τ) (H1 : Heap) (locs1 : List Loc), px z → EX E z → va_P D cl (wr ++ wX z) H1 → va_D A (wr ++ wX z) → va_K D cl (tyX z) s → va_S A H0 H1 locs1 → H1[q9]? = some ce → ce.vm = .none → s.vm.findClass E = some ce.cls → vx_W p l e R s m args below meth c H1 locs1 (cells + mc) (slots + ms) Q (F0 m pc ls rest) q9)
    (kk : ∀ (r : Int64) (z : σ) (H1 : Heap) (locs1 : List Loc), post r z → va_P D cl (wr ++ w1 z) H1 → va_D A (wr ++ w1 z) → va_K D cl (tys1 z) s → va_S A H0 H1 locs1 → W p l e R s m args below meth c H1 locs1 (cells + mc) (slots + ms) Q (F0 m (pc + 3) ls (.long r :: rest))) : W p l e R s m args below meth c H locs cells slots Q (F0 m pc ls st0) := by
  have hF := va_free (wc := w0) hD hS hA isC hC
  refine vx_calll hr hS (fun q _ h => hF q h) hF (fun q _ h => hF q h) (fun E ce q9 z t H1 locs1 ht hvm hp hB hz hk hS1 hce hcv hcl => ?_) (fun r z t H1 locs1 ht hvm hp hB hz hk hS1 => ?_)
  · obtain ⟨hEX, hP1, hK1, hD1⟩ := hB
    rw [ht] at hP1
    obtain ⟨hP2, hD2⟩ := va_join (wr := wr) (w1 := wX z) hP hD isC isR hC hR hn hdis hk hF hP1 hD1
    exact kx E ce q9 z H1 locs1 hp hEX hP2 hD2 (va_K.moved hvm.symm hK1) hS1 hce hcv hcl
  · obtain ⟨hP1, hK1, hD1⟩ := hB
    rw [ht] at hP1
    obtain ⟨hP2, hD2⟩ := va_join (wr := wr) (w1 := w1 z) hP hD isC isR hC hR hn hdis hk hF hP1 hD1
    exact kk r z H1 locs1 hp hP2 hD2 (va_K.moved hvm.symm hK1) hS1
theorem zx_v {post : σ → Prop} (hr : vx_Run p l e R s m args below meth c H locs cells slots mc ms (F0 m pc ls st0) rest (va_Qv post (fun z => zr_B D cl (tys1 z) (va_A w0 H.size) (w1 z)) (va_A w0 H.size) a) (vx_X px (fun E z t => EX E z ∧ zr_B D cl (tyX z) (va_A w0 H.size) (wX z) t) (va_A w0 H.size)) (va_A w0 H.size))
    (hP : va_P D cl ws H) (hD : va_D A ws) (hS : va_S A H0 H locs) (hA : ∀ q, H0.size ≤ q → A q) (isC isR : List Nat) (hC : isC.map (fun i => ws[i]?) = w0.map some) (hR : isR.map (fun i => ws[i]?) = wr.map some) (hn : va_nd isR = true) (hdis : ∀ i ∈ isR, i ∉ isC)
    (kx : ∀ (E : String) (ce : Cell) (q9 : Addr) (z : τ) (H1 : Heap) (locs1 : List Loc), px z → EX E z → va_P D cl (wr ++ wX z) H1 → va_D A (wr ++ wX z) → va_K D cl (tyX z) s → va_S A H0 H1 locs1 → H1[q9]? = some ce → ce.vm = .none → s.vm.findClass E = some ce.cls → vx_W p l e R s m args below meth c H1 locs1 (cells + mc) (slots + ms) Q (F0 m pc ls rest) q9)
    (kk : ∀ (z : σ) (H1 : Heap) (locs1 : List Loc), post z → va_P D cl (wr ++ w1 z) H1 → va_D A (wr ++ w1 z) → va_K D cl (tys1 z) s → va_S A H0 H1 locs1 → W p l e R s m args below meth c H1 locs1 (cells + mc) (slots + ms) Q (F0 m (pc + 3) ls rest)) : W p l e R s m args below meth c H locs cells slots Q (F0 m pc ls st0) := by
  have hF := va_free (wc := w0) hD hS hA isC hC
  refine vx_callv hr hS (fun q _ h => hF q h) hF (fun q _ h => hF q h) (fun E ce q9 z t H1 locs1 ht hvm hp hB hz hk hS1 hce hcv hcl => ?_) (fun z t H1 locs1 ht hvm hp hB hz hk hS1 => ?_)
  · obtain ⟨hEX, hP1, hK1, hD1⟩ := hB
    rw [ht] at hP1
    obtain ⟨hP2, hD2⟩ := va_join (wr := wr) (w1 := wX z) hP hD isC isR hC hR hn hdis hk hF hP1 hD1
    exact kx E ce q9 z H1 locs1 hp hEX hP2 hD2 (va_K.moved hvm.symm hK1) hS1 hce hcv hcl
  · obtain ⟨hP1, hK1, hD1⟩ := hB
    rw [ht] at hP1
    obtain ⟨hP2, hD2⟩ := va_join (wr := wr) (w1 := w1 z) hP hD isC isR hC hR hn hdis hk hF hP1 hD1
    exact kk z H1 locs1 hp hP2 hD2 (va_K.moved hvm.symm hK1) hS1
end ZF
abbrev wF (q : Nat) (cA : ClassId) (n : Nat) (u : Nat → Int32) : va_W := [(q, .inl (cA, n, .inl u))]
abbrev tF (cA : ClassId) : List (ClassId × FieldType) := [(cA, .int)]
abbrev fs_f (u : Nat → Int32) : Nat → Int32 := u
