abbrev StC : Type := (Nat → Int64) × (Nat → Int64) × (Nat → Int32) × (Nat → Int32) × (Nat → Int32) × (Int32) × (Int32) × (Int32) × (Int32) × (Int32) × (Int32) × (Int32)
abbrev cs_o (u : StC) : Nat → Int64 := u.1
abbrev cs_v (u : StC) : Nat → Int64 := u.2.1
abbrev cs_k (u : StC) : Nat → Int32 := u.2.2.1
abbrev cs_n (u : StC) : Nat → Int32 := u.2.2.2.1
abbrev cs_l (u : StC) : Nat → Int32 := u.2.2.2.2.1
abbrev cs_u (u : StC) : Int32 := u.2.2.2.2.2.1
abbrev cs_m (u : StC) : Int32 := u.2.2.2.2.2.2.1
abbrev cs_h (u : StC) : Int32 := u.2.2.2.2.2.2.2.1
abbrev cs_i (u : StC) : Int32 := u.2.2.2.2.2.2.2.2.1
abbrev cs_j (u : StC) : Int32 := u.2.2.2.2.2.2.2.2.2.1
abbrev cs_w (u : StC) : Int32 := u.2.2.2.2.2.2.2.2.2.2.1
abbrev cs_t (u : StC) : Int32 := u.2.2.2.2.2.2.2.2.2.2.2
abbrev StM : Type := (Int32) × (Nat → Int64) × (Nat → Int32) × (Nat → Int64) × (Nat → Int32) × (Nat → Int32) × (Nat → Int64) × (Int64) × (Int32) × (Int32) × (Int32) × (Int32) × (Int32) × (Int32)
abbrev ms_c (u : StM) : Int32 := u.1
abbrev ms_o (u : StM) : Nat → Int64 := u.2.1
abbrev ms_b (u : StM) : Nat → Int32 := u.2.2.1
abbrev ms_v (u : StM) : Nat → Int64 := u.2.2.2.1
abbrev ms_d (u : StM) : Nat → Int32 := u.2.2.2.2.1
abbrev ms_n (u : StM) : Nat → Int32 := u.2.2.2.2.2.1
abbrev ms_l (u : StM) : Nat → Int64 := u.2.2.2.2.2.2.1
abbrev ms_u (u : StM) : Int64 := u.2.2.2.2.2.2.2.1
abbrev ms_m (u : StM) : Int32 := u.2.2.2.2.2.2.2.2.1
abbrev ms_h (u : StM) : Int32 := u.2.2.2.2.2.2.2.2.2.1
abbrev ms_i (u : StM) : Int32 := u.2.2.2.2.2.2.2.2.2.2.1
abbrev ms_j (u : StM) : Int32 := u.2.2.2.2.2.2.2.2.2.2.2.1
abbrev ms_w (u : StM) : Int32 := u.2.2.2.2.2.2.2.2.2.2.2.2.1
abbrev ms_t (u : StM) : Int32 := u.2.2.2.2.2.2.2.2.2.2.2.2.2
def fc_enc : Option Nat → Int32
  | none => -1
  | some k => nI k
def fc_blk (x : Int32) : Int32 := x >>> (1 &&& 31)
def fc_isd (x : Int32) : Int32 := if x = -1 then 0 else if x &&& 1 = 1 then 1 else 0
def fc_find (f : Nat → Int32) (b : Nat) : Nat → Nat → Option Nat
  | 0, _ => none
  | r + 1, k => if f k = -1 then fc_find f b r (k + 1) else if fc_blk (f k) = nI b then some k else fc_find f b r (k + 1)
def fc_use (u : StC) (s : Nat) : StC := (cs_o u, cs_v u, cs_k u, cs_n u, upd (cs_l u) s (cs_u u + 1), cs_u u + 1, cs_m u, cs_h u, cs_i u, cs_j u, cs_w u, cs_t u)
def fc_note (u : StC) (s : Nat) : StC := (cs_o u, cs_v u, cs_k u, upd (cs_n u) s (cs_k u s), cs_l u, cs_u u, cs_m u, cs_h u, cs_i u, cs_j u, cs_w u, cs_t u + 1)
def fc_give (u : StC) (b : Nat) (v : Int64) : StC := (vp_updL (cs_o u) b v, cs_v u, cs_k u, cs_n u, cs_l u, cs_u u, cs_m u, cs_h u, cs_i u, cs_j u, cs_w u + 1, cs_t u)
def fc_setk (u : StC) (s : Nat) (x : Int32) : StC := (cs_o u, cs_v u, upd (cs_k u) s x, cs_n u, cs_l u, cs_u u, cs_m u, cs_h u, cs_i u, cs_j u, cs_w u, cs_t u)
def fc_setv (u : StC) (s : Nat) (x : Int64) : StC := (cs_o u, vp_updL (cs_v u) s x, cs_k u, cs_n u, cs_l u, cs_u u, cs_m u, cs_h u, cs_i u, cs_j u, cs_w u, cs_t u)
def fc_clean (u : StC) (s : Nat) : StC := if fc_isd (cs_n u s) = 0 then fc_setk u s (2 * fc_blk (cs_k u s)) else fc_note (fc_setk u s (2 * fc_blk (cs_k u s))) s
def fc_empty (u : StC) (s : Nat) : StC := if cs_n u s = -1 then fc_setk u s (-1) else fc_note (fc_setk u s (-1)) s
def fc_wbd (u : StC) (s : Nat) : Int32 × StC := if fc_isd (cs_k u s) = 0 then (0, u) else (1, fc_clean (fc_give u (fc_blk (cs_k u s)).toNatClampNeg (cs_v u s)) s)
def fc_wab : Nat → Nat → Int32 → StC → Int32 × StC
  | 0, _, c, u => (c, u)
  | r + 1, k, c, u => if (fc_wbd u k).1 = 0 then fc_wab r (k + 1) c (fc_wbd u k).2 else fc_wab r (k + 1) (c + 1) (fc_wbd u k).2
def fc_room : Nat → Nat → Nat → StC → Nat × StC
  | 0, _, lo, u => (lo, fc_empty (fc_wbd u lo).2 lo)
  | r + 1, k, lo, u => if cs_k u k = -1 then (k, u) else if cs_l u lo ≤ cs_l u k then fc_room r (k + 1) lo u else fc_room r (k + 1) k u
def fc_keep (u : StC) (s b : Nat) : StC := fc_use (fc_setv (fc_setk u s (2 * nI b)) s (cs_o u b)) s
def fc_thru (n : Nat) (u : StC) (b : Nat) (v : Int64) : StC := match fc_find (cs_k u) b n 0 with
  | none => fc_give u b v
  | some s => fc_use (fc_clean (fc_setv (fc_give u b v) s v) s) s
def fc_past (n : Nat) (u : StC) (b : Nat) (v : Int64) : StC := match fc_find (cs_k u) b n 0 with
  | none => fc_give u b v
  | some s => fc_empty (fc_give u b v) s
def fc_fill (u : StC) (s b : Nat) (v : Int64) (q : Int32) : Int32 × StC := if 1 ≤ q then (if 2 ≤ q then (2, fc_note (fc_setv (fc_setk u s (2 * nI b + 1)) s v) s) else (1, fc_setv (fc_setk u s (2 * nI b + 1)) s v)) else (0, u)
def fc_owd (u : StC) (s b : Nat) (v : Int64) (q : Int32) : Int32 × StC := if 1 ≤ q then (1, fc_setv (fc_setk u s (2 * nI b + 1)) s v) else (0, u)
def fc_owc (u : StC) (s b : Nat) (v : Int64) (q : Int32) : Int32 × StC := if 1 ≤ q then (if 2 ≤ q then (2, fc_setv (fc_note (fc_setk u s (2 * nI b + 1)) s) s v) else (1, fc_note (fc_setk u s (2 * nI b + 1)) s)) else (0, u)
def fc_wis (n : Nat) (u : StC) (b : Nat) (v : Int64) (q : Int32) : Int32 × StC := match fc_find (cs_k u) b n 0 with
  | none => ((fc_fill (fc_room n 0 0 u).2 (fc_room n 0 0 u).1 b v q).1, fc_use (fc_fill (fc_room n 0 0 u).2 (fc_room n 0 0 u).1 b v q).2 (fc_room n 0 0 u).1)
  | some s => if cs_n u s = 2 * nI b + 1 then ((fc_owd u s b v q).1, fc_use (fc_owd u s b v q).2 s) else ((fc_owc u s b v q).1, fc_use (fc_owc u s b v q).2 s)
def fc_stop1 (u : StC) (k : Nat) : StC := (cs_o u, cs_v u, upd (cs_k u) k (cs_n u k), cs_n u, upd (cs_l u) k (-(nI k)), cs_u u, cs_m u, cs_h u, cs_i u, cs_j u, cs_w u, cs_t u)
def fc_stopL : Nat → Nat → StC → StC
  | 0, _, u => (cs_o u, cs_v u, cs_k u, cs_n u, cs_l u, cs_u u, 0, 0, cs_i u, cs_j u, cs_w u, cs_t u)
  | r + 1, k, u => fc_stopL r (k + 1) (fc_stop1 u k)
def fc_stop (n : Nat) (u : StC) : StC := fc_stopL n 0 u
def fc_least (f : Nat → Int32) (lo : Int32) : Nat → Nat → Option Nat → Int32 → Option Nat
  | 0, _, a, _ => a
  | r + 1, k, a, lb => if fc_isd (f k) = 0 then fc_least f lo r (k + 1) a lb else if fc_blk (f k) < lo then fc_least f lo r (k + 1) a lb else if lb ≤ fc_blk (f k) then fc_least f lo r (k + 1) a lb else fc_least f lo r (k + 1) (some k) (fc_blk (f k))
def fc_next (n : Nat) (u : StC) : Option Nat := match fc_least (cs_k u) (cs_h u) n 0 none 64 with
  | none => fc_least (cs_k u) 0 n 0 none 64
  | some s => some s
def fc_cua (f g : Nat → Int32) (s : Nat) : Nat → Nat → Int32 → Int32
  | 0, _, c => c
  | r + 1, k, c => if f k = -1 then fc_cua f g s r (k + 1) c else if g k ≤ g s then fc_cua f g s r (k + 1) c else fc_cua f g s r (k + 1) (c + 1)
def fc_full (f : Nat → Int32) : Nat → Nat → Int32 → Int32
  | 0, _, c => c
  | r + 1, k, c => if f k = -1 then fc_full f r (k + 1) c else fc_full f r (k + 1) (c + 1)
def fc_cdty (f : Nat → Int32) : Nat → Nat → Int32 → Int32
  | 0, _, c => c
  | r + 1, k, c => if fc_isd (f k) = 0 then fc_cdty f r (k + 1) c else fc_cdty f r (k + 1) (c + 1)
def fc_hit (u : StC) : StC := (cs_o u, cs_v u, cs_k u, cs_n u, cs_l u, cs_u u, cs_m u, cs_h u, cs_i u + 1, cs_j u, cs_w u, cs_t u)
def fc_mis (u : StC) : StC := (cs_o u, cs_v u, cs_k u, cs_n u, cs_l u, cs_u u, cs_m u, cs_h u, cs_i u, cs_j u + 1, cs_w u, cs_t u)
def fc_read (n : Nat) (u : StC) (b : Nat) : Int64 × StC := match fc_find (cs_k u) b n 0 with
  | none => if cs_m u = 2 then (cs_o u b, fc_mis u) else (cs_o (fc_keep (fc_room n 0 0 (fc_mis u)).2 (fc_room n 0 0 (fc_mis u)).1 b) b, fc_keep (fc_room n 0 0 (fc_mis u)).2 (fc_room n 0 0 (fc_mis u)).1 b)
  | some s => (cs_v u s, fc_use (fc_hit u) s)
def fc_write (n : Nat) (u : StC) (b : Nat) (v : Int64) : StC := if cs_m u = 1 then fc_thru n u b v else if cs_m u = 2 then fc_past n u b v else (fc_wis n u b v 2).2
def fc_cut (n : Nat) (u : StC) (b : Nat) (v : Int64) (q : Int32) : Int32 × StC := ((fc_wis n u b v q).1, fc_stop n (fc_wis n u b v q).2)
def fc_setm (u : StC) (x : Int32) : StC := (cs_o u, cs_v u, cs_k u, cs_n u, cs_l u, cs_u u, x, cs_h u, cs_i u, cs_j u, cs_w u, cs_t u)
def fc_seth (u : StC) (x : Int32) : StC := (cs_o u, cs_v u, cs_k u, cs_n u, cs_l u, cs_u u, cs_m u, x, cs_i u, cs_j u, cs_w u, cs_t u)
def fc_mode (n : Nat) (u : StC) (x : Int32) : Int32 × StC := if x = 0 then (0, fc_setm u x) else fc_wab n 0 0 (fc_setm u x)
def fc_back1 (u : StC) (s : Nat) : StC := fc_seth (fc_wbd u s).2 (fc_blk (cs_k (fc_wbd u s).2 s) + 1)
def fc_back (n : Nat) : Nat → Nat → StC → Int32 × StC
  | 0, d, u => (nI d, u)
  | r + 1, d, u => match fc_next n u with
    | none => (nI d, u)
    | some s => fc_back n r (d + 1) (fc_back1 u s)
def fc_check : Nat → Nat → Int32 → StC → Int32 × StC
  | 0, _, c, u => (c, u)
  | r + 1, k, c, u => if cs_n u k = cs_k u k then fc_check r (k + 1) c u else fc_check r (k + 1) (c + 1) (fc_note u k)
def fc_setn (u : StC) (f : Nat → Int32) : StC := (cs_o u, cs_v u, cs_k u, f, cs_l u, cs_u u, cs_m u, cs_h u, cs_i u, cs_j u, cs_w u, cs_t u)
def fc_crash (n : Nat) (u : StC) : Int32 × StC := (fc_full (cs_k (fc_stop n u)) n 0 0, fc_stop n u)
def fc_fil (x : Int32) : Nat → Nat → (Nat → Int32) → (Nat → Int32)
  | 0, _, f => f
  | r + 1, k, f => fc_fil x r (k + 1) (upd f k x)
def fc_lose (n : Nat) (u : StC) : Int32 × StC := (fc_cdty (cs_k u) n 0 0, fc_stop n (fc_setn u (fc_fil (-1) n 0 (cs_n u))))
def fc_order (f g : Nat → Int32) (n : Nat) (q : Int32) : Nat → Nat → Option Int32
  | 0, _ => none
  | r + 1, k => if f k = -1 then fc_order f g n q r (k + 1) else if fc_cua f g k n 0 0 = q then some (fc_blk (f k)) else fc_order f g n q r (k + 1)
def fm_so (b d : Int32) : Int32 := if 0 ≤ b then (if d = 0 then 2 * b + 0 else 2 * b + 1) else -1
def fm_isb (b : Int32) : Int32 := if b < 0 then 0 else if 63 < b then 0 else 1
def fm_ind (x : Int32) : Int32 := if x < 0 then 0 else if x - x / 2 * 2 = 1 then 1 else 0
def fm_note (u : StM) (s : Nat) : StM := (ms_c u, ms_o u, ms_b u, ms_v u, ms_d u, upd (ms_n u) s (fm_so (ms_b u s) (ms_d u s)), ms_l u, ms_u u, ms_m u, ms_h u, ms_i u, ms_j u, ms_w u, ms_t u + 1)
def fm_use (u : StM) (s : Nat) : StM := (ms_c u, ms_o u, ms_b u, ms_v u, ms_d u, ms_n u, vp_updL (ms_l u) s (ms_u u + 1), ms_u u + 1, ms_m u, ms_h u, ms_i u, ms_j u, ms_w u, ms_t u)
def fm_give (u : StM) (b : Nat) (v : Int64) : StM := (ms_c u, vp_updL (ms_o u) b v, ms_b u, ms_v u, ms_d u, ms_n u, ms_l u, ms_u u, ms_m u, ms_h u, ms_i u, ms_j u, ms_w u + 1, ms_t u)
def fm_setd (u : StM) (s : Nat) (x : Int32) : StM := (ms_c u, ms_o u, ms_b u, ms_v u, upd (ms_d u) s (vp_nar .boolean x), ms_n u, ms_l u, ms_u u, ms_m u, ms_h u, ms_i u, ms_j u, ms_w u, ms_t u)
def fm_setb (u : StM) (s : Nat) (x : Int32) : StM := (ms_c u, ms_o u, upd (ms_b u) s x, ms_v u, ms_d u, ms_n u, ms_l u, ms_u u, ms_m u, ms_h u, ms_i u, ms_j u, ms_w u, ms_t u)
def fm_setv (u : StM) (s : Nat) (x : Int64) : StM := (ms_c u, ms_o u, ms_b u, vp_updL (ms_v u) s x, ms_d u, ms_n u, ms_l u, ms_u u, ms_m u, ms_h u, ms_i u, ms_j u, ms_w u, ms_t u)
def fm_setc (u : StM) (x : Int32) : StM := (x, ms_o u, ms_b u, ms_v u, ms_d u, ms_n u, ms_l u, ms_u u, ms_m u, ms_h u, ms_i u, ms_j u, ms_w u, ms_t u)
def fm_clean (u : StM) (s : Nat) : StM := if fm_ind (ms_n u s) = 0 then fm_setd u s 0 else fm_note (fm_setd u s 0) s
def fm_wb (u : StM) (s : Nat) : StM := fm_clean (fm_give u (ms_b u s).toNatClampNeg (ms_v u s)) s
def fm_empty (u : StM) (s : Nat) : StM := if ms_n u s < 0 then fm_setd (fm_setb u s (-1)) s 0 else fm_note (fm_setd (fm_setb u s (-1)) s 0) s
def fm_find (f : Nat → Int32) (b : Nat) : Nat → Nat → Option Nat → Option Nat
  | 0, _, a => a
  | r + 1, k, a => if f k = nI b then fm_find f b r (k + 1) (some k) else fm_find f b r (k + 1) a
def fm_emp (f : Nat → Int32) : Nat → Option Nat → Option Nat
  | 0, a => a
  | k + 1, a => if 0 ≤ f k then fm_emp f k a else fm_emp f k (some k)
def fm_lru (g : Nat → Int64) : Nat → Nat → Nat → Nat
  | 0, _, lo => lo
  | r + 1, k, lo => if 0 ≤ lg_cmp (g k) (g lo) then fm_lru g r (k + 1) lo else fm_lru g r (k + 1) k
def fm_drop (u : StM) (lo : Nat) : StM := if ms_d u lo = 0 then fm_empty u lo else fm_empty (fm_wb u lo) lo
def fm_room (n : Nat) (u : StM) : Nat × StM := match fm_emp (ms_b u) n none with
  | some s => (s, u)
  | none => (fm_lru (ms_l u) (n - 1) 1 0, fm_drop u (fm_lru (ms_l u) (n - 1) 1 0))
def fm_hit (u : StM) : StM := (ms_c u, ms_o u, ms_b u, ms_v u, ms_d u, ms_n u, ms_l u, ms_u u, ms_m u, ms_h u, ms_i u + 1, ms_j u, ms_w u, ms_t u)
def fm_mis (u : StM) : StM := (ms_c u, ms_o u, ms_b u, ms_v u, ms_d u, ms_n u, ms_l u, ms_u u, ms_m u, ms_h u, ms_i u, ms_j u + 1, ms_w u, ms_t u)
def fm_keep (u : StM) (s b : Nat) : StM := fm_use (fm_setd (fm_setv (fm_setb u s (nI b)) s (ms_o u b)) s 0) s
def fm_readB (n : Nat) (u : StM) (b : Nat) : Int64 × StM := match fm_find (ms_b u) b n 0 none with
  | some s => (ms_v u s, fm_use (fm_hit u) s)
  | none => if ms_m u = 2 then (ms_o u b, fm_mis u) else (ms_o (fm_keep (fm_room n (fm_mis u)).2 (fm_room n (fm_mis u)).1 b) b, fm_keep (fm_room n (fm_mis u)).2 (fm_room n (fm_mis u)).1 b)
def fm_read (n : Nat) (u : StM) (b : Int32) : Int64 × StM := if fm_isb b = 0 then (0, fm_setc u 1) else fm_readB n (fm_setc u 0) b.toNatClampNeg
def fm_stF (u : StM) (s b : Nat) (v : Int64) (q : Int32) : Int32 × StM := if q ≤ 0 then (if q ≤ 1 then (0, u) else (0 + 1, fm_note u s)) else (if q ≤ 1 then (0 + 1, fm_setd (fm_setv (fm_setb u s (nI b)) s v) s 1) else (0 + 1 + 1, fm_note (fm_setd (fm_setv (fm_setb u s (nI b)) s v) s 1) s))
def fm_stW (u : StM) (s : Nat) (v : Int64) (q d : Int32) : Int32 × StM := if q ≤ d then (d, u) else (d + 1, fm_setd (fm_setv u s v) s 1)
def fm_stO (u : StM) (s b : Nat) (v : Int64) (q : Int32) : Int32 × StM := if ms_n u s = 2 * nI b + 1 then fm_stW u s v q 0 else if q ≤ 0 then fm_stW u s v q 0 else fm_stW (fm_note (fm_setd u s 1) s) s v q (0 + 1)
def fm_steps (n : Nat) (u : StM) (b : Nat) (v : Int64) (q : Int32) : Int32 × StM := match fm_find (ms_b u) b n 0 none with
  | none => ((fm_stF (fm_room n u).2 (fm_room n u).1 b v q).1, fm_use (fm_stF (fm_room n u).2 (fm_room n u).1 b v q).2 (fm_room n u).1)
  | some s => ((fm_stO u s b v q).1, fm_use (fm_stO u s b v q).2 s)
def fm_writeB (n : Nat) (u : StM) (b : Nat) (v : Int64) : StM := if ms_m u = 0 then (fm_steps n u b v 2).2 else match fm_find (ms_b u) b n 0 none with
  | none => fm_give u b v
  | some s => if ms_m u = 1 then fm_use (fm_clean (fm_setv (fm_give u b v) s v) s) s else fm_empty (fm_give u b v) s
def fm_write (n : Nat) (u : StM) (b : Int32) (v : Int64) : StM := if fm_isb b = 0 then fm_setc u 1 else fm_writeB n (fm_setc u 0) b.toNatClampNeg v
def fm_stop1 (n : Nat) (u : StM) (k : Nat) : StM := (ms_c u, ms_o u, upd (ms_b u) k (if 0 ≤ ms_n u k then ms_n u k / 2 else -1), ms_v u, upd (ms_d u) k (vp_nar .boolean (fm_ind (ms_n u k))), ms_n u, vp_updL (ms_l u) (n - 1 - k) (ms_u u + 1), ms_u u + 1, ms_m u, ms_h u, ms_i u, ms_j u, ms_w u, ms_t u)
def fm_stopL (n : Nat) : Nat → Nat → StM → StM
  | 0, _, u => (ms_c u, ms_o u, ms_b u, ms_v u, ms_d u, ms_n u, ms_l u, ms_u u, 0, 0, ms_i u, ms_j u, ms_w u, ms_t u)
  | r + 1, k, u => fm_stopL n r (k + 1) (fm_stop1 n u k)
def fm_stop (n : Nat) (u : StM) : StM := fm_stopL n n 0 u
def fm_cutc (m b q : Int32) : Int32 := if fm_isb b = 0 then 1 else if q < 0 then 1 else if q ≤ 2 then (if m = 0 then 0 else 2) else 1
def fm_cut (n : Nat) (u : StM) (b : Int32) (v : Int64) (q : Int32) : Int32 × StM := if fm_cutc (ms_m u) b q = 0 then ((fm_steps n (fm_setc u 0) b.toNatClampNeg v q).1, fm_stop n (fm_steps n (fm_setc u 0) b.toNatClampNeg v q).2) else (0, fm_setc u (fm_cutc (ms_m u) b q))
def fm_setm (u : StM) (x : Int32) : StM := (ms_c u, ms_o u, ms_b u, ms_v u, ms_d u, ms_n u, ms_l u, ms_u u, x, ms_h u, ms_i u, ms_j u, ms_w u, ms_t u)
def fm_seth (u : StM) (x : Int32) : StM := (ms_c u, ms_o u, ms_b u, ms_v u, ms_d u, ms_n u, ms_l u, ms_u u, ms_m u, x, ms_i u, ms_j u, ms_w u, ms_t u)
def fm_modeL (x : Int32) : Nat → Nat → Int32 → StM → Int32 × StM
  | 0, _, c, u => (c, u)
  | r + 1, k, c, u => if x = 0 then (c, u) else if ms_d u k = 0 then fm_modeL x r (k + 1) c u else fm_modeL x r (k + 1) (c + 1) (fm_wb u k)
def fm_mode (n : Nat) (u : StM) (x : Int32) : Int32 × StM := if x < 0 then (0, fm_setc u 1) else if x ≤ 2 then fm_modeL x n 0 0 (fm_setm (fm_setc u 0) x) else (0, fm_setc u 1)
def fm_next (f g : Nat → Int32) (lo : Int32) : Nat → Nat → Option Nat → Option Nat
  | 0, _, a => a
  | r + 1, k, a => if f k < lo then fm_next f g lo r (k + 1) a else if g k = 0 then fm_next f g lo r (k + 1) a else match a with
    | none => fm_next f g lo r (k + 1) (some k)
    | some j => if f j ≤ f k then fm_next f g lo r (k + 1) a else fm_next f g lo r (k + 1) (some k)
def fm_nxt (n : Nat) (u : StM) : Option Nat := match fm_next (ms_b u) (ms_d u) (ms_h u) n 0 none with
  | none => fm_next (ms_b u) (ms_d u) 0 n 0 none
  | some s => some s
def fm_back1 (u : StM) (s : Nat) : StM := fm_seth (fm_wb u s) (ms_b (fm_wb u s) s + 1)
def fm_backL (n : Nat) : Nat → Int32 → StM → Int32 × StM
  | 0, c, u => (c, u)
  | r + 1, c, u => match fm_nxt n u with
    | none => fm_backL n r c u
    | some s => fm_backL n r (c + 1) (fm_back1 u s)
def fm_back (n : Nat) (u : StM) (q : Int32) : Int32 × StM := if q < 0 then (0, fm_setc u 1) else if q ≤ 12 then fm_backL n q.toNatClampNeg 0 (fm_setc u 0) else (0, fm_setc u 1)
def fm_checkL : Nat → Nat → Int32 → StM → Int32 × StM
  | 0, _, c, u => (c, u)
  | r + 1, k, c, u => if ms_n u k = fm_so (ms_b u k) (ms_d u k) then fm_checkL r (k + 1) c u else fm_checkL r (k + 1) (c + 1) (fm_note u k)
def fm_check (n : Nat) (u : StM) : Int32 × StM := fm_checkL n 0 0 (fm_setc u 0)
def fm_full (f : Nat → Int32) : Nat → Nat → Int32 → Int32
  | 0, _, c => c
  | r + 1, k, c => if f k < 0 then fm_full f r (k + 1) (c + 0) else fm_full f r (k + 1) (c + 1)
def fm_dts (f g : Nat → Int32) : Nat → Nat → Int32 → Int32
  | 0, _, c => c
  | r + 1, k, c => if f k < 0 then fm_dts f g r (k + 1) (c + 0) else if g k = 0 then fm_dts f g r (k + 1) (c + 0) else fm_dts f g r (k + 1) (c + 1)
def fm_crash (n : Nat) (u : StM) : Int32 × StM := (fm_full (ms_b (fm_stop n (fm_setc u 0))) n 0 0, fm_stop n (fm_setc u 0))
def fm_clrL : Nat → Nat → StM → StM
  | 0, _, u => u
  | r + 1, k, u => fm_clrL r (k + 1) (ms_c u, ms_o u, ms_b u, ms_v u, ms_d u, upd (ms_n u) k (-1), ms_l u, ms_u u, ms_m u, ms_h u, ms_i u, ms_j u, ms_w u, ms_t u)
def fm_lose (n : Nat) (u : StM) : Int32 × StM := (fm_dts (ms_b u) (ms_d u) n 0 0, fm_stop n (fm_clrL n 0 (fm_setc u 0)))
def fm_slot (n : Nat) (u : StM) (b : Int32) : Int32 × StM := if fm_isb b = 0 then (0, fm_setc u 1) else (fc_enc (fm_find (ms_b u) b.toNatClampNeg n 0 none), fm_setc u 0)
def fm_dirty (n : Nat) (u : StM) (b : Int32) : Int32 × StM := if fm_isb b = 0 then (0, fm_setc u 1) else match fm_find (ms_b u) b.toNatClampNeg n 0 none with
  | none => (0, fm_setc u 2)
  | some s => if ms_d u s = 0 then (0, fm_setc u 0) else (1, fm_setc u 0)
def fm_origin (u : StM) (b : Int32) : Int64 × StM := if fm_isb b = 0 then (0, fm_setc u 1) else (ms_o u b.toNatClampNeg, fm_setc u 0)
def fm_bef (f : Nat → Int32) (g : Nat → Int64) (s : Nat) : Nat → Nat → Int32 → Int32
  | 0, _, c => c
  | r + 1, k, c => if f k < 0 then fm_bef f g s r (k + 1) (c + 0) else if lg_cmp (g k) (g s) ≤ 0 then fm_bef f g s r (k + 1) (c + 0) else fm_bef f g s r (k + 1) (c + 1)
def fm_orderL (f : Nat → Int32) (g : Nat → Int64) (n : Nat) (q : Int32) : Nat → Nat → Option Int32
  | 0, _ => none
  | r + 1, k => if f k < 0 then fm_orderL f g n q r (k + 1) else if fm_bef f g k n 0 0 = q then some (f k) else fm_orderL f g n q r (k + 1)
def fm_order (n : Nat) (u : StM) (q : Int32) : Int32 × StM := match fm_orderL (ms_b u) (ms_l u) n q n 0 with
  | none => (0, fm_setc u 1)
  | some x => (x, fm_setc u 0)
def fm_noted (n : Nat) (u : StM) (q : Int32) : Int32 × StM := if q < 0 then (0, fm_setc u 1) else if q < nI n then (ms_n u q.toNatClampNeg, fm_setc u 0) else (0, fm_setc u 1)
def fm_fig (n : Nat) (u : StM) (q : Int32) : Int32 := if q = 0 then ms_i u else if q = 1 then ms_j u else if q = 2 then ms_w u else if q = 3 then ms_t u else if q = 4 then fm_full (ms_b u) n 0 0 else if q = 5 then fm_dts (ms_b u) (ms_d u) n 0 0 else if q = 6 then ms_m u else if q = 7 then ms_h u else 0
def fm_figure (n : Nat) (u : StM) (q : Int32) : Int32 × StM := (fm_fig n u q, fm_setc u (if q < 0 then 1 else if q ≤ 7 then 0 else 1))
def fc_fig (n : Nat) (u : StC) (q : Int32) : Int32 := if q = 0 then cs_i u else if q = 1 then cs_j u else if q = 2 then cs_w u else if q = 3 then cs_t u else if q = 4 then fc_full (cs_k u) n 0 0 else if q = 5 then fc_cdty (cs_k u) n 0 0 else if q = 6 then cs_m u else cs_h u
def fc_ini (n : Nat) : StC := (fun _ => 0, fun _ => 0, fc_fil (-1) n 0 (fun _ => 0), fc_fil (-1) n 0 (fun _ => 0), fun _ => 0, 0, 0, 0, 0, 0, 0, 0)
def fm_iniL : Nat → Nat → StM → StM
  | 0, _, u => u
  | r + 1, k, u => fm_iniL r (k + 1) (ms_c u, ms_o u, upd (ms_b u) k (-1), ms_v u, ms_d u, upd (ms_n u) k (-1), ms_l u, ms_u u, ms_m u, ms_h u, ms_i u, ms_j u, ms_w u, ms_t u)
def fm_ini : StM := fm_iniL 12 0 (0, fun _ => 0, fun _ => 0, fun _ => 0, fun _ => 0, fun _ => 0, fun _ => 0, 0, 0, 0, 0, 0, 0, 0)
def fc_slots (x : Int32) : Nat := if x < 1 then 6 else if 12 < x then 6 else x.toNatClampNeg
