/-! one value for both: how many were made, which exist, what the roots hold, what each has; what every call answers and leaves -/
abbrev vv_V : Type := Nat × List Nat × (Nat → Option Nat) × (Nat → List it_I)
def sf_T (T : List Nat) (o : Int32) : Option Nat := T.find? (fun n => decide (o = nI n))
theorem sf_some {T : List Nat} {o : Int32} {n : Nat} (h : sf_T T o = some n) : n ∈ T ∧ o = nI n := by
  unfold sf_T at h
  have h2 := List.find?_some (p := fun n => decide (o = nI n)) h
  exact ⟨List.mem_of_find?_eq_some h, of_decide_eq_true h2⟩
theorem sf_none {T : List Nat} {o : Int32} (h : ∀ n ∈ T, o ≠ nI n) : sf_T T o = none := by
  unfold sf_T
  rw [List.find?_eq_none]
  intro n hn q
  exact h n hn (of_decide_eq_true q)
theorem sf_of {T : List Nat} {o : Int32} {n : Nat} (hT : ∀ k ∈ T, k < 2 ^ 31) (hn : n ∈ T) (ho : o = nI n) : sf_T T o = some n := by
  cases h : sf_T T o with
  | none =>
    unfold sf_T at h
    rw [List.find?_eq_none] at h
    exact absurd (decide_eq_true ho) (h n hn)
  | some k =>
    obtain ⟨h1, h2⟩ := sf_some h
    rw [ho] at h2
    rw [(nI_eq (hT n hn) (hT k h1)).mp h2]
noncomputable def vv_set (V : vv_V) : vv_V := (V.1, sv_T V.2.1 V.2.2.1 V.2.2.2, V.2.2.1, fun n => if n ∈ sv_T V.2.1 V.2.2.1 V.2.2.2 then V.2.2.2 n else [])
noncomputable def vq_make (V : vv_V) (r : Int32) : Int32 × vv_V := match sf_T (List.range 16) r with
  | none => (-1, V)
  | some j => (nI V.1, vv_set (V.1 + 1, V.2.1 ++ [V.1], va_up V.2.2.1 j (some V.1), V.2.2.2))
noncomputable def vq_put (V : vv_V) (j : Nat) (x : Option Nat) : Int32 × vv_V := (nI (vv_set (V.1, V.2.1, va_up V.2.2.1 j x, V.2.2.2)).2.1.length, vv_set (V.1, V.2.1, va_up V.2.2.1 j x, V.2.2.2))
noncomputable def vq_root (V : vv_V) (r o : Int32) : Int32 × vv_V := match sf_T (List.range 16) r with
  | none => (-1, V)
  | some j => if o = -1 then vq_put V j none else match sf_T V.2.1 o with
    | none => (-2, V)
    | some n => vq_put V j (some n)
def vq_app (V : vv_V) (n : Nat) (x : it_I) : Int32 × vv_V := if 300 ≤ (V.2.2.2 n).length then (-3, V) else (nI ((V.2.2.2 n).length + 1), V.1, V.2.1, V.2.2.1, va_up V.2.2.2 n (V.2.2.2 n ++ [x]))
def vq_point (V : vv_V) (o i : Int32) : Int32 × vv_V := match sf_T V.2.1 o with
  | none => (-2, V)
  | some n => match sf_T V.2.1 i with
    | none => (-2, V)
    | some k => vq_app V n (some k, 0)
def vq_note (V : vv_V) (o v : Int32) : Int32 × vv_V := match sf_T V.2.1 o with
  | none => (-2, V)
  | some n => vq_app V n (none, v)
noncomputable def vq_row (V : vv_V) (n : Nat) (r : List it_I) : Int32 × vv_V := (nI (vv_set (V.1, V.2.1, V.2.2.1, va_up V.2.2.2 n r)).2.1.length, vv_set (V.1, V.2.1, V.2.2.1, va_up V.2.2.2 n r))
noncomputable def vq_turn (V : vv_V) (o k i : Int32) : Int32 × vv_V := match sf_T V.2.1 o with
  | none => (-2, V)
  | some n => match sf_T V.2.1 i with
    | none => (-2, V)
    | some q => match sf_T (List.range (V.2.2.2 n).length) k with
      | none => (-2, V)
      | some j => vq_row V n ((V.2.2.2 n).set j (some q, 0))
noncomputable def vq_take (V : vv_V) (o k : Int32) : Int32 × vv_V := match sf_T V.2.1 o with
  | none => (-2, V)
  | some n => match sf_T (List.range (V.2.2.2 n).length) k with
    | none => (-2, V)
    | some j => vq_row V n ((V.2.2.2 n).eraseIdx j)
def it_L (x : it_I) : Int64 := match x.1 with
  | some n => lN (1099511627776 + n)
  | none => x.2.toInt64
def vq_item (V : vv_V) (o k : Int32) : Int64 := match sf_T V.2.1 o with
  | none => 2199023255552
  | some n => match sf_T (List.range (V.2.2.2 n).length) k with
    | none => 2199023255552
    | some j => it_L ((V.2.2.2 n).getD j (none, 0))
def vq_held (V : vv_V) (r : Int32) : Int32 := match sf_T (List.range 16) r with
  | none => -1
  | some j => match V.2.2.1 j with
    | none => -2
    | some n => nI n
def vq_holders (V : vv_V) (o : Int32) : Int32 := match sf_T V.2.1 o with
  | none => -2
  | some n => nI ((hd_all V.2.1 V.2.2.1 V.2.2.2).count n)
def vq_items (V : vv_V) (o : Int32) : Int32 := match sf_T V.2.1 o with
  | none => -2
  | some n => nI (V.2.2.2 n).length
noncomputable def vq_collect (V : vv_V) : Int32 × vv_V := (nI (V.2.1.length - (rd_T V.2.1 V.2.2.1 V.2.2.2).length), V.1, rd_T V.2.1 V.2.2.1 V.2.2.2, V.2.2.1, fun n => if n ∈ rd_T V.2.1 V.2.2.1 V.2.2.2 then V.2.2.2 n else [])
def vq_count (V : vv_V) (w : Int32) : Int32 := if w = 0 then nI V.2.1.length else if w = 1 then nI V.1 else -1
/-- what always holds of it -/
def vv_I (N : Nat) (V : vv_V) : Prop := cv_I V.2.1 V.2.2.1 V.2.2.2 ∧ V.2.1.Pairwise (· < ·) ∧ (∀ n ∈ V.2.1, n < V.1) ∧ (∀ n, (V.2.2.2 n).length ≤ 300) ∧ V.1 ≤ N
theorem sd_nodup {T : List Nat} (h : T.Pairwise (· < ·)) : T.Nodup := h.imp (fun hab => Nat.ne_of_lt hab)
theorem vv_len {N : Nat} {V : vv_V} (h : vv_I N V) : V.2.1.length ≤ V.1 := by
  have := nd_le V.2.1 (List.range V.1) h.1.1 (fun n hn => List.mem_range.mpr (h.2.2.1 n hn))
  rw [List.length_range] at this
  exact this
theorem hd_row_len (r : List it_I) : (hd_row r).length ≤ r.length := List.length_filterMap_le _ _
theorem fm_len (f : Nat → List Nat) (B : Nat) : ∀ (T : List Nat), (∀ n ∈ T, (f n).length ≤ B) → (T.flatMap f).length ≤ B * T.length
  | [], _ => Nat.zero_le _
  | a :: T, h => by
    rw [List.flatMap_cons, List.length_append, List.length_cons]
    have h1 := h a List.mem_cons_self
    have h2 := fm_len f B T (fun n hn => h n (List.mem_cons_of_mem _ hn))
    rw [Nat.mul_succ]
    omega
theorem hd_len {T : List Nat} {root : Nat → Option Nat} {row : Nat → List it_I} (h : ∀ n, (row n).length ≤ 300) (n : Nat) : (hd_all T root row).count n ≤ 16 + 300 * T.length := by
  have h1 : (hd_all T root row).count n ≤ (hd_all T root row).length := List.count_le_length
  have h2 : (hd_roots root).length ≤ 16 := by
    unfold hd_roots
    have := List.length_filterMap_le root (List.range 16)
    rw [List.length_range] at this
    exact this
  have h3 := fm_len (fun m => hd_row (row m)) 300 T (fun m _ => Nat.le_trans (hd_row_len _) (h m))
  unfold hd_all at h1 ⊢
  rw [List.length_append] at h1
  omega
theorem fm_flat {α : Type} (g : α → Option Nat) : ∀ (l : List α), l.filterMap g = l.flatMap (fun x => (g x).toList)
  | [] => rfl
  | a :: l => by
    rw [List.filterMap_cons, List.flatMap_cons, fm_flat g l]
    cases g a <;> rfl
/-- a root is set: the counts -/
theorem ct_root {T : List Nat} {root : Nat → Option Nat} {row : Nat → List it_I} {r : Nat} (hr : r < 16) (x : Option Nat) (n : Nat) : (hd_all T (va_up root r x) row).count n + (if root r = some n then 1 else 0) = (hd_all T root row).count n + (if x = some n then 1 else 0) := by
  have hc : ∀ o : Option Nat, o.toList.count n = if o = some n then 1 else 0 := by
    intro o
    cases o with
    | none => rfl
    | some k =>
      by_cases hk : k = n
      · subst hk
        simp
      · simp [hk]
  have h1 := ct_up (fun k => (root k).toList) r x.toList n (List.range 16) List.nodup_range (List.mem_range.mpr hr)
  have e : (fun k => (va_up root r x k).toList) = va_up (fun k => (root k).toList) r x.toList := by
    funext k
    by_cases hk : k = r
    · subst hk
      rw [va_up_self, va_up_self]
    · rw [va_up_ne _ _ hk, va_up_ne _ _ hk]
  unfold hd_all hd_roots
  rw [List.count_append, List.count_append, fm_flat, fm_flat, e]
  rw [hc, hc] at h1
  omega
theorem ct_set (n : Nat) : ∀ (r : List it_I) (j : Nat) (x y : it_I), r[j]? = some x → (hd_row (r.set j y)).count n + (if x.1 = some n then 1 else 0) = (hd_row r).count n + (if y.1 = some n then 1 else 0)
  | [], _, _, _, h => by cases h
  | a :: r, 0, x, y, h => by
    cases h
    show (hd_row (y :: r)).count n + _ = _
    unfold hd_row
    rw [List.filterMap_cons, List.filterMap_cons]
    cases hx : a.1 with
    | none =>
      cases hy : y.1 with
      | none => rfl
      | some k =>
        by_cases hk : k = n
        · subst hk
          simp
        · simp [hk]
    | some q =>
      cases hy : y.1 with
      | none =>
        by_cases hq : q = n
        · subst hq
          simp
        · simp [hq]
      | some k =>
        by_cases hk : k = n <;> by_cases hq : q = n <;> simp [hk, hq] <;> omega
  | a :: r, j + 1, x, y, h => by
    have ih := ct_set n r j x y h
    show (hd_row (a :: r.set j y)).count n + _ = _
    unfold hd_row at ih ⊢
    rw [List.filterMap_cons, List.filterMap_cons]
    cases a.1 with
    | none => exact ih
    | some k =>
      rw [List.count_cons, List.count_cons]
      omega
theorem ct_erase (n : Nat) : ∀ (r : List it_I) (j : Nat) (x : it_I), r[j]? = some x → (hd_row (r.eraseIdx j)).count n + (if x.1 = some n then 1 else 0) = (hd_row r).count n
  | [], _, _, h => by cases h
  | a :: r, 0, x, h => by
    cases h
    show (hd_row r).count n + _ = _
    unfold hd_row
    rw [List.filterMap_cons]
    cases hx : a.1 with
    | none => rfl
    | some q =>
      by_cases hq : q = n
      · subst hq
        simp
      · simp [hq]
  | a :: r, j + 1, x, h => by
    have ih := ct_erase n r j x h
    show (hd_row (a :: r.eraseIdx j)).count n + _ = _
    unfold hd_row at ih ⊢
    rw [List.filterMap_cons, List.filterMap_cons]
    cases a.1 with
    | none => exact ih
    | some k =>
      rw [List.count_cons, List.count_cons]
      omega
theorem ct_app (n : Nat) (r : List it_I) (x : it_I) : (hd_row (r ++ [x])).count n = (hd_row r).count n + (if x.1 = some n then 1 else 0) := by
  unfold hd_row
  rw [List.filterMap_append, List.count_append]
  congr 1
  cases hx : x.1 with
  | none => simp [hx]
  | some k =>
    by_cases hk : k = n
    · subst hk
      simp [hx]
    · simp [hx, hk]
/-- a change that holds x once more and b once less -/
theorem cl_op {T : List Nat} {root root' : Nat → Option Nat} {row row' : Nat → List it_I} {hld : Nat → Int32} {x b : Option Nat} (hd : T.Nodup) (hroot : ∀ n ∈ hd_roots root', n ∈ T) (hrow : ∀ m ∈ T, ∀ n ∈ hd_row (row' m), n ∈ T) (h4 : ∀ n, n ∉ T → row' n = []) (hb : ∀ n, b = some n → n ∈ T)
    (hh : ∀ n ∈ T, hld n = nI ((hd_all T root row).count n)) (hp : ∀ n ∈ T, 0 < (hd_all T root row).count n ∨ x = some n) (hc : ∀ n, (hd_all T root' row').count n + (if b = some n then 1 else 0) = (hd_all T root row).count n + (if x = some n then 1 else 0)) (h5 : ∀ n, (hd_all T root' row').count n + 1 < 2 ^ 31) :
    (cl_ru T.length 0 (row', cl_lose (cl_hold hld x, []) b)).2.2.length ≤ T.length ∧
    (cl_rem T (row', cl_lose (cl_hold hld x, []) b)).1 = sv_T T root' row' ∧ (cl_rem T (row', cl_lose (cl_hold hld x, []) b)).2.1 = (fun n => if n ∈ sv_T T root' row' then row' n else []) ∧ (cl_rem T (row', cl_lose (cl_hold hld x, []) b)).2.2.2 = [] ∧
    (∀ n ∈ sv_T T root' row', (cl_rem T (row', cl_lose (cl_hold hld x, []) b)).2.2.1 n = nI ((hd_all (sv_T T root' row') root' (fun n => if n ∈ sv_T T root' row' then row' n else [])).count n)) ∧ cv_I (sv_T T root' row') root' (fun n => if n ∈ sv_T T root' row' then row' n else []) := by
  refine cl_settle hd hroot hrow h4 hb (fun n hn => ?_) (fun n hn h0 => ?_) h5
  · rw [hc n]
    cases x with
    | none =>
      show hld n = _
      rw [hh n hn, if_neg (fun q => by cases q), Nat.add_zero]
    | some k =>
      show va_up hld k (hld k + 1) n = _
      by_cases hk : n = k
      · subst hk
        rw [va_up_self, if_pos rfl, hh n hn, nI_1]
      · rw [va_up_ne _ _ hk, hh n hn, if_neg (fun q => hk (Option.some.inj q).symm), Nat.add_zero]
  · have := hc n
    rw [h0] at this
    by_cases hbn : b = some n
    · exact hbn
    · rw [if_neg hbn] at this
      rcases hp n hn with q | q
      · omega
      · rw [if_pos q] at this
        omega
theorem vv_set_I {N : Nat} {V : vv_V} (hcv : cv_I (vv_set V).2.1 (vv_set V).2.2.1 (vv_set V).2.2.2) (hs : V.2.1.Pairwise (· < ·)) (hm : ∀ n ∈ V.2.1, n < V.1) (hr : ∀ n, (V.2.2.2 n).length ≤ 300) (hN : V.1 ≤ N) : vv_I N (vv_set V) := by
  refine ⟨hcv, hs.filter _, fun n hn => hm n (sv_mem.mp hn).1, fun n => ?_, hN⟩
  show (if n ∈ sv_T V.2.1 V.2.2.1 V.2.2.2 then V.2.2.2 n else []).length ≤ 300
  by_cases h : n ∈ sv_T V.2.1 V.2.2.1 V.2.2.2
  · rw [if_pos h]
    exact hr n
  · rw [if_neg h]
    exact Nat.zero_le _
/-- the class holds V -/
def cs_V (E : gk_E) (M : gh_M) (h0 : Nat) (V : vv_V) : Prop := ∃ (G : cs_G) (cT cU cR : Nat) (hld : Nat → Int32) (rch : Nat → Bool), cs_R E M h0 G V.1 V.2.1 [] [] cT cU cR V.2.2.1 V.2.2.2 hld rch ∧ cT ≤ 780 ∧ cU ≤ 780 ∧ cR ≤ 780 ∧ ∀ n ∈ V.2.1, hld n = nI ((hd_all V.2.1 V.2.2.1 V.2.2.2).count n)
theorem sf_rg {j len : Nat} {k : Int32} (hl : len < 2 ^ 31) (hj : j < len) (hk : k = nI j) : sf_T (List.range len) k = some j := sf_of (fun n hn => by have := List.mem_range.mp hn; omega) (List.mem_range.mpr hj) hk
theorem sf_rn {len : Nat} {k : Int32} (h : ∀ j, j < len → k ≠ nI j) : sf_T (List.range len) k = none := sf_none (fun n hn => h n (List.mem_range.mp hn))
