/-! what each change leaves -/
def op_C (T : List Nat) (root' : Nat → Option Nat) (row' : Nat → List it_I) (hld : Nat → Int32) (x b : Option Nat) : Prop :=
    (cl_ru T.length 0 (row', cl_lose (cl_hold hld x, []) b)).2.2.length ≤ T.length ∧
    (cl_rem T (row', cl_lose (cl_hold hld x, []) b)).1 = sv_T T root' row' ∧ (cl_rem T (row', cl_lose (cl_hold hld x, []) b)).2.1 = (fun n => if n ∈ sv_T T root' row' then row' n else []) ∧ (cl_rem T (row', cl_lose (cl_hold hld x, []) b)).2.2.2 = [] ∧
    (∀ n ∈ sv_T T root' row', (cl_rem T (row', cl_lose (cl_hold hld x, []) b)).2.2.1 n = nI ((hd_all (sv_T T root' row') root' (fun n => if n ∈ sv_T T root' row' then row' n else [])).count n)) ∧ cv_I (sv_T T root' row') root' (fun n => if n ∈ sv_T T root' row' then row' n else [])
theorem rt_mem {root : Nat → Option Nat} {T : List Nat} {j : Nat} (hroot : ∀ n ∈ hd_roots root, n ∈ T) (hj : j < 16) {n : Nat} (h : root j = some n) : n ∈ T := hroot n (List.mem_filterMap.mpr ⟨j, List.mem_range.mpr hj, h⟩)
theorem rt_up {root : Nat → Option Nat} {T : List Nat} {j : Nat} {x : Option Nat} (hroot : ∀ n ∈ hd_roots root, n ∈ T) (hx : ∀ n, x = some n → n ∈ T) : ∀ n ∈ hd_roots (va_up root j x), n ∈ T := by
  intro n hn
  obtain ⟨k, hk, hkn⟩ := List.mem_filterMap.mp hn
  by_cases q : k = j
  · subst q
    rw [va_up_self] at hkn
    exact hx n hkn
  · rw [va_up_ne _ _ q] at hkn
    exact hroot n (List.mem_filterMap.mpr ⟨k, hk, hkn⟩)
section OP
variable {T : List Nat} {root : Nat → Option Nat} {row : Nat → List it_I} {hld : Nat → Int32}
theorem op_root (hI : cv_I T root row) (hr : ∀ n, (row n).length ≤ 300) (hTl : T.length ≤ 1000) (hh : ∀ n ∈ T, hld n = nI ((hd_all T root row).count n)) {j : Nat} (hj : j < 16) (x : Option Nat) (hx : ∀ n, x = some n → n ∈ T) : op_C T (va_up root j x) row hld x (root j) :=
  cl_op hI.1 (rt_up hI.2.1 hx) hI.2.2.1 hI.2.2.2.1 (fun n hn => rt_mem hI.2.1 hj hn) hh (fun n hn => Or.inl (hI.2.2.2.2 n hn)) (fun n => ct_root hj x n) (fun n => by have := hd_len (T := T) (root := va_up root j x) hr n; omega)
theorem hd_snoc {k : Nat} (h : row k = []) : hd_all (T ++ [k]) root row = hd_all T root row := by
  unfold hd_all
  rw [List.flatMap_append, List.flatMap_cons, List.flatMap_nil, h]
  show _ ++ (_ ++ ([] ++ [])) = _
  rw [List.append_nil, List.append_nil]
theorem hd_in (hI : cv_I T root row) {n : Nat} (h : n ∈ hd_all T root row) : n ∈ T := by
  rcases List.mem_append.mp h with q | q
  · exact hI.2.1 n q
  · obtain ⟨m, hm, hn⟩ := List.mem_flatMap.mp q
    exact hI.2.2.1 m hm n hn
theorem op_make (hI : cv_I T root row) (hr : ∀ n, (row n).length ≤ 300) (hTl : T.length ≤ 1000) (hh : ∀ n ∈ T, hld n = nI ((hd_all T root row).count n)) {j k : Nat} (hj : j < 16) (hk : k ∉ T) (hkz : hld k = nI 0) : op_C (T ++ [k]) (va_up root j (some k)) row hld (some k) (root j) := by
  have hrk := hI.2.2.2.1 k hk
  have hin : ∀ n, n ∈ T → n ∈ T ++ [k] := fun n hn => List.mem_append_left _ hn
  have hlast : k ∈ T ++ [k] := List.mem_append_right _ (List.mem_singleton.mpr rfl)
  refine cl_op (row := row) (root := root) ?_ (rt_up (fun n hn => hin n (hI.2.1 n hn)) (fun n hn => by rw [← Option.some.inj hn]; exact hlast)) (fun m hm n hn => ?_) (fun n hn => hI.2.2.2.1 n (fun q => hn (hin n q))) (fun n hn => hin n (rt_mem hI.2.1 hj hn)) (fun n hn => ?_) (fun n hn => ?_) (fun n => ct_root hj _ n) (fun n => by have := hd_len (T := T ++ [k]) (root := va_up root j (some k)) hr n; rw [List.length_append, List.length_singleton] at this; omega)
  · refine List.nodup_append.mpr ⟨hI.1, List.nodup_cons.mpr ⟨fun q => (by cases q), List.nodup_nil⟩, fun a ha b hb => ?_⟩
    rw [List.mem_singleton.mp hb]
    exact fun q => hk (q ▸ ha)
  · rcases List.mem_append.mp hm with q | q
    · exact hin n (hI.2.2.1 m q n hn)
    · rw [List.mem_singleton.mp q, hrk] at hn
      cases hn
  · rw [hd_snoc hrk]
    rcases List.mem_append.mp hn with q | q
    · exact hh n q
    · rw [List.mem_singleton.mp q, hkz, List.count_eq_zero_of_not_mem (fun q => hk (hd_in hI q))]
  · rw [hd_snoc hrk]
    rcases List.mem_append.mp hn with q | q
    · exact Or.inl (hI.2.2.2.2 n q)
    · exact Or.inr (by rw [List.mem_singleton.mp q])
theorem ct_rowx {n : Nat} (hd : T.Nodup) (hn : n ∈ T) (r' : List it_I) (k : Nat) : (hd_all T root (va_up row n r')).count k + (hd_row (row n)).count k = (hd_all T root row).count k + (hd_row r').count k := by
  have h1 := ct_up (fun m => hd_row (row m)) n (hd_row r') k T hd hn
  have e : (fun m => hd_row (va_up row n r' m)) = va_up (fun m => hd_row (row m)) n (hd_row r') := by
    funext m
    by_cases hm : m = n
    · subst hm
      rw [va_up_self, va_up_self]
    · rw [va_up_ne _ _ hm, va_up_ne _ _ hm]
  unfold hd_all
  rw [List.count_append, List.count_append, e]
  have h1 : (List.flatMap (va_up (fun m => hd_row (row m)) n (hd_row r')) T).count k + (hd_row (row n)).count k = (List.flatMap (fun m => hd_row (row m)) T).count k + (hd_row r').count k := h1
  omega
theorem rw_len {n : Nat} {r' : List it_I} (hr : ∀ n, (row n).length ≤ 300) (hr' : r'.length ≤ 300) : ∀ k, (va_up row n r' k).length ≤ 300 := by
  intro k
  by_cases q : k = n
  · subst q
    rw [va_up_self]
    exact hr'
  · rw [va_up_ne _ _ q]
    exact hr k
theorem rw_in {n : Nat} {r' : List it_I} (h : ∀ m ∈ T, ∀ n ∈ hd_row (row m), n ∈ T) (hx : ∀ q ∈ hd_row r', q ∈ T) : ∀ m ∈ T, ∀ k ∈ hd_row (va_up row n r' m), k ∈ T := by
  intro m hm k hk
  by_cases q : m = n
  · subst q
    rw [va_up_self] at hk
    exact hx k hk
  · rw [va_up_ne _ _ q] at hk
    exact h m hm k hk
theorem rw_out {n : Nat} {r' : List it_I} (hn : n ∈ T) (h : ∀ n, n ∉ T → row n = []) : ∀ k, k ∉ T → va_up row n r' k = [] := by
  intro k hk
  rw [va_up_ne row r' (show k ≠ n from fun q => hk (q ▸ hn))]
  exact h k hk
theorem op_row (hI : cv_I T root row) (hr : ∀ n, (row n).length ≤ 300) (hTl : T.length ≤ 1000) (hh : ∀ n ∈ T, hld n = nI ((hd_all T root row).count n)) {n : Nat} (hn : n ∈ T) {r' : List it_I} (hr' : r'.length ≤ 300) {x b : Option Nat} (hx : ∀ q ∈ hd_row r', q ∈ T) (hb : ∀ q, b = some q → q ∈ T) (hc : ∀ k, (hd_row r').count k + (if b = some k then 1 else 0) = (hd_row (row n)).count k + (if x = some k then 1 else 0)) : op_C T root (va_up row n r') hld x b :=
  cl_op hI.1 hI.2.1 (rw_in hI.2.2.1 hx) (rw_out hn hI.2.2.2.1) hb hh (fun k hk => Or.inl (hI.2.2.2.2 k hk)) (fun k => by have := ct_rowx (root := root) (row := row) hI.1 hn r' k; have := hc k; omega) (fun k => by have := hd_len (T := T) (root := root) (rw_len (n := n) hr hr') k; omega)
theorem op_app (hI : cv_I T root row) (hh : ∀ n ∈ T, hld n = nI ((hd_all T root row).count n)) {n : Nat} (hn : n ∈ T) {x : it_I} (hx : ∀ q, x.1 = some q → q ∈ T) : (∀ k ∈ T, cl_hold hld x.1 k = nI ((hd_all T root (va_up row n (row n ++ [x]))).count k)) ∧ cv_I T root (va_up row n (row n ++ [x])) := by
  have hc : ∀ k, (hd_all T root (va_up row n (row n ++ [x]))).count k = (hd_all T root row).count k + (if x.1 = some k then 1 else 0) := by
    intro k
    have h1 := ct_rowx (root := root) (row := row) hI.1 hn (row n ++ [x]) k
    rw [ct_app] at h1
    omega
  refine ⟨fun k hk => ?_, hI.1, hI.2.1, rw_in hI.2.2.1 (fun q hq => ?_), rw_out hn hI.2.2.2.1, fun k hk => ?_⟩
  · rw [hc k]
    cases hx1 : x.1 with
    | none =>
      rw [if_neg (fun q => by cases q), Nat.add_zero]
      exact hh k hk
    | some q =>
      show va_up hld q (hld q + 1) k = _
      by_cases e : k = q
      · subst e
        rw [va_up_self, if_pos rfl, hh k hk, nI_1]
      · rw [va_up_ne _ _ e, if_neg (fun h => e (Option.some.inj h).symm), Nat.add_zero]
        exact hh k hk
  · unfold hd_row at hq
    rw [List.filterMap_append] at hq
    rcases List.mem_append.mp hq with h | h
    · exact hI.2.2.1 n hn q h
    · obtain ⟨y, hy, hyq⟩ := List.mem_filterMap.mp h
      rw [List.mem_singleton.mp hy] at hyq
      exact hx q hyq
  · rw [hc k]
    have := hI.2.2.2.2 k hk
    omega
theorem op_turn (hI : cv_I T root row) (hr : ∀ n, (row n).length ≤ 300) (hTl : T.length ≤ 1000) (hh : ∀ n ∈ T, hld n = nI ((hd_all T root row).count n)) {n j q : Nat} {x : it_I} (hn : n ∈ T) (hj : (row n)[j]? = some x) (hq : q ∈ T) : op_C T root (va_up row n ((row n).set j (some q, 0))) hld (some q) x.1 := by
  refine op_row hI hr hTl hh hn (by rw [List.length_set]; exact hr n) (fun k hk => ?_) (fun k hk => hI.2.2.1 n hn k (List.mem_filterMap.mpr ⟨x, List.mem_of_getElem? hj, hk⟩)) (fun k => ct_set k (row n) j x (some q, 0) hj)
  obtain ⟨y, hy, hyk⟩ := List.mem_filterMap.mp hk
  rcases List.mem_or_eq_of_mem_set hy with h | h
  · exact hI.2.2.1 n hn k (List.mem_filterMap.mpr ⟨y, h, hyk⟩)
  · rw [h] at hyk
    rw [← Option.some.inj hyk]
    exact hq
theorem op_take (hI : cv_I T root row) (hr : ∀ n, (row n).length ≤ 300) (hTl : T.length ≤ 1000) (hh : ∀ n ∈ T, hld n = nI ((hd_all T root row).count n)) {n j : Nat} {x : it_I} (hn : n ∈ T) (hj : (row n)[j]? = some x) : op_C T root (va_up row n ((row n).eraseIdx j)) hld none x.1 := by
  have hjl : j < (row n).length := (List.getElem?_eq_some_iff.mp hj).1
  refine op_row hI hr hTl hh hn (by rw [List.length_eraseIdx_of_lt hjl]; have := hr n; omega) (fun k hk => ?_) (fun k hk => hI.2.2.1 n hn k (List.mem_filterMap.mpr ⟨x, List.mem_of_getElem? hj, hk⟩)) (fun k => by have := ct_erase k (row n) j x hj; rw [if_neg (c := (none : Option Nat) = some k) (fun q => by cases q)]; omega)
  obtain ⟨y, hy, hyk⟩ := List.mem_filterMap.mp hk
  exact hI.2.2.1 n hn k (List.mem_filterMap.mpr ⟨y, List.mem_of_mem_eraseIdx hy, hyk⟩)
end OP
/-! what always holds stays -/
theorem vv_put {N : Nat} {V : vv_V} (hI : vv_I N V) (hN : N ≤ 512) {j : Nat} (hj : j < 16) (x : Option Nat) (hx : ∀ n, x = some n → n ∈ V.2.1) : vv_I N (vq_put V j x).2 := by
  have hl := vv_len hI
  have h5 := hI.2.2.2.2
  exact vv_set_I (op_root (hld := fun n => nI ((hd_all V.2.1 V.2.2.1 V.2.2.2).count n)) hI.1 hI.2.2.2.1 (by omega) (fun n _ => rfl) hj x hx).2.2.2.2.2 hI.2.1 hI.2.2.1 hI.2.2.2.1 hI.2.2.2.2
theorem vv_root {N : Nat} {V : vv_V} (hI : vv_I N V) (hN : N ≤ 512) (r o : Int32) : vv_I N (vq_root V r o).2 := by
  unfold vq_root
  cases h1 : sf_T (List.range 16) r with
  | none => exact hI
  | some j =>
    dsimp only
    have hj := List.mem_range.mp (sf_some h1).1
    by_cases ho : o = -1
    · rw [if_pos ho]
      exact vv_put hI hN hj none (fun n hn => by cases hn)
    · rw [if_neg ho]
      cases h2 : sf_T V.2.1 o with
      | none => exact hI
      | some n => exact vv_put hI hN hj (some n) (fun k hk => by rw [← Option.some.inj hk]; exact (sf_some h2).1)
theorem sd_snoc {T : List Nat} {k : Nat} (h : T.Pairwise (· < ·)) (hk : ∀ n ∈ T, n < k) : (T ++ [k]).Pairwise (· < ·) :=
  List.pairwise_append.mpr ⟨h, List.pairwise_singleton _ _, fun a ha b hb => by rw [List.mem_singleton.mp hb]; exact hk a ha⟩
theorem vv_make {N : Nat} {V : vv_V} (hI : vv_I N V) (hN : N < 512) (r : Int32) : vv_I (N + 1) (vq_make V r).2 := by
  have hl := vv_len hI
  have h5 := hI.2.2.2.2
  unfold vq_make
  cases h1 : sf_T (List.range 16) r with
  | none => exact ⟨hI.1, hI.2.1, hI.2.2.1, hI.2.2.2.1, Nat.le_succ_of_le hI.2.2.2.2⟩
  | some j =>
    dsimp only
    have hj := List.mem_range.mp (sf_some h1).1
    have hk : V.1 ∉ V.2.1 := fun q => Nat.lt_irrefl _ (hI.2.2.1 _ q)
    refine vv_set_I (V := (V.1 + 1, V.2.1 ++ [V.1], va_up V.2.2.1 j (some V.1), V.2.2.2)) (op_make (hld := va_up (fun n => nI ((hd_all V.2.1 V.2.2.1 V.2.2.2).count n)) V.1 (nI 0)) hI.1 hI.2.2.2.1 (by omega) (fun n hn => va_up_ne _ _ (fun q => hk (q ▸ hn))) hj hk (va_up_self _ _ _)).2.2.2.2.2 (sd_snoc hI.2.1 hI.2.2.1) (fun n hn => ?_) hI.2.2.2.1 (Nat.succ_le_succ h5)
    rcases List.mem_append.mp hn with q | q
    · exact Nat.lt_succ_of_lt (hI.2.2.1 n q)
    · rw [List.mem_singleton.mp q]
      exact Nat.lt_succ_self _
theorem vv_app {N : Nat} {V : vv_V} (hI : vv_I N V) {n : Nat} (hn : n ∈ V.2.1) {x : it_I} (hx : ∀ q, x.1 = some q → q ∈ V.2.1) : vv_I N (vq_app V n x).2 := by
  unfold vq_app
  by_cases h : 300 ≤ (V.2.2.2 n).length
  · rw [if_pos h]
    exact hI
  · rw [if_neg h]
    exact ⟨(op_app (hld := fun n => nI ((hd_all V.2.1 V.2.2.1 V.2.2.2).count n)) hI.1 (fun n _ => rfl) hn hx).2, hI.2.1, hI.2.2.1, rw_len hI.2.2.2.1 (by rw [List.length_append, List.length_singleton]; omega), hI.2.2.2.2⟩
theorem vv_note {N : Nat} {V : vv_V} (hI : vv_I N V) (o v : Int32) : vv_I N (vq_note V o v).2 := by
  unfold vq_note
  cases h1 : sf_T V.2.1 o with
  | none => exact hI
  | some n => exact vv_app hI (sf_some h1).1 (fun q h => by cases h)
theorem vv_point {N : Nat} {V : vv_V} (hI : vv_I N V) (o i : Int32) : vv_I N (vq_point V o i).2 := by
  unfold vq_point
  cases h1 : sf_T V.2.1 o with
  | none => exact hI
  | some n =>
    dsimp only
    cases h2 : sf_T V.2.1 i with
    | none => exact hI
    | some k => exact vv_app hI (sf_some h1).1 (fun q h => by rw [← Option.some.inj h]; exact (sf_some h2).1)
theorem vv_turn {N : Nat} {V : vv_V} (hI : vv_I N V) (hN : N ≤ 512) (o k i : Int32) : vv_I N (vq_turn V o k i).2 := by
  have hl := vv_len hI
  have h5 := hI.2.2.2.2
  unfold vq_turn
  cases h1 : sf_T V.2.1 o with
  | none => exact hI
  | some n =>
    dsimp only
    cases h2 : sf_T V.2.1 i with
    | none => exact hI
    | some q =>
      dsimp only
      cases h3 : sf_T (List.range (V.2.2.2 n).length) k with
      | none => exact hI
      | some j =>
        have hj := List.mem_range.mp (sf_some h3).1
        exact vv_set_I (op_turn (hld := fun n => nI ((hd_all V.2.1 V.2.2.1 V.2.2.2).count n)) hI.1 hI.2.2.2.1 (by omega) (fun n _ => rfl) (sf_some h1).1 (List.getElem?_eq_getElem hj) (sf_some h2).1).2.2.2.2.2 hI.2.1 hI.2.2.1 (rw_len hI.2.2.2.1 (by rw [List.length_set]; exact hI.2.2.2.1 n)) hI.2.2.2.2
theorem vv_take {N : Nat} {V : vv_V} (hI : vv_I N V) (hN : N ≤ 512) (o k : Int32) : vv_I N (vq_take V o k).2 := by
  have hl := vv_len hI
  have h5 := hI.2.2.2.2
  unfold vq_take
  cases h1 : sf_T V.2.1 o with
  | none => exact hI
  | some n =>
    dsimp only
    cases h3 : sf_T (List.range (V.2.2.2 n).length) k with
    | none => exact hI
    | some j =>
      have hj := List.mem_range.mp (sf_some h3).1
      exact vv_set_I (op_take (hld := fun n => nI ((hd_all V.2.1 V.2.2.1 V.2.2.2).count n)) hI.1 hI.2.2.2.1 (by omega) (fun n _ => rfl) (sf_some h1).1 (List.getElem?_eq_getElem hj)).2.2.2.2.2 hI.2.1 hI.2.2.1 (rw_len hI.2.2.2.1 (by rw [List.length_eraseIdx_of_lt hj]; have := hI.2.2.2.1 n; omega)) hI.2.2.2.2
theorem vv_collect {N : Nat} {V : vv_V} (hI : vv_I N V) (hN : N ≤ 512) : vv_I N (vq_collect V).2 := by
  have hl := vv_len hI
  have h5 := hI.2.2.2.2
  have hm := cl_marked (rch := fun _ => false) hI.1.1 hI.1.2.1 hI.1.2.2.1
  have hc := cl_collect (hld := fun n => nI ((hd_all V.2.1 V.2.2.1 V.2.2.2).count n)) hI.1 (fun n _ => rfl) (fun n => by have := hd_len (T := V.2.1) (root := V.2.2.1) hI.2.2.2.1 n; omega) hm.2
  refine ⟨hc.2.2.2.2.2.2, hI.2.1.filter _, fun n hn => hI.2.2.1 n (rd_mem.mp hn).1, fun n => ?_, hI.2.2.2.2⟩
  show (if n ∈ rd_T V.2.1 V.2.2.1 V.2.2.2 then V.2.2.2 n else []).length ≤ 300
  by_cases h : n ∈ rd_T V.2.1 V.2.2.1 V.2.2.2
  · rw [if_pos h]
    exact hI.2.2.2.1 n
  · rw [if_neg h]
    exact Nat.zero_le _
def vv_0 : vv_V := (0, [], fun _ => none, fun _ => [])
theorem vv_I0 : vv_I 0 vv_0 := by
  refine ⟨⟨List.nodup_nil, fun n hn => ?_, fun m hm => (by cases hm), fun n _ => rfl, fun n hn => (by cases hn)⟩, List.Pairwise.nil, fun n hn => (by cases hn), fun n => Nat.zero_le _, Nat.le_refl _⟩
  obtain ⟨k, -, hk⟩ := List.mem_filterMap.mp hn
  cases hk
/-! the class, after -/
theorem cs_V_of {E : gk_E} {M : gh_M} {h0 made cT c2 cR : Nat} {G : cs_G} {T : List Nat} {root' : Nat → Option Nat} {row' : Nat → List it_I} {hld : Nat → Int32} {rch : Nat → Bool} {x b : Option Nat} (hop : op_C T root' row' hld x b) (h : cs_R E M h0 G made (cl_rem T (row', cl_lose (cl_hold hld x, []) b)).1 (cl_rem T (row', cl_lose (cl_hold hld x, []) b)).2.2.2 [] cT c2 cR root' (cl_rem T (row', cl_lose (cl_hold hld x, []) b)).2.1 (cl_rem T (row', cl_lose (cl_hold hld x, []) b)).2.2.1 rch) (hcT : cT ≤ 780) (hc2 : c2 ≤ 780) (hcR : cR ≤ 780) : cs_V E M h0 (vv_set (made, T, root', row')) ∧ M h0 = some (1, .inr (1, [.ref G.2.2.1, .ref G.2.2.2.1, .ref G.2.2.2.2.1, .ref G.2.2.2.2.2, .int (nI made)])) ∧ al_L E M 3 G.2.2.2.1 cT ((vv_set (made, T, root', row')).2.1.map G.1) := by
  obtain ⟨-, h1, h2, h3, h4, -⟩ := hop
  rw [h1, h2, h3] at h
  exact ⟨⟨G, cT, c2, cR, _, rch, h, hcT, hc2, hcR, h4⟩, h.1, h.2.2.1⟩
