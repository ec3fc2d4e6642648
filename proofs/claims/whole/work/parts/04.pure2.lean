/-! pure: what can be reached; the class's collection -/
def rd_P (root : Nat → Option Nat) (row : Nat → List it_I) (n : Nat) : Prop := ∀ S : Nat → Prop, (∀ k ∈ hd_roots root, S k) → (∀ m, S m → ∀ k ∈ hd_row (row m), S k) → S n
noncomputable def rd_T (T : List Nat) (root : Nat → Option Nat) (row : Nat → List it_I) : List Nat := T.filter (fun n => @decide (rd_P root row n) (Classical.propDecidable _))
theorem rd_mem {T : List Nat} {root : Nat → Option Nat} {row : Nat → List it_I} {n : Nat} : n ∈ rd_T T root row ↔ n ∈ T ∧ rd_P root row n := by
  unfold rd_T
  rw [List.mem_filter]
  simp
theorem rd_filter {T : List Nat} {root : Nat → Option Nat} {row : Nat → List it_I} {P : Nat → Bool} (h : ∀ n ∈ T, P n = true ↔ rd_P root row n) : T.filter P = rd_T T root row := by
  unfold rd_T
  refine List.filter_congr (fun n hn => ?_)
  rw [Bool.eq_iff_iff, h n hn]
  simp
theorem rd_root {root : Nat → Option Nat} {row : Nat → List it_I} {n : Nat} (h : n ∈ hd_roots root) : rd_P root row n := fun _ h1 _ => h1 n h
theorem rd_next {root : Nat → Option Nat} {row : Nat → List it_I} {m n : Nat} (h : rd_P root row m) (hn : n ∈ hd_row (row m)) : rd_P root row n := fun S h1 h2 => h2 m (h S h1 h2) n hn
def cl_reach (a : (Nat → Bool) × List Nat) (x : Option Nat) : (Nat → Bool) × List Nat := match x with
  | none => a
  | some n => if a.1 n = true then a else (va_up a.1 n true, a.2 ++ [n])
def cl_mr (row : Nat → List it_I) : Nat → Nat → (Nat → Bool) × List Nat → (Nat → Bool) × List Nat
  | 0, _, a => a
  | f + 1, i, a => match a.2[i]? with
    | none => a
    | some u => cl_mr row f (i + 1) ((row u).foldl (fun a x => cl_reach a x.1) a)
def cl_mark (T : List Nat) (root : Nat → Option Nat) (row : Nat → List it_I) (rch : Nat → Bool) : (Nat → Bool) × List Nat :=
  cl_mr row T.length 0 ((List.range 16).foldl (fun a r => cl_reach a (root r)) (fun n => if n ∈ T then false else rch n, []))
/-- the list has just those of T that are marked -/
def mk_C (T : List Nat) (a : (Nat → Bool) × List Nat) : Prop := a.2.Nodup ∧ ∀ n, n ∈ T → (n ∈ a.2 ↔ a.1 n = true)
theorem mk_reach {T : List Nat} {a : (Nat → Bool) × List Nat} {x : Option Nat} (hx : ∀ n, x = some n → n ∈ T) (h : mk_C T a) : mk_C T (cl_reach a x) ∧ (∃ X, (cl_reach a x).2 = a.2 ++ X) ∧ (∀ n, n ∈ (cl_reach a x).2 ↔ n ∈ a.2 ∨ x = some n) := by
  cases x with
  | none => exact ⟨h, ⟨[], (List.append_nil _).symm⟩, fun n => ⟨Or.inl, fun q => q.elim id (fun q => by cases q)⟩⟩
  | some z =>
    have hz := hx z rfl
    unfold cl_reach
    by_cases hm : a.1 z = true
    · simp only [hm, if_true]
      refine ⟨h, ⟨[], (List.append_nil _).symm⟩, fun n => ⟨Or.inl, fun q => q.elim id (fun q => ?_)⟩⟩
      rw [← Option.some.inj q]
      exact (h.2 z hz).mpr hm
    · simp only [hm]
      have hza : z ∉ a.2 := fun q => hm ((h.2 z hz).mp q)
      refine ⟨⟨?_, fun n hn => ?_⟩, ⟨[z], rfl⟩, fun n => ?_⟩
      · show (a.2 ++ [z]).Nodup
        rw [List.nodup_append]
        refine ⟨h.1, nd_one _, fun b hb d hd q => ?_⟩
        rw [List.mem_singleton] at hd
        subst hd
        subst q
        exact hza hb
      · show n ∈ a.2 ++ [z] ↔ va_up a.1 z true n = true
        by_cases hnz : n = z
        · subst hnz
          rw [va_up_self]
          exact ⟨fun _ => rfl, fun _ => List.mem_append_right _ List.mem_cons_self⟩
        · rw [va_up_ne _ _ hnz, ← h.2 n hn, List.mem_append]
          exact ⟨fun q => q.elim id (fun q => absurd (List.mem_singleton.mp q) hnz), Or.inl⟩
      · show n ∈ a.2 ++ [z] ↔ _
        rw [List.mem_append, List.mem_singleton]
        exact ⟨fun q => q.elim Or.inl (fun q => Or.inr (by rw [q])), fun q => q.elim Or.inl (fun q => Or.inr (Option.some.inj q).symm)⟩
theorem mk_fold {α : Type} {T : List Nat} (g : α → Option Nat) : ∀ (r : List α) (a : (Nat → Bool) × List Nat), (∀ x ∈ r, ∀ n, g x = some n → n ∈ T) → mk_C T a →
    mk_C T (r.foldl (fun a x => cl_reach a (g x)) a) ∧ (∃ X, (r.foldl (fun a x => cl_reach a (g x)) a).2 = a.2 ++ X) ∧ (∀ n, n ∈ (r.foldl (fun a x => cl_reach a (g x)) a).2 ↔ n ∈ a.2 ∨ n ∈ r.filterMap g)
  | [], a, _, h => ⟨h, ⟨[], (List.append_nil _).symm⟩, fun n => ⟨Or.inl, fun q => q.elim id (fun q => by cases q)⟩⟩
  | x :: r, a, hg, h => by
    obtain ⟨h1, ⟨X, hX⟩, h2⟩ := mk_reach (x := g x) (hg x List.mem_cons_self) h
    obtain ⟨h3, ⟨Y, hY⟩, h4⟩ := mk_fold g r (cl_reach a (g x)) (fun y hy => hg y (List.mem_cons_of_mem _ hy)) h1
    rw [List.foldl_cons]
    refine ⟨h3, ⟨X ++ Y, by rw [hY, hX, List.append_assoc]⟩, fun n => ?_⟩
    rw [h4 n, h2 n, List.filterMap_cons]
    cases hgx : g x with
    | none => simp
    | some z =>
      simp only [List.mem_cons, Option.some.injEq]
      constructor
      · rintro ((q | q) | q)
        · exact Or.inl q
        · exact Or.inr (Or.inl q.symm)
        · exact Or.inr (Or.inr q)
      · rintro (q | q | q)
        · exact Or.inl (Or.inl q)
        · exact Or.inl (Or.inr q.symm)
        · exact Or.inr q
theorem mk_mr {T : List Nat} {root : Nat → Option Nat} {row : Nat → List it_I} (hrow : ∀ m ∈ T, ∀ n ∈ hd_row (row m), n ∈ T) : ∀ (f i : Nat) (a : (Nat → Bool) × List Nat), T.length ≤ f + i → mk_C T a → (∀ n ∈ a.2, n ∈ T ∧ rd_P root row n) → (∀ n ∈ hd_roots root, n ∈ a.2) → (∀ (j u : Nat), j < i → a.2[j]? = some u → ∀ n ∈ hd_row (row u), n ∈ a.2) →
    mk_C T (cl_mr row f i a) ∧ (∀ n ∈ (cl_mr row f i a).2, n ∈ T ∧ rd_P root row n) ∧ (∀ n ∈ hd_roots root, n ∈ (cl_mr row f i a).2) ∧ ∀ u ∈ (cl_mr row f i a).2, ∀ n ∈ hd_row (row u), n ∈ (cl_mr row f i a).2
  | 0, i, a, hf, h, ha, hr, hp => by
    refine ⟨h, ha, hr, fun u hu n hn => ?_⟩
    obtain ⟨j, hj2⟩ := List.getElem?_of_mem hu
    have hl : a.2.length ≤ T.length := nd_le _ _ h.1 (fun n hn => (ha n hn).1)
    have hjl : j < a.2.length := (List.getElem?_eq_some_iff.mp hj2).1
    exact hp j u (by omega) hj2 n hn
  | f + 1, i, a, hf, h, ha, hr, hp => by
    unfold cl_mr
    cases hi : a.2[i]? with
    | none =>
      refine ⟨h, ha, hr, fun u hu n hn => ?_⟩
      obtain ⟨j, hj2⟩ := List.getElem?_of_mem hu
      have hjl : j < a.2.length := (List.getElem?_eq_some_iff.mp hj2).1
      have hil := List.getElem?_eq_none_iff.mp hi
      exact hp j u (by omega) hj2 n hn
    | some u =>
      have hu : u ∈ a.2 := List.mem_of_getElem? hi
      have huT := ha u hu
      have hg : ∀ x ∈ row u, ∀ n, (fun x : it_I => x.1) x = some n → n ∈ T := fun x hx n hn => hrow u huT.1 n (List.mem_filterMap.mpr ⟨x, hx, hn⟩)
      obtain ⟨h1, ⟨X, hX⟩, h2⟩ := mk_fold (fun x : it_I => x.1) (row u) a hg h
      refine mk_mr hrow f (i + 1) _ (by omega) h1 (fun n hn => ?_) (fun n hn => (h2 n).mpr (Or.inl (hr n hn))) (fun j w hj hw n hn => ?_)
      · rcases (h2 n).mp hn with q | q
        · exact ha n q
        · exact ⟨hrow u huT.1 n q, rd_next huT.2 q⟩
      · have hil : i < a.2.length := (List.getElem?_eq_some_iff.mp hi).1
        rw [hX, List.getElem?_append_left (by omega)] at hw
        rw [h2]
        rcases Nat.lt_or_ge j i with q | q
        · exact Or.inl (hp j w q hw n hn)
        · have : j = i := by omega
          subst this
          rw [hi] at hw
          rw [← Option.some.inj hw] at hn
          exact Or.inr hn
theorem cl_marked {T : List Nat} {root : Nat → Option Nat} {row : Nat → List it_I} {rch : Nat → Bool} (hd : T.Nodup) (hroot : ∀ n ∈ hd_roots root, n ∈ T) (hrow : ∀ m ∈ T, ∀ n ∈ hd_row (row m), n ∈ T) :
    (cl_mark T root row rch).2.length ≤ T.length ∧ ∀ n ∈ T, (cl_mark T root row rch).1 n = true ↔ rd_P root row n := by
  have h0 : mk_C T (fun n => if n ∈ T then false else rch n, []) := ⟨List.nodup_nil, fun n hn => ⟨fun q => (by cases q), fun q => by simp [hn] at q⟩⟩
  obtain ⟨h1, -, h2⟩ := mk_fold root (List.range 16) _ (fun x hx n hn => hroot n (List.mem_filterMap.mpr ⟨x, hx, hn⟩)) h0
  obtain ⟨h3, h4, h5, h6⟩ := mk_mr (root := root) hrow T.length 0 _ (Nat.le_refl _) h1 (fun n hn => by
    rcases (h2 n).mp hn with q | q
    · cases q
    · exact ⟨hroot n q, rd_root q⟩) (fun n hn => (h2 n).mpr (Or.inr hn)) (fun j u hj => by omega)
  refine ⟨nd_le _ _ h3.1 (fun n hn => (h4 n hn).1), fun n hn => ?_⟩
  have := h3.2 n hn
  unfold cl_mark
  rw [← this]
  exact ⟨fun q => (h4 n q).2, fun q => q (fun k => k ∈ _) h5 h6⟩
def cl_sweep (T : List Nat) (rch : Nat → Bool) (st : cl_S) : cl_S := T.foldl (fun st n => if rch n = true then st else cl_drop st n) st
theorem cl_swept {T : List Nat} {root : Nat → Option Nat} (hd : T.Nodup) (rch : Nat → Bool) : ∀ (X : List Nat) (st : cl_S), (∀ n ∈ X, n ∈ T) → rc_C T root st → rc_C T root (cl_sweep X rch st) ∧ ∀ n, (cl_sweep X rch st).1 n = if n ∈ X ∧ rch n = false then [] else st.1 n
  | [], st, _, h => ⟨h, fun n => by rw [if_neg (fun q => by cases q.1)]; rfl⟩
  | a :: X, st, hX, h => by
    unfold cl_sweep
    rw [List.foldl_cons]
    cases hr : rch a with
    | true =>
      rw [if_pos rfl]
      obtain ⟨h1, h2⟩ := cl_swept hd rch X st (fun n hn => hX n (List.mem_cons_of_mem _ hn)) h
      refine ⟨h1, fun n => ?_⟩
      rw [show (List.foldl (fun st n => if rch n = true then st else cl_drop st n) st X) = cl_sweep X rch st from rfl, h2 n]
      by_cases hna : n = a
      · subst hna
        rw [if_neg (fun q => by rw [hr] at q; cases q.2), if_neg (fun q => by rw [hr] at q; cases q.2)]
      · by_cases hc : n ∈ X ∧ rch n = false
        · rw [if_pos hc, if_pos ⟨List.mem_cons_of_mem _ hc.1, hc.2⟩]
        · rw [if_neg hc, if_neg (fun q => hc ⟨(List.mem_cons.mp q.1).resolve_left hna, q.2⟩)]
    | false =>
      rw [if_neg (fun q => by cases q)]
      obtain ⟨row, hU⟩ := st
      have hk := (rc_drop hd (hX a List.mem_cons_self) (fun _ => True) (fun _ _ _ _ _ _ _ _ => trivial) (row a) row hU rfl h trivial).1
      obtain ⟨h1, h2⟩ := cl_swept hd rch X (cl_drop (row, hU) a) (fun n hn => hX n (List.mem_cons_of_mem _ hn)) hk
      refine ⟨h1, fun n => ?_⟩
      rw [show (List.foldl (fun st n => if rch n = true then st else cl_drop st n) (cl_drop (row, hU) a) X) = cl_sweep X rch (cl_drop (row, hU) a) from rfl, h2 n]
      have e : (cl_drop (row, hU) a).1 n = va_up row a [] n := rfl
      rw [e]
      by_cases hna : n = a
      · subst hna
        rw [va_up_self, if_pos (⟨List.mem_cons_self, hr⟩ : n ∈ n :: X ∧ rch n = false)]
        exact ite_self _
      · rw [va_up_ne _ _ hna]
        by_cases hc : n ∈ X ∧ rch n = false
        · rw [if_pos hc, if_pos ⟨List.mem_cons_of_mem _ hc.1, hc.2⟩]
        · rw [if_neg hc, if_neg (fun q => hc ⟨(List.mem_cons.mp q.1).resolve_left hna, q.2⟩)]
/-- the class's collection -/
theorem cl_collect {T : List Nat} {root : Nat → Option Nat} {row : Nat → List it_I} {hld : Nat → Int32} {rch : Nat → Bool} (hI : cv_I T root row) (hh : ∀ n ∈ T, hld n = nI ((hd_all T root row).count n)) (h5 : ∀ n, (hd_all T root row).count n < 2 ^ 31) (hm : ∀ n ∈ T, rch n = true ↔ rd_P root row n) :
    (cl_sweep T rch (row, hld, [])).2.2.length ≤ T.length ∧ (cl_ru T.length 0 (cl_sweep T rch (row, hld, []))).2.2.length ≤ T.length ∧
    (cl_rem T (cl_sweep T rch (row, hld, []))).1 = rd_T T root row ∧ (cl_rem T (cl_sweep T rch (row, hld, []))).2.1 = (fun n => if n ∈ rd_T T root row then row n else []) ∧ (cl_rem T (cl_sweep T rch (row, hld, []))).2.2.2 = [] ∧
    (∀ n ∈ rd_T T root row, (cl_rem T (cl_sweep T rch (row, hld, []))).2.2.1 n = nI ((hd_all (rd_T T root row) root (fun n => if n ∈ rd_T T root row then row n else [])).count n)) ∧ cv_I (rd_T T root row) root (fun n => if n ∈ rd_T T root row then row n else []) := by
  obtain ⟨hd, hroot, hrow, h4, hpos⟩ := hI
  have c0 : rc_C T root (row, hld, []) := ⟨hh, List.nodup_nil, fun n => ⟨fun q => (by cases q), fun q => absurd q.2 (by have := hpos n q.1; show ¬ (hd_all T root row).count n = 0; omega)⟩, hrow, h5⟩
  obtain ⟨c1, r1⟩ := cl_swept (root := root) hd rch T (row, hld, []) (fun _ h => h) c0
  generalize hst : cl_sweep T rch (row, hld, []) = st at c1 r1 ⊢
  have r1 : ∀ n, st.1 n = if n ∈ T ∧ rch n = false then [] else row n := r1
  have rT : ∀ n ∈ T, rd_P root row n → st.1 n = row n := fun n hn hr => by
    rw [r1 n, if_neg (fun q => by rw [(hm n hn).mpr hr] at q; cases q.2)]
  have rU : ∀ n ∈ T, ¬ rd_P root row n → st.1 n = [] := fun n hn hr => by
    rw [r1 n, if_pos ⟨hn, by cases q : rch n with | false => rfl | true => exact absurd ((hm n hn).mp q) hr⟩]
  have hcU : ∀ n ∈ T, (n ∈ st.2.2 ↔ ¬ rd_P root row n) := by
    intro n hn
    rw [c1.2.2.1 n]
    constructor
    · rintro ⟨-, q⟩ hr
      have : 0 < (hd_all T root st.1).count n := by
        rw [ct_held]
        refine Classical.byContradiction (fun hno => ?_)
        refine hr (fun k => k ∈ T ∧ rd_P root row k ∧ (k ∈ hd_roots root ∨ ∃ m, m ∈ T ∧ k ∈ hd_row (st.1 m))) (fun k hk => ⟨hroot k hk, rd_root hk, Or.inl hk⟩) (fun m hm' k hk => ?_) |>.2.2 |> fun z => hno z
        exact ⟨hrow m hm'.1 k hk, rd_next hm'.2.1 hk, Or.inr ⟨m, hm'.1, by rw [rT m hm'.1 hm'.2.1]; exact hk⟩⟩
      omega
    · intro hr
      refine ⟨hn, ?_⟩
      rcases Nat.eq_zero_or_pos ((hd_all T root st.1).count n) with q | q
      · exact q
      · exfalso
        rcases ct_held.mp q with q | ⟨m, hmT, hmn⟩
        · exact hr (rd_root q)
        · by_cases hrm : rd_P root row m
          · rw [rT m hmT hrm] at hmn
            exact hr (rd_next hrm hmn)
          · rw [rU m hmT hrm] at hmn
            cases hmn
  have hUT : ∀ n ∈ st.2.2, n ∈ T := fun n hn => ((c1.2.2.1 n).mp hn).1
  have hUe : ∀ u ∈ st.2.2, st.1 u = [] := fun u hu => rU u (hUT u hu) ((hcU u (hUT u hu)).mp hu)
  obtain ⟨c2, j2, e2⟩ := rc_ru hd (fun s => s = st) (fun u rw' hU x rest hu hr h hj h' => by
    have hj' : (rw', hU) = st := hj
    have h1 : u ∈ st.2.2 := by rw [← hj']; exact hu
    have h2 := hUe u h1
    rw [← hj'] at h2
    have h2 : rw' u = [] := h2
    rw [hr] at h2
    cases h2) T.length 0 st (Nat.le_refl _) c1 rfl (fun j u hj => by omega)
  have hlen := nd_le _ _ c1.2.1 hUT
  obtain ⟨k1, k2, k3, k4, k5⟩ := cl_end (row := row) (P := fun _ => True) hd hroot h4 c1 hUe (fun n hn => by
    by_cases hnT : n ∈ T
    · exact rT n hnT (Classical.byContradiction (fun q => hn ((hcU n hnT).mpr q)))
    · rw [r1 n, if_neg (fun q => hnT q.1)])
  have hrem : cl_rem T st = cl_keep T st := by
    unfold cl_rem
    rw [j2]
  have hrd : (cl_rem T st).1 = rd_T T root row := by
    rw [hrem, k1]
    refine rd_filter (fun n hn => ?_)
    rw [decide_eq_true_eq, hcU n hn]
    exact Classical.not_not
  have k2' : (cl_rem T st).2.1 = (fun n => if n ∈ rd_T T root row then row n else []) := by
    rw [← hrd, hrem]
    exact k2
  refine ⟨hlen, by rw [j2]; exact hlen, hrd, k2', by rw [hrem]; exact k3, ?_, ?_⟩
  · intro n hn
    rw [← k2']
    rw [← hrd] at hn ⊢
    rw [hrem] at hn ⊢
    exact k4 n hn
  · rw [← k2', ← hrd, hrem]
    exact k5
