/-! pure: the reference's own way: it counts anew, and works off a stack -/
def rf_inc (h : Nat → Int32) (n : Nat) : Nat → Int32 := va_up h n (h n + 1)
def rf_dec (h : Nat → Int32) (n : Nat) : Nat → Int32 := va_up h n (h n + (-1))
theorem rf_inc_all : ∀ (L : List Nat) (h : Nat → Int32) (n k : Nat), h n = nI k → (L.foldl rf_inc h) n = nI (k + L.count n)
  | [], _, _, _, e => e
  | a :: L, h, n, k, e => by
    rw [List.foldl_cons]
    by_cases ha : a = n
    · subst ha
      rw [rf_inc_all L (rf_inc h a) a (k + 1) (by unfold rf_inc; rw [va_up_self, e, nI_1]), List.count_cons_self]
      congr 1
      omega
    · rw [rf_inc_all L (rf_inc h a) n k (by unfold rf_inc; rw [va_up_ne _ _ (Ne.symm ha)]; exact e), List.count_cons_of_ne ha]
theorem rf_dec_all : ∀ (L : List Nat) (h : Nat → Int32) (n k : Nat), h n = nI (k + L.count n) → (L.foldl rf_dec h) n = nI k
  | [], _, _, _, e => e
  | a :: L, h, n, k, e => by
    rw [List.foldl_cons]
    by_cases ha : a = n
    · subst ha
      rw [List.count_cons_self] at e
      exact rf_dec_all L (rf_dec h a) a k (by
        unfold rf_dec
        rw [va_up_self, e]
        exact pk_m1 (k + L.count a))
    · rw [List.count_cons_of_ne ha] at e
      exact rf_dec_all L (rf_dec h a) n k (by unfold rf_dec; rw [va_up_ne _ _ (Ne.symm ha)]; exact e)
abbrev rf_S : Type := (Nat → Bool) × (Nat → Int32) × List Nat
def rf_gone (hol : Nat → Int32) (a : (Nat → Bool) × List Nat) (n : Nat) : (Nat → Bool) × List Nat := if a.1 n = true ∧ hol n = 0 then (va_up a.1 n false, a.2 ++ [n]) else a
def rf_pop (row : Nat → List it_I) (st : rf_S) (o : Nat) : rf_S :=
  (((hd_row (row o)).foldl (rf_gone ((hd_row (row o)).foldl rf_dec st.2.1)) (st.1, st.2.2.dropLast)).1, (hd_row (row o)).foldl rf_dec st.2.1, ((hd_row (row o)).foldl (rf_gone ((hd_row (row o)).foldl rf_dec st.2.1)) (st.1, st.2.2.dropLast)).2)
def rf_loop (row : Nat → List it_I) : Nat → rf_S → rf_S
  | 0, st => st
  | f + 1, st => match st.2.2.getLast? with
    | none => st
    | some o => rf_loop row f (rf_pop row st o)
def rf_settle (made : Nat) (row : Nat → List it_I) (ex : Nat → Bool) (hol : Nat → Int32) : rf_S :=
  rf_loop row made (((List.range made).foldl (rf_gone hol) (ex, [])).1, hol, ((List.range made).foldl (rf_gone hol) (ex, [])).2)
/-- what was there and isn't worked off -/
def rf_Y (made : Nat) (ex : Nat → Bool) (stk : List Nat) : List Nat := (List.range made).filter (fun n => ex n || decide (n ∈ stk))
theorem rf_Y_mem {made : Nat} {ex : Nat → Bool} {stk : List Nat} {n : Nat} : n ∈ rf_Y made ex stk ↔ n < made ∧ (ex n = true ∨ n ∈ stk) := by
  unfold rf_Y
  rw [List.mem_filter, List.mem_range, Bool.or_eq_true, decide_eq_true_eq]
theorem rf_Y_nd (made : Nat) (ex : Nat → Bool) (stk : List Nat) : (rf_Y made ex stk).Nodup := List.nodup_range.filter _
theorem rf_gone_all {made : Nat} (hol : Nat → Int32) : ∀ (L : List Nat) (a : (Nat → Bool) × List Nat), a.2.Nodup → (∀ n ∈ a.2, a.1 n = false) → (∀ n ∈ a.2, n < made) → (∀ n ∈ L, n < made) →
    (L.foldl (rf_gone hol) a).2.Nodup ∧ (∀ n ∈ (L.foldl (rf_gone hol) a).2, (L.foldl (rf_gone hol) a).1 n = false) ∧ (∀ n ∈ (L.foldl (rf_gone hol) a).2, n < made) ∧ (∀ n, (L.foldl (rf_gone hol) a).1 n = (a.1 n && !(decide (n ∈ L ∧ hol n = 0)))) ∧ (∀ n, n ∈ (L.foldl (rf_gone hol) a).2 ↔ n ∈ a.2 ∨ (a.1 n = true ∧ n ∈ L ∧ hol n = 0))
  | [], a, h1, h2, h3, _ => ⟨h1, h2, h3, fun n => by simp, fun n => by simp⟩
  | x :: L, a, h1, h2, h3, h4 => by
    have hx := h4 x List.mem_cons_self
    have step : (rf_gone hol a x).2.Nodup ∧ (∀ n ∈ (rf_gone hol a x).2, (rf_gone hol a x).1 n = false) ∧ (∀ n ∈ (rf_gone hol a x).2, n < made) ∧ (∀ n, (rf_gone hol a x).1 n = (a.1 n && !(decide (n = x ∧ hol n = 0)))) ∧ (∀ n, n ∈ (rf_gone hol a x).2 ↔ n ∈ a.2 ∨ (a.1 n = true ∧ n = x ∧ hol n = 0)) := by
      unfold rf_gone
      by_cases hc : a.1 x = true ∧ hol x = 0
      · rw [if_pos hc]
        have hxa : x ∉ a.2 := fun q => by rw [h2 x q] at hc; cases hc.1
        refine ⟨?_, fun n hn => ?_, fun n hn => ?_, fun n => ?_, fun n => ?_⟩
        · show (a.2 ++ [x]).Nodup
          rw [List.nodup_append]
          refine ⟨h1, nd_one _, fun b hb d hd q => ?_⟩
          rw [List.mem_singleton] at hd
          subst hd
          subst q
          exact hxa hb
        · show va_up a.1 x false n = false
          by_cases hnx : n = x
          · subst hnx
            exact va_up_self _ _ _
          · rw [va_up_ne _ _ hnx]
            rcases List.mem_append.mp hn with q | q
            · exact h2 n q
            · exact absurd (List.mem_singleton.mp q) hnx
        · rcases List.mem_append.mp hn with q | q
          · exact h3 n q
          · rw [List.mem_singleton.mp q]
            exact hx
        · show va_up a.1 x false n = _
          by_cases hnx : n = x
          · subst hnx
            rw [va_up_self]
            simp [hc.2]
          · rw [va_up_ne _ _ hnx]
            simp [hnx]
        · show n ∈ a.2 ++ [x] ↔ _
          rw [List.mem_append, List.mem_singleton]
          constructor
          · rintro (q | q)
            · exact Or.inl q
            · subst q
              exact Or.inr ⟨hc.1, rfl, hc.2⟩
          · rintro (q | q)
            · exact Or.inl q
            · exact Or.inr q.2.1
      · rw [if_neg hc]
        refine ⟨h1, h2, h3, fun n => ?_, fun n => ⟨Or.inl, fun q => q.elim id (fun q => ?_)⟩⟩
        · by_cases hnx : n = x ∧ hol n = 0
          · obtain ⟨rfl, h0⟩ := hnx
            cases ha : a.1 n with
            | false => rfl
            | true => exact absurd ⟨ha, h0⟩ hc
          · simp [hnx]
        · obtain ⟨q1, rfl, q3⟩ := q
          exact absurd ⟨q1, q3⟩ hc
    obtain ⟨s1, s2, s3, s4, s5⟩ := step
    obtain ⟨t1, t2, t3, t4, t5⟩ := rf_gone_all hol L (rf_gone hol a x) s1 s2 s3 (fun n hn => h4 n (List.mem_cons_of_mem _ hn))
    rw [List.foldl_cons]
    refine ⟨t1, t2, t3, fun n => ?_, fun n => ?_⟩
    · rw [t4 n, s4 n]
      cases a.1 n with
      | false => rfl
      | true =>
        by_cases h0 : hol n = 0
        · by_cases hx1 : n = x
          · subst hx1
            simp [h0]
          · by_cases hL : n ∈ L
            · simp [h0, hx1, hL]
            · simp [hx1, hL]
        · simp [h0]
    · rw [t5 n, s5 n, s4 n]
      by_cases h0 : hol n = 0
      · by_cases hx1 : n = x
        · subst hx1
          cases a.1 n <;> simp [h0]
        · cases a.1 n <;> simp [h0, hx1]
      · simp [h0]
/-- the work's invariant -/
def rf_J (made : Nat) (T0 : List Nat) (root : Nat → Option Nat) (row : Nat → List it_I) (st : rf_S) : Prop :=
  st.2.2.Nodup ∧ (∀ n ∈ st.2.2, st.1 n = false) ∧ (∀ n ∈ st.2.2, n < made) ∧ (∀ n, n < made → st.2.1 n = nI ((hd_all (rf_Y made st.1 st.2.2) root row).count n)) ∧ (∀ n, n < made → st.1 n = true → 0 < (hd_all (rf_Y made st.1 st.2.2) root row).count n) ∧ (∀ n, n < made → st.1 n = true → n ∈ T0) ∧ (∀ n ∈ T0, st.1 n = false → ¬ sv_P T0 root row n) ∧ (∀ n ∈ st.2.2, n ∈ T0)
theorem rf_ct_pop {made : Nat} {ex : Nat → Bool} {stk : List Nat} {o : Nat} (root : Nat → Option Nat) (row : Nat → List it_I) (n : Nat) (ho : ex o = false) (hom : o < made) (hnd : (stk ++ [o]).Nodup) :
    (hd_all (rf_Y made ex (stk ++ [o])) root row).count n = (hd_all (rf_Y made ex stk) root row).count n + (hd_row (row o)).count n := by
  have hmem : o ∈ rf_Y made ex (stk ++ [o]) := rf_Y_mem.mpr ⟨hom, Or.inr (List.mem_append_right _ List.mem_cons_self)⟩
  have hos : o ∉ stk := by
    rw [List.nodup_append] at hnd
    exact fun q => hnd.2.2 o q o List.mem_cons_self rfl
  have h1 := ct_up (fun m => hd_row (row m)) o [] n (rf_Y made ex (stk ++ [o])) (rf_Y_nd _ _ _) hmem
  have h2 : (rf_Y made ex (stk ++ [o])).flatMap (va_up (fun m => hd_row (row m)) o []) = (rf_Y made ex stk).flatMap (fun m => hd_row (row m)) := by
    have e : rf_Y made ex stk = (rf_Y made ex (stk ++ [o])).filter (fun m => decide (m ≠ o)) := by
      unfold rf_Y
      rw [List.filter_filter]
      refine List.filter_congr (fun m _ => ?_)
      by_cases hm : m = o
      · subst hm
        simp [ho, hos]
      · simp [hm]
    have e2 := fm_filter (va_up (fun m => hd_row (row m)) o []) (fun m => decide (m ≠ o)) (rf_Y made ex (stk ++ [o])) (fun m _ hp => by
      have : m = o := Classical.not_not.mp (of_decide_eq_false hp)
      rw [this, va_up_self])
    rw [← e2, ← e]
    unfold List.flatMap
    congr 1
    refine List.map_congr_left (fun m hm => ?_)
    refine va_up_ne _ _ (fun q => ?_)
    subst q
    rcases (rf_Y_mem.mp hm).2 with q | q
    · rw [ho] at q
      cases q
    · exact hos q
  unfold hd_all
  rw [List.count_append, List.count_append]
  rw [h2] at h1
  rw [List.count_nil] at h1
  omega
theorem rf_step {made : Nat} {T0 : List Nat} {root : Nat → Option Nat} {row : Nat → List it_I} {ex : Nat → Bool} {hol : Nat → Int32} {stk : List Nat} {o : Nat} (hT0 : ∀ n ∈ T0, n < made) (hrow : ∀ m ∈ T0, ∀ n ∈ hd_row (row m), n ∈ T0) (hb : ∀ n, (hd_all (rf_Y made ex (stk ++ [o])) root row).count n < 2 ^ 31) (h : rf_J made T0 root row (ex, hol, stk ++ [o])) :
    rf_J made T0 root row (rf_pop row (ex, hol, stk ++ [o]) o) ∧ (∀ n, (hd_all (rf_Y made (rf_pop row (ex, hol, stk ++ [o]) o).1 (rf_pop row (ex, hol, stk ++ [o]) o).2.2) root row).count n < 2 ^ 31) ∧
    (rf_Y made (rf_pop row (ex, hol, stk ++ [o]) o).1 (rf_pop row (ex, hol, stk ++ [o]) o).2.2).length + 1 = (rf_Y made ex (stk ++ [o])).length := by
  obtain ⟨j1, j2, j3, j4, j5, j6, j7, j8⟩ := h
  have j1 : (stk ++ [o]).Nodup := j1
  have hos : o ∈ stk ++ [o] := List.mem_append_right _ List.mem_cons_self
  have ho : ex o = false := j2 o hos
  have hom : o < made := j3 o hos
  have hoT : o ∈ T0 := j8 o hos
  have hos' : o ∉ stk := by
    rw [List.nodup_append] at j1
    exact fun q => j1.2.2 o q o List.mem_cons_self rfl
  have hpop := fun n => rf_ct_pop root row n ho hom j1
  unfold rf_pop
  dsimp only
  rw [List.dropLast_concat]
  generalize hL : hd_row (row o) = L
  rw [hL] at hpop
  have hLT : ∀ n ∈ L, n ∈ T0 := fun n hn => hrow o hoT n (by rw [hL]; exact hn)
  generalize hh' : L.foldl rf_dec hol = hol'
  have hnd : stk.Nodup := by
    rw [List.nodup_append] at j1
    exact j1.1
  obtain ⟨g1, g2, g3, g4, g5⟩ := rf_gone_all (made := made) hol' L (ex, stk) hnd (fun n hn => j2 n (List.mem_append_left _ hn)) (fun n hn => j3 n (List.mem_append_left _ hn)) (fun n hn => hT0 n (hLT n hn))
  generalize hg : L.foldl (rf_gone hol') (ex, stk) = a' at g1 g2 g3 g4 g5 ⊢
  obtain ⟨ex', stk'⟩ := a'
  have g4 : ∀ n, ex' n = (ex n && !(decide (n ∈ L ∧ hol' n = 0))) := g4
  have g5 : ∀ n, n ∈ stk' ↔ n ∈ stk ∨ (ex n = true ∧ n ∈ L ∧ hol' n = 0) := g5
  have hY : rf_Y made ex' stk' = rf_Y made ex stk := by
    unfold rf_Y
    refine List.filter_congr (fun n _ => ?_)
    rw [Bool.eq_iff_iff]
    simp only [Bool.or_eq_true, decide_eq_true_eq, g5 n]
    rw [g4 n]
    cases ex n with
    | false => simp
    | true =>
      by_cases hc : n ∈ L ∧ hol' n = 0
      · simp [hc]
      · simp [hc]
  have hc' : ∀ n, n < made → hol' n = nI ((hd_all (rf_Y made ex stk) root row).count n) := by
    intro n hn
    rw [← hh']
    refine rf_dec_all L hol n _ ?_
    have := j4 n hn
    have this : hol n = nI ((hd_all (rf_Y made ex (stk ++ [o])) root row).count n) := this
    rw [this, hpop n]
  have hb' : ∀ n, (hd_all (rf_Y made ex stk) root row).count n < 2 ^ 31 := fun n => by
    have := hb n
    have := hpop n
    omega
  have hz : ∀ n, n < made → (hol' n = 0 ↔ (hd_all (rf_Y made ex stk) root row).count n = 0) := by
    intro n hn
    rw [hc' n hn]
    have := nI_eq (a := (hd_all (rf_Y made ex stk) root row).count n) (b := 0) (hb' n) (by omega)
    rw [nI_0] at this
    exact this
  have hdead : ∀ n, n ∈ T0 → (hd_all (rf_Y made ex stk) root row).count n = 0 → ¬ sv_P T0 root row n := by
    intro n hn h0 ⟨S, s1, s2, s3⟩
    have : 0 < (hd_all (rf_Y made ex stk) root row).count n := by
      rw [ct_held]
      rcases s2 n s3 with q | ⟨m, hm, hmn⟩
      · exact Or.inl q
      · refine Or.inr ⟨m, rf_Y_mem.mpr ⟨hT0 m (s1 m hm), Or.inl ?_⟩, hmn⟩
        cases he : ex m with
        | true => rfl
        | false => exact absurd ⟨S, s1, s2, hm⟩ (j7 m (s1 m hm) he)
    omega
  refine ⟨⟨g1, g2, g3, fun n hn => ?_, fun n hn hx => ?_, fun n hn hx => ?_, fun n hn hx => ?_, fun n hn => ?_⟩, ?_, ?_⟩
  · show hol' n = nI ((hd_all (rf_Y made ex' stk') root row).count n)
    rw [hY]
    exact hc' n hn
  · show 0 < (hd_all (rf_Y made ex' stk') root row).count n
    rw [hY]
    have hx : ex' n = true := hx
    rw [g4 n, Bool.and_eq_true] at hx
    rcases Nat.eq_zero_or_pos ((hd_all (rf_Y made ex stk) root row).count n) with q | q
    · exfalso
      have h0 := (hz n hn).mpr q
      have hp : 0 < (hd_all (rf_Y made ex (stk ++ [o])) root row).count n := j5 n hn hx.1
      have := hpop n
      have hl : n ∈ L := List.count_pos_iff.mp (by omega)
      have := hx.2
      simp [hl, h0] at this
    · exact q
  · have hx : ex' n = true := hx
    rw [g4 n, Bool.and_eq_true] at hx
    exact j6 n hn hx.1
  · have hx : ex' n = false := hx
    cases he : ex n with
    | false => exact j7 n hn he
    | true =>
      rw [g4 n, he] at hx
      have hc : n ∈ L ∧ hol' n = 0 := by
        by_cases q : n ∈ L ∧ hol' n = 0
        · exact q
        · simp [q] at hx
      exact hdead n hn ((hz n (hT0 n hn)).mp hc.2)
  · have hn : n ∈ stk' := hn
    rcases (g5 n).mp hn with q | q
    · exact j8 n (List.mem_append_left _ q)
    · exact hLT n q.2.1
  · show ∀ n, (hd_all (rf_Y made ex' stk') root row).count n < 2 ^ 31
    rw [hY]
    exact hb'
  · show (rf_Y made ex' stk').length + 1 = _
    rw [hY]
    have e : rf_Y made ex stk = (rf_Y made ex (stk ++ [o])).erase o := by
      have hndY := rf_Y_nd made ex (stk ++ [o])
      rw [hndY.erase_eq_filter]
      unfold rf_Y
      rw [List.filter_filter]
      refine List.filter_congr (fun m _ => ?_)
      by_cases hm : m = o
      · subst hm
        simp [ho, hos']
      · simp [hm]
    have hmem : o ∈ rf_Y made ex (stk ++ [o]) := rf_Y_mem.mpr ⟨hom, Or.inr hos⟩
    have hlen := List.length_erase_of_mem hmem
    have hpos := List.length_pos_of_mem hmem
    rw [e]
    omega
theorem rf_loop_end {made : Nat} {T0 : List Nat} {root : Nat → Option Nat} {row : Nat → List it_I} (hT0 : ∀ n ∈ T0, n < made) (hrow : ∀ m ∈ T0, ∀ n ∈ hd_row (row m), n ∈ T0) : ∀ (f : Nat) (st : rf_S), (rf_Y made st.1 st.2.2).length ≤ f → (∀ n, (hd_all (rf_Y made st.1 st.2.2) root row).count n < 2 ^ 31) → rf_J made T0 root row st →
    rf_J made T0 root row (rf_loop row f st) ∧ (rf_loop row f st).2.2 = []
  | 0, st, hf, _, h => by
    refine ⟨h, ?_⟩
    show st.2.2 = []
    cases hs : st.2.2 with
    | nil => rfl
    | cons a s =>
      have ha : a ∈ st.2.2 := by rw [hs]; exact List.mem_cons_self
      have := List.length_pos_of_mem (rf_Y_mem.mpr ⟨h.2.2.1 a ha, Or.inr ha⟩ : a ∈ rf_Y made st.1 st.2.2)
      omega
  | f + 1, st, hf, hb, h => by
    unfold rf_loop
    cases hs : st.2.2.getLast? with
    | none => exact ⟨h, List.getLast?_eq_none_iff.mp hs⟩
    | some o =>
      obtain ⟨ex, hol, stk⟩ := st
      have hs : stk.getLast? = some o := hs
      obtain ⟨stk0, rfl⟩ := List.getLast?_eq_some_iff.mp hs
      obtain ⟨h1, h2, h3⟩ := rf_step hT0 hrow hb h
      have hf : (rf_Y made ex (stk0 ++ [o])).length ≤ f + 1 := hf
      have h3 : (rf_Y made (rf_pop row (ex, hol, stk0 ++ [o]) o).1 (rf_pop row (ex, hol, stk0 ++ [o]) o).2.2).length + 1 = (rf_Y made ex (stk0 ++ [o])).length := h3
      exact rf_loop_end hT0 hrow f _ (by omega) h2 h1
theorem rf_settled {made : Nat} {T0 : List Nat} {root : Nat → Option Nat} {row : Nat → List it_I} {ex : Nat → Bool} {hol : Nat → Int32} (hT : T0 = (List.range made).filter ex) (hrow : ∀ m ∈ T0, ∀ n ∈ hd_row (row m), n ∈ T0) (hh : ∀ n, n < made → hol n = nI ((hd_all T0 root row).count n)) (hb : ∀ n, (hd_all T0 root row).count n < 2 ^ 31) :
    (List.range made).filter (rf_settle made row ex hol).1 = sv_T T0 root row ∧ (rf_settle made row ex hol).2.2 = [] ∧ ∀ n, n < made → (rf_settle made row ex hol).1 n = true → ex n = true := by
  have hT0 : ∀ n, n ∈ T0 ↔ n < made ∧ ex n = true := fun n => by rw [hT, List.mem_filter, List.mem_range]
  obtain ⟨g1, g2, g3, g4, g5⟩ := rf_gone_all (made := made) hol (List.range made) (ex, []) List.nodup_nil (fun n hn => by cases hn) (fun n hn => by cases hn) (fun n hn => List.mem_range.mp hn)
  unfold rf_settle
  generalize (List.range made).foldl (rf_gone hol) (ex, []) = a at g1 g2 g3 g4 g5 ⊢
  obtain ⟨ex1, stk1⟩ := a
  have g4 : ∀ n, ex1 n = (ex n && !(decide (n ∈ List.range made ∧ hol n = 0))) := g4
  have g5 : ∀ n, n ∈ stk1 ↔ n ∈ [] ∨ (ex n = true ∧ n ∈ List.range made ∧ hol n = 0) := g5
  have hY : rf_Y made ex1 stk1 = T0 := by
    rw [hT]
    unfold rf_Y
    refine List.filter_congr (fun n _ => ?_)
    rw [Bool.eq_iff_iff]
    simp only [Bool.or_eq_true, decide_eq_true_eq, g5 n]
    rw [g4 n]
    cases ex n with
    | false => simp
    | true =>
      by_cases hc : n < made ∧ hol n = 0
      · simp [List.mem_range, hc]
      · simp only [List.mem_range, hc]
        simp
  have hz : ∀ n, n < made → (hol n = 0 ↔ (hd_all T0 root row).count n = 0) := by
    intro n hn
    rw [hh n hn]
    have := nI_eq (a := (hd_all T0 root row).count n) (b := 0) (hb n) (by omega)
    rw [nI_0] at this
    exact this
  have hJ : rf_J made T0 root row (ex1, hol, stk1) := by
    refine ⟨g1, g2, g3, fun n hn => ?_, fun n hn hx => ?_, fun n hn hx => ?_, fun n hn hx => ?_, fun n hn => ?_⟩
    · show hol n = nI ((hd_all (rf_Y made ex1 stk1) root row).count n)
      rw [hY]
      exact hh n hn
    · show 0 < (hd_all (rf_Y made ex1 stk1) root row).count n
      rw [hY]
      have hx : ex1 n = true := hx
      rw [g4 n, Bool.and_eq_true] at hx
      rcases Nat.eq_zero_or_pos ((hd_all T0 root row).count n) with q | q
      · have h0 := (hz n hn).mpr q
        have := hx.2
        simp [List.mem_range, hn, h0] at this
      · exact q
    · have hx : ex1 n = true := hx
      rw [g4 n, Bool.and_eq_true] at hx
      exact (hT0 n).mpr ⟨hn, hx.1⟩
    · have hx : ex1 n = false := hx
      obtain ⟨hn1, hn2⟩ := (hT0 n).mp hn
      have h0 : hol n = 0 := by
        rw [g4 n, hn2] at hx
        by_cases q : hol n = 0
        · exact q
        · simp [q] at hx
      intro ⟨S, s1, s2, s3⟩
      have : 0 < (hd_all T0 root row).count n := by
        rw [ct_held]
        rcases s2 n s3 with q | ⟨m, hm, hmn⟩
        · exact Or.inl q
        · exact Or.inr ⟨m, s1 m hm, hmn⟩
      have := (hz n hn1).mp h0
      omega
    · have hn : n ∈ stk1 := hn
      rcases (g5 n).mp hn with q | q
      · cases q
      · exact (hT0 n).mpr ⟨List.mem_range.mp q.2.1, q.1⟩
  have hlen : T0.length ≤ made := by
    rw [hT]
    have := List.length_filter_le ex (List.range made)
    rw [List.length_range] at this
    exact this
  obtain ⟨e1, e2⟩ := rf_loop_end (fun n hn => ((hT0 n).mp hn).1) hrow made (ex1, hol, stk1) (by show (rf_Y made ex1 stk1).length ≤ made; rw [hY]; exact hlen) (by show ∀ n, (hd_all (rf_Y made ex1 stk1) root row).count n < 2 ^ 31; rw [hY]; exact hb) hJ
  generalize rf_loop row made (ex1, hol, stk1) = st at e1 e2 ⊢
  obtain ⟨j1, j2, j3, j4, j5, j6, j7, j8⟩ := e1
  refine ⟨?_, e2, fun n hn hx => ((hT0 n).mp (j6 n hn hx)).2⟩
  have hff : (List.range made).filter st.1 = T0.filter st.1 := by
    rw [hT, List.filter_filter]
    refine List.filter_congr (fun n hn => ?_)
    cases hx : st.1 n with
    | false => rfl
    | true => rw [((hT0 n).mp (j6 n (List.mem_range.mp hn) hx)).2]; rfl
  rw [hff]
  refine sv_filter (fun n hn => ?_)
  constructor
  · intro hx
    refine ⟨fun k => k < made ∧ st.1 k = true, fun k hk => j6 k hk.1 hk.2, fun k hk => ?_, ((hT0 n).mp hn).1, hx⟩
    have hp := j5 k hk.1 hk.2
    rw [e2] at hp
    rcases ct_held.mp hp with q | ⟨m, hm, hmk⟩
    · exact Or.inl q
    · obtain ⟨hm1, hm2⟩ := rf_Y_mem.mp hm
      rcases hm2 with q | q
      · exact Or.inr ⟨m, ⟨hm1, q⟩, hmk⟩
      · cases q
  · intro hs
    cases hx : st.1 n with
    | true => rfl
    | false => exact absurd hs (j7 n hn hx)
