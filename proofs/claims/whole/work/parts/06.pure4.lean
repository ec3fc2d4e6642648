/-! pure: the reference's collection -/
def rf_reach (a : (Nat → Int32) × List Nat) (n : Nat) : (Nat → Int32) × List Nat := if 0 < a.1 n then a else (va_up a.1 n 1, a.2 ++ [n])
def rf_mr (row : Nat → List it_I) : Nat → (Nat → Int32) × List Nat → (Nat → Int32) × List Nat
  | 0, a => a
  | f + 1, a => match a.2.getLast? with
    | none => a
    | some o => rf_mr row f ((hd_row (row o)).foldl rf_reach (a.1, a.2.dropLast))
def rf_mark (made : Nat) (root : Nat → Option Nat) (row : Nat → List it_I) (hol : Nat → Int32) : (Nat → Int32) × List Nat :=
  rf_mr row made ((hd_roots root).foldl rf_reach (fun n => if n < made then 0 else hol n, []))
/-- how many aren't marked -/
def rf_un (made : Nat) (h : Nat → Int32) : Nat := ((List.range made).filter (fun n => !(decide (0 < h n)))).length
theorem rf_un_up {made : Nat} {h : Nat → Int32} {n : Nat} (hn : n < made) (h0 : ¬ 0 < h n) : rf_un made (va_up h n 1) + 1 = rf_un made h := by
  have hnd : ((List.range made).filter (fun n => !(decide (0 < h n)))).Nodup := List.nodup_range.filter _
  have hm : n ∈ (List.range made).filter (fun n => !(decide (0 < h n))) := by
    rw [List.mem_filter, List.mem_range]
    exact ⟨hn, by simp [h0]⟩
  have e : (List.range made).filter (fun k => !(decide (0 < va_up h n 1 k))) = ((List.range made).filter (fun n => !(decide (0 < h n)))).erase n := by
    rw [hnd.erase_eq_filter, List.filter_filter]
    refine List.filter_congr (fun k _ => ?_)
    by_cases hk : k = n
    · subst hk
      rw [va_up_self]
      have : (0 : Int32) < 1 := by decide
      simp [this]
    · rw [va_up_ne _ _ hk]
      simp [hk]
  unfold rf_un
  rw [e, List.length_erase_of_mem hm]
  have := List.length_pos_of_mem hm
  omega
/-- the stack is of marked ones, each once -/
def rm_C (made : Nat) (a : (Nat → Int32) × List Nat) : Prop := (∀ n ∈ a.2, n < made ∧ 0 < a.1 n)
theorem rm_reach {made : Nat} {a : (Nat → Int32) × List Nat} {x : Nat} (hx : x < made) (h : rm_C made a) : rm_C made (rf_reach a x) ∧ (∀ n, 0 < (rf_reach a x).1 n ↔ 0 < a.1 n ∨ n = x) ∧ (∀ n, n ∈ (rf_reach a x).2 ↔ n ∈ a.2 ∨ (n = x ∧ ¬ 0 < a.1 n)) ∧ rf_un made (rf_reach a x).1 + (rf_reach a x).2.length = rf_un made a.1 + a.2.length := by
  unfold rf_reach
  by_cases hp : 0 < a.1 x
  · rw [if_pos hp]
    refine ⟨h, fun n => ⟨Or.inl, fun q => q.elim id (fun q => by rw [q]; exact hp)⟩, fun n => ⟨Or.inl, fun q => q.elim id (fun q => ?_)⟩, rfl⟩
    obtain ⟨rfl, q2⟩ := q
    exact absurd hp q2
  · rw [if_neg hp]
    have h1 : (0 : Int32) < 1 := by decide
    refine ⟨fun n hn => ?_, fun n => ?_, fun n => ?_, ?_⟩
    · show n < made ∧ 0 < va_up a.1 x 1 n
      by_cases hnx : n = x
      · subst hnx
        rw [va_up_self]
        exact ⟨hx, h1⟩
      · rw [va_up_ne _ _ hnx]
        rcases List.mem_append.mp hn with q | q
        · exact h n q
        · exact absurd (List.mem_singleton.mp q) hnx
    · show 0 < va_up a.1 x 1 n ↔ _
      by_cases hnx : n = x
      · subst hnx
        rw [va_up_self]
        exact ⟨fun _ => Or.inr rfl, fun _ => h1⟩
      · rw [va_up_ne _ _ hnx]
        exact ⟨Or.inl, fun q => q.elim id (fun q => absurd q hnx)⟩
    · show n ∈ a.2 ++ [x] ↔ _
      rw [List.mem_append, List.mem_singleton]
      constructor
      · rintro (q | q)
        · exact Or.inl q
        · subst q
          exact Or.inr ⟨rfl, hp⟩
      · rintro (q | q)
        · exact Or.inl q
        · exact Or.inr q.1
    · show rf_un made (va_up a.1 x 1) + (a.2 ++ [x]).length = _
      rw [List.length_append, List.length_singleton]
      have := rf_un_up hx hp
      omega
theorem rm_fold {made : Nat} : ∀ (L : List Nat) (a : (Nat → Int32) × List Nat), (∀ n ∈ L, n < made) → rm_C made a → rm_C made (L.foldl rf_reach a) ∧ (∀ n, 0 < (L.foldl rf_reach a).1 n ↔ 0 < a.1 n ∨ n ∈ L) ∧ (∀ n, n ∈ (L.foldl rf_reach a).2 ↔ n ∈ a.2 ∨ (n ∈ L ∧ ¬ 0 < a.1 n)) ∧ rf_un made (L.foldl rf_reach a).1 + (L.foldl rf_reach a).2.length = rf_un made a.1 + a.2.length
  | [], a, _, h => ⟨h, fun n => by simp, fun n => by simp, rfl⟩
  | x :: L, a, hL, h => by
    obtain ⟨s1, s2, s3, s4⟩ := rm_reach (hL x List.mem_cons_self) h
    obtain ⟨t1, t2, t3, t4⟩ := rm_fold L (rf_reach a x) (fun n hn => hL n (List.mem_cons_of_mem _ hn)) s1
    rw [List.foldl_cons]
    refine ⟨t1, fun n => ?_, fun n => ?_, by omega⟩
    · rw [t2 n, s2 n, List.mem_cons]
      constructor
      · rintro ((q | q) | q)
        · exact Or.inl q
        · exact Or.inr (Or.inl q)
        · exact Or.inr (Or.inr q)
      · rintro (q | q | q)
        · exact Or.inl (Or.inl q)
        · exact Or.inl (Or.inr q)
        · exact Or.inr q
    · rw [t3 n, s3 n, s2 n, List.mem_cons]
      by_cases hp : 0 < a.1 n
      · simp [hp]
      · by_cases hx : n = x
        · simp [hp, hx]
        · simp [hp, hx]
/-- marked ones are reached; the roots are marked; what a marked one holds is marked, or it's still on the stack -/
def rm_J (made : Nat) (root : Nat → Option Nat) (row : Nat → List it_I) (a : (Nat → Int32) × List Nat) : Prop :=
  rm_C made a ∧ (∀ n, n < made → 0 < a.1 n → rd_P root row n) ∧ (∀ n ∈ hd_roots root, 0 < a.1 n) ∧ ∀ m, m < made → 0 < a.1 m → m ∉ a.2 → ∀ n ∈ hd_row (row m), 0 < a.1 n
theorem rm_loop {made : Nat} {root : Nat → Option Nat} {row : Nat → List it_I} (hrow : ∀ m, m < made → rd_P root row m → ∀ n ∈ hd_row (row m), n < made) : ∀ (f : Nat) (a : (Nat → Int32) × List Nat), rf_un made a.1 + a.2.length ≤ f → rm_J made root row a → rm_J made root row (rf_mr row f a) ∧ (rf_mr row f a).2 = []
  | 0, a, hf, h => ⟨h, List.eq_nil_of_length_eq_zero (by show a.2.length = 0; omega)⟩
  | f + 1, a, hf, h => by
    unfold rf_mr
    cases hs : a.2.getLast? with
    | none => exact ⟨h, List.getLast?_eq_none_iff.mp hs⟩
    | some o =>
      obtain ⟨hol, stk⟩ := a
      have hs : stk.getLast? = some o := hs
      obtain ⟨stk0, rfl⟩ := List.getLast?_eq_some_iff.mp hs
      obtain ⟨h1, h2, h3, h4⟩ := h
      have hos : o ∈ stk0 ++ [o] := List.mem_append_right _ List.mem_cons_self
      obtain ⟨hom, hop⟩ := h1 o hos
      have hor := h2 o hom hop
      dsimp only
      rw [List.dropLast_concat]
      have hc0 : rm_C made (hol, stk0) := fun n hn => h1 n (List.mem_append_left _ hn)
      obtain ⟨t1, t2, t3, t4⟩ := rm_fold (hd_row (row o)) (hol, stk0) (fun n hn => hrow o hom hor n hn) hc0
      refine rm_loop hrow f _ ?_ ⟨t1, fun n hn hp => ?_, fun n hn => (t2 n).mpr (Or.inl (h3 n hn)), fun m hm hp hms n hn => ?_⟩
      · rw [t4]
        have hf : rf_un made hol + (stk0 ++ [o]).length ≤ f + 1 := hf
        rw [List.length_append, List.length_singleton] at hf
        show rf_un made hol + stk0.length ≤ f
        omega
      · rcases (t2 n).mp hp with q | q
        · exact h2 n hn q
        · exact rd_next hor q
      · rw [t2 n]
        by_cases hmo : m = o
        · subst hmo
          exact Or.inr hn
        · left
          rcases (t2 m).mp hp with q | q
          · refine h4 m hm q (fun z => ?_) n hn
            rcases List.mem_append.mp z with z | z
            · exact hms ((t3 m).mpr (Or.inl z))
            · exact hmo (List.mem_singleton.mp z)
          · by_cases hpm : 0 < hol m
            · refine h4 m hm hpm (fun z => ?_) n hn
              rcases List.mem_append.mp z with z | z
              · exact hms ((t3 m).mpr (Or.inl z))
              · exact hmo (List.mem_singleton.mp z)
            · exact absurd ((t3 m).mpr (Or.inr ⟨q, hpm⟩)) hms
theorem rf_marked {made : Nat} {T : List Nat} {root : Nat → Option Nat} {row : Nat → List it_I} {hol : Nat → Int32} (hT : ∀ n ∈ T, n < made) (hroot : ∀ n ∈ hd_roots root, n ∈ T) (hrow : ∀ m ∈ T, ∀ n ∈ hd_row (row m), n ∈ T) :
    (rf_mark made root row hol).2 = [] ∧ ∀ n, n < made → (0 < (rf_mark made root row hol).1 n ↔ rd_P root row n) := by
  have hrT : ∀ n, rd_P root row n → n ∈ T := fun n hn => hn (fun k => k ∈ T) hroot hrow
  have h0 : rm_C made (fun n => if n < made then 0 else hol n, []) := fun n hn => by cases hn
  obtain ⟨t1, t2, t3, t4⟩ := rm_fold (hd_roots root) (fun n => if n < made then 0 else hol n, []) (fun n hn => hT n (hroot n hn)) h0
  have hun : rf_un made (fun n => if n < made then 0 else hol n) ≤ made := by
    unfold rf_un
    have := List.length_filter_le (fun n => !(decide (0 < (fun n => if n < made then 0 else hol n) n))) (List.range made)
    rw [List.length_range] at this
    exact this
  have hz : ∀ n, n < made → ¬ (0 : Int32) < (fun n => if n < made then 0 else hol n) n := fun n hn => by
    show ¬ (0 : Int32) < if n < made then 0 else hol n
    rw [if_pos hn]
    decide
  obtain ⟨⟨j1, j2, j3, j4⟩, e⟩ := rm_loop (root := root) (row := row) (made := made) (fun m _ hr n hn => hT n (hrow m (hrT m hr) n hn)) made ((hd_roots root).foldl rf_reach (fun n => if n < made then 0 else hol n, [])) (by
      rw [t4]
      show rf_un made (fun n => if n < made then 0 else hol n) + 0 ≤ made
      omega) ⟨t1, fun n hn hp => by
      rcases (t2 n).mp hp with q | q
      · exact absurd q (hz n hn)
      · exact rd_root q, fun n hn => (t2 n).mpr (Or.inr hn), fun m hm hp hms n hn => by
      rcases (t2 m).mp hp with q | q
      · exact absurd q (hz m hm)
      · exact absurd ((t3 m).mpr (Or.inr ⟨q, hz m hm⟩)) hms⟩
  unfold rf_mark
  refine ⟨e, fun n hn => ⟨fun q => j2 n hn q, fun q => ?_⟩⟩
  have := q (fun k => k < made ∧ 0 < (rf_mr row made ((hd_roots root).foldl rf_reach (fun n => if n < made then 0 else hol n, []))).1 k) (fun k hk => ⟨hT k (hroot k hk), j3 k hk⟩) (fun m hm k hk => ⟨hT k (hrow m (hrT m (j2 m hm.1 hm.2)) k hk), j4 m hm.1 hm.2 (by rw [e]; exact fun z => by cases z) k hk⟩)
  exact this.2
