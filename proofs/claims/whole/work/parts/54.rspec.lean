/-! the reference, of V -/
def rs_V (E : gk_E) (M : gh_M) (h0 : Nat) (V : vv_V) : Prop := ∃ (G : rs_G) (cap : Nat) (ex : Nat → Bool) (hol w : Nat → Int32) (row : Nat → List it_I), rs_R E M h0 G V.1 cap ex hol w V.2.2.1 row ∧ (List.range V.1).filter ex = V.2.1 ∧ ∀ n ∈ V.2.1, row n = V.2.2.2 n
theorem sv_Pc {T : List Nat} {root : Nat → Option Nat} {row row' : Nat → List it_I} (h : ∀ n ∈ T, row n = row' n) {n : Nat} (hp : sv_P T root row n) : sv_P T root row' n := by
  obtain ⟨S, s1, s2, s3⟩ := hp
  refine ⟨S, s1, fun k hk => ?_, s3⟩
  rcases s2 k hk with q | ⟨m, hm, hmk⟩
  · exact Or.inl q
  · exact Or.inr ⟨m, hm, by rw [← h m (s1 m hm)]; exact hmk⟩
theorem sv_congr {T : List Nat} {root : Nat → Option Nat} {row row' : Nat → List it_I} (h : ∀ n ∈ T, row n = row' n) : sv_T T root row = sv_T T root row' := by
  refine (show sv_T T root row = T.filter (fun n => @decide (sv_P T root row n) (Classical.propDecidable _)) from rfl).trans (sv_filter (fun n _ => ⟨fun q => ?_, fun q => ?_⟩))
  · exact sv_Pc h (@of_decide_eq_true _ (Classical.propDecidable _) q)
  · exact @decide_eq_true _ (Classical.propDecidable _) (sv_Pc (fun k hk => (h k hk).symm) q)
theorem hd_congr {T : List Nat} {root : Nat → Option Nat} {row row' : Nat → List it_I} (h : ∀ n ∈ T, row n = row' n) : hd_all T root row = hd_all T root row' := by
  unfold hd_all
  congr 1
  have e : T.map (fun m => hd_row (row m)) = T.map (fun m => hd_row (row' m)) := List.map_congr_left (fun n hn => by rw [h n hn])
  rw [List.flatMap_def, List.flatMap_def, e]
theorem rd_Pc {T : List Nat} {root : Nat → Option Nat} {row row' : Nat → List it_I} (hroot : ∀ n ∈ hd_roots root, n ∈ T) (hrow : ∀ m ∈ T, ∀ n ∈ hd_row (row m), n ∈ T) (h : ∀ n ∈ T, row n = row' n) {n : Nat} (hp : rd_P root row n) : rd_P root row' n := by
  intro S s1 s2
  exact (hp (fun k => S k ∧ k ∈ T) (fun k hk => ⟨s1 k hk, hroot k hk⟩) (fun m hm k hk => ⟨s2 m hm.1 k (by rw [← h m hm.2]; exact hk), hrow m hm.2 k hk⟩)).1
theorem rd_congr {T : List Nat} {root : Nat → Option Nat} {row row' : Nat → List it_I} (hroot : ∀ n ∈ hd_roots root, n ∈ T) (hrow : ∀ m ∈ T, ∀ n ∈ hd_row (row m), n ∈ T) (h : ∀ n ∈ T, row n = row' n) : rd_T T root row = rd_T T root row' := by
  refine (show rd_T T root row = T.filter (fun n => @decide (rd_P root row n) (Classical.propDecidable _)) from rfl).trans (rd_filter (fun n _ => ⟨fun q => ?_, fun q => ?_⟩))
  · exact rd_Pc hroot hrow h (@of_decide_eq_true _ (Classical.propDecidable _) q)
  · exact @decide_eq_true _ (Classical.propDecidable _) (rd_Pc hroot (fun m hm k hk => hrow m hm k (by rw [h m hm]; exact hk)) (fun k hk => (h k hk).symm) q)
theorem rs_V_of {E : gk_E} {M : gh_M} {h0 made cap : Nat} {G : rs_G} {T : List Nat} {ex' : Nat → Bool} {hol w : Nat → Int32} {root : Nat → Option Nat} {row vrow : Nat → List it_I} (h : rs_R E M h0 G made cap ex' hol w root row) (hT : (List.range made).filter ex' = sv_T T root row) (hag : ∀ n ∈ T, row n = vrow n) : rs_V E M h0 (vv_set (made, T, root, vrow)) := by
  refine ⟨G, cap, ex', hol, w, row, h, ?_, fun n hn => ?_⟩
  · show (List.range made).filter ex' = sv_T T root vrow
    rw [hT]
    exact sv_congr hag
  · have hn : n ∈ sv_T T root vrow := hn
    show row n = if n ∈ sv_T T root vrow then vrow n else []
    rw [if_pos hn]
    exact hag n (sv_mem.mp hn).1
theorem st_pre {made : Nat} {T : List Nat} {ex : Nat → Bool} {root : Nat → Option Nat} {row vrow : Nat → List it_I} (hT : (List.range made).filter ex = T) (hag : ∀ n ∈ T, row n = vrow n) (hrow : ∀ m ∈ T, ∀ n ∈ hd_row (vrow m), n ∈ T) (hr : ∀ n, (vrow n).length ≤ 300) (hTl : T.length ≤ 1000) : (∀ m ∈ (List.range made).filter ex, ∀ n ∈ hd_row (row m), n ∈ (List.range made).filter ex) ∧ ∀ n, (hd_all ((List.range made).filter ex) root row).count n < 2 ^ 31 := by
  rw [hT]
  refine ⟨fun m hm n hn => hrow m hm n (by rw [← hag m hm]; exact hn), fun n => ?_⟩
  rw [hd_congr hag]
  have := hd_len (T := T) (root := root) hr n
  omega
section RS2
variable {E : gk_E} {M M' : gh_M} {h0 : Nat} {G : rs_G} {made cap : Nat} {ex : Nat → Bool} {hol w : Nat → Int32} {root : Nat → Option Nat} {row : Nat → List it_I}
/-- a row is set -/
theorem rs_R.setRow (h : rs_R E M h0 G made cap ex hol w root row) {o : Nat} {r' : List it_I} (hk : ∀ b t y, M b = some (t, y) → t ≠ 3 → t ≠ 8 + o → M' b = some (t, y)) (hm : ∃ fm : Nat → Int32, M' G.2.2.1 = some (3, .inl (E.2.1 0, cap, .inl fm)) ∧ fm o = nI r'.length ∧ ∀ n, n ≠ o → n < made → fm n = nI (row n).length) (hr : rs_Row E M' o (G.1 o) r') (hx : ∀ x ∈ r', ∀ n, x.1 = some n → n < made) : rs_R E M' h0 G made cap ex hol w root (va_up row o r') := by
  obtain ⟨h1, ⟨fi, a1, a2⟩, -, ⟨fe, c1, c2⟩, d1, e1, ⟨fr, g1, g2⟩, k1, k2, k3, k4⟩ := h
  obtain ⟨fm, b1, b2, b3⟩ := hm
  refine ⟨hk _ _ _ h1 (by omega) (by omega), ⟨fi, hk _ _ _ a1 (by omega) (by omega), a2⟩, ⟨fm, b1, fun n hn => ?_⟩, ⟨fe, hk _ _ _ c1 (by omega) (by omega), c2⟩, hk _ _ _ d1 (by omega) (by omega), hk _ _ _ e1 (by omega) (by omega), ⟨fr, hk _ _ _ g1 (by omega) (by omega), g2⟩, fun n hn => ?_, k2, fun m hm x hxm n hn => ?_, k4⟩
  · by_cases q : n = o
    · subst q
      rw [va_up_self]
      exact b2
    · rw [va_up_ne _ _ q]
      exact b3 n q hn
  · by_cases q : n = o
    · subst q
      rw [va_up_self]
      exact hr
    · rw [va_up_ne _ _ q]
      obtain ⟨c, fl, r1, r2⟩ := k1 n hn
      exact ⟨c, fl, hk _ _ _ r1 (by omega) (by omega), r2⟩
  · by_cases q : m = o
    · subst q
      rw [va_up_self] at hxm
      exact hx x hxm n hn
    · rw [va_up_ne _ _ q] at hxm
      exact k3 m hm x hxm n hn
/-- a row's array is another -/
theorem rs_R.move (h : rs_R E M h0 G made cap ex hol w root row) {o q : Nat} {fi : Nat → Option Nat} (hfi : M G.2.1 = some (2, .inl (E.2.1 4, cap, .inr (.inr (.inr (.inr fi)))))) (hfi2 : ∀ n, n < made → fi n = some (G.1 n)) (hfi3 : ∀ n, made ≤ n → n < cap → fi n = none) (ho : o < made) (hr : rs_Row E M o q (row o)) : rs_R E (gh_up M G.2.1 (2, .inl (E.2.1 4, cap, .inr (.inr (.inr (.inr (va_up fi o (some q)))))))) h0 (va_up G.1 o q, G.2) made cap ex hol w root row := by
  obtain ⟨h1, -, ⟨fm, b1, b2⟩, ⟨fe, c1, c2⟩, d1, e1, ⟨fr, g1, g2⟩, k1, k2⟩ := h
  have hc := gh_ch.up (e' := .inl (E.2.1 4, cap, .inr (.inr (.inr (.inr (va_up fi o (some q))))))) hfi
  refine ⟨hc.keep h1 (by omega), ⟨_, gh_up_self _ _ _, fun n hn => ?_, fun n h1 h2 => ?_⟩, ⟨fm, hc.keep b1 (by omega), b2⟩, ⟨fe, hc.keep c1 (by omega), c2⟩, hc.keep d1 (by omega), hc.keep e1 (by omega), ⟨fr, hc.keep g1 (by omega), g2⟩, fun n hn => ?_, k2⟩
  · show va_up fi o (some q) n = some (va_up G.1 o q n)
    by_cases e : n = o
    · subst e
      rw [va_up_self, va_up_self]
    · rw [va_up_ne _ _ e, va_up_ne _ _ e]
      exact hfi2 n hn
  · rw [va_up_ne _ _ (by omega)]
    exact hfi3 n h1 h2
  · show rs_Row E _ n (va_up G.1 o q n) (row n)
    by_cases e : n = o
    · subst e
      rw [va_up_self]
      exact hr.ch hc (by omega)
    · rw [va_up_ne _ _ e]
      exact (k1 n hn).ch hc (by omega)
/-- one more is made -/
theorem rs_R.more (h : rs_R E M h0 G made cap ex hol w root row) {r : Nat} (hlt : made < cap) {q : Nat} {root' : Nat → Option Nat} (hk : ∀ b t y, M b = some (t, y) → t = 5 ∨ t = 6 ∨ 8 ≤ t → M' b = some (t, y))
    (hh : M' h0 = some (1, .inr (4, [.ref G.2.1, .ref G.2.2.1, .ref G.2.2.2.1, .ref G.2.2.2.2.1, .ref G.2.2.2.2.2.1, .int (nI (made + 1)), .int (nI (((List.range made).filter ex).length + 1)), .ref G.2.2.2.2.2.2])))
    (hfi : ∃ fi : Nat → Option Nat, M' G.2.1 = some (2, .inl (E.2.1 4, cap, .inr (.inr (.inr (.inr fi))))) ∧ (∀ n, n < made → fi n = some (G.1 n)) ∧ fi made = some q ∧ ∀ n, made + 1 ≤ n → n < cap → fi n = none)
    (hfm : ∃ fm : Nat → Int32, M' G.2.2.1 = some (3, .inl (E.2.1 0, cap, .inl fm)) ∧ (∀ n, n < made → fm n = nI (row n).length) ∧ fm made = nI 0)
    (hfe : ∃ fe : Nat → Int32, M' G.2.2.2.1 = some (4, .inl (E.2.1 0, cap, .inl fe)) ∧ (∀ n, n < made → fe n = cs_B (ex n)) ∧ fe made = nI 1)
    (hfr : ∃ fr : Nat → Int32, M' G.2.2.2.2.2.2 = some (7, .inl (E.2.1 0, 16, .inl fr)) ∧ ∀ r, r < 16 → fr r = rt_v (root' r)) (hr' : ∀ r, r < 16 → ∀ n, root' r = some n → n < made + 1)
    (hq : rs_Row E M' made q []) : rs_R E M' h0 (va_up G.1 made q, G.2) (made + 1) cap (va_up ex made true) hol w root' (va_up row made []) := by
  obtain ⟨h1, -, -, -, d1, e1, -, k1, -, k3, k4, k5⟩ := h
  obtain ⟨fi, a1, a2, a3, a4⟩ := hfi
  obtain ⟨fm, b1, b2, b3⟩ := hfm
  obtain ⟨fe, c1, c2, c3⟩ := hfe
  have hlen : ((List.range (made + 1)).filter (va_up ex made true)).length = ((List.range made).filter ex).length + 1 := by
    rw [List.range_succ, List.filter_append, List.length_append, List.filter_congr (q := ex) (fun n hn => va_up_ne ex true (by have := List.mem_range.mp hn; omega))]
    congr 1
    simp [va_up_self]
  refine ⟨?_, ⟨fi, a1, fun n hn => ?_, a4⟩, ⟨fm, b1, fun n hn => ?_⟩, ⟨fe, c1, fun n hn => ?_⟩, hk _ _ _ d1 (by omega), hk _ _ _ e1 (by omega), hfr, fun n hn => ?_, hr', fun m hm x hxm n hn => ?_, hlt, k5⟩
  · rw [hlen]
    exact hh
  · show fi n = some (va_up G.1 made q n)
    by_cases e : n = made
    · subst e
      rw [va_up_self]
      exact a3
    · rw [va_up_ne _ _ e]
      exact a2 n (by omega)
  · by_cases e : n = made
    · subst e
      rw [va_up_self]
      exact b3
    · rw [va_up_ne _ _ e]
      exact b2 n (by omega)
  · by_cases e : n = made
    · subst e
      rw [va_up_self]
      exact c3
    · rw [va_up_ne _ _ e]
      exact c2 n (by omega)
  · show rs_Row E M' n (va_up G.1 made q n) _
    by_cases e : n = made
    · subst e
      rw [va_up_self, va_up_self]
      exact hq
    · rw [va_up_ne _ _ e, va_up_ne _ _ e]
      obtain ⟨c, fl, r1, r2⟩ := k1 n (by omega)
      exact ⟨c, fl, hk _ _ _ r1 (by omega), r2⟩
  · by_cases e : m = made
    · subst e
      rw [va_up_self] at hxm
      cases hxm
    · rw [va_up_ne _ _ e] at hxm
      exact Nat.lt_succ_of_lt (k3 m (by omega) x hxm n hn)
end RS2
