/-! the reference's state: cells by tag (1: the object, 2: the rows, 3 .. 6: its arrays, 7: the roots, 8 + n: row n) -/
def rt_v : Option Nat → Int32
  | none => -1
  | some n => nI n
abbrev rs_G : Type := (Nat → Nat) × Nat × Nat × Nat × Nat × Nat × Nat
def rs_Row (E : gk_E) (M : gh_M) (n a : Nat) (r : List it_I) : Prop := ∃ (c : Nat) (fl : Nat → Int64), M a = some (8 + n, .inl (E.2.1 1, c, .inr (.inl fl))) ∧ 4 ≤ c ∧ c ≤ 600 ∧ r.length ≤ c ∧ r.length ≤ 300 ∧ ∀ (i : Nat) (x : it_I), r[i]? = some x → fl i = it_L x
def rs_R (E : gk_E) (M : gh_M) (h0 : Nat) (G : rs_G) (made cap : Nat) (ex : Nat → Bool) (hol w : Nat → Int32) (root : Nat → Option Nat) (row : Nat → List it_I) : Prop :=
  M h0 = some (1, .inr (4, [.ref G.2.1, .ref G.2.2.1, .ref G.2.2.2.1, .ref G.2.2.2.2.1, .ref G.2.2.2.2.2.1, .int (nI made), .int (nI ((List.range made).filter ex).length), .ref G.2.2.2.2.2.2])) ∧
  (∃ fi : Nat → Option Nat, M G.2.1 = some (2, .inl (E.2.1 4, cap, .inr (.inr (.inr (.inr fi))))) ∧ (∀ n, n < made → fi n = some (G.1 n)) ∧ ∀ n, made ≤ n → n < cap → fi n = none) ∧
  (∃ fm : Nat → Int32, M G.2.2.1 = some (3, .inl (E.2.1 0, cap, .inl fm)) ∧ ∀ n, n < made → fm n = nI (row n).length) ∧
  (∃ fe : Nat → Int32, M G.2.2.2.1 = some (4, .inl (E.2.1 0, cap, .inl fe)) ∧ ∀ n, n < made → fe n = cs_B (ex n)) ∧
  M G.2.2.2.2.1 = some (5, .inl (E.2.1 0, cap, .inl hol)) ∧ M G.2.2.2.2.2.1 = some (6, .inl (E.2.1 0, cap, .inl w)) ∧
  (∃ fr : Nat → Int32, M G.2.2.2.2.2.2 = some (7, .inl (E.2.1 0, 16, .inl fr)) ∧ ∀ r, r < 16 → fr r = rt_v (root r)) ∧
  (∀ n, n < made → rs_Row E M n (G.1 n) (row n)) ∧ (∀ r, r < 16 → ∀ n, root r = some n → n < made) ∧ (∀ m, m < made → ∀ x ∈ row m, ∀ n, x.1 = some n → n < made) ∧ made ≤ cap ∧ 64 ≤ cap ∧ cap ≤ 1024
theorem rs_Row.ch {E : gk_E} {M M' : gh_M} {n a t' : Nat} {r : List it_I} (h : rs_Row E M n a r) (hc : gh_ch t' M M') (hn : 8 + n ≠ t') : rs_Row E M' n a r := by
  obtain ⟨c, fl, h1, h2⟩ := h
  exact ⟨c, fl, hc.keep h1 hn, h2⟩
theorem rs_Row.ext {E : gk_E} {M M' : gh_M} {n a : Nat} {r : List it_I} (h : rs_Row E M n a r) (hx : ∀ b y, M b = some y → M' b = some y) : rs_Row E M' n a r := by
  obtain ⟨c, fl, h1, h2⟩ := h
  exact ⟨c, fl, hx _ _ h1, h2⟩
theorem fl_down {made : Nat} {ex : Nat → Bool} {o : Nat} (ho : o < made) (he : ex o = true) : ((List.range made).filter ex).length = ((List.range made).filter (va_up ex o false)).length + 1 := by
  have hnd : ((List.range made).filter ex).Nodup := List.nodup_range.filter _
  have hm : o ∈ (List.range made).filter ex := by
    rw [List.mem_filter, List.mem_range]
    exact ⟨ho, he⟩
  have e : (List.range made).filter (va_up ex o false) = ((List.range made).filter ex).erase o := by
    rw [hnd.erase_eq_filter, List.filter_filter]
    refine List.filter_congr (fun k _ => ?_)
    by_cases hk : k = o
    · subst hk
      rw [va_up_self]
      simp
    · rw [va_up_ne _ _ hk]
      simp [hk]
  rw [e, List.length_erase_of_mem hm]
  have := List.length_pos_of_mem hm
  omega
section RS
variable {E : gk_E} {M M' : gh_M} {h0 : Nat} {G : rs_G} {made cap : Nat} {ex : Nat → Bool} {hol w : Nat → Int32} {root : Nat → Option Nat} {row : Nat → List it_I}
theorem rs_R.ext (h : rs_R E M h0 G made cap ex hol w root row) (hx : ∀ b y, M b = some y → M' b = some y) : rs_R E M' h0 G made cap ex hol w root row := by
  obtain ⟨h1, ⟨fi, a1, a2⟩, ⟨fm, b1, b2⟩, ⟨fe, c1, c2⟩, d1, e1, ⟨fr, g1, g2⟩, k1, k2⟩ := h
  exact ⟨hx _ _ h1, ⟨fi, hx _ _ a1, a2⟩, ⟨fm, hx _ _ b1, b2⟩, ⟨fe, hx _ _ c1, c2⟩, hx _ _ d1, hx _ _ e1, ⟨fr, hx _ _ g1, g2⟩, fun n hn => (k1 n hn).ext hx, k2⟩
theorem rs_R.setHol (h : rs_R E M h0 G made cap ex hol w root row) {f : Nat → Int32} (hc : gh_ch 5 M M') (hf : M' G.2.2.2.2.1 = some (5, .inl (E.2.1 0, cap, .inl f))) : rs_R E M' h0 G made cap ex f w root row := by
  obtain ⟨h1, ⟨fi, a1, a2⟩, ⟨fm, b1, b2⟩, ⟨fe, c1, c2⟩, d1, e1, ⟨fr, g1, g2⟩, k1, k2⟩ := h
  exact ⟨hc.keep h1 (by omega), ⟨fi, hc.keep a1 (by omega), a2⟩, ⟨fm, hc.keep b1 (by omega), b2⟩, ⟨fe, hc.keep c1 (by omega), c2⟩, hf, hc.keep e1 (by omega), ⟨fr, hc.keep g1 (by omega), g2⟩, fun n hn => (k1 n hn).ch hc (by omega), k2⟩
theorem rs_R.upHol (h : rs_R E M h0 G made cap ex hol w root row) {f : Nat → Int32} : rs_R E (gh_up M G.2.2.2.2.1 (5, .inl (E.2.1 0, cap, .inl f))) h0 G made cap ex f w root row := h.setHol (gh_ch.up h.2.2.2.2.1) (gh_up_self _ _ _)
theorem rs_R.upW (h : rs_R E M h0 G made cap ex hol w root row) {f : Nat → Int32} : rs_R E (gh_up M G.2.2.2.2.2.1 (6, .inl (E.2.1 0, cap, .inl f))) h0 G made cap ex hol f root row := by
  obtain ⟨h1, ⟨fi, a1, a2⟩, ⟨fm, b1, b2⟩, ⟨fe, c1, c2⟩, d1, e1, ⟨fr, g1, g2⟩, k1, k2⟩ := h
  have hc := gh_ch.up (e' := .inl (E.2.1 0, cap, .inl f)) e1
  exact ⟨hc.keep h1 (by omega), ⟨fi, hc.keep a1 (by omega), a2⟩, ⟨fm, hc.keep b1 (by omega), b2⟩, ⟨fe, hc.keep c1 (by omega), c2⟩, hc.keep d1 (by omega), gh_up_self _ _ _, ⟨fr, hc.keep g1 (by omega), g2⟩, fun n hn => (k1 n hn).ch hc (by omega), k2⟩
/-- one goes, or comes: its mark, and how many there are -/
theorem rs_R.upEx (h : rs_R E M h0 G made cap ex hol w root row) {o : Nat} {fe : Nat → Int32} (hfe : M G.2.2.2.1 = some (4, .inl (E.2.1 0, cap, .inl fe))) (hfe2 : ∀ n, n < made → fe n = cs_B (ex n)) {b : Bool} {v lv : Int32} (hv : v = cs_B b) (hlv : lv = nI ((List.range made).filter (va_up ex o b)).length) :
    rs_R E (gh_up (gh_up M G.2.2.2.1 (4, .inl (E.2.1 0, cap, .inl (va_up fe o v)))) h0 (1, .inr (4, [.ref G.2.1, .ref G.2.2.1, .ref G.2.2.2.1, .ref G.2.2.2.2.1, .ref G.2.2.2.2.2.1, .int (nI made), .int lv, .ref G.2.2.2.2.2.2]))) h0 G made cap (va_up ex o b) hol w root row := by
  obtain ⟨h1, ⟨fi, a1, a2⟩, ⟨fm, b1, b2⟩, -, d1, e1, ⟨fr, g1, g2⟩, k1, k2⟩ := h
  have hc := gh_ch.up (e' := .inl (E.2.1 0, cap, .inl (va_up fe o v))) hfe
  have h1' := hc.keep h1 (by omega)
  have hc2 := gh_ch.up (e' := .inr (4, [.ref G.2.1, .ref G.2.2.1, .ref G.2.2.2.1, .ref G.2.2.2.2.1, .ref G.2.2.2.2.2.1, .int (nI made), .int lv, .ref G.2.2.2.2.2.2])) h1'
  refine ⟨?_, ⟨fi, hc2.keep (hc.keep a1 (by omega)) (by omega), a2⟩, ⟨fm, hc2.keep (hc.keep b1 (by omega)) (by omega), b2⟩, ⟨_, hc2.keep (gh_up_self _ _ _) (by omega), fun n hn => ?_⟩, hc2.keep (hc.keep d1 (by omega)) (by omega), hc2.keep (hc.keep e1 (by omega)) (by omega), ⟨fr, hc2.keep (hc.keep g1 (by omega)) (by omega), g2⟩, fun n hn => ((k1 n hn).ch hc (by omega)).ch hc2 (by omega), k2⟩
  · rw [gh_up_self, hlv]
  · by_cases q : n = o
    · subst q
      rw [va_up_self, va_up_self]
      exact hv
    · rw [va_up_ne _ _ q, va_up_ne _ _ q]
      exact hfe2 n hn
theorem rs_R.upRoot (h : rs_R E M h0 G made cap ex hol w root row) {r : Nat} {fr : Nat → Int32} (hfr : M G.2.2.2.2.2.2 = some (7, .inl (E.2.1 0, 16, .inl fr))) (hfr2 : ∀ r, r < 16 → fr r = rt_v (root r)) {x : Option Nat} {v : Int32} (hv : v = rt_v x) (hx : ∀ n, x = some n → n < made) : rs_R E (gh_up M G.2.2.2.2.2.2 (7, .inl (E.2.1 0, 16, .inl (va_up fr r v)))) h0 G made cap ex hol w (va_up root r x) row := by
  obtain ⟨h1, ⟨fi, a1, a2⟩, ⟨fm, b1, b2⟩, ⟨fe, c1, c2⟩, d1, e1, -, k1, k2, k3⟩ := h
  have hc := gh_ch.up (e' := .inl (E.2.1 0, 16, .inl (va_up fr r v))) hfr
  refine ⟨hc.keep h1 (by omega), ⟨fi, hc.keep a1 (by omega), a2⟩, ⟨fm, hc.keep b1 (by omega), b2⟩, ⟨fe, hc.keep c1 (by omega), c2⟩, hc.keep d1 (by omega), hc.keep e1 (by omega), ⟨_, gh_up_self _ _ _, fun q hq => ?_⟩, fun n hn => (k1 n hn).ch hc (by omega), fun q hq n hn => ?_, k3⟩
  · by_cases e : q = r
    · subst e
      rw [va_up_self, va_up_self]
      exact hv
    · rw [va_up_ne _ _ e, va_up_ne _ _ e]
      exact hfr2 q hq
  · by_cases e : q = r
    · subst e
      rw [va_up_self] at hn
      exact hx n hn
    · rw [va_up_ne _ _ e] at hn
      exact k2 q hq n hn
end RS
/-! items as numbers -/
theorem it_some {x : it_I} {n : Nat} (h : x.1 = some n) : it_L x = lN (1099511627776 + n) := by
  unfold it_L
  rw [h]
theorem it_none {x : it_I} (h : x.1 = none) : it_L x = x.2.toInt64 := by
  unfold it_L
  rw [h]
theorem it_lo {x : it_I} (h : x.1 = none) : it_L x < lN 1099511627776 := by
  rw [it_none h, Int64.lt_iff_toInt_lt, Int32.toInt_toInt64]
  have h1 := Int32.toInt_lt x.2
  have e : (lN 1099511627776).toInt = 1099511627776 := by decide
  omega
theorem it_hi {x : it_I} {n : Nat} (h : x.1 = some n) (hn : n ≤ 1024) : ¬ it_L x < lN 1099511627776 := by
  rw [it_some h, Int64.lt_iff_toInt_lt]
  have e : (lN 1099511627776).toInt = 1099511627776 := by decide
  have e2 : (lN (1099511627776 + n)).toInt = ((1099511627776 + n : Nat) : Int) := lg_ofNat_toInt (by omega)
  rw [e, e2]
  omega
theorem it_sub (n : Nat) : lN (1099511627776 + n) - lN 1099511627776 = lN n := by
  rw [lN_sub (by omega), Nat.add_sub_cancel_left]
def rf_by (b : Int32) (h : Nat → Int32) (n : Nat) : Nat → Int32 := va_up h n (h n + b)
theorem hd_take {r : List it_I} {k : Nat} {x : it_I} (h : r[k]? = some x) : hd_row (r.take (k + 1)) = hd_row (r.take k) ++ x.1.toList := by
  have e : r.take (k + 1) = r.take k ++ [x] := by
    rw [List.take_add_one, h]
    rfl
  unfold hd_row
  rw [e, List.filterMap_append, List.filterMap_cons]
  cases x.1 <;> rfl
theorem gm_dec (k : Nat) : nI (k + 1) + Int32.ofInt (-1) = nI k := by
  have e : Int32.ofInt (-1) = -1 := by decide
  rw [e, ← Int32.sub_eq_add_neg]
  exact nI_pred k
