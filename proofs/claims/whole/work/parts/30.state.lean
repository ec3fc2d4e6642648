/-! the class's state: cells by tag (1: the object, 2: the roots, 3, 4, 5: its lists, 6 + 2n: thing n, 7 + 2n: its row, 0: items), and what they say -/
def cs_It (M : gh_M) (ad : Nat → Nat) (q : Nat) (x : it_I) : Prop := M q = some (0, .inr (3, [va_rf (x.1.map ad), .int x.2]))
def cs_Row (E : gk_E) (M : gh_M) (ad : Nat → Nat) (t a : Nat) (r : List it_I) : Prop := ∃ (cap : Nat) (its : List Nat), cap ≤ 450 ∧ al_L E M t a cap its ∧ its.length = r.length ∧ ∀ (i q : Nat) (x : it_I), its[i]? = some q → r[i]? = some x → cs_It M ad q x
def cs_B (b : Bool) : Int32 := if b = true then 1 else 0
def cs_Th (M : gh_M) (ad rl : Nat → Nat) (n : Nat) (h : Int32) (b : Bool) : Prop := M (ad n) = some (6 + 2 * n, .inr (2, [.int (nI n), .ref (rl n), .int h, .int (cs_B b)]))
abbrev cs_G : Type := (Nat → Nat) × (Nat → Nat) × Nat × Nat × Nat × Nat
def cs_R (E : gk_E) (M : gh_M) (h0 : Nat) (G : cs_G) (made : Nat) (T U R : List Nat) (cT cU cR : Nat) (root : Nat → Option Nat) (row : Nat → List it_I) (hld : Nat → Int32) (rch : Nat → Bool) : Prop :=
  M h0 = some (1, .inr (1, [.ref G.2.2.1, .ref G.2.2.2.1, .ref G.2.2.2.2.1, .ref G.2.2.2.2.2, .int (nI made)])) ∧
  (∃ f : Nat → Option Nat, M G.2.2.1 = some (2, .inl (E.2.1 3, 16, .inr (.inr (.inr (.inr f))))) ∧ ∀ r, r < 16 → f r = (root r).map G.1) ∧
  al_L E M 3 G.2.2.2.1 cT (T.map G.1) ∧ al_L E M 4 G.2.2.2.2.1 cU (U.map G.1) ∧ al_L E M 5 G.2.2.2.2.2 cR (R.map G.1) ∧
  (∀ n, n < made → cs_Th M G.1 G.2.1 n (hld n) (rch n)) ∧ (∀ n, n < made → cs_Row E M G.1 (7 + 2 * n) (G.2.1 n) (row n)) ∧
  (∀ n ∈ T, n < made) ∧ (∀ n ∈ U, n < made) ∧ (∀ n ∈ R, n < made) ∧ (∀ r, r < 16 → ∀ n, root r = some n → n < made) ∧ (∀ m, m < made → ∀ x ∈ row m, ∀ n, x.1 = some n → n < made) ∧ made ≤ 2 ^ 20
theorem al_L.ext {E : gk_E} {M M' : gh_M} {t a cap : Nat} {xs : List Nat} (h : al_L E M t a cap xs) (hx : ∀ b y, M b = some y → M' b = some y) : al_L E M' t a cap xs := by
  obtain ⟨mk, el, h1, h2⟩ := h
  exact ⟨mk, el, hx _ _ h1, h2.ch (fun y hy => hx _ _ hy)⟩
theorem cs_Row.ext {E : gk_E} {M M' : gh_M} {ad : Nat → Nat} {t a : Nat} {r : List it_I} (h : cs_Row E M ad t a r) (hx : ∀ b y, M b = some y → M' b = some y) : cs_Row E M' ad t a r := by
  obtain ⟨cap, its, h1, h2, h3, h4⟩ := h
  exact ⟨cap, its, h1, h2.ext hx, h3, fun i q x hi hx' => hx _ _ (h4 i q x hi hx')⟩
theorem cs_Row.ch {E : gk_E} {M M' : gh_M} {ad : Nat → Nat} {t t' a : Nat} {r : List it_I} (h : cs_Row E M ad t a r) (hc : gh_ch t' M M') (hn : t ≠ t') (h0 : t' ≠ 0) : cs_Row E M' ad t a r := by
  obtain ⟨cap, its, h1, h2, h3, h4⟩ := h
  exact ⟨cap, its, h1, h2.ch hc hn, h3, fun i q x hi hx' => hc.keep (h4 i q x hi hx') (Ne.symm h0)⟩
section CS
variable {E : gk_E} {M M' : gh_M} {h0 : Nat} {G : cs_G} {made : Nat} {T U R : List Nat} {cT cU cR : Nat} {root : Nat → Option Nat} {row : Nat → List it_I} {hld : Nat → Int32} {rch : Nat → Bool}
theorem cs_R.ext (h : cs_R E M h0 G made T U R cT cU cR root row hld rch) (hx : ∀ b y, M b = some y → M' b = some y) : cs_R E M' h0 G made T U R cT cU cR root row hld rch := by
  obtain ⟨hh, ⟨f, hf, hf2⟩, hT, hU, hR, hth, hrw, w⟩ := h
  exact ⟨hx _ _ hh, ⟨f, hx _ _ hf, hf2⟩, hT.ext hx, hU.ext hx, hR.ext hx, fun n hn => hx _ _ (hth n hn), fun n hn => (hrw n hn).ext hx, w⟩
theorem cs_R.setT (h : cs_R E M h0 G made T U R cT cU cR root row hld rch) {T' : List Nat} {c' : Nat} (hc : gh_ch 3 M M') (hn : al_L E M' 3 G.2.2.2.1 c' (T'.map G.1)) (hw : ∀ n ∈ T', n < made) : cs_R E M' h0 G made T' U R c' cU cR root row hld rch := by
  obtain ⟨hh, ⟨f, hf, hf2⟩, hT, hU, hR, hth, hrw, w1, w2, w3, w4⟩ := h
  exact ⟨hc.keep hh (by omega), ⟨f, hc.keep hf (by omega), hf2⟩, hn, hU.ch hc (by omega), hR.ch hc (by omega), fun n h => hc.keep (hth n h) (by omega), fun n h => (hrw n h).ch hc (by omega) (by omega), hw, w2, w3, w4⟩
theorem cs_R.setU (h : cs_R E M h0 G made T U R cT cU cR root row hld rch) {U' : List Nat} {c' : Nat} (hc : gh_ch 4 M M') (hn : al_L E M' 4 G.2.2.2.2.1 c' (U'.map G.1)) (hw : ∀ n ∈ U', n < made) : cs_R E M' h0 G made T U' R cT c' cR root row hld rch := by
  obtain ⟨hh, ⟨f, hf, hf2⟩, hT, hU, hR, hth, hrw, w1, w2, w3, w4⟩ := h
  exact ⟨hc.keep hh (by omega), ⟨f, hc.keep hf (by omega), hf2⟩, hT.ch hc (by omega), hn, hR.ch hc (by omega), fun n h => hc.keep (hth n h) (by omega), fun n h => (hrw n h).ch hc (by omega) (by omega), w1, hw, w3, w4⟩
theorem cs_R.setR (h : cs_R E M h0 G made T U R cT cU cR root row hld rch) {R' : List Nat} {c' : Nat} (hc : gh_ch 5 M M') (hn : al_L E M' 5 G.2.2.2.2.2 c' (R'.map G.1)) (hw : ∀ n ∈ R', n < made) : cs_R E M' h0 G made T U R' cT cU c' root row hld rch := by
  obtain ⟨hh, ⟨f, hf, hf2⟩, hT, hU, hR, hth, hrw, w1, w2, w3, w4⟩ := h
  exact ⟨hc.keep hh (by omega), ⟨f, hc.keep hf (by omega), hf2⟩, hT.ch hc (by omega), hU.ch hc (by omega), hn, fun n h => hc.keep (hth n h) (by omega), fun n h => (hrw n h).ch hc (by omega) (by omega), w1, w2, hw, w4⟩
theorem cs_R.setRow (h : cs_R E M h0 G made T U R cT cU cR root row hld rch) {k : Nat} {r : List it_I} (hc : gh_ch (7 + 2 * k) M M') (hn : cs_Row E M' G.1 (7 + 2 * k) (G.2.1 k) r) (hw : ∀ x ∈ r, ∀ n, x.1 = some n → n < made) : cs_R E M' h0 G made T U R cT cU cR root (va_up row k r) hld rch := by
  obtain ⟨hh, ⟨f, hf, hf2⟩, hT, hU, hR, hth, hrw, w1, w2, w3, w4, w5, w6⟩ := h
  refine ⟨hc.keep hh (by omega), ⟨f, hc.keep hf (by omega), hf2⟩, hT.ch hc (by omega), hU.ch hc (by omega), hR.ch hc (by omega), fun n h => hc.keep (hth n h) (by omega), fun n h => ?_, w1, w2, w3, w4, fun m hm => ?_, w6⟩
  · by_cases hnk : n = k
    · subst hnk
      rw [va_up_self]
      exact hn
    · rw [va_up_ne _ _ hnk]
      exact (hrw n h).ch hc (by omega) (by omega)
  · by_cases hmk : m = k
    · subst hmk
      rw [va_up_self]
      exact hw
    · rw [va_up_ne _ _ hmk]
      exact w5 m hm
theorem cs_R.setTh (h : cs_R E M h0 G made T U R cT cU cR root row hld rch) {k : Nat} (hk : k < made) {v : Int32} {b : Bool} : cs_R E (gh_up M (G.1 k) (6 + 2 * k, .inr (2, [.int (nI k), .ref (G.2.1 k), .int v, .int (cs_B b)]))) h0 G made T U R cT cU cR root row (va_up hld k v) (va_up rch k b) := by
  obtain ⟨hh, ⟨f, hf, hf2⟩, hT, hU, hR, hth, hrw, w⟩ := h
  have hc := gh_ch.up (e' := .inr (2, [.int (nI k), .ref (G.2.1 k), .int v, .int (cs_B b)])) (hth k hk)
  refine ⟨hc.keep hh (by omega), ⟨f, hc.keep hf (by omega), hf2⟩, hT.ch hc (by omega), hU.ch hc (by omega), hR.ch hc (by omega), fun n h => ?_, fun n h => (hrw n h).ch hc (by omega) (by omega), w⟩
  by_cases hnk : n = k
  · subst hnk
    rw [va_up_self, va_up_self]
    exact gh_up_self _ _ _
  · rw [va_up_ne _ _ hnk, va_up_ne _ _ hnk]
    exact hc.keep (hth n h) (by omega)
theorem cs_R.setRoot (h : cs_R E M h0 G made T U R cT cU cR root row hld rch) {r : Nat} (hr : r < 16) {x : Option Nat} (hx : ∀ n, x = some n → n < made) {f : Nat → Option Nat} (hf : M G.2.2.1 = some (2, .inl (E.2.1 3, 16, .inr (.inr (.inr (.inr f)))))) (hf2 : ∀ r, r < 16 → f r = (root r).map G.1) : cs_R E (gh_up M G.2.2.1 (2, .inl (E.2.1 3, 16, .inr (.inr (.inr (.inr (va_up f r (x.map G.1)))))))) h0 G made T U R cT cU cR (va_up root r x) row hld rch := by
  obtain ⟨hh, -, hT, hU, hR, hth, hrw, w1, w2, w3, w4, w5⟩ := h
  have hc := gh_ch.up (e' := .inl (E.2.1 3, 16, .inr (.inr (.inr (.inr (va_up f r (x.map G.1))))))) hf
  refine ⟨hc.keep hh (by omega), ⟨_, gh_up_self _ _ _, fun q hq => ?_⟩, hT.ch hc (by omega), hU.ch hc (by omega), hR.ch hc (by omega), fun n h => hc.keep (hth n h) (by omega), fun n h => (hrw n h).ch hc (by omega) (by omega), w1, w2, w3, fun q hq n hn => ?_, w5⟩
  · by_cases hqr : q = r
    · subst hqr
      rw [va_up_self, va_up_self]
    · rw [va_up_ne _ _ hqr, va_up_ne _ _ hqr]
      exact hf2 q hq
  · by_cases hqr : q = r
    · subst hqr
      rw [va_up_self] at hn
      exact hx n hn
    · rw [va_up_ne _ _ hqr] at hn
      exact w4 q hq n hn
theorem cs_R.el (h : cs_R E M h0 G made T U R cT cU cR root row hld rch) {k : Nat} (hk : k < made) : el_O M (G.1 k) := ⟨_, _, Or.inl (h.2.2.2.2.2.1 k hk)⟩
theorem cs_R.elL (h : cs_R E M h0 G made T U R cT cU cR root row hld rch) {X : List Nat} (hX : ∀ n ∈ X, n < made) : ∀ y ∈ X.map G.1, el_O M y := fun y hy => by
  obtain ⟨n, hn, rfl⟩ := List.mem_map.mp hy
  exact h.el (hX n hn)
end CS
theorem cs_Row.elL {E : gk_E} {M : gh_M} {ad : Nat → Nat} {r : List it_I} {its : List Nat} (h1 : its.length = r.length) (h2 : ∀ (i q : Nat) (x : it_I), its[i]? = some q → r[i]? = some x → cs_It M ad q x) : ∀ y ∈ its, el_O M y := fun y hy => by
  obtain ⟨i, hi⟩ := List.getElem?_of_mem hy
  have hil := (List.getElem?_eq_some_iff.mp hi).1
  obtain ⟨x, hx⟩ : ∃ x, r[i]? = some x := ⟨r[i]'(by omega), List.getElem?_eq_getElem (by omega)⟩
  exact ⟨_, _, Or.inr (h2 i y x hi hx)⟩
/-! the cost of adds -/
def al_to (c n : Nat) : Nat → Nat
  | 0 => c
  | k + 1 => al_cap (al_to c n k) (n + k)
theorem al_to_ok (c n : Nat) (hc : c = 0 ∨ 10 ≤ c) : ∀ k, (al_to c n k = 0 ∨ 10 ≤ al_to c n k) ∧ c ≤ al_to c n k
  | 0 => ⟨hc, Nat.le_refl _⟩
  | k + 1 => by
    obtain ⟨h1, h2⟩ := al_to_ok c n hc k
    have h3 := al_cost (al_to c n k) (n + k) h1
    refine ⟨?_, ?_⟩
    · show al_cap _ _ = 0 ∨ 10 ≤ al_cap _ _
      unfold al_cap
      by_cases q : n + k < al_to c n k
      · rw [if_pos q]
        exact h1
      · rw [if_neg q]
        by_cases q0 : al_to c n k = 0
        · rw [if_pos q0]
          exact Or.inr (Nat.le_refl _)
        · rw [if_neg q0]
          omega
    · show c ≤ al_cap _ _
      omega
theorem al_cap_le {c n B : Nat} (hc : c ≤ B) (h10 : 10 ≤ B) (hn : n + n / 2 ≤ B) (hcn : c ≤ n ∨ n < c) : al_cap c n ≤ B := by
  unfold al_cap
  by_cases q : n < c
  · rw [if_pos q]
    exact hc
  · rw [if_neg q]
    by_cases q0 : c = 0
    · rw [if_pos q0]
      exact h10
    · rw [if_neg q0]
      omega
theorem al_to_le {c n B : Nat} (hc : c ≤ B) (h10 : 10 ≤ B) : ∀ k, (n + k) + (n + k) / 2 ≤ B → al_to c n k ≤ B
  | 0, _ => hc
  | k + 1, h => by
    have ih := al_to_le (n := n) hc h10 k (by omega)
    exact al_cap_le ih h10 (by omega) (by omega)
theorem al_to_add (c n j : Nat) : ∀ k, al_to c n (j + k) = al_to (al_to c n j) (n + j) k
  | 0 => rfl
  | k + 1 => by
    show al_cap (al_to c n (j + k)) (n + (j + k)) = al_cap (al_to (al_to c n j) (n + j) k) (n + j + k)
    rw [al_to_add c n j k, Nat.add_assoc]
theorem al_L.cap {E : gk_E} {M : gh_M} {t a cap : Nat} {xs : List Nat} (h : al_L E M t a cap xs) : cap = 0 ∨ 10 ≤ cap := by
  obtain ⟨mk, el, -, ⟨-, h, -⟩ | ⟨f, -, h, -⟩⟩ := h
  · exact Or.inl h
  · exact Or.inr h
