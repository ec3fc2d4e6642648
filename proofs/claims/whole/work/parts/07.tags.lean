/-! only cells of one tag have changed -/
def gh_ch (t : Nat) (M M' : gh_M) : Prop := ∀ q, M' q = M q ∨ ((M q = none ∨ ∃ e, M q = some (t, e)) ∧ ∃ e', M' q = some (t, e'))
theorem gh_ch.rf (t : Nat) (M : gh_M) : gh_ch t M M := fun _ => Or.inl rfl
theorem gh_ch.keep {t : Nat} {M M' : gh_M} (h : gh_ch t M M') {q t' : Nat} {e : va_E} (hq : M q = some (t', e)) (ht : t' ≠ t) : M' q = some (t', e) := by
  rcases h q with h1 | ⟨h1 | ⟨e1, h1⟩, -⟩
  · rw [h1]; exact hq
  · rw [h1] at hq; cases hq
  · rw [h1] at hq
    exact absurd (Prod.mk.inj (Option.some.inj hq)).1.symm ht
theorem gh_ch.trans {t : Nat} {M M' M2 : gh_M} (h : gh_ch t M M') (h2 : gh_ch t M' M2) : gh_ch t M M2 := by
  intro q
  rcases h q with h1 | ⟨h1, e1, h3⟩
  · rcases h2 q with g1 | ⟨g1, g2⟩
    · exact Or.inl (g1.trans h1)
    · rw [h1] at g1
      exact Or.inr ⟨g1, g2⟩
  · rcases h2 q with g1 | ⟨g1, g2⟩
    · exact Or.inr ⟨h1, e1, g1.trans h3⟩
    · exact Or.inr ⟨h1, g2⟩
theorem gh_ch.up {t : Nat} {M : gh_M} {a : Nat} {e e' : va_E} (h : M a = some (t, e)) : gh_ch t M (gh_up M a (t, e')) := by
  intro q
  by_cases hq : q = a
  · subst hq
    exact Or.inr ⟨Or.inr ⟨e, h⟩, e', gh_up_self _ _ _⟩
  · exact Or.inl (gh_up_ne _ _ hq)
theorem gh_ch.new {t : Nat} {M : gh_M} {a : Nat} {e' : va_E} (h : M a = none) : gh_ch t M (gh_up M a (t, e')) := by
  intro q
  by_cases hq : q = a
  · subst hq
    exact Or.inr ⟨Or.inl h, e', gh_up_self _ _ _⟩
  · exact Or.inl (gh_up_ne _ _ hq)
theorem gh_ne {M : gh_M} {a b : Nat} {x y : Nat × va_E} (ha : M a = some x) (hb : M b = some y) (hn : x ≠ y) : a ≠ b := by
  intro q
  subst q
  rw [ha] at hb
  exact hn (Option.some.inj hb)
theorem gh_ne0 {M : gh_M} {a b : Nat} {x : Nat × va_E} (ha : M a = some x) (hb : M b = none) : a ≠ b := by
  intro q
  subst q
  rw [ha] at hb
  cases hb
/-- a cell elsewhere stays -/
theorem gh_up_at {M : gh_M} {a b : Nat} {q x : Nat × va_E} (hb : M b = some x) (hn : b ≠ a) : gh_up M a q b = some x := by
  rw [gh_up_ne _ _ hn]
  exact hb
