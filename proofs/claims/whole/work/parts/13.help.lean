theorem lv_fd {ls : Array Slot} {nL : Nat} {l : List (Nat × Value)} (h : lv_has ls nL l) {i : Nat} {v : Value} (hk : l.find? (fun q => q.1 == i) = some (i, v)) : ls[i]? = some (.val v) := h.2.2 (i, v) (List.mem_of_find?_eq_some hk)
theorem gh_ix {M : gh_M} {L : List Nat} (hL : ∀ b, b ∈ L ↔ M b ≠ none) {a t : Nat} {e : va_E} (ha : M a = some (t, e)) : ∃ k : Nat, (va_pl L (gh_v M))[k]? = some (a, e) := by
  have hm : a ∈ L := (hL a).mpr (by rw [ha]; exact fun q => by cases q)
  obtain ⟨k, hk⟩ := va_pl_get (X := []) (f := gh_v M) hm
  have hk0 : (va_pl L (gh_v M))[k]? = some (a, gh_v M a) := hk
  exact ⟨k, by rw [hk0, gh_v_some ha]⟩
theorem gh_sx {D : va_G} {cl : List vw_C} {A : Nat → Prop} {M : gh_M} {L : List Nat} (hL : ∀ b, b ∈ L ↔ M b ≠ none) (hD : va_D A (va_pl L (gh_v M))) {a t k : Nat} {e : va_E} (ha : M a = some (t, e)) (hk : (va_pl L (gh_v M))[k]? = some (a, e)) (t' : Nat) (e' : va_E) (H1 : Heap)
    (p1 : va_P D cl ((va_pl L (gh_v M)).set k (a, e')) H1) (d1 : va_D A ((va_pl L (gh_v M)).set k (a, e'))) : gh_P D cl A (gh_up M a (t', e')) H1 := by
  have hm : a ∈ L := (hL a).mpr (by rw [ha]; exact fun q => by cases q)
  have hs : (va_pl L (gh_v M)).set k (a, e') = va_pl L (va_up (gh_v M) a e') := va_pl_set (X := []) hD hm (by show (va_pl L (gh_v M))[k]? = _; rw [hk, gh_v_some ha])
  rw [hs] at p1 d1
  refine ⟨L, fun b => ?_, by rw [gh_v_up]; exact p1, by rw [gh_v_up]; exact d1⟩
  by_cases hb : b = a
  · subst hb
    rw [gh_up_self]
    exact ⟨fun _ q => (by cases q), fun _ => hm⟩
  · rw [gh_up_ne _ _ hb]
    exact hL b
section GX
variable {p : Program} {l : Launch} {e : Env} {R : Room} {s : State} {m : MethodId} {args : Array Value} {below : List Frame} {meth : Method} {c : Code} {H : Heap} {locs : List Loc} {cells slots : Nat} {Q : State → Prop}
variable {cc : ByteArray} {pc : Nat} {ls : Array Slot} {rest : List Value} {D : va_G} {cl : List vw_C} {A : Nat → Prop} {a : Nat} {tys : List (ClassId × FieldType)} {M : gh_M} {H0 : Heap} {tg tg0 : Nat}
theorem gh_copyM (hexec : p.tables.exec = Jvm.exec) (hb : c.code = cc) (hml : c.maxLocals = ls.size) {own : String} {index : Nat} (hown : s.vm.findClass own = some m.cls) (hlink : (Cond.methodLink own index arraycopyName).before args s = true) (hnat : (Cond.native arraycopyName).before args s = true) (hstat : (Cond.static arraycopyName).before args s = true) (hini : (Cond.initialized "java/lang/System").before args s = true)
    (hK : va_K D cl tys s) (hP : gh_P D cl A M H) (hS : va_S A H0 H locs) (t0 t1 : Nat) {a0 : Nat} {c0 c1 : ClassId} {n0 n1 : Nat} {f g : Nat → Option Nat} {E0 E1 : String} (ha0 : M a0 = some (tg0, .inl (c0, n0, .inr (.inr (.inr (.inr f)))))) (ha1 : M a = some (tg, .inl (c1, n1, .inr (.inr (.inr (.inr g)))))) (ht0 : tys[t0]? = some (c0, .object E0)) (ht1 : tys[t1]? = some (c1, .object E1))
    {sp dp n : Nat} (h1 : sp < 2 ^ 31) (h2 : dp < 2 ^ 31) (h3 : n < 2 ^ 31) (h4 : sp + n ≤ n0) (h5 : dp + n ≤ n1) (hel : ∀ i : Nat, i < n → ∀ y : Nat, f (sp + i) = some y → va_Any E1 s H y)
    (hframes : 1 ≤ R.frames) (hlocals : (rest.map fun v => v.category).sum + (nativeFrameWords "java/lang/System" "arraycopy" 5 + 11) ≤ R.locals) (hdg : decode cc pc = .ok (.invokestatic index, 3))
    (kk : ∀ (H1 : Heap) (locs1 : List Loc), gh_P D cl A (gh_up M a (tg, .inl (c1, n1, .inr (.inr (.inr (.inr (va_cpy f g sp dp n))))))) H1 → va_S A H0 H1 locs1 → W p l e R s m args below meth c H1 locs1 cells slots Q (F0 m (pc + 3) ls rest)) : W p l e R s m args below meth c H locs cells slots Q (F0 m pc ls (.int (nI n) :: .int (nI dp) :: .ref a :: .int (nI sp) :: .ref a0 :: rest)) := by
  obtain ⟨L, hL, hP, hD⟩ := hP
  obtain ⟨q0, hq0⟩ := gh_ix hL ha0
  obtain ⟨q1, hq1⟩ := gh_ix hL ha1
  have e1 := nI_clamp h1
  have e2 := nI_clamp h2
  have e3 := nI_clamp h3
  refine va_copyM hexec hb hml hown hlink hnat hstat hini hK hP hD hS q0 q1 t0 t1 hq0 hq1 ht0 ht1 (nI_pos h1) (nI_pos h2) (nI_pos h3) (by rw [e1, e3]; exact h4) (by rw [e2, e3]; exact h5) (fun i hi y hy => hel i (by rw [e3] at hi; exact hi) y (by rw [e1] at hy; exact hy)) hframes hlocals hdg (fun H1 locs1 p1 d1 s1 => ?_)
  rw [e1, e2, e3] at p1 d1
  exact kk H1 locs1 (gh_sx hL hD ha1 hq1 _ _ _ p1 d1) s1
theorem gh_copyi (hexec : p.tables.exec = Jvm.exec) (hb : c.code = cc) (hml : c.maxLocals = ls.size) {own : String} {index : Nat} (hown : s.vm.findClass own = some m.cls) (hlink : (Cond.methodLink own index arraycopyName).before args s = true) (hnat : (Cond.native arraycopyName).before args s = true) (hstat : (Cond.static arraycopyName).before args s = true) (hini : (Cond.initialized "java/lang/System").before args s = true)
    (hK : va_K D cl tys s) (hP : gh_P D cl A M H) (hS : va_S A H0 H locs) (t0 t1 : Nat) {a0 : Nat} {c0 c1 : ClassId} {n0 n1 : Nat} {f g : Nat → Int32} (ha0 : M a0 = some (tg0, .inl (c0, n0, .inl f))) (ha1 : M a = some (tg, .inl (c1, n1, .inl g))) (ht0 : tys[t0]? = some (c0, .int)) (ht1 : tys[t1]? = some (c1, .int))
    {sp dp n : Nat} (h1 : sp < 2 ^ 31) (h2 : dp < 2 ^ 31) (h3 : n < 2 ^ 31) (h4 : sp + n ≤ n0) (h5 : dp + n ≤ n1)
    (hframes : 1 ≤ R.frames) (hlocals : (rest.map fun v => v.category).sum + (nativeFrameWords "java/lang/System" "arraycopy" 5 + 11) ≤ R.locals) (hdg : decode cc pc = .ok (.invokestatic index, 3))
    (kk : ∀ (H1 : Heap) (locs1 : List Loc), gh_P D cl A (gh_up M a (tg, .inl (c1, n1, .inl (va_cpy f g sp dp n)))) H1 → va_S A H0 H1 locs1 → W p l e R s m args below meth c H1 locs1 cells slots Q (F0 m (pc + 3) ls rest)) : W p l e R s m args below meth c H locs cells slots Q (F0 m pc ls (.int (nI n) :: .int (nI dp) :: .ref a :: .int (nI sp) :: .ref a0 :: rest)) := by
  obtain ⟨L, hL, hP, hD⟩ := hP
  obtain ⟨q0, hq0⟩ := gh_ix hL ha0
  obtain ⟨q1, hq1⟩ := gh_ix hL ha1
  have e1 := nI_clamp h1
  have e2 := nI_clamp h2
  have e3 := nI_clamp h3
  refine va_copyi hexec hb hml hown hlink hnat hstat hini hK hP hD hS q0 q1 t0 t1 hq0 hq1 ht0 ht1 rfl (nI_pos h1) (nI_pos h2) (nI_pos h3) (by rw [e1, e3]; exact h4) (by rw [e2, e3]; exact h5) (fun i hi => rfl) hframes hlocals hdg (fun H1 locs1 p1 d1 s1 => ?_)
  rw [e1, e2, e3] at p1 d1
  exact kk H1 locs1 (gh_sx hL hD ha1 hq1 _ _ _ p1 d1) s1
theorem gh_copyl (hexec : p.tables.exec = Jvm.exec) (hb : c.code = cc) (hml : c.maxLocals = ls.size) {own : String} {index : Nat} (hown : s.vm.findClass own = some m.cls) (hlink : (Cond.methodLink own index arraycopyName).before args s = true) (hnat : (Cond.native arraycopyName).before args s = true) (hstat : (Cond.static arraycopyName).before args s = true) (hini : (Cond.initialized "java/lang/System").before args s = true)
    (hK : va_K D cl tys s) (hP : gh_P D cl A M H) (hS : va_S A H0 H locs) (t0 t1 : Nat) {a0 : Nat} {c0 c1 : ClassId} {n0 n1 : Nat} {f g : Nat → Int64} (ha0 : M a0 = some (tg0, .inl (c0, n0, .inr (.inl f)))) (ha1 : M a = some (tg, .inl (c1, n1, .inr (.inl g)))) (ht0 : tys[t0]? = some (c0, .long)) (ht1 : tys[t1]? = some (c1, .long))
    {sp dp n : Nat} (h1 : sp < 2 ^ 31) (h2 : dp < 2 ^ 31) (h3 : n < 2 ^ 31) (h4 : sp + n ≤ n0) (h5 : dp + n ≤ n1)
    (hframes : 1 ≤ R.frames) (hlocals : (rest.map fun v => v.category).sum + (nativeFrameWords "java/lang/System" "arraycopy" 5 + 11) ≤ R.locals) (hdg : decode cc pc = .ok (.invokestatic index, 3))
    (kk : ∀ (H1 : Heap) (locs1 : List Loc), gh_P D cl A (gh_up M a (tg, .inl (c1, n1, .inr (.inl (va_cpy f g sp dp n))))) H1 → va_S A H0 H1 locs1 → W p l e R s m args below meth c H1 locs1 cells slots Q (F0 m (pc + 3) ls rest)) : W p l e R s m args below meth c H locs cells slots Q (F0 m pc ls (.int (nI n) :: .int (nI dp) :: .ref a :: .int (nI sp) :: .ref a0 :: rest)) := by
  obtain ⟨L, hL, hP, hD⟩ := hP
  obtain ⟨q0, hq0⟩ := gh_ix hL ha0
  obtain ⟨q1, hq1⟩ := gh_ix hL ha1
  have e1 := nI_clamp h1
  have e2 := nI_clamp h2
  have e3 := nI_clamp h3
  refine va_copyl hexec hb hml hown hlink hnat hstat hini hK hP hD hS q0 q1 t0 t1 hq0 hq1 ht0 ht1 rfl (nI_pos h1) (nI_pos h2) (nI_pos h3) (by rw [e1, e3]; exact h4) (by rw [e2, e3]; exact h5) (fun i hi => rfl) hframes hlocals hdg (fun H1 locs1 p1 d1 s1 => ?_)
  rw [e1, e2, e3] at p1 d1
  exact kk H1 locs1 (gh_sx hL hD ha1 hq1 _ _ _ p1 d1) s1
end GX
/-! an element that a list may hold; a list -/
def el_O (M : gh_M) (x : Nat) : Prop := ∃ (t : Nat) (fs : List Value), M x = some (t, .inr (2, fs)) ∨ M x = some (t, .inr (3, fs))
theorem el_O.up {M : gh_M} {x a t ci : Nat} {fs : List Value} (h : el_O M x) (ha : M a = some (t, .inr (ci, fs))) (hci : ci = 0 ∨ ci = 1) (q : Nat × va_E) : el_O (gh_up M a q) x := by
  obtain ⟨tx, gs, h⟩ := h
  have hne : x ≠ a := by
    intro e
    subst e
    rw [ha] at h
    rcases h with h | h <;> (injection h with h; injection h with _ h; injection h with h; injection h with h _; omega)
  exact ⟨tx, gs, by rw [gh_up_ne _ _ hne]; exact h⟩
theorem el_O.upA {M : gh_M} {x a t : Nat} {y : ClassId × vp_A} (h : el_O M x) (ha : M a = some (t, .inl y)) (q : Nat × va_E) : el_O (gh_up M a q) x := by
  obtain ⟨tx, gs, h⟩ := h
  have hne : x ≠ a := by
    intro e
    subst e
    rw [ha] at h
    rcases h with h | h <;> (injection h with h; injection h with _ h; cases h)
  exact ⟨tx, gs, by rw [gh_up_ne _ _ hne]; exact h⟩
theorem el_O.upN {M : gh_M} {x a : Nat} (h : el_O M x) (ha : M a = none) (q : Nat × va_E) : el_O (gh_up M a q) x := by
  obtain ⟨tx, gs, h⟩ := h
  have hne : x ≠ a := by
    intro e
    subst e
    rw [ha] at h
    rcases h with h | h <;> cases h
  exact ⟨tx, gs, by rw [gh_up_ne _ _ hne]; exact h⟩
theorem el_O.any {E : gk_E} {M : gh_M} {x : Nat} {A : Nat → Prop} {s : State} {H : Heap} (h : el_O M x) (hK : gk_K E s) (hP : gh_P E.1 cl_L A M H) : va_Any "java/lang/Object" s H x := by
  obtain ⟨t, fs, h | h⟩ := h
  · exact gh_any (q := (nR_TG, nF_TG, 4)) hK.1 hP h rfl hK.2.2.2.2.2.2.2.1
  · exact gh_any (q := (nR_IT, nF_IT, 2)) hK.1 hP h rfl hK.2.2.2.2.2.2.2.2.1
def al_D (E : gk_E) (M : gh_M) (t el cap : Nat) (xs : List Nat) : Prop := (el = E.2.2.1 ∧ cap = 0 ∧ xs = []) ∨ ∃ f : Nat → Option Nat, M el = some (t, .inl (E.2.1 2, cap, .inr (.inr (.inr (.inr f))))) ∧ 10 ≤ cap ∧ cap < 2 ^ 29 ∧ xs.length ≤ cap ∧ ∀ i, i < xs.length → f i = xs[i]?
def al_L (E : gk_E) (M : gh_M) (t a cap : Nat) (xs : List Nat) : Prop := ∃ (mk : Int32) (el : Nat), M a = some (t, .inr (0, [.int mk, .ref el, .int (nI xs.length)])) ∧ al_D E M t el cap xs
theorem al_D.len {E : gk_E} {M : gh_M} {t el cap : Nat} {xs : List Nat} (h : al_D E M t el cap xs) : xs.length ≤ cap ∧ cap < 2 ^ 29 := by
  rcases h with ⟨-, rfl, rfl⟩ | ⟨f, -, -, h2, h3, -⟩
  · exact ⟨Nat.le_refl _, by decide⟩
  · exact ⟨h3, h2⟩
theorem al_L.len {E : gk_E} {M : gh_M} {t a cap : Nat} {xs : List Nat} (h : al_L E M t a cap xs) : xs.length ≤ cap ∧ cap < 2 ^ 29 := by
  obtain ⟨mk, el, -, h⟩ := h
  exact h.len
theorem al_D.ch {E : gk_E} {M M' : gh_M} {t el cap : Nat} {xs : List Nat} (h : al_D E M t el cap xs) (hk : ∀ x, M el = some (t, .inl x) → M' el = some (t, .inl x)) : al_D E M' t el cap xs := by
  rcases h with h | ⟨f, h1, h2⟩
  · exact Or.inl h
  · exact Or.inr ⟨f, hk _ h1, h2⟩
theorem al_L.ch {E : gk_E} {M M' : gh_M} {t t' a cap : Nat} {xs : List Nat} (h : al_L E M t a cap xs) (hc : gh_ch t' M M') (hn : t ≠ t') : al_L E M' t a cap xs := by
  obtain ⟨mk, el, h1, h2⟩ := h
  exact ⟨mk, el, hc.keep h1 hn, h2.ch (fun x hx => hc.keep hx hn)⟩
/-- the capacity behind an add; what it makes -/
def al_cap (cap n : Nat) : Nat := if n < cap then cap else if cap = 0 then 10 else cap + cap / 2
def al_mc (cap n : Nat) : Nat := if n < cap then 0 else 1
def al_ms (cap n : Nat) : Nat := if n < cap then 0 else al_cap cap n
theorem al_cost (cap n : Nat) (h : cap = 0 ∨ 10 ≤ cap) : cap ≤ al_cap cap n ∧ 5 * al_mc cap n ≤ al_cap cap n - cap ∧ al_ms cap n ≤ 4 * (al_cap cap n - cap) := by
  unfold al_mc al_ms al_cap
  by_cases hn : n < cap
  · simp [hn]
  · by_cases hc : cap = 0
    · subst hc
      simp
    · simp only [hn, hc, if_false]
      omega
/-! a method's end -/
section GE
variable {p : Program} {l : Launch} {e : Env} {R : Room} {s : State} {m : MethodId} {args : Array Value} {below : List Frame} {meth : Method} {c : Code} {H : Heap} {locs : List Loc} {cells slots : Nat} {cc : ByteArray} {pc : Nat} {ls : Array Slot} {E : gk_E} {M M' : gh_M}
theorem gk_ev {post : gh_M → Prop} (hx : p.tables.exec = Jvm.exec) (hb : c.code = cc) (hr : meth.sig.returnType = none) (hlk : meth.locks = false) (hP : gh_P E.1 cl_L (gh_A M s.heap.size) M' H) (hS : va_S (gh_A M s.heap.size) s.heap H locs) (hdg : decode cc pc = .ok (.return_, 1)) (hp : post M') :
    W p l e R s m args below meth c H locs cells slots (MQ below (va_Qv post (gk_B E M s.heap.size) (gh_A M s.heap.size)) args s cells slots (gh_A M s.heap.size)) (F0 m pc ls []) :=
  W.vret hx hb hr (fun t ht _ => ⟨⟨M', rfl, hp, by show gh_P _ _ _ _ t.heap; rw [ht]; exact hP⟩, hS.F ht⟩) hS.2.2 hdg
theorem gk_ei {post : Int32 → gh_M → Prop} {v : Int32} (hx : p.tables.exec = Jvm.exec) (hb : c.code = cc) (hr : meth.sig.returnType = some .int) (hlk : meth.locks = false) (hP : gh_P E.1 cl_L (gh_A M s.heap.size) M' H) (hS : va_S (gh_A M s.heap.size) s.heap H locs) (hdg : decode cc pc = .ok (.ireturn, 1)) (hp : post v M') :
    W p l e R s m args below meth c H locs cells slots (MQ below (va_Qi post (gk_B E M s.heap.size) (gh_A M s.heap.size)) args s cells slots (gh_A M s.heap.size)) (F0 m pc ls [.int v]) :=
  W.iret hx hb hr (fun t ht _ => ⟨⟨v, M', rfl, hp, by show gh_P _ _ _ _ t.heap; rw [ht]; exact hP⟩, hS.F ht⟩) hS.2.2 hdg
theorem gk_ez {post : Int32 → gh_M → Prop} {v : Int32} (hx : p.tables.exec = Jvm.exec) (hb : c.code = cc) (hr : meth.sig.returnType = some .boolean) (hlk : meth.locks = false) (hn : narrow .boolean (.int v) = .int v) (hP : gh_P E.1 cl_L (gh_A M s.heap.size) M' H) (hS : va_S (gh_A M s.heap.size) s.heap H locs) (hdg : decode cc pc = .ok (.ireturn, 1)) (hp : post v M') :
    W p l e R s m args below meth c H locs cells slots (MQ below (va_Qi post (gk_B E M s.heap.size) (gh_A M s.heap.size)) args s cells slots (gh_A M s.heap.size)) (F0 m pc ls [.int v]) :=
  W.zret hx hb hr hn (fun t ht _ => ⟨⟨v, M', rfl, hp, by show gh_P _ _ _ _ t.heap; rw [ht]; exact hP⟩, hS.F ht⟩) hS.2.2 hdg
theorem gk_el {post : Int64 → gh_M → Prop} {v : Int64} (hx : p.tables.exec = Jvm.exec) (hb : c.code = cc) (hr : meth.sig.returnType = some .long) (hlk : meth.locks = false) (hP : gh_P E.1 cl_L (gh_A M s.heap.size) M' H) (hS : va_S (gh_A M s.heap.size) s.heap H locs) (hdg : decode cc pc = .ok (.lreturn, 1)) (hp : post v M') :
    W p l e R s m args below meth c H locs cells slots (MQ below (va_Ql post (gk_B E M s.heap.size) (gh_A M s.heap.size)) args s cells slots (gh_A M s.heap.size)) (F0 m pc ls [.long v]) :=
  W.lret hx hb hr (fun t ht _ => ⟨⟨v, M', rfl, hp, by show gh_P _ _ _ _ t.heap; rw [ht]; exact hP⟩, hS.F ht⟩) hS.2.2 hdg
theorem gk_eq {post : Option Nat → gh_M → Prop} {v : Option Nat} {rt : FieldType} (hx : p.tables.exec = Jvm.exec) (hb : c.code = cc) (hr : meth.sig.returnType = some rt) (hrt : (∃ n, rt = .object n) ∨ ∃ t, rt = .array t) (hlk : meth.locks = false) (hP : gh_P E.1 cl_L (gh_A M s.heap.size) M' H) (hS : va_S (gh_A M s.heap.size) s.heap H locs) (hdg : decode cc pc = .ok (.areturn, 1)) (hp : post v M') :
    W p l e R s m args below meth c H locs cells slots (MQ below (va_Qq post (gk_B E M s.heap.size) (gh_A M s.heap.size)) args s cells slots (gh_A M s.heap.size)) (F0 m pc ls [va_rf v]) :=
  W.aret hx hb hr hrt (va_rf_or v) (fun t ht _ => ⟨⟨v, M', rfl, hp, by show gh_P _ _ _ _ t.heap; rw [ht]; exact hP⟩, hS.F ht⟩) hS.2.2 hdg
end GE
