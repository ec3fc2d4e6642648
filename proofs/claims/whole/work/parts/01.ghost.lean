/-! the ghost map: which cells the system owns, each with a tag; the kit's pools behind it -/
abbrev gh_M : Type := Nat → Option (Nat × va_E)
def gh_v (M : gh_M) (a : Nat) : va_E := match M a with
  | some q => q.2
  | none => .inr (0, [])
def gh_up (M : gh_M) (a : Nat) (q : Nat × va_E) : gh_M := fun b => if b = a then some q else M b
theorem gh_up_self (M : gh_M) (a : Nat) (q : Nat × va_E) : gh_up M a q a = some q := if_pos rfl
theorem gh_up_ne (M : gh_M) {a b : Nat} (q : Nat × va_E) (h : b ≠ a) : gh_up M a q b = M b := if_neg h
theorem gh_v_some {M : gh_M} {a t : Nat} {e : va_E} (h : M a = some (t, e)) : gh_v M a = e := by
  simp [gh_v, h]
theorem gh_v_up (M : gh_M) (a t : Nat) (e : va_E) : gh_v (gh_up M a (t, e)) = va_up (gh_v M) a e := by
  funext b
  by_cases h : b = a
  · subst h
    simp [gh_v, gh_up, va_up]
  · simp [gh_v, gh_up, va_up, h]
def gh_P (D : va_G) (cl : List vw_C) (A : Nat → Prop) (M : gh_M) (H : Heap) : Prop :=
  ∃ L : List Nat, (∀ a, a ∈ L ↔ M a ≠ none) ∧ va_P D cl (va_pl L (gh_v M)) H ∧ va_D A (va_pl L (gh_v M))
theorem gh_P.look {D : va_G} {cl : List vw_C} {A : Nat → Prop} {M : gh_M} {H : Heap} (h : gh_P D cl A M H) {a t : Nat} {e : va_E} (ha : M a = some (t, e)) :
    ∃ (L : List Nat) (k : Nat), (∀ b, b ∈ L ↔ M b ≠ none) ∧ va_P D cl (va_pl L (gh_v M)) H ∧ va_D A (va_pl L (gh_v M)) ∧ (va_pl L (gh_v M))[k]? = some (a, e) ∧
      ∀ (t' : Nat) (e' : va_E) (H1 : Heap), va_P D cl ((va_pl L (gh_v M)).set k (a, e')) H1 → va_D A ((va_pl L (gh_v M)).set k (a, e')) → gh_P D cl A (gh_up M a (t', e')) H1 := by
  obtain ⟨L, hL, hP, hD⟩ := h
  have hm : a ∈ L := (hL a).mpr (by rw [ha]; exact fun q => by cases q)
  obtain ⟨k, hk⟩ := va_pl_get (X := []) (f := gh_v M) hm
  have hk0 : (va_pl L (gh_v M))[k]? = some (a, gh_v M a) := hk
  have hk1 : (va_pl L (gh_v M))[k]? = some (a, e) := by rw [hk0, gh_v_some ha]
  refine ⟨L, k, hL, hP, hD, hk1, fun t' e' H1 p1 d1 => ?_⟩
  have hs : (va_pl L (gh_v M)).set k (a, e') = va_pl L (va_up (gh_v M) a e') := va_pl_set (X := []) hD hm hk
  rw [hs] at p1 d1
  refine ⟨L, fun b => ?_, by rw [gh_v_up]; exact p1, by rw [gh_v_up]; exact d1⟩
  by_cases hb : b = a
  · subst hb
    rw [gh_up_self]
    exact ⟨fun _ q => (by cases q), fun _ => hm⟩
  · rw [gh_up_ne _ _ hb]
    exact hL b
theorem gh_P.pushed {D : va_G} {cl : List vw_C} {A : Nat → Prop} {M : gh_M} {L : List Nat} {q t : Nat} {e : va_E} {H1 : Heap} (hL : ∀ b, b ∈ L ↔ M b ≠ none)
    (p1 : va_P D cl (va_pl L (gh_v M) ++ [(q, e)]) H1) (d1 : va_D A (va_pl L (gh_v M) ++ [(q, e)])) : M q = none ∧ gh_P D cl A (gh_up M q (t, e)) H1 := by
  have hq : q ∉ L := va_pl_fresh2 (X := []) d1
  have hn : M q = none := by
    cases h : M q with
    | none => rfl
    | some x => exact absurd ((hL q).mpr (by rw [h]; exact fun z => by cases z)) hq
  rw [va_pl_push hq] at p1 d1
  refine ⟨hn, L ++ [q], fun b => ?_, by rw [gh_v_up]; exact p1, by rw [gh_v_up]; exact d1⟩
  by_cases hb : b = q
  · subst hb
    rw [gh_up_self]
    exact ⟨fun _ z => (by cases z), fun _ => List.mem_append_right _ List.mem_cons_self⟩
  · rw [gh_up_ne _ _ hb, List.mem_append, ← hL b]
    exact ⟨fun z => z.elim id (fun z => absurd (List.mem_singleton.mp z) hb), Or.inl⟩
theorem gh_P.dom {D : va_G} {cl : List vw_C} {A : Nat → Prop} {M : gh_M} {H : Heap} (h : gh_P D cl A M H) {a : Nat} (ha : M a ≠ none) : A a ∧ a < H.size := by
  cases hm : M a with
  | none => exact absurd hm ha
  | some q =>
    obtain ⟨t, e⟩ := q
    obtain ⟨L, k, -, hP, hD, hk, -⟩ := h.look hm
    exact ⟨hD.2 k _ hk, (hP k _ hk).lt⟩
theorem gh_P.kept {D : va_G} {cl : List vw_C} {A B : Nat → Prop} {M : gh_M} {H H1 : Heap} (h : gh_P D cl A M H) (hq : ∀ a, M a ≠ none → H1[a]? = H[a]?) (hB : ∀ a, M a ≠ none → B a) : gh_P D cl B M H1 := by
  obtain ⟨L, hL, hP, hD⟩ := h
  have key : ∀ (k : Nat) (x : Nat × va_E), (va_pl L (gh_v M))[k]? = some x → M x.1 ≠ none := by
    intro k x hx
    have := List.mem_of_getElem? hx
    unfold va_pl at this
    obtain ⟨b, hb, rfl⟩ := List.mem_map.mp this
    exact (hL b).mp hb
  exact ⟨L, hL, hP.kept (fun k x hx => hq x.1 (key k x hx)), hD.1, fun k x hx => hB x.1 (key k x hx)⟩
theorem gh_P.weaken {D : va_G} {cl : List vw_C} {A B : Nat → Prop} {M : gh_M} {H : Heap} (h : gh_P D cl A M H) (hB : ∀ a, A a → B a) : gh_P D cl B M H := h.kept (fun _ _ => rfl) (fun _ ha => hB _ (h.dom ha).1)
def gh_A (M : gh_M) (sz : Nat) : Nat → Prop := fun q => M q ≠ none ∨ sz ≤ q
theorem gh_P.self {D : va_G} {cl : List vw_C} {A : Nat → Prop} {M : gh_M} {H : Heap} (h : gh_P D cl A M H) (sz : Nat) : gh_P D cl (gh_A M sz) M H := h.kept (fun _ _ => rfl) (fun _ ha => Or.inl ha)
theorem gh_free {D : va_G} {cl : List vw_C} {A : Nat → Prop} {M : gh_M} {H0 H : Heap} {locs : List Loc} (h : gh_P D cl A M H) (hS : va_S A H0 H locs) (hA : ∀ q, H0.size ≤ q → A q) : ∀ q, gh_A M H.size q → A q := by
  intro q hq
  rcases hq with hq | hq
  · exact (h.dom hq).1
  · exact hA q (Nat.le_trans hS.1 hq)
theorem gh_empty (D : va_G) (cl : List vw_C) (A : Nat → Prop) (H : Heap) : gh_P D cl A (fun _ => none) H :=
  ⟨[], fun a => ⟨fun h => (by cases h), fun h => absurd rfl h⟩, fun k q h => (by cases h), fun i j x y h => (by cases h), fun k q h => (by cases h)⟩
section GH
variable {p : Program} {l : Launch} {e : Env} {R : Room} {s : State} {m : MethodId} {args : Array Value} {below : List Frame} {meth : Method} {c : Code} {H : Heap} {locs : List Loc} {cells slots : Nat} {Q : State → Prop}
variable {cc : ByteArray} {pc : Nat} {ls : Array Slot} {rest : List Value} {D : va_G} {cl : List vw_C} {A : Nat → Prop} {a : Nat} {tys : List (ClassId × FieldType)} {M : gh_M} {H0 : Heap} {tg : Nat}
theorem gh_get (hexec : p.tables.exec = Jvm.exec) (hb : c.code = cc) {own ref C : String} {T : u_T} {N ci index : Nat} {Ts : List Cond} (hts : ∀ w ∈ Ts, w.before args s = true) (hin : ∀ w ∈ u_ws C T N, w ∈ Ts) (hown : s.vm.findClass own = some m.cls) (hK : va_K D cl tys s) (hP : gh_P D cl A M H) {fs : List Value} (he : M a = some (tg, .inr (ci, fs))) (hc : cl[ci]? = some (C, T, N)) (k : Nat) (hk : k < N) (hlink : (Cond.fieldLink own index ref (T k).2.1 (T k).2.2.1).before args s = true) (hsame : ∀ x, s.fieldFound? (T k).1 (T k).2.1 (T k).2.2.1 = some x → s.fieldFound? ref (T k).2.1 (T k).2.2.1 = some x) {v : Value} (hv : fs[k]? = some v) (hdg : decode cc pc = .ok (.getfield index, 3))
    (kk : W p l e R s m args below meth c H locs cells slots Q (F0 m (pc + 3) ls (v :: rest))) : W p l e R s m args below meth c H locs cells slots Q (F0 m pc ls (.ref a :: rest)) := by
  obtain ⟨L, q0, -, hP, -, hq, -⟩ := hP.look he
  exact va_get hexec hb hts hin hown hK hP q0 hq hc k hk hlink hsame hv hdg kk
theorem gh_put (hexec : p.tables.exec = Jvm.exec) (hb : c.code = cc) {own ref C : String} {T : u_T} {N ci index : Nat} {Ts : List Cond} (hts : ∀ w ∈ Ts, w.before args s = true) (hin : ∀ w ∈ u_ws C T N, w ∈ Ts) (ty0 : Nat → FieldType) (hty : ∀ k, k < N → parseFieldDescriptor (T k).2.2.1 = some (ty0 k)) (hnm : ∀ a, a < N → ∀ b, b < N → a ≠ b → (T a).2.1 ≠ (T b).2.1) (hown : s.vm.findClass own = some m.cls) (hK : va_K D cl tys s) (hP : gh_P D cl A M H) (hS0 : va_S A H0 H locs) {fs fs' : List Value} (he : M a = some (tg, .inr (ci, fs))) (hc : cl[ci]? = some (C, T, N)) (k : Nat) (hk : k < N) (hlink : (Cond.fieldLink own index ref (T k).2.1 (T k).2.2.1).before args s = true) (hsame : ∀ x, s.fieldFound? (T k).1 (T k).2.1 (T k).2.2.1 = some x → s.fieldFound? ref (T k).2.1 (T k).2.2.1 = some x) (hfin : (T k).2.2.2 = false) {ty : FieldType} {v : Value} (hd : parseFieldDescriptor (T k).2.2.1 = some ty) (hn : narrow ty v = v) (hfit : fits ty v = true) (hl : k < fs.length) (hfs : fs.set k v = fs')
    (hdg : decode cc pc = .ok (.putfield index, 3)) (kk : ∀ (H1 : Heap) (locs1 : List Loc), gh_P D cl A (gh_up M a (tg, .inr (ci, fs'))) H1 → va_S A H0 H1 locs1 → W p l e R s m args below meth c H1 locs1 cells slots Q (F0 m (pc + 3) ls rest)) : W p l e R s m args below meth c H locs cells slots Q (F0 m pc ls (v :: .ref a :: rest)) := by
  obtain ⟨L, q0, -, hP, hD, hq, hset⟩ := hP.look he
  subst hfs
  exact va_put hexec hb hts hin ty0 hty hnm hown hK hP hD hS0 q0 hq hc k hk hlink hsame hfin hd hn hfit hl hdg (fun H1 locs1 p1 d1 s1 => kk H1 locs1 (hset _ _ _ p1 d1) s1)
theorem gh_putF (hexec : p.tables.exec = Jvm.exec) (hb : c.code = cc) {own ref C : String} {T : u_T} {N ci index : Nat} {Ts : List Cond} (hts : ∀ w ∈ Ts, w.before args s = true) (hin : ∀ w ∈ u_ws C T N, w ∈ Ts) (ty0 : Nat → FieldType) (hty : ∀ k, k < N → parseFieldDescriptor (T k).2.2.1 = some (ty0 k)) (hnm : ∀ a, a < N → ∀ b, b < N → a ≠ b → (T a).2.1 ≠ (T b).2.1) (hown : s.vm.findClass own = some m.cls) (hK : va_K D cl tys s) (hP : gh_P D cl A M H) (hS0 : va_S A H0 H locs) {fs fs' : List Value} (he : M a = some (tg, .inr (ci, fs))) (hc : cl[ci]? = some (C, T, N)) (k : Nat) (hk : k < N) (hlink : (Cond.fieldLink own index ref (T k).2.1 (T k).2.2.1).before args s = true) (hsame : ∀ x, s.fieldFound? (T k).1 (T k).2.1 (T k).2.2.1 = some x → s.fieldFound? ref (T k).2.1 (T k).2.2.1 = some x) (hfin : (T k).2.2.2 = true) (hin2 : meth.name = "<init>") (hdecl : (T k).1 = own) {ty : FieldType} {v : Value} (hd : parseFieldDescriptor (T k).2.2.1 = some ty) (hn : narrow ty v = v) (hfit : fits ty v = true) (hl : k < fs.length) (hfs : fs.set k v = fs')
    (hdg : decode cc pc = .ok (.putfield index, 3)) (kk : ∀ (H1 : Heap) (locs1 : List Loc), gh_P D cl A (gh_up M a (tg, .inr (ci, fs'))) H1 → va_S A H0 H1 locs1 → W p l e R s m args below meth c H1 locs1 cells slots Q (F0 m (pc + 3) ls rest)) : W p l e R s m args below meth c H locs cells slots Q (F0 m pc ls (v :: .ref a :: rest)) := by
  obtain ⟨L, q0, -, hP, hD, hq, hset⟩ := hP.look he
  subst hfs
  exact va_putF hexec hb hts hin ty0 hty hnm hown hK hP hD hS0 q0 hq hc k hk hlink hsame hfin hin2 hdecl hd hn hfit hl hdg (fun H1 locs1 p1 d1 s1 => kk H1 locs1 (hset _ _ _ p1 d1) s1)
theorem gh_alen (hexec : p.tables.exec = Jvm.exec) (hb : c.code = cc) (hK : va_K D cl tys s) (hP : gh_P D cl A M H) (t0 : Nat) {cA : ClassId} {x : vp_A} (ha : M a = some (tg, .inl (cA, x))) {ty : FieldType} (ht : tys[t0]? = some (cA, ty)) {v : Int32} (hv : Int32.ofNat x.1 = v) (hdg : decode cc pc = .ok (.arraylength, 1))
    (kk : W p l e R s m args below meth c H locs cells slots Q (F0 m (pc + 1) ls (.int v :: rest))) : W p l e R s m args below meth c H locs cells slots Q (F0 m pc ls (.ref a :: rest)) := by
  obtain ⟨L, q0, -, hP, -, hq, -⟩ := hP.look ha
  exact va_alen hexec hb hK hP q0 t0 hq ht hv hdg kk
theorem gh_iald (hexec : p.tables.exec = Jvm.exec) (hb : c.code = cc) (hK : va_K D cl tys s) (hP : gh_P D cl A M H) (t0 : Nat) {cA : ClassId} {n : Nat} {f : Nat → Int32} (ha : M a = some (tg, .inl (cA, n, .inl f))) (ht : tys[t0]? = some (cA, .int)) {i : Int32} {j : Nat} (hi : i = nI j) (hj : j < n) (hn : n < 2 ^ 31) {v : Int32} (hv : f j = v) (hdg : decode cc pc = .ok (.iaload, 1))
    (kk : W p l e R s m args below meth c H locs cells slots Q (F0 m (pc + 1) ls (.int v :: rest))) : W p l e R s m args below meth c H locs cells slots Q (F0 m pc ls (.int i :: .ref a :: rest)) := by
  obtain ⟨L, q0, -, hP, -, hq, -⟩ := hP.look ha
  subst hi
  subst hv
  refine va_iald hexec hb hK hP q0 t0 hq ht (vp_in_nI hj hn) hdg ?_
  rw [nI_clamp (by omega)]
  exact kk
theorem gh_iast (hexec : p.tables.exec = Jvm.exec) (hb : c.code = cc) (hK : va_K D cl tys s) (hP : gh_P D cl A M H) (hS : va_S A H0 H locs) (t0 : Nat) {cA : ClassId} {n : Nat} {f : Nat → Int32} (ha : M a = some (tg, .inl (cA, n, .inl f))) (ht : tys[t0]? = some (cA, .int)) {i : Int32} {j : Nat} (hi : i = nI j) (hj : j < n) (hn : n < 2 ^ 31) {x : Int32} (hdg : decode cc pc = .ok (.iastore, 1))
    (kk : ∀ (H1 : Heap) (locs1 : List Loc), gh_P D cl A (gh_up M a (tg, .inl (cA, n, .inl (upd f j x)))) H1 → va_S A H0 H1 locs1 → W p l e R s m args below meth c H1 locs1 cells slots Q (F0 m (pc + 1) ls rest)) : W p l e R s m args below meth c H locs cells slots Q (F0 m pc ls (.int x :: .int i :: .ref a :: rest)) := by
  obtain ⟨L, q0, -, hP, hD, hq, hset⟩ := hP.look ha
  subst hi
  refine va_iast hexec hb hK hP hD hS q0 t0 hq ht (vp_in_nI hj hn) hdg (fun H1 locs1 p1 d1 s1 => ?_)
  rw [nI_clamp (by omega)] at p1 d1
  exact kk H1 locs1 (hset _ _ _ p1 d1) s1
theorem gh_lald (hexec : p.tables.exec = Jvm.exec) (hb : c.code = cc) (hK : va_K D cl tys s) (hP : gh_P D cl A M H) (t0 : Nat) {cA : ClassId} {n : Nat} {f : Nat → Int64} (ha : M a = some (tg, .inl (cA, n, .inr (.inl f)))) (ht : tys[t0]? = some (cA, .long)) {i : Int32} {j : Nat} (hi : i = nI j) (hj : j < n) (hn : n < 2 ^ 31) {v : Int64} (hv : f j = v) (hdg : decode cc pc = .ok (.laload, 1))
    (kk : W p l e R s m args below meth c H locs cells slots Q (F0 m (pc + 1) ls (.long v :: rest))) : W p l e R s m args below meth c H locs cells slots Q (F0 m pc ls (.int i :: .ref a :: rest)) := by
  obtain ⟨L, q0, -, hP, -, hq, -⟩ := hP.look ha
  subst hi
  subst hv
  refine va_lald hexec hb hK hP q0 t0 hq ht (vp_in_nI hj hn) hdg ?_
  rw [nI_clamp (by omega)]
  exact kk
theorem gh_last (hexec : p.tables.exec = Jvm.exec) (hb : c.code = cc) (hK : va_K D cl tys s) (hP : gh_P D cl A M H) (hS : va_S A H0 H locs) (t0 : Nat) {cA : ClassId} {n : Nat} {f : Nat → Int64} (ha : M a = some (tg, .inl (cA, n, .inr (.inl f)))) (ht : tys[t0]? = some (cA, .long)) {i : Int32} {j : Nat} (hi : i = nI j) (hj : j < n) (hn : n < 2 ^ 31) {x : Int64} (hdg : decode cc pc = .ok (.lastore, 1))
    (kk : ∀ (H1 : Heap) (locs1 : List Loc), gh_P D cl A (gh_up M a (tg, .inl (cA, n, .inr (.inl (vp_updL f j x))))) H1 → va_S A H0 H1 locs1 → W p l e R s m args below meth c H1 locs1 cells slots Q (F0 m (pc + 1) ls rest)) : W p l e R s m args below meth c H locs cells slots Q (F0 m pc ls (.long x :: .int i :: .ref a :: rest)) := by
  obtain ⟨L, q0, -, hP, hD, hq, hset⟩ := hP.look ha
  subst hi
  refine va_last hexec hb hK hP hD hS q0 t0 hq ht (vp_in_nI hj hn) hdg (fun H1 locs1 p1 d1 s1 => ?_)
  rw [nI_clamp (by omega)] at p1 d1
  exact kk H1 locs1 (hset _ _ _ p1 d1) s1
/-- a load from an array of references (of objects, or of arrays) -/
theorem gh_aald (hexec : p.tables.exec = Jvm.exec) (hb : c.code = cc) (hK : va_K D cl tys s) (hP : gh_P D cl A M H) (t0 : Nat) {cA : ClassId} {n : Nat} {f : Nat → Option Nat} (ha : M a = some (tg, .inl (cA, n, .inr (.inr (.inr (.inr f)))))) {ty : FieldType} (ht : tys[t0]? = some (cA, ty)) (hty : ty.isReference = true) {i : Int32} {j : Nat} (hi : i = nI j) (hj : j < n) (hn : n < 2 ^ 31) {v : Value} (hv : va_rf (f j) = v) (hdg : decode cc pc = .ok (.aaload, 1))
    (kk : W p l e R s m args below meth c H locs cells slots Q (F0 m (pc + 1) ls (v :: rest))) : W p l e R s m args below meth c H locs cells slots Q (F0 m pc ls (.int i :: .ref a :: rest)) := by
  obtain ⟨L, q0, -, hP, -, hq, -⟩ := hP.look ha
  subst hi
  subst hv
  have hin := vp_in_nI hj hn
  have hlt : (nI j).toNatClampNeg < n := Nat.not_le.mp fun q => hin (Or.inr q)
  refine W.aald (v := va_rf (f j)) (ty := ty) hexec hb (hP q0 _ hq) ((hK.2 t0 _ ht).1 n (fun j => va_rf (f j))) hty (fun q => by cases q) (by show ¬ (nI j < 0 ∨ (arrV _ _ _).slots.size ≤ _); rw [arrV_size]; exact hin) (by show (arrV _ _ _).slots[_]? = _; rw [arrV_read _ _ hlt, nI_clamp (by omega)]) rfl rfl hdg kk
/-- a store of an object that may lie there -/
theorem gh_aast (hexec : p.tables.exec = Jvm.exec) (hb : c.code = cc) (hK : va_K D cl tys s) (hP : gh_P D cl A M H) (hS : va_S A H0 H locs) (t0 : Nat) {E : String} {cA : ClassId} {n v : Nat} {f : Nat → Option Nat} (ha : M a = some (tg, .inl (cA, n, .inr (.inr (.inr (.inr f)))))) (ht : tys[t0]? = some (cA, .object E)) (hr : va_Any E s H v) {i : Int32} {j : Nat} (hi : i = nI j) (hj : j < n) (hn : n < 2 ^ 31) (hdg : decode cc pc = .ok (.aastore, 1))
    (kk : ∀ (H1 : Heap) (locs1 : List Loc), gh_P D cl A (gh_up M a (tg, .inl (cA, n, .inr (.inr (.inr (.inr (va_up f j (some v)))))))) H1 → va_S A H0 H1 locs1 → W p l e R s m args below meth c H1 locs1 cells slots Q (F0 m (pc + 1) ls rest)) : W p l e R s m args below meth c H locs cells slots Q (F0 m pc ls (.ref v :: .int i :: .ref a :: rest)) := by
  obtain ⟨L, q0, -, hP, hD, hq, hset⟩ := hP.look ha
  subst hi
  refine va_astqM hexec hb hK hP hD hS q0 t0 hq ht hr (vp_in_nI hj hn) hdg (fun H1 locs1 p1 d1 s1 => ?_)
  rw [nI_clamp (by omega)] at p1 d1
  exact kk H1 locs1 (hset _ _ _ p1 d1) s1
/-- .. of null -/
theorem gh_aastN (hexec : p.tables.exec = Jvm.exec) (hb : c.code = cc) (hK : va_K D cl tys s) (hP : gh_P D cl A M H) (hS : va_S A H0 H locs) (t0 : Nat) {E : String} {cA : ClassId} {n : Nat} {f : Nat → Option Nat} (ha : M a = some (tg, .inl (cA, n, .inr (.inr (.inr (.inr f)))))) (ht : tys[t0]? = some (cA, .object E)) {i : Int32} {j : Nat} (hi : i = nI j) (hj : j < n) (hn : n < 2 ^ 31) (hdg : decode cc pc = .ok (.aastore, 1))
    (kk : ∀ (H1 : Heap) (locs1 : List Loc), gh_P D cl A (gh_up M a (tg, .inl (cA, n, .inr (.inr (.inr (.inr (va_up f j none))))))) H1 → va_S A H0 H1 locs1 → W p l e R s m args below meth c H1 locs1 cells slots Q (F0 m (pc + 1) ls rest)) : W p l e R s m args below meth c H locs cells slots Q (F0 m pc ls (.null :: .int i :: .ref a :: rest)) := by
  obtain ⟨L, q0, -, hP, hD, hq, hset⟩ := hP.look ha
  subst hi
  refine va_astqN hexec hb hK hP hD hS q0 t0 hq ht (vp_in_nI hj hn) hdg (fun H1 locs1 p1 d1 s1 => ?_)
  rw [nI_clamp (by omega)] at p1 d1
  exact kk H1 locs1 (hset _ _ _ p1 d1) s1
/-- a new object -/
theorem gh_new (tn : Nat) (hexec : p.tables.exec = Jvm.exec) (hb : c.code = cc) {own C : String} {T : u_T} {N ci index : Nat} {Ts : List Cond} (hts : ∀ w ∈ Ts, w.before args s = true) (hin : ∀ w ∈ u_ws C T N, w ∈ Ts) (ty : Nat → FieldType) (hty : ∀ k, k < N → parseFieldDescriptor (T k).2.2.1 = some (ty k)) (hown : s.vm.findClass own = some m.cls) (hcl : (Cond.classLink own index C).before args s = true) (hinst : (Cond.instantiable C N).before args s = true) (hini : (Cond.initialized C).before args s = true)
    (hK : va_K D cl tys s) (hP : gh_P D cl A M H) (hS : va_S A H0 H locs) (hA : ∀ q, H0.size ≤ q → A q) (hc : cl[ci]? = some (C, T, N)) {fs : List Value} (hfs : ∀ j, j < N → defaultValue (ty j) = vp_V fs j) (hcells : cells + 1 ≤ R.cells) (hslots : slots + N ≤ R.slots) (hdg : decode cc pc = .ok (.new index, 3))
    (kk : ∀ (q : Nat) (H1 : Heap), M q = none → gh_P D cl A (gh_up M q (tn, .inr (ci, fs))) H1 → va_S A H0 H1 locs →
      W p l e R s m args below meth c H1 locs (cells + 1) (slots + N) Q (F0 m (pc + 3) ls (.ref q :: rest))) : W p l e R s m args below meth c H locs cells slots Q (F0 m pc ls rest) := by
  obtain ⟨L, hL, hP, hD⟩ := hP
  exact va_new hexec hb hts hin ty hty hown hcl hinst hini hK hP hD hS hA hc hfs hcells hslots hdg (fun q H1 p1 d1 s1 => kk q H1 (gh_P.pushed (t := tn) hL p1 d1).1 (gh_P.pushed hL p1 d1).2 s1)
theorem gh_newa (tn : Nat) (hexec : p.tables.exec = Jvm.exec) (hb : c.code = cc) {atype : ArrayType} (harr : (Cond.arrayClass (newarray.typeOf atype)).before args s = true) {ty : FieldType} (hty : newarray.typeOf atype = ty) (hK : va_K D cl tys s) (hP : gh_P D cl A M H) (hS : va_S A H0 H locs) (hA : ∀ q, H0.size ≤ q → A q) (t0 : Nat) {cA : ClassId} (ht : tys[t0]? = some (cA, ty)) (hra : va_RA s cA ty → s.vm.findClass ("[" ++ (newarray.typeOf atype).toString) = some cA)
    {n : Int32} {N' : Nat} {a0 : vp_A} (ha : ∀ cA : ClassId, vp_cell cA a0 = arrV cA N' (fun _ => defaultValue ty)) (hn : n = nI N') (hN : N' < 2 ^ 31) (hbytes : N' * componentBytes ty ≤ 536870912) (hcells : cells + 1 ≤ R.cells) (hslots : slots + N' ≤ R.slots) (hdg : decode cc pc = .ok (.newarray atype, 2))
    (kk : ∀ (q : Nat) (H1 : Heap), M q = none → gh_P D cl A (gh_up M q (tn, .inl (cA, a0))) H1 → va_S A H0 H1 locs →
      W p l e R s m args below meth c H1 locs (cells + 1) (slots + N') Q (F0 m (pc + 2) ls (.ref q :: rest))) : W p l e R s m args below meth c H locs cells slots Q (F0 m pc ls (.int n :: rest)) := by
  obtain ⟨L, hL, hP, hD⟩ := hP
  subst hn
  subst hty
  have hr := hra (hK.2 t0 _ ht).2
  refine va_newaK hexec hb harr rfl hdg rfl (nI_pos hN) (nI_clamp hN) hbytes hcells hslots rfl fun H1 cA' e1 z1 o1 hAr hNm => ?_
  have hcc : cA' = cA := Option.some.inj (hNm.symm.trans hr)
  subst hcc
  have hk : ∀ (k : Nat) (x : Nat × va_E), (va_pl L (gh_v M))[k]? = some x → H1[x.1]? = H[x.1]? := fun k x hx => o1 x.1 ((hP k x hx).lt)
  have p1 : va_P D cl (va_pl L (gh_v M) ++ [(H.size, .inl (cA', a0))]) H1 := by
    refine (hP.kept hk).app (fun k x hx => ?_)
    have hz : k < 1 := (List.getElem?_eq_some_iff.mp hx).1
    rw [show k = 0 by omega] at hx
    cases hx
    show H1[H.size]? = some (vp_cell _ _)
    rw [ha]
    exact e1
  have d1 : va_D A (va_pl L (gh_v M) ++ [(H.size, .inl (cA', a0))]) := hD.push hP rfl (hA _ hS.1)
  exact kk H.size H1 (gh_P.pushed (t := tn) hL p1 d1).1 (gh_P.pushed hL p1 d1).2 ⟨Nat.le_trans hS.1 (by omega), fun x h1 h2 => (o1 x (Nat.lt_of_lt_of_le h1 hS.1)).trans (hS.2.1 x h1 h2), hS.2.2⟩
/-- a new array of references to objects -/
theorem gh_newq (tn : Nat) (hexec : p.tables.exec = Jvm.exec) (hb : c.code = cc) {own C : String} {index : Nat} (hown : s.vm.findClass own = some m.cls) (hclink : (Cond.classLink own index C).before args s = true) (hover : va_AO C s) (hK : va_K D cl tys s) (hP : gh_P D cl A M H) (hS : va_S A H0 H locs) (hA : ∀ q, H0.size ≤ q → A q) (t0 : Nat) {cA : ClassId} (ht : tys[t0]? = some (cA, .object C))
    {n : Int32} {N' : Nat} (hn : n = nI N') (hN : N' < 2 ^ 31) (hbytes : N' * 4 ≤ 536870912) (hcells : cells + 1 ≤ R.cells) (hslots : slots + N' ≤ R.slots) (hdg : decode cc pc = .ok (.anewarray index, 3))
    (kk : ∀ (q : Nat) (H1 : Heap), M q = none → gh_P D cl A (gh_up M q (tn, .inl (cA, N', .inr (.inr (.inr (.inr (fun _ => none))))))) H1 → va_S A H0 H1 locs →
      W p l e R s m args below meth c H1 locs (cells + 1) (slots + N') Q (F0 m (pc + 3) ls (.ref q :: rest))) : W p l e R s m args below meth c H locs cells slots Q (F0 m pc ls (.int n :: rest)) := by
  obtain ⟨L, hL, hP, hD⟩ := hP
  subst hn
  obtain ⟨kA0, comp0, -, -, -, hr⟩ := (hK.2 t0 _ ht).2
  refine va_newq hexec hb hown hclink hover hK hP hD hS hA (nI_pos hN) (nI_clamp hN) hbytes hcells hslots hdg (fun q cA' H1 hK1 p1 d1 s1 => ?_)
  have hx : (tys ++ [(cA', FieldType.object C)])[tys.length]? = some (cA', FieldType.object C) := by simp
  obtain ⟨kA1, comp1, -, -, -, hr1⟩ := (hK1.2 tys.length _ hx).2
  have hcc : cA' = cA := Option.some.inj (hr1.symm.trans hr)
  subst hcc
  exact kk q H1 (gh_P.pushed (t := tn) hL p1 d1).1 (gh_P.pushed hL p1 d1).2 s1
/-- a new array of arrays -/
theorem gh_newA (tn : Nat) (hexec : p.tables.exec = Jvm.exec) (hb : c.code = cc) {own : String} {index : Nat} {t : FieldType} (hown : s.vm.findClass own = some m.cls) (hclink : (Cond.classLink own index (FieldType.array t).toString).before args s = true) (hover : (Cond.arrayOver (.array t)).before args s = true) (hP : gh_P D cl A M H) (hS : va_S A H0 H locs) (hA : ∀ q, H0.size ≤ q → A q) {cA : ClassId} (hcA : s.vm.findClass ("[" ++ (FieldType.array t).toString) = some cA)
    {n : Int32} {N' : Nat} (hn : n = nI N') (hN : N' < 2 ^ 31) (hbytes : N' * 4 ≤ 536870912) (hcells : cells + 1 ≤ R.cells) (hslots : slots + N' ≤ R.slots) (hdg : decode cc pc = .ok (.anewarray index, 3))
    (kk : ∀ (q : Nat) (H1 : Heap), M q = none → gh_P D cl A (gh_up M q (tn, .inl (cA, N', .inr (.inr (.inr (.inr (fun _ => none))))))) H1 → va_S A H0 H1 locs →
      W p l e R s m args below meth c H1 locs (cells + 1) (slots + N') Q (F0 m (pc + 3) ls (.ref q :: rest))) : W p l e R s m args below meth c H locs cells slots Q (F0 m pc ls (.int n :: rest)) := by
  obtain ⟨L, hL, hP, hD⟩ := hP
  subst hn
  have hcl := nI_clamp hN
  refine W.anewA hexec hb hown hclink hover rfl hdg rfl (nI_pos hN) (by rw [hcl]; exact hbytes) hcells (by rw [hcl]; exact hslots) fun cA' kA comp f1 f2 f3 f4 => ?_
  have hcc : cA' = cA := Option.some.inj (f1.symm.trans hcA)
  subst hcc
  rw [hcl]
  generalize hH1 : H.push ({ cls := cA', slots := Array.replicate N' .null, vm := .none } : Cell) = H1
  have z1 : H1.size = H.size + 1 := by rw [← hH1, Array.size_push]
  have e1 : H1[H.size]? = some (arrV cA' N' (fun _ => .null)) := by rw [← hH1, Array.getElem?_push_size, ← arrV_new]
  have o1 : ∀ q : Nat, q < H.size → H1[q]? = H[q]? := fun q hq => by rw [← hH1, Array.getElem?_push, if_neg (Nat.ne_of_lt hq)]
  have hk : ∀ (k : Nat) (x : Nat × va_E), (va_pl L (gh_v M))[k]? = some x → H1[x.1]? = H[x.1]? := fun k x hx => o1 x.1 ((hP k x hx).lt)
  have p1 : va_P D cl (va_pl L (gh_v M) ++ [(H.size, .inl (cA', N', .inr (.inr (.inr (.inr (fun _ => none))))))]) H1 := by
    refine (hP.kept hk).app (fun k x hx => ?_)
    have hz : k < 1 := (List.getElem?_eq_some_iff.mp hx).1
    rw [show k = 0 by omega] at hx
    cases hx
    show H1[H.size]? = some (vp_cell _ _)
    rw [vp_cell_q]
    exact e1
  have d1 : va_D A (va_pl L (gh_v M) ++ [(H.size, .inl (cA', N', .inr (.inr (.inr (.inr (fun _ => none))))))]) := hD.push hP rfl (hA _ hS.1)
  exact kk H.size H1 (gh_P.pushed (t := tn) hL p1 d1).1 (gh_P.pushed hL p1 d1).2 ⟨Nat.le_trans hS.1 (by omega), fun x h1 h2 => (o1 x (Nat.lt_of_lt_of_le h1 hS.1)).trans (hS.2.1 x h1 h2), hS.2.2⟩
/-- a store of an array into an array of arrays -/
theorem gh_aastA (hexec : p.tables.exec = Jvm.exec) (hb : c.code = cc) (hP : gh_P D cl A M H) (hS : va_S A H0 H locs) {t : FieldType} {cA cB : ClassId} {kA kB : Class} (hkA : s.vm.classes[cA]? = some kA) (hkind : kA.kind = .array cB (.array t)) (hkB : s.vm.classes[cB]? = some kB) {n v tv : Nat} {x : vp_A} {f : Nat → Option Nat} (ha : M a = some (tg, .inl (cA, n, .inr (.inr (.inr (.inr f)))))) (hv : M v = some (tv, .inl (cB, x))) {i : Int32} {j : Nat} (hi : i = nI j) (hj : j < n) (hn : n < 2 ^ 31) (hdg : decode cc pc = .ok (.aastore, 1))
    (kk : ∀ (H1 : Heap) (locs1 : List Loc), gh_P D cl A (gh_up M a (tg, .inl (cA, n, .inr (.inr (.inr (.inr (va_up f j (some v)))))))) H1 → va_S A H0 H1 locs1 → W p l e R s m args below meth c H1 locs1 cells slots Q (F0 m (pc + 1) ls rest)) : W p l e R s m args below meth c H locs cells slots Q (F0 m pc ls (.ref v :: .int i :: .ref a :: rest)) := by
  obtain ⟨Lv, qv, -, hPv, -, hqv, -⟩ := hP.look hv
  obtain ⟨L, q0, -, hP, hD, hq, hset⟩ := hP.look ha
  subst hi
  have hin := vp_in_nI hj hn
  have hlt : (nI j).toNatClampNeg < n := Nat.not_le.mp fun q => hin (Or.inr q)
  have hcv : H[v]? = some (vp_cell cB x) := hPv qv _ hqv
  have hvm : (vp_cell cB x).vm = .none := by
    obtain ⟨nx, g | g | g | g | g⟩ := x <;> rfl
  have hcls : (vp_cell cB x).cls = cB := by
    obtain ⟨nx, g | g | g | g | g⟩ := x <;> rfl
  refine W.aast hexec hb (hP q0 _ hq) (fun q h => by cases h) (fun h => by cases h) hkA hkind rfl hkB ⟨fun q => hin (Or.inl q), by show _ < (arrV _ _ _).slots.size; rw [arrV_size]; exact hlt⟩ hcv (fun q h => by rw [hvm] at h; cases h) (by rw [hcls]; exact hkB) (by rw [hcls]; exact va_asg _ _) rfl rfl hdg fun H1 e z oq => ?_
  rw [nI_clamp (by omega)] at e ⊢
  refine kk H1 _ (hset _ _ _ (hP.set hD hq ?_ oq) (hD.set hq)) (hS.put z oq (hD.2 q0 _ hq))
  show H1[a]? = some (vp_cell _ _)
  rw [e]
  rw [vp_cell_q, vp_cell_q, arrV_store]
  congr 2
  funext q
  by_cases hq : q = j
  · subst hq
    simp [updV, va_up, va_rf]
  · simp [updV, va_up, hq]
end GH
