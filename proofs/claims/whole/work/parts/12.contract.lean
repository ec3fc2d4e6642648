/-! what is known at every method's start; the contracts' form -/
abbrev gk_E : Type := va_G × (Nat → ClassId) × Nat × Nat
def gk_ty (ca : Nat → ClassId) : List (ClassId × FieldType) := [(ca 0, .int), (ca 1, .long), (ca 2, .object "java/lang/Object"), (ca 3, .object "ThingHeap$Thing"), (ca 4, .array .long)]
def gk_AA (U : State) : Prop := (Cond.arrayOver (.array .long)).before #[] U = true
theorem gk_AA.moved {u U : State} (hvm : u.vm.Alike U.vm) (h : gk_AA u) : gk_AA U := by
  obtain ⟨comp, c, k, h1, h2, h3, h4, h5⟩ := arrayOverA_spec h
  obtain ⟨k', hk', he⟩ := hvm.2.2 _ _ h3
  have hi : (U.vm.classes.findIdx? fun (x : Class) => match x.kind with | .array component _ => component == comp | _ => false) = some c := by
    rw [hvm.findIdx?_eq _ (fun _ => rfl)]
    exact h2
  have hkind : k'.kind = .array comp (.array .long) := by rw [he]; exact h4
  have f1 : U.vm.findClass (FieldType.array .long).toString = some comp := by rw [hvm.findClass]; exact h1
  have f2 : U.vm.findClass ("[" ++ (FieldType.array .long).toString) = some c := by rw [hvm.findClass]; exact h5
  unfold gk_AA Cond.before Cond.holds
  simp only [Cond.value]
  rw [f1, Option.bind_some]
  refine (congrArg (fun o : Option Nat => (o.bind (fun c => (U.vm.classes[c]?).map fun (k : Class) => match k.kind with | .array _ ty => decide (ty = FieldType.array .long) && decide (U.vm.findClass ("[" ++ (FieldType.array .long).toString) = some c) | _ => false) == some true)) hi).trans ?_
  simp [hk', hkind, f2]
def gk_JJ (ca : Nat → ClassId) (U : State) : Prop := (∃ kA kB : Class, U.vm.classes[ca 4]? = some kA ∧ kA.kind = .array (ca 1) (.array .long) ∧ U.vm.classes[ca 1]? = some kB) ∧ U.vm.findClass ("[" ++ (FieldType.array FieldType.long).toString) = some (ca 4)
theorem gk_JJ.moved {ca : Nat → ClassId} {u U : State} (hvm : u.vm.Alike U.vm) (h : gk_JJ ca u) : gk_JJ ca U := by
  obtain ⟨⟨kA, kB, h1, h2, h3⟩, h4⟩ := h
  obtain ⟨kA', hA, eA⟩ := hvm.2.2 _ _ h1
  obtain ⟨kB', hB, eB⟩ := hvm.2.2 _ _ h3
  exact ⟨⟨kA', kB', hA, by rw [eA]; exact h2, hB⟩, by rw [hvm.findClass]; exact h4⟩
/-- the tables -/
def gk_K (E : gk_E) (U : State) : Prop := va_K E.1 cl_L (gk_ty E.2.1) U ∧ gk_AA U ∧ gk_JJ E.2.1 U ∧ va_Mi "[Ljava/lang/Object;" E.2.2.2 U ∧ va_AO "java/lang/Object" U ∧ va_AO "ThingHeap$Thing" U ∧ va_Dc U ∧
  va_Nw (.castable "ThingHeap$Thing" "java/lang/Object") U ∧ va_Nw (.castable "ThingHeap$Item" "java/lang/Object") U ∧ va_Nw (.castable "[I" "java/lang/Cloneable") U ∧ va_Nw (.castable "[J" "java/lang/Cloneable") U
theorem gk_K.warm {E : gk_E} {s U : State} (hW : s.WarmedH U.vm) (h : gk_K E s) : gk_K E U := by
  obtain ⟨h1, h2, h3, h4, h5, h6, h7, h8, h9, h10, h11⟩ := h
  exact ⟨h1.moved hW.alike, h2.moved hW.alike, h3.moved hW.alike, h4.moved hW.alike, h5.moved hW.alike, h6.moved hW.alike, h7.moved hW.alike, h8.warmC hW, h9.warmC hW, h10.warmC hW, h11.warmC hW⟩
/-- ArrayList's empty array -/
def gk_Z (z : Nat) (A : Nat → Prop) (U : State) (H : Heap) : Prop := va_Z "java/util/ArrayList" "DEFAULTCAPACITY_EMPTY_ELEMENTDATA" "[Ljava/lang/Object;" (.ref z) A U H ∧ va_T (.object "java/lang/Object") z 0 (fun _ => .null) A U H
theorem gk_Z.go {z : Nat} {A B : Nat → Prop} {u U : State} {H H1 : Heap} (h : gk_Z z A u H) (hvm : u.vm.Alike U.vm) (hq : ∀ a : Nat, a < H.size → ¬ A a → H1[a]? = H[a]?) (hB : ∀ q, B q → A q) : gk_Z z B U H1 :=
  ⟨((h.1.moved hvm).kept hq).narrow hB, ((h.2.moved hvm).kept hq).narrow hB⟩
def gk_I (E : gk_E) (M : gh_M) (sz : Nat) (U : State) : Prop := U.heap.size = sz ∧ gh_P E.1 cl_L (fun _ => True) M U.heap ∧ gk_K E U ∧ gk_Z E.2.2.1 (gh_A M sz) U U.heap
abbrev gk_Pre (E : gk_E) (av : List Value) (M : gh_M) (sz : Nat) : Array Value → State → Prop := va_Pc av (gk_I E M sz)
abbrev gk_B (E : gk_E) (M : gh_M) (sz : Nat) : gh_M → State → Prop := fun M' t => gh_P E.1 cl_L (gh_A M sz) M' t.heap
theorem gk_blind (E : gk_E) (av : List Value) (M : gh_M) (sz : Nat) : FrameBlind (gk_Pre E av M sz) := by
  intro a U g mk q
  obtain ⟨q0, q1, qP, qK, qZ⟩ := q
  exact ⟨q0, q1, qP, gk_K.warm (U := U.calling g mk a) (State.WarmedH.refl U) qK, qZ.go (U := U.calling g mk a) (Vm.Alike.refl U.vm) (fun _ _ _ => rfl) (fun _ h => h)⟩
theorem gk_pre {E : gk_E} {A : Nat → Prop} {M : gh_M} {s : State} {H : Heap} {locs : List Loc} (hK : gk_K E s) (hZ : gk_Z E.2.2.1 A s s.heap) (hP : gh_P E.1 cl_L A M H) (hS : va_S A s.heap H locs) (hA : ∀ q, s.heap.size ≤ q → A q) (av : List Value) : ∀ U : State, U.heap = H → s.WarmedH U.vm → gk_Pre E av M H.size av.toArray U := by
  intro U hU hW
  refine ⟨rfl, by rw [hU], by rw [hU]; exact hP.weaken (fun _ _ => trivial), hK.warm hW, ?_⟩
  rw [hU]
  exact hZ.go hW.alike hS.2.1 (gh_free hP hS hA)
/-- what stands fast in a method's body -/
def gk_F (p : Program) (s : State) (m : MethodId) (args : Array Value) (meth : Method) (c : Code) (y : MethodName) (cc : ByteArray) (nL : Nat) (ret : Option FieldType) : Prop :=
  p.tables.exec = Jvm.exec ∧ c.code = cc ∧ meth.sig.returnType = ret ∧ c.maxLocals = nL ∧ s.vm.findClass y.cls = some m.cls ∧ meth.locks = false ∧ meth.name = y.name ∧ ∀ w ∈ Cond.code y cc nL ret :: bw_L, w.before args s = true
theorem gk_met {l : Launch} {E : gk_E} {y : MethodName} {cc : ByteArray} {nL : Nat} {ret : Option FieldType} {rm : Room} {av : List Value} {M : gh_M} {sz : Nat} {Qc : Array Value → State → Outcome → State → Prop} {mc ms : Nat} {free : Addr → Prop} (hy : plainFor y = true) (hn : (lg_sl av).length ≤ nL)
    (body : ∀ p e s m below meth c, gk_F p s m av.toArray meth c y cc nL ret → s.heap.size = sz → gh_P E.1 cl_L (gh_A M sz) M s.heap → gk_K E s → gk_Z E.2.2.1 (gh_A M sz) s s.heap → ∀ ls, lv_has ls nL (lv_args 0 av) →
      W p l e rm s m av.toArray below meth c s.heap [] 0 0 (MQ below Qc av.toArray s mc ms free) (F0 m 0 ls [])) : Met l y (.code y cc nL ret :: bw_L) rm (gk_Pre E av M sz) Qc mc ms free := by
  refine va_MetF (cc := cc) (maxL := nL) (ret := ret) hy rfl ?_
  intro p e s m args below meth c s₁ B hml hv
  obtain ⟨rfl, hsz, hP, hK, hZ⟩ := hv
  have hl := lv_entry av (n := nL) hn
  rw [lg_entry_eq]
  exact body p e s m below meth c ⟨B.exec, B.bytes, B.returns, hml, findClass_of_methodNamed B.named, B.notSynchronized, (name_of_methodNamed B.named B.method).1, atoms_spec (ws := Cond.code y cc nL ret :: bw_L) B.pre⟩ hsz (hP.self sz) hK hZ _ hl
theorem gh_recv {s : State} {H : Heap} {D : va_G} {cl : List vw_C} {A : Nat → Prop} {a t ci : Nat} {q : vw_C} {fs : List Value} {M : gh_M} {tys : List (ClassId × FieldType)} (hK : va_K D cl tys s) (hP : gh_P D cl A M H) (he : M a = some (t, .inr (ci, fs))) (hc : cl[ci]? = some q) : ∃ cell : Cell, H[a]? = some cell ∧ cell.vm.isStatics = false ∧ s.vm.findClass q.1 = some cell.cls := by
  obtain ⟨L, k, -, hP, -, hk, -⟩ := hP.look he
  exact va_recv hK hP hc hk
theorem gh_any {s : State} {H : Heap} {D : va_G} {cl : List vw_C} {A : Nat → Prop} {a t ci : Nat} {q : vw_C} {fs : List Value} {M : gh_M} {tys : List (ClassId × FieldType)} {E : String} (hK : va_K D cl tys s) (hP : gh_P D cl A M H) (he : M a = some (t, .inr (ci, fs))) (hc : cl[ci]? = some q) (hca : va_Nw (.castable q.1 E) s) : va_Any E s H a := by
  obtain ⟨L, k, -, hP, -, hk, -⟩ := hP.look he
  refine va_rAny hK hP hk hc (fun comp c0 h1 h2 => ?_)
  obtain ⟨c0', t1, f1, f2, f3⟩ := Cond.castable_spec (va_Nw.use (A := #[]) rfl hca)
  cases h2.symm.trans f1
  cases h1.symm.trans f2
  exact f3
theorem gh_anyS {s : State} {H : Heap} {D : va_G} {cl : List vw_C} {A : Nat → Prop} {a t ci : Nat} {q : vw_C} {fs : List Value} {M : gh_M} {tys : List (ClassId × FieldType)} (hK : va_K D cl tys s) (hP : gh_P D cl A M H) (he : M a = some (t, .inr (ci, fs))) (hc : cl[ci]? = some q) : va_Any q.1 s H a := by
  obtain ⟨L, k, -, hP, -, hk, -⟩ := hP.look he
  refine va_rAny hK hP hk hc (fun comp c0 h1 h2 => ?_)
  cases h2.symm.trans h1
  exact va_asg _ _
section GK
variable {p : Program} {l : Launch} {e : Env} {R : Room} {s : State} {m : MethodId} {args : Array Value} {below : List Frame} {meth : Method} {c : Code} {H : Heap} {locs : List Loc} {cells slots : Nat} {Q : State → Prop}
variable {pc : Nat} {ls : Array Slot} {rest st0 : List Value} {a : Array Value} {A : Nat → Prop} {mc ms : Nat} {M : gh_M} {E : gk_E}
theorem gk_ci {post : Int32 → gh_M → Prop} (hr : va_Run p l e R s m args below meth c H locs cells slots mc ms (F0 m pc ls st0) rest (va_Qi post (gk_B E M H.size) (gh_A M H.size) a) (gh_A M H.size)) (hP : gh_P E.1 cl_L A M H) (hS : va_S A s.heap H locs) (hA : ∀ q, s.heap.size ≤ q → A q)
    (kk : ∀ (r : Int32) (M' : gh_M) (H1 : Heap) (locs1 : List Loc), post r M' → gh_P E.1 cl_L A M' H1 → va_S A s.heap H1 locs1 → W p l e R s m args below meth c H1 locs1 (cells + mc) (slots + ms) Q (F0 m (pc + 3) ls (.int r :: rest))) : W p l e R s m args below meth c H locs cells slots Q (F0 m pc ls st0) := by
  have hF := gh_free hP hS hA
  exact va_calli hr hS (fun q _ h => hF q h) hF (fun r u t H1 locs1 ht _ hp hB _ _ hS1 => kk r u H1 locs1 hp (by have hB : gh_P E.1 cl_L (gh_A M H.size) u t.heap := hB; rw [ht] at hB; exact hB.weaken hF) hS1)
theorem gk_cl {post : Int64 → gh_M → Prop} (hr : va_Run p l e R s m args below meth c H locs cells slots mc ms (F0 m pc ls st0) rest (va_Ql post (gk_B E M H.size) (gh_A M H.size) a) (gh_A M H.size)) (hP : gh_P E.1 cl_L A M H) (hS : va_S A s.heap H locs) (hA : ∀ q, s.heap.size ≤ q → A q)
    (kk : ∀ (r : Int64) (M' : gh_M) (H1 : Heap) (locs1 : List Loc), post r M' → gh_P E.1 cl_L A M' H1 → va_S A s.heap H1 locs1 → W p l e R s m args below meth c H1 locs1 (cells + mc) (slots + ms) Q (F0 m (pc + 3) ls (.long r :: rest))) : W p l e R s m args below meth c H locs cells slots Q (F0 m pc ls st0) := by
  have hF := gh_free hP hS hA
  exact va_calll hr hS (fun q _ h => hF q h) hF (fun r u t H1 locs1 ht _ hp hB _ _ hS1 => kk r u H1 locs1 hp (by have hB : gh_P E.1 cl_L (gh_A M H.size) u t.heap := hB; rw [ht] at hB; exact hB.weaken hF) hS1)
theorem gk_cv {post : gh_M → Prop} (hr : va_Run p l e R s m args below meth c H locs cells slots mc ms (F0 m pc ls st0) rest (va_Qv post (gk_B E M H.size) (gh_A M H.size) a) (gh_A M H.size)) (hP : gh_P E.1 cl_L A M H) (hS : va_S A s.heap H locs) (hA : ∀ q, s.heap.size ≤ q → A q)
    (kk : ∀ (M' : gh_M) (H1 : Heap) (locs1 : List Loc), post M' → gh_P E.1 cl_L A M' H1 → va_S A s.heap H1 locs1 → W p l e R s m args below meth c H1 locs1 (cells + mc) (slots + ms) Q (F0 m (pc + 3) ls rest)) : W p l e R s m args below meth c H locs cells slots Q (F0 m pc ls st0) := by
  have hF := gh_free hP hS hA
  exact va_callv hr hS (fun q _ h => hF q h) hF (fun u t H1 locs1 ht _ hp hB _ _ hS1 => kk u H1 locs1 hp (by have hB : gh_P E.1 cl_L (gh_A M H.size) u t.heap := hB; rw [ht] at hB; exact hB.weaken hF) hS1)
theorem gk_cq {post : Option Nat → gh_M → Prop} (hr : va_Run p l e R s m args below meth c H locs cells slots mc ms (F0 m pc ls st0) rest (va_Qq post (gk_B E M H.size) (gh_A M H.size) a) (gh_A M H.size)) (hP : gh_P E.1 cl_L A M H) (hS : va_S A s.heap H locs) (hA : ∀ q, s.heap.size ≤ q → A q)
    (kk : ∀ (r : Option Nat) (M' : gh_M) (H1 : Heap) (locs1 : List Loc), post r M' → gh_P E.1 cl_L A M' H1 → va_S A s.heap H1 locs1 → W p l e R s m args below meth c H1 locs1 (cells + mc) (slots + ms) Q (F0 m (pc + 3) ls (va_rf r :: rest))) : W p l e R s m args below meth c H locs cells slots Q (F0 m pc ls st0) := by
  have hF := gh_free hP hS hA
  exact va_callq hr hS (fun q _ h => hF q h) hF (fun r u t H1 locs1 ht _ hp hB _ _ hS1 => kk r u H1 locs1 hp (by have hB : gh_P E.1 cl_L (gh_A M H.size) u t.heap := hB; rw [ht] at hB; exact hB.weaken hF) hS1)
/-! calls that only read -/
theorem gk_si {post : Int32 → Prop} (hr : va_Run p l e R s m args below meth c H locs cells slots 0 0 (F0 m pc ls st0) rest (vp_Si post a) (fun _ => False))
    (kk : ∀ r : Int32, post r → W p l e R s m args below meth c H locs cells slots Q (F0 m (pc + 3) ls (.int r :: rest))) : W p l e R s m args below meth c H locs cells slots Q (F0 m pc ls st0) := by
  intro T hT X
  obtain ⟨v, st₀, t, T', L, h0, X', hL, e1, e2, ⟨k, hv, hp, hh⟩, st⟩ := hr T hT X
  cases hv
  obtain ⟨t2, a1, b1⟩ := kk k hp T' (by rw [e1, hh, h0]) (Stand.forget X' (fun q h => (hL q h).elim))
  exact ⟨t2, st t2 a1, b1⟩
theorem gk_sl {post : Int64 → Prop} (hr : va_Run p l e R s m args below meth c H locs cells slots 0 0 (F0 m pc ls st0) rest (vp_Sl post a) (fun _ => False))
    (kk : ∀ r : Int64, post r → W p l e R s m args below meth c H locs cells slots Q (F0 m (pc + 3) ls (.long r :: rest))) : W p l e R s m args below meth c H locs cells slots Q (F0 m pc ls st0) := by
  intro T hT X
  obtain ⟨v, st₀, t, T', L, h0, X', hL, e1, e2, ⟨k, hv, hp, hh⟩, st⟩ := hr T hT X
  cases hv
  obtain ⟨t2, a1, b1⟩ := kk k hp T' (by rw [e1, hh, h0]) (Stand.forget X' (fun q h => (hL q h).elim))
  exact ⟨t2, st t2 a1, b1⟩
theorem gk_sq {post : Option Nat → Prop} (hr : va_Run p l e R s m args below meth c H locs cells slots 0 0 (F0 m pc ls st0) rest (va_Sq post a) (fun _ => False))
    (kk : ∀ r : Option Nat, post r → W p l e R s m args below meth c H locs cells slots Q (F0 m (pc + 3) ls (va_rf r :: rest))) : W p l e R s m args below meth c H locs cells slots Q (F0 m pc ls st0) := va_csq hr.run kk
theorem gk_sv {post : Unit → Prop} (hr : va_Run p l e R s m args below meth c H locs cells slots 0 0 (F0 m pc ls st0) rest (va_Sv post a) (fun _ => False))
    (kk : post () → W p l e R s m args below meth c H locs cells slots Q (F0 m (pc + 3) ls rest)) : W p l e R s m args below meth c H locs cells slots Q (F0 m pc ls st0) := va_csv hr.run kk
/-! the run of a call, by the words -/
variable {y y0 : MethodName} {cc c0 : ByteArray} {nL n0 n index : Nat} {ret ret0 : Option FieldType} {rm : Room} {Qc : Array Value → State → Outcome → State → Prop} {free : Addr → Prop} {As : List Value} {b : Addr} {C : String}
theorem gk_rV (F : gk_F p s m args meth c y0 c0 n0 ret0) (hM : Met l y (.code y cc nL ret :: bw_L) rm (gk_Pre E (.ref b :: As) M H.size) Qc mc ms free) (h1 : Cond.methodLink y0.cls index y ∈ bw_L) (h2 : Cond.instanceMethod y ∈ bw_L) (h3 : Cond.selects y.cls y y ∈ bw_L) (h4 : Cond.initialized y.cls ∈ bw_L) (h5 : Cond.code y cc nL ret ∈ bw_L)
    (hrc : rm.cells = mc) (hrs : rm.slots = ms) (hd : y.cls ≠ "java/lang/invoke/MethodHandle" ∧ y.cls ≠ "java/lang/invoke/VarHandle" ∧ (parseMethodDescriptor y.desc).map (fun d => d.parameters.length) = some As.length) (hR : rm.frames + 1 ≤ R.frames ∧ 8 + (nL + 11) + rm.locals ≤ R.locals)
    (hrv : ∃ cell : Cell, H[b]? = some cell ∧ cell.vm.isStatics = false ∧ s.vm.findClass y.cls = some cell.cls) (hK : gk_K E s) (hZ : gk_Z E.2.2.1 A s s.heap) (hP : gh_P E.1 cl_L A M H) (hS : va_S A s.heap H locs) (hA : ∀ q, s.heap.size ≤ q → A q) (hl : ls.size = n0) (hst : st0 = As.reverse ++ .ref b :: rest) (hro : (rest.map fun v => v.category).sum ≤ 8) (hdg : decode c0 pc = .ok (.invokevirtual index, 3)) (hf : cells + mc ≤ R.cells ∧ slots + ms ≤ R.slots) :
    va_Run p l e R s m args below meth c H locs cells slots mc ms (F0 m pc ls st0) rest (Qc (Value.ref b :: As).toArray) free := by
  obtain ⟨hx, hb, hr, hml, hown, hlk, hnm, hts⟩ := F
  refine va_runV (C := y.cls) (n := As.length) (As := As) (rest := rest) ⟨hx, hb, hml, hown, hts⟩ hM (cwV As.length hts ?_ rfl hrc hrs ⟨rfl, hd⟩ hR) ⟨gk_blind _ _ _ _, hrv, fun U hU hW => gk_pre hK hZ hP hS hA (.ref b :: As) U hU hW⟩ rfl rfl hl hst (lv_room hro) hdg hf
  unfold wsV
  refine bw_gl (fun w hw => ?_) (bw_gi h5)
  simp only [List.mem_cons, List.not_mem_nil, or_false] at hw
  rcases hw with rfl | rfl | rfl | rfl
  · exact h1
  · exact h2
  · exact h3
  · exact h4
theorem gk_rS (F : gk_F p s m args meth c y0 c0 n0 ret0) (hM : Met l y (.code y cc nL ret :: bw_L) rm (gk_Pre E As M H.size) Qc mc ms free) (h1 : Cond.methodLink y0.cls index y ∈ bw_L) (h2 : Cond.static y ∈ bw_L) (h4 : Cond.initialized y.cls ∈ bw_L) (h5 : Cond.code y cc nL ret ∈ bw_L)
    (hrc : rm.cells = mc) (hrs : rm.slots = ms) (hd : y.cls ≠ "java/lang/invoke/MethodHandle" ∧ y.cls ≠ "java/lang/invoke/VarHandle" ∧ (parseMethodDescriptor y.desc).map (fun d => d.parameters.length) = some As.length) (hR : rm.frames + 1 ≤ R.frames ∧ 8 + (nL + 11) + rm.locals ≤ R.locals)
    (hK : gk_K E s) (hZ : gk_Z E.2.2.1 A s s.heap) (hP : gh_P E.1 cl_L A M H) (hS : va_S A s.heap H locs) (hA : ∀ q, s.heap.size ≤ q → A q) (hl : ls.size = n0) (hst : st0 = As.reverse ++ rest) (hro : (rest.map fun v => v.category).sum ≤ 8) (hdg : decode c0 pc = .ok (.invokestatic index, 3)) (hf : cells + mc ≤ R.cells ∧ slots + ms ≤ R.slots) :
    va_Run p l e R s m args below meth c H locs cells slots mc ms (F0 m pc ls st0) rest (Qc As.toArray) free := by
  obtain ⟨hx, hb, hr, hml, hown, hlk, hnm, hts⟩ := F
  refine va_runS (n := As.length) (As := As) (rest := rest) ⟨hx, hb, hml, hown, hts⟩ hM (va_cwS As.length hts ?_ rfl hrc hrs hd hR) ⟨gk_blind _ _ _ _, fun U hU hW => gk_pre hK hZ hP hS hA As U hU hW⟩ rfl rfl hl hst (lv_room hro) hdg hf
  unfold va_wsS
  refine bw_gl (fun w hw => ?_) (bw_gi h5)
  simp only [List.mem_cons, List.not_mem_nil, or_false] at hw
  rcases hw with rfl | rfl | rfl
  · exact h1
  · exact h2
  · exact h4
theorem gk_rI (F : gk_F p s m args meth c y0 c0 n0 ret0) (hM : Met l y (.code y cc nL none :: bw_L) rm (gk_Pre E (.ref b :: As) M H.size) Qc mc ms free) (h1 : Cond.methodLink y0.cls index y ∈ bw_L) (h2 : Cond.instanceMethod y ∈ bw_L) (h4 : Cond.initialized y.cls ∈ bw_L) (h5 : Cond.code y cc nL none ∈ bw_L) (hy : y.name = "<init>")
    (hrc : rm.cells = mc) (hrs : rm.slots = ms) (hd : y.cls ≠ "java/lang/invoke/MethodHandle" ∧ y.cls ≠ "java/lang/invoke/VarHandle" ∧ (parseMethodDescriptor y.desc).map (fun d => d.parameters.length) = some As.length) (hR : rm.frames + 1 ≤ R.frames ∧ 8 + (nL + 11) + rm.locals ≤ R.locals)
    (hK : gk_K E s) (hZ : gk_Z E.2.2.1 A s s.heap) (hP : gh_P E.1 cl_L A M H) (hS : va_S A s.heap H locs) (hA : ∀ q, s.heap.size ≤ q → A q) (hl : ls.size = n0) (hst : st0 = As.reverse ++ .ref b :: rest) (hro : (rest.map fun v => v.category).sum ≤ 8) (hdg : decode c0 pc = .ok (.invokespecial index, 3)) (hf : cells + mc ≤ R.cells ∧ slots + ms ≤ R.slots) :
    va_Run p l e R s m args below meth c H locs cells slots mc ms (F0 m pc ls st0) rest (Qc (Value.ref b :: As).toArray) free := by
  obtain ⟨hx, hb, hr, hml, hown, hlk, hnm, hts⟩ := F
  have ht : ∀ w ∈ bw_L, w.before args s = true := fun w h => hts w (List.mem_cons_of_mem _ h)
  exact va_runI (n := As.length) (As := As) (rest := rest) ⟨hx, hb, hml, hown, hts⟩ hM (cwI As.length hts (bw_gi h5) rfl hrc hrs (ht _ h4) (ht _ h1) (ht _ h2) hy hd hR) ⟨gk_blind _ _ _ _, fun U hU hW => gk_pre hK hZ hP hS hA (.ref b :: As) U hU hW⟩ rfl rfl hl hst (lv_room hro) hdg hf
end GK
