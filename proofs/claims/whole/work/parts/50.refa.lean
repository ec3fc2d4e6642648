/-! the reference: arrays -/
section GMX
variable {p : Program} {l : Launch} {e : Env} {R : Room} {s : State} {m : MethodId} {args : Array Value} {below : List Frame} {meth : Method} {c : Code} {H : Heap} {locs : List Loc} {cells slots : Nat} {Q : State → Prop}
variable {cc : ByteArray} {pc : Nat} {ls : Array Slot} {rest : List Value} {D : va_G} {cl : List vw_C} {A : Nat → Prop} {a : Nat} {tys : List (ClassId × FieldType)} {M : gh_M} {H0 : Heap} {tg : Nat}
theorem gm_iast (hexec : p.tables.exec = Jvm.exec) (hb : c.code = cc) (hK : va_K D cl tys s) (hP : gh_P D cl A M H) (hS : va_S A H0 H locs) (t0 : Nat) {cA : ClassId} {n : Nat} {f : Nat → Int32} (ha : M a = some (tg, .inl (cA, n, .inl f))) (ht : tys[t0]? = some (cA, .int)) {i : Int32} {j : Nat} (hi : i = nI j) (hj : j < n) (hn : n < 2 ^ 31) {x : Int32} (hdg : decode cc pc = .ok (.iastore, 1))
    (kk : ∀ (H1 : Heap) (locs1 : List Loc), gh_P D cl A (gh_up M a (tg, .inl (cA, n, .inl (va_up f j x)))) H1 → va_S A H0 H1 locs1 → W p l e R s m args below meth c H1 locs1 cells slots Q (F0 m (pc + 1) ls rest)) : W p l e R s m args below meth c H locs cells slots Q (F0 m pc ls (.int x :: .int i :: .ref a :: rest)) := gh_iast hexec hb hK hP hS t0 ha ht hi hj hn hdg kk
theorem gm_last (hexec : p.tables.exec = Jvm.exec) (hb : c.code = cc) (hK : va_K D cl tys s) (hP : gh_P D cl A M H) (hS : va_S A H0 H locs) (t0 : Nat) {cA : ClassId} {n : Nat} {f : Nat → Int64} (ha : M a = some (tg, .inl (cA, n, .inr (.inl f)))) (ht : tys[t0]? = some (cA, .long)) {i : Int32} {j : Nat} (hi : i = nI j) (hj : j < n) (hn : n < 2 ^ 31) {x : Int64} (hdg : decode cc pc = .ok (.lastore, 1))
    (kk : ∀ (H1 : Heap) (locs1 : List Loc), gh_P D cl A (gh_up M a (tg, .inl (cA, n, .inr (.inl (va_up f j x))))) H1 → va_S A H0 H1 locs1 → W p l e R s m args below meth c H1 locs1 cells slots Q (F0 m (pc + 1) ls rest)) : W p l e R s m args below meth c H locs cells slots Q (F0 m pc ls (.long x :: .int i :: .ref a :: rest)) := gh_last hexec hb hK hP hS t0 ha ht hi hj hn hdg kk
end GMX
set_option maxHeartbeats 4000000 in
set_option maxRecDepth 100000 in
theorem ct_AR_fill2 (l : Launch) (E : gk_E) (M : gh_M) (sz : Nat) {t a n : Nat} {f : Nat → Int32} (h : M a = some (t, .inl (E.2.1 0, n, .inl f))) (hn : n < 2 ^ 30) (v : Int32) : Met l yn_AR_fill2 (.code yn_AR_fill2 cd_AR_fill2 4 none :: bw_L) { frames := 0, cells := 0, slots := 0, locals := 0 } (gk_Pre E [.ref a, .int v] M sz) (va_Qv (fun M' => M' a = some (t, .inl (E.2.1 0, n, .inl (fun i => if i < n then v else f i))) ∧ ∀ b, b ≠ a → M' b = M b) (gk_B E M sz) (gh_A M sz)) 0 0 (gh_A M sz) := by
  have step : ∀ i, va_up (fun j => if j < i then v else f j) i v = fun j => if j < i + 1 then v else f j := by
    intro i
    funext j
    by_cases q : j = i
    · subst q
      rw [va_up_self, if_pos (Nat.lt_succ_self _)]
    · rw [va_up_ne _ _ q]
      by_cases q2 : j < i
      · rw [if_pos q2, if_pos (by omega)]
      · rw [if_neg q2, if_neg (by omega)]
  refine gk_met rfl (Nat.le_of_ble_eq_true rfl) ?_
  intro p e s m below meth c F hsz hP hK hZ ls hl
  subst hsz
  have hx := F.1
  have hb := F.2.1
  have hr := F.2.2.1
  have hml := F.2.2.2.1
  have hown : s.vm.findClass "java/util/Arrays" = some m.cls := F.2.2.2.2.1
  have hlk := F.2.2.2.2.2.1
  have hnm := F.2.2.2.2.2.2.1
  have ht := fun (w : Cond) (h : w ∈ bw_L) => F.2.2.2.2.2.2.2 w (List.mem_cons_of_mem _ h)
  have hA : ∀ q, s.heap.size ≤ q → gh_A M s.heap.size q := fun q h => Or.inr h
  have hS : va_S (gh_A M s.heap.size) s.heap s.heap [] := va_S.rf
  have hl : lv_has ls 4 [(0, .ref a), (1, .int v)] := hl
  have loop : ∀ (d i : Nat) (M2 : gh_M) (H : Heap) (locs : List Loc) (ls : Array Slot), i + d = n → lv_has ls 4 [(3, .int (nI n)), (2, .int (nI i)), (0, .ref a), (1, .int v)] → gh_P E.1 cl_L (gh_A M s.heap.size) M2 H → va_S (gh_A M s.heap.size) s.heap H locs → M2 a = some (t, .inl (E.2.1 0, n, .inl (fun j => if j < i then v else f j))) → (∀ b, b ≠ a → M2 b = M b) →
      W p l e ({ frames := 0, cells := 0, slots := 0, locals := 0 } : Room) s m ([.ref a, .int v] : List Value).toArray below meth c H locs 0 0 (MQ below (va_Qv (fun M' => M' a = some (t, .inl (E.2.1 0, n, .inl (fun i => if i < n then v else f i))) ∧ ∀ b, b ≠ a → M' b = M b) (gk_B E M s.heap.size) (gh_A M s.heap.size)) ([.ref a, .int v] : List Value).toArray s 0 0 (gh_A M s.heap.size)) (F0 m 5 ls []) := by
    intro d
    induction d with
    | zero =>
      intro i M2 H locs ls hid hl hP hS h2 ho
      refine lv_iload_n hx hb dc_AR_fill2_5 rfl (lv_fd hl rfl) ?_
      refine lv_iload_n hx hb dc_AR_fill2_6 rfl (lv_fd hl rfl) ?_
      refine gn_ge (tgt := 20) hx hb (by omega) (by omega) dc_AR_fill2_7 (by decide) (fun _ => ?_) (fun q => absurd q (by omega))
      have hin : i = n := by omega
      subst hin
      exact gk_ev hx hb hr hlk hP hS dc_AR_fill2_20 ⟨h2, ho⟩
    | succ d ih =>
      intro i M2 H locs ls hid hl hP hS h2 ho
      refine lv_iload_n hx hb dc_AR_fill2_5 rfl (lv_fd hl rfl) ?_
      refine lv_iload_n hx hb dc_AR_fill2_6 rfl (lv_fd hl rfl) ?_
      refine gn_ge (tgt := 20) hx hb (by omega) (by omega) dc_AR_fill2_7 (by decide) (fun q => absurd q (by omega)) (fun _ => ?_)
      refine lv_aload_n hx hb dc_AR_fill2_10 rfl (lv_fd hl rfl) ?_
      refine lv_iload_n hx hb dc_AR_fill2_11 rfl (lv_fd hl rfl) ?_
      refine lv_iload_n hx hb dc_AR_fill2_12 rfl (lv_fd hl rfl) ?_
      refine gm_iast hx hb hK.1 hP hS 0 h2 rfl rfl (show i < n by omega) (by omega) dc_AR_fill2_13 (fun H locs hP hS => ?_)
      refine lv_iinc (k := 1) (v := nI (i + 1)) hx hb dc_AR_fill2_14 hl rfl (gh_inc i) (by decide) rfl (fun ls hl => ?_)
      refine lv_goto (tgt := 5) hx hb dc_AR_fill2_17 (by decide) ?_
      exact ih (i + 1) _ H locs ls (by omega) (lv_sub hl [1, 0, 2, 3] rfl) hP hS (by rw [gh_up_self, step i]) (fun b hb => (gh_up_ne _ _ hb).trans (ho b hb))
  refine lv_iconst (v := nI 0) hx hb dc_AR_fill2_0 (by decide) ?_
  refine lv_istore_n hx hb dc_AR_fill2_1 rfl hl (by decide) rfl (fun ls hl => ?_)
  refine lv_aload_n hx hb dc_AR_fill2_2 rfl (lv_fd hl rfl) ?_
  refine gh_alen hx hb hK.1 hP 0 h rfl rfl dc_AR_fill2_3 ?_
  refine lv_istore_n hx hb dc_AR_fill2_4 rfl hl (by decide) rfl (fun ls hl => ?_)
  exact loop n 0 M s.heap [] ls (by omega) hl hP hS (by rw [h]; simp) (fun _ _ => rfl)
set_option maxHeartbeats 4000000 in
set_option maxRecDepth 100000 in
theorem ct_AR_rangeCheck (l : Launch) (E : gk_E) (M : gh_M) (sz : Nat) {n k : Nat} (hn : n < 2 ^ 30) (hk : k ≤ n) : Met l yn_AR_rangeCheck (.code yn_AR_rangeCheck cd_AR_rangeCheck 3 none :: bw_L) { frames := 0, cells := 0, slots := 0, locals := 0 } (gk_Pre E [.int (nI n), .int (nI 0), .int (nI k)] M sz) (va_Qv (fun M' => M' = M) (gk_B E M sz) (gh_A M sz)) 0 0 (gh_A M sz) := by
  refine gk_met rfl (Nat.le_of_ble_eq_true rfl) ?_
  intro p e s m below meth c F hsz hP hK hZ ls hl
  subst hsz
  have hx := F.1
  have hb := F.2.1
  have hr := F.2.2.1
  have hml := F.2.2.2.1
  have hown : s.vm.findClass "java/util/Arrays" = some m.cls := F.2.2.2.2.1
  have hlk := F.2.2.2.2.2.1
  have hnm := F.2.2.2.2.2.2.1
  have ht := fun (w : Cond) (h : w ∈ bw_L) => F.2.2.2.2.2.2.2 w (List.mem_cons_of_mem _ h)
  have hA : ∀ q, s.heap.size ≤ q → gh_A M s.heap.size q := fun q h => Or.inr h
  have hS : va_S (gh_A M s.heap.size) s.heap s.heap [] := va_S.rf
  have hl : lv_has ls 3 [(0, .int (nI n)), (1, .int (nI 0)), (2, .int (nI k))] := hl
  refine lv_iload_n hx hb dc_AR_rangeCheck_0 rfl (lv_fd hl rfl) ?_
  refine lv_iload_n hx hb dc_AR_rangeCheck_1 rfl (lv_fd hl rfl) ?_
  refine gn_le (tgt := 46) hx hb (by decide) (by omega) dc_AR_rangeCheck_2 (by decide) (fun _ => ?_) (fun q => absurd q (by omega))
  refine lv_iload_n hx hb dc_AR_rangeCheck_46 rfl (lv_fd hl rfl) ?_
  refine lv_if_ge (tgt := 59) hx hb dc_AR_rangeCheck_47 (by decide) (fun _ => ?_) (fun q => absurd (show (0 : Int32) ≤ nI 0 by decide) q)
  refine lv_iload_n hx hb dc_AR_rangeCheck_59 rfl (lv_fd hl rfl) ?_
  refine lv_iload_n hx hb dc_AR_rangeCheck_60 rfl (lv_fd hl rfl) ?_
  refine gn_le (tgt := 73) hx hb (by omega) (by omega) dc_AR_rangeCheck_61 (by decide) (fun _ => ?_) (fun q => absurd q (by omega))
  exact gk_ev hx hb hr hlk hP hS dc_AR_rangeCheck_73 rfl
set_option maxHeartbeats 4000000 in
set_option maxRecDepth 100000 in
theorem ct_AR_fill4 (l : Launch) (E : gk_E) (M : gh_M) (sz : Nat) {t a n k : Nat} {f : Nat → Int32} (h : M a = some (t, .inl (E.2.1 0, n, .inl f))) (hn : n < 2 ^ 30) (hk : k ≤ n) (v : Int32) : Met l yn_AR_fill4 (.code yn_AR_fill4 cd_AR_fill4 5 none :: bw_L) { frames := 1, cells := 0, slots := 0, locals := 30 } (gk_Pre E [.ref a, .int (nI 0), .int (nI k), .int v] M sz) (va_Qv (fun M' => M' a = some (t, .inl (E.2.1 0, n, .inl (fun i => if i < k then v else f i))) ∧ ∀ b, b ≠ a → M' b = M b) (gk_B E M sz) (gh_A M sz)) 0 0 (gh_A M sz) := by
  have step : ∀ i, va_up (fun j => if j < i then v else f j) i v = fun j => if j < i + 1 then v else f j := by
    intro i
    funext j
    by_cases q : j = i
    · subst q
      rw [va_up_self, if_pos (Nat.lt_succ_self _)]
    · rw [va_up_ne _ _ q]
      by_cases q2 : j < i
      · rw [if_pos q2, if_pos (by omega)]
      · rw [if_neg q2, if_neg (by omega)]
  refine gk_met rfl (Nat.le_of_ble_eq_true rfl) ?_
  intro p e s m below meth c F hsz hP hK hZ ls hl
  subst hsz
  have hx := F.1
  have hb := F.2.1
  have hr := F.2.2.1
  have hml := F.2.2.2.1
  have hown : s.vm.findClass "java/util/Arrays" = some m.cls := F.2.2.2.2.1
  have hlk := F.2.2.2.2.2.1
  have hnm := F.2.2.2.2.2.2.1
  have ht := fun (w : Cond) (h : w ∈ bw_L) => F.2.2.2.2.2.2.2 w (List.mem_cons_of_mem _ h)
  have hA : ∀ q, s.heap.size ≤ q → gh_A M s.heap.size q := fun q h => Or.inr h
  have hS : va_S (gh_A M s.heap.size) s.heap s.heap [] := va_S.rf
  have hl : lv_has ls 5 [(0, .ref a), (1, .int (nI 0)), (2, .int (nI k)), (3, .int v)] := hl
  have loop : ∀ (d i : Nat) (M2 : gh_M) (H : Heap) (locs : List Loc) (ls : Array Slot), i + d = k → lv_has ls 5 [(4, .int (nI i)), (0, .ref a), (1, .int (nI 0)), (2, .int (nI k)), (3, .int v)] → gh_P E.1 cl_L (gh_A M s.heap.size) M2 H → va_S (gh_A M s.heap.size) s.heap H locs → M2 a = some (t, .inl (E.2.1 0, n, .inl (fun j => if j < i then v else f j))) → (∀ b, b ≠ a → M2 b = M b) →
      W p l e ({ frames := 1, cells := 0, slots := 0, locals := 30 } : Room) s m ([.ref a, .int (nI 0), .int (nI k), .int v] : List Value).toArray below meth c H locs (0 + 0) (0 + 0) (MQ below (va_Qv (fun M' => M' a = some (t, .inl (E.2.1 0, n, .inl (fun i => if i < k then v else f i))) ∧ ∀ b, b ≠ a → M' b = M b) (gk_B E M s.heap.size) (gh_A M s.heap.size)) ([.ref a, .int (nI 0), .int (nI k), .int v] : List Value).toArray s 0 0 (gh_A M s.heap.size)) (F0 m 10 ls []) := by
    intro d
    induction d with
    | zero =>
      intro i M2 H locs ls hid hl hP hS h2 ho
      refine lv_iload hx hb dc_AR_fill4_10 (lv_fd hl rfl) ?_
      refine lv_iload_n hx hb dc_AR_fill4_12 rfl (lv_fd hl rfl) ?_
      refine gn_ge (tgt := 27) hx hb (by omega) (by omega) dc_AR_fill4_13 (by decide) (fun _ => ?_) (fun q => absurd q (by omega))
      have hin : i = k := by omega
      subst hin
      exact gk_ev hx hb hr hlk hP hS dc_AR_fill4_27 ⟨h2, ho⟩
    | succ d ih =>
      intro i M2 H locs ls hid hl hP hS h2 ho
      refine lv_iload hx hb dc_AR_fill4_10 (lv_fd hl rfl) ?_
      refine lv_iload_n hx hb dc_AR_fill4_12 rfl (lv_fd hl rfl) ?_
      refine gn_ge (tgt := 27) hx hb (by omega) (by omega) dc_AR_fill4_13 (by decide) (fun q => absurd q (by omega)) (fun _ => ?_)
      refine lv_aload_n hx hb dc_AR_fill4_16 rfl (lv_fd hl rfl) ?_
      refine lv_iload hx hb dc_AR_fill4_17 (lv_fd hl rfl) ?_
      refine lv_iload_n hx hb dc_AR_fill4_19 rfl (lv_fd hl rfl) ?_
      refine gm_iast hx hb hK.1 hP hS 0 h2 rfl rfl (show i < n by omega) (by omega) dc_AR_fill4_20 (fun H locs hP hS => ?_)
      refine lv_iinc (k := 0) (v := nI (i + 1)) hx hb dc_AR_fill4_21 hl rfl (gh_inc i) (by decide) rfl (fun ls hl => ?_)
      refine lv_goto (tgt := 10) hx hb dc_AR_fill4_24 (by decide) ?_
      exact ih (i + 1) _ H locs ls (by omega) hl hP hS (by rw [gh_up_self, step i]) (fun b hb => (gh_up_ne _ _ hb).trans (ho b hb))
  refine lv_aload_n hx hb dc_AR_fill4_0 rfl (lv_fd hl rfl) ?_
  refine gh_alen hx hb hK.1 hP 0 h rfl rfl dc_AR_fill4_1 ?_
  refine lv_iload_n hx hb dc_AR_fill4_2 rfl (lv_fd hl rfl) ?_
  refine lv_iload_n hx hb dc_AR_fill4_3 rfl (lv_fd hl rfl) ?_
  refine gk_cv (gk_rS F (As := [.int (nI n), .int (nI 0), .int (nI k)]) (rest := []) (ct_AR_rangeCheck l E M _ hn hk) ww_370 ww_371 ww_6 ww_372 rfl rfl ⟨by decide, by decide, by show _ = some 3; decide +kernel⟩ ⟨Nat.le_of_ble_eq_true rfl, Nat.le_of_ble_eq_true rfl⟩ hK hZ hP hS hA hl.1 rfl (Nat.le_of_ble_eq_true rfl) dc_AR_fill4_4 ⟨Nat.le_of_ble_eq_true rfl, Nat.le_of_ble_eq_true rfl⟩) hP hS hA (fun M1 H locs h1 hP hS => ?_)
  subst h1
  refine lv_iload_n hx hb dc_AR_fill4_7 rfl (lv_fd hl rfl) ?_
  refine lv_istore hx hb dc_AR_fill4_8 hl (by decide) rfl (fun ls hl => ?_)
  exact loop k 0 _ H locs ls (by omega) hl hP hS (by rw [h]; simp) (fun _ _ => rfl)
set_option maxHeartbeats 4000000 in
set_option maxRecDepth 100000 in
theorem ct_AR_copyOfI (l : Launch) (E : gk_E) (M : gh_M) (sz : Nat) (tn : Nat) {t a n n2 : Nat} {f : Nat → Int32} (h : M a = some (t, .inl (E.2.1 0, n, .inl f))) (hn : n < n2) (hn2 : n2 < 2 ^ 25) : Met l yn_AR_copyOfI (.code yn_AR_copyOfI cd_AR_copyOfI 3 (some (FieldType.array FieldType.int)) :: bw_L) { frames := 1, cells := 1, slots := n2, locals := 30 } (gk_Pre E [.ref a, .int (nI n2)] M sz) (va_Qq (fun r M' => ∃ q, r = some q ∧ M q = none ∧ (∀ b, b ≠ q → M' b = M b) ∧ M' q = some (tn, .inl (E.2.1 0, n2, .inl (va_cpy f (fun _ => 0) 0 0 n)))) (gk_B E M sz) (gh_A M sz)) 1 n2 (gh_A M sz) := by
  refine gk_met rfl (Nat.le_of_ble_eq_true rfl) ?_
  intro p e s m below meth c F hsz hP hK hZ ls hl
  subst hsz
  have hx := F.1
  have hb := F.2.1
  have hr := F.2.2.1
  have hml := F.2.2.2.1
  have hown : s.vm.findClass "java/util/Arrays" = some m.cls := F.2.2.2.2.1
  have hlk := F.2.2.2.2.2.1
  have hnm := F.2.2.2.2.2.2.1
  have ht := fun (w : Cond) (h : w ∈ bw_L) => F.2.2.2.2.2.2.2 w (List.mem_cons_of_mem _ h)
  have hA : ∀ q, s.heap.size ≤ q → gh_A M s.heap.size q := fun q h => Or.inr h
  have hS : va_S (gh_A M s.heap.size) s.heap s.heap [] := va_S.rf
  have hl : lv_has ls 3 [(0, .ref a), (1, .int (nI n2))] := hl
  refine lv_iload_n hx hb dc_AR_copyOfI_0 rfl (lv_fd hl rfl) ?_
  refine lv_aload_n hx hb dc_AR_copyOfI_1 rfl (lv_fd hl rfl) ?_
  refine gh_alen hx hb hK.1 hP 0 h rfl rfl dc_AR_copyOfI_2 ?_
  refine gn_ne (tgt := 14) hx hb (by omega) (by omega) dc_AR_copyOfI_3 (by decide) (fun _ => ?_) (fun q => absurd q (by omega))
  refine lv_iload_n hx hb dc_AR_copyOfI_14 rfl (lv_fd hl rfl) ?_
  refine gh_newa tn (atype := .int) (a0 := (n2, .inl (fun _ => 0))) hx hb (ht _ ww_337) rfl hK.1 hP hS hA 0 rfl (fun h => h) (fun cA => rfl) rfl (by omega) (by show n2 * 4 ≤ _; omega) (Nat.le_refl _) (by show 0 + n2 ≤ n2; omega) dc_AR_copyOfI_15 (fun q H hq hP hS => ?_)
  refine W.widen (k := 1) (n := n2) (by omega) (by omega) ?_
  refine lv_astore_n hx hb dc_AR_copyOfI_17 rfl hl (by decide) rfl (fun ls hl => ?_)
  have hne : a ≠ q := gh_ne0 h hq
  have h1 := gh_up_at (q := (tn, .inl (E.2.1 0, n2, .inl (fun _ => 0)))) h hne
  refine lv_aload_n hx hb dc_AR_copyOfI_18 rfl (lv_fd hl rfl) ?_
  refine lv_iconst (v := nI 0) hx hb dc_AR_copyOfI_19 (by decide) ?_
  refine lv_aload_n hx hb dc_AR_copyOfI_20 rfl (lv_fd hl rfl) ?_
  refine lv_iconst (v := nI 0) hx hb dc_AR_copyOfI_21 (by decide) ?_
  refine lv_aload_n hx hb dc_AR_copyOfI_22 rfl (lv_fd hl rfl) ?_
  refine gh_alen hx hb hK.1 hP 0 h1 rfl rfl dc_AR_copyOfI_23 ?_
  refine lv_iload_n hx hb dc_AR_copyOfI_24 rfl (lv_fd hl rfl) ?_
  refine va_mmin hx hb (by rw [hml]; exact hl.1.symm) hown (ht _ ww_145) (ht _ ww_146) (ht _ ww_9) (ht _ ww_147) (Nat.le_of_ble_eq_true rfl) (Nat.le_of_ble_eq_true rfl) (Nat.le_refl _) (Nat.le_refl _) dc_AR_copyOfI_25 ?_
  have hmn : (if nI n2 < Int32.ofNat n then nI n2 else Int32.ofNat n) = nI n := if_neg (nI_nlt (b := n) (by omega) (by omega))
  refine gh_topi hmn ?_
  refine gh_copyi hx hb (by rw [hml]; exact hl.1.symm) hown (ht _ ww_148) (ht _ ww_150) (ht _ ww_149) (ht _ ww_10) hK.1 hP hS 0 0 h1 (gh_up_self _ _ _) rfl rfl (by decide) (by decide) (by omega) (by omega) (by omega) (Nat.le_of_ble_eq_true rfl) (Nat.le_of_ble_eq_true rfl) dc_AR_copyOfI_28 (fun H locs hP hS => ?_)
  refine lv_aload_n hx hb dc_AR_copyOfI_31 rfl (lv_fd hl rfl) ?_
  exact gk_eq (v := some q) hx hb hr (Or.inr ⟨_, rfl⟩) hlk hP hS dc_AR_copyOfI_32 ⟨q, rfl, hq, fun b hb => by rw [gh_up_ne _ _ hb, gh_up_ne _ _ hb], gh_up_self _ _ _⟩
set_option maxHeartbeats 4000000 in
set_option maxRecDepth 100000 in
theorem ct_AR_copyOfJ (l : Launch) (E : gk_E) (M : gh_M) (sz : Nat) (tn : Nat) {t a n n2 : Nat} {f : Nat → Int64} (h : M a = some (t, .inl (E.2.1 1, n, .inr (.inl f)))) (hn : n < n2) (hn2 : n2 < 2 ^ 25) : Met l yn_AR_copyOfJ (.code yn_AR_copyOfJ cd_AR_copyOfJ 3 (some (FieldType.array FieldType.long)) :: bw_L) { frames := 1, cells := 1, slots := n2, locals := 30 } (gk_Pre E [.ref a, .int (nI n2)] M sz) (va_Qq (fun r M' => ∃ q, r = some q ∧ M q = none ∧ (∀ b, b ≠ q → M' b = M b) ∧ M' q = some (tn, .inl (E.2.1 1, n2, .inr (.inl (va_cpy f (fun _ => 0) 0 0 n))))) (gk_B E M sz) (gh_A M sz)) 1 n2 (gh_A M sz) := by
  refine gk_met rfl (Nat.le_of_ble_eq_true rfl) ?_
  intro p e s m below meth c F hsz hP hK hZ ls hl
  subst hsz
  have hx := F.1
  have hb := F.2.1
  have hr := F.2.2.1
  have hml := F.2.2.2.1
  have hown : s.vm.findClass "java/util/Arrays" = some m.cls := F.2.2.2.2.1
  have hlk := F.2.2.2.2.2.1
  have hnm := F.2.2.2.2.2.2.1
  have ht := fun (w : Cond) (h : w ∈ bw_L) => F.2.2.2.2.2.2.2 w (List.mem_cons_of_mem _ h)
  have hA : ∀ q, s.heap.size ≤ q → gh_A M s.heap.size q := fun q h => Or.inr h
  have hS : va_S (gh_A M s.heap.size) s.heap s.heap [] := va_S.rf
  have hl : lv_has ls 3 [(0, .ref a), (1, .int (nI n2))] := hl
  refine lv_iload_n hx hb dc_AR_copyOfJ_0 rfl (lv_fd hl rfl) ?_
  refine lv_aload_n hx hb dc_AR_copyOfJ_1 rfl (lv_fd hl rfl) ?_
  refine gh_alen hx hb hK.1 hP 1 h rfl rfl dc_AR_copyOfJ_2 ?_
  refine gn_ne (tgt := 14) hx hb (by omega) (by omega) dc_AR_copyOfJ_3 (by decide) (fun _ => ?_) (fun q => absurd q (by omega))
  refine lv_iload_n hx hb dc_AR_copyOfJ_14 rfl (lv_fd hl rfl) ?_
  refine gh_newa tn (atype := .long) (a0 := (n2, .inr (.inl (fun _ => 0)))) hx hb (ht _ ww_382) rfl hK.1 hP hS hA 1 rfl (fun h => h) (fun cA => rfl) rfl (by omega) (by show n2 * 8 ≤ _; omega) (Nat.le_refl _) (by show 0 + n2 ≤ n2; omega) dc_AR_copyOfJ_15 (fun q H hq hP hS => ?_)
  refine W.widen (k := 1) (n := n2) (by omega) (by omega) ?_
  refine lv_astore_n hx hb dc_AR_copyOfJ_17 rfl hl (by decide) rfl (fun ls hl => ?_)
  have hne : a ≠ q := gh_ne0 h hq
  have h1 := gh_up_at (q := (tn, .inl (E.2.1 1, n2, .inr (.inl (fun _ => 0))))) h hne
  refine lv_aload_n hx hb dc_AR_copyOfJ_18 rfl (lv_fd hl rfl) ?_
  refine lv_iconst (v := nI 0) hx hb dc_AR_copyOfJ_19 (by decide) ?_
  refine lv_aload_n hx hb dc_AR_copyOfJ_20 rfl (lv_fd hl rfl) ?_
  refine lv_iconst (v := nI 0) hx hb dc_AR_copyOfJ_21 (by decide) ?_
  refine lv_aload_n hx hb dc_AR_copyOfJ_22 rfl (lv_fd hl rfl) ?_
  refine gh_alen hx hb hK.1 hP 1 h1 rfl rfl dc_AR_copyOfJ_23 ?_
  refine lv_iload_n hx hb dc_AR_copyOfJ_24 rfl (lv_fd hl rfl) ?_
  refine va_mmin hx hb (by rw [hml]; exact hl.1.symm) hown (ht _ ww_145) (ht _ ww_146) (ht _ ww_9) (ht _ ww_147) (Nat.le_of_ble_eq_true rfl) (Nat.le_of_ble_eq_true rfl) (Nat.le_refl _) (Nat.le_refl _) dc_AR_copyOfJ_25 ?_
  have hmn : (if nI n2 < Int32.ofNat n then nI n2 else Int32.ofNat n) = nI n := if_neg (nI_nlt (b := n) (by omega) (by omega))
  refine gh_topi hmn ?_
  refine gh_copyl hx hb (by rw [hml]; exact hl.1.symm) hown (ht _ ww_148) (ht _ ww_150) (ht _ ww_149) (ht _ ww_10) hK.1 hP hS 1 1 h1 (gh_up_self _ _ _) rfl rfl (by decide) (by decide) (by omega) (by omega) (by omega) (Nat.le_of_ble_eq_true rfl) (Nat.le_of_ble_eq_true rfl) dc_AR_copyOfJ_28 (fun H locs hP hS => ?_)
  refine lv_aload_n hx hb dc_AR_copyOfJ_31 rfl (lv_fd hl rfl) ?_
  exact gk_eq (v := some q) hx hb hr (Or.inr ⟨_, rfl⟩) hlk hP hS dc_AR_copyOfJ_32 ⟨q, rfl, hq, fun b hb => by rw [gh_up_ne _ _ hb, gh_up_ne _ _ hb], gh_up_self _ _ _⟩
set_option maxHeartbeats 4000000 in
set_option maxRecDepth 100000 in
theorem ct_MO_in (l : Launch) (E : gk_E) (M : gh_M) (sz : Nat) (v : Int32) {hi : Int32} {n : Nat} (hhi : hi = nI n - nI 1) (hn : n < 2 ^ 30) : Met l yn_MO_in (.code yn_MO_in cd_MO_in 3 (some FieldType.boolean) :: bw_L) { frames := 0, cells := 0, slots := 0, locals := 0 } (gk_Pre E [.int v, .int (nI 0), .int hi] M sz) (vp_Si (fun r => (r = 1 ∧ ∃ j, j < n ∧ v = nI j) ∨ (r = 0 ∧ ∀ j, j < n → v ≠ nI j))) 0 0 (fun _ => False) := by
  refine gk_met rfl (Nat.le_of_ble_eq_true rfl) ?_
  intro p e s m below meth c F hsz hP hK hZ ls hl
  subst hsz
  have hx := F.1
  have hb := F.2.1
  have hr := F.2.2.1
  have hml := F.2.2.2.1
  have hown : s.vm.findClass "ThingHeapModel" = some m.cls := F.2.2.2.2.1
  have hlk := F.2.2.2.2.2.1
  have hnm := F.2.2.2.2.2.2.1
  have ht := fun (w : Cond) (h : w ∈ bw_L) => F.2.2.2.2.2.2.2 w (List.mem_cons_of_mem _ h)
  have hA : ∀ q, s.heap.size ≤ q → gh_A M s.heap.size q := fun q h => Or.inr h
  have hS : va_S (gh_A M s.heap.size) s.heap s.heap [] := va_S.rf
  have hl : lv_has ls 3 [(0, .int v), (1, .int (nI 0)), (2, .int hi)] := hl
  have hti : hi.toInt = (n : Int) - 1 := by rw [hhi]; exact pk_sub_toInt (by omega) (by decide)
  have no : (v < nI 0 ∨ hi < v) → W p l e ({ frames := 0, cells := 0, slots := 0, locals := 0 } : Room) s m ([.int v, .int (nI 0), .int hi] : List Value).toArray below meth c s.heap [] 0 0 (MQ below (vp_Si (fun r => (r = 1 ∧ ∃ j, j < n ∧ v = nI j) ∨ (r = 0 ∧ ∀ j, j < n → v ≠ nI j))) ([.int v, .int (nI 0), .int hi] : List Value).toArray s 0 0 (fun _ => False)) (F0 m 14 ls []) := by
    intro hno
    refine lv_iconst (v := 0) hx hb dc_MO_in_14 (by decide) ?_
    refine W.zret hx hb hr rfl (fun t ht _ => ⟨_, rfl, Or.inr ⟨rfl, fun j hj hk => ?_⟩, ht⟩) (fun q h => by cases h) dc_MO_in_15
    subst hk
    rcases hno with h | h
    · rw [Int32.lt_iff_toInt_lt, nI_toInt (by omega), nI_toInt (by omega)] at h
      omega
    · rw [Int32.lt_iff_toInt_lt, nI_toInt (by omega)] at h
      omega
  refine lv_iload_n hx hb dc_MO_in_0 rfl (lv_fd hl rfl) ?_
  refine lv_iload_n hx hb dc_MO_in_1 rfl (lv_fd hl rfl) ?_
  refine lv_icmp_lt (tgt := 14) hx hb dc_MO_in_2 (by decide) (fun h => no (Or.inl h)) (fun h0 => ?_)
  refine lv_iload_n hx hb dc_MO_in_5 rfl (lv_fd hl rfl) ?_
  refine lv_iload_n hx hb dc_MO_in_6 rfl (lv_fd hl rfl) ?_
  refine lv_icmp_gt (tgt := 14) hx hb dc_MO_in_7 (by decide) (fun h => no (Or.inr h)) (fun h1 => ?_)
  refine lv_iconst (v := 1) hx hb dc_MO_in_10 (by decide) ?_
  refine lv_goto (tgt := 15) hx hb dc_MO_in_11 (by decide) ?_
  refine W.zret hx hb hr rfl (fun t ht _ => ⟨_, rfl, Or.inl ⟨rfl, ?_⟩, ht⟩) (fun q h => by cases h) dc_MO_in_15
  obtain ⟨j, hj, rfl⟩ := nI_of (x := v) (by rw [nI_0] at h0; exact h0)
  refine ⟨j, ?_, rfl⟩
  rw [Int32.lt_iff_toInt_lt, nI_toInt hj] at h1
  omega
