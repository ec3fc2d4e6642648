/-- forget how a map came about: what it has at a, and elsewhere -/
theorem gh_at0 {D : va_G} {cl : List vw_C} {A : Nat → Prop} {M : gh_M} {H : Heap} {a : Nat} {q x : Nat × va_E} {C : Prop} (hP : gh_P D cl A (gh_up M a q) H) (k : ∀ M2 : gh_M, (∀ b, b ≠ a → M2 b = M b) → M2 a = some x → gh_P D cl A M2 H → C) (hx : q = x) : C := k _ (fun _ hb => gh_up_ne _ _ hb) (by rw [gh_up_self, hx]) hP
set_option maxHeartbeats 4000000 in
set_option maxRecDepth 100000 in
theorem ct_IT_initN (l : Launch) (E : gk_E) (M : gh_M) (sz : Nat) {t a : Nat} {v1 v2 : Value} {k : Int32} (ha : M a = some (t, .inr (3, [v1, v2]))) : Met l yn_IT_init (.code yn_IT_init cd_IT_init 3 none :: bw_L) { frames := 1, cells := 0, slots := 0, locals := 14 } (gk_Pre E [.ref a, .null, .int k] M sz) (va_Qv (fun M' => M' a = some (t, .inr (3, [.null, .int k])) ∧ ∀ b, b ≠ a → M' b = M b) (gk_B E M sz) (gh_A M sz)) 0 0 (gh_A M sz) := by
  refine gk_met rfl (Nat.le_of_ble_eq_true rfl) ?_
  intro p e s m below meth c F hsz hP hK hZ ls hl
  subst hsz
  have hx := F.1
  have hb := F.2.1
  have hr := F.2.2.1
  have hml := F.2.2.2.1
  have hown : s.vm.findClass "ThingHeap$Item" = some m.cls := F.2.2.2.2.1
  have hlk := F.2.2.2.2.2.1
  have hnm := F.2.2.2.2.2.2.1
  have ht := fun (w : Cond) (h : w ∈ bw_L) => F.2.2.2.2.2.2.2 w (List.mem_cons_of_mem _ h)
  have hA : ∀ q, s.heap.size ≤ q → gh_A M s.heap.size q := fun q h => Or.inr h
  have hS : va_S (gh_A M s.heap.size) s.heap s.heap [] := va_S.rf
  have hl : lv_has ls 3 [(0, .ref a), (1, .null), (2, .int k)] := hl
  refine lv_aload_n hx hb dc_IT_init_0 rfl (lv_fd hl rfl) ?_
  refine W.objInit hx hb hown (ht _ ww_236) (ht _ ww_20) (ht _ ww_21) rfl (by rw [hml]; exact hl.1) rfl dc_IT_init_1 (Nat.le_of_ble_eq_true rfl) (Nat.le_of_ble_eq_true rfl) ?_
  refine W.eq (g2 := F0 m 4 ls []) rfl ?_
  refine lv_aload_n hx hb dc_IT_init_4 rfl (lv_fd hl rfl) ?_
  refine lv_aload_nN hx hb dc_IT_init_5 rfl (lv_fd hl rfl) ?_
  refine gh_putF (ty := .object "ThingHeap$Thing") hx hb ht nu_IT nt_IT no_IT nn_IT hown hK.1 hP hS ha rfl 0 (by decide) (ht _ ww_237) (fun _ h9 => h9) rfl hnm rfl (by decide +kernel) rfl rfl (Nat.le_of_ble_eq_true rfl) rfl dc_IT_init_6 (fun H locs hP hS => ?_)
  have ha1 : gh_up M a (t, .inr (3, [v1, v2].set 0 (.null))) a = some (t, .inr (3, [.null, v2])) := gh_up_self _ _ _
  refine lv_aload_n hx hb dc_IT_init_9 rfl (lv_fd hl rfl) ?_
  refine lv_iload_n hx hb dc_IT_init_10 rfl (lv_fd hl rfl) ?_
  refine gh_putF (ty := .int) hx hb ht nu_IT nt_IT no_IT nn_IT hown hK.1 hP hS ha1 rfl 1 (by decide) (ht _ ww_239) (fun _ h9 => h9) rfl hnm rfl (by decide +kernel) rfl rfl (Nat.le_of_ble_eq_true rfl) rfl dc_IT_init_11 (fun H locs hP hS => ?_)
  exact gk_ev hx hb hr hlk hP hS dc_IT_init_14 ⟨gh_up_self _ _ _, fun b hb => by rw [gh_up_ne _ _ hb, gh_up_ne _ _ hb]⟩
set_option maxHeartbeats 4000000 in
set_option maxRecDepth 100000 in
theorem ct_IT_initS (l : Launch) (E : gk_E) (M : gh_M) (sz : Nat) {t a : Nat} {v1 v2 : Value} {k : Int32} (ha : M a = some (t, .inr (3, [v1, v2]))) {x : Nat} : Met l yn_IT_init (.code yn_IT_init cd_IT_init 3 none :: bw_L) { frames := 1, cells := 0, slots := 0, locals := 14 } (gk_Pre E [.ref a, .ref x, .int k] M sz) (va_Qv (fun M' => M' a = some (t, .inr (3, [.ref x, .int k])) ∧ ∀ b, b ≠ a → M' b = M b) (gk_B E M sz) (gh_A M sz)) 0 0 (gh_A M sz) := by
  refine gk_met rfl (Nat.le_of_ble_eq_true rfl) ?_
  intro p e s m below meth c F hsz hP hK hZ ls hl
  subst hsz
  have hx := F.1
  have hb := F.2.1
  have hr := F.2.2.1
  have hml := F.2.2.2.1
  have hown : s.vm.findClass "ThingHeap$Item" = some m.cls := F.2.2.2.2.1
  have hlk := F.2.2.2.2.2.1
  have hnm := F.2.2.2.2.2.2.1
  have ht := fun (w : Cond) (h : w ∈ bw_L) => F.2.2.2.2.2.2.2 w (List.mem_cons_of_mem _ h)
  have hA : ∀ q, s.heap.size ≤ q → gh_A M s.heap.size q := fun q h => Or.inr h
  have hS : va_S (gh_A M s.heap.size) s.heap s.heap [] := va_S.rf
  have hl : lv_has ls 3 [(0, .ref a), (1, .ref x), (2, .int k)] := hl
  refine lv_aload_n hx hb dc_IT_init_0 rfl (lv_fd hl rfl) ?_
  refine W.objInit hx hb hown (ht _ ww_236) (ht _ ww_20) (ht _ ww_21) rfl (by rw [hml]; exact hl.1) rfl dc_IT_init_1 (Nat.le_of_ble_eq_true rfl) (Nat.le_of_ble_eq_true rfl) ?_
  refine W.eq (g2 := F0 m 4 ls []) rfl ?_
  refine lv_aload_n hx hb dc_IT_init_4 rfl (lv_fd hl rfl) ?_
  refine lv_aload_n hx hb dc_IT_init_5 rfl (lv_fd hl rfl) ?_
  refine gh_putF (ty := .object "ThingHeap$Thing") hx hb ht nu_IT nt_IT no_IT nn_IT hown hK.1 hP hS ha rfl 0 (by decide) (ht _ ww_237) (fun _ h9 => h9) rfl hnm rfl (by decide +kernel) rfl rfl (Nat.le_of_ble_eq_true rfl) rfl dc_IT_init_6 (fun H locs hP hS => ?_)
  have ha1 : gh_up M a (t, .inr (3, [v1, v2].set 0 (.ref x))) a = some (t, .inr (3, [.ref x, v2])) := gh_up_self _ _ _
  refine lv_aload_n hx hb dc_IT_init_9 rfl (lv_fd hl rfl) ?_
  refine lv_iload_n hx hb dc_IT_init_10 rfl (lv_fd hl rfl) ?_
  refine gh_putF (ty := .int) hx hb ht nu_IT nt_IT no_IT nn_IT hown hK.1 hP hS ha1 rfl 1 (by decide) (ht _ ww_239) (fun _ h9 => h9) rfl hnm rfl (by decide +kernel) rfl rfl (Nat.le_of_ble_eq_true rfl) rfl dc_IT_init_11 (fun H locs hP hS => ?_)
  exact gk_ev hx hb hr hlk hP hS dc_IT_init_14 ⟨gh_up_self _ _ _, fun b hb => by rw [gh_up_ne _ _ hb, gh_up_ne _ _ hb]⟩
set_option maxHeartbeats 4000000 in
set_option maxRecDepth 100000 in
theorem ct_TG_init (l : Launch) (E : gk_E) (M : gh_M) (sz : Nat) (tr : Nat) {t a : Nat} {v0 v1 v2 v3 : Value} {k : Int32} (ha : M a = some (t, .inr (2, [v0, v1, v2, v3]))) : Met l yn_TG_init (.code yn_TG_init cd_TG_init 2 none :: bw_L) { frames := 4, cells := 1, slots := 3, locals := 90 } (gk_Pre E [.ref a, .int k] M sz) (va_Qv (fun M' => ∃ q, M q = none ∧ M' a = some (t, .inr (2, [.int k, .ref q, .int (nI 0), .int (nI 0)])) ∧ al_L E M' tr q 0 [] ∧ ∀ b, b ≠ a → b ≠ q → M' b = M b) (gk_B E M sz) (gh_A M sz)) 1 3 (gh_A M sz) := by
  refine gk_met rfl (Nat.le_of_ble_eq_true rfl) ?_
  intro p e s m below meth c F hsz hP hK hZ ls hl
  subst hsz
  have hx := F.1
  have hb := F.2.1
  have hr := F.2.2.1
  have hml := F.2.2.2.1
  have hown : s.vm.findClass "ThingHeap$Thing" = some m.cls := F.2.2.2.2.1
  have hlk := F.2.2.2.2.2.1
  have hnm := F.2.2.2.2.2.2.1
  have ht := fun (w : Cond) (h : w ∈ bw_L) => F.2.2.2.2.2.2.2 w (List.mem_cons_of_mem _ h)
  have hA : ∀ q, s.heap.size ≤ q → gh_A M s.heap.size q := fun q h => Or.inr h
  have hS : va_S (gh_A M s.heap.size) s.heap s.heap [] := va_S.rf
  have hl : lv_has ls 2 [(0, .ref a), (1, .int k)] := hl
  refine lv_aload_n hx hb dc_TG_init_0 rfl (lv_fd hl rfl) ?_
  refine W.objInit hx hb hown (ht _ ww_81) (ht _ ww_20) (ht _ ww_21) rfl (by rw [hml]; exact hl.1) rfl dc_TG_init_1 (Nat.le_of_ble_eq_true rfl) (Nat.le_of_ble_eq_true rfl) ?_
  refine W.eq (g2 := F0 m 4 ls []) rfl ?_
  refine lv_aload_n hx hb dc_TG_init_4 rfl (lv_fd hl rfl) ?_
  refine gh_new tr (ci := 0) (fs := [.int 0, .null, .int 0]) hx hb ht nu_AL nt_AL no_AL hown (ht _ ww_82) (ht _ ww_25) (ht _ ww_4) hK.1 hP hS hA rfl (fun j hj => by rcases (show j = 0 ∨ j = 1 ∨ j = 2 by omega) with rfl | rfl | rfl <;> rfl) (Nat.le_refl _) (Nat.le_of_ble_eq_true rfl) dc_TG_init_5 (fun q H hn_q hP hS => ?_)
  refine lv_dup hx hb dc_TG_init_8 rfl ?_
  refine gk_cv (gk_rI F (b := q) (As := []) (rest := [.ref q, .ref a]) (ct_AL_init l E _ _ (gh_up_self _ _ _)) ww_83 ww_27 ww_4 ww_28 rfl rfl rfl ⟨by decide, by decide, by show _ = some 0; decide +kernel⟩ ⟨Nat.le_of_ble_eq_true rfl, Nat.le_of_ble_eq_true rfl⟩ hK hZ hP hS hA hl.1 rfl (Nat.le_of_ble_eq_true rfl) dc_TG_init_9 ⟨Nat.le_of_ble_eq_true rfl, Nat.le_of_ble_eq_true rfl⟩) hP hS hA (fun M1 H locs hM1 hP hS => ?_)
  have hne : a ≠ q := gh_ne0 ha hn_q
  have ha1 : M1 a = some (t, .inr (2, [v0, v1, v2, v3])) := (hM1.1 a hne).trans (gh_up_at ha hne)
  have ho1 : ∀ b, b ≠ q → M1 b = M b := fun b hb => (hM1.1 b hb).trans (gh_up_ne _ _ hb)
  have hq1 := hM1.2
  refine gh_putF (ty := .object "java/util/ArrayList") hx hb ht nu_TG nt_TG no_TG nn_TG hown hK.1 hP hS ha1 rfl 1 (by decide) (ht _ ww_86) (fun _ h9 => h9) rfl hnm rfl (by decide +kernel) rfl rfl (Nat.le_of_ble_eq_true rfl) rfl dc_TG_init_12 (fun H locs hP hS => ?_)
  have ha2 : gh_up M1 a (t, .inr (2, [v0, v1, v2, v3].set 1 (.ref q))) a = some (t, .inr (2, [v0, .ref q, v2, v3])) := gh_up_self _ _ _
  refine lv_aload_n hx hb dc_TG_init_15 rfl (lv_fd hl rfl) ?_
  refine lv_iconst (v := nI 0) hx hb dc_TG_init_16 (by decide) ?_
  refine gh_put (ty := .int) hx hb ht nu_TG nt_TG no_TG nn_TG hown hK.1 hP hS ha2 rfl 2 (by decide) (ht _ ww_88) (fun _ h9 => h9) rfl (by decide +kernel) rfl rfl (Nat.le_of_ble_eq_true rfl) rfl dc_TG_init_17 (fun H locs hP hS => ?_)
  have ha3 : gh_up (gh_up M1 a (t, .inr (2, [v0, v1, v2, v3].set 1 (.ref q)))) a (t, .inr (2, [v0, .ref q, v2, v3].set 2 (.int (nI 0)))) a = some (t, .inr (2, [v0, .ref q, .int (nI 0), v3])) := gh_up_self _ _ _
  refine lv_aload_n hx hb dc_TG_init_20 rfl (lv_fd hl rfl) ?_
  refine lv_iconst (v := nI 0) hx hb dc_TG_init_21 (by decide) ?_
  refine gh_put (ty := .boolean) hx hb ht nu_TG nt_TG no_TG nn_TG hown hK.1 hP hS ha3 rfl 3 (by decide) (ht _ ww_90) (fun _ h9 => h9) rfl (by decide +kernel) (by decide) (by decide) (Nat.le_of_ble_eq_true rfl) rfl dc_TG_init_22 (fun H locs hP hS => ?_)
  refine gh_at0 (a := a) (x := (t, .inr (2, [v0, .ref q, .int (nI 0), .int (nI 0)]))) hP (fun M4 ho4 ha4 hP => ?_) rfl
  refine lv_aload_n hx hb dc_TG_init_25 rfl (lv_fd hl rfl) ?_
  refine lv_iload_n hx hb dc_TG_init_26 rfl (lv_fd hl rfl) ?_
  refine gh_putF (ty := .int) hx hb ht nu_TG nt_TG no_TG nn_TG hown hK.1 hP hS ha4 rfl 0 (by decide) (ht _ ww_84) (fun _ h9 => h9) rfl hnm rfl (by decide +kernel) rfl rfl (Nat.le_of_ble_eq_true rfl) rfl dc_TG_init_27 (fun H locs hP hS => ?_)
  refine W.widen (k := 1) (n := 3) (Nat.le_of_ble_eq_true rfl) (Nat.le_of_ble_eq_true rfl) ?_
  refine gk_ev hx hb hr hlk hP hS dc_TG_init_30 ⟨q, hn_q, gh_up_self _ _ _, al_new ?_, fun b h1 h2 => ?_⟩
  · rw [gh_up_ne _ _ (Ne.symm hne), ho4 q (Ne.symm hne), gh_up_ne _ _ (Ne.symm hne), gh_up_ne _ _ (Ne.symm hne)]
    exact hq1
  · rw [gh_up_ne _ _ h1, ho4 b h1, gh_up_ne _ _ h1, gh_up_ne _ _ h1]
    exact ho1 b h2
set_option maxHeartbeats 4000000 in
set_option maxRecDepth 100000 in
theorem ct_TG_hasItem (l : Launch) (E : gk_E) (M : gh_M) (sz : Nat) {t a rl cap : Nat} {v0 v2 v3 : Value} {its : List Nat} (k : Int32) {tr : Nat} (ha : M a = some (t, .inr (2, [v0, .ref rl, v2, v3]))) (hr0 : al_L E M tr rl cap its) : Met l yn_TG_hasItem (.code yn_TG_hasItem cd_TG_hasItem 2 (some FieldType.boolean) :: bw_L) { frames := 1, cells := 0, slots := 0, locals := 24 } (gk_Pre E [.ref a, .int k] M sz) (vp_Si (fun r => (r = 1 ∧ ∃ j, j < its.length ∧ k = nI j) ∨ (r = 0 ∧ ∀ j, j < its.length → k ≠ nI j))) 0 0 (fun _ => False) := by
  refine gk_met rfl (Nat.le_of_ble_eq_true rfl) ?_
  intro p e s m below meth c F hsz hP hK hZ ls hl
  subst hsz
  have hx := F.1
  have hb := F.2.1
  have hr := F.2.2.1
  have hml := F.2.2.2.1
  have hown : s.vm.findClass "ThingHeap$Thing" = some m.cls := F.2.2.2.2.1
  have hlk := F.2.2.2.2.2.1
  have hnm := F.2.2.2.2.2.2.1
  have ht := fun (w : Cond) (h : w ∈ bw_L) => F.2.2.2.2.2.2.2 w (List.mem_cons_of_mem _ h)
  have hA : ∀ q, s.heap.size ≤ q → gh_A M s.heap.size q := fun q h => Or.inr h
  have hS : va_S (gh_A M s.heap.size) s.heap s.heap [] := va_S.rf
  have hl : lv_has ls 2 [(0, .ref a), (1, .int k)] := hl
  have hlen := hr0.len
  have no : k < 0 ∨ nI its.length ≤ k → W p l e ({ frames := 1, cells := 0, slots := 0, locals := 24 } : Room) s m ([.ref a, .int k] : List Value).toArray below meth c s.heap [] 0 0 (MQ below (vp_Si (fun r => (r = 1 ∧ ∃ j, j < its.length ∧ k = nI j) ∨ (r = 0 ∧ ∀ j, j < its.length → k ≠ nI j))) ([.ref a, .int k] : List Value).toArray s 0 0 (fun _ => False)) (F0 m 19 ls []) := by
    intro hno
    refine lv_iconst (v := 0) hx hb dc_TG_hasItem_19 (by decide) ?_
    refine W.zret hx hb hr rfl (fun t ht _ => ⟨_, rfl, Or.inr ⟨rfl, fun j hj hk => ?_⟩, ht⟩) (fun q h => by cases h) dc_TG_hasItem_20
    subst hk
    rcases hno with h | h
    · exact absurd h (nI_pos (by omega))
    · exact absurd h (nI_ge hj (by omega))
  refine lv_iload_n hx hb dc_TG_hasItem_0 rfl (lv_fd hl rfl) ?_
  refine lv_if_lt (tgt := 19) hx hb dc_TG_hasItem_1 (by decide) (fun h => no (Or.inl h)) (fun h0 => ?_)
  refine lv_iload_n hx hb dc_TG_hasItem_4 rfl (lv_fd hl rfl) ?_
  refine lv_aload_n hx hb dc_TG_hasItem_5 rfl (lv_fd hl rfl) ?_
  refine gh_get hx hb ht nu_TG hown hK.1 hP ha rfl 1 (by decide) (ht _ ww_86) (fun _ h9 => h9) rfl dc_TG_hasItem_6 ?_
  refine gk_si (gk_rV F (b := rl) (As := []) (rest := [.int k]) (ct_AL_size l E _ _ hr0) ww_258 ww_74 ww_75 ww_4 ww_76 rfl rfl ⟨by decide, by decide, by show _ = some 0; decide +kernel⟩ ⟨Nat.le_of_ble_eq_true rfl, Nat.le_of_ble_eq_true rfl⟩ (by obtain ⟨mk, el, hq, -⟩ := hr0; exact gh_recv hK.1 hP hq rfl) hK hZ hP hS hA hl.1 rfl (Nat.le_of_ble_eq_true rfl) dc_TG_hasItem_9 ⟨Nat.le_refl _, Nat.le_refl _⟩) (fun r hr1 => ?_)
  subst hr1
  refine lv_icmp_ge (tgt := 19) hx hb dc_TG_hasItem_12 (by decide) (fun h => no (Or.inr h)) (fun h1 => ?_)
  refine lv_iconst (v := 1) hx hb dc_TG_hasItem_15 (by decide) ?_
  refine lv_goto (tgt := 20) hx hb dc_TG_hasItem_16 (by decide) ?_
  refine W.zret hx hb hr rfl (fun t ht _ => ⟨_, rfl, Or.inl ⟨rfl, ?_⟩, ht⟩) (fun q h => by cases h) dc_TG_hasItem_20
  rcases pk_ix k (n := its.length) (by omega) with q | q | ⟨j, hj, q⟩
  · exact absurd q h0
  · exact absurd q h1
  · exact ⟨j, hj, q⟩
set_option maxHeartbeats 4000000 in
set_option maxRecDepth 100000 in
theorem ct_TH_isRoot (l : Launch) (E : gk_E) (M : gh_M) (sz : Nat) (k : Int32) : Met l yn_TH_isRoot (.code yn_TH_isRoot cd_TH_isRoot 1 (some FieldType.boolean) :: bw_L) { frames := 0, cells := 0, slots := 0, locals := 0 } (gk_Pre E [.int k] M sz) (vp_Si (fun r => (r = 1 ∧ ∃ j, j < 16 ∧ k = nI j) ∨ (r = 0 ∧ ∀ j, j < 16 → k ≠ nI j))) 0 0 (fun _ => False) := by
  refine gk_met rfl (Nat.le_of_ble_eq_true rfl) ?_
  intro p e s m below meth c F hsz hP hK hZ ls hl
  subst hsz
  have hx := F.1
  have hb := F.2.1
  have hr := F.2.2.1
  have hml := F.2.2.2.1
  have hown : s.vm.findClass "ThingHeap" = some m.cls := F.2.2.2.2.1
  have hlk := F.2.2.2.2.2.1
  have hnm := F.2.2.2.2.2.2.1
  have ht := fun (w : Cond) (h : w ∈ bw_L) => F.2.2.2.2.2.2.2 w (List.mem_cons_of_mem _ h)
  have hA : ∀ q, s.heap.size ≤ q → gh_A M s.heap.size q := fun q h => Or.inr h
  have hS : va_S (gh_A M s.heap.size) s.heap s.heap [] := va_S.rf
  have hl : lv_has ls 1 [(0, .int k)] := hl
  have no : k < 0 ∨ nI 16 ≤ k → W p l e ({ frames := 0, cells := 0, slots := 0, locals := 0 } : Room) s m ([.int k] : List Value).toArray below meth c s.heap [] 0 0 (MQ below (vp_Si (fun r => (r = 1 ∧ ∃ j, j < 16 ∧ k = nI j) ∨ (r = 0 ∧ ∀ j, j < 16 → k ≠ nI j))) ([.int k] : List Value).toArray s 0 0 (fun _ => False)) (F0 m 14 ls []) := by
    intro hno
    refine lv_iconst (v := 0) hx hb dc_TH_isRoot_14 (by decide) ?_
    refine W.zret hx hb hr rfl (fun t ht _ => ⟨_, rfl, Or.inr ⟨rfl, fun j hj hk => ?_⟩, ht⟩) (fun q h => by cases h) dc_TH_isRoot_15
    subst hk
    rcases hno with h | h
    · exact absurd h (nI_pos (by omega))
    · exact absurd h (nI_ge hj (by omega))
  refine lv_iload_n hx hb dc_TH_isRoot_0 rfl (lv_fd hl rfl) ?_
  refine lv_if_lt (tgt := 14) hx hb dc_TH_isRoot_1 (by decide) (fun h => no (Or.inl h)) (fun h0 => ?_)
  refine lv_iload_n hx hb dc_TH_isRoot_4 rfl (lv_fd hl rfl) ?_
  refine lv_bipush (v := nI 16) hx hb dc_TH_isRoot_5 (by decide) ?_
  refine lv_icmp_ge (tgt := 14) hx hb dc_TH_isRoot_7 (by decide) (fun h => no (Or.inr h)) (fun h1 => ?_)
  refine lv_iconst (v := 1) hx hb dc_TH_isRoot_10 (by decide) ?_
  refine lv_goto (tgt := 15) hx hb dc_TH_isRoot_11 (by decide) ?_
  refine W.zret hx hb hr rfl (fun t ht _ => ⟨_, rfl, Or.inl ⟨rfl, ?_⟩, ht⟩) (fun q h => by cases h) dc_TH_isRoot_15
  rcases pk_ix k (n := 16) (by omega) with q | q | ⟨j, hj, q⟩
  · exact absurd q h0
  · exact absurd q h1
  · exact ⟨j, hj, q⟩
