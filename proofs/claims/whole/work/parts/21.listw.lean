theorem gh_neOA {M : gh_M} {a b t t' : Nat} {x : Nat × List Value} {y : ClassId × vp_A} (ha : M a = some (t, .inr x)) (hb : M b = some (t', .inl y)) : a ≠ b := by
  intro e
  subst e
  rw [ha] at hb
  injection hb with hb
  injection hb with _ hb
  cases hb
theorem al_new {E : gk_E} {M : gh_M} {t a : Nat} (h : M a = some (t, .inr (0, [.int (nI 0), .ref E.2.2.1, .int 0]))) : al_L E M t a 0 [] := ⟨nI 0, E.2.2.1, h, Or.inl ⟨rfl, rfl, rfl⟩⟩
theorem gh_recvA {s : State} {H : Heap} {D : va_G} {cl : List vw_C} {A : Nat → Prop} {a t : Nat} {cA : ClassId} {x : vp_A} {M : gh_M} {nm : String} (hP : gh_P D cl A M H) (he : M a = some (t, .inl (cA, x))) (hn : s.vm.findClass nm = some cA) : ∃ cell : Cell, H[a]? = some cell ∧ cell.vm.isStatics = false ∧ s.vm.findClass nm = some cell.cls := by
  obtain ⟨L, k, -, hP, -, hk, -⟩ := hP.look he
  have hc : H[a]? = some (vp_cell cA x) := hP k _ hk
  refine ⟨_, hc, ?_, ?_⟩
  · obtain ⟨nx, g | g | g | g | g⟩ := x <;> rfl
  · rw [hn]
    obtain ⟨nx, g | g | g | g | g⟩ := x <;> rfl
set_option maxHeartbeats 4000000 in
set_option maxRecDepth 100000 in
theorem ct_AC_init (l : Launch) (E : gk_E) (M : gh_M) (sz : Nat) (a : Nat) : Met l yn_AC_init (.code yn_AC_init cd_AC_init 1 none :: bw_L) { frames := 1, cells := 0, slots := 0, locals := 14 } (gk_Pre E [.ref a] M sz) (va_Sv (fun _ => True)) 0 0 (fun _ => False) := by
  refine gk_met rfl (Nat.le_of_ble_eq_true rfl) ?_
  intro p e s m below meth c F hsz hP hK hZ ls hl
  subst hsz
  have hx := F.1
  have hb := F.2.1
  have hr := F.2.2.1
  have hml := F.2.2.2.1
  have hown : s.vm.findClass "java/util/AbstractCollection" = some m.cls := F.2.2.2.2.1
  have hlk := F.2.2.2.2.2.1
  have hnm := F.2.2.2.2.2.2.1
  have ht := fun (w : Cond) (h : w ∈ bw_L) => F.2.2.2.2.2.2.2 w (List.mem_cons_of_mem _ h)
  have hA : ∀ q, s.heap.size ≤ q → gh_A M s.heap.size q := fun q h => Or.inr h
  have hS : va_S (gh_A M s.heap.size) s.heap s.heap [] := va_S.rf
  have hl : lv_has ls 1 [(0, .ref a)] := hl
  refine lv_aload_n hx hb dc_AC_init_0 rfl (lv_fd hl rfl) ?_
  refine W.objInit hx hb hown (ht _ ww_35) (ht _ ww_20) (ht _ ww_21) rfl (by rw [hml]; exact hl.1) rfl dc_AC_init_1 (Nat.le_of_ble_eq_true rfl) (Nat.le_of_ble_eq_true rfl) ?_
  refine W.eq (g2 := F0 m 4 ls []) rfl ?_
  exact W.vret hx hb hr (fun t ht _ => ⟨rfl, trivial, ht⟩) (fun q h => by cases h) dc_AC_init_4
set_option maxHeartbeats 4000000 in
set_option maxRecDepth 100000 in
theorem ct_AB_init (l : Launch) (E : gk_E) (M : gh_M) (sz : Nat) {t a : Nat} {k0 : Int32} {v1 v2 : Value} (ha : M a = some (t, .inr (0, [.int k0, v1, v2]))) : Met l yn_AB_init (.code yn_AB_init cd_AB_init 1 none :: bw_L) { frames := 2, cells := 0, slots := 0, locals := 40 } (gk_Pre E [.ref a] M sz) (va_Qv (fun M' => M' = gh_up M a (t, .inr (0, [.int (nI 0), v1, v2]))) (gk_B E M sz) (gh_A M sz)) 0 0 (gh_A M sz) := by
  refine gk_met rfl (Nat.le_of_ble_eq_true rfl) ?_
  intro p e s m below meth c F hsz hP hK hZ ls hl
  subst hsz
  have hx := F.1
  have hb := F.2.1
  have hr := F.2.2.1
  have hml := F.2.2.2.1
  have hown : s.vm.findClass "java/util/AbstractList" = some m.cls := F.2.2.2.2.1
  have hlk := F.2.2.2.2.2.1
  have hnm := F.2.2.2.2.2.2.1
  have ht := fun (w : Cond) (h : w ∈ bw_L) => F.2.2.2.2.2.2.2 w (List.mem_cons_of_mem _ h)
  have hA : ∀ q, s.heap.size ≤ q → gh_A M s.heap.size q := fun q h => Or.inr h
  have hS : va_S (gh_A M s.heap.size) s.heap s.heap [] := va_S.rf
  have hl : lv_has ls 1 [(0, .ref a)] := hl
  refine lv_aload_n hx hb dc_AB_init_0 rfl (lv_fd hl rfl) ?_
  refine gk_sv (gk_rI F (b := a) (As := []) (rest := []) (ct_AC_init l E _ _ a) ww_32 ww_33 ww_2 ww_34 rfl rfl rfl ⟨by decide, by decide, by show _ = some 0; decide +kernel⟩ ⟨by decide, by decide⟩ hK hZ hP hS hA hl.1 rfl (Nat.le_of_ble_eq_true rfl) dc_AB_init_1 ⟨Nat.le_refl _, Nat.le_refl _⟩) (fun _ => ?_)
  refine lv_aload_n hx hb dc_AB_init_4 rfl (lv_fd hl rfl) ?_
  refine lv_iconst (v := nI 0) hx hb dc_AB_init_5 (by decide) ?_
  refine gh_put (ty := .int) hx hb ht nu_AL nt_AL no_AL nn_AL hown hK.1 hP hS ha rfl 0 (by decide) (ht _ ww_40) (fun _ h9 => h9) rfl (by decide +kernel) rfl rfl (Nat.le_of_ble_eq_true rfl) rfl dc_AB_init_6 (fun H locs hP hS => ?_)
  exact gk_ev hx hb hr hlk hP hS dc_AB_init_9 rfl
set_option maxHeartbeats 4000000 in
set_option maxRecDepth 100000 in
theorem ct_AL_init (l : Launch) (E : gk_E) (M : gh_M) (sz : Nat) {t a : Nat} {k0 : Int32} {v1 : Value} (ha : M a = some (t, .inr (0, [.int k0, v1, .int 0]))) : Met l yn_AL_init (.code yn_AL_init cd_AL_init 1 none :: bw_L) { frames := 3, cells := 0, slots := 0, locals := 66 } (gk_Pre E [.ref a] M sz) (va_Qv (fun M' => (∀ q, q ≠ a → M' q = M q) ∧ M' a = some (t, .inr (0, [.int (nI 0), .ref E.2.2.1, .int 0]))) (gk_B E M sz) (gh_A M sz)) 0 0 (gh_A M sz) := by
  refine gk_met rfl (Nat.le_of_ble_eq_true rfl) ?_
  intro p e s m below meth c F hsz hP hK hZ ls hl
  subst hsz
  have hx := F.1
  have hb := F.2.1
  have hr := F.2.2.1
  have hml := F.2.2.2.1
  have hown : s.vm.findClass "java/util/ArrayList" = some m.cls := F.2.2.2.2.1
  have hlk := F.2.2.2.2.2.1
  have hnm := F.2.2.2.2.2.2.1
  have ht := fun (w : Cond) (h : w ∈ bw_L) => F.2.2.2.2.2.2.2 w (List.mem_cons_of_mem _ h)
  have hA : ∀ q, s.heap.size ≤ q → gh_A M s.heap.size q := fun q h => Or.inr h
  have hS : va_S (gh_A M s.heap.size) s.heap s.heap [] := va_S.rf
  have hl : lv_has ls 1 [(0, .ref a)] := hl
  refine lv_aload_n hx hb dc_AL_init_0 rfl (lv_fd hl rfl) ?_
  refine gk_cv (gk_rI F (b := a) (As := []) (rest := []) (ct_AB_init l E _ _ ha) ww_29 ww_30 ww_3 ww_31 rfl rfl rfl ⟨by decide, by decide, by show _ = some 0; decide +kernel⟩ ⟨by decide, by decide⟩ hK hZ hP hS hA hl.1 rfl (Nat.le_of_ble_eq_true rfl) dc_AL_init_1 ⟨Nat.le_refl _, Nat.le_refl _⟩) hP hS hA (fun M1 H locs hM1 hP hS => ?_)
  subst hM1
  refine lv_aload_n hx hb dc_AL_init_4 rfl (lv_fd hl rfl) ?_
  refine va_gets hx hb hZ.1 hS hown (ht _ ww_36) (fun _ h9 => h9) dc_AL_init_5 ?_
  refine gh_put (ty := .array (.object "java/lang/Object")) hx hb ht nu_AL nt_AL no_AL nn_AL hown hK.1 hP hS (gh_up_self _ _ _) rfl 1 (by decide) (ht _ ww_38) (fun _ h9 => h9) rfl (by decide +kernel) rfl rfl (Nat.le_of_ble_eq_true rfl) rfl dc_AL_init_8 (fun H locs hP hS => ?_)
  exact gk_ev hx hb hr hlk hP hS dc_AL_init_11 ⟨fun q hq => by rw [gh_up_ne _ _ hq, gh_up_ne _ _ hq], gh_up_self _ _ _⟩
set_option maxHeartbeats 4000000 in
set_option maxRecDepth 100000 in
theorem ct_AL_set (l : Launch) (E : gk_E) (M : gh_M) (sz : Nat) {t a cap : Nat} {xs : List Nat} (h : al_L E M t a cap xs) {j x : Nat} (hj : j < xs.length) (hxo : el_O M x) : Met l yn_AL_set (.code yn_AL_set cd_AL_set 4 (some (FieldType.object "java/lang/Object")) :: bw_L) { frames := 2, cells := 0, slots := 0, locals := 60 } (gk_Pre E [.ref a, .int (nI j), .ref x] M sz) (va_Qq (fun r M' => r = xs[j]? ∧ (∀ q, M q ≠ none → (∀ y, M q ≠ some (t, .inl y)) → M' q = M q) ∧ gh_ch t M M' ∧ al_L E M' t a cap (xs.set j x)) (gk_B E M sz) (gh_A M sz)) 0 0 (gh_A M sz) := by
  refine gk_met rfl (Nat.le_of_ble_eq_true rfl) ?_
  intro p e s m below meth c F hsz hP hK hZ ls hl
  subst hsz
  have hx := F.1
  have hb := F.2.1
  have hr := F.2.2.1
  have hml := F.2.2.2.1
  have hown : s.vm.findClass "java/util/ArrayList" = some m.cls := F.2.2.2.2.1
  have hlk := F.2.2.2.2.2.1
  have hnm := F.2.2.2.2.2.2.1
  have ht := fun (w : Cond) (h : w ∈ bw_L) => F.2.2.2.2.2.2.2 w (List.mem_cons_of_mem _ h)
  have hA : ∀ q, s.heap.size ≤ q → gh_A M s.heap.size q := fun q h => Or.inr h
  have hS : va_S (gh_A M s.heap.size) s.heap s.heap [] := va_S.rf
  have hl : lv_has ls 4 [(0, .ref a), (1, .int (nI j)), (2, .ref x)] := hl
  have hL := h
  obtain ⟨mk, el, ha, hD⟩ := h
  have hlen := hD.len
  obtain ⟨f, hel, hc1, hc2, hc3, hf⟩ : ∃ f : Nat → Option Nat, M el = some (t, .inl (E.2.1 2, cap, .inr (.inr (.inr (.inr f))))) ∧ 10 ≤ cap ∧ cap < 2 ^ 29 ∧ xs.length ≤ cap ∧ ∀ i, i < xs.length → f i = xs[i]? := by
    rcases hD with ⟨-, -, rfl⟩ | hD
    · exact absurd hj (Nat.not_lt_zero _)
    · exact hD
  refine lv_iload_n hx hb dc_AL_set_0 rfl (lv_fd hl rfl) ?_
  refine lv_aload_n hx hb dc_AL_set_1 rfl (lv_fd hl rfl) ?_
  refine gh_get hx hb ht nu_AL hown hK.1 hP ha rfl 2 (by decide) (ht _ ww_39) (fun _ h9 => h9) rfl dc_AL_set_2 ?_
  refine gk_si (gk_rS F (As := [.int (nI j), .int (nI xs.length)]) (rest := []) (ct_OB_checkIndex l E _ _ hj (by omega)) ww_176 ww_177 ww_11 ww_178 rfl rfl ⟨by decide, by decide, by show _ = some 2; decide +kernel⟩ ⟨by decide, by decide⟩ hK hZ hP hS hA hl.1 rfl (Nat.le_of_ble_eq_true rfl) dc_AL_set_5 ⟨Nat.le_refl _, Nat.le_refl _⟩) (fun r hr1 => ?_)
  refine lv_pop hx hb dc_AL_set_8 rfl ?_
  refine lv_aload_n hx hb dc_AL_set_9 rfl (lv_fd hl rfl) ?_
  refine lv_iload_n hx hb dc_AL_set_10 rfl (lv_fd hl rfl) ?_
  refine gk_sq (gk_rV F (b := a) (As := [.int (nI j)]) (rest := []) (ct_AL_elementData l E _ _ hL hj) ww_182 ww_183 ww_184 ww_4 ww_185 rfl rfl ⟨by decide, by decide, by show _ = some 1; decide +kernel⟩ ⟨by decide, by decide⟩ (gh_recv hK.1 hP ha rfl) hK hZ hP hS hA hl.1 rfl (Nat.le_of_ble_eq_true rfl) dc_AL_set_11 ⟨Nat.le_refl _, Nat.le_refl _⟩) (fun r hr2 => ?_)
  obtain ⟨y, hy⟩ : ∃ y, r = some y := ⟨xs[j], by rw [hr2]; exact List.getElem?_eq_getElem hj⟩
  subst hy
  refine lv_astore_n hx hb dc_AL_set_14 rfl hl (by decide) rfl (fun ls hl => ?_)
  refine lv_aload_n hx hb dc_AL_set_15 rfl (lv_fd hl rfl) ?_
  refine gh_get hx hb ht nu_AL hown hK.1 hP ha rfl 1 (by decide) (ht _ ww_38) (fun _ h9 => h9) rfl dc_AL_set_16 ?_
  refine lv_iload_n hx hb dc_AL_set_19 rfl (lv_fd hl rfl) ?_
  refine lv_aload_n hx hb dc_AL_set_20 rfl (lv_fd hl rfl) ?_
  refine gh_aast hx hb hK.1 hP hS 2 hel rfl (hxo.any hK hP) rfl (by omega) (by omega) dc_AL_set_21 (fun H locs hP hS => ?_)
  refine lv_aload_n hx hb dc_AL_set_22 rfl (lv_fd hl rfl) ?_
  have hae := gh_neOA ha hel
  refine gk_eq (v := some y) hx hb hr (Or.inl ⟨_, rfl⟩) hlk hP hS dc_AL_set_23 ⟨hr2, fun q hq1 hq2 => gh_up_ne _ _ (fun e => hq2 _ (e ▸ hel)), gh_ch.up hel, mk, el, ?_, Or.inr ⟨_, gh_up_self _ _ _, hc1, hc2, ?_, fun i hi => ?_⟩⟩
  · rw [gh_up_ne _ _ hae, List.length_set]
    exact ha
  · rw [List.length_set]
    exact hc3
  · rw [List.length_set] at hi
    by_cases hij : i = j
    · subst hij
      rw [va_up_self, List.getElem?_set_self hi]
    · rw [va_up_ne _ _ hij, List.getElem?_set_ne (Ne.symm hij)]
      exact hf i hi
set_option maxHeartbeats 4000000 in
set_option maxRecDepth 100000 in
theorem ct_AS_newLength (l : Launch) (E : gk_E) (M : gh_M) (sz : Nat) {a b d : Nat} (ha : a < 2 ^ 29) (hb0 : 0 < b) (hb1 : b ≤ d) (hd : d < 2 ^ 29) : Met l yn_AS_newLength (.code yn_AS_newLength cd_AS_newLength 4 (some FieldType.int) :: bw_L) { frames := 1, cells := 0, slots := 0, locals := 24 } (gk_Pre E [.int (nI a), .int (nI b), .int (nI d)] M sz) (vp_Si (fun r => r = nI (a + d))) 0 0 (fun _ => False) := by
  refine gk_met rfl (Nat.le_of_ble_eq_true rfl) ?_
  intro p e s m below meth c F hsz hP hK hZ ls hl
  subst hsz
  have hx := F.1
  have hb := F.2.1
  have hr := F.2.2.1
  have hml := F.2.2.2.1
  have hown : s.vm.findClass "jdk/internal/util/ArraysSupport" = some m.cls := F.2.2.2.2.1
  have hlk := F.2.2.2.2.2.1
  have hnm := F.2.2.2.2.2.2.1
  have ht := fun (w : Cond) (h : w ∈ bw_L) => F.2.2.2.2.2.2.2 w (List.mem_cons_of_mem _ h)
  have hA : ∀ q, s.heap.size ≤ q → gh_A M s.heap.size q := fun q h => Or.inr h
  have hS : va_S (gh_A M s.heap.size) s.heap s.heap [] := va_S.rf
  have hl : lv_has ls 4 [(0, .int (nI a)), (1, .int (nI b)), (2, .int (nI d))] := hl
  refine lv_iload_n hx hb dc_AS_newLength_0 rfl (lv_fd hl rfl) ?_
  refine lv_iload_n hx hb dc_AS_newLength_1 rfl (lv_fd hl rfl) ?_
  refine lv_iload_n hx hb dc_AS_newLength_2 rfl (lv_fd hl rfl) ?_
  refine va_mmax hx hb (by rw [hml]; exact hl.1.symm) hown (ht _ ww_120) (ht _ ww_121) (ht _ ww_9) (ht _ ww_122) (by decide) (Nat.le_of_ble_eq_true rfl) (Nat.le_refl _) (Nat.le_refl _) dc_AS_newLength_3 ?_
  have hmx : (if nI b < nI d then nI d else nI b) = nI d := by
    by_cases h : b < d
    · rw [if_pos (nI_lt h (by omega))]
    · rw [if_neg (nI_nlt (by omega) (by omega))]
      congr 1
      omega
  refine gh_topi hmx ?_
  refine lv_iadd hx hb dc_AS_newLength_6 ?_
  refine gh_topi (nI_add a d) ?_
  refine lv_istore_n hx hb dc_AS_newLength_7 rfl hl (by decide) rfl (fun ls hl => ?_)
  refine lv_iconst (v := nI 0) hx hb dc_AS_newLength_8 (by decide) ?_
  refine lv_iload_n hx hb dc_AS_newLength_9 rfl (lv_fd hl rfl) ?_
  refine gn_ge (tgt := 21) hx hb (by decide) (by omega) dc_AS_newLength_10 (by decide) (fun h => absurd h (by omega)) (fun _ => ?_)
  refine lv_iload_n hx hb dc_AS_newLength_13 rfl (lv_fd hl rfl) ?_
  refine lv_ldc hx hb hown (ht _ ww_123) dc_AS_newLength_14 ?_
  refine lv_icmp_gt (tgt := 21) hx hb dc_AS_newLength_16 (by decide) (fun h => absurd h (show ¬ nI 2147483639 < nI (a + d) from nI_nlt (by omega) (by decide))) (fun _ => ?_)
  refine lv_iload_n hx hb dc_AS_newLength_19 rfl (lv_fd hl rfl) ?_
  exact W.iret hx hb hr (fun t ht _ => ⟨_, rfl, rfl, ht⟩) (fun q h => by cases h) dc_AS_newLength_20
