set_option maxHeartbeats 4000000 in
set_option maxRecDepth 100000 in
theorem ct_PR_checkIndex (l : Launch) (E : gk_E) (M : gh_M) (sz : Nat) {j n : Nat} (hj : j < n) (hn : n < 2 ^ 31) : Met l yn_PR_checkIndex (.code yn_PR_checkIndex cd_PR_checkIndex 3 (some FieldType.int) :: bw_L) { frames := 0, cells := 0, slots := 0, locals := 0 } (gk_Pre E [.int (nI j), .int (nI n), .null] M sz) (vp_Si (fun r => r = nI j)) 0 0 (fun _ => False) := by
  refine gk_met rfl (Nat.le_of_ble_eq_true rfl) ?_
  intro p e s m below meth c F hsz hP hK hZ ls hl
  subst hsz
  have hx := F.1
  have hb := F.2.1
  have hr := F.2.2.1
  have hml := F.2.2.2.1
  have hown : s.vm.findClass "jdk/internal/util/Preconditions" = some m.cls := F.2.2.2.2.1
  have hlk := F.2.2.2.2.2.1
  have hnm := F.2.2.2.2.2.2.1
  have ht := fun (w : Cond) (h : w ∈ bw_L) => F.2.2.2.2.2.2.2 w (List.mem_cons_of_mem _ h)
  have hA : ∀ q, s.heap.size ≤ q → gh_A M s.heap.size q := fun q h => Or.inr h
  have hS : va_S (gh_A M s.heap.size) s.heap s.heap [] := va_S.rf
  have hl : lv_has ls 3 [(0, .int (nI j)), (1, .int (nI n)), (2, .null)] := hl
  refine lv_iload_n hx hb dc_PR_checkIndex_0 rfl (lv_fd hl rfl) ?_
  refine lv_if_lt (tgt := 9) hx hb dc_PR_checkIndex_1 (by decide) (fun h => absurd h (nI_pos (by omega))) (fun _ => ?_)
  refine lv_iload_n hx hb dc_PR_checkIndex_4 rfl (lv_fd hl rfl) ?_
  refine lv_iload_n hx hb dc_PR_checkIndex_5 rfl (lv_fd hl rfl) ?_
  refine gn_lt (tgt := 16) hx hb (by omega) hn dc_PR_checkIndex_6 (by decide) (fun _ => ?_) (fun h => absurd hj (by omega))
  refine lv_iload_n hx hb dc_PR_checkIndex_16 rfl (lv_fd hl rfl) ?_
  exact W.iret hx hb hr (fun t ht _ => ⟨_, rfl, rfl, ht⟩) (fun q h => by cases h) dc_PR_checkIndex_17
set_option maxHeartbeats 4000000 in
set_option maxRecDepth 100000 in
theorem ct_OB_checkIndex (l : Launch) (E : gk_E) (M : gh_M) (sz : Nat) {j n : Nat} (hj : j < n) (hn : n < 2 ^ 31) : Met l yn_OB_checkIndex (.code yn_OB_checkIndex cd_OB_checkIndex 2 (some FieldType.int) :: bw_L) { frames := 1, cells := 0, slots := 0, locals := 30 } (gk_Pre E [.int (nI j), .int (nI n)] M sz) (vp_Si (fun r => r = nI j)) 0 0 (fun _ => False) := by
  refine gk_met rfl (Nat.le_of_ble_eq_true rfl) ?_
  intro p e s m below meth c F hsz hP hK hZ ls hl
  subst hsz
  have hx := F.1
  have hb := F.2.1
  have hr := F.2.2.1
  have hml := F.2.2.2.1
  have hown : s.vm.findClass "java/util/Objects" = some m.cls := F.2.2.2.2.1
  have hlk := F.2.2.2.2.2.1
  have hnm := F.2.2.2.2.2.2.1
  have ht := fun (w : Cond) (h : w ∈ bw_L) => F.2.2.2.2.2.2.2 w (List.mem_cons_of_mem _ h)
  have hA : ∀ q, s.heap.size ≤ q → gh_A M s.heap.size q := fun q h => Or.inr h
  have hS : va_S (gh_A M s.heap.size) s.heap s.heap [] := va_S.rf
  have hl : lv_has ls 2 [(0, .int (nI j)), (1, .int (nI n))] := hl
  refine lv_iload_n hx hb dc_OB_checkIndex_0 rfl (lv_fd hl rfl) ?_
  refine lv_iload_n hx hb dc_OB_checkIndex_1 rfl (lv_fd hl rfl) ?_
  refine lv_null hx hb dc_OB_checkIndex_2 ?_
  refine gk_si (gk_rS F (As := [.int (nI j), .int (nI n), .null]) (rest := []) (ct_PR_checkIndex l E _ _ hj hn) ww_179 ww_180 ww_12 ww_181 rfl rfl ⟨by decide, by decide, by show _ = some 3; decide +kernel⟩ ⟨by decide, by decide⟩ hK hZ hP hS hA hl.1 rfl (by decide) dc_OB_checkIndex_3 ⟨Nat.le_refl _, Nat.le_refl _⟩) (fun r hr1 => ?_)
  subst hr1
  exact W.iret hx hb hr (fun t ht _ => ⟨_, rfl, rfl, ht⟩) (fun q h => by cases h) dc_OB_checkIndex_6
set_option maxHeartbeats 4000000 in
set_option maxRecDepth 100000 in
theorem ct_AL_size (l : Launch) (E : gk_E) (M : gh_M) (sz : Nat) {t a cap : Nat} {xs : List Nat} (h : al_L E M t a cap xs) : Met l yn_AL_size (.code yn_AL_size cd_AL_size 1 (some FieldType.int) :: bw_L) { frames := 0, cells := 0, slots := 0, locals := 0 } (gk_Pre E [.ref a] M sz) (vp_Si (fun r => r = nI xs.length)) 0 0 (fun _ => False) := by
  refine gk_met rfl (Nat.le_of_ble_eq_true rfl) ?_
  intro p e s m below meth c F hsz hP hK hZ ls hl
  subst hsz
  have hx := F.1
  have hb := F.2.1
  have hr := F.2.2.1
  have hml := F.2.2.2.1
  have hown : s.vm.findClass "java/util/ArrayList" = some m.cls := F.2.2.2.2.1
  have hlk := F.2.2.2.2.2.1
  have hnm := F.2.2.2.2.2.2.1
  have ht := fun (w : Cond) (h : w ∈ bw_L) => F.2.2.2.2.2.2.2 w (List.mem_cons_of_mem _ h)
  have hA : ∀ q, s.heap.size ≤ q → gh_A M s.heap.size q := fun q h => Or.inr h
  have hS : va_S (gh_A M s.heap.size) s.heap s.heap [] := va_S.rf
  have hl : lv_has ls 1 [(0, .ref a)] := hl
  obtain ⟨mk, el, ha, hD⟩ := h
  refine lv_aload_n hx hb dc_AL_size_0 rfl (lv_fd hl rfl) ?_
  refine gh_get hx hb ht nu_AL hown hK.1 hP ha rfl 2 (by decide) (ht _ ww_39) (fun _ h9 => h9) rfl dc_AL_size_1 ?_
  exact W.iret hx hb hr (fun t ht _ => ⟨_, rfl, rfl, ht⟩) (fun q h => by cases h) dc_AL_size_4
set_option maxHeartbeats 4000000 in
set_option maxRecDepth 100000 in
theorem ct_AL_isEmpty (l : Launch) (E : gk_E) (M : gh_M) (sz : Nat) {t a cap : Nat} {xs : List Nat} (h : al_L E M t a cap xs) : Met l yn_AL_isEmpty (.code yn_AL_isEmpty cd_AL_isEmpty 1 (some FieldType.boolean) :: bw_L) { frames := 0, cells := 0, slots := 0, locals := 0 } (gk_Pre E [.ref a] M sz) (vp_Si (fun r => (r = 1 ∧ xs = []) ∨ (r = 0 ∧ xs ≠ []))) 0 0 (fun _ => False) := by
  refine gk_met rfl (Nat.le_of_ble_eq_true rfl) ?_
  intro p e s m below meth c F hsz hP hK hZ ls hl
  subst hsz
  have hx := F.1
  have hb := F.2.1
  have hr := F.2.2.1
  have hml := F.2.2.2.1
  have hown : s.vm.findClass "java/util/ArrayList" = some m.cls := F.2.2.2.2.1
  have hlk := F.2.2.2.2.2.1
  have hnm := F.2.2.2.2.2.2.1
  have ht := fun (w : Cond) (h : w ∈ bw_L) => F.2.2.2.2.2.2.2 w (List.mem_cons_of_mem _ h)
  have hA : ∀ q, s.heap.size ≤ q → gh_A M s.heap.size q := fun q h => Or.inr h
  have hS : va_S (gh_A M s.heap.size) s.heap s.heap [] := va_S.rf
  have hl : lv_has ls 1 [(0, .ref a)] := hl
  obtain ⟨mk, el, ha, hD⟩ := h
  have hlen := hD.len
  refine lv_aload_n hx hb dc_AL_isEmpty_0 rfl (lv_fd hl rfl) ?_
  refine gh_get hx hb ht nu_AL hown hK.1 hP ha rfl 2 (by decide) (ht _ ww_39) (fun _ h9 => h9) rfl dc_AL_isEmpty_1 ?_
  refine gn_ifne (tgt := 11) hx hb (by omega) dc_AL_isEmpty_4 (by decide) (fun h => ?_) (fun h => ?_)
  · refine lv_iconst (v := 0) hx hb dc_AL_isEmpty_11 (by decide) ?_
    exact W.zret hx hb hr rfl (fun t ht _ => ⟨_, rfl, Or.inr ⟨rfl, fun q => h (by rw [q]; rfl)⟩, ht⟩) (fun q h => by cases h) dc_AL_isEmpty_12
  · refine lv_iconst (v := 1) hx hb dc_AL_isEmpty_7 (by decide) ?_
    refine lv_goto (tgt := 12) hx hb dc_AL_isEmpty_8 (by decide) ?_
    exact W.zret hx hb hr rfl (fun t ht _ => ⟨_, rfl, Or.inl ⟨rfl, List.eq_nil_of_length_eq_zero h⟩, ht⟩) (fun q h => by cases h) dc_AL_isEmpty_12
set_option maxHeartbeats 4000000 in
set_option maxRecDepth 100000 in
theorem ct_AL_elementData (l : Launch) (E : gk_E) (M : gh_M) (sz : Nat) {t a cap : Nat} {xs : List Nat} (h : al_L E M t a cap xs) {j : Nat} (hj : j < xs.length) : Met l yn_AL_elementData (.code yn_AL_elementData cd_AL_elementData 2 (some (FieldType.object "java/lang/Object")) :: bw_L) { frames := 0, cells := 0, slots := 0, locals := 0 } (gk_Pre E [.ref a, .int (nI j)] M sz) (va_Sq (fun r => r = xs[j]?)) 0 0 (fun _ => False) := by
  refine gk_met rfl (Nat.le_of_ble_eq_true rfl) ?_
  intro p e s m below meth c F hsz hP hK hZ ls hl
  subst hsz
  have hx := F.1
  have hb := F.2.1
  have hr := F.2.2.1
  have hml := F.2.2.2.1
  have hown : s.vm.findClass "java/util/ArrayList" = some m.cls := F.2.2.2.2.1
  have hlk := F.2.2.2.2.2.1
  have hnm := F.2.2.2.2.2.2.1
  have ht := fun (w : Cond) (h : w ∈ bw_L) => F.2.2.2.2.2.2.2 w (List.mem_cons_of_mem _ h)
  have hA : ∀ q, s.heap.size ≤ q → gh_A M s.heap.size q := fun q h => Or.inr h
  have hS : va_S (gh_A M s.heap.size) s.heap s.heap [] := va_S.rf
  have hl : lv_has ls 2 [(0, .ref a), (1, .int (nI j))] := hl
  obtain ⟨mk, el, ha, hD⟩ := h
  have hlen := hD.len
  obtain ⟨f, hel, hc1, hc2, hc3, hf⟩ : ∃ f : Nat → Option Nat, M el = some (t, .inl (E.2.1 2, cap, .inr (.inr (.inr (.inr f))))) ∧ 10 ≤ cap ∧ cap < 2 ^ 29 ∧ xs.length ≤ cap ∧ ∀ i, i < xs.length → f i = xs[i]? := by
    rcases hD with ⟨-, -, rfl⟩ | hD
    · exact absurd hj (Nat.not_lt_zero _)
    · exact hD
  refine lv_aload_n hx hb dc_AL_elementData_0 rfl (lv_fd hl rfl) ?_
  refine gh_get hx hb ht nu_AL hown hK.1 hP ha rfl 1 (by decide) (ht _ ww_38) (fun _ h9 => h9) rfl dc_AL_elementData_1 ?_
  refine lv_iload_n hx hb dc_AL_elementData_4 rfl (lv_fd hl rfl) ?_
  refine gh_aald hx hb hK.1 hP 2 hel rfl rfl rfl (by omega) (by omega) rfl dc_AL_elementData_5 ?_
  exact W.aret hx hb hr (Or.inl ⟨_, rfl⟩) (va_rf_or _) (fun t ht _ => ⟨f j, rfl, hf j hj, ht⟩) (fun q h => by cases h) dc_AL_elementData_6
set_option maxHeartbeats 4000000 in
set_option maxRecDepth 100000 in
theorem ct_AL_get (l : Launch) (E : gk_E) (M : gh_M) (sz : Nat) {t a cap : Nat} {xs : List Nat} (h : al_L E M t a cap xs) {j : Nat} (hj : j < xs.length) : Met l yn_AL_get (.code yn_AL_get cd_AL_get 2 (some (FieldType.object "java/lang/Object")) :: bw_L) { frames := 2, cells := 0, slots := 0, locals := 60 } (gk_Pre E [.ref a, .int (nI j)] M sz) (va_Sq (fun r => r = xs[j]?)) 0 0 (fun _ => False) := by
  refine gk_met rfl (Nat.le_of_ble_eq_true rfl) ?_
  intro p e s m below meth c F hsz hP hK hZ ls hl
  subst hsz
  have hx := F.1
  have hb := F.2.1
  have hr := F.2.2.1
  have hml := F.2.2.2.1
  have hown : s.vm.findClass "java/util/ArrayList" = some m.cls := F.2.2.2.2.1
  have hlk := F.2.2.2.2.2.1
  have hnm := F.2.2.2.2.2.2.1
  have ht := fun (w : Cond) (h : w ∈ bw_L) => F.2.2.2.2.2.2.2 w (List.mem_cons_of_mem _ h)
  have hA : ∀ q, s.heap.size ≤ q → gh_A M s.heap.size q := fun q h => Or.inr h
  have hS : va_S (gh_A M s.heap.size) s.heap s.heap [] := va_S.rf
  have hl : lv_has ls 2 [(0, .ref a), (1, .int (nI j))] := hl
  have hL := h
  obtain ⟨mk, el, ha, hD⟩ := h
  have hlen := hD.len
  obtain ⟨f, hel, hc1, hc2, hc3, hf⟩ : ∃ f : Nat → Option Nat, M el = some (t, .inl (E.2.1 2, cap, .inr (.inr (.inr (.inr f))))) ∧ 10 ≤ cap ∧ cap < 2 ^ 29 ∧ xs.length ≤ cap ∧ ∀ i, i < xs.length → f i = xs[i]? := by
    rcases hD with ⟨-, -, rfl⟩ | hD
    · exact absurd hj (Nat.not_lt_zero _)
    · exact hD
  refine lv_iload_n hx hb dc_AL_get_0 rfl (lv_fd hl rfl) ?_
  refine lv_aload_n hx hb dc_AL_get_1 rfl (lv_fd hl rfl) ?_
  refine gh_get hx hb ht nu_AL hown hK.1 hP ha rfl 2 (by decide) (ht _ ww_39) (fun _ h9 => h9) rfl dc_AL_get_2 ?_
  refine gk_si (gk_rS F (As := [.int (nI j), .int (nI xs.length)]) (rest := []) (ct_OB_checkIndex l E _ _ hj (by omega)) ww_176 ww_177 ww_11 ww_178 rfl rfl ⟨by decide, by decide, by show _ = some 2; decide +kernel⟩ ⟨by decide, by decide⟩ hK hZ hP hS hA hl.1 rfl (by decide) dc_AL_get_5 ⟨Nat.le_refl _, Nat.le_refl _⟩) (fun r hr1 => ?_)
  refine lv_pop hx hb dc_AL_get_8 rfl ?_
  refine lv_aload_n hx hb dc_AL_get_9 rfl (lv_fd hl rfl) ?_
  refine lv_iload_n hx hb dc_AL_get_10 rfl (lv_fd hl rfl) ?_
  refine gk_sq (gk_rV F (b := a) (As := [.int (nI j)]) (rest := []) (ct_AL_elementData l E _ _ hL hj) ww_182 ww_183 ww_184 ww_4 ww_185 rfl rfl ⟨by decide, by decide, by show _ = some 1; decide +kernel⟩ ⟨by decide, by decide⟩ (gh_recv hK.1 hP ha rfl) hK hZ hP hS hA hl.1 rfl (by decide) dc_AL_get_11 ⟨Nat.le_refl _, Nat.le_refl _⟩) (fun r hr2 => ?_)
  exact W.aret hx hb hr (Or.inl ⟨_, rfl⟩) (va_rf_or _) (fun t ht _ => ⟨r, rfl, hr2, ht⟩) (fun q h => by cases h) dc_AL_get_14
