set_option maxHeartbeats 4000000 in
set_option maxRecDepth 100000 in
theorem ct_AL_fastRemove (l : Launch) (E : gk_E) (M : gh_M) (sz : Nat) {t a el cap : Nat} {mk : Int32} {xs : List Nat} {f : Nat → Option Nat} (ha : M a = some (t, .inr (0, [.int mk, .ref el, .int (nI xs.length)]))) (hel : M el = some (t, .inl (E.2.1 2, cap, .inr (.inr (.inr (.inr f)))))) (hc1 : 10 ≤ cap) (hc2 : cap < 2 ^ 29) (hc3 : xs.length ≤ cap) (hf : ∀ i, i < xs.length → f i = xs[i]?) {j : Nat} (hj : j < xs.length) (hx0 : ∀ y ∈ xs, el_O M y) : Met l yn_AL_fastRemove (.code yn_AL_fastRemove cd_AL_fastRemove 4 none :: bw_L) { frames := 1, cells := 0, slots := 0, locals := 40 } (gk_Pre E [.ref a, .ref el, .int (nI j)] M sz) (va_Qv (fun M' => gh_ch t M M' ∧ al_L E M' t a cap (xs.eraseIdx j)) (gk_B E M sz) (gh_A M sz)) 0 0 (gh_A M sz) := by
  refine gk_met rfl (Nat.le_of_ble_eq_true rfl) ?_
  intro p e s m below meth c F hsz hP hK hZ ls hl
  subst hsz
  have hx := F.1
  have hb := F.2.1
  have hr := F.2.2.1
  have hml := F.2.2.2.1
  have hown : s.vm.findClass "java/util/ArrayList" = some m.cls := F.2.2.2.2.1
  have hlk := F.2.2.2.2.2.1
  have hnm := F.2.2.2.2.2.2.1
  have ht := fun (w : Cond) (h : w ∈ bw_L) => F.2.2.2.2.2.2.2 w (List.mem_cons_of_mem _ h)
  have hA : ∀ q, s.heap.size ≤ q → gh_A M s.heap.size q := fun q h => Or.inr h
  have hS : va_S (gh_A M s.heap.size) s.heap s.heap [] := va_S.rf
  have hl : lv_has ls 4 [(0, .ref a), (1, .ref el), (2, .int (nI j))] := hl
  have hlen : (xs.eraseIdx j).length = xs.length - 1 := List.length_eraseIdx_of_lt hj
  refine lv_aload_n hx hb dc_AL_fastRemove_0 rfl (lv_fd hl rfl) ?_
  refine lv_dup hx hb dc_AL_fastRemove_1 rfl ?_
  refine gh_get hx hb ht nu_AL hown hK.1 hP ha rfl 0 (by decide) (ht _ ww_41) (fun x9 h9 => u_same (ht _ ww_42) x9 h9) rfl dc_AL_fastRemove_2 ?_
  refine lv_iconst (v := nI 1) hx hb dc_AL_fastRemove_5 (by decide) ?_
  refine lv_iadd hx hb dc_AL_fastRemove_6 ?_
  refine gh_put (ty := .int) hx hb ht nu_AL nt_AL no_AL nn_AL hown hK.1 hP hS ha rfl 0 (by decide) (ht _ ww_41) (fun x9 h9 => u_same (ht _ ww_42) x9 h9) rfl (by decide +kernel) rfl rfl (Nat.le_of_ble_eq_true rfl) rfl dc_AL_fastRemove_7 (fun H locs hP hS => ?_)
  have ha1 : gh_up M a (t, .inr (0, [.int mk, .ref el, .int (nI xs.length)].set 0 (.int (mk + nI 1)))) a = some (t, .inr (0, [.int (mk + nI 1), .ref el, .int (nI xs.length)])) := gh_up_self _ _ _
  have hel1 := gh_up_at (q := (t, .inr (0, [.int mk, .ref el, .int (nI xs.length)].set 0 (.int (mk + nI 1))))) hel (Ne.symm (gh_neOA ha hel))
  have hch1 := gh_ch.up (e' := .inr (0, [.int mk, .ref el, .int (nI xs.length)].set 0 (.int (mk + nI 1)))) ha
  have hx1 : ∀ y ∈ xs, el_O (gh_up M a (t, .inr (0, [.int mk, .ref el, .int (nI xs.length)].set 0 (.int (mk + nI 1))))) y := fun y hy => (hx0 y hy).up ha (Or.inl rfl) _
  generalize gh_up M a (t, .inr (0, [.int mk, .ref el, .int (nI xs.length)].set 0 (.int (mk + nI 1)))) = M1 at ha1 hel1 hch1 hx1 hP
  refine lv_aload_n hx hb dc_AL_fastRemove_10 rfl (lv_fd hl rfl) ?_
  refine gh_get hx hb ht nu_AL hown hK.1 hP ha1 rfl 2 (by decide) (ht _ ww_39) (fun _ h9 => h9) rfl dc_AL_fastRemove_11 ?_
  refine lv_iconst (v := nI 1) hx hb dc_AL_fastRemove_14 (by decide) ?_
  refine lv_isub hx hb dc_AL_fastRemove_15 ?_
  refine gh_topi (pk_sub (a := xs.length) (b := 1) (by omega)) ?_
  refine lv_dup hx hb dc_AL_fastRemove_16 rfl ?_
  refine lv_istore_n hx hb dc_AL_fastRemove_17 rfl hl (by decide) rfl (fun ls hl => ?_)
  refine lv_iload_n hx hb dc_AL_fastRemove_18 rfl (lv_fd hl rfl) ?_
  have tail : ∀ (M1 : gh_M) (H : Heap) (locs : List Loc) (ls : Array Slot) (g : Nat → Option Nat), lv_has ls 4 [(3, .int (nI (xs.length - 1))), (0, .ref a), (1, .ref el), (2, .int (nI j))] → gh_P E.1 cl_L (gh_A M s.heap.size) M1 H → va_S (gh_A M s.heap.size) s.heap H locs → M1 a = some (t, .inr (0, [.int (mk + nI 1), .ref el, .int (nI xs.length)])) → M1 el = some (t, .inl (E.2.1 2, cap, .inr (.inr (.inr (.inr g))))) → gh_ch t M M1 → (∀ i, i < xs.length - 1 → g i = (xs.eraseIdx j)[i]?) →
      W p l e ({ frames := 1, cells := 0, slots := 0, locals := 40 } : Room) s m ([.ref a, .ref el, .int (nI j)] : List Value).toArray below meth c H locs 0 0 (MQ below (va_Qv (fun M' => gh_ch t M M' ∧ al_L E M' t a cap (xs.eraseIdx j)) (gk_B E M s.heap.size) (gh_A M s.heap.size)) ([.ref a, .ref el, .int (nI j)] : List Value).toArray s 0 0 (gh_A M s.heap.size)) (F0 m 34 ls []) := by
    intro M1 H locs ls g hl hP hS ha1 hel1 hch1 hg
    refine lv_aload_n hx hb dc_AL_fastRemove_34 rfl (lv_fd hl rfl) ?_
    refine lv_aload_n hx hb dc_AL_fastRemove_35 rfl (lv_fd hl rfl) ?_
    refine lv_iload_n hx hb dc_AL_fastRemove_36 rfl (lv_fd hl rfl) ?_
    refine lv_dup_x1 hx hb dc_AL_fastRemove_37 rfl rfl ?_
    refine gh_put (ty := .int) hx hb ht nu_AL nt_AL no_AL nn_AL hown hK.1 hP hS ha1 rfl 2 (by decide) (ht _ ww_39) (fun _ h9 => h9) rfl (by decide +kernel) rfl rfl (Nat.le_of_ble_eq_true rfl) rfl dc_AL_fastRemove_38 (fun H locs hP hS => ?_)
    refine lv_null hx hb dc_AL_fastRemove_41 ?_
    have hel2 := gh_up_at (q := (t, .inr (0, [.int (mk + nI 1), .ref el, .int (nI xs.length)].set 2 (.int (nI (xs.length - 1)))))) hel1 (Ne.symm (gh_neOA ha1 hel1))
    refine gh_aastN hx hb hK.1 hP hS 2 hel2 rfl rfl (by omega) (by omega) dc_AL_fastRemove_42 (fun H locs hP hS => ?_)
    refine gk_ev hx hb hr hlk hP hS dc_AL_fastRemove_43 ⟨(hch1.trans (gh_ch.up ha1)).trans (gh_ch.up hel2), mk + nI 1, el, ?_, Or.inr ⟨_, gh_up_self _ _ _, hc1, hc2, by omega, fun i hi => ?_⟩⟩
    · rw [gh_up_ne _ _ (gh_neOA ha1 hel1), gh_up_self, hlen]
      rfl
    · rw [hlen] at hi
      rw [va_up_ne _ _ (by omega)]
      exact hg i hi
  refine gn_le (tgt := 34) hx hb (by omega) (by omega) dc_AL_fastRemove_19 (by decide) (fun h => ?_) (fun h => ?_)
  · refine tail M1 H locs ls f (lv_sub hl [0, 1, 2, 3] rfl) hP hS ha1 hel1 hch1 (fun i hi => ?_)
    rw [List.getElem?_eraseIdx_of_lt (by omega)]
    exact hf i (by omega)
  · refine lv_aload_n hx hb dc_AL_fastRemove_22 rfl (lv_fd hl rfl) ?_
    refine lv_iload_n hx hb dc_AL_fastRemove_23 rfl (lv_fd hl rfl) ?_
    refine lv_iconst (v := nI 1) hx hb dc_AL_fastRemove_24 (by decide) ?_
    refine lv_iadd hx hb dc_AL_fastRemove_25 ?_
    refine gh_topi (nI_add j 1) ?_
    refine lv_aload_n hx hb dc_AL_fastRemove_26 rfl (lv_fd hl rfl) ?_
    refine lv_iload_n hx hb dc_AL_fastRemove_27 rfl (lv_fd hl rfl) ?_
    refine lv_iload_n hx hb dc_AL_fastRemove_28 rfl (lv_fd hl rfl) ?_
    refine lv_iload_n hx hb dc_AL_fastRemove_29 rfl (lv_fd hl rfl) ?_
    refine lv_isub hx hb dc_AL_fastRemove_30 ?_
    refine gh_topi (pk_sub (a := xs.length - 1) (b := j) (by omega)) ?_
    refine gh_copyM hx hb (by rw [hml]; exact hl.1.symm) hown (ht _ ww_215) (ht _ ww_150) (ht _ ww_149) (ht _ ww_10) hK.1 hP hS 2 2 hel1 hel1 rfl rfl (by omega) (by omega) (by omega) (by omega) (by omega) (fun i hi y hy => (hx1 y (List.mem_of_getElem? ((hf (j + 1 + i) (by omega)).symm.trans hy))).any hK hP) (Nat.le_of_ble_eq_true rfl) (Nat.le_of_ble_eq_true rfl) dc_AL_fastRemove_31 (fun H locs hP hS => ?_)
    refine tail _ H locs ls _ (lv_sub hl [0, 1, 2, 3] rfl) hP hS (gh_up_at ha1 (gh_neOA ha1 hel1)) (gh_up_self _ _ _) (hch1.trans (gh_ch.up hel1)) (fun i hi => ?_)
    by_cases hij : i < j
    · rw [pk_cpy_out (Or.inl hij), List.getElem?_eraseIdx_of_lt hij]
      exact hf i (by omega)
    · rw [pk_cpy_in (by omega) (by omega), List.getElem?_eraseIdx_of_ge (by omega), show j + 1 + (i - j) = i + 1 by omega]
      exact hf (i + 1) (by omega)
set_option maxHeartbeats 4000000 in
set_option maxRecDepth 100000 in
theorem ct_AL_remove (l : Launch) (E : gk_E) (M : gh_M) (sz : Nat) {t a cap : Nat} {xs : List Nat} (h : al_L E M t a cap xs) {j : Nat} (hj : j < xs.length) (hx0 : ∀ y ∈ xs, el_O M y) : Met l yn_AL_remove (.code yn_AL_remove cd_AL_remove 4 (some (FieldType.object "java/lang/Object")) :: bw_L) { frames := 2, cells := 0, slots := 0, locals := 70 } (gk_Pre E [.ref a, .int (nI j)] M sz) (va_Qq (fun r M' => r = xs[j]? ∧ gh_ch t M M' ∧ al_L E M' t a cap (xs.eraseIdx j)) (gk_B E M sz) (gh_A M sz)) 0 0 (gh_A M sz) := by
  refine gk_met rfl (Nat.le_of_ble_eq_true rfl) ?_
  intro p e s m below meth c F hsz hP hK hZ ls hl
  subst hsz
  have hx := F.1
  have hb := F.2.1
  have hr := F.2.2.1
  have hml := F.2.2.2.1
  have hown : s.vm.findClass "java/util/ArrayList" = some m.cls := F.2.2.2.2.1
  have hlk := F.2.2.2.2.2.1
  have hnm := F.2.2.2.2.2.2.1
  have ht := fun (w : Cond) (h : w ∈ bw_L) => F.2.2.2.2.2.2.2 w (List.mem_cons_of_mem _ h)
  have hA : ∀ q, s.heap.size ≤ q → gh_A M s.heap.size q := fun q h => Or.inr h
  have hS : va_S (gh_A M s.heap.size) s.heap s.heap [] := va_S.rf
  have hl : lv_has ls 4 [(0, .ref a), (1, .int (nI j))] := hl
  obtain ⟨mk, el, ha, hD⟩ := h
  have hlen := hD.len
  obtain ⟨f, hel, hc1, hc2, hc3, hf⟩ : ∃ f : Nat → Option Nat, M el = some (t, .inl (E.2.1 2, cap, .inr (.inr (.inr (.inr f))))) ∧ 10 ≤ cap ∧ cap < 2 ^ 29 ∧ xs.length ≤ cap ∧ ∀ i, i < xs.length → f i = xs[i]? := by
    rcases hD with ⟨-, -, rfl⟩ | hD
    · exact absurd hj (Nat.not_lt_zero _)
    · exact hD
  refine lv_iload_n hx hb dc_AL_remove_0 rfl (lv_fd hl rfl) ?_
  refine lv_aload_n hx hb dc_AL_remove_1 rfl (lv_fd hl rfl) ?_
  refine gh_get hx hb ht nu_AL hown hK.1 hP ha rfl 2 (by decide) (ht _ ww_39) (fun _ h9 => h9) rfl dc_AL_remove_2 ?_
  refine gk_si (gk_rS F (As := [.int (nI j), .int (nI xs.length)]) (rest := []) (ct_OB_checkIndex l E _ _ hj (by omega)) ww_176 ww_177 ww_11 ww_178 rfl rfl ⟨by decide, by decide, by show _ = some 2; decide +kernel⟩ ⟨Nat.le_of_ble_eq_true rfl, Nat.le_of_ble_eq_true rfl⟩ hK hZ hP hS hA hl.1 rfl (Nat.le_of_ble_eq_true rfl) dc_AL_remove_5 ⟨Nat.le_refl _, Nat.le_refl _⟩) (fun r hr1 => ?_)
  refine lv_pop hx hb dc_AL_remove_8 rfl ?_
  refine lv_aload_n hx hb dc_AL_remove_9 rfl (lv_fd hl rfl) ?_
  refine gh_get hx hb ht nu_AL hown hK.1 hP ha rfl 1 (by decide) (ht _ ww_38) (fun _ h9 => h9) rfl dc_AL_remove_10 ?_
  refine lv_astore_n hx hb dc_AL_remove_13 rfl hl (by decide) rfl (fun ls hl => ?_)
  refine lv_aload_n hx hb dc_AL_remove_14 rfl (lv_fd hl rfl) ?_
  refine lv_iload_n hx hb dc_AL_remove_15 rfl (lv_fd hl rfl) ?_
  refine gh_aald (v := .ref xs[j]) hx hb hK.1 hP 2 hel rfl rfl rfl (by omega) (by omega) (by rw [hf j hj, List.getElem?_eq_getElem hj]; rfl) dc_AL_remove_16 ?_
  refine lv_astore_n hx hb dc_AL_remove_17 rfl hl (by decide) rfl (fun ls hl => ?_)
  refine lv_aload_n hx hb dc_AL_remove_18 rfl (lv_fd hl rfl) ?_
  refine lv_aload_n hx hb dc_AL_remove_19 rfl (lv_fd hl rfl) ?_
  refine lv_iload_n hx hb dc_AL_remove_20 rfl (lv_fd hl rfl) ?_
  refine gk_cv (gk_rV F (b := a) (As := [.ref el, .int (nI j)]) (rest := []) (ct_AL_fastRemove l E _ _ ha hel hc1 hc2 hc3 hf hj hx0) ww_211 ww_213 ws_AL_fastRemove ww_4 ww_214 rfl rfl ⟨by decide, by decide, by show _ = some 2; decide +kernel⟩ ⟨Nat.le_of_ble_eq_true rfl, Nat.le_of_ble_eq_true rfl⟩ (gh_recv hK.1 hP ha rfl) hK hZ hP hS hA hl.1 rfl (Nat.le_of_ble_eq_true rfl) dc_AL_remove_21 ⟨Nat.le_refl _, Nat.le_refl _⟩) hP hS hA (fun M1 H locs hM1 hP hS => ?_)
  refine lv_aload_n hx hb dc_AL_remove_24 rfl (lv_fd hl rfl) ?_
  exact gk_eq (v := some xs[j]) hx hb hr (Or.inl ⟨_, rfl⟩) hlk hP hS dc_AL_remove_25 ⟨(List.getElem?_eq_getElem hj).symm, hM1⟩
