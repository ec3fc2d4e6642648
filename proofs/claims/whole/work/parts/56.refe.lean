theorem ag_up {T : List Nat} {row vrow : Nat → List it_I} {n : Nat} {r r' : List it_I} (h : ∀ k ∈ T, row k = vrow k) (hr : r = r') : ∀ k ∈ T, va_up row n r k = va_up vrow n r' k := by
  intro k hk
  by_cases e : k = n
  · subst e
    rw [va_up_self, va_up_self, hr]
  · rw [va_up_ne _ _ e, va_up_ne _ _ e]
    exact h k hk
set_option maxHeartbeats 4000000 in
set_option maxRecDepth 100000 in
theorem ct_MO_turn (l : Launch) (E : gk_E) (M : gh_M) (sz : Nat) {h0 N : Nat} {V : vv_V} (hV : rs_V E M h0 V) (hI : vv_I N V) (hN : N ≤ 512) (k j0 i : Int32) : Met l yn_MO_turn (.code yn_MO_turn cd_MO_turn 4 (some FieldType.int) :: bw_L) { frames := 4, cells := 0, slots := 0, locals := 120 } (gk_Pre E [.ref h0, .int k, .int j0, .int i] M sz) (va_Qi (fun r M' => r = (vq_turn V k j0 i).1 ∧ rs_V E M' h0 (vq_turn V k j0 i).2) (gk_B E M sz) (gh_A M sz)) 0 0 (gh_A M sz) := by
  refine gk_met rfl (Nat.le_of_ble_eq_true rfl) ?_
  intro p e s m below meth c F hsz hP hK hZ ls hl
  subst hsz
  have hx := F.1
  have hb := F.2.1
  have hr := F.2.2.1
  have hml := F.2.2.2.1
  have hown : s.vm.findClass "ThingHeapModel" = some m.cls := F.2.2.2.2.1
  have hlk := F.2.2.2.2.2.1
  have hnm := F.2.2.2.2.2.2.1
  have ht := fun (w : Cond) (h : w ∈ bw_L) => F.2.2.2.2.2.2.2 w (List.mem_cons_of_mem _ h)
  have hA : ∀ q, s.heap.size ≤ q → gh_A M s.heap.size q := fun q h => Or.inr h
  have hS : va_S (gh_A M s.heap.size) s.heap s.heap [] := va_S.rf
  have hl : lv_has ls 4 [(0, .ref h0), (1, .int k), (2, .int j0), (3, .int i)] := hl
  have hV0 := hV
  obtain ⟨G, cap, ex, hol, w, row, h, hT, hag⟩ := hV
  have hcb := h.2.2.2.2.2.2.2.2.2.2
  have hTl := vv_len hI
  have hmN := hI.2.2.2.2
  have hTm : ∀ k ∈ V.2.1, k < 2 ^ 31 := fun k hk => by have := hI.2.2.1 k hk; omega
  have hin : ∀ n, n ∈ V.2.1 ↔ n < V.1 ∧ ex n = true := fun n => by rw [← hT, List.mem_filter, List.mem_range]
  have no : ∀ ls, vq_turn V k j0 i = (-2, V) → W p l e ({ frames := 4, cells := 0, slots := 0, locals := 120 } : Room) s m ([.ref h0, .int k, .int j0, .int i] : List Value).toArray below meth c s.heap [] 0 0 (MQ below (va_Qi (fun r M' => r = (vq_turn V k j0 i).1 ∧ rs_V E M' h0 (vq_turn V k j0 i).2) (gk_B E M s.heap.size) (gh_A M s.heap.size)) ([.ref h0, .int k, .int j0, .int i] : List Value).toArray s 0 0 (gh_A M s.heap.size)) (F0 m 32 ls []) := by
    intro ls e
    refine lv_bipush (v := (-2)) hx hb dc_MO_turn_32 (by decide) ?_
    exact gk_ei hx hb hr hlk hP hS dc_MO_turn_34 ⟨by rw [e], by rw [e]; exact hV0⟩
  refine lv_aload_n hx hb dc_MO_turn_0 rfl (lv_fd hl rfl) ?_
  refine lv_iload_n hx hb dc_MO_turn_1 rfl (lv_fd hl rfl) ?_
  refine gk_si (gk_rV F (b := h0) (As := [.int k]) (rest := []) (ct_MO_isThere l E _ _ h k) ww_387 ww_389 ws_MO_isThere ww_5 ww_390 rfl rfl ⟨by decide, by decide, by show _ = some 1; decide +kernel⟩ ⟨Nat.le_of_ble_eq_true rfl, Nat.le_of_ble_eq_true rfl⟩ (gh_recv hK.1 hP h.1 rfl) hK hZ hP hS hA hl.1 rfl (Nat.le_of_ble_eq_true rfl) dc_MO_turn_2 ⟨Nat.le_refl _, Nat.le_refl _⟩) (fun r hr1 => ?_)
  rcases hr1 with ⟨rfl, n, hn, hen, rfl⟩ | ⟨rfl, hno⟩
  rotate_left
  · refine lv_if_eq (tgt := 32) hx hb dc_MO_turn_5 (by decide) (fun _ => ?_) (fun q => absurd rfl q)
    exact no ls (by unfold vq_turn; rw [sf_none (fun n hn => hno n ((hin n).mp hn).1 ((hin n).mp hn).2)])
  have hnT := (hin n).mpr ⟨hn, hen⟩
  have hsf : sf_T V.2.1 (nI n) = some n := sf_of hTm hnT rfl
  refine lv_if_eq (tgt := 32) hx hb dc_MO_turn_5 (by decide) (fun q => absurd q (by decide)) (fun _ => ?_)
  refine lv_aload_n hx hb dc_MO_turn_8 rfl (lv_fd hl rfl) ?_
  refine lv_iload_n hx hb dc_MO_turn_9 rfl (lv_fd hl rfl) ?_
  refine gk_si (gk_rV F (b := h0) (As := [.int i]) (rest := []) (ct_MO_isThere l E _ _ h i) ww_387 ww_389 ws_MO_isThere ww_5 ww_390 rfl rfl ⟨by decide, by decide, by show _ = some 1; decide +kernel⟩ ⟨Nat.le_of_ble_eq_true rfl, Nat.le_of_ble_eq_true rfl⟩ (gh_recv hK.1 hP h.1 rfl) hK hZ hP hS hA hl.1 rfl (Nat.le_of_ble_eq_true rfl) dc_MO_turn_10 ⟨Nat.le_refl _, Nat.le_refl _⟩) (fun r hr1 => ?_)
  rcases hr1 with ⟨rfl, n2, hn2, hen2, rfl⟩ | ⟨rfl, hno⟩
  rotate_left
  · refine lv_if_eq (tgt := 32) hx hb dc_MO_turn_13 (by decide) (fun _ => ?_) (fun q => absurd rfl q)
    exact no ls (by unfold vq_turn; rw [hsf]; dsimp only; rw [sf_none (fun n hn => hno n ((hin n).mp hn).1 ((hin n).mp hn).2)])
  have hnT2 := (hin n2).mpr ⟨hn2, hen2⟩
  have hsf2 : sf_T V.2.1 (nI n2) = some n2 := sf_of hTm hnT2 rfl
  refine lv_if_eq (tgt := 32) hx hb dc_MO_turn_13 (by decide) (fun q => absurd q (by decide)) (fun _ => ?_)
  obtain ⟨fm, hfm, hfm2⟩ := h.2.2.1
  obtain ⟨fi, hfi, hfi2, -⟩ := h.2.1
  obtain ⟨cc9, fl, hrw, hc4, hc6, hrl, hr3, hfl⟩ := h.2.2.2.2.2.2.2.1 n hn
  have hrT := hag n hnT
  refine lv_iload_n hx hb dc_MO_turn_16 rfl (lv_fd hl rfl) ?_
  refine lv_iconst (v := nI 0) hx hb dc_MO_turn_17 (by decide) ?_
  refine lv_aload_n hx hb dc_MO_turn_18 rfl (lv_fd hl rfl) ?_
  refine gh_get hx hb ht nu_MO hown hK.1 hP h.1 rfl 1 (by decide) (ht _ ww_313) (fun _ h9 => h9) rfl dc_MO_turn_19 ?_
  refine lv_iload_n hx hb dc_MO_turn_22 rfl (lv_fd hl rfl) ?_
  refine gh_iald hx hb hK.1 hP 0 hfm rfl rfl (show n < cap by omega) (by omega) (hfm2 n hn) dc_MO_turn_23 ?_
  refine lv_iconst (v := nI 1) hx hb dc_MO_turn_24 (by decide) ?_
  refine lv_isub hx hb dc_MO_turn_25 ?_
  refine gk_si (gk_rS F (As := [.int j0, .int (nI 0), .int (nI (row n).length - nI 1)]) (rest := []) (ct_MO_in l E M _ j0 (n := (row n).length) rfl (by omega)) ww_342 ww_343 ww_5 ww_344 rfl rfl ⟨by decide, by decide, by show _ = some 3; decide +kernel⟩ ⟨Nat.le_of_ble_eq_true rfl, Nat.le_of_ble_eq_true rfl⟩ hK hZ hP hS hA hl.1 rfl (Nat.le_of_ble_eq_true rfl) dc_MO_turn_26 ⟨Nat.le_refl _, Nat.le_refl _⟩) (fun r hr1 => ?_)
  rcases hr1 with ⟨rfl, j, hj, rfl⟩ | ⟨rfl, hno⟩
  rotate_left
  · refine lv_if_ne (tgt := 35) hx hb dc_MO_turn_29 (by decide) (fun q => absurd rfl q) (fun _ => ?_)
    exact no ls (by unfold vq_turn; rw [hsf]; dsimp only; rw [hsf2]; dsimp only; rw [← hrT, sf_rn hno])
  refine lv_if_ne (tgt := 35) hx hb dc_MO_turn_29 (by decide) (fun _ => ?_) (fun q => absurd q (by decide))
  have hsi : sf_T (List.range (V.2.2.2 n).length) (nI j) = some j := by rw [← hrT]; exact sf_rg (by omega) hj rfl
  have e : vq_turn V (nI n) (nI j) (nI n2) = vq_row V n ((V.2.2.2 n).set j (some n2, 0)) := by unfold vq_turn; rw [hsf]; dsimp only; rw [hsf2]; dsimp only; rw [hsi]
  refine lv_aload_n hx hb dc_MO_turn_35 rfl (lv_fd hl rfl) ?_
  refine gh_get hx hb ht nu_MO hown hK.1 hP h.1 rfl 0 (by decide) (ht _ ww_312) (fun _ h9 => h9) rfl dc_MO_turn_36 ?_
  refine lv_iload_n hx hb dc_MO_turn_39 rfl (lv_fd hl rfl) ?_
  refine gh_aald (v := .ref (G.1 n)) hx hb hK.1 hP 4 hfi rfl rfl rfl (show n < cap by omega) (by omega) (by rw [hfi2 n hn]; rfl) dc_MO_turn_40 ?_
  refine lv_iload_n hx hb dc_MO_turn_41 rfl (lv_fd hl rfl) ?_
  refine lv_ldc2 hx hb hown (ht _ ww_377) dc_MO_turn_42 ?_
  refine lv_iload_n hx hb dc_MO_turn_45 rfl (lv_fd hl rfl) ?_
  refine lv_i2l (v := lN n2) hx hb dc_MO_turn_46 (nI_l (by omega)) ?_
  refine lv_ladd hx hb dc_MO_turn_47 ?_
  refine gh_topl (show (1099511627776 : Int64) + lN n2 = lN (1099511627776 + n2) from lN_add 1099511627776 n2) ?_
  refine gm_last hx hb hK.1 hP hS 1 hrw rfl rfl (show j < cc9 by omega) (by omega) dc_MO_turn_48 (fun H locs hP hS => ?_)
  have hc1 := gh_ch.up (e' := .inl (E.2.1 1, cc9, .inr (.inl (va_up fl j (lN (1099511627776 + n2)))))) hrw
  have h1 := h.setRow (o := n) (r' := (row n).set j (some n2, 0)) (M' := gh_up M (G.1 n) (8 + n, .inl (E.2.1 1, cc9, .inr (.inl (va_up fl j (lN (1099511627776 + n2))))))) (fun b t y hy h3 h8 => hc1.keep hy h8) ⟨fm, hc1.keep hfm (by omega), by rw [List.length_set]; exact hfm2 n hn, fun k _ hk => hfm2 k hk⟩
    ⟨cc9, _, gh_up_self _ _ _, hc4, hc6, by rw [List.length_set]; exact hrl, by rw [List.length_set]; exact hr3, fun q x hq => by
      by_cases e : j = q
      · subst e
        rw [List.getElem?_set_self hj] at hq
        cases hq
        rw [va_up_self]
        rfl
      · rw [List.getElem?_set_ne e] at hq
        rw [va_up_ne _ _ (Ne.symm e)]
        exact hfl q x hq⟩
    (fun x hx q hq => by
      rcases List.mem_or_eq_of_mem_set hx with g | g
      · exact h.2.2.2.2.2.2.2.2.2.1 n hn x g q hq
      · rw [g] at hq
        rw [← Option.some.inj hq]
        exact hn2)
  have hag1 : ∀ k ∈ V.2.1, va_up row n ((row n).set j (some n2, 0)) k = va_up V.2.2.2 n ((V.2.2.2 n).set j (some n2, 0)) k := ag_up hag (by rw [hrT])
  have hjr : j < (V.2.2.2 n).length := by rw [← hrT]; exact hj
  obtain ⟨p1, p2⟩ := st_pre (root := V.2.2.1) hT hag1 (rw_in hI.1.2.2.1 (fun q hq => by
      obtain ⟨y, hy, hyq⟩ := List.mem_filterMap.mp hq
      rcases List.mem_or_eq_of_mem_set hy with g | g
      · exact hI.1.2.2.1 n hnT q (List.mem_filterMap.mpr ⟨y, g, hyq⟩)
      · rw [g] at hyq
        rw [← Option.some.inj hyq]
        exact hnT2)) (rw_len hI.2.2.2.1 (by rw [List.length_set]; exact hI.2.2.2.1 n)) (by omega)
  refine lv_aload_n hx hb dc_MO_turn_49 rfl (lv_fd hl rfl) ?_
  refine gk_cv (gk_rV F (b := h0) (As := []) (rest := []) (ct_MO_settle l E _ _ h1 p1 p2) ww_359 ww_361 ws_MO_settle ww_5 ww_362 rfl rfl ⟨by decide, by decide, by show _ = some 0; decide +kernel⟩ ⟨Nat.le_of_ble_eq_true rfl, Nat.le_of_ble_eq_true rfl⟩ (gh_recv hK.1 hP h1.1 rfl) hK hZ hP hS hA hl.1 rfl (Nat.le_of_ble_eq_true rfl) dc_MO_turn_50 ⟨Nat.le_of_ble_eq_true rfl, Nat.le_of_ble_eq_true rfl⟩) hP hS hA (fun M2 H locs h2 hP hS => ?_)
  obtain ⟨ex', hol', w', h2, hT2⟩ := h2
  rw [hT] at hT2
  have hV2 := rs_V_of h2 hT2 hag1
  refine lv_aload_n hx hb dc_MO_turn_53 rfl (lv_fd hl rfl) ?_
  refine gh_get hx hb ht nu_MO hown hK.1 hP h2.1 rfl 6 (by decide) (ht _ ww_318) (fun _ h9 => h9) rfl dc_MO_turn_54 ?_
  refine gk_ei hx hb hr hlk hP hS dc_MO_turn_57 ⟨?_, by rw [e]; exact hV2⟩
  rw [e, hT2, sv_congr hag1]
  rfl
set_option maxHeartbeats 4000000 in
set_option maxRecDepth 100000 in
theorem ct_MO_take (l : Launch) (E : gk_E) (M : gh_M) (sz : Nat) {h0 N : Nat} {V : vv_V} (hV : rs_V E M h0 V) (hI : vv_I N V) (hN : N ≤ 512) (k j0 : Int32) : Met l yn_MO_take (.code yn_MO_take cd_MO_take 4 (some FieldType.int) :: bw_L) { frames := 4, cells := 0, slots := 0, locals := 120 } (gk_Pre E [.ref h0, .int k, .int j0] M sz) (va_Qi (fun r M' => r = (vq_take V k j0).1 ∧ rs_V E M' h0 (vq_take V k j0).2) (gk_B E M sz) (gh_A M sz)) 0 0 (gh_A M sz) := by
  refine gk_met rfl (Nat.le_of_ble_eq_true rfl) ?_
  intro p e s m below meth c F hsz hP hK hZ ls hl
  subst hsz
  have hx := F.1
  have hb := F.2.1
  have hr := F.2.2.1
  have hml := F.2.2.2.1
  have hown : s.vm.findClass "ThingHeapModel" = some m.cls := F.2.2.2.2.1
  have hlk := F.2.2.2.2.2.1
  have hnm := F.2.2.2.2.2.2.1
  have ht := fun (w : Cond) (h : w ∈ bw_L) => F.2.2.2.2.2.2.2 w (List.mem_cons_of_mem _ h)
  have hA : ∀ q, s.heap.size ≤ q → gh_A M s.heap.size q := fun q h => Or.inr h
  have hS : va_S (gh_A M s.heap.size) s.heap s.heap [] := va_S.rf
  have hl : lv_has ls 4 [(0, .ref h0), (1, .int k), (2, .int j0)] := hl
  have hV0 := hV
  obtain ⟨G, cap, ex, hol, w, row, h, hT, hag⟩ := hV
  have hcb := h.2.2.2.2.2.2.2.2.2.2
  have hTl := vv_len hI
  have hmN := hI.2.2.2.2
  have hTm : ∀ k ∈ V.2.1, k < 2 ^ 31 := fun k hk => by have := hI.2.2.1 k hk; omega
  have hin : ∀ n, n ∈ V.2.1 ↔ n < V.1 ∧ ex n = true := fun n => by rw [← hT, List.mem_filter, List.mem_range]
  have no : ∀ ls, vq_take V k j0 = (-2, V) → W p l e ({ frames := 4, cells := 0, slots := 0, locals := 120 } : Room) s m ([.ref h0, .int k, .int j0] : List Value).toArray below meth c s.heap [] 0 0 (MQ below (va_Qi (fun r M' => r = (vq_take V k j0).1 ∧ rs_V E M' h0 (vq_take V k j0).2) (gk_B E M s.heap.size) (gh_A M s.heap.size)) ([.ref h0, .int k, .int j0] : List Value).toArray s 0 0 (gh_A M s.heap.size)) (F0 m 24 ls []) := by
    intro ls e
    refine lv_bipush (v := (-2)) hx hb dc_MO_take_24 (by decide) ?_
    exact gk_ei hx hb hr hlk hP hS dc_MO_take_26 ⟨by rw [e], by rw [e]; exact hV0⟩
  refine lv_aload_n hx hb dc_MO_take_0 rfl (lv_fd hl rfl) ?_
  refine lv_iload_n hx hb dc_MO_take_1 rfl (lv_fd hl rfl) ?_
  refine gk_si (gk_rV F (b := h0) (As := [.int k]) (rest := []) (ct_MO_isThere l E _ _ h k) ww_387 ww_389 ws_MO_isThere ww_5 ww_390 rfl rfl ⟨by decide, by decide, by show _ = some 1; decide +kernel⟩ ⟨Nat.le_of_ble_eq_true rfl, Nat.le_of_ble_eq_true rfl⟩ (gh_recv hK.1 hP h.1 rfl) hK hZ hP hS hA hl.1 rfl (Nat.le_of_ble_eq_true rfl) dc_MO_take_2 ⟨Nat.le_refl _, Nat.le_refl _⟩) (fun r hr1 => ?_)
  rcases hr1 with ⟨rfl, n, hn, hen, rfl⟩ | ⟨rfl, hno⟩
  rotate_left
  · refine lv_if_eq (tgt := 24) hx hb dc_MO_take_5 (by decide) (fun _ => ?_) (fun q => absurd rfl q)
    exact no ls (by unfold vq_take; rw [sf_none (fun n hn => hno n ((hin n).mp hn).1 ((hin n).mp hn).2)])
  have hnT := (hin n).mpr ⟨hn, hen⟩
  have hsf : sf_T V.2.1 (nI n) = some n := sf_of hTm hnT rfl
  refine lv_if_eq (tgt := 24) hx hb dc_MO_take_5 (by decide) (fun q => absurd q (by decide)) (fun _ => ?_)
  obtain ⟨fm, hfm, hfm2⟩ := h.2.2.1
  obtain ⟨fi, hfi, hfi2, -⟩ := h.2.1
  obtain ⟨cc9, fl, hrw, hc4, hc6, hrl, hr3, hfl⟩ := h.2.2.2.2.2.2.2.1 n hn
  have hrT := hag n hnT
  refine lv_iload_n hx hb dc_MO_take_8 rfl (lv_fd hl rfl) ?_
  refine lv_iconst (v := nI 0) hx hb dc_MO_take_9 (by decide) ?_
  refine lv_aload_n hx hb dc_MO_take_10 rfl (lv_fd hl rfl) ?_
  refine gh_get hx hb ht nu_MO hown hK.1 hP h.1 rfl 1 (by decide) (ht _ ww_313) (fun _ h9 => h9) rfl dc_MO_take_11 ?_
  refine lv_iload_n hx hb dc_MO_take_14 rfl (lv_fd hl rfl) ?_
  refine gh_iald hx hb hK.1 hP 0 hfm rfl rfl (show n < cap by omega) (by omega) (hfm2 n hn) dc_MO_take_15 ?_
  refine lv_iconst (v := nI 1) hx hb dc_MO_take_16 (by decide) ?_
  refine lv_isub hx hb dc_MO_take_17 ?_
  refine gk_si (gk_rS F (As := [.int j0, .int (nI 0), .int (nI (row n).length - nI 1)]) (rest := []) (ct_MO_in l E M _ j0 (n := (row n).length) rfl (by omega)) ww_342 ww_343 ww_5 ww_344 rfl rfl ⟨by decide, by decide, by show _ = some 3; decide +kernel⟩ ⟨Nat.le_of_ble_eq_true rfl, Nat.le_of_ble_eq_true rfl⟩ hK hZ hP hS hA hl.1 rfl (Nat.le_of_ble_eq_true rfl) dc_MO_take_18 ⟨Nat.le_refl _, Nat.le_refl _⟩) (fun r hr1 => ?_)
  rcases hr1 with ⟨rfl, j, hj, rfl⟩ | ⟨rfl, hno⟩
  rotate_left
  · refine lv_if_ne (tgt := 27) hx hb dc_MO_take_21 (by decide) (fun q => absurd rfl q) (fun _ => ?_)
    exact no ls (by unfold vq_take; rw [hsf]; dsimp only; rw [← hrT, sf_rn hno])
  refine lv_if_ne (tgt := 27) hx hb dc_MO_take_21 (by decide) (fun _ => ?_) (fun q => absurd q (by decide))
  have hsi : sf_T (List.range (V.2.2.2 n).length) (nI j) = some j := by rw [← hrT]; exact sf_rg (by omega) hj rfl
  have ee : vq_take V (nI n) (nI j) = vq_row V n ((V.2.2.2 n).eraseIdx j) := by unfold vq_take; rw [hsf]; dsimp only; rw [hsi]
  have hjr : j < (V.2.2.2 n).length := by rw [← hrT]; exact hj
  have hle := List.length_eraseIdx_of_lt hj
  have hle2 := List.length_eraseIdx_of_lt hjr
  refine lv_aload_n hx hb dc_MO_take_27 rfl (lv_fd hl rfl) ?_
  refine gh_get hx hb ht nu_MO hown hK.1 hP h.1 rfl 1 (by decide) (ht _ ww_313) (fun _ h9 => h9) rfl dc_MO_take_28 ?_
  refine lv_iload_n hx hb dc_MO_take_31 rfl (lv_fd hl rfl) ?_
  refine lv_dup2_11 hx hb dc_MO_take_32 rfl rfl ?_
  refine gh_iald hx hb hK.1 hP 0 hfm rfl rfl (show n < cap by omega) (by omega) (hfm2 n hn) dc_MO_take_33 ?_
  refine lv_iconst (v := nI 1) hx hb dc_MO_take_34 (by decide) ?_
  refine lv_isub hx hb dc_MO_take_35 ?_
  refine gh_topi (show nI (row n).length - nI 1 = nI ((row n).length - 1) from nI_subn (by omega)) ?_
  refine gm_iast hx hb hK.1 hP hS 0 hfm rfl rfl (show n < cap by omega) (by omega) dc_MO_take_36 (fun H locs hP hS => ?_)
  refine lv_iload_n hx hb dc_MO_take_37 rfl (lv_fd hl rfl) ?_
  refine lv_istore_n hx hb dc_MO_take_38 rfl hl (by decide) rfl (fun ls hl => ?_)
  have hc1 := gh_ch.up (e' := .inl (E.2.1 0, cap, .inl (va_up fm n (nI ((row n).length - 1))))) hfm
  have hh1 := hc1.keep h.1 (by omega)
  have hfi1 := hc1.keep hfi (by omega)
  have hrw1 := hc1.keep hrw (by omega)
  have hfm1 : gh_up M G.2.2.1 (3, .inl (E.2.1 0, cap, .inl (va_up fm n (nI ((row n).length - 1))))) G.2.2.1 = _ := gh_up_self _ _ _
  generalize gh_up M G.2.2.1 (3, .inl (E.2.1 0, cap, .inl (va_up fm n (nI ((row n).length - 1))))) = M1 at hc1 hh1 hfi1 hrw1 hfm1 hP
  have loop : ∀ (d i : Nat) (M2 : gh_M) (H : Heap) (locs : List Loc) (ls : Array Slot), i + d = (row n).length - 1 → j ≤ i → lv_has ls 4 [(3, .int (nI i)), (0, .ref h0), (1, .int (nI n)), (2, .int (nI j))] → gh_P E.1 cl_L (gh_A M s.heap.size) M2 H → va_S (gh_A M s.heap.size) s.heap H locs → M2 (G.1 n) = some (8 + n, .inl (E.2.1 1, cc9, .inr (.inl (fun p => if j ≤ p ∧ p < i then fl (p + 1) else fl p)))) → gh_ch (8 + n) M1 M2 →
      W p l e ({ frames := 4, cells := 0, slots := 0, locals := 120 } : Room) s m ([.ref h0, .int (nI n), .int (nI j)] : List Value).toArray below meth c H locs 0 0 (MQ below (va_Qi (fun r M' => r = (vq_take V (nI n) (nI j)).1 ∧ rs_V E M' h0 (vq_take V (nI n) (nI j)).2) (gk_B E M s.heap.size) (gh_A M s.heap.size)) ([.ref h0, .int (nI n), .int (nI j)] : List Value).toArray s 0 0 (gh_A M s.heap.size)) (F0 m 39 ls []) := by
    intro d
    induction d with
    | zero =>
      intro i M2 H locs ls hid hji hl hP hS h2 hc2
      have hil : i = (row n).length - 1 := by omega
      have hh2 := hc2.keep hh1 (by omega)
      have hfm2' := hc2.keep hfm1 (by omega)
      refine lv_iload_n hx hb dc_MO_take_39 rfl (lv_fd hl rfl) ?_
      refine lv_aload_n hx hb dc_MO_take_40 rfl (lv_fd hl rfl) ?_
      refine gh_get hx hb ht nu_MO hown hK.1 hP hh2 rfl 1 (by decide) (ht _ ww_313) (fun _ h9 => h9) rfl dc_MO_take_41 ?_
      refine lv_iload_n hx hb dc_MO_take_44 rfl (lv_fd hl rfl) ?_
      refine gh_iald hx hb hK.1 hP 0 hfm2' rfl rfl (show n < cap by omega) (by omega) (va_up_self _ _ _) dc_MO_take_45 ?_
      refine gn_ge (tgt := 73) hx hb (by omega) (by omega) dc_MO_take_46 (by decide) (fun _ => ?_) (fun q => absurd q (by omega))
      have h3 := h.setRow (o := n) (r' := (row n).eraseIdx j) (M' := M2) (fun b t y hy h3 h8 => hc2.keep (hc1.keep hy h3) h8) ⟨_, hfm2', by rw [va_up_self, hle], fun k hk1 hk2 => by rw [va_up_ne _ _ hk1]; exact hfm2 k hk2⟩
        ⟨cc9, _, h2, hc4, hc6, by omega, by omega, fun q x hq => by
          rw [List.getElem?_eraseIdx] at hq
          by_cases q1 : q < j
          · rw [if_pos q1] at hq
            rw [if_neg (by omega)]
            exact hfl q x hq
          · rw [if_neg q1] at hq
            have := (List.getElem?_eq_some_iff.mp hq).1
            rw [if_pos (by omega)]
            exact hfl (q + 1) x hq⟩
        (fun x hx q hq => h.2.2.2.2.2.2.2.2.2.1 n hn x (List.mem_of_mem_eraseIdx hx) q hq)
      have hag1 : ∀ k ∈ V.2.1, va_up row n ((row n).eraseIdx j) k = va_up V.2.2.2 n ((V.2.2.2 n).eraseIdx j) k := ag_up hag (by rw [hrT])
      obtain ⟨p1, p2⟩ := st_pre (root := V.2.2.1) hT hag1 (rw_in hI.1.2.2.1 (fun q hq => by
          obtain ⟨y, hy, hyq⟩ := List.mem_filterMap.mp hq
          exact hI.1.2.2.1 n hnT q (List.mem_filterMap.mpr ⟨y, List.mem_of_mem_eraseIdx hy, hyq⟩))) (rw_len hI.2.2.2.1 (by have := hI.2.2.2.1 n; omega)) (by omega)
      refine lv_aload_n hx hb dc_MO_take_73 rfl (lv_fd hl rfl) ?_
      refine gk_cv (gk_rV F (b := h0) (As := []) (rest := []) (ct_MO_settle l E _ _ h3 p1 p2) ww_359 ww_361 ws_MO_settle ww_5 ww_362 rfl rfl ⟨by decide, by decide, by show _ = some 0; decide +kernel⟩ ⟨Nat.le_of_ble_eq_true rfl, Nat.le_of_ble_eq_true rfl⟩ (gh_recv hK.1 hP h3.1 rfl) hK hZ hP hS hA hl.1 rfl (Nat.le_of_ble_eq_true rfl) dc_MO_take_74 ⟨Nat.le_of_ble_eq_true rfl, Nat.le_of_ble_eq_true rfl⟩) hP hS hA (fun M4 H locs h4 hP hS => ?_)
      obtain ⟨ex', hol', w', h4, hT2⟩ := h4
      rw [hT] at hT2
      have hV2 := rs_V_of h4 hT2 hag1
      refine lv_aload_n hx hb dc_MO_take_77 rfl (lv_fd hl rfl) ?_
      refine gh_get hx hb ht nu_MO hown hK.1 hP h4.1 rfl 6 (by decide) (ht _ ww_318) (fun _ h9 => h9) rfl dc_MO_take_78 ?_
      refine gk_ei hx hb hr hlk hP hS dc_MO_take_81 ⟨?_, by rw [ee]; exact hV2⟩
      rw [ee, hT2, sv_congr hag1]
      rfl
    | succ d ih =>
      intro i M2 H locs ls hid hji hl hP hS h2 hc2
      have hh2 := hc2.keep hh1 (by omega)
      have hfm2' := hc2.keep hfm1 (by omega)
      have hfi3 := hc2.keep hfi1 (by omega)
      refine lv_iload_n hx hb dc_MO_take_39 rfl (lv_fd hl rfl) ?_
      refine lv_aload_n hx hb dc_MO_take_40 rfl (lv_fd hl rfl) ?_
      refine gh_get hx hb ht nu_MO hown hK.1 hP hh2 rfl 1 (by decide) (ht _ ww_313) (fun _ h9 => h9) rfl dc_MO_take_41 ?_
      refine lv_iload_n hx hb dc_MO_take_44 rfl (lv_fd hl rfl) ?_
      refine gh_iald hx hb hK.1 hP 0 hfm2' rfl rfl (show n < cap by omega) (by omega) (va_up_self _ _ _) dc_MO_take_45 ?_
      refine gn_ge (tgt := 73) hx hb (by omega) (by omega) dc_MO_take_46 (by decide) (fun q => absurd q (by omega)) (fun _ => ?_)
      refine lv_aload_n hx hb dc_MO_take_49 rfl (lv_fd hl rfl) ?_
      refine gh_get hx hb ht nu_MO hown hK.1 hP hh2 rfl 0 (by decide) (ht _ ww_312) (fun _ h9 => h9) rfl dc_MO_take_50 ?_
      refine lv_iload_n hx hb dc_MO_take_53 rfl (lv_fd hl rfl) ?_
      refine gh_aald (v := .ref (G.1 n)) hx hb hK.1 hP 4 hfi3 rfl rfl rfl (show n < cap by omega) (by omega) (by rw [hfi2 n hn]; rfl) dc_MO_take_54 ?_
      refine lv_iload_n hx hb dc_MO_take_55 rfl (lv_fd hl rfl) ?_
      refine lv_aload_n hx hb dc_MO_take_56 rfl (lv_fd hl rfl) ?_
      refine gh_get hx hb ht nu_MO hown hK.1 hP hh2 rfl 0 (by decide) (ht _ ww_312) (fun _ h9 => h9) rfl dc_MO_take_57 ?_
      refine lv_iload_n hx hb dc_MO_take_60 rfl (lv_fd hl rfl) ?_
      refine gh_aald (v := .ref (G.1 n)) hx hb hK.1 hP 4 hfi3 rfl rfl rfl (show n < cap by omega) (by omega) (by rw [hfi2 n hn]; rfl) dc_MO_take_61 ?_
      refine lv_iload_n hx hb dc_MO_take_62 rfl (lv_fd hl rfl) ?_
      refine lv_iconst (v := nI 1) hx hb dc_MO_take_63 (by decide) ?_
      refine lv_iadd hx hb dc_MO_take_64 ?_
      refine gh_topi (nI_add i 1) ?_
      refine gh_lald hx hb hK.1 hP 1 h2 rfl rfl (show i + 1 < cc9 by omega) (by omega) (if_neg (by omega)) dc_MO_take_65 ?_
      refine gm_last hx hb hK.1 hP hS 1 h2 rfl rfl (show i < cc9 by omega) (by omega) dc_MO_take_66 (fun H locs hP hS => ?_)
      refine lv_iinc (k := 0) (v := nI (i + 1)) hx hb dc_MO_take_67 hl rfl (gh_inc i) (by decide) rfl (fun ls hl => ?_)
      refine lv_goto (tgt := 39) hx hb dc_MO_take_70 (by decide) ?_
      refine ih (i + 1) _ H locs ls (by omega) (by omega) hl hP hS ?_ (hc2.trans (gh_ch.up h2))
      rw [gh_up_self]
      congr 7
      funext p
      by_cases e1 : p = i
      · subst e1
        rw [va_up_self, if_pos (by omega)]
      · rw [va_up_ne _ _ e1]
        by_cases e2 : j ≤ p ∧ p < i
        · rw [if_pos e2, if_pos (by omega)]
        · rw [if_neg e2, if_neg (by omega)]
  exact loop ((row n).length - 1 - j) j M1 H locs ls (by omega) (Nat.le_refl _) hl hP hS (by rw [hrw1]; congr 7; funext p; rw [if_neg (by omega)]) (gh_ch.rf _ _)
