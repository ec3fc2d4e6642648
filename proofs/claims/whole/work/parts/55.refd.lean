set_option maxHeartbeats 4000000 in
set_option maxRecDepth 100000 in
theorem ct_MO_held (l : Launch) (E : gk_E) (M : gh_M) (sz : Nat) {h0 N : Nat} {V : vv_V} (hV : rs_V E M h0 V) (hI : vv_I N V) (hN : N ≤ 512) (k : Int32) : Met l yn_MO_held (.code yn_MO_held cd_MO_held 2 (some FieldType.int) :: bw_L) { frames := 1, cells := 0, slots := 0, locals := 24 } (gk_Pre E [.ref h0, .int k] M sz) (vp_Si (fun r => r = vq_held V k)) 0 0 (fun _ => False) := by
  refine gk_met rfl (Nat.le_of_ble_eq_true rfl) ?_
  intro p e s m below meth c F hsz hP hK hZ ls hl
  subst hsz
  have hx := F.1
  have hb := F.2.1
  have hr := F.2.2.1
  have hml := F.2.2.2.1
  have hown : s.vm.findClass "ThingHeapModel" = some m.cls := F.2.2.2.2.1
  have hlk := F.2.2.2.2.2.1
  have hnm := F.2.2.2.2.2.2.1
  have ht := fun (w : Cond) (h : w ∈ bw_L) => F.2.2.2.2.2.2.2 w (List.mem_cons_of_mem _ h)
  have hA : ∀ q, s.heap.size ≤ q → gh_A M s.heap.size q := fun q h => Or.inr h
  have hS : va_S (gh_A M s.heap.size) s.heap s.heap [] := va_S.rf
  have hl : lv_has ls 2 [(0, .ref h0), (1, .int k)] := hl
  have hV0 := hV
  obtain ⟨G, cap, ex, hol, w, row, h, hT, hag⟩ := hV
  have hcb := h.2.2.2.2.2.2.2.2.2.2
  have hTl := vv_len hI
  have hmN := hI.2.2.2.2
  have hTm : ∀ k ∈ V.2.1, k < 2 ^ 31 := fun k hk => by have := hI.2.2.1 k hk; omega
  have hin : ∀ n, n ∈ V.2.1 ↔ n < V.1 ∧ ex n = true := fun n => by rw [← hT, List.mem_filter, List.mem_range]
  refine lv_iload_n hx hb dc_MO_held_0 rfl (lv_fd hl rfl) ?_
  refine lv_iconst (v := nI 0) hx hb dc_MO_held_1 (by decide) ?_
  refine lv_bipush (v := nI 15) hx hb dc_MO_held_2 (by decide) ?_
  refine gk_si (gk_rS F (As := [.int k, .int (nI 0), .int (nI 15)]) (rest := []) (ct_MO_in l E M _ k (n := 16) (by decide) (by omega)) ww_342 ww_343 ww_5 ww_344 rfl rfl ⟨by decide, by decide, by show _ = some 3; decide +kernel⟩ ⟨Nat.le_of_ble_eq_true rfl, Nat.le_of_ble_eq_true rfl⟩ hK hZ hP hS hA hl.1 rfl (Nat.le_of_ble_eq_true rfl) dc_MO_held_4 ⟨Nat.le_refl _, Nat.le_refl _⟩) (fun r hr1 => ?_)
  rcases hr1 with ⟨rfl, j, hj, rfl⟩ | ⟨rfl, hno⟩
  · have hsf : sf_T (List.range 16) (nI j) = some j := sf_rg (by decide) hj rfl
    refine lv_if_ne (tgt := 12) hx hb dc_MO_held_7 (by decide) (fun _ => ?_) (fun q => absurd q (by decide))
    obtain ⟨fr, hfr, hfr2⟩ := h.2.2.2.2.2.2.1
    cases hv : V.2.2.1 j with
    | none =>
      refine lv_aload_n hx hb dc_MO_held_12 rfl (lv_fd hl rfl) ?_
      refine gh_get hx hb ht nu_MO hown hK.1 hP h.1 rfl 7 (by decide) (ht _ ww_319) (fun _ h9 => h9) rfl dc_MO_held_13 ?_
      refine lv_iload_n hx hb dc_MO_held_16 rfl (lv_fd hl rfl) ?_
      refine gh_iald hx hb hK.1 hP 0 hfr rfl rfl hj (by omega) ((hfr2 j hj).trans (congrArg rt_v hv)) dc_MO_held_17 ?_
      refine lv_if_ge (tgt := 26) hx hb dc_MO_held_18 (by decide) (fun q => absurd q (by decide)) (fun _ => ?_)
      refine lv_bipush (v := (-2)) hx hb dc_MO_held_21 (by decide) ?_
      refine lv_goto (tgt := 32) hx hb dc_MO_held_23 (by decide) ?_
      exact W.iret hx hb hr (fun t ht _ => ⟨_, rfl, by unfold vq_held; rw [hsf]; dsimp only; rw [hv], ht⟩) (fun q h => by cases h) dc_MO_held_32
    | some n =>
      have hn := h.2.2.2.2.2.2.2.2.1 j hj n hv
      refine lv_aload_n hx hb dc_MO_held_12 rfl (lv_fd hl rfl) ?_
      refine gh_get hx hb ht nu_MO hown hK.1 hP h.1 rfl 7 (by decide) (ht _ ww_319) (fun _ h9 => h9) rfl dc_MO_held_13 ?_
      refine lv_iload_n hx hb dc_MO_held_16 rfl (lv_fd hl rfl) ?_
      refine gh_iald hx hb hK.1 hP 0 hfr rfl rfl hj (by omega) ((hfr2 j hj).trans (congrArg rt_v hv)) dc_MO_held_17 ?_
      refine lv_if_ge (tgt := 26) hx hb dc_MO_held_18 (by decide) (fun _ => ?_) (fun q => absurd (nI_pos' (n := n) (by omega)) q)
      refine lv_aload_n hx hb dc_MO_held_26 rfl (lv_fd hl rfl) ?_
      refine gh_get hx hb ht nu_MO hown hK.1 hP h.1 rfl 7 (by decide) (ht _ ww_319) (fun _ h9 => h9) rfl dc_MO_held_27 ?_
      refine lv_iload_n hx hb dc_MO_held_30 rfl (lv_fd hl rfl) ?_
      refine gh_iald hx hb hK.1 hP 0 hfr rfl rfl hj (by omega) ((hfr2 j hj).trans (congrArg rt_v hv)) dc_MO_held_31 ?_
      exact W.iret hx hb hr (fun t ht _ => ⟨_, rfl, by unfold vq_held; rw [hsf]; dsimp only; rw [hv]; rfl, ht⟩) (fun q h => by cases h) dc_MO_held_32
  · refine lv_if_ne (tgt := 12) hx hb dc_MO_held_7 (by decide) (fun q => absurd rfl q) (fun _ => ?_)
    refine lv_iconst (v := (-1)) hx hb dc_MO_held_10 (by decide) ?_
    exact W.iret hx hb hr (fun t ht _ => ⟨_, rfl, by unfold vq_held; rw [sf_rn hno], ht⟩) (fun q h => by cases h) dc_MO_held_11
set_option maxHeartbeats 4000000 in
set_option maxRecDepth 100000 in
theorem ct_MO_items (l : Launch) (E : gk_E) (M : gh_M) (sz : Nat) {h0 N : Nat} {V : vv_V} (hV : rs_V E M h0 V) (hI : vv_I N V) (hN : N ≤ 512) (k : Int32) : Met l yn_MO_items (.code yn_MO_items cd_MO_items 2 (some FieldType.int) :: bw_L) { frames := 2, cells := 0, slots := 0, locals := 50 } (gk_Pre E [.ref h0, .int k] M sz) (vp_Si (fun r => r = vq_items V k)) 0 0 (fun _ => False) := by
  refine gk_met rfl (Nat.le_of_ble_eq_true rfl) ?_
  intro p e s m below meth c F hsz hP hK hZ ls hl
  subst hsz
  have hx := F.1
  have hb := F.2.1
  have hr := F.2.2.1
  have hml := F.2.2.2.1
  have hown : s.vm.findClass "ThingHeapModel" = some m.cls := F.2.2.2.2.1
  have hlk := F.2.2.2.2.2.1
  have hnm := F.2.2.2.2.2.2.1
  have ht := fun (w : Cond) (h : w ∈ bw_L) => F.2.2.2.2.2.2.2 w (List.mem_cons_of_mem _ h)
  have hA : ∀ q, s.heap.size ≤ q → gh_A M s.heap.size q := fun q h => Or.inr h
  have hS : va_S (gh_A M s.heap.size) s.heap s.heap [] := va_S.rf
  have hl : lv_has ls 2 [(0, .ref h0), (1, .int k)] := hl
  have hV0 := hV
  obtain ⟨G, cap, ex, hol, w, row, h, hT, hag⟩ := hV
  have hcb := h.2.2.2.2.2.2.2.2.2.2
  have hTl := vv_len hI
  have hmN := hI.2.2.2.2
  have hTm : ∀ k ∈ V.2.1, k < 2 ^ 31 := fun k hk => by have := hI.2.2.1 k hk; omega
  have hin : ∀ n, n ∈ V.2.1 ↔ n < V.1 ∧ ex n = true := fun n => by rw [← hT, List.mem_filter, List.mem_range]
  refine lv_aload_n hx hb dc_MO_items_0 rfl (lv_fd hl rfl) ?_
  refine lv_iload_n hx hb dc_MO_items_1 rfl (lv_fd hl rfl) ?_
  refine gk_si (gk_rV F (b := h0) (As := [.int k]) (rest := []) (ct_MO_isThere l E _ _ h k) ww_387 ww_389 ws_MO_isThere ww_5 ww_390 rfl rfl ⟨by decide, by decide, by show _ = some 1; decide +kernel⟩ ⟨Nat.le_of_ble_eq_true rfl, Nat.le_of_ble_eq_true rfl⟩ (gh_recv hK.1 hP h.1 rfl) hK hZ hP hS hA hl.1 rfl (Nat.le_of_ble_eq_true rfl) dc_MO_items_2 ⟨Nat.le_refl _, Nat.le_refl _⟩) (fun r hr1 => ?_)
  rcases hr1 with ⟨rfl, n, hn, hen, rfl⟩ | ⟨rfl, hno⟩
  · have hnT := (hin n).mpr ⟨hn, hen⟩
    have hsf : sf_T V.2.1 (nI n) = some n := sf_of hTm hnT rfl
    obtain ⟨fm, hfm, hfm2⟩ := h.2.2.1
    refine lv_if_eq (tgt := 17) hx hb dc_MO_items_5 (by decide) (fun q => absurd q (by decide)) (fun _ => ?_)
    refine lv_aload_n hx hb dc_MO_items_8 rfl (lv_fd hl rfl) ?_
    refine gh_get hx hb ht nu_MO hown hK.1 hP h.1 rfl 1 (by decide) (ht _ ww_313) (fun _ h9 => h9) rfl dc_MO_items_9 ?_
    refine lv_iload_n hx hb dc_MO_items_12 rfl (lv_fd hl rfl) ?_
    refine gh_iald hx hb hK.1 hP 0 hfm rfl rfl (show n < cap by omega) (by omega) (hfm2 n hn) dc_MO_items_13 ?_
    refine lv_goto (tgt := 19) hx hb dc_MO_items_14 (by decide) ?_
    exact W.iret hx hb hr (fun t ht _ => ⟨_, rfl, by unfold vq_items; rw [hsf]; dsimp only; rw [hag n hnT], ht⟩) (fun q h => by cases h) dc_MO_items_19
  · refine lv_if_eq (tgt := 17) hx hb dc_MO_items_5 (by decide) (fun _ => ?_) (fun q => absurd rfl q)
    refine lv_bipush (v := (-2)) hx hb dc_MO_items_17 (by decide) ?_
    exact W.iret hx hb hr (fun t ht _ => ⟨_, rfl, by unfold vq_items; rw [sf_none (fun n hn => hno n ((hin n).mp hn).1 ((hin n).mp hn).2)], ht⟩) (fun q h => by cases h) dc_MO_items_19
set_option maxHeartbeats 4000000 in
set_option maxRecDepth 100000 in
theorem ct_MO_count1 (l : Launch) (E : gk_E) (M : gh_M) (sz : Nat) {h0 N : Nat} {V : vv_V} (hV : rs_V E M h0 V) (hI : vv_I N V) (hN : N ≤ 512) (k : Int32) : Met l yn_MO_count1 (.code yn_MO_count1 cd_MO_count1 2 (some FieldType.int) :: bw_L) { frames := 0, cells := 0, slots := 0, locals := 0 } (gk_Pre E [.ref h0, .int k] M sz) (vp_Si (fun r => r = vq_count V k)) 0 0 (fun _ => False) := by
  refine gk_met rfl (Nat.le_of_ble_eq_true rfl) ?_
  intro p e s m below meth c F hsz hP hK hZ ls hl
  subst hsz
  have hx := F.1
  have hb := F.2.1
  have hr := F.2.2.1
  have hml := F.2.2.2.1
  have hown : s.vm.findClass "ThingHeapModel" = some m.cls := F.2.2.2.2.1
  have hlk := F.2.2.2.2.2.1
  have hnm := F.2.2.2.2.2.2.1
  have ht := fun (w : Cond) (h : w ∈ bw_L) => F.2.2.2.2.2.2.2 w (List.mem_cons_of_mem _ h)
  have hA : ∀ q, s.heap.size ≤ q → gh_A M s.heap.size q := fun q h => Or.inr h
  have hS : va_S (gh_A M s.heap.size) s.heap s.heap [] := va_S.rf
  have hl : lv_has ls 2 [(0, .ref h0), (1, .int k)] := hl
  have hV0 := hV
  obtain ⟨G, cap, ex, hol, w, row, h, hT, hag⟩ := hV
  have hcb := h.2.2.2.2.2.2.2.2.2.2
  have hTl := vv_len hI
  have hmN := hI.2.2.2.2
  have hTm : ∀ k ∈ V.2.1, k < 2 ^ 31 := fun k hk => by have := hI.2.2.1 k hk; omega
  have hin : ∀ n, n ∈ V.2.1 ↔ n < V.1 ∧ ex n = true := fun n => by rw [← hT, List.mem_filter, List.mem_range]
  refine lv_iload_n hx hb dc_MO_count1_0 rfl (lv_fd hl rfl) ?_
  refine lv_if_ne (tgt := 11) hx hb dc_MO_count1_1 (by decide) (fun hk0 => ?_) (fun hk0 => ?_)
  · refine lv_iload_n hx hb dc_MO_count1_11 rfl (lv_fd hl rfl) ?_
    refine lv_iconst (v := nI 1) hx hb dc_MO_count1_12 (by decide) ?_
    refine lv_icmp_ne (tgt := 23) hx hb dc_MO_count1_13 (by decide) (fun hk1 => ?_) (fun hk1 => ?_)
    · refine lv_iconst (v := (-1)) hx hb dc_MO_count1_23 (by decide) ?_
      exact W.iret hx hb hr (fun t ht _ => ⟨_, rfl, by unfold vq_count; rw [if_neg hk0, if_neg (fun q => hk1 (by rw [q]; decide))], ht⟩) (fun q h => by cases h) dc_MO_count1_24
    · refine lv_aload_n hx hb dc_MO_count1_16 rfl (lv_fd hl rfl) ?_
      refine gh_get hx hb ht nu_MO hown hK.1 hP h.1 rfl 5 (by decide) (ht _ ww_317) (fun _ h9 => h9) rfl dc_MO_count1_17 ?_
      refine lv_goto (tgt := 24) hx hb dc_MO_count1_20 (by decide) ?_
      exact W.iret hx hb hr (fun t ht _ => ⟨_, rfl, by unfold vq_count; rw [if_neg hk0, if_pos (by rw [hk1]; decide)], ht⟩) (fun q h => by cases h) dc_MO_count1_24
  · refine lv_aload_n hx hb dc_MO_count1_4 rfl (lv_fd hl rfl) ?_
    refine gh_get hx hb ht nu_MO hown hK.1 hP h.1 rfl 6 (by decide) (ht _ ww_318) (fun _ h9 => h9) rfl dc_MO_count1_5 ?_
    refine lv_goto (tgt := 24) hx hb dc_MO_count1_8 (by decide) ?_
    exact W.iret hx hb hr (fun t ht _ => ⟨_, rfl, by unfold vq_count; rw [if_pos hk0, hT], ht⟩) (fun q h => by cases h) dc_MO_count1_24
set_option maxHeartbeats 4000000 in
set_option maxRecDepth 100000 in
theorem ct_MO_item (l : Launch) (E : gk_E) (M : gh_M) (sz : Nat) {h0 N : Nat} {V : vv_V} (hV : rs_V E M h0 V) (hI : vv_I N V) (hN : N ≤ 512) (k j0 : Int32) : Met l yn_MO_item (.code yn_MO_item cd_MO_item 3 (some FieldType.long) :: bw_L) { frames := 2, cells := 0, slots := 0, locals := 50 } (gk_Pre E [.ref h0, .int k, .int j0] M sz) (vp_Sl (fun r => r = vq_item V k j0)) 0 0 (fun _ => False) := by
  refine gk_met rfl (Nat.le_of_ble_eq_true rfl) ?_
  intro p e s m below meth c F hsz hP hK hZ ls hl
  subst hsz
  have hx := F.1
  have hb := F.2.1
  have hr := F.2.2.1
  have hml := F.2.2.2.1
  have hown : s.vm.findClass "ThingHeapModel" = some m.cls := F.2.2.2.2.1
  have hlk := F.2.2.2.2.2.1
  have hnm := F.2.2.2.2.2.2.1
  have ht := fun (w : Cond) (h : w ∈ bw_L) => F.2.2.2.2.2.2.2 w (List.mem_cons_of_mem _ h)
  have hA : ∀ q, s.heap.size ≤ q → gh_A M s.heap.size q := fun q h => Or.inr h
  have hS : va_S (gh_A M s.heap.size) s.heap s.heap [] := va_S.rf
  have hl : lv_has ls 3 [(0, .ref h0), (1, .int k), (2, .int j0)] := hl
  have hV0 := hV
  obtain ⟨G, cap, ex, hol, w, row, h, hT, hag⟩ := hV
  have hcb := h.2.2.2.2.2.2.2.2.2.2
  have hTl := vv_len hI
  have hmN := hI.2.2.2.2
  have hTm : ∀ k ∈ V.2.1, k < 2 ^ 31 := fun k hk => by have := hI.2.2.1 k hk; omega
  have hin : ∀ n, n ∈ V.2.1 ↔ n < V.1 ∧ ex n = true := fun n => by rw [← hT, List.mem_filter, List.mem_range]
  have no : ∀ ls, vq_item V k j0 = 2199023255552 → W p l e ({ frames := 2, cells := 0, slots := 0, locals := 50 } : Room) s m ([.ref h0, .int k, .int j0] : List Value).toArray below meth c s.heap [] 0 0 (MQ below (vp_Sl (fun r => r = vq_item V k j0)) ([.ref h0, .int k, .int j0] : List Value).toArray s 0 0 (fun _ => False)) (F0 m 35 ls []) := by
    intro ls hno
    refine lv_ldc2 hx hb hown (ht _ ww_423) dc_MO_item_35 ?_
    exact W.lret hx hb hr (fun t ht _ => ⟨_, rfl, hno.symm, ht⟩) (fun q h => by cases h) dc_MO_item_38
  refine lv_aload_n hx hb dc_MO_item_0 rfl (lv_fd hl rfl) ?_
  refine lv_iload_n hx hb dc_MO_item_1 rfl (lv_fd hl rfl) ?_
  refine gk_si (gk_rV F (b := h0) (As := [.int k]) (rest := []) (ct_MO_isThere l E _ _ h k) ww_387 ww_389 ws_MO_isThere ww_5 ww_390 rfl rfl ⟨by decide, by decide, by show _ = some 1; decide +kernel⟩ ⟨Nat.le_of_ble_eq_true rfl, Nat.le_of_ble_eq_true rfl⟩ (gh_recv hK.1 hP h.1 rfl) hK hZ hP hS hA hl.1 rfl (Nat.le_of_ble_eq_true rfl) dc_MO_item_2 ⟨Nat.le_refl _, Nat.le_refl _⟩) (fun r hr1 => ?_)
  rcases hr1 with ⟨rfl, n, hn, hen, rfl⟩ | ⟨rfl, hno⟩
  rotate_left
  · refine lv_if_eq (tgt := 35) hx hb dc_MO_item_5 (by decide) (fun _ => ?_) (fun q => absurd rfl q)
    exact no ls (by unfold vq_item; rw [sf_none (fun n hn => hno n ((hin n).mp hn).1 ((hin n).mp hn).2)])
  have hnT := (hin n).mpr ⟨hn, hen⟩
  have hsf : sf_T V.2.1 (nI n) = some n := sf_of hTm hnT rfl
  obtain ⟨fm, hfm, hfm2⟩ := h.2.2.1
  obtain ⟨fi, hfi, hfi2, -⟩ := h.2.1
  obtain ⟨cc9, fl, hrw, hc4, hc6, hrl, hr3, hfl⟩ := h.2.2.2.2.2.2.2.1 n hn
  refine lv_if_eq (tgt := 35) hx hb dc_MO_item_5 (by decide) (fun q => absurd q (by decide)) (fun _ => ?_)
  refine lv_iload_n hx hb dc_MO_item_8 rfl (lv_fd hl rfl) ?_
  refine lv_iconst (v := nI 0) hx hb dc_MO_item_9 (by decide) ?_
  refine lv_aload_n hx hb dc_MO_item_10 rfl (lv_fd hl rfl) ?_
  refine gh_get hx hb ht nu_MO hown hK.1 hP h.1 rfl 1 (by decide) (ht _ ww_313) (fun _ h9 => h9) rfl dc_MO_item_11 ?_
  refine lv_iload_n hx hb dc_MO_item_14 rfl (lv_fd hl rfl) ?_
  refine gh_iald hx hb hK.1 hP 0 hfm rfl rfl (show n < cap by omega) (by omega) (hfm2 n hn) dc_MO_item_15 ?_
  refine lv_iconst (v := nI 1) hx hb dc_MO_item_16 (by decide) ?_
  refine lv_isub hx hb dc_MO_item_17 ?_
  refine gk_si (gk_rS F (As := [.int j0, .int (nI 0), .int (nI (row n).length - nI 1)]) (rest := []) (ct_MO_in l E M _ j0 (n := (row n).length) rfl (by omega)) ww_342 ww_343 ww_5 ww_344 rfl rfl ⟨by decide, by decide, by show _ = some 3; decide +kernel⟩ ⟨Nat.le_of_ble_eq_true rfl, Nat.le_of_ble_eq_true rfl⟩ hK hZ hP hS hA hl.1 rfl (Nat.le_of_ble_eq_true rfl) dc_MO_item_18 ⟨Nat.le_refl _, Nat.le_refl _⟩) (fun r hr1 => ?_)
  rw [hag n hnT] at hr1
  rcases hr1 with ⟨rfl, j, hj, rfl⟩ | ⟨rfl, hno⟩
  · refine lv_if_eq (tgt := 35) hx hb dc_MO_item_21 (by decide) (fun q => absurd q (by decide)) (fun _ => ?_)
    have hrT := hag n hnT
    have hsi : sf_T (List.range (V.2.2.2 n).length) (nI j) = some j := sf_rg (by have := hI.2.2.2.1 n; omega) hj rfl
    obtain ⟨x, hxj⟩ : ∃ x, (V.2.2.2 n)[j]? = some x := ⟨(V.2.2.2 n)[j]'hj, List.getElem?_eq_getElem hj⟩
    have hfx := hfl j x (by rw [hrT]; exact hxj)
    have hjc : j < cc9 := by rw [hrT] at hrl; omega
    refine lv_aload_n hx hb dc_MO_item_24 rfl (lv_fd hl rfl) ?_
    refine gh_get hx hb ht nu_MO hown hK.1 hP h.1 rfl 0 (by decide) (ht _ ww_312) (fun _ h9 => h9) rfl dc_MO_item_25 ?_
    refine lv_iload_n hx hb dc_MO_item_28 rfl (lv_fd hl rfl) ?_
    refine gh_aald (v := .ref (G.1 n)) hx hb hK.1 hP 4 hfi rfl rfl rfl (show n < cap by omega) (by omega) (by rw [hfi2 n hn]; rfl) dc_MO_item_29 ?_
    refine lv_iload_n hx hb dc_MO_item_30 rfl (lv_fd hl rfl) ?_
    refine gh_lald hx hb hK.1 hP 1 hrw rfl rfl hjc (by omega) hfx dc_MO_item_31 ?_
    refine lv_goto (tgt := 38) hx hb dc_MO_item_32 (by decide) ?_
    refine W.lret hx hb hr (fun t ht _ => ⟨_, rfl, ?_, ht⟩) (fun q h => by cases h) dc_MO_item_38
    unfold vq_item
    rw [hsf]
    dsimp only
    rw [hsi]
    dsimp only
    rw [List.getD_eq_getElem?_getD, hxj]
    rfl
  · refine lv_if_eq (tgt := 35) hx hb dc_MO_item_21 (by decide) (fun _ => ?_) (fun q => absurd rfl q)
    exact no ls (by unfold vq_item; rw [hsf]; dsimp only; rw [sf_rn hno])
set_option maxHeartbeats 4000000 in
set_option maxRecDepth 100000 in
theorem ct_MO_holders (l : Launch) (E : gk_E) (M : gh_M) (sz : Nat) {h0 N : Nat} {V : vv_V} (hV : rs_V E M h0 V) (hI : vv_I N V) (hN : N ≤ 512) (k : Int32) : Met l yn_MO_holders (.code yn_MO_holders cd_MO_holders 2 (some FieldType.int) :: bw_L) { frames := 3, cells := 0, slots := 0, locals := 90 } (gk_Pre E [.ref h0, .int k] M sz) (va_Qi (fun r M' => r = vq_holders V k ∧ rs_V E M' h0 V) (gk_B E M sz) (gh_A M sz)) 0 0 (gh_A M sz) := by
  refine gk_met rfl (Nat.le_of_ble_eq_true rfl) ?_
  intro p e s m below meth c F hsz hP hK hZ ls hl
  subst hsz
  have hx := F.1
  have hb := F.2.1
  have hr := F.2.2.1
  have hml := F.2.2.2.1
  have hown : s.vm.findClass "ThingHeapModel" = some m.cls := F.2.2.2.2.1
  have hlk := F.2.2.2.2.2.1
  have hnm := F.2.2.2.2.2.2.1
  have ht := fun (w : Cond) (h : w ∈ bw_L) => F.2.2.2.2.2.2.2 w (List.mem_cons_of_mem _ h)
  have hA : ∀ q, s.heap.size ≤ q → gh_A M s.heap.size q := fun q h => Or.inr h
  have hS : va_S (gh_A M s.heap.size) s.heap s.heap [] := va_S.rf
  have hl : lv_has ls 2 [(0, .ref h0), (1, .int k)] := hl
  have hV0 := hV
  obtain ⟨G, cap, ex, hol, w, row, h, hT, hag⟩ := hV
  have hcb := h.2.2.2.2.2.2.2.2.2.2
  have hTl := vv_len hI
  have hmN := hI.2.2.2.2
  have hTm : ∀ k ∈ V.2.1, k < 2 ^ 31 := fun k hk => by have := hI.2.2.1 k hk; omega
  have hin : ∀ n, n ∈ V.2.1 ↔ n < V.1 ∧ ex n = true := fun n => by rw [← hT, List.mem_filter, List.mem_range]
  refine lv_aload_n hx hb dc_MO_holders_0 rfl (lv_fd hl rfl) ?_
  refine lv_iload_n hx hb dc_MO_holders_1 rfl (lv_fd hl rfl) ?_
  refine gk_si (gk_rV F (b := h0) (As := [.int k]) (rest := []) (ct_MO_isThere l E _ _ h k) ww_387 ww_389 ws_MO_isThere ww_5 ww_390 rfl rfl ⟨by decide, by decide, by show _ = some 1; decide +kernel⟩ ⟨Nat.le_of_ble_eq_true rfl, Nat.le_of_ble_eq_true rfl⟩ (gh_recv hK.1 hP h.1 rfl) hK hZ hP hS hA hl.1 rfl (Nat.le_of_ble_eq_true rfl) dc_MO_holders_2 ⟨Nat.le_refl _, Nat.le_refl _⟩) (fun r hr1 => ?_)
  rcases hr1 with ⟨rfl, n, hn, hen, rfl⟩ | ⟨rfl, hno⟩
  · have hnT := (hin n).mpr ⟨hn, hen⟩
    have hsf : sf_T V.2.1 (nI n) = some n := sf_of hTm hnT rfl
    refine lv_if_ne (tgt := 11) hx hb dc_MO_holders_5 (by decide) (fun _ => ?_) (fun q => absurd q (by decide))
    refine lv_aload_n hx hb dc_MO_holders_11 rfl (lv_fd hl rfl) ?_
    refine gk_cv (gk_rV F (b := h0) (As := []) (rest := []) (ct_MO_count0 l E _ _ h) ww_363 ww_365 ws_MO_count0 ww_5 ww_366 rfl rfl ⟨by decide, by decide, by show _ = some 0; decide +kernel⟩ ⟨Nat.le_of_ble_eq_true rfl, Nat.le_of_ble_eq_true rfl⟩ (gh_recv hK.1 hP h.1 rfl) hK hZ hP hS hA hl.1 rfl (Nat.le_of_ble_eq_true rfl) dc_MO_holders_12 ⟨Nat.le_of_ble_eq_true rfl, Nat.le_of_ble_eq_true rfl⟩) hP hS hA (fun M1 H locs h1 hP hS => ?_)
    obtain ⟨hol', h1, hc⟩ := h1
    refine lv_aload_n hx hb dc_MO_holders_15 rfl (lv_fd hl rfl) ?_
    refine gh_get hx hb ht nu_MO hown hK.1 hP h1.1 rfl 3 (by decide) (ht _ ww_315) (fun _ h9 => h9) rfl dc_MO_holders_16 ?_
    refine lv_iload_n hx hb dc_MO_holders_19 rfl (lv_fd hl rfl) ?_
    refine gh_iald hx hb hK.1 hP 0 h1.2.2.2.2.1 rfl rfl (show n < cap by omega) (by omega) (hc n hn) dc_MO_holders_20 ?_
    refine gk_ei hx hb hr hlk hP hS dc_MO_holders_21 ⟨?_, G, cap, ex, hol', w, row, h1, hT, hag⟩
    unfold vq_holders
    rw [hsf, hT, hd_congr hag]
  · refine lv_if_ne (tgt := 11) hx hb dc_MO_holders_5 (by decide) (fun q => absurd rfl q) (fun _ => ?_)
    refine lv_bipush (v := (-2)) hx hb dc_MO_holders_8 (by decide) ?_
    exact gk_ei hx hb hr hlk hP hS dc_MO_holders_10 ⟨by unfold vq_holders; rw [sf_none (fun n hn => hno n ((hin n).mp hn).1 ((hin n).mp hn).2)], hV0⟩
set_option maxHeartbeats 4000000 in
set_option maxRecDepth 100000 in
theorem ct_MO_root (l : Launch) (E : gk_E) (M : gh_M) (sz : Nat) {h0 N : Nat} {V : vv_V} (hV : rs_V E M h0 V) (hI : vv_I N V) (hN : N ≤ 512) (k o : Int32) : Met l yn_MO_root (.code yn_MO_root cd_MO_root 3 (some FieldType.int) :: bw_L) { frames := 4, cells := 0, slots := 0, locals := 120 } (gk_Pre E [.ref h0, .int k, .int o] M sz) (va_Qi (fun r M' => r = (vq_root V k o).1 ∧ rs_V E M' h0 (vq_root V k o).2) (gk_B E M sz) (gh_A M sz)) 0 0 (gh_A M sz) := by
  refine gk_met rfl (Nat.le_of_ble_eq_true rfl) ?_
  intro p e s m below meth c F hsz hP hK hZ ls hl
  subst hsz
  have hx := F.1
  have hb := F.2.1
  have hr := F.2.2.1
  have hml := F.2.2.2.1
  have hown : s.vm.findClass "ThingHeapModel" = some m.cls := F.2.2.2.2.1
  have hlk := F.2.2.2.2.2.1
  have hnm := F.2.2.2.2.2.2.1
  have ht := fun (w : Cond) (h : w ∈ bw_L) => F.2.2.2.2.2.2.2 w (List.mem_cons_of_mem _ h)
  have hA : ∀ q, s.heap.size ≤ q → gh_A M s.heap.size q := fun q h => Or.inr h
  have hS : va_S (gh_A M s.heap.size) s.heap s.heap [] := va_S.rf
  have hl : lv_has ls 3 [(0, .ref h0), (1, .int k), (2, .int o)] := hl
  have hV0 := hV
  obtain ⟨G, cap, ex, hol, w, row, h, hT, hag⟩ := hV
  have hcb := h.2.2.2.2.2.2.2.2.2.2
  have hTl := vv_len hI
  have hmN := hI.2.2.2.2
  have hTm : ∀ k ∈ V.2.1, k < 2 ^ 31 := fun k hk => by have := hI.2.2.1 k hk; omega
  have hin : ∀ n, n ∈ V.2.1 ↔ n < V.1 ∧ ex n = true := fun n => by rw [← hT, List.mem_filter, List.mem_range]
  refine lv_iload_n hx hb dc_MO_root_0 rfl (lv_fd hl rfl) ?_
  refine lv_iconst (v := nI 0) hx hb dc_MO_root_1 (by decide) ?_
  refine lv_bipush (v := nI 15) hx hb dc_MO_root_2 (by decide) ?_
  refine gk_si (gk_rS F (As := [.int k, .int (nI 0), .int (nI 15)]) (rest := []) (ct_MO_in l E M _ k (n := 16) (by decide) (by omega)) ww_342 ww_343 ww_5 ww_344 rfl rfl ⟨by decide, by decide, by show _ = some 3; decide +kernel⟩ ⟨Nat.le_of_ble_eq_true rfl, Nat.le_of_ble_eq_true rfl⟩ hK hZ hP hS hA hl.1 rfl (Nat.le_of_ble_eq_true rfl) dc_MO_root_4 ⟨Nat.le_refl _, Nat.le_refl _⟩) (fun r hr1 => ?_)
  rcases hr1 with ⟨rfl, j, hj, rfl⟩ | ⟨rfl, hno⟩
  rotate_left
  · have e : vq_root V k o = (-1, V) := by unfold vq_root; rw [sf_rn hno]
    refine lv_if_ne (tgt := 12) hx hb dc_MO_root_7 (by decide) (fun q => absurd rfl q) (fun _ => ?_)
    refine lv_iconst (v := (-1)) hx hb dc_MO_root_10 (by decide) ?_
    exact gk_ei hx hb hr hlk hP hS dc_MO_root_11 ⟨by rw [e], by rw [e]; exact hV0⟩
  have hsf : sf_T (List.range 16) (nI j) = some j := sf_rg (by decide) hj rfl
  refine lv_if_ne (tgt := 12) hx hb dc_MO_root_7 (by decide) (fun _ => ?_) (fun q => absurd q (by decide))
  have tail : ∀ (x : Option Nat), (∀ n, x = some n → n ∈ V.2.1) → vq_root V (nI j) o = vq_put V j x → o = rt_v x → W p l e ({ frames := 4, cells := 0, slots := 0, locals := 120 } : Room) s m ([.ref h0, .int (nI j), .int o] : List Value).toArray below meth c s.heap [] 0 0 (MQ below (va_Qi (fun r M' => r = (vq_root V (nI j) o).1 ∧ rs_V E M' h0 (vq_root V (nI j) o).2) (gk_B E M s.heap.size) (gh_A M s.heap.size)) ([.ref h0, .int (nI j), .int o] : List Value).toArray s 0 0 (gh_A M s.heap.size)) (F0 m 28 ls []) := by
    intro x hxT hq hov
    obtain ⟨fr, hfr, hfr2⟩ := h.2.2.2.2.2.2.1
    refine lv_aload_n hx hb dc_MO_root_28 rfl (lv_fd hl rfl) ?_
    refine gh_get hx hb ht nu_MO hown hK.1 hP h.1 rfl 7 (by decide) (ht _ ww_319) (fun _ h9 => h9) rfl dc_MO_root_29 ?_
    refine lv_iload_n hx hb dc_MO_root_32 rfl (lv_fd hl rfl) ?_
    refine lv_iload_n hx hb dc_MO_root_33 rfl (lv_fd hl rfl) ?_
    refine gm_iast hx hb hK.1 hP hS 0 hfr rfl rfl hj (by omega) dc_MO_root_34 (fun H locs hP hS => ?_)
    have h1 := h.upRoot (r := j) hfr hfr2 hov (fun n hn => hI.2.2.1 n (hxT n hn))
    obtain ⟨p1, p2⟩ := st_pre (root := va_up V.2.2.1 j x) hT hag hI.1.2.2.1 hI.2.2.2.1 (by omega)
    refine lv_aload_n hx hb dc_MO_root_35 rfl (lv_fd hl rfl) ?_
    refine gk_cv (gk_rV F (b := h0) (As := []) (rest := []) (ct_MO_settle l E _ _ h1 p1 p2) ww_359 ww_361 ws_MO_settle ww_5 ww_362 rfl rfl ⟨by decide, by decide, by show _ = some 0; decide +kernel⟩ ⟨Nat.le_of_ble_eq_true rfl, Nat.le_of_ble_eq_true rfl⟩ (gh_recv hK.1 hP h1.1 rfl) hK hZ hP hS hA hl.1 rfl (Nat.le_of_ble_eq_true rfl) dc_MO_root_36 ⟨Nat.le_of_ble_eq_true rfl, Nat.le_of_ble_eq_true rfl⟩) hP hS hA (fun M2 H locs h2 hP hS => ?_)
    obtain ⟨ex', hol', w', h2, hT2⟩ := h2
    rw [hT] at hT2
    have hV2 := rs_V_of h2 hT2 hag
    refine lv_aload_n hx hb dc_MO_root_39 rfl (lv_fd hl rfl) ?_
    refine gh_get hx hb ht nu_MO hown hK.1 hP h2.1 rfl 6 (by decide) (ht _ ww_318) (fun _ h9 => h9) rfl dc_MO_root_40 ?_
    refine gk_ei hx hb hr hlk hP hS dc_MO_root_43 ⟨?_, by rw [hq]; exact hV2⟩
    rw [hq, hT2, sv_congr hag]
    rfl
  refine lv_iload_n hx hb dc_MO_root_12 rfl (lv_fd hl rfl) ?_
  refine lv_iconst (v := (-1)) hx hb dc_MO_root_13 (by decide) ?_
  refine lv_icmp_eq (tgt := 28) hx hb dc_MO_root_14 (by decide) (fun q => ?_) (fun q => ?_)
  · exact tail none (fun n hn => by cases hn) (by unfold vq_root; rw [hsf]; dsimp only; rw [if_pos q]) q
  refine lv_aload_n hx hb dc_MO_root_17 rfl (lv_fd hl rfl) ?_
  refine lv_iload_n hx hb dc_MO_root_18 rfl (lv_fd hl rfl) ?_
  refine gk_si (gk_rV F (b := h0) (As := [.int o]) (rest := []) (ct_MO_isThere l E _ _ h o) ww_387 ww_389 ws_MO_isThere ww_5 ww_390 rfl rfl ⟨by decide, by decide, by show _ = some 1; decide +kernel⟩ ⟨Nat.le_of_ble_eq_true rfl, Nat.le_of_ble_eq_true rfl⟩ (gh_recv hK.1 hP h.1 rfl) hK hZ hP hS hA hl.1 rfl (Nat.le_of_ble_eq_true rfl) dc_MO_root_19 ⟨Nat.le_refl _, Nat.le_refl _⟩) (fun r hr1 => ?_)
  rcases hr1 with ⟨rfl, n, hn, hen, rfl⟩ | ⟨rfl, hno⟩
  · have hnT := (hin n).mpr ⟨hn, hen⟩
    refine lv_if_ne (tgt := 28) hx hb dc_MO_root_22 (by decide) (fun _ => ?_) (fun q => absurd q (by decide))
    exact tail (some n) (fun k hk => by rw [← Option.some.inj hk]; exact hnT) (by unfold vq_root; rw [hsf]; dsimp only; rw [if_neg q, sf_of hTm hnT rfl]) rfl
  · have e : vq_root V (nI j) o = (-2, V) := by unfold vq_root; rw [hsf]; dsimp only; rw [if_neg q, sf_none (fun n hn => hno n ((hin n).mp hn).1 ((hin n).mp hn).2)]
    refine lv_if_ne (tgt := 28) hx hb dc_MO_root_22 (by decide) (fun q => absurd rfl q) (fun _ => ?_)
    refine lv_bipush (v := (-2)) hx hb dc_MO_root_25 (by decide) ?_
    exact gk_ei hx hb hr hlk hP hS dc_MO_root_27 ⟨by rw [e], by rw [e]; exact hV0⟩
