set_option maxHeartbeats 4000000 in
set_option maxRecDepth 100000 in
theorem ct_TH_held (l : Launch) (E : gk_E) (M : gh_M) (sz : Nat) {h0 N : Nat} {V : vv_V} (hV : cs_V E M h0 V) (hI : vv_I N V) (hN : N ≤ 512) (k : Int32) : Met l yn_TH_held (.code yn_TH_held cd_TH_held 3 (some FieldType.int) :: bw_L) { frames := 4, cells := 0, slots := 0, locals := 120 } (gk_Pre E [.ref h0, .int k] M sz) (vp_Si (fun r => r = vq_held V k)) 0 0 (fun _ => False) := by
  refine gk_met rfl (Nat.le_of_ble_eq_true rfl) ?_
  intro p e s m below meth c F hsz hP hK hZ ls hl
  subst hsz
  have hx := F.1
  have hb := F.2.1
  have hr := F.2.2.1
  have hml := F.2.2.2.1
  have hown : s.vm.findClass "ThingHeap" = some m.cls := F.2.2.2.2.1
  have hlk := F.2.2.2.2.2.1
  have hnm := F.2.2.2.2.2.2.1
  have ht := fun (w : Cond) (h : w ∈ bw_L) => F.2.2.2.2.2.2.2 w (List.mem_cons_of_mem _ h)
  have hA : ∀ q, s.heap.size ≤ q → gh_A M s.heap.size q := fun q h => Or.inr h
  have hS : va_S (gh_A M s.heap.size) s.heap s.heap [] := va_S.rf
  have hl : lv_has ls 3 [(0, .ref h0), (1, .int k)] := hl
  obtain ⟨G, cT, cU, cR, hld, rch, h, hcT, hcU, hcR, hhl⟩ := hV
  have hTl := vv_len hI
  have hmN := hI.2.2.2.2
  have hTm : ∀ k ∈ V.2.1, k < 2 ^ 31 := fun k hk => by have := hI.2.2.1 k hk; omega
  refine lv_iload_n hx hb dc_TH_held_0 rfl (lv_fd hl rfl) ?_
  refine gk_si (gk_rS F (As := [.int k]) (rest := []) (ct_TH_isRoot l E _ _ k) ww_70 ww_71 ww_1 ww_72 rfl rfl ⟨by decide, by decide, by show _ = some 1; decide +kernel⟩ ⟨Nat.le_of_ble_eq_true rfl, Nat.le_of_ble_eq_true rfl⟩ hK hZ hP hS hA hl.1 rfl (Nat.le_of_ble_eq_true rfl) dc_TH_held_1 ⟨Nat.le_refl _, Nat.le_refl _⟩) (fun r hr1 => ?_)
  rcases hr1 with ⟨rfl, j, hj, rfl⟩ | ⟨rfl, hno⟩
  · have hsf : sf_T (List.range 16) (nI j) = some j := sf_rg (by decide) hj rfl
    refine lv_if_ne (tgt := 9) hx hb dc_TH_held_4 (by decide) (fun _ => ?_) (fun q => absurd q (by decide))
    obtain ⟨f, hf, hf2⟩ := h.2.1
    refine lv_aload_n hx hb dc_TH_held_9 rfl (lv_fd hl rfl) ?_
    refine gh_get hx hb ht nu_TH hown hK.1 hP h.1 rfl 0 (by decide) (ht _ ww_50) (fun _ h9 => h9) rfl dc_TH_held_10 ?_
    refine lv_iload_n hx hb dc_TH_held_13 rfl (lv_fd hl rfl) ?_
    refine gh_aald (v := va_rf ((V.2.2.1 j).map G.1)) hx hb hK.1 hP 3 hf rfl rfl rfl hj (by decide) (by rw [hf2 j hj]) dc_TH_held_14 ?_
    refine gq_astore_n hx hb dc_TH_held_15 rfl hl (by decide) rfl (fun ls hl => ?_)
    cases hv : V.2.2.1 j with
    | none =>
      rw [hv] at hl
      refine lv_aload_nN hx hb dc_TH_held_16 rfl (lv_fd hl rfl) ?_
      refine lv_ifnonnullN hx hb dc_TH_held_17 ?_
      refine lv_bipush (v := (-2)) hx hb dc_TH_held_20 (by decide) ?_
      refine lv_goto (tgt := 29) hx hb dc_TH_held_22 (by decide) ?_
      exact W.iret hx hb hr (fun t ht _ => ⟨_, rfl, by unfold vq_held; rw [hsf]; dsimp only; rw [hv], ht⟩) (fun q h => by cases h) dc_TH_held_29
    | some n =>
      rw [hv] at hl
      have hn := h.2.2.2.2.2.2.2.2.2.2.1 j hj n hv
      have hth : M (G.1 n) = some (6 + 2 * n, .inr (2, [.int (nI n), .ref (G.2.1 n), .int (hld n), .int (cs_B (rch n))])) := h.2.2.2.2.2.1 n hn
      refine lv_aload_n hx hb dc_TH_held_16 rfl (lv_fd hl rfl) ?_
      refine lv_ifnonnull (tgt := 25) hx hb dc_TH_held_17 (by decide) ?_
      refine lv_aload_n hx hb dc_TH_held_25 rfl (lv_fd hl rfl) ?_
      refine gh_get hx hb ht nu_TG hown hK.1 hP hth rfl 0 (by decide) (ht _ ww_85) (fun _ h9 => h9) rfl dc_TH_held_26 ?_
      exact W.iret hx hb hr (fun t ht _ => ⟨_, rfl, by unfold vq_held; rw [hsf]; dsimp only; rw [hv], ht⟩) (fun q h => by cases h) dc_TH_held_29
  · have hsf : sf_T (List.range 16) k = none := sf_rn hno
    refine lv_if_ne (tgt := 9) hx hb dc_TH_held_4 (by decide) (fun q => absurd rfl q) (fun _ => ?_)
    refine lv_iconst (v := (-1)) hx hb dc_TH_held_7 (by decide) ?_
    exact W.iret hx hb hr (fun t ht _ => ⟨_, rfl, by unfold vq_held; rw [hsf], ht⟩) (fun q h => by cases h) dc_TH_held_8
set_option maxHeartbeats 4000000 in
set_option maxRecDepth 100000 in
theorem ct_TH_holders (l : Launch) (E : gk_E) (M : gh_M) (sz : Nat) {h0 N : Nat} {V : vv_V} (hV : cs_V E M h0 V) (hI : vv_I N V) (hN : N ≤ 512) (k : Int32) : Met l yn_TH_holders (.code yn_TH_holders cd_TH_holders 3 (some FieldType.int) :: bw_L) { frames := 4, cells := 0, slots := 0, locals := 120 } (gk_Pre E [.ref h0, .int k] M sz) (vp_Si (fun r => r = vq_holders V k)) 0 0 (fun _ => False) := by
  refine gk_met rfl (Nat.le_of_ble_eq_true rfl) ?_
  intro p e s m below meth c F hsz hP hK hZ ls hl
  subst hsz
  have hx := F.1
  have hb := F.2.1
  have hr := F.2.2.1
  have hml := F.2.2.2.1
  have hown : s.vm.findClass "ThingHeap" = some m.cls := F.2.2.2.2.1
  have hlk := F.2.2.2.2.2.1
  have hnm := F.2.2.2.2.2.2.1
  have ht := fun (w : Cond) (h : w ∈ bw_L) => F.2.2.2.2.2.2.2 w (List.mem_cons_of_mem _ h)
  have hA : ∀ q, s.heap.size ≤ q → gh_A M s.heap.size q := fun q h => Or.inr h
  have hS : va_S (gh_A M s.heap.size) s.heap s.heap [] := va_S.rf
  have hl : lv_has ls 3 [(0, .ref h0), (1, .int k)] := hl
  obtain ⟨G, cT, cU, cR, hld, rch, h, hcT, hcU, hcR, hhl⟩ := hV
  have hTl := vv_len hI
  have hmN := hI.2.2.2.2
  have hTm : ∀ k ∈ V.2.1, k < 2 ^ 31 := fun k hk => by have := hI.2.2.1 k hk; omega
  refine lv_aload_n hx hb dc_TH_holders_0 rfl (lv_fd hl rfl) ?_
  refine lv_iload_n hx hb dc_TH_holders_1 rfl (lv_fd hl rfl) ?_
  refine gk_sq (gk_rV F (b := h0) (As := [.int k]) (rest := []) (ct_TH_find l E _ _ h k hI.2.1 (by omega)) ww_220 ww_222 ws_TH_find ww_1 ww_223 rfl rfl ⟨by decide, by decide, by show _ = some 1; decide +kernel⟩ ⟨Nat.le_of_ble_eq_true rfl, Nat.le_of_ble_eq_true rfl⟩ (gh_recv hK.1 hP h.1 rfl) hK hZ hP hS hA hl.1 rfl (Nat.le_of_ble_eq_true rfl) dc_TH_holders_2 ⟨Nat.le_refl _, Nat.le_refl _⟩) (fun r hr1 => ?_)
  rcases hr1 with ⟨n, hn, rfl, rfl⟩ | ⟨hno, rfl⟩
  · have hsf : sf_T V.2.1 (nI n) = some n := sf_of hTm hn rfl
    have hnm := h.2.2.2.2.2.2.2.1 n hn
    have hth : M (G.1 n) = some (6 + 2 * n, .inr (2, [.int (nI n), .ref (G.2.1 n), .int (hld n), .int (cs_B (rch n))])) := h.2.2.2.2.2.1 n hnm
    refine lv_astore_n hx hb dc_TH_holders_5 rfl hl (by decide) rfl (fun ls hl => ?_)
    refine lv_aload_n hx hb dc_TH_holders_6 rfl (lv_fd hl rfl) ?_
    refine lv_ifnonnull (tgt := 15) hx hb dc_TH_holders_7 (by decide) ?_
    refine lv_aload_n hx hb dc_TH_holders_15 rfl (lv_fd hl rfl) ?_
    refine gh_get hx hb ht nu_TG hown hK.1 hP hth rfl 2 (by decide) (ht _ ww_89) (fun _ h9 => h9) rfl dc_TH_holders_16 ?_
    exact W.iret hx hb hr (fun t ht _ => ⟨_, rfl, by unfold vq_holders; rw [hsf]; exact hhl n hn, ht⟩) (fun q h => by cases h) dc_TH_holders_19
  · have hsf : sf_T V.2.1 k = none := sf_none hno
    refine lv_astore_nN hx hb dc_TH_holders_5 rfl hl (by decide) rfl (fun ls hl => ?_)
    refine lv_aload_nN hx hb dc_TH_holders_6 rfl (lv_fd hl rfl) ?_
    refine lv_ifnonnullN hx hb dc_TH_holders_7 ?_
    refine lv_bipush (v := (-2)) hx hb dc_TH_holders_10 (by decide) ?_
    refine lv_goto (tgt := 19) hx hb dc_TH_holders_12 (by decide) ?_
    exact W.iret hx hb hr (fun t ht _ => ⟨_, rfl, by unfold vq_holders; rw [hsf], ht⟩) (fun q h => by cases h) dc_TH_holders_19
set_option maxHeartbeats 4000000 in
set_option maxRecDepth 100000 in
theorem ct_TH_items (l : Launch) (E : gk_E) (M : gh_M) (sz : Nat) {h0 N : Nat} {V : vv_V} (hV : cs_V E M h0 V) (hI : vv_I N V) (hN : N ≤ 512) (k : Int32) : Met l yn_TH_items (.code yn_TH_items cd_TH_items 3 (some FieldType.int) :: bw_L) { frames := 4, cells := 0, slots := 0, locals := 120 } (gk_Pre E [.ref h0, .int k] M sz) (vp_Si (fun r => r = vq_items V k)) 0 0 (fun _ => False) := by
  refine gk_met rfl (Nat.le_of_ble_eq_true rfl) ?_
  intro p e s m below meth c F hsz hP hK hZ ls hl
  subst hsz
  have hx := F.1
  have hb := F.2.1
  have hr := F.2.2.1
  have hml := F.2.2.2.1
  have hown : s.vm.findClass "ThingHeap" = some m.cls := F.2.2.2.2.1
  have hlk := F.2.2.2.2.2.1
  have hnm := F.2.2.2.2.2.2.1
  have ht := fun (w : Cond) (h : w ∈ bw_L) => F.2.2.2.2.2.2.2 w (List.mem_cons_of_mem _ h)
  have hA : ∀ q, s.heap.size ≤ q → gh_A M s.heap.size q := fun q h => Or.inr h
  have hS : va_S (gh_A M s.heap.size) s.heap s.heap [] := va_S.rf
  have hl : lv_has ls 3 [(0, .ref h0), (1, .int k)] := hl
  obtain ⟨G, cT, cU, cR, hld, rch, h, hcT, hcU, hcR, hhl⟩ := hV
  have hTl := vv_len hI
  have hmN := hI.2.2.2.2
  have hTm : ∀ k ∈ V.2.1, k < 2 ^ 31 := fun k hk => by have := hI.2.2.1 k hk; omega
  refine lv_aload_n hx hb dc_TH_items_0 rfl (lv_fd hl rfl) ?_
  refine lv_iload_n hx hb dc_TH_items_1 rfl (lv_fd hl rfl) ?_
  refine gk_sq (gk_rV F (b := h0) (As := [.int k]) (rest := []) (ct_TH_find l E _ _ h k hI.2.1 (by omega)) ww_220 ww_222 ws_TH_find ww_1 ww_223 rfl rfl ⟨by decide, by decide, by show _ = some 1; decide +kernel⟩ ⟨Nat.le_of_ble_eq_true rfl, Nat.le_of_ble_eq_true rfl⟩ (gh_recv hK.1 hP h.1 rfl) hK hZ hP hS hA hl.1 rfl (Nat.le_of_ble_eq_true rfl) dc_TH_items_2 ⟨Nat.le_refl _, Nat.le_refl _⟩) (fun r hr1 => ?_)
  rcases hr1 with ⟨n, hn, rfl, rfl⟩ | ⟨hno, rfl⟩
  · have hsf : sf_T V.2.1 (nI n) = some n := sf_of hTm hn rfl
    have hnm := h.2.2.2.2.2.2.2.1 n hn
    have hth : M (G.1 n) = some (6 + 2 * n, .inr (2, [.int (nI n), .ref (G.2.1 n), .int (hld n), .int (cs_B (rch n))])) := h.2.2.2.2.2.1 n hnm
    refine lv_astore_n hx hb dc_TH_items_5 rfl hl (by decide) rfl (fun ls hl => ?_)
    refine lv_aload_n hx hb dc_TH_items_6 rfl (lv_fd hl rfl) ?_
    refine lv_ifnonnull (tgt := 15) hx hb dc_TH_items_7 (by decide) ?_
    obtain ⟨cap, its, hca, hal, hil, hits⟩ := h.2.2.2.2.2.2.1 n hnm
    refine lv_aload_n hx hb dc_TH_items_15 rfl (lv_fd hl rfl) ?_
    refine gh_get hx hb ht nu_TG hown hK.1 hP hth rfl 1 (by decide) (ht _ ww_87) (fun _ h9 => h9) rfl dc_TH_items_16 ?_
    refine gk_si (gk_rV F (b := G.2.1 n) (As := []) (rest := []) (ct_AL_size l E _ _ hal) ww_73 ww_74 ww_75 ww_4 ww_76 rfl rfl ⟨by decide, by decide, by show _ = some 0; decide +kernel⟩ ⟨Nat.le_of_ble_eq_true rfl, Nat.le_of_ble_eq_true rfl⟩ (by obtain ⟨mk, el, hq, -⟩ := hal; exact gh_recv hK.1 hP hq rfl) hK hZ hP hS hA hl.1 rfl (Nat.le_of_ble_eq_true rfl) dc_TH_items_19 ⟨Nat.le_refl _, Nat.le_refl _⟩) (fun r2 hr2 => ?_)
    exact W.iret hx hb hr (fun t ht _ => ⟨_, rfl, by unfold vq_items; rw [hsf, hr2, hil], ht⟩) (fun q h => by cases h) dc_TH_items_22
  · have hsf : sf_T V.2.1 k = none := sf_none hno
    refine lv_astore_nN hx hb dc_TH_items_5 rfl hl (by decide) rfl (fun ls hl => ?_)
    refine lv_aload_nN hx hb dc_TH_items_6 rfl (lv_fd hl rfl) ?_
    refine lv_ifnonnullN hx hb dc_TH_items_7 ?_
    refine lv_bipush (v := (-2)) hx hb dc_TH_items_10 (by decide) ?_
    refine lv_goto (tgt := 22) hx hb dc_TH_items_12 (by decide) ?_
    exact W.iret hx hb hr (fun t ht _ => ⟨_, rfl, by unfold vq_items; rw [hsf], ht⟩) (fun q h => by cases h) dc_TH_items_22
set_option maxHeartbeats 4000000 in
set_option maxRecDepth 100000 in
theorem ct_TH_count1 (l : Launch) (E : gk_E) (M : gh_M) (sz : Nat) {h0 N : Nat} {V : vv_V} (hV : cs_V E M h0 V) (hI : vv_I N V) (hN : N ≤ 512) (k : Int32) : Met l yn_TH_count1 (.code yn_TH_count1 cd_TH_count1 2 (some FieldType.int) :: bw_L) { frames := 1, cells := 0, slots := 0, locals := 24 } (gk_Pre E [.ref h0, .int k] M sz) (vp_Si (fun r => r = vq_count V k)) 0 0 (fun _ => False) := by
  refine gk_met rfl (Nat.le_of_ble_eq_true rfl) ?_
  intro p e s m below meth c F hsz hP hK hZ ls hl
  subst hsz
  have hx := F.1
  have hb := F.2.1
  have hr := F.2.2.1
  have hml := F.2.2.2.1
  have hown : s.vm.findClass "ThingHeap" = some m.cls := F.2.2.2.2.1
  have hlk := F.2.2.2.2.2.1
  have hnm := F.2.2.2.2.2.2.1
  have ht := fun (w : Cond) (h : w ∈ bw_L) => F.2.2.2.2.2.2.2 w (List.mem_cons_of_mem _ h)
  have hA : ∀ q, s.heap.size ≤ q → gh_A M s.heap.size q := fun q h => Or.inr h
  have hS : va_S (gh_A M s.heap.size) s.heap s.heap [] := va_S.rf
  have hl : lv_has ls 2 [(0, .ref h0), (1, .int k)] := hl
  obtain ⟨G, cT, cU, cR, hld, rch, h, hcT, hcU, hcR, hhl⟩ := hV
  have hTl := vv_len hI
  have hmN := hI.2.2.2.2
  have hTm : ∀ k ∈ V.2.1, k < 2 ^ 31 := fun k hk => by have := hI.2.2.1 k hk; omega
  have hmlT : (V.2.1.map G.1).length = V.2.1.length := List.length_map _
  refine lv_iload_n hx hb dc_TH_count1_0 rfl (lv_fd hl rfl) ?_
  by_cases hk0 : k = 0
  · subst hk0
    refine lv_lookup (off := 27) (tgt := 28) hx hb dc_TH_count1_1 (by decide) (by decide) (by decide) ?_
    refine lv_aload_n hx hb dc_TH_count1_28 rfl (lv_fd hl rfl) ?_
    refine gh_get hx hb ht nu_TH hown hK.1 hP h.1 rfl 1 (by decide) (ht _ ww_51) (fun _ h9 => h9) rfl dc_TH_count1_29 ?_
    refine gk_si (gk_rV F (b := G.2.2.2.1) (As := []) (rest := []) (ct_AL_size l E _ _ h.2.2.1) ww_73 ww_74 ww_75 ww_4 ww_76 rfl rfl ⟨by decide, by decide, by show _ = some 0; decide +kernel⟩ ⟨Nat.le_of_ble_eq_true rfl, Nat.le_of_ble_eq_true rfl⟩ (by obtain ⟨mk, el, hq, -⟩ := h.2.2.1; exact gh_recv hK.1 hP hq rfl) hK hZ hP hS hA hl.1 rfl (Nat.le_of_ble_eq_true rfl) dc_TH_count1_32 ⟨Nat.le_refl _, Nat.le_refl _⟩) (fun r2 hr2 => ?_)
    exact W.iret hx hb hr (fun t ht _ => ⟨_, rfl, by unfold vq_count; rw [if_pos rfl, hr2, hmlT], ht⟩) (fun q h => by cases h) dc_TH_count1_35
  · by_cases hk1 : k = 1
    · subst hk1
      refine lv_lookup (off := 35) (tgt := 36) hx hb dc_TH_count1_1 (by decide) (by decide) (by decide) ?_
      refine lv_aload_n hx hb dc_TH_count1_36 rfl (lv_fd hl rfl) ?_
      refine gh_get hx hb ht nu_TH hown hK.1 hP h.1 rfl 4 (by decide) (ht _ ww_54) (fun _ h9 => h9) rfl dc_TH_count1_37 ?_
      exact W.iret hx hb hr (fun t ht _ => ⟨_, rfl, by unfold vq_count; rw [if_neg (by decide), if_pos rfl], ht⟩) (fun q h => by cases h) dc_TH_count1_40
    · have e0 : k.toInt ≠ 0 := fun q => hk0 (Int32.toInt_inj.mp q)
      have e1 : k.toInt ≠ 1 := fun q => hk1 (Int32.toInt_inj.mp q)
      refine lv_lookup (off := 40) (tgt := 41) hx hb dc_TH_count1_1 (by decide) (by simp [Op.lookupswitch.offset, e0, e1, Ne.symm e0, Ne.symm e1]) (by decide) ?_
      refine lv_iconst (v := (-1)) hx hb dc_TH_count1_41 (by decide) ?_
      exact W.iret hx hb hr (fun t ht _ => ⟨_, rfl, by unfold vq_count; rw [if_neg hk0, if_neg hk1], ht⟩) (fun q h => by cases h) dc_TH_count1_42
set_option maxHeartbeats 4000000 in
set_option maxRecDepth 100000 in
theorem ct_TH_item (l : Launch) (E : gk_E) (M : gh_M) (sz : Nat) {h0 N : Nat} {V : vv_V} (hV : cs_V E M h0 V) (hI : vv_I N V) (hN : N ≤ 512) (k j0 : Int32) : Met l yn_TH_item (.code yn_TH_item cd_TH_item 5 (some FieldType.long) :: bw_L) { frames := 4, cells := 0, slots := 0, locals := 122 } (gk_Pre E [.ref h0, .int k, .int j0] M sz) (vp_Sl (fun r => r = vq_item V k j0)) 0 0 (fun _ => False) := by
  refine gk_met rfl (Nat.le_of_ble_eq_true rfl) ?_
  intro p e s m below meth c F hsz hP hK hZ ls hl
  subst hsz
  have hx := F.1
  have hb := F.2.1
  have hr := F.2.2.1
  have hml := F.2.2.2.1
  have hown : s.vm.findClass "ThingHeap" = some m.cls := F.2.2.2.2.1
  have hlk := F.2.2.2.2.2.1
  have hnm := F.2.2.2.2.2.2.1
  have ht := fun (w : Cond) (h : w ∈ bw_L) => F.2.2.2.2.2.2.2 w (List.mem_cons_of_mem _ h)
  have hA : ∀ q, s.heap.size ≤ q → gh_A M s.heap.size q := fun q h => Or.inr h
  have hS : va_S (gh_A M s.heap.size) s.heap s.heap [] := va_S.rf
  have hl : lv_has ls 5 [(0, .ref h0), (1, .int k), (2, .int j0)] := hl
  obtain ⟨G, cT, cU, cR, hld, rch, h, hcT, hcU, hcR, hhl⟩ := hV
  have hTl := vv_len hI
  have hmN := hI.2.2.2.2
  have hTm : ∀ k ∈ V.2.1, k < 2 ^ 31 := fun k hk => by have := hI.2.2.1 k hk; omega
  have no : ∀ ls, vq_item V k j0 = 2199023255552 → W p l e ({ frames := 4, cells := 0, slots := 0, locals := 122 } : Room) s m ([.ref h0, .int k, .int j0] : List Value).toArray below meth c s.heap [] 0 0 (MQ below (vp_Sl (fun r => r = vq_item V k j0)) ([.ref h0, .int k, .int j0] : List Value).toArray s 0 0 (fun _ => False)) (F0 m 18 ls []) := by
    intro ls hno
    refine lv_ldc2 hx hb hown (ht _ ww_267) dc_TH_item_18 ?_
    exact W.lret hx hb hr (fun t ht _ => ⟨_, rfl, hno.symm, ht⟩) (fun q h => by cases h) dc_TH_item_21
  refine lv_aload_n hx hb dc_TH_item_0 rfl (lv_fd hl rfl) ?_
  refine lv_iload_n hx hb dc_TH_item_1 rfl (lv_fd hl rfl) ?_
  refine gk_sq (gk_rV F (b := h0) (As := [.int k]) (rest := []) (ct_TH_find l E _ _ h k hI.2.1 (by omega)) ww_220 ww_222 ws_TH_find ww_1 ww_223 rfl rfl ⟨by decide, by decide, by show _ = some 1; decide +kernel⟩ ⟨Nat.le_of_ble_eq_true rfl, Nat.le_of_ble_eq_true rfl⟩ (gh_recv hK.1 hP h.1 rfl) hK hZ hP hS hA hl.1 rfl (Nat.le_of_ble_eq_true rfl) dc_TH_item_2 ⟨Nat.le_refl _, Nat.le_refl _⟩) (fun r hr1 => ?_)
  rcases hr1 with ⟨n, hn, rfl, rfl⟩ | ⟨hno, rfl⟩
  · have hsf : sf_T V.2.1 (nI n) = some n := sf_of hTm hn rfl
    have hnm := h.2.2.2.2.2.2.2.1 n hn
    have hth : M (G.1 n) = some (6 + 2 * n, .inr (2, [.int (nI n), .ref (G.2.1 n), .int (hld n), .int (cs_B (rch n))])) := h.2.2.2.2.2.1 n hnm
    obtain ⟨cap, its, hca, hal, hil, hits⟩ := h.2.2.2.2.2.2.1 n hnm
    have hlim := hal.len
    refine lv_astore_n hx hb dc_TH_item_5 rfl hl (by decide) rfl (fun ls hl => ?_)
    refine lv_aload_n hx hb dc_TH_item_6 rfl (lv_fd hl rfl) ?_
    refine lv_ifnull hx hb dc_TH_item_7 ?_
    refine lv_aload_n hx hb dc_TH_item_10 rfl (lv_fd hl rfl) ?_
    refine lv_iload_n hx hb dc_TH_item_11 rfl (lv_fd hl rfl) ?_
    refine gk_si (gk_rV F (b := G.1 n) (As := [.int j0]) (rest := []) (ct_TG_hasItem l E _ _ j0 hth hal) ww_254 ww_255 ww_256 ww_7 ww_257 rfl rfl ⟨by decide, by decide, by show _ = some 1; decide +kernel⟩ ⟨Nat.le_of_ble_eq_true rfl, Nat.le_of_ble_eq_true rfl⟩ (gh_recv hK.1 hP hth rfl) hK hZ hP hS hA hl.1 rfl (Nat.le_of_ble_eq_true rfl) dc_TH_item_12 ⟨Nat.le_refl _, Nat.le_refl _⟩) (fun r hr2 => ?_)
    rcases hr2 with ⟨rfl, j, hj, rfl⟩ | ⟨rfl, hno⟩
    · have hsi : sf_T (List.range (V.2.2.2 n).length) (nI j) = some j := sf_rg (by omega) (by omega) rfl
      refine lv_if_ne (tgt := 22) hx hb dc_TH_item_15 (by decide) (fun _ => ?_) (fun q => absurd q (by decide))
      obtain ⟨q, hq⟩ : ∃ q, its[j]? = some q := ⟨its[j], List.getElem?_eq_getElem hj⟩
      obtain ⟨x, hxr⟩ : ∃ x, (V.2.2.2 n)[j]? = some x := ⟨(V.2.2.2 n)[j]'(by omega), List.getElem?_eq_getElem (by omega)⟩
      have hqx : M q = some (0, .inr (3, [va_rf (x.1.map G.1), .int x.2])) := hits j q x hq hxr
      have hval : vq_item V (nI n) (nI j) = it_L x := by
        unfold vq_item
        rw [hsf]
        dsimp only
        rw [hsi]
        dsimp only
        rw [List.getD_eq_getElem?_getD, hxr]
        rfl
      refine lv_aload_n hx hb dc_TH_item_22 rfl (lv_fd hl rfl) ?_
      refine gh_get hx hb ht nu_TG hown hK.1 hP hth rfl 1 (by decide) (ht _ ww_87) (fun _ h9 => h9) rfl dc_TH_item_23 ?_
      refine lv_iload_n hx hb dc_TH_item_26 rfl (lv_fd hl rfl) ?_
      refine gk_sq (gk_rV F (b := G.2.1 n) (As := [.int (nI j)]) (rest := []) (ct_AL_get l E _ _ hal hj) ww_172 ww_173 ww_174 ww_4 ww_175 rfl rfl ⟨by decide, by decide, by show _ = some 1; decide +kernel⟩ ⟨Nat.le_of_ble_eq_true rfl, Nat.le_of_ble_eq_true rfl⟩ (by obtain ⟨mk, el, hq, -⟩ := hal; exact gh_recv hK.1 hP hq rfl) hK hZ hP hS hA hl.1 rfl (Nat.le_of_ble_eq_true rfl) dc_TH_item_27 ⟨Nat.le_refl _, Nat.le_refl _⟩) (fun r hr3 => ?_)
      rw [hq] at hr3
      subst hr3
      refine va_castE hx hb hown (ht _ ww_190) (gh_recv hK.1 hP hqx rfl) dc_TH_item_30 ?_
      refine lv_astore hx hb dc_TH_item_33 hl (by decide) rfl (fun ls hl => ?_)
      refine lv_aload hx hb dc_TH_item_35 (lv_fd hl rfl) ?_
      refine gh_get hx hb ht nu_IT hown hK.1 hP hqx rfl 0 (by decide) (ht _ ww_238) (fun _ h9 => h9) rfl dc_TH_item_37 ?_
      cases hx1 : x.1 with
      | none =>
        rw [hx1] at hqx
        refine lv_ifnonnullN hx hb dc_TH_item_40 ?_
        refine lv_aload hx hb dc_TH_item_43 (lv_fd hl rfl) ?_
        refine gh_get hx hb ht nu_IT hown hK.1 hP hqx rfl 1 (by decide) (ht _ ww_240) (fun _ h9 => h9) rfl dc_TH_item_45 ?_
        refine lv_i2l hx hb dc_TH_item_48 rfl ?_
        refine lv_goto (tgt := 65) hx hb dc_TH_item_49 (by decide) ?_
        exact W.lret hx hb hr (fun t ht _ => ⟨_, rfl, by rw [hval]; unfold it_L; rw [hx1], ht⟩) (fun q h => by cases h) dc_TH_item_65
      | some k2 =>
        rw [hx1] at hqx
        have hk2 := h.2.2.2.2.2.2.2.2.2.2.2.1 n hnm x (List.mem_of_getElem? hxr) k2 hx1
        have hth2 : M (G.1 k2) = some (6 + 2 * k2, .inr (2, [.int (nI k2), .ref (G.2.1 k2), .int (hld k2), .int (cs_B (rch k2))])) := h.2.2.2.2.2.1 k2 hk2
        refine lv_ifnonnull (tgt := 52) hx hb dc_TH_item_40 (by decide) ?_
        refine lv_ldc2 hx hb hown (ht _ ww_268) dc_TH_item_52 ?_
        refine lv_aload hx hb dc_TH_item_55 (lv_fd hl rfl) ?_
        refine gh_get hx hb ht nu_IT hown hK.1 hP hqx rfl 0 (by decide) (ht _ ww_238) (fun _ h9 => h9) rfl dc_TH_item_57 ?_
        refine gh_get hx hb ht nu_TG hown hK.1 hP hth2 rfl 0 (by decide) (ht _ ww_85) (fun _ h9 => h9) rfl dc_TH_item_60 ?_
        refine lv_i2l (v := lN k2) hx hb dc_TH_item_63 (nI_l (by omega)) ?_
        refine lv_ladd hx hb dc_TH_item_64 ?_
        refine gh_topl (show (1099511627776 : Int64) + lN k2 = lN (1099511627776 + k2) from lN_add 1099511627776 k2) ?_
        exact W.lret hx hb hr (fun t ht _ => ⟨_, rfl, by rw [hval]; unfold it_L; rw [hx1], ht⟩) (fun q h => by cases h) dc_TH_item_65
    · refine lv_if_ne (tgt := 22) hx hb dc_TH_item_15 (by decide) (fun q => absurd rfl q) (fun _ => ?_)
      refine no ls ?_
      unfold vq_item
      rw [hsf]
      dsimp only
      rw [sf_rn (fun j hj => hno j (by omega))]
  · have hsf : sf_T V.2.1 k = none := sf_none hno
    refine lv_astore_nN hx hb dc_TH_item_5 rfl hl (by decide) rfl (fun ls hl => ?_)
    refine lv_aload_nN hx hb dc_TH_item_6 rfl (lv_fd hl rfl) ?_
    refine lv_ifnullN (tgt := 18) hx hb dc_TH_item_7 (by decide) ?_
    refine no ls ?_
    unfold vq_item
    rw [hsf]
