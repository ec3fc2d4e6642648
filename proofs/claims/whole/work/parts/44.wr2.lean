set_option maxHeartbeats 4000000 in
set_option maxRecDepth 100000 in
theorem ct_TH_take (l : Launch) (E : gk_E) (M : gh_M) (sz : Nat) {h0 N : Nat} {V : vv_V} (hV : cs_V E M h0 V) (hI : vv_I N V) (hN : N ≤ 512) (k j0 : Int32) : Met l yn_TH_take (.code yn_TH_take cd_TH_take 5 (some FieldType.int) :: bw_L) { frames := 11, cells := 312, slots := 6240, locals := 316 } (gk_Pre E [.ref h0, .int k, .int j0] M sz) (va_Qi (fun r M' => r = (vq_take V k j0).1 ∧ cs_V E M' h0 (vq_take V k j0).2) (gk_B E M sz) (gh_A M sz)) 312 6240 (gh_A M sz) := by
  refine gk_met rfl (Nat.le_of_ble_eq_true rfl) ?_
  intro p e s m below meth c F hsz hP hK hZ ls hl
  subst hsz
  have hx := F.1
  have hb := F.2.1
  have hr := F.2.2.1
  have hml := F.2.2.2.1
  have hown : s.vm.findClass "ThingHeap" = some m.cls := F.2.2.2.2.1
  have hlk := F.2.2.2.2.2.1
  have hnm := F.2.2.2.2.2.2.1
  have ht := fun (w : Cond) (h : w ∈ bw_L) => F.2.2.2.2.2.2.2 w (List.mem_cons_of_mem _ h)
  have hA : ∀ q, s.heap.size ≤ q → gh_A M s.heap.size q := fun q h => Or.inr h
  have hS : va_S (gh_A M s.heap.size) s.heap s.heap [] := va_S.rf
  have hl : lv_has ls 5 [(0, .ref h0), (1, .int k), (2, .int j0)] := hl
  have hV0 := hV
  obtain ⟨G, cT, cU, cR, hld, rch, h, hcT, hcU, hcR, hhl⟩ := hV
  have hTl := vv_len hI
  have hmN := hI.2.2.2.2
  have hTm : ∀ k ∈ V.2.1, k < 2 ^ 31 := fun k hk => by have := hI.2.2.1 k hk; omega
  have no : ∀ ls, vq_take V k j0 = (-2, V) → W p l e ({ frames := 11, cells := 312, slots := 6240, locals := 316 } : Room) s m ([.ref h0, .int k, .int j0] : List Value).toArray below meth c s.heap [] (0) (0) (MQ below (va_Qi (fun r M' => r = (vq_take V k j0).1 ∧ cs_V E M' h0 (vq_take V k j0).2) (gk_B E M s.heap.size) (gh_A M s.heap.size)) ([.ref h0, .int k, .int j0] : List Value).toArray s 312 6240 (gh_A M s.heap.size)) (F0 m 18 ls []) := by
    intro ls e
    refine lv_bipush (v := (-2)) hx hb dc_TH_take_18 (by decide) ?_
    refine W.widen (k := 312) (n := 6240) (Nat.le_of_ble_eq_true rfl) (Nat.le_of_ble_eq_true rfl) ?_
    exact gk_ei hx hb hr hlk hP hS dc_TH_take_20 ⟨by rw [e], by rw [e]; exact hV0⟩
  refine lv_aload_n hx hb dc_TH_take_0 rfl (lv_fd hl rfl) ?_
  refine lv_iload_n hx hb dc_TH_take_1 rfl (lv_fd hl rfl) ?_
  refine gk_sq (gk_rV F (b := h0) (As := [.int k]) (rest := []) (ct_TH_find l E _ _ h k hI.2.1 (by omega)) ww_220 ww_222 ws_TH_find ww_1 ww_223 rfl rfl ⟨by decide, by decide, by show _ = some 1; decide +kernel⟩ ⟨Nat.le_of_ble_eq_true rfl, Nat.le_of_ble_eq_true rfl⟩ (gh_recv hK.1 hP h.1 rfl) hK hZ hP hS hA hl.1 rfl (Nat.le_of_ble_eq_true rfl) dc_TH_take_2 ⟨Nat.le_of_ble_eq_true rfl, Nat.le_of_ble_eq_true rfl⟩) (fun r hr1 => ?_)
  rcases hr1 with ⟨n, hn, rfl, rfl⟩ | ⟨hno, rfl⟩
  rotate_left
  · refine lv_astore_nN hx hb dc_TH_take_5 rfl hl (by decide) rfl (fun ls hl => ?_)
    refine lv_aload_nN hx hb dc_TH_take_6 rfl (lv_fd hl rfl) ?_
    refine lv_ifnullN (tgt := 18) hx hb dc_TH_take_7 (by decide) ?_
    exact no ls (by unfold vq_take; rw [sf_none hno])
  have hsf : sf_T V.2.1 (nI n) = some n := sf_of hTm hn rfl
  have hnm := hI.2.2.1 n hn
  have hth : M (G.1 n) = some (6 + 2 * n, .inr (2, [.int (nI n), .ref (G.2.1 n), .int (hld n), .int (cs_B (rch n))])) := h.2.2.2.2.2.1 n hnm
  obtain ⟨cap, its, hca, hal, hil, hits⟩ := h.2.2.2.2.2.2.1 n hnm
  have hlim := hal.len
  refine lv_astore_n hx hb dc_TH_take_5 rfl hl (by decide) rfl (fun ls hl => ?_)
  refine lv_aload_n hx hb dc_TH_take_6 rfl (lv_fd hl rfl) ?_
  refine lv_ifnull hx hb dc_TH_take_7 ?_
  refine lv_aload_n hx hb dc_TH_take_10 rfl (lv_fd hl rfl) ?_
  refine lv_iload_n hx hb dc_TH_take_11 rfl (lv_fd hl rfl) ?_
  refine gk_si (gk_rV F (b := G.1 n) (As := [.int j0]) (rest := []) (ct_TG_hasItem l E _ _ j0 hth hal) ww_254 ww_255 ww_256 ww_7 ww_257 rfl rfl ⟨by decide, by decide, by show _ = some 1; decide +kernel⟩ ⟨Nat.le_of_ble_eq_true rfl, Nat.le_of_ble_eq_true rfl⟩ (gh_recv hK.1 hP hth rfl) hK hZ hP hS hA hl.1 rfl (Nat.le_of_ble_eq_true rfl) dc_TH_take_12 ⟨Nat.le_of_ble_eq_true rfl, Nat.le_of_ble_eq_true rfl⟩) (fun r hr2 => ?_)
  rcases hr2 with ⟨rfl, j, hj, rfl⟩ | ⟨rfl, hno⟩
  rotate_left
  · refine lv_if_ne (tgt := 21) hx hb dc_TH_take_15 (by decide) (fun q => absurd rfl q) (fun _ => ?_)
    exact no ls (by unfold vq_take; rw [hsf]; dsimp only; rw [sf_rn (fun j hj => hno j (by omega))])
  refine lv_if_ne (tgt := 21) hx hb dc_TH_take_15 (by decide) (fun _ => ?_) (fun q => absurd q (by decide))
  have hjr : j < (V.2.2.2 n).length := by omega
  obtain ⟨q, hq⟩ : ∃ q, its[j]? = some q := ⟨its[j], List.getElem?_eq_getElem hj⟩
  obtain ⟨x, hxr⟩ : ∃ x, (V.2.2.2 n)[j]? = some x := ⟨(V.2.2.2 n)[j]'hjr, List.getElem?_eq_getElem hjr⟩
  have hqx : M q = some (0, .inr (3, [va_rf (x.1.map G.1), .int x.2])) := hits j q x hq hxr
  have hxT : ∀ k, x.1 = some k → k < V.1 := fun k hk => h.2.2.2.2.2.2.2.2.2.2.2.1 n hnm x (List.mem_of_getElem? hxr) k hk
  have hsi : sf_T (List.range (V.2.2.2 n).length) (nI j) = some j := sf_rg (by omega) hjr rfl
  have e : vq_take V (nI n) (nI j) = vq_row V n ((V.2.2.2 n).eraseIdx j) := by unfold vq_take; rw [hsf]; dsimp only; rw [hsi]
  have hop := op_take hI.1 hI.2.2.2.1 (by omega) hhl hn hxr
  refine lv_aload_n hx hb dc_TH_take_21 rfl (lv_fd hl rfl) ?_
  refine gh_get hx hb ht nu_TG hown hK.1 hP hth rfl 1 (by decide) (ht _ ww_87) (fun _ h9 => h9) rfl dc_TH_take_22 ?_
  refine lv_iload_n hx hb dc_TH_take_25 rfl (lv_fd hl rfl) ?_
  refine gk_sq (gk_rV F (b := G.2.1 n) (As := [.int (nI j)]) (rest := []) (ct_AL_get l E _ _ hal hj) ww_172 ww_173 ww_174 ww_4 ww_175 rfl rfl ⟨by decide, by decide, by show _ = some 1; decide +kernel⟩ ⟨Nat.le_of_ble_eq_true rfl, Nat.le_of_ble_eq_true rfl⟩ (by obtain ⟨mk, el, hq, -⟩ := hal; exact gh_recv hK.1 hP hq rfl) hK hZ hP hS hA hl.1 rfl (Nat.le_of_ble_eq_true rfl) dc_TH_take_26 ⟨Nat.le_of_ble_eq_true rfl, Nat.le_of_ble_eq_true rfl⟩) (fun r hr3 => ?_)
  rw [hq] at hr3
  subst hr3
  refine va_castE hx hb hown (ht _ ww_190) (gh_recv hK.1 hP hqx rfl) dc_TH_take_29 ?_
  refine gh_get hx hb ht nu_IT hown hK.1 hP hqx rfl 0 (by decide) (ht _ ww_238) (fun _ h9 => h9) rfl dc_TH_take_32 ?_
  refine gq_astore (r := x.1.map G.1) (lv' := [(4, va_rf (x.1.map G.1)), (3, .ref (G.1 n)), (0, .ref h0), (1, .int (nI n)), (2, .int (nI j))]) hx hb dc_TH_take_35 hl (by decide) rfl (fun ls hl => ?_)
  refine lv_aload_n hx hb dc_TH_take_37 rfl (lv_fd hl rfl) ?_
  refine gh_get hx hb ht nu_TG hown hK.1 hP hth rfl 1 (by decide) (ht _ ww_87) (fun _ h9 => h9) rfl dc_TH_take_38 ?_
  refine lv_iload_n hx hb dc_TH_take_41 rfl (lv_fd hl rfl) ?_
  refine gk_cq (gk_rV F (b := G.2.1 n) (As := [.int (nI j)]) (rest := []) (ct_AL_remove l E _ _ hal hj (cs_Row.elL (E := E) hil hits)) ww_207 ww_208 ww_209 ww_4 ww_210 rfl rfl ⟨by decide, by decide, by show _ = some 1; decide +kernel⟩ ⟨Nat.le_of_ble_eq_true rfl, Nat.le_of_ble_eq_true rfl⟩ (by obtain ⟨mk, el, hq, -⟩ := hal; exact gh_recv hK.1 hP hq rfl) hK hZ hP hS hA hl.1 rfl (Nat.le_of_ble_eq_true rfl) dc_TH_take_42 ⟨Nat.le_of_ble_eq_true rfl, Nat.le_of_ble_eq_true rfl⟩) hP hS hA (fun r M1 H locs h1 hP hS => ?_)
  have h2 : cs_R E M1 h0 G V.1 V.2.1 [] [] cT cU cR V.2.2.1 (va_up V.2.2.2 n ((V.2.2.2 n).eraseIdx j)) hld rch := by
    refine h.setRow h1.2.1 ⟨cap, _, hca, h1.2.2, by rw [List.length_eraseIdx_of_lt hj, List.length_eraseIdx_of_lt hjr, hil], fun i b y hi hy => ?_⟩ (fun y hy n' hn' => h.2.2.2.2.2.2.2.2.2.2.2.1 n hnm y (List.mem_of_mem_eraseIdx hy) n' hn')
    rw [List.getElem?_eraseIdx] at hi hy
    by_cases hij : i < j
    · rw [if_pos hij] at hi hy
      exact h1.2.1.keep (hits i b y hi hy) (by omega)
    · rw [if_neg hij] at hi hy
      exact h1.2.1.keep (hits (i + 1) b y hi hy) (by omega)
  cases r with
  | none =>
    rw [hq] at h1
    cases h1.1
  | some r9 =>
    refine lv_pop hx hb dc_TH_take_45 rfl ?_
    refine lv_aload_n hx hb dc_TH_take_46 rfl (lv_fd hl rfl) ?_
    refine gq_aload hx hb dc_TH_take_47 (lv_fd hl rfl) ?_
    refine gk_cv (gk_rV F (b := h0) (As := [va_rf (x.1.map G.1)]) (rest := []) (ct_TH_release l E _ _ h2 x.1 hxT hcU (by omega) (Nat.le_trans hop.1 (by omega))) ww_160 ww_162 ws_TH_release ww_1 ww_163 rfl rfl ⟨by decide, by decide, by show _ = some 1; decide +kernel⟩ ⟨Nat.le_of_ble_eq_true rfl, Nat.le_of_ble_eq_true rfl⟩ (gh_recv hK.1 hP h2.1 rfl) hK hZ hP hS hA hl.1 rfl (Nat.le_of_ble_eq_true rfl) dc_TH_take_49 ⟨Nat.le_of_ble_eq_true rfl, Nat.le_of_ble_eq_true rfl⟩) hP hS hA (fun M3 H locs h3 hP hS => ?_)
    obtain ⟨c2, hc2, h3⟩ := h3
    obtain ⟨hV1, hh1, hT1⟩ := cs_V_of hop h3 hcT hc2 hcR
    refine lv_aload_n hx hb dc_TH_take_52 rfl (lv_fd hl rfl) ?_
    refine gh_get hx hb ht nu_TH hown hK.1 hP hh1 rfl 1 (by decide) (ht _ ww_51) (fun _ h9 => h9) rfl dc_TH_take_53 ?_
    refine gk_si (gk_rV F (b := G.2.2.2.1) (As := []) (rest := []) (ct_AL_size l E _ _ hT1) ww_73 ww_74 ww_75 ww_4 ww_76 rfl rfl ⟨by decide, by decide, by show _ = some 0; decide +kernel⟩ ⟨Nat.le_of_ble_eq_true rfl, Nat.le_of_ble_eq_true rfl⟩ (by obtain ⟨mk, el, hq, -⟩ := hT1; exact gh_recv hK.1 hP hq rfl) hK hZ hP hS hA hl.1 rfl (Nat.le_of_ble_eq_true rfl) dc_TH_take_56 ⟨Nat.le_of_ble_eq_true rfl, Nat.le_of_ble_eq_true rfl⟩) (fun r2 hr2 => ?_)
    rw [List.length_map] at hr2
    refine W.widen (k := 312) (n := 6240) (Nat.le_of_ble_eq_true rfl) (Nat.le_of_ble_eq_true rfl) ?_
    exact gk_ei hx hb hr hlk hP hS dc_TH_take_59 ⟨by rw [e]; exact hr2, by rw [e]; exact hV1⟩
set_option maxHeartbeats 4000000 in
set_option maxRecDepth 100000 in
theorem ct_TH_turn (l : Launch) (E : gk_E) (M : gh_M) (sz : Nat) {h0 N : Nat} {V : vv_V} (hV : cs_V E M h0 V) (hI : vv_I N V) (hN : N ≤ 512) (k j0 i : Int32) : Met l yn_TH_turn (.code yn_TH_turn cd_TH_turn 7 (some FieldType.int) :: bw_L) { frames := 11, cells := 313, slots := 6250, locals := 316 } (gk_Pre E [.ref h0, .int k, .int j0, .int i] M sz) (va_Qi (fun r M' => r = (vq_turn V k j0 i).1 ∧ cs_V E M' h0 (vq_turn V k j0 i).2) (gk_B E M sz) (gh_A M sz)) 313 6250 (gh_A M sz) := by
  refine gk_met rfl (Nat.le_of_ble_eq_true rfl) ?_
  intro p e s m below meth c F hsz hP hK hZ ls hl
  subst hsz
  have hx := F.1
  have hb := F.2.1
  have hr := F.2.2.1
  have hml := F.2.2.2.1
  have hown : s.vm.findClass "ThingHeap" = some m.cls := F.2.2.2.2.1
  have hlk := F.2.2.2.2.2.1
  have hnm := F.2.2.2.2.2.2.1
  have ht := fun (w : Cond) (h : w ∈ bw_L) => F.2.2.2.2.2.2.2 w (List.mem_cons_of_mem _ h)
  have hA : ∀ q, s.heap.size ≤ q → gh_A M s.heap.size q := fun q h => Or.inr h
  have hS : va_S (gh_A M s.heap.size) s.heap s.heap [] := va_S.rf
  have hl : lv_has ls 7 [(0, .ref h0), (1, .int k), (2, .int j0), (3, .int i)] := hl
  have hV0 := hV
  obtain ⟨G, cT, cU, cR, hld, rch, h, hcT, hcU, hcR, hhl⟩ := hV
  have hTl := vv_len hI
  have hmN := hI.2.2.2.2
  have hTm : ∀ k ∈ V.2.1, k < 2 ^ 31 := fun k hk => by have := hI.2.2.1 k hk; omega
  have no : ∀ ls, vq_turn V k j0 i = (-2, V) → W p l e ({ frames := 11, cells := 313, slots := 6250, locals := 316 } : Room) s m ([.ref h0, .int k, .int j0, .int i] : List Value).toArray below meth c s.heap [] (0 + 0 + 0) (0 + 0 + 0) (MQ below (va_Qi (fun r M' => r = (vq_turn V k j0 i).1 ∧ cs_V E M' h0 (vq_turn V k j0 i).2) (gk_B E M s.heap.size) (gh_A M s.heap.size)) ([.ref h0, .int k, .int j0, .int i] : List Value).toArray s 313 6250 (gh_A M s.heap.size)) (F0 m 33 ls []) := by
    intro ls e
    refine lv_bipush (v := (-2)) hx hb dc_TH_turn_33 (by decide) ?_
    refine W.widen (k := 313) (n := 6250) (Nat.le_of_ble_eq_true rfl) (Nat.le_of_ble_eq_true rfl) ?_
    exact gk_ei hx hb hr hlk hP hS dc_TH_turn_35 ⟨by rw [e], by rw [e]; exact hV0⟩
  refine lv_aload_n hx hb dc_TH_turn_0 rfl (lv_fd hl rfl) ?_
  refine lv_iload_n hx hb dc_TH_turn_1 rfl (lv_fd hl rfl) ?_
  refine gk_sq (gk_rV F (b := h0) (As := [.int k]) (rest := []) (ct_TH_find l E _ _ h k hI.2.1 (by omega)) ww_220 ww_222 ws_TH_find ww_1 ww_223 rfl rfl ⟨by decide, by decide, by show _ = some 1; decide +kernel⟩ ⟨Nat.le_of_ble_eq_true rfl, Nat.le_of_ble_eq_true rfl⟩ (gh_recv hK.1 hP h.1 rfl) hK hZ hP hS hA hl.1 rfl (Nat.le_of_ble_eq_true rfl) dc_TH_turn_2 ⟨Nat.le_of_ble_eq_true rfl, Nat.le_of_ble_eq_true rfl⟩) (fun r1 hr1 => ?_)
  refine gq_astore (lv' := [(4, va_rf r1), (0, .ref h0), (1, .int k), (2, .int j0), (3, .int i)]) hx hb dc_TH_turn_5 hl (by decide) rfl (fun ls hl => ?_)
  refine lv_aload_n hx hb dc_TH_turn_7 rfl (lv_fd hl rfl) ?_
  refine lv_iload_n hx hb dc_TH_turn_8 rfl (lv_fd hl rfl) ?_
  refine gk_sq (gk_rV F (b := h0) (As := [.int i]) (rest := []) (ct_TH_find l E _ _ h i hI.2.1 (by omega)) ww_220 ww_222 ws_TH_find ww_1 ww_223 rfl rfl ⟨by decide, by decide, by show _ = some 1; decide +kernel⟩ ⟨Nat.le_of_ble_eq_true rfl, Nat.le_of_ble_eq_true rfl⟩ (gh_recv hK.1 hP h.1 rfl) hK hZ hP hS hA hl.1 rfl (Nat.le_of_ble_eq_true rfl) dc_TH_turn_9 ⟨Nat.le_of_ble_eq_true rfl, Nat.le_of_ble_eq_true rfl⟩) (fun r2 hr2 => ?_)
  refine gq_astore (lv' := [(5, va_rf r2), (4, va_rf r1), (0, .ref h0), (1, .int k), (2, .int j0), (3, .int i)]) hx hb dc_TH_turn_12 hl (by decide) (by cases r1 <;> rfl) (fun ls hl => ?_)
  refine gq_aload hx hb dc_TH_turn_14 (lv_fd hl rfl) ?_
  refine gq_ifnull (tgt := 33) hx hb dc_TH_turn_16 (by decide) (fun q => ?_) (fun a1 q => ?_)
  · rcases hr1 with ⟨n, -, -, rfl⟩ | ⟨hno, -⟩
    · cases q
    · exact no ls (by unfold vq_turn; rw [sf_none hno])
  rcases hr1 with ⟨n, hn, rfl, rfl⟩ | ⟨-, rfl⟩
  rotate_left
  · cases q
  have hsf : sf_T V.2.1 (nI n) = some n := sf_of hTm hn rfl
  refine gq_aload hx hb dc_TH_turn_19 (lv_fd hl rfl) ?_
  refine gq_ifnull (tgt := 33) hx hb dc_TH_turn_21 (by decide) (fun q => ?_) (fun a2 q2 => ?_)
  · rcases hr2 with ⟨n, -, -, rfl⟩ | ⟨hno, -⟩
    · cases q
    · exact no ls (by unfold vq_turn; rw [hsf]; dsimp only; rw [sf_none hno])
  rcases hr2 with ⟨n2, hn2, rfl, rfl⟩ | ⟨-, rfl⟩
  rotate_left
  · cases q2
  have hsf2 : sf_T V.2.1 (nI n2) = some n2 := sf_of hTm hn2 rfl
  have hl : lv_has ls 7 [(5, .ref (G.1 n2)), (4, .ref (G.1 n)), (0, .ref h0), (1, .int (nI n)), (2, .int j0), (3, .int (nI n2))] := hl
  have hnm := hI.2.2.1 n hn
  have hth : M (G.1 n) = some (6 + 2 * n, .inr (2, [.int (nI n), .ref (G.2.1 n), .int (hld n), .int (cs_B (rch n))])) := h.2.2.2.2.2.1 n hnm
  obtain ⟨cap, its, hca, hal, hil, hits⟩ := h.2.2.2.2.2.2.1 n hnm
  have hlim := hal.len
  refine lv_aload hx hb dc_TH_turn_24 (lv_fd hl rfl) ?_
  refine lv_iload_n hx hb dc_TH_turn_26 rfl (lv_fd hl rfl) ?_
  refine gk_si (gk_rV F (b := G.1 n) (As := [.int j0]) (rest := []) (ct_TG_hasItem l E _ _ j0 hth hal) ww_254 ww_255 ww_256 ww_7 ww_257 rfl rfl ⟨by decide, by decide, by show _ = some 1; decide +kernel⟩ ⟨Nat.le_of_ble_eq_true rfl, Nat.le_of_ble_eq_true rfl⟩ (gh_recv hK.1 hP hth rfl) hK hZ hP hS hA hl.1 rfl (Nat.le_of_ble_eq_true rfl) dc_TH_turn_27 ⟨Nat.le_of_ble_eq_true rfl, Nat.le_of_ble_eq_true rfl⟩) (fun r hr2 => ?_)
  rcases hr2 with ⟨rfl, j, hj, rfl⟩ | ⟨rfl, hno⟩
  rotate_left
  · refine lv_if_ne (tgt := 36) hx hb dc_TH_turn_30 (by decide) (fun q => absurd rfl q) (fun _ => ?_)
    exact no ls (by unfold vq_turn; rw [hsf]; dsimp only; rw [hsf2]; dsimp only; rw [sf_rn (fun j hj => hno j (by omega))])
  refine lv_if_ne (tgt := 36) hx hb dc_TH_turn_30 (by decide) (fun _ => ?_) (fun q => absurd q (by decide))
  have hjr : j < (V.2.2.2 n).length := by omega
  obtain ⟨q, hq⟩ : ∃ q, its[j]? = some q := ⟨its[j], List.getElem?_eq_getElem hj⟩
  obtain ⟨x, hxr⟩ : ∃ x, (V.2.2.2 n)[j]? = some x := ⟨(V.2.2.2 n)[j]'hjr, List.getElem?_eq_getElem hjr⟩
  have hqx : M q = some (0, .inr (3, [va_rf (x.1.map G.1), .int x.2])) := hits j q x hq hxr
  have hxT : ∀ k, x.1 = some k → k < V.1 := fun k hk => h.2.2.2.2.2.2.2.2.2.2.2.1 n hnm x (List.mem_of_getElem? hxr) k hk
  have hsi : sf_T (List.range (V.2.2.2 n).length) (nI j) = some j := sf_rg (by omega) hjr rfl
  have e : vq_turn V (nI n) (nI j) (nI n2) = vq_row V n ((V.2.2.2 n).set j (some n2, 0)) := by unfold vq_turn; rw [hsf]; dsimp only; rw [hsf2]; dsimp only; rw [hsi]
  have hop := op_turn hI.1 hI.2.2.2.1 (by omega) hhl hn hxr hn2
  refine lv_aload hx hb dc_TH_turn_36 (lv_fd hl rfl) ?_
  refine gh_get hx hb ht nu_TG hown hK.1 hP hth rfl 1 (by decide) (ht _ ww_87) (fun _ h9 => h9) rfl dc_TH_turn_38 ?_
  refine lv_iload_n hx hb dc_TH_turn_41 rfl (lv_fd hl rfl) ?_
  refine gk_sq (gk_rV F (b := G.2.1 n) (As := [.int (nI j)]) (rest := []) (ct_AL_get l E _ _ hal hj) ww_172 ww_173 ww_174 ww_4 ww_175 rfl rfl ⟨by decide, by decide, by show _ = some 1; decide +kernel⟩ ⟨Nat.le_of_ble_eq_true rfl, Nat.le_of_ble_eq_true rfl⟩ (by obtain ⟨mk, el, hq, -⟩ := hal; exact gh_recv hK.1 hP hq rfl) hK hZ hP hS hA hl.1 rfl (Nat.le_of_ble_eq_true rfl) dc_TH_turn_42 ⟨Nat.le_of_ble_eq_true rfl, Nat.le_of_ble_eq_true rfl⟩) (fun r hr3 => ?_)
  rw [hq] at hr3
  subst hr3
  refine va_castE hx hb hown (ht _ ww_190) (gh_recv hK.1 hP hqx rfl) dc_TH_turn_45 ?_
  refine gh_get hx hb ht nu_IT hown hK.1 hP hqx rfl 0 (by decide) (ht _ ww_238) (fun _ h9 => h9) rfl dc_TH_turn_48 ?_
  refine gq_astore (r := x.1.map G.1) (lv' := [(6, va_rf (x.1.map G.1)), (5, .ref (G.1 n2)), (4, .ref (G.1 n)), (0, .ref h0), (1, .int (nI n)), (2, .int (nI j)), (3, .int (nI n2))]) hx hb dc_TH_turn_51 hl (by decide) rfl (fun ls hl => ?_)
  refine lv_aload hx hb dc_TH_turn_53 (lv_fd hl rfl) ?_
  refine gk_cv (gk_rS F (As := [.ref (G.1 n2)]) (rest := []) (ct_TH_hold l E _ _ h (some n2) (fun k hk => by rw [← Option.some.inj hk]; exact hI.2.2.1 n2 hn2)) ww_157 ww_158 ww_1 ww_159 rfl rfl ⟨by decide, by decide, by show _ = some 1; decide +kernel⟩ ⟨Nat.le_of_ble_eq_true rfl, Nat.le_of_ble_eq_true rfl⟩ hK hZ hP hS hA hl.1 rfl (Nat.le_of_ble_eq_true rfl) dc_TH_turn_55 ⟨Nat.le_of_ble_eq_true rfl, Nat.le_of_ble_eq_true rfl⟩) hP hS hA (fun M1 H locs h1 hP hS => ?_)
  have hth1 : M1 (G.1 n) = some (6 + 2 * n, .inr (2, [.int (nI n), .ref (G.2.1 n), .int (cl_hold hld (some n2) n), .int (cs_B (rch n))])) := h1.2.2.2.2.2.1 n hnm
  refine lv_aload hx hb dc_TH_turn_58 (lv_fd hl rfl) ?_
  refine gh_get hx hb ht nu_TG hown hK.1 hP hth1 rfl 1 (by decide) (ht _ ww_87) (fun _ h9 => h9) rfl dc_TH_turn_60 ?_
  refine lv_iload_n hx hb dc_TH_turn_63 rfl (lv_fd hl rfl) ?_
  refine gh_new 0 (ci := 3) (fs := [.null, .int 0]) hx hb ht nu_IT nt_IT no_IT hown (ht _ ww_190) (ht _ ww_232) (ht _ ww_13) hK.1 hP hS hA rfl (fun j hj => by rcases (show j = 0 ∨ j = 1 by omega) with rfl | rfl <;> rfl) (Nat.le_of_ble_eq_true rfl) (Nat.le_of_ble_eq_true rfl) dc_TH_turn_64 (fun q5 H hn_q5 hP hS => ?_)
  refine lv_dup hx hb dc_TH_turn_67 rfl ?_
  refine lv_aload hx hb dc_TH_turn_68 (lv_fd hl rfl) ?_
  refine lv_iconst (v := nI 0) hx hb dc_TH_turn_70 (by decide) ?_
  refine gk_cv (gk_rI F (b := q5) (As := [.ref (G.1 n2), .int (nI 0)]) (rest := [.ref q5, .int (nI j), .ref (G.2.1 n)]) (ct_IT_initS l E _ _ (gh_up_self _ _ _)) ww_233 ww_234 ww_13 ww_235 rfl rfl rfl ⟨by decide, by decide, by show _ = some 2; decide +kernel⟩ ⟨Nat.le_of_ble_eq_true rfl, Nat.le_of_ble_eq_true rfl⟩ hK hZ hP hS hA hl.1 rfl (Nat.le_of_ble_eq_true rfl) dc_TH_turn_71 ⟨Nat.le_of_ble_eq_true rfl, Nat.le_of_ble_eq_true rfl⟩) hP hS hA (fun M2 H locs h2 hP hS => ?_)
  have hex2 : ∀ b y, M1 b = some y → M2 b = some y := fun b y hy => (h2.2 b (gh_ne0 hy hn_q5)).trans (gh_up_at hy (gh_ne0 hy hn_q5))
  have h3 := h1.ext hex2
  obtain ⟨cap3, its3, hca3, hal3, hil3, hits3⟩ := h3.2.2.2.2.2.2.1 n hnm
  have hj3 : j < its3.length := by omega
  refine gk_cq (gk_rV F (b := G.2.1 n) (As := [.int (nI j), .ref q5]) (rest := []) (ct_AL_set l E _ _ hal3 hj3 ⟨0, _, Or.inr h2.1⟩) ww_203 ww_204 ww_205 ww_4 ww_206 rfl rfl ⟨by decide, by decide, by show _ = some 2; decide +kernel⟩ ⟨Nat.le_of_ble_eq_true rfl, Nat.le_of_ble_eq_true rfl⟩ (by obtain ⟨mk, el, hq, -⟩ := hal3; exact gh_recv hK.1 hP hq rfl) hK hZ hP hS hA hl.1 rfl (Nat.le_of_ble_eq_true rfl) dc_TH_turn_74 ⟨Nat.le_of_ble_eq_true rfl, Nat.le_of_ble_eq_true rfl⟩) hP hS hA (fun r M4 H locs h4 hP hS => ?_)
  have h5 : cs_R E M4 h0 G V.1 V.2.1 [] [] cT cU cR V.2.2.1 (va_up V.2.2.2 n ((V.2.2.2 n).set j (some n2, 0))) (cl_hold hld (some n2)) rch := by
    refine h3.setRow h4.2.2.1 ⟨cap3, _, hca3, h4.2.2.2, by rw [List.length_set, List.length_set, hil3], fun i b y hi hy => ?_⟩ (fun y hy n' hn' => ?_)
    · by_cases hij : j = i
      · subst hij
        rw [List.getElem?_set_self hj3] at hi
        rw [List.getElem?_set_self hjr] at hy
        cases hi
        cases hy
        exact h4.2.2.1.keep h2.1 (by omega)
      · rw [List.getElem?_set_ne hij] at hi hy
        exact h4.2.2.1.keep (hits3 i b y hi hy) (by omega)
    · rcases List.mem_or_eq_of_mem_set hy with g | g
      · exact h3.2.2.2.2.2.2.2.2.2.2.2.1 n hnm y g n' hn'
      · rw [g] at hn'
        rw [← Option.some.inj hn']
        exact hI.2.2.1 n2 hn2
  cases r with
  | none =>
    rw [List.getElem?_eq_getElem hj3] at h4
    cases h4.1
  | some r9 =>
    refine lv_pop hx hb dc_TH_turn_77 rfl ?_
    refine lv_aload_n hx hb dc_TH_turn_78 rfl (lv_fd hl rfl) ?_
    refine gq_aload hx hb dc_TH_turn_79 (lv_fd hl rfl) ?_
    refine gk_cv (gk_rV F (b := h0) (As := [va_rf (x.1.map G.1)]) (rest := []) (ct_TH_release l E _ _ h5 x.1 hxT hcU (by omega) (Nat.le_trans hop.1 (by omega))) ww_160 ww_162 ws_TH_release ww_1 ww_163 rfl rfl ⟨by decide, by decide, by show _ = some 1; decide +kernel⟩ ⟨Nat.le_of_ble_eq_true rfl, Nat.le_of_ble_eq_true rfl⟩ (gh_recv hK.1 hP h5.1 rfl) hK hZ hP hS hA hl.1 rfl (Nat.le_of_ble_eq_true rfl) dc_TH_turn_81 ⟨Nat.le_of_ble_eq_true rfl, Nat.le_of_ble_eq_true rfl⟩) hP hS hA (fun M6 H locs h6 hP hS => ?_)
    obtain ⟨c2, hc2, h6⟩ := h6
    obtain ⟨hV1, hh1, hT1⟩ := cs_V_of hop h6 hcT hc2 hcR
    refine lv_aload_n hx hb dc_TH_turn_84 rfl (lv_fd hl rfl) ?_
    refine gh_get hx hb ht nu_TH hown hK.1 hP hh1 rfl 1 (by decide) (ht _ ww_51) (fun _ h9 => h9) rfl dc_TH_turn_85 ?_
    refine gk_si (gk_rV F (b := G.2.2.2.1) (As := []) (rest := []) (ct_AL_size l E _ _ hT1) ww_73 ww_74 ww_75 ww_4 ww_76 rfl rfl ⟨by decide, by decide, by show _ = some 0; decide +kernel⟩ ⟨Nat.le_of_ble_eq_true rfl, Nat.le_of_ble_eq_true rfl⟩ (by obtain ⟨mk, el, hq, -⟩ := hT1; exact gh_recv hK.1 hP hq rfl) hK hZ hP hS hA hl.1 rfl (Nat.le_of_ble_eq_true rfl) dc_TH_turn_88 ⟨Nat.le_of_ble_eq_true rfl, Nat.le_of_ble_eq_true rfl⟩) (fun r2 hr2 => ?_)
    rw [List.length_map] at hr2
    refine W.widen (k := 313) (n := 6250) (Nat.le_of_ble_eq_true rfl) (Nat.le_of_ble_eq_true rfl) ?_
    exact gk_ei hx hb hr hlk hP hS dc_TH_turn_91 ⟨by rw [e]; exact hr2, by rw [e]; exact hV1⟩
theorem co_len {E : gk_E} {M : gh_M} {h0 N : Nat} {V : vv_V} {G : cs_G} {cT cU cR : Nat} {hld : Nat → Int32} {rch : Nat → Bool} (h : cs_R E M h0 G V.1 V.2.1 [] [] cT cU cR V.2.2.1 V.2.2.2 hld rch) (hI : vv_I N V) (hN : N ≤ 512) (hhl : ∀ n ∈ V.2.1, hld n = nI ((hd_all V.2.1 V.2.2.1 V.2.2.2).count n)) : (cl_mark V.2.1 V.2.2.1 V.2.2.2 rch).2.length ≤ 520 ∧ (cl_sweep V.2.1 (cl_mark V.2.1 V.2.2.1 V.2.2.2 rch).1 (V.2.2.2, hld, [])).2.2.length ≤ 520 ∧ (cl_ru V.2.1.length 0 (cl_sweep V.2.1 (cl_mark V.2.1 V.2.2.1 V.2.2.2 rch).1 (V.2.2.2, hld, []))).2.2.length ≤ 520 := by
  have hl := vv_len hI
  have h5 := hI.2.2.2.2
  have hm := cl_marked (rch := rch) hI.1.1 hI.1.2.1 hI.1.2.2.1
  have hc := cl_collect (hld := hld) hI.1 hhl (fun n => by have := hd_len (T := V.2.1) (root := V.2.2.1) hI.2.2.2.1 n; omega) hm.2
  have := hm.1
  have := hc.1
  have := hc.2.1
  exact ⟨by omega, by omega, by omega⟩
theorem nI_subn {a b : Nat} (h : b ≤ a) : nI a - nI b = nI (a - b) := by
  have e : nI (a - b) + nI b = nI a := by rw [nI_add, Nat.sub_add_cancel h]
  rw [← e, Int32.add_sub_cancel]
theorem co_post {E : gk_E} {M M' : gh_M} {h0 N : Nat} {V : vv_V} {G : cs_G} {cT cU cR : Nat} {hld : Nat → Int32} {rch : Nat → Bool} (h : cs_R E M h0 G V.1 V.2.1 [] [] cT cU cR V.2.2.1 V.2.2.2 hld rch) (hI : vv_I N V) (hN : N ≤ 512) (hcT : cT ≤ 780) (hhl : ∀ n ∈ V.2.1, hld n = nI ((hd_all V.2.1 V.2.2.1 V.2.2.2).count n)) {r : Int32}
    (hp : r = nI V.2.1.length - nI (cl_rem V.2.1 (cl_sweep V.2.1 (cl_mark V.2.1 V.2.2.1 V.2.2.2 rch).1 (V.2.2.2, hld, []))).1.length ∧ ∃ c2 c3, c2 ≤ 780 ∧ c3 ≤ 780 ∧ cs_R E M' h0 G V.1 (cl_rem V.2.1 (cl_sweep V.2.1 (cl_mark V.2.1 V.2.2.1 V.2.2.2 rch).1 (V.2.2.2, hld, []))).1 (cl_rem V.2.1 (cl_sweep V.2.1 (cl_mark V.2.1 V.2.2.1 V.2.2.2 rch).1 (V.2.2.2, hld, []))).2.2.2 [] cT c2 c3 V.2.2.1 (cl_rem V.2.1 (cl_sweep V.2.1 (cl_mark V.2.1 V.2.2.1 V.2.2.2 rch).1 (V.2.2.2, hld, []))).2.1 (cl_rem V.2.1 (cl_sweep V.2.1 (cl_mark V.2.1 V.2.2.1 V.2.2.2 rch).1 (V.2.2.2, hld, []))).2.2.1 (cl_mark V.2.1 V.2.2.1 V.2.2.2 rch).1) : r = (vq_collect V).1 ∧ cs_V E M' h0 (vq_collect V).2 := by
  have hl := vv_len hI
  have h5 := hI.2.2.2.2
  have hm := cl_marked (rch := rch) hI.1.1 hI.1.2.1 hI.1.2.2.1
  obtain ⟨-, -, e1, e2, e3, e4, -⟩ := cl_collect (hld := hld) hI.1 hhl (fun n => by have := hd_len (T := V.2.1) (root := V.2.2.1) hI.2.2.2.1 n; omega) hm.2
  obtain ⟨h1, c2, c3, hc2, hc3, h2⟩ := hp
  rw [e1] at h1
  rw [e1, e2, e3] at h2
  have hle : (rd_T V.2.1 V.2.2.1 V.2.2.2).length ≤ V.2.1.length := List.length_filter_le _ _
  exact ⟨by rw [h1, nI_subn hle]; rfl, G, cT, c2, c3, _, _, h2, hcT, hc2, hc3, e4⟩
