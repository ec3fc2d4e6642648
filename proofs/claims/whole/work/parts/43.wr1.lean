set_option maxHeartbeats 4000000 in
set_option maxRecDepth 100000 in
theorem ct_TH_root (l : Launch) (E : gk_E) (M : gh_M) (sz : Nat) {h0 N : Nat} {V : vv_V} (hV : cs_V E M h0 V) (hI : vv_I N V) (hN : N ≤ 512) (k o : Int32) : Met l yn_TH_root (.code yn_TH_root cd_TH_root 4 (some FieldType.int) :: bw_L) { frames := 12, cells := 312, slots := 6240, locals := 336 } (gk_Pre E [.ref h0, .int k, .int o] M sz) (va_Qi (fun r M' => r = (vq_root V k o).1 ∧ cs_V E M' h0 (vq_root V k o).2) (gk_B E M sz) (gh_A M sz)) 312 6240 (gh_A M sz) := by
  refine gk_met rfl (Nat.le_of_ble_eq_true rfl) ?_
  intro p e s m below meth c F hsz hP hK hZ ls hl
  subst hsz
  have hx := F.1
  have hb := F.2.1
  have hr := F.2.2.1
  have hml := F.2.2.2.1
  have hown : s.vm.findClass "ThingHeap" = some m.cls := F.2.2.2.2.1
  have hlk := F.2.2.2.2.2.1
  have hnm := F.2.2.2.2.2.2.1
  have ht := fun (w : Cond) (h : w ∈ bw_L) => F.2.2.2.2.2.2.2 w (List.mem_cons_of_mem _ h)
  have hA : ∀ q, s.heap.size ≤ q → gh_A M s.heap.size q := fun q h => Or.inr h
  have hS : va_S (gh_A M s.heap.size) s.heap s.heap [] := va_S.rf
  have hl : lv_has ls 4 [(0, .ref h0), (1, .int k), (2, .int o)] := hl
  have hV0 := hV
  obtain ⟨G, cT, cU, cR, hld, rch, h, hcT, hcU, hcR, hhl⟩ := hV
  have hTl := vv_len hI
  have hmN := hI.2.2.2.2
  have hTm : ∀ k ∈ V.2.1, k < 2 ^ 31 := fun k hk => by have := hI.2.2.1 k hk; omega
  refine lv_iload_n hx hb dc_TH_root_0 rfl (lv_fd hl rfl) ?_
  refine gk_si (gk_rS F (As := [.int k]) (rest := []) (ct_TH_isRoot l E _ _ k) ww_70 ww_71 ww_1 ww_72 rfl rfl ⟨by decide, by decide, by show _ = some 1; decide +kernel⟩ ⟨Nat.le_of_ble_eq_true rfl, Nat.le_of_ble_eq_true rfl⟩ hK hZ hP hS hA hl.1 rfl (Nat.le_of_ble_eq_true rfl) dc_TH_root_1 ⟨Nat.le_of_ble_eq_true rfl, Nat.le_of_ble_eq_true rfl⟩) (fun r hr1 => ?_)
  rcases hr1 with ⟨rfl, j, hj, rfl⟩ | ⟨rfl, hno⟩
  · have hsf : sf_T (List.range 16) (nI j) = some j := sf_rg (by decide) hj rfl
    refine lv_if_ne (tgt := 9) hx hb dc_TH_root_4 (by decide) (fun _ => ?_) (fun q => absurd q (by decide))
    have tail : ∀ (x : Option Nat) (ls : Array Slot), (∀ n, x = some n → n ∈ V.2.1) → vq_root V (nI j) o = vq_put V j x → lv_has ls 4 [(3, va_rf (x.map G.1)), (0, .ref h0), (1, .int (nI j)), (2, .int o)] → W p l e ({ frames := 12, cells := 312, slots := 6240, locals := 336 } : Room) s m ([.ref h0, .int (nI j), .int o] : List Value).toArray below meth c s.heap [] 0 0 (MQ below (va_Qi (fun r M' => r = (vq_root V (nI j) o).1 ∧ cs_V E M' h0 (vq_root V (nI j) o).2) (gk_B E M s.heap.size) (gh_A M s.heap.size)) ([.ref h0, .int (nI j), .int o] : List Value).toArray s 312 6240 (gh_A M s.heap.size)) (F0 m 27 ls []) := by
      intro x ls hxT hq hl
      have hop := op_root hI.1 hI.2.2.2.1 (by omega) hhl hj x hxT
      refine lv_aload_n hx hb dc_TH_root_27 rfl (lv_fd hl rfl) ?_
      refine lv_iload_n hx hb dc_TH_root_28 rfl (lv_fd hl rfl) ?_
      refine gq_aload_n hx hb dc_TH_root_29 rfl (lv_fd hl rfl) ?_
      refine gk_cv (gk_rV F (b := h0) (As := [.int (nI j), va_rf (x.map G.1)]) (rest := []) (ct_TH_setRoot l E _ _ h x (fun n hn => hI.2.2.1 n (hxT n hn)) hj hcU (by omega) (Nat.le_trans hop.1 (by omega))) ww_153 ww_155 ws_TH_setRoot ww_1 ww_156 rfl rfl ⟨by decide, by decide, by show _ = some 2; decide +kernel⟩ ⟨Nat.le_of_ble_eq_true rfl, Nat.le_of_ble_eq_true rfl⟩ (gh_recv hK.1 hP h.1 rfl) hK hZ hP hS hA hl.1 rfl (Nat.le_of_ble_eq_true rfl) dc_TH_root_30 ⟨Nat.le_of_ble_eq_true rfl, Nat.le_of_ble_eq_true rfl⟩) hP hS hA (fun M1 H locs h1 hP hS => ?_)
      obtain ⟨c2, hc2, h1⟩ := h1
      obtain ⟨hV1, hh1, hT1⟩ := cs_V_of hop h1 hcT hc2 hcR
      refine lv_aload_n hx hb dc_TH_root_33 rfl (lv_fd hl rfl) ?_
      refine gh_get hx hb ht nu_TH hown hK.1 hP hh1 rfl 1 (by decide) (ht _ ww_51) (fun _ h9 => h9) rfl dc_TH_root_34 ?_
      refine gk_si (gk_rV F (b := G.2.2.2.1) (As := []) (rest := []) (ct_AL_size l E _ _ hT1) ww_73 ww_74 ww_75 ww_4 ww_76 rfl rfl ⟨by decide, by decide, by show _ = some 0; decide +kernel⟩ ⟨Nat.le_of_ble_eq_true rfl, Nat.le_of_ble_eq_true rfl⟩ (by obtain ⟨mk, el, hq, -⟩ := hT1; exact gh_recv hK.1 hP hq rfl) hK hZ hP hS hA hl.1 rfl (Nat.le_of_ble_eq_true rfl) dc_TH_root_37 ⟨Nat.le_of_ble_eq_true rfl, Nat.le_of_ble_eq_true rfl⟩) (fun r2 hr2 => ?_)
      rw [List.length_map] at hr2
      refine W.widen (k := 312) (n := 6240) (Nat.le_of_ble_eq_true rfl) (Nat.le_of_ble_eq_true rfl) ?_
      exact gk_ei hx hb hr hlk hP hS dc_TH_root_40 ⟨by rw [hq]; exact hr2, by rw [hq]; exact hV1⟩
    refine lv_aload_n hx hb dc_TH_root_9 rfl (lv_fd hl rfl) ?_
    refine lv_iload_n hx hb dc_TH_root_10 rfl (lv_fd hl rfl) ?_
    refine gk_sq (gk_rV F (b := h0) (As := [.int o]) (rest := []) (ct_TH_find l E _ _ h o hI.2.1 (by omega)) ww_220 ww_222 ws_TH_find ww_1 ww_223 rfl rfl ⟨by decide, by decide, by show _ = some 1; decide +kernel⟩ ⟨Nat.le_of_ble_eq_true rfl, Nat.le_of_ble_eq_true rfl⟩ (gh_recv hK.1 hP h.1 rfl) hK hZ hP hS hA hl.1 rfl (Nat.le_of_ble_eq_true rfl) dc_TH_root_11 ⟨Nat.le_of_ble_eq_true rfl, Nat.le_of_ble_eq_true rfl⟩) (fun r hr1 => ?_)
    rcases hr1 with ⟨n, hn, rfl, rfl⟩ | ⟨hno, rfl⟩
    · have hsn : sf_T V.2.1 (nI n) = some n := sf_of hTm hn rfl
      have hne : ¬ nI n = -1 := by
        intro q
        have := congrArg Int32.toInt q
        rw [nI_toInt (hTm n hn)] at this
        have e : (-1 : Int32).toInt = -1 := by decide
        omega
      refine lv_astore_n hx hb dc_TH_root_14 rfl hl (by decide) rfl (fun ls hl => ?_)
      refine lv_aload_n hx hb dc_TH_root_15 rfl (lv_fd hl rfl) ?_
      refine lv_ifnonnull (tgt := 27) hx hb dc_TH_root_16 (by decide) ?_
      exact tail (some n) ls (fun k hk => by rw [← Option.some.inj hk]; exact hn) (by unfold vq_root; rw [hsf]; dsimp only; rw [if_neg hne, hsn]) hl
    · have hsn : sf_T V.2.1 o = none := sf_none hno
      refine lv_astore_nN hx hb dc_TH_root_14 rfl hl (by decide) rfl (fun ls hl => ?_)
      refine lv_aload_nN hx hb dc_TH_root_15 rfl (lv_fd hl rfl) ?_
      refine lv_ifnonnullN hx hb dc_TH_root_16 ?_
      refine lv_iload_n hx hb dc_TH_root_19 rfl (lv_fd hl rfl) ?_
      refine lv_iconst (v := (-1)) hx hb dc_TH_root_20 (by decide) ?_
      refine lv_icmp_eq (tgt := 27) hx hb dc_TH_root_21 (by decide) (fun q => ?_) (fun q => ?_)
      · exact tail none ls (fun k hk => by cases hk) (by unfold vq_root; rw [hsf]; dsimp only; rw [if_pos q]) hl
      · have e : vq_root V (nI j) o = (-2, V) := by unfold vq_root; rw [hsf]; dsimp only; rw [if_neg q, hsn]
        refine lv_bipush (v := (-2)) hx hb dc_TH_root_24 (by decide) ?_
        refine W.widen (k := 312) (n := 6240) (Nat.le_of_ble_eq_true rfl) (Nat.le_of_ble_eq_true rfl) ?_
        exact gk_ei hx hb hr hlk hP hS dc_TH_root_26 ⟨by rw [e], by rw [e]; exact hV0⟩
  · have e : vq_root V k o = (-1, V) := by unfold vq_root; rw [sf_rn hno]
    refine lv_if_ne (tgt := 9) hx hb dc_TH_root_4 (by decide) (fun q => absurd rfl q) (fun _ => ?_)
    refine lv_iconst (v := (-1)) hx hb dc_TH_root_7 (by decide) ?_
    refine W.widen (k := 312) (n := 6240) (Nat.le_of_ble_eq_true rfl) (Nat.le_of_ble_eq_true rfl) ?_
    exact gk_ei hx hb hr hlk hP hS dc_TH_root_8 ⟨by rw [e], by rw [e]; exact hV0⟩
theorem ap_post {E : gk_E} {M : gh_M} {h0 N : Nat} {V : vv_V} {G : cs_G} {cT cU cR : Nat} {hld : Nat → Int32} {rch : Nat → Bool} (hI : vv_I N V) (hhl : ∀ n ∈ V.2.1, hld n = nI ((hd_all V.2.1 V.2.2.1 V.2.2.2).count n)) (hcT : cT ≤ 780) (hcU : cU ≤ 780) (hcR : cR ≤ 780) {n : Nat} (hn : n ∈ V.2.1) {x : Option Nat} (hx : ∀ q, x = some q → q ∈ V.2.1) {v r : Int32}
    (hp : (300 ≤ (V.2.2.2 n).length ∧ r = -3 ∧ cs_R E M h0 G V.1 V.2.1 [] [] cT cU cR V.2.2.1 V.2.2.2 hld rch) ∨ ((V.2.2.2 n).length < 300 ∧ r = nI ((V.2.2.2 n).length + 1) ∧ cs_R E M h0 G V.1 V.2.1 [] [] cT cU cR V.2.2.1 (va_up V.2.2.2 n (V.2.2.2 n ++ [(x, v)])) (cl_hold hld x) rch)) : r = (vq_app V n (x, v)).1 ∧ cs_V E M h0 (vq_app V n (x, v)).2 := by
  rcases hp with ⟨h1, h2, h3⟩ | ⟨h1, h2, h3⟩
  · have e : vq_app V n (x, v) = (-3, V) := if_pos h1
    rw [e]
    exact ⟨h2, G, cT, cU, cR, hld, rch, h3, hcT, hcU, hcR, hhl⟩
  · have e : vq_app V n (x, v) = (nI ((V.2.2.2 n).length + 1), V.1, V.2.1, V.2.2.1, va_up V.2.2.2 n (V.2.2.2 n ++ [(x, v)])) := if_neg (by omega)
    rw [e]
    exact ⟨h2, G, cT, cU, cR, cl_hold hld x, rch, h3, hcT, hcU, hcR, (op_app hI.1 hhl hn (x := (x, v)) hx).1⟩
set_option maxHeartbeats 4000000 in
set_option maxRecDepth 100000 in
theorem ct_TH_note (l : Launch) (E : gk_E) (M : gh_M) (sz : Nat) {h0 N : Nat} {V : vv_V} (hV : cs_V E M h0 V) (hI : vv_I N V) (hN : N ≤ 512) (k v : Int32) : Met l yn_TH_note (.code yn_TH_note cd_TH_note 4 (some FieldType.int) :: bw_L) { frames := 8, cells := 2, slots := 460, locals := 240 } (gk_Pre E [.ref h0, .int k, .int v] M sz) (va_Qi (fun r M' => r = (vq_note V k v).1 ∧ cs_V E M' h0 (vq_note V k v).2) (gk_B E M sz) (gh_A M sz)) 2 460 (gh_A M sz) := by
  refine gk_met rfl (Nat.le_of_ble_eq_true rfl) ?_
  intro p e s m below meth c F hsz hP hK hZ ls hl
  subst hsz
  have hx := F.1
  have hb := F.2.1
  have hr := F.2.2.1
  have hml := F.2.2.2.1
  have hown : s.vm.findClass "ThingHeap" = some m.cls := F.2.2.2.2.1
  have hlk := F.2.2.2.2.2.1
  have hnm := F.2.2.2.2.2.2.1
  have ht := fun (w : Cond) (h : w ∈ bw_L) => F.2.2.2.2.2.2.2 w (List.mem_cons_of_mem _ h)
  have hA : ∀ q, s.heap.size ≤ q → gh_A M s.heap.size q := fun q h => Or.inr h
  have hS : va_S (gh_A M s.heap.size) s.heap s.heap [] := va_S.rf
  have hl : lv_has ls 4 [(0, .ref h0), (1, .int k), (2, .int v)] := hl
  have hV0 := hV
  obtain ⟨G, cT, cU, cR, hld, rch, h, hcT, hcU, hcR, hhl⟩ := hV
  have hTl := vv_len hI
  have hmN := hI.2.2.2.2
  have hTm : ∀ k ∈ V.2.1, k < 2 ^ 31 := fun k hk => by have := hI.2.2.1 k hk; omega
  refine lv_aload_n hx hb dc_TH_note_0 rfl (lv_fd hl rfl) ?_
  refine lv_iload_n hx hb dc_TH_note_1 rfl (lv_fd hl rfl) ?_
  refine gk_sq (gk_rV F (b := h0) (As := [.int k]) (rest := []) (ct_TH_find l E _ _ h k hI.2.1 (by omega)) ww_220 ww_222 ws_TH_find ww_1 ww_223 rfl rfl ⟨by decide, by decide, by show _ = some 1; decide +kernel⟩ ⟨Nat.le_of_ble_eq_true rfl, Nat.le_of_ble_eq_true rfl⟩ (gh_recv hK.1 hP h.1 rfl) hK hZ hP hS hA hl.1 rfl (Nat.le_of_ble_eq_true rfl) dc_TH_note_2 ⟨Nat.le_of_ble_eq_true rfl, Nat.le_of_ble_eq_true rfl⟩) (fun r hr1 => ?_)
  rcases hr1 with ⟨n, hn, rfl, rfl⟩ | ⟨hno, rfl⟩
  · have hsf : sf_T V.2.1 (nI n) = some n := sf_of hTm hn rfl
    have e : vq_note V (nI n) v = vq_app V n (none, v) := by unfold vq_note; rw [hsf]
    refine lv_astore_n hx hb dc_TH_note_5 rfl hl (by decide) rfl (fun ls hl => ?_)
    refine lv_aload_n hx hb dc_TH_note_6 rfl (lv_fd hl rfl) ?_
    refine lv_ifnonnull (tgt := 13) hx hb dc_TH_note_7 (by decide) ?_
    refine lv_aload_n hx hb dc_TH_note_13 rfl (lv_fd hl rfl) ?_
    refine lv_aload_n hx hb dc_TH_note_14 rfl (lv_fd hl rfl) ?_
    refine lv_null hx hb dc_TH_note_15 ?_
    refine lv_iload_n hx hb dc_TH_note_16 rfl (lv_fd hl rfl) ?_
    refine gk_ci (gk_rV F (b := h0) (As := [.ref (G.1 n), .null, .int v]) (rest := []) (ct_TH_append l E _ _ h (hI.2.2.1 n hn) none (fun n hn => by cases hn) v (hI.2.2.2.1 n)) ww_228 ww_230 ws_TH_append ww_1 ww_231 rfl rfl ⟨by decide, by decide, by show _ = some 3; decide +kernel⟩ ⟨Nat.le_of_ble_eq_true rfl, Nat.le_of_ble_eq_true rfl⟩ (gh_recv hK.1 hP h.1 rfl) hK hZ hP hS hA hl.1 rfl (Nat.le_of_ble_eq_true rfl) dc_TH_note_17 ⟨Nat.le_of_ble_eq_true rfl, Nat.le_of_ble_eq_true rfl⟩) hP hS hA (fun r M1 H locs h1 hP hS => ?_)
    exact gk_ei hx hb hr hlk hP hS dc_TH_note_20 (by rw [e]; exact ap_post hI hhl hcT hcU hcR hn (fun q hq => by cases hq) h1)
  · have e : vq_note V k v = (-2, V) := by unfold vq_note; rw [sf_none hno]
    refine lv_astore_nN hx hb dc_TH_note_5 rfl hl (by decide) rfl (fun ls hl => ?_)
    refine lv_aload_nN hx hb dc_TH_note_6 rfl (lv_fd hl rfl) ?_
    refine lv_ifnonnullN hx hb dc_TH_note_7 ?_
    refine lv_bipush (v := (-2)) hx hb dc_TH_note_10 (by decide) ?_
    refine W.widen (k := 2) (n := 460) (Nat.le_of_ble_eq_true rfl) (Nat.le_of_ble_eq_true rfl) ?_
    exact gk_ei hx hb hr hlk hP hS dc_TH_note_12 ⟨by rw [e], by rw [e]; exact hV0⟩
set_option maxHeartbeats 4000000 in
set_option maxRecDepth 100000 in
theorem ct_TH_point (l : Launch) (E : gk_E) (M : gh_M) (sz : Nat) {h0 N : Nat} {V : vv_V} (hV : cs_V E M h0 V) (hI : vv_I N V) (hN : N ≤ 512) (k i : Int32) : Met l yn_TH_point (.code yn_TH_point cd_TH_point 5 (some FieldType.int) :: bw_L) { frames := 8, cells := 2, slots := 460, locals := 240 } (gk_Pre E [.ref h0, .int k, .int i] M sz) (va_Qi (fun r M' => r = (vq_point V k i).1 ∧ cs_V E M' h0 (vq_point V k i).2) (gk_B E M sz) (gh_A M sz)) 2 460 (gh_A M sz) := by
  refine gk_met rfl (Nat.le_of_ble_eq_true rfl) ?_
  intro p e s m below meth c F hsz hP hK hZ ls hl
  subst hsz
  have hx := F.1
  have hb := F.2.1
  have hr := F.2.2.1
  have hml := F.2.2.2.1
  have hown : s.vm.findClass "ThingHeap" = some m.cls := F.2.2.2.2.1
  have hlk := F.2.2.2.2.2.1
  have hnm := F.2.2.2.2.2.2.1
  have ht := fun (w : Cond) (h : w ∈ bw_L) => F.2.2.2.2.2.2.2 w (List.mem_cons_of_mem _ h)
  have hA : ∀ q, s.heap.size ≤ q → gh_A M s.heap.size q := fun q h => Or.inr h
  have hS : va_S (gh_A M s.heap.size) s.heap s.heap [] := va_S.rf
  have hl : lv_has ls 5 [(0, .ref h0), (1, .int k), (2, .int i)] := hl
  have hV0 := hV
  obtain ⟨G, cT, cU, cR, hld, rch, h, hcT, hcU, hcR, hhl⟩ := hV
  have hTl := vv_len hI
  have hmN := hI.2.2.2.2
  have hTm : ∀ k ∈ V.2.1, k < 2 ^ 31 := fun k hk => by have := hI.2.2.1 k hk; omega
  have no : ∀ ls, vq_point V k i = (-2, V) → W p l e ({ frames := 8, cells := 2, slots := 460, locals := 240 } : Room) s m ([.ref h0, .int k, .int i] : List Value).toArray below meth c s.heap [] (0 + 0 + 0) (0 + 0 + 0) (MQ below (va_Qi (fun r M' => r = (vq_point V k i).1 ∧ cs_V E M' h0 (vq_point V k i).2) (gk_B E M s.heap.size) (gh_A M s.heap.size)) ([.ref h0, .int k, .int i] : List Value).toArray s 2 460 (gh_A M s.heap.size)) (F0 m 22 ls []) := by
    intro ls e
    refine lv_bipush (v := (-2)) hx hb dc_TH_point_22 (by decide) ?_
    refine W.widen (k := 2) (n := 460) (Nat.le_of_ble_eq_true rfl) (Nat.le_of_ble_eq_true rfl) ?_
    exact gk_ei hx hb hr hlk hP hS dc_TH_point_24 ⟨by rw [e], by rw [e]; exact hV0⟩
  refine lv_aload_n hx hb dc_TH_point_0 rfl (lv_fd hl rfl) ?_
  refine lv_iload_n hx hb dc_TH_point_1 rfl (lv_fd hl rfl) ?_
  refine gk_sq (gk_rV F (b := h0) (As := [.int k]) (rest := []) (ct_TH_find l E _ _ h k hI.2.1 (by omega)) ww_220 ww_222 ws_TH_find ww_1 ww_223 rfl rfl ⟨by decide, by decide, by show _ = some 1; decide +kernel⟩ ⟨Nat.le_of_ble_eq_true rfl, Nat.le_of_ble_eq_true rfl⟩ (gh_recv hK.1 hP h.1 rfl) hK hZ hP hS hA hl.1 rfl (Nat.le_of_ble_eq_true rfl) dc_TH_point_2 ⟨Nat.le_of_ble_eq_true rfl, Nat.le_of_ble_eq_true rfl⟩) (fun r1 hr1 => ?_)
  refine gq_astore_n (lv' := [(3, va_rf r1), (0, .ref h0), (1, .int k), (2, .int i)]) hx hb dc_TH_point_5 rfl hl (by decide) rfl (fun ls hl => ?_)
  refine lv_aload_n hx hb dc_TH_point_6 rfl (lv_fd hl rfl) ?_
  refine lv_iload_n hx hb dc_TH_point_7 rfl (lv_fd hl rfl) ?_
  refine gk_sq (gk_rV F (b := h0) (As := [.int i]) (rest := []) (ct_TH_find l E _ _ h i hI.2.1 (by omega)) ww_220 ww_222 ws_TH_find ww_1 ww_223 rfl rfl ⟨by decide, by decide, by show _ = some 1; decide +kernel⟩ ⟨Nat.le_of_ble_eq_true rfl, Nat.le_of_ble_eq_true rfl⟩ (gh_recv hK.1 hP h.1 rfl) hK hZ hP hS hA hl.1 rfl (Nat.le_of_ble_eq_true rfl) dc_TH_point_8 ⟨Nat.le_of_ble_eq_true rfl, Nat.le_of_ble_eq_true rfl⟩) (fun r2 hr2 => ?_)
  refine gq_astore (lv' := [(4, va_rf r2), (3, va_rf r1), (0, .ref h0), (1, .int k), (2, .int i)]) hx hb dc_TH_point_11 hl (by decide) (by cases r1 <;> rfl) (fun ls hl => ?_)
  refine gq_aload_n hx hb dc_TH_point_13 rfl (lv_fd hl rfl) ?_
  refine gq_ifnull (tgt := 22) hx hb dc_TH_point_14 (by decide) (fun q => ?_) (fun a1 q => ?_)
  · rcases hr1 with ⟨n, -, -, rfl⟩ | ⟨hno, -⟩
    · cases q
    · exact no ls (by unfold vq_point; rw [sf_none hno])
  rcases hr1 with ⟨n, hn, rfl, rfl⟩ | ⟨-, rfl⟩
  rotate_left
  · cases q
  have hsf : sf_T V.2.1 (nI n) = some n := sf_of hTm hn rfl
  refine gq_aload hx hb dc_TH_point_17 (lv_fd hl rfl) ?_
  refine gq_ifnonnull (tgt := 25) hx hb dc_TH_point_19 (by decide) (fun q => ?_) (fun a2 q2 => ?_)
  · rcases hr2 with ⟨n, -, -, rfl⟩ | ⟨hno, -⟩
    · cases q
    · exact no ls (by unfold vq_point; rw [hsf]; dsimp only; rw [sf_none hno])
  rcases hr2 with ⟨n2, hn2, rfl, rfl⟩ | ⟨-, rfl⟩
  rotate_left
  · cases q2
  have hsf2 : sf_T V.2.1 (nI n2) = some n2 := sf_of hTm hn2 rfl
  have e : vq_point V (nI n) (nI n2) = vq_app V n (some n2, nI 0) := by unfold vq_point; rw [hsf]; dsimp only; rw [hsf2, nI_0]
  have hl : lv_has ls 5 [(4, .ref (G.1 n2)), (3, .ref (G.1 n)), (0, .ref h0), (1, .int (nI n)), (2, .int (nI n2))] := hl
  refine lv_aload_n hx hb dc_TH_point_25 rfl (lv_fd hl rfl) ?_
  refine lv_aload_n hx hb dc_TH_point_26 rfl (lv_fd hl rfl) ?_
  refine lv_aload hx hb dc_TH_point_27 (lv_fd hl rfl) ?_
  refine lv_iconst (v := nI 0) hx hb dc_TH_point_29 (by decide) ?_
  refine gk_ci (gk_rV F (b := h0) (As := [.ref (G.1 n), .ref (G.1 n2), .int (nI 0)]) (rest := []) (ct_TH_append l E _ _ h (hI.2.2.1 n hn) (some n2) (fun k hk => by rw [← Option.some.inj hk]; exact hI.2.2.1 n2 hn2) (nI 0) (hI.2.2.2.1 n)) ww_228 ww_230 ws_TH_append ww_1 ww_231 rfl rfl ⟨by decide, by decide, by show _ = some 3; decide +kernel⟩ ⟨Nat.le_of_ble_eq_true rfl, Nat.le_of_ble_eq_true rfl⟩ (gh_recv hK.1 hP h.1 rfl) hK hZ hP hS hA hl.1 rfl (Nat.le_of_ble_eq_true rfl) dc_TH_point_30 ⟨Nat.le_of_ble_eq_true rfl, Nat.le_of_ble_eq_true rfl⟩) hP hS hA (fun r M1 H locs h1 hP hS => ?_)
  exact gk_ei hx hb hr hlk hP hS dc_TH_point_33 (by rw [e]; exact ap_post hI hhl hcT hcU hcR hn (fun q hq => by rw [← Option.some.inj hq]; exact hn2) h1)
