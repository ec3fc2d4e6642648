theorem cl_ru_none {f i : Nat} {st : cl_S} (h : st.2.2[i]? = none) : cl_ru (f + 1) i st = st := by
  show (match st.2.2[i]? with | none => st | some u => cl_ru f (i + 1) (cl_drop st u)) = _
  rw [h]
theorem cl_ru_some {f i u : Nat} {st : cl_S} (h : st.2.2[i]? = some u) : cl_ru (f + 1) i st = cl_ru f (i + 1) (cl_drop st u) := by
  show (match st.2.2[i]? with | none => st | some u => cl_ru f (i + 1) (cl_drop st u)) = _
  rw [h]
theorem cl_ru_len : ∀ (f i : Nat) (st : cl_S), st.2.2.length ≤ (cl_ru f i st).2.2.length
  | 0, _, _ => Nat.le_refl _
  | f + 1, i, st => by
    unfold cl_ru
    cases hi : st.2.2[i]? with
    | none => exact Nat.le_refl _
    | some u =>
      have h1 := cl_ru_len f (i + 1) (cl_drop st u)
      have h2 := dr_len (st.1 u) st.2
      have h2 : st.2.2.length ≤ (cl_drop st u).2.2.length := h2
      exact Nat.le_trans h2 h1
set_option maxHeartbeats 4000000 in
set_option maxRecDepth 100000 in
theorem ct_TH_removeUnheld (l : Launch) (E : gk_E) (M : gh_M) (sz : Nat) {h0 made cT cU cR : Nat} {G : cs_G} {T U R : List Nat} {root : Nat → Option Nat} {row : Nat → List it_I} {hld : Nat → Int32} {rch : Nat → Bool} (h : cs_R E M h0 G made T U R cT cU cR root row hld rch) (hcU : cU ≤ 780) (hTl : T.length ≤ 520) (hlen : (cl_ru T.length 0 (row, hld, U)).2.2.length ≤ 520) : Met l yn_TH_removeUnheld (.code yn_TH_removeUnheld cd_TH_removeUnheld 3 none :: bw_L) { frames := 9, cells := 156, slots := 3120, locals := 260 } (gk_Pre E [.ref h0] M sz) (va_Qv (fun M' => ∃ c2, c2 ≤ 780 ∧ cs_R E M' h0 G made (cl_rem T (row, hld, U)).1 (cl_rem T (row, hld, U)).2.2.2 R cT c2 cR root (cl_rem T (row, hld, U)).2.1 (cl_rem T (row, hld, U)).2.2.1 rch) (gk_B E M sz) (gh_A M sz)) 156 3120 (gh_A M sz) := by
  refine gk_met rfl (Nat.le_of_ble_eq_true rfl) ?_
  intro p e s m below meth c F hsz hP hK hZ ls hl
  subst hsz
  have hx := F.1
  have hb := F.2.1
  have hr := F.2.2.1
  have hml := F.2.2.2.1
  have hown : s.vm.findClass "ThingHeap" = some m.cls := F.2.2.2.2.1
  have hlk := F.2.2.2.2.2.1
  have hnm := F.2.2.2.2.2.2.1
  have ht := fun (w : Cond) (h : w ∈ bw_L) => F.2.2.2.2.2.2.2 w (List.mem_cons_of_mem _ h)
  have hA : ∀ q, s.heap.size ≤ q → gh_A M s.heap.size q := fun q h => Or.inr h
  have hS : va_S (gh_A M s.heap.size) s.heap s.heap [] := va_S.rf
  have hl : lv_has ls 3 [(0, .ref h0)] := hl
  have hmlT : (T.map G.1).length = T.length := List.length_map _
  have tail : ∀ (M2 : gh_M) (H : Heap) (locs : List Loc) (ls : Array Slot) (ci : Nat) (st : cl_S), st = cl_ru T.length 0 (row, hld, U) → lv_has ls 3 [(0, .ref h0)] → gh_P E.1 cl_L (gh_A M s.heap.size) M2 H → va_S (gh_A M s.heap.size) s.heap H locs → cs_R E M2 h0 G made T st.2.2 R cT ci cR root st.1 st.2.1 rch → ci ≤ 780 →
      W p l e ({ frames := 9, cells := 156, slots := 3120, locals := 260 } : Room) s m ([.ref h0] : List Value).toArray below meth c H locs ((ci - cU) / 5) (4 * (ci - cU)) (MQ below (va_Qv (fun M' => ∃ c2, c2 ≤ 780 ∧ cs_R E M' h0 G made (cl_rem T (row, hld, U)).1 (cl_rem T (row, hld, U)).2.2.2 R cT c2 cR root (cl_rem T (row, hld, U)).2.1 (cl_rem T (row, hld, U)).2.2.1 rch) (gk_B E M s.heap.size) (gh_A M s.heap.size)) ([.ref h0] : List Value).toArray s 156 3120 (gh_A M s.heap.size)) (F0 m 47 ls []) := by
    intro M2 H locs ls ci st hst hl hP hS h2 hci
    have hrm : cl_rem T (row, hld, U) = cl_keep T st := by rw [hst]; rfl
    refine lv_aload_n hx hb dc_TH_removeUnheld_47 rfl (lv_fd hl rfl) ?_
    refine gh_get hx hb ht nu_TH hown hK.1 hP h2.1 rfl 2 (by decide) (ht _ ww_52) (fun _ h9 => h9) rfl dc_TH_removeUnheld_48 ?_
    refine gk_si (gk_rV F (b := G.2.2.2.2.1) (As := []) (rest := []) (ct_AL_isEmpty l E _ _ h2.2.2.2.1) ww_195 ww_196 ww_197 ww_4 ww_198 rfl rfl ⟨by decide, by decide, by show _ = some 0; decide +kernel⟩ ⟨Nat.le_of_ble_eq_true rfl, Nat.le_of_ble_eq_true rfl⟩ (by obtain ⟨mk, el, hq, -⟩ := h2.2.2.2.1; exact gh_recv hK.1 hP hq rfl) hK hZ hP hS hA hl.1 rfl (Nat.le_of_ble_eq_true rfl) dc_TH_removeUnheld_51 ⟨by show (ci - cU) / 5 + 0 ≤ 156; omega, by show 4 * (ci - cU) + 0 ≤ 3120; omega⟩) (fun r hr1 => ?_)
    rcases hr1 with ⟨rfl, hU0⟩ | ⟨rfl, hU0⟩
    · have hU0 : st.2.2 = [] := List.map_eq_nil_iff.mp hU0
      refine lv_if_ne (tgt := 68) hx hb dc_TH_removeUnheld_54 (by decide) (fun _ => ?_) (fun q => absurd q (by decide))
      refine W.widen (k := 156) (n := 3120) (by omega) (by omega) ?_
      refine gk_ev hx hb hr hlk hP hS dc_TH_removeUnheld_68 ⟨ci, hci, ?_⟩
      rw [hrm]
      unfold cl_keep
      rw [if_pos hU0]
      exact h2
    · have hU0 : st.2.2 ≠ [] := fun q => hU0 (by rw [q]; rfl)
      refine lv_if_ne (tgt := 68) hx hb dc_TH_removeUnheld_54 (by decide) (fun q => absurd rfl q) (fun _ => ?_)
      refine lv_aload_n hx hb dc_TH_removeUnheld_57 rfl (lv_fd hl rfl) ?_
      refine gk_cv (gk_rV F (b := h0) (As := []) (rest := []) (ct_TH_keepHeld l E _ _ h2 h2.2.2.2.2.2.2.2.2.2.2.2.2) ww_199 ww_201 ws_TH_keepHeld ww_1 ww_202 rfl rfl ⟨by decide, by decide, by show _ = some 0; decide +kernel⟩ ⟨Nat.le_of_ble_eq_true rfl, Nat.le_of_ble_eq_true rfl⟩ (gh_recv hK.1 hP h2.1 rfl) hK hZ hP hS hA hl.1 rfl (Nat.le_of_ble_eq_true rfl) dc_TH_removeUnheld_58 ⟨by show (ci - cU) / 5 + 0 ≤ 156; omega, by show 4 * (ci - cU) + 0 ≤ 3120; omega⟩) hP hS hA (fun M3 H locs h3 hP hS => ?_)
      refine lv_aload_n hx hb dc_TH_removeUnheld_61 rfl (lv_fd hl rfl) ?_
      refine gh_get hx hb ht nu_TH hown hK.1 hP h3.1 rfl 2 (by decide) (ht _ ww_52) (fun _ h9 => h9) rfl dc_TH_removeUnheld_62 ?_
      refine gk_cv (gk_rV F (b := G.2.2.2.2.1) (As := []) (rest := []) (ct_AL_clear l E _ _ h3.2.2.2.1) ww_191 ww_192 ww_193 ww_4 ww_194 rfl rfl ⟨by decide, by decide, by show _ = some 0; decide +kernel⟩ ⟨Nat.le_of_ble_eq_true rfl, Nat.le_of_ble_eq_true rfl⟩ (by obtain ⟨mk, el, hq, -⟩ := h3.2.2.2.1; exact gh_recv hK.1 hP hq rfl) hK hZ hP hS hA hl.1 rfl (Nat.le_of_ble_eq_true rfl) dc_TH_removeUnheld_65 ⟨by show (ci - cU) / 5 + 0 + 0 ≤ 156; omega, by show 4 * (ci - cU) + 0 + 0 ≤ 3120; omega⟩) hP hS hA (fun M4 H locs h4 hP hS => ?_)
      refine W.widen (k := 156) (n := 3120) (by omega) (by omega) ?_
      refine gk_ev hx hb hr hlk hP hS dc_TH_removeUnheld_68 ⟨ci, hci, ?_⟩
      rw [hrm]
      unfold cl_keep
      rw [if_neg hU0]
      exact h3.setU (U' := []) h4.1 h4.2 (fun n hn => by cases hn)
  have loop : ∀ (f i : Nat) (M2 : gh_M) (H : Heap) (locs : List Loc) (ls : Array Slot) (ci : Nat) (st : cl_S), f + i = T.length → cl_ru f i st = cl_ru T.length 0 (row, hld, U) → lv_has ls 3 [(0, .ref h0), (1, .int (nI T.length)), (2, .int (nI i))] → gh_P E.1 cl_L (gh_A M s.heap.size) M2 H → va_S (gh_A M s.heap.size) s.heap H locs → cs_R E M2 h0 G made T st.2.2 R cT ci cR root st.1 st.2.1 rch → cU ≤ ci → ci ≤ 780 →
      W p l e ({ frames := 9, cells := 156, slots := 3120, locals := 260 } : Room) s m ([.ref h0] : List Value).toArray below meth c H locs ((ci - cU) / 5) (4 * (ci - cU)) (MQ below (va_Qv (fun M' => ∃ c2, c2 ≤ 780 ∧ cs_R E M' h0 G made (cl_rem T (row, hld, U)).1 (cl_rem T (row, hld, U)).2.2.2 R cT c2 cR root (cl_rem T (row, hld, U)).2.1 (cl_rem T (row, hld, U)).2.2.1 rch) (gk_B E M s.heap.size) (gh_A M s.heap.size)) ([.ref h0] : List Value).toArray s 156 3120 (gh_A M s.heap.size)) (F0 m 10 ls []) := by
    intro f
    induction f with
    | zero =>
      intro i M2 H locs ls ci st hfi hst hl hP hS h2 hc1 hc2
      have hml2 : (st.2.2.map G.1).length = st.2.2.length := List.length_map _
      have hln := h2.2.2.2.1.len
      rw [hml2] at hln
      refine lv_iload_n hx hb dc_TH_removeUnheld_10 rfl (lv_fd hl rfl) ?_
      refine lv_aload_n hx hb dc_TH_removeUnheld_11 rfl (lv_fd hl rfl) ?_
      refine gh_get hx hb ht nu_TH hown hK.1 hP h2.1 rfl 2 (by decide) (ht _ ww_52) (fun _ h9 => h9) rfl dc_TH_removeUnheld_12 ?_
      refine gk_si (gk_rV F (b := G.2.2.2.2.1) (As := []) (rest := [.int (nI i)]) (ct_AL_size l E _ _ h2.2.2.2.1) ww_73 ww_74 ww_75 ww_4 ww_76 rfl rfl ⟨by decide, by decide, by show _ = some 0; decide +kernel⟩ ⟨Nat.le_of_ble_eq_true rfl, Nat.le_of_ble_eq_true rfl⟩ (by obtain ⟨mk, el, hq, -⟩ := h2.2.2.2.1; exact gh_recv hK.1 hP hq rfl) hK hZ hP hS hA hl.1 rfl (Nat.le_of_ble_eq_true rfl) dc_TH_removeUnheld_15 ⟨by show (ci - cU) / 5 + 0 ≤ 156; omega, by show 4 * (ci - cU) + 0 ≤ 3120; omega⟩) (fun r hr1 => ?_)
      rw [hml2] at hr1
      subst hr1
      refine gn_ge (tgt := 47) hx hb (by omega) (by omega) dc_TH_removeUnheld_18 (by decide) (fun _ => tail M2 H locs ls ci st hst (lv_sub hl [0] rfl) hP hS h2 hc2) (fun _ => ?_)
      refine lv_iload_n hx hb dc_TH_removeUnheld_21 rfl (lv_fd hl rfl) ?_
      refine lv_iload_n hx hb dc_TH_removeUnheld_22 rfl (lv_fd hl rfl) ?_
      exact gn_ge (tgt := 47) hx hb (by omega) (by omega) dc_TH_removeUnheld_23 (by decide) (fun _ => tail M2 H locs ls ci st hst (lv_sub hl [0] rfl) hP hS h2 hc2) (fun q => absurd q (by omega))
    | succ f ih =>
      intro i M2 H locs ls ci st hfi hst hl hP hS h2 hc1 hc2
      have hml2 : (st.2.2.map G.1).length = st.2.2.length := List.length_map _
      have hln := h2.2.2.2.1.len
      have hcap := h2.2.2.2.1.cap
      rw [hml2] at hln
      refine lv_iload_n hx hb dc_TH_removeUnheld_10 rfl (lv_fd hl rfl) ?_
      refine lv_aload_n hx hb dc_TH_removeUnheld_11 rfl (lv_fd hl rfl) ?_
      refine gh_get hx hb ht nu_TH hown hK.1 hP h2.1 rfl 2 (by decide) (ht _ ww_52) (fun _ h9 => h9) rfl dc_TH_removeUnheld_12 ?_
      refine gk_si (gk_rV F (b := G.2.2.2.2.1) (As := []) (rest := [.int (nI i)]) (ct_AL_size l E _ _ h2.2.2.2.1) ww_73 ww_74 ww_75 ww_4 ww_76 rfl rfl ⟨by decide, by decide, by show _ = some 0; decide +kernel⟩ ⟨Nat.le_of_ble_eq_true rfl, Nat.le_of_ble_eq_true rfl⟩ (by obtain ⟨mk, el, hq, -⟩ := h2.2.2.2.1; exact gh_recv hK.1 hP hq rfl) hK hZ hP hS hA hl.1 rfl (Nat.le_of_ble_eq_true rfl) dc_TH_removeUnheld_15 ⟨by show (ci - cU) / 5 + 0 ≤ 156; omega, by show 4 * (ci - cU) + 0 ≤ 3120; omega⟩) (fun r hr1 => ?_)
      rw [hml2] at hr1
      subst hr1
      refine gn_ge (tgt := 47) hx hb (by omega) (by omega) dc_TH_removeUnheld_18 (by decide) (fun hge => ?_) (fun hlt => ?_)
      · rw [cl_ru_none (List.getElem?_eq_none hge)] at hst
        exact tail M2 H locs ls ci st hst (lv_sub hl [0] rfl) hP hS h2 hc2
      · refine lv_iload_n hx hb dc_TH_removeUnheld_21 rfl (lv_fd hl rfl) ?_
        refine lv_iload_n hx hb dc_TH_removeUnheld_22 rfl (lv_fd hl rfl) ?_
        refine gn_ge (tgt := 47) hx hb (by omega) (by omega) dc_TH_removeUnheld_23 (by decide) (fun q => absurd q (by omega)) (fun _ => ?_)
        obtain ⟨u, hu⟩ : ∃ u, st.2.2[i]? = some u := ⟨st.2.2[i], List.getElem?_eq_getElem hlt⟩
        rw [cl_ru_some hu] at hst
        have hum := h2.2.2.2.2.2.2.2.2.1 u (List.mem_of_getElem? hu)
        have hth : M2 (G.1 u) = some (6 + 2 * u, .inr (2, [.int (nI u), .ref (G.2.1 u), .int (st.2.1 u), .int (cs_B (rch u))])) := h2.2.2.2.2.2.1 u hum
        have hd1 := cl_ru_len f (i + 1) (cl_drop st u)
        rw [hst] at hd1
        have hd1 : (dr_f (st.1 u) st.2).2.length ≤ (cl_ru T.length 0 (row, hld, U)).2.2.length := hd1
        have hd2 := dr_len (st.1 u) st.2
        obtain ⟨rw2, hl2, U2⟩ := st
        have hd1 : (dr_f (rw2 u) (hl2, U2)).2.length ≤ (cl_ru T.length 0 (row, hld, U)).2.2.length := hd1
        have hd2 : U2.length ≤ (dr_f (rw2 u) (hl2, U2)).2.length := hd2
        have hdc1 : ci ≤ dr_c rw2 (hl2, U2) ci u := (al_to_ok _ _ hcap _).2
        have hdc2 : dr_c rw2 (hl2, U2) ci u ≤ 780 := al_to_le hc2 (by decide) _ (by show U2.length + ((dr_f (rw2 u) (hl2, U2)).2.length - U2.length) + (U2.length + ((dr_f (rw2 u) (hl2, U2)).2.length - U2.length)) / 2 ≤ 780; omega)
        refine lv_aload_n hx hb dc_TH_removeUnheld_26 rfl (lv_fd hl rfl) ?_
        refine lv_aload_n hx hb dc_TH_removeUnheld_27 rfl (lv_fd hl rfl) ?_
        refine gh_get hx hb ht nu_TH hown hK.1 hP h2.1 rfl 2 (by decide) (ht _ ww_52) (fun _ h9 => h9) rfl dc_TH_removeUnheld_28 ?_
        refine lv_iload_n hx hb dc_TH_removeUnheld_31 rfl (lv_fd hl rfl) ?_
        refine gk_sq (gk_rV F (b := G.2.2.2.2.1) (As := [.int (nI i)]) (rest := [.ref h0]) (ct_AL_get l E _ _ (j := i) h2.2.2.2.1 (by rw [hml2]; exact hlt)) ww_172 ww_173 ww_174 ww_4 ww_175 rfl rfl ⟨by decide, by decide, by show _ = some 1; decide +kernel⟩ ⟨Nat.le_of_ble_eq_true rfl, Nat.le_of_ble_eq_true rfl⟩ (by obtain ⟨mk, el, hq, -⟩ := h2.2.2.2.1; exact gh_recv hK.1 hP hq rfl) hK hZ hP hS hA hl.1 rfl (Nat.le_of_ble_eq_true rfl) dc_TH_removeUnheld_32 ⟨by show (ci - cU) / 5 + 0 ≤ 156; omega, by show 4 * (ci - cU) + 0 ≤ 3120; omega⟩) (fun r hr2 => ?_)
        have hr2 : r = some (G.1 u) := by rw [hr2, List.getElem?_map, hu]; rfl
        subst hr2
        refine va_castE hx hb hown (ht _ ww_22) (gh_recv hK.1 hP hth rfl) dc_TH_removeUnheld_35 ?_
        refine gk_cv (gk_rV F (b := h0) (As := [.ref (G.1 u)]) (rest := []) (ct_TH_dropItems l E _ _ h2 hum hc2 (by show (dr_f (rw2 u) (hl2, U2)).2.length ≤ 520; omega)) ww_186 ww_188 ws_TH_dropItems ww_1 ww_189 rfl rfl ⟨by decide, by decide, by show _ = some 1; decide +kernel⟩ ⟨Nat.le_of_ble_eq_true rfl, Nat.le_of_ble_eq_true rfl⟩ (gh_recv hK.1 hP h2.1 rfl) hK hZ hP hS hA hl.1 rfl (Nat.le_of_ble_eq_true rfl) dc_TH_removeUnheld_38 ⟨by show (ci - cU) / 5 + (dr_c rw2 (hl2, U2) ci u - ci) / 5 ≤ 156; omega, by show 4 * (ci - cU) + 4 * (dr_c rw2 (hl2, U2) ci u - ci) ≤ 3120; omega⟩) hP hS hA (fun M3 H locs h3 hP hS => ?_)
        refine lv_iinc (k := 2) (v := nI (i + 1)) hx hb dc_TH_removeUnheld_41 hl rfl (gh_inc i) (by decide) rfl (fun ls hl => ?_)
        refine lv_goto (tgt := 10) hx hb dc_TH_removeUnheld_44 (by decide) ?_
        refine W.widen (k := (dr_c rw2 (hl2, U2) ci u - cU) / 5) (n := 4 * (dr_c rw2 (hl2, U2) ci u - cU)) (by show (ci - cU) / 5 + (dr_c rw2 (hl2, U2) ci u - ci) / 5 ≤ _; omega) (by show 4 * (ci - cU) + 4 * (dr_c rw2 (hl2, U2) ci u - ci) ≤ _; omega) ?_
        exact ih (i + 1) M3 H locs ls _ (cl_drop (rw2, hl2, U2) u) (by omega) hst (lv_sub hl [1, 2, 0] rfl) hP hS h3 (by omega) hdc2
  refine lv_aload_n hx hb dc_TH_removeUnheld_0 rfl (lv_fd hl rfl) ?_
  refine gh_get hx hb ht nu_TH hown hK.1 hP h.1 rfl 1 (by decide) (ht _ ww_51) (fun _ h9 => h9) rfl dc_TH_removeUnheld_1 ?_
  refine gk_si (gk_rV F (b := G.2.2.2.1) (As := []) (rest := []) (ct_AL_size l E _ _ h.2.2.1) ww_73 ww_74 ww_75 ww_4 ww_76 rfl rfl ⟨by decide, by decide, by show _ = some 0; decide +kernel⟩ ⟨Nat.le_of_ble_eq_true rfl, Nat.le_of_ble_eq_true rfl⟩ (by obtain ⟨mk, el, hq, -⟩ := h.2.2.1; exact gh_recv hK.1 hP hq rfl) hK hZ hP hS hA hl.1 rfl (Nat.le_of_ble_eq_true rfl) dc_TH_removeUnheld_4 ⟨Nat.le_of_ble_eq_true rfl, Nat.le_of_ble_eq_true rfl⟩) (fun r hr1 => ?_)
  rw [hmlT] at hr1
  subst hr1
  refine lv_istore_n hx hb dc_TH_removeUnheld_7 rfl hl (by decide) rfl (fun ls hl => ?_)
  refine lv_iconst (v := nI 0) hx hb dc_TH_removeUnheld_8 (by decide) ?_
  refine lv_istore_n hx hb dc_TH_removeUnheld_9 rfl hl (by decide) rfl (fun ls hl => ?_)
  have hw := loop T.length 0 M s.heap [] ls cU (row, hld, U) (by omega) rfl (lv_sub hl [2, 1, 0] rfl) hP hS h (Nat.le_refl _) hcU
  rw [Nat.sub_self] at hw
  exact hw
set_option maxHeartbeats 4000000 in
set_option maxRecDepth 100000 in
theorem ct_TH_release (l : Launch) (E : gk_E) (M : gh_M) (sz : Nat) {h0 made cT cU cR : Nat} {G : cs_G} {T U R : List Nat} {root : Nat → Option Nat} {row : Nat → List it_I} {hld : Nat → Int32} {rch : Nat → Bool} (h : cs_R E M h0 G made T U R cT cU cR root row hld rch) (x : Option Nat) (hx0 : ∀ n, x = some n → n < made) (hcU : cU ≤ 780) (hTl : T.length ≤ 520) (hlen : (cl_ru T.length 0 (row, cl_lose (hld, U) x)).2.2.length ≤ 520) : Met l yn_TH_release (.code yn_TH_release cd_TH_release 2 none :: bw_L) { frames := 10, cells := 312, slots := 6240, locals := 284 } (gk_Pre E [.ref h0, va_rf (x.map G.1)] M sz) (va_Qv (fun M' => ∃ c2, c2 ≤ 780 ∧ cs_R E M' h0 G made (cl_rem T (row, cl_lose (hld, U) x)).1 (cl_rem T (row, cl_lose (hld, U) x)).2.2.2 R cT c2 cR root (cl_rem T (row, cl_lose (hld, U) x)).2.1 (cl_rem T (row, cl_lose (hld, U) x)).2.2.1 rch) (gk_B E M sz) (gh_A M sz)) 312 6240 (gh_A M sz) := by
  refine gk_met rfl (by cases x <;> exact Nat.le_of_ble_eq_true rfl) ?_
  intro p e s m below meth c F hsz hP hK hZ ls hl
  subst hsz
  have hx := F.1
  have hb := F.2.1
  have hr := F.2.2.1
  have hml := F.2.2.2.1
  have hown : s.vm.findClass "ThingHeap" = some m.cls := F.2.2.2.2.1
  have hlk := F.2.2.2.2.2.1
  have hnm := F.2.2.2.2.2.2.1
  have ht := fun (w : Cond) (h : w ∈ bw_L) => F.2.2.2.2.2.2.2 w (List.mem_cons_of_mem _ h)
  have hA : ∀ q, s.heap.size ≤ q → gh_A M s.heap.size q := fun q h => Or.inr h
  have hS : va_S (gh_A M s.heap.size) s.heap s.heap [] := va_S.rf
  have hl : lv_has ls 2 [(0, .ref h0), (1, va_rf (x.map G.1))] := by cases x <;> exact hl
  have hcap := h.2.2.2.1.cap
  have hl1 := cl_ru_len T.length 0 (row, cl_lose (hld, U) x)
  have hl1 : (cl_lose (hld, U) x).2.length ≤ (cl_ru T.length 0 (row, cl_lose (hld, U) x)).2.2.length := hl1
  obtain ⟨X, hX⟩ := cl_lose_app (hld, U) x
  have hl2 : U.length ≤ (cl_lose (hld, U) x).2.length := by rw [hX, List.length_append]; show U.length ≤ U.length + _; omega
  have hc1 : cU ≤ lo_c hld U cU x := (al_to_ok _ _ hcap _).2
  have hc2 : lo_c hld U cU x ≤ 780 := al_to_le hcU (by decide) _ (by omega)
  refine lv_aload_n hx hb dc_TH_release_0 rfl (lv_fd hl rfl) ?_
  refine gq_aload_n hx hb dc_TH_release_1 rfl (lv_fd hl rfl) ?_
  refine gk_cv (gk_rV F (b := h0) (As := [va_rf (x.map G.1)]) (rest := []) (ct_TH_loseHold l E _ _ h x hx0 (by omega)) ww_164 ww_166 ws_TH_loseHold ww_1 ww_167 rfl rfl ⟨by decide, by decide, by show _ = some 1; decide +kernel⟩ ⟨Nat.le_of_ble_eq_true rfl, Nat.le_of_ble_eq_true rfl⟩ (gh_recv hK.1 hP h.1 rfl) hK hZ hP hS hA hl.1 rfl (Nat.le_of_ble_eq_true rfl) dc_TH_release_2 ⟨by show 0 + (lo_c hld U cU x - cU) / 5 ≤ 312; omega, by show 0 + 4 * (lo_c hld U cU x - cU) ≤ 6240; omega⟩) hP hS hA (fun M1 H locs h1 hP hS => ?_)
  refine lv_aload_n hx hb dc_TH_release_5 rfl (lv_fd hl rfl) ?_
  refine gk_cv (gk_rV F (b := h0) (As := []) (rest := []) (ct_TH_removeUnheld l E _ _ h1 hc2 hTl hlen) ww_168 ww_170 ws_TH_removeUnheld ww_1 ww_171 rfl rfl ⟨by decide, by decide, by show _ = some 0; decide +kernel⟩ ⟨Nat.le_of_ble_eq_true rfl, Nat.le_of_ble_eq_true rfl⟩ (gh_recv hK.1 hP h1.1 rfl) hK hZ hP hS hA hl.1 rfl (Nat.le_of_ble_eq_true rfl) dc_TH_release_6 ⟨by show 0 + (lo_c hld U cU x - cU) / 5 + 156 ≤ 312; omega, by show 0 + 4 * (lo_c hld U cU x - cU) + 3120 ≤ 6240; omega⟩) hP hS hA (fun M2 H locs h2 hP hS => ?_)
  refine W.widen (k := 312) (n := 6240) (by omega) (by omega) ?_
  exact gk_ev hx hb hr hlk hP hS dc_TH_release_9 h2
