set_option maxHeartbeats 4000000 in
set_option maxRecDepth 100000 in
theorem ct_MO_isThere (l : Launch) (E : gk_E) (M : gh_M) (sz : Nat) {h0 made cap : Nat} {G : rs_G} {ex : Nat → Bool} {hol w : Nat → Int32} {root : Nat → Option Nat} {row : Nat → List it_I} (h : rs_R E M h0 G made cap ex hol w root row) (k : Int32) : Met l yn_MO_isThere (.code yn_MO_isThere cd_MO_isThere 2 (some FieldType.boolean) :: bw_L) { frames := 1, cells := 0, slots := 0, locals := 24 } (gk_Pre E [.ref h0, .int k] M sz) (vp_Si (fun r => (r = 1 ∧ ∃ n, n < made ∧ ex n = true ∧ k = nI n) ∨ (r = 0 ∧ ∀ n, n < made → ex n = true → k ≠ nI n))) 0 0 (fun _ => False) := by
  refine gk_met rfl (Nat.le_of_ble_eq_true rfl) ?_
  intro p e s m below meth c F hsz hP hK hZ ls hl
  subst hsz
  have hx := F.1
  have hb := F.2.1
  have hr := F.2.2.1
  have hml := F.2.2.2.1
  have hown : s.vm.findClass "ThingHeapModel" = some m.cls := F.2.2.2.2.1
  have hlk := F.2.2.2.2.2.1
  have hnm := F.2.2.2.2.2.2.1
  have ht := fun (w : Cond) (h : w ∈ bw_L) => F.2.2.2.2.2.2.2 w (List.mem_cons_of_mem _ h)
  have hA : ∀ q, s.heap.size ≤ q → gh_A M s.heap.size q := fun q h => Or.inr h
  have hS : va_S (gh_A M s.heap.size) s.heap s.heap [] := va_S.rf
  have hl : lv_has ls 2 [(0, .ref h0), (1, .int k)] := hl
  have hcb := h.2.2.2.2.2.2.2.2.2.2
  have no : ∀ ls, (∀ n, n < made → ex n = true → k ≠ nI n) → W p l e ({ frames := 1, cells := 0, slots := 0, locals := 24 } : Room) s m ([.ref h0, .int k] : List Value).toArray below meth c s.heap [] 0 0 (MQ below (vp_Si (fun r => (r = 1 ∧ ∃ n, n < made ∧ ex n = true ∧ k = nI n) ∨ (r = 0 ∧ ∀ n, n < made → ex n = true → k ≠ nI n))) ([.ref h0, .int k] : List Value).toArray s 0 0 (fun _ => False)) (F0 m 28 ls []) := by
    intro ls hno
    refine lv_iconst (v := 0) hx hb dc_MO_isThere_28 (by decide) ?_
    exact W.zret hx hb hr rfl (fun t ht _ => ⟨_, rfl, Or.inr ⟨rfl, hno⟩, ht⟩) (fun q h => by cases h) dc_MO_isThere_29
  refine lv_iload_n hx hb dc_MO_isThere_0 rfl (lv_fd hl rfl) ?_
  refine lv_iconst (v := nI 0) hx hb dc_MO_isThere_1 (by decide) ?_
  refine lv_aload_n hx hb dc_MO_isThere_2 rfl (lv_fd hl rfl) ?_
  refine gh_get hx hb ht nu_MO hown hK.1 hP h.1 rfl 5 (by decide) (ht _ ww_317) (fun _ h9 => h9) rfl dc_MO_isThere_3 ?_
  refine lv_iconst (v := nI 1) hx hb dc_MO_isThere_6 (by decide) ?_
  refine lv_isub hx hb dc_MO_isThere_7 ?_
  refine gk_si (gk_rS F (As := [.int k, .int (nI 0), .int (nI made - nI 1)]) (rest := []) (ct_MO_in l E M _ k (n := made) rfl (by omega)) ww_342 ww_343 ww_5 ww_344 rfl rfl ⟨by decide, by decide, by show _ = some 3; decide +kernel⟩ ⟨Nat.le_of_ble_eq_true rfl, Nat.le_of_ble_eq_true rfl⟩ hK hZ hP hS hA hl.1 rfl (Nat.le_of_ble_eq_true rfl) dc_MO_isThere_8 ⟨Nat.le_refl _, Nat.le_refl _⟩) (fun r hr1 => ?_)
  rcases hr1 with ⟨rfl, j, hj, rfl⟩ | ⟨rfl, hno⟩
  · refine lv_if_eq (tgt := 28) hx hb dc_MO_isThere_11 (by decide) (fun q => absurd q (by decide)) (fun _ => ?_)
    obtain ⟨fe, hfe, hfe2⟩ := h.2.2.2.1
    refine lv_aload_n hx hb dc_MO_isThere_14 rfl (lv_fd hl rfl) ?_
    refine gh_get hx hb ht nu_MO hown hK.1 hP h.1 rfl 2 (by decide) (ht _ ww_314) (fun _ h9 => h9) rfl dc_MO_isThere_15 ?_
    refine lv_iload_n hx hb dc_MO_isThere_18 rfl (lv_fd hl rfl) ?_
    refine gh_iald hx hb hK.1 hP 0 hfe rfl rfl (show j < cap by omega) (by omega) (hfe2 j hj) dc_MO_isThere_19 ?_
    refine lv_iconst (v := nI 1) hx hb dc_MO_isThere_20 (by decide) ?_
    cases hxj : ex j with
    | true =>
      refine lv_icmp_ne (tgt := 28) hx hb dc_MO_isThere_21 (by decide) (fun q => absurd (show cs_B true = nI 1 by decide) q) (fun _ => ?_)
      refine lv_iconst (v := 1) hx hb dc_MO_isThere_24 (by decide) ?_
      refine lv_goto (tgt := 29) hx hb dc_MO_isThere_25 (by decide) ?_
      exact W.zret hx hb hr rfl (fun t ht _ => ⟨_, rfl, Or.inl ⟨rfl, j, hj, hxj, rfl⟩, ht⟩) (fun q h => by cases h) dc_MO_isThere_29
    | false =>
      refine lv_icmp_ne (tgt := 28) hx hb dc_MO_isThere_21 (by decide) (fun _ => ?_) (fun q => absurd q (by decide))
      refine no ls (fun n hn hen q => ?_)
      have := (nI_eq (show j < 2 ^ 31 by omega) (show n < 2 ^ 31 by omega)).mp q
      subst this
      rw [hxj] at hen
      cases hen
  · refine lv_if_eq (tgt := 28) hx hb dc_MO_isThere_11 (by decide) (fun _ => ?_) (fun q => absurd rfl q)
    exact no ls (fun n hn _ => hno n hn)
set_option maxHeartbeats 4000000 in
set_option maxRecDepth 100000 in
theorem ct_MO_hold (l : Launch) (E : gk_E) (M : gh_M) (sz : Nat) {h0 made cap : Nat} {G : rs_G} {ex : Nat → Bool} {hol w : Nat → Int32} {root : Nat → Option Nat} {row : Nat → List it_I} (h : rs_R E M h0 G made cap ex hol w root row) {o : Nat} (ho : o < made) (v : Int32) : Met l yn_MO_hold (.code yn_MO_hold cd_MO_hold 4 none :: bw_L) { frames := 0, cells := 0, slots := 0, locals := 0 } (gk_Pre E [.ref h0, .int (nI o), .int v] M sz) (va_Qv (fun M' => rs_R E M' h0 G made cap ex ((hd_row (row o)).foldl (rf_by v) hol) w root row) (gk_B E M sz) (gh_A M sz)) 0 0 (gh_A M sz) := by
  refine gk_met rfl (Nat.le_of_ble_eq_true rfl) ?_
  intro p e s m below meth c F hsz hP hK hZ ls hl
  subst hsz
  have hx := F.1
  have hb := F.2.1
  have hr := F.2.2.1
  have hml := F.2.2.2.1
  have hown : s.vm.findClass "ThingHeapModel" = some m.cls := F.2.2.2.2.1
  have hlk := F.2.2.2.2.2.1
  have hnm := F.2.2.2.2.2.2.1
  have ht := fun (w : Cond) (h : w ∈ bw_L) => F.2.2.2.2.2.2.2 w (List.mem_cons_of_mem _ h)
  have hA : ∀ q, s.heap.size ≤ q → gh_A M s.heap.size q := fun q h => Or.inr h
  have hS : va_S (gh_A M s.heap.size) s.heap s.heap [] := va_S.rf
  have hl : lv_has ls 4 [(0, .ref h0), (1, .int (nI o)), (2, .int v)] := hl
  have hcb := h.2.2.2.2.2.2.2.2.2.2
  have loop : ∀ (d k : Nat) (M2 : gh_M) (H : Heap) (locs : List Loc) (ls : Array Slot), k + d = (row o).length → lv_has ls 4 [(3, .int (nI k)), (0, .ref h0), (1, .int (nI o)), (2, .int v)] → gh_P E.1 cl_L (gh_A M s.heap.size) M2 H → va_S (gh_A M s.heap.size) s.heap H locs → rs_R E M2 h0 G made cap ex ((hd_row ((row o).take k)).foldl (rf_by v) hol) w root row →
      W p l e ({ frames := 0, cells := 0, slots := 0, locals := 0 } : Room) s m ([.ref h0, .int (nI o), .int v] : List Value).toArray below meth c H locs 0 0 (MQ below (va_Qv (fun M' => rs_R E M' h0 G made cap ex ((hd_row (row o)).foldl (rf_by v) hol) w root row) (gk_B E M s.heap.size) (gh_A M s.heap.size)) ([.ref h0, .int (nI o), .int v] : List Value).toArray s 0 0 (gh_A M s.heap.size)) (F0 m 2 ls []) := by
    intro d
    induction d with
    | zero =>
      intro k M2 H locs ls hkd hl hP hS h2
      have hko : k = (row o).length := by omega
      obtain ⟨fm, hfm, hfm2⟩ := h2.2.2.1
      obtain ⟨cc9, fl, hrw, hc4, hc6, hrl, hr3, hfl⟩ := h2.2.2.2.2.2.2.2.1 o ho
      refine lv_iload_n hx hb dc_MO_hold_2 rfl (lv_fd hl rfl) ?_
      refine lv_aload_n hx hb dc_MO_hold_3 rfl (lv_fd hl rfl) ?_
      refine gh_get hx hb ht nu_MO hown hK.1 hP h2.1 rfl 1 (by decide) (ht _ ww_313) (fun _ h9 => h9) rfl dc_MO_hold_4 ?_
      refine lv_iload_n hx hb dc_MO_hold_7 rfl (lv_fd hl rfl) ?_
      refine gh_iald hx hb hK.1 hP 0 hfm rfl rfl (show o < cap by omega) (by omega) (hfm2 o ho) dc_MO_hold_8 ?_
      refine gn_ge (tgt := 55) hx hb (by omega) (by omega) dc_MO_hold_9 (by decide) (fun _ => ?_) (fun q => absurd q (by omega))
      rw [hko, List.take_length] at h2
      exact gk_ev hx hb hr hlk hP hS dc_MO_hold_55 h2
    | succ d ih =>
      intro k M2 H locs ls hkd hl hP hS h2
      obtain ⟨fi, hfi, hfi2, -⟩ := h2.2.1
      obtain ⟨fm, hfm, hfm2⟩ := h2.2.2.1
      obtain ⟨cc9, fl, hrw, hc4, hc6, hrl, hr3, hfl⟩ := h2.2.2.2.2.2.2.2.1 o ho
      obtain ⟨x, hxk⟩ : ∃ x, (row o)[k]? = some x := ⟨(row o)[k]'(by omega), List.getElem?_eq_getElem (by omega)⟩
      have hfx := hfl k x hxk
      have hstep := hd_take hxk
      refine lv_iload_n hx hb dc_MO_hold_2 rfl (lv_fd hl rfl) ?_
      refine lv_aload_n hx hb dc_MO_hold_3 rfl (lv_fd hl rfl) ?_
      refine gh_get hx hb ht nu_MO hown hK.1 hP h2.1 rfl 1 (by decide) (ht _ ww_313) (fun _ h9 => h9) rfl dc_MO_hold_4 ?_
      refine lv_iload_n hx hb dc_MO_hold_7 rfl (lv_fd hl rfl) ?_
      refine gh_iald hx hb hK.1 hP 0 hfm rfl rfl (show o < cap by omega) (by omega) (hfm2 o ho) dc_MO_hold_8 ?_
      refine gn_ge (tgt := 55) hx hb (by omega) (by omega) dc_MO_hold_9 (by decide) (fun q => absurd q (by omega)) (fun _ => ?_)
      refine lv_aload_n hx hb dc_MO_hold_12 rfl (lv_fd hl rfl) ?_
      refine gh_get hx hb ht nu_MO hown hK.1 hP h2.1 rfl 0 (by decide) (ht _ ww_312) (fun _ h9 => h9) rfl dc_MO_hold_13 ?_
      refine lv_iload_n hx hb dc_MO_hold_16 rfl (lv_fd hl rfl) ?_
      refine gh_aald (v := .ref (G.1 o)) hx hb hK.1 hP 4 hfi rfl rfl rfl (show o < cap by omega) (by omega) (by rw [hfi2 o ho]; rfl) dc_MO_hold_17 ?_
      refine lv_iload_n hx hb dc_MO_hold_18 rfl (lv_fd hl rfl) ?_
      refine gh_lald hx hb hK.1 hP 1 hrw rfl rfl (show k < cc9 by omega) (by omega) hfx dc_MO_hold_19 ?_
      refine lv_ldc2 hx hb hown (ht _ ww_377) dc_MO_hold_20 ?_
      refine W.lcmp hx hb dc_MO_hold_23 ?_
      cases hx1 : x.1 with
      | none =>
        refine lv_if_lt (tgt := 49) hx hb dc_MO_hold_24 (by decide) (fun _ => ?_) (fun q => absurd ((lg_cmp_lt _ _).mpr (it_lo hx1)) q)
        refine lv_iinc (k := 0) (v := nI (k + 1)) hx hb dc_MO_hold_49 hl rfl (gh_inc k) (by decide) rfl (fun ls hl => ?_)
        refine lv_goto (tgt := 2) hx hb dc_MO_hold_52 (by decide) ?_
        refine ih (k + 1) M2 H locs ls (by omega) hl hP hS ?_
        rw [hstep, hx1]
        show rs_R E M2 h0 G made cap ex (List.foldl (rf_by v) hol (hd_row ((row o).take k) ++ [])) w root row
        rw [List.append_nil]
        exact h2
      | some n =>
        have hnm := h2.2.2.2.2.2.2.2.2.2.1 o ho x (List.mem_of_getElem? hxk) n hx1
        have hfx2 : fl k = lN (1099511627776 + n) := hfx.trans (it_some hx1)
        refine lv_if_lt (tgt := 49) hx hb dc_MO_hold_24 (by decide) (fun q => absurd ((lg_cmp_lt _ _).mp q) (it_hi hx1 (by omega))) (fun _ => ?_)
        refine lv_aload_n hx hb dc_MO_hold_27 rfl (lv_fd hl rfl) ?_
        refine gh_get hx hb ht nu_MO hown hK.1 hP h2.1 rfl 3 (by decide) (ht _ ww_315) (fun _ h9 => h9) rfl dc_MO_hold_28 ?_
        refine lv_aload_n hx hb dc_MO_hold_31 rfl (lv_fd hl rfl) ?_
        refine gh_get hx hb ht nu_MO hown hK.1 hP h2.1 rfl 0 (by decide) (ht _ ww_312) (fun _ h9 => h9) rfl dc_MO_hold_32 ?_
        refine lv_iload_n hx hb dc_MO_hold_35 rfl (lv_fd hl rfl) ?_
        refine gh_aald (v := .ref (G.1 o)) hx hb hK.1 hP 4 hfi rfl rfl rfl (show o < cap by omega) (by omega) (by rw [hfi2 o ho]; rfl) dc_MO_hold_36 ?_
        refine lv_iload_n hx hb dc_MO_hold_37 rfl (lv_fd hl rfl) ?_
        refine gh_lald hx hb hK.1 hP 1 hrw rfl rfl (show k < cc9 by omega) (by omega) hfx2 dc_MO_hold_38 ?_
        refine lv_ldc2 hx hb hown (ht _ ww_377) dc_MO_hold_39 ?_
        refine lv_lsub hx hb dc_MO_hold_42 ?_
        refine gh_topl (it_sub n) ?_
        refine lv_l2i (v := nI n) hx hb dc_MO_hold_43 (lN_i n) ?_
        refine lv_dup2_11 hx hb dc_MO_hold_44 rfl rfl ?_
        refine gh_iald hx hb hK.1 hP 0 h2.2.2.2.2.1 rfl rfl (show n < cap by omega) (by omega) rfl dc_MO_hold_45 ?_
        refine lv_iload_n hx hb dc_MO_hold_46 rfl (lv_fd hl rfl) ?_
        refine lv_iadd hx hb dc_MO_hold_47 ?_
        refine gm_iast hx hb hK.1 hP hS 0 h2.2.2.2.2.1 rfl rfl (show n < cap by omega) (by omega) dc_MO_hold_48 (fun H locs hP hS => ?_)
        refine lv_iinc (k := 0) (v := nI (k + 1)) hx hb dc_MO_hold_49 hl rfl (gh_inc k) (by decide) rfl (fun ls hl => ?_)
        refine lv_goto (tgt := 2) hx hb dc_MO_hold_52 (by decide) ?_
        refine ih (k + 1) _ H locs ls (by omega) hl hP hS ?_
        rw [hstep, hx1]
        show rs_R E _ h0 G made cap ex (List.foldl (rf_by v) hol (hd_row ((row o).take k) ++ [n])) w root row
        rw [List.foldl_append]
        exact h2.upHol
  refine lv_iconst (v := nI 0) hx hb dc_MO_hold_0 (by decide) ?_
  refine lv_istore_n hx hb dc_MO_hold_1 rfl hl (by decide) rfl (fun ls hl => ?_)
  exact loop (row o).length 0 M s.heap [] ls (by omega) hl hP hS h
set_option maxHeartbeats 4000000 in
set_option maxRecDepth 100000 in
theorem ct_MO_gone (l : Launch) (E : gk_E) (M : gh_M) (sz : Nat) {h0 made cap : Nat} {G : rs_G} {ex : Nat → Bool} {hol w : Nat → Int32} {root : Nat → Option Nat} {row : Nat → List it_I} (h : rs_R E M h0 G made cap ex hol w root row) {o k : Nat} (ho : o < made) (he : ex o = true) (hk : k < cap) : Met l yn_MO_gone (.code yn_MO_gone cd_MO_gone 3 (some FieldType.int) :: bw_L) { frames := 0, cells := 0, slots := 0, locals := 0 } (gk_Pre E [.ref h0, .int (nI o), .int (nI k)] M sz) (va_Qi (fun r M' => r = nI (k + 1) ∧ rs_R E M' h0 G made cap (va_up ex o false) hol (va_up w k (nI o)) root row) (gk_B E M sz) (gh_A M sz)) 0 0 (gh_A M sz) := by
  refine gk_met rfl (Nat.le_of_ble_eq_true rfl) ?_
  intro p e s m below meth c F hsz hP hK hZ ls hl
  subst hsz
  have hx := F.1
  have hb := F.2.1
  have hr := F.2.2.1
  have hml := F.2.2.2.1
  have hown : s.vm.findClass "ThingHeapModel" = some m.cls := F.2.2.2.2.1
  have hlk := F.2.2.2.2.2.1
  have hnm := F.2.2.2.2.2.2.1
  have ht := fun (w : Cond) (h : w ∈ bw_L) => F.2.2.2.2.2.2.2 w (List.mem_cons_of_mem _ h)
  have hA : ∀ q, s.heap.size ≤ q → gh_A M s.heap.size q := fun q h => Or.inr h
  have hS : va_S (gh_A M s.heap.size) s.heap s.heap [] := va_S.rf
  have hl : lv_has ls 3 [(0, .ref h0), (1, .int (nI o)), (2, .int (nI k))] := hl
  have hcb := h.2.2.2.2.2.2.2.2.2.2
  obtain ⟨fe, hfe, hfe2⟩ := h.2.2.2.1
  have hc1 := gh_ch.up (e' := .inl (E.2.1 0, cap, .inl (va_up fe o (nI 0)))) hfe
  have hh1 := hc1.keep h.1 (by omega)
  have hdn := fl_down ho he
  refine lv_aload_n hx hb dc_MO_gone_0 rfl (lv_fd hl rfl) ?_
  refine gh_get hx hb ht nu_MO hown hK.1 hP h.1 rfl 2 (by decide) (ht _ ww_314) (fun _ h9 => h9) rfl dc_MO_gone_1 ?_
  refine lv_iload_n hx hb dc_MO_gone_4 rfl (lv_fd hl rfl) ?_
  refine lv_iconst (v := nI 0) hx hb dc_MO_gone_5 (by decide) ?_
  refine gm_iast hx hb hK.1 hP hS 0 hfe rfl rfl (show o < cap by omega) (by omega) dc_MO_gone_6 (fun H locs hP hS => ?_)
  refine lv_aload_n hx hb dc_MO_gone_7 rfl (lv_fd hl rfl) ?_
  refine lv_dup hx hb dc_MO_gone_8 rfl ?_
  refine gh_get hx hb ht nu_MO hown hK.1 hP hh1 rfl 6 (by decide) (ht _ ww_318) (fun _ h9 => h9) rfl dc_MO_gone_9 ?_
  refine lv_iconst (v := nI 1) hx hb dc_MO_gone_12 (by decide) ?_
  refine lv_isub hx hb dc_MO_gone_13 ?_
  refine gh_topi (show nI ((List.range made).filter ex).length - nI 1 = nI ((List.range made).filter (va_up ex o false)).length by rw [hdn]; exact nI_pred _) ?_
  refine gh_put (ty := .int) hx hb ht nu_MO nt_MO no_MO nn_MO hown hK.1 hP hS hh1 rfl 6 (by decide) (ht _ ww_318) (fun _ h9 => h9) rfl (by decide +kernel) rfl rfl (Nat.le_of_ble_eq_true rfl) rfl dc_MO_gone_14 (fun H locs hP hS => ?_)
  have h2 := h.upEx (o := o) (b := false) (v := nI 0) hfe hfe2 (by decide) rfl
  refine lv_aload_n hx hb dc_MO_gone_17 rfl (lv_fd hl rfl) ?_
  refine gh_get hx hb ht nu_MO hown hK.1 hP h2.1 rfl 4 (by decide) (ht _ ww_316) (fun _ h9 => h9) rfl dc_MO_gone_18 ?_
  refine lv_iload_n hx hb dc_MO_gone_21 rfl (lv_fd hl rfl) ?_
  refine lv_iload_n hx hb dc_MO_gone_22 rfl (lv_fd hl rfl) ?_
  refine gm_iast hx hb hK.1 hP hS 0 h2.2.2.2.2.2.1 rfl rfl hk (by omega) dc_MO_gone_23 (fun H locs hP hS => ?_)
  refine lv_iload_n hx hb dc_MO_gone_24 rfl (lv_fd hl rfl) ?_
  refine lv_iconst (v := nI 1) hx hb dc_MO_gone_25 (by decide) ?_
  refine lv_iadd hx hb dc_MO_gone_26 ?_
  refine gh_topi (nI_add k 1) ?_
  exact gk_ei hx hb hr hlk hP hS dc_MO_gone_27 ⟨rfl, h2.upW⟩
