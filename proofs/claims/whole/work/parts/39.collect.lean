def mk_z (T : List Nat) (rch : Nat → Bool) (i : Nat) : Nat → Bool := fun n => if n ∈ T.take i then false else rch n
theorem mk_z0 (T : List Nat) (rch : Nat → Bool) : mk_z T rch 0 = rch := by
  funext n
  simp [mk_z]
theorem mk_zs {T : List Nat} {rch : Nat → Bool} {i n : Nat} (h : T[i]? = some n) : va_up (mk_z T rch i) n false = mk_z T rch (i + 1) := by
  funext k
  unfold mk_z
  rw [kp_tk h]
  by_cases hk : k = n
  · subst hk
    rw [va_up_self]
    simp
  · rw [va_up_ne _ _ hk]
    simp [hk]
abbrev mk_r (root : Nat → Option Nat) (a : (Nat → Bool) × List Nat) (r : Nat) : (Nat → Bool) × List Nat := (List.range r).foldl (fun a r => cl_reach a (root r)) a
theorem mk_rs (root : Nat → Option Nat) (a : (Nat → Bool) × List Nat) (r : Nat) : mk_r root a (r + 1) = cl_reach (mk_r root a r) (root r) := by
  show List.foldl _ a (List.range (r + 1)) = _
  rw [List.range_succ, List.foldl_append]
  rfl
theorem mk_rl (root : Nat → Option Nat) (a : (Nat → Bool) × List Nat) {r k : Nat} (h : r ≤ k) : (mk_r root a r).2.length ≤ (mk_r root a k).2.length := by
  induction k with
  | zero =>
    have : r = 0 := by omega
    subst this
    exact Nat.le_refl _
  | succ k ih =>
    by_cases hr : r = k + 1
    · subst hr
      exact Nat.le_refl _
    · have h1 := ih (by omega)
      obtain ⟨X, hX⟩ := cl_reach_app (mk_r root a k) (root k)
      rw [mk_rs, hX, List.length_append]
      omega
set_option maxHeartbeats 4000000 in
set_option maxRecDepth 100000 in
theorem ct_TH_markReached (l : Launch) (E : gk_E) (M : gh_M) (sz : Nat) {h0 made cT cU cR : Nat} {G : cs_G} {T U : List Nat} {root : Nat → Option Nat} {row : Nat → List it_I} {hld : Nat → Int32} {rch : Nat → Bool} (h : cs_R E M h0 G made T U [] cT cU cR root row hld rch) (hcR : cR ≤ 780) (hTl : T.length ≤ 520) (hlen : (cl_mark T root row rch).2.length ≤ 520) : Met l yn_TH_markReached (.code yn_TH_markReached cd_TH_markReached 3 none :: bw_L) { frames := 9, cells := 156, slots := 3120, locals := 260 } (gk_Pre E [.ref h0] M sz) (va_Qv (fun M' => ∃ c2, c2 ≤ 780 ∧ cs_R E M' h0 G made T U [] cT cU c2 root row hld (cl_mark T root row rch).1) (gk_B E M sz) (gh_A M sz)) 156 3120 (gh_A M sz) := by
  refine gk_met rfl (Nat.le_of_ble_eq_true rfl) ?_
  intro p e s m below meth c F hsz hP hK hZ ls hl
  subst hsz
  have hx := F.1
  have hb := F.2.1
  have hr := F.2.2.1
  have hml := F.2.2.2.1
  have hown : s.vm.findClass "ThingHeap" = some m.cls := F.2.2.2.2.1
  have hlk := F.2.2.2.2.2.1
  have hnm := F.2.2.2.2.2.2.1
  have ht := fun (w : Cond) (h : w ∈ bw_L) => F.2.2.2.2.2.2.2 w (List.mem_cons_of_mem _ h)
  have hA : ∀ q, s.heap.size ≤ q → gh_A M s.heap.size q := fun q h => Or.inr h
  have hS : va_S (gh_A M s.heap.size) s.heap s.heap [] := va_S.rf
  have hl : lv_has ls 3 [(0, .ref h0)] := hl
  have hmlT : (T.map G.1).length = T.length := List.length_map _
  have hTw := h.2.2.2.2.2.2.2.1
  have tail : ∀ (M2 : gh_M) (H : Heap) (locs : List Loc) (ls : Array Slot) (ci : Nat) (a : (Nat → Bool) × List Nat), a = cl_mark T root row rch → lv_has ls 3 [(0, .ref h0)] → gh_P E.1 cl_L (gh_A M s.heap.size) M2 H → va_S (gh_A M s.heap.size) s.heap H locs → cs_R E M2 h0 G made T U a.2 cT cU ci root row hld a.1 → ci ≤ 780 →
      W p l e ({ frames := 9, cells := 156, slots := 3120, locals := 260 } : Room) s m ([.ref h0] : List Value).toArray below meth c H locs ((ci - cR) / 5) (4 * (ci - cR)) (MQ below (va_Qv (fun M' => ∃ c2, c2 ≤ 780 ∧ cs_R E M' h0 G made T U [] cT cU c2 root row hld (cl_mark T root row rch).1) (gk_B E M s.heap.size) (gh_A M s.heap.size)) ([.ref h0] : List Value).toArray s 156 3120 (gh_A M s.heap.size)) (F0 m 99 ls []) := by
    intro M2 H locs ls ci a ha hl hP hS h2 hci
    refine lv_aload_n hx hb dc_TH_markReached_99 rfl (lv_fd hl rfl) ?_
    refine gh_get hx hb ht nu_TH hown hK.1 hP h2.1 rfl 3 (by decide) (ht _ ww_53) (fun _ h9 => h9) rfl dc_TH_markReached_100 ?_
    refine gk_cv (gk_rV F (b := G.2.2.2.2.2) (As := []) (rest := []) (ct_AL_clear l E _ _ h2.2.2.2.2.1) ww_191 ww_192 ww_193 ww_4 ww_194 rfl rfl ⟨by decide, by decide, by show _ = some 0; decide +kernel⟩ ⟨Nat.le_of_ble_eq_true rfl, Nat.le_of_ble_eq_true rfl⟩ (by obtain ⟨mk, el, hq, -⟩ := h2.2.2.2.2.1; exact gh_recv hK.1 hP hq rfl) hK hZ hP hS hA hl.1 rfl (Nat.le_of_ble_eq_true rfl) dc_TH_markReached_103 ⟨by show (ci - cR) / 5 + 0 ≤ 156; omega, by show 4 * (ci - cR) + 0 ≤ 3120; omega⟩) hP hS hA (fun M3 H locs h3 hP hS => ?_)
    refine W.widen (k := 156) (n := 3120) (by omega) (by omega) ?_
    refine gk_ev hx hb hr hlk hP hS dc_TH_markReached_106 ⟨ci, hci, ?_⟩
    rw [← ha]
    exact h2.setR (R' := []) h3.1 h3.2 (fun n hn => by cases hn)
  have loop3 : ∀ (f i : Nat) (M2 : gh_M) (H : Heap) (locs : List Loc) (ls : Array Slot) (ci : Nat) (a : (Nat → Bool) × List Nat), f + i = T.length → cl_mr row f i a = cl_mark T root row rch → lv_has ls 3 [(0, .ref h0), (1, .int (nI T.length)), (2, .int (nI i))] → gh_P E.1 cl_L (gh_A M s.heap.size) M2 H → va_S (gh_A M s.heap.size) s.heap H locs → cs_R E M2 h0 G made T U a.2 cT cU ci root row hld a.1 → cR ≤ ci → ci ≤ 780 →
      W p l e ({ frames := 9, cells := 156, slots := 3120, locals := 260 } : Room) s m ([.ref h0] : List Value).toArray below meth c H locs ((ci - cR) / 5) (4 * (ci - cR)) (MQ below (va_Qv (fun M' => ∃ c2, c2 ≤ 780 ∧ cs_R E M' h0 G made T U [] cT cU c2 root row hld (cl_mark T root row rch).1) (gk_B E M s.heap.size) (gh_A M s.heap.size)) ([.ref h0] : List Value).toArray s 156 3120 (gh_A M s.heap.size)) (F0 m 62 ls []) := by
    intro f
    induction f with
    | zero =>
      intro i M2 H locs ls ci a hfi ha hl hP hS h2 hc1 hc2
      have hml2 : (a.2.map G.1).length = a.2.length := List.length_map _
      have hln := h2.2.2.2.2.1.len
      rw [hml2] at hln
      refine lv_iload_n hx hb dc_TH_markReached_62 rfl (lv_fd hl rfl) ?_
      refine lv_aload_n hx hb dc_TH_markReached_63 rfl (lv_fd hl rfl) ?_
      refine gh_get hx hb ht nu_TH hown hK.1 hP h2.1 rfl 3 (by decide) (ht _ ww_53) (fun _ h9 => h9) rfl dc_TH_markReached_64 ?_
      refine gk_si (gk_rV F (b := G.2.2.2.2.2) (As := []) (rest := [.int (nI i)]) (ct_AL_size l E _ _ h2.2.2.2.2.1) ww_73 ww_74 ww_75 ww_4 ww_76 rfl rfl ⟨by decide, by decide, by show _ = some 0; decide +kernel⟩ ⟨Nat.le_of_ble_eq_true rfl, Nat.le_of_ble_eq_true rfl⟩ (by obtain ⟨mk, el, hq, -⟩ := h2.2.2.2.2.1; exact gh_recv hK.1 hP hq rfl) hK hZ hP hS hA hl.1 rfl (Nat.le_of_ble_eq_true rfl) dc_TH_markReached_67 ⟨by show (ci - cR) / 5 + 0 ≤ 156; omega, by show 4 * (ci - cR) + 0 ≤ 3120; omega⟩) (fun r hr1 => ?_)
      rw [hml2] at hr1
      subst hr1
      refine gn_ge (tgt := 99) hx hb (by omega) (by omega) dc_TH_markReached_70 (by decide) (fun _ => tail M2 H locs ls ci a ha (lv_sub hl [0] rfl) hP hS h2 hc2) (fun _ => ?_)
      refine lv_iload_n hx hb dc_TH_markReached_73 rfl (lv_fd hl rfl) ?_
      refine lv_iload_n hx hb dc_TH_markReached_74 rfl (lv_fd hl rfl) ?_
      exact gn_ge (tgt := 99) hx hb (by omega) (by omega) dc_TH_markReached_75 (by decide) (fun _ => tail M2 H locs ls ci a ha (lv_sub hl [0] rfl) hP hS h2 hc2) (fun q => absurd q (by omega))
    | succ f ih =>
      intro i M2 H locs ls ci a hfi ha hl hP hS h2 hc1 hc2
      have hml2 : (a.2.map G.1).length = a.2.length := List.length_map _
      have hln := h2.2.2.2.2.1.len
      have hcap := h2.2.2.2.2.1.cap
      rw [hml2] at hln
      refine lv_iload_n hx hb dc_TH_markReached_62 rfl (lv_fd hl rfl) ?_
      refine lv_aload_n hx hb dc_TH_markReached_63 rfl (lv_fd hl rfl) ?_
      refine gh_get hx hb ht nu_TH hown hK.1 hP h2.1 rfl 3 (by decide) (ht _ ww_53) (fun _ h9 => h9) rfl dc_TH_markReached_64 ?_
      refine gk_si (gk_rV F (b := G.2.2.2.2.2) (As := []) (rest := [.int (nI i)]) (ct_AL_size l E _ _ h2.2.2.2.2.1) ww_73 ww_74 ww_75 ww_4 ww_76 rfl rfl ⟨by decide, by decide, by show _ = some 0; decide +kernel⟩ ⟨Nat.le_of_ble_eq_true rfl, Nat.le_of_ble_eq_true rfl⟩ (by obtain ⟨mk, el, hq, -⟩ := h2.2.2.2.2.1; exact gh_recv hK.1 hP hq rfl) hK hZ hP hS hA hl.1 rfl (Nat.le_of_ble_eq_true rfl) dc_TH_markReached_67 ⟨by show (ci - cR) / 5 + 0 ≤ 156; omega, by show 4 * (ci - cR) + 0 ≤ 3120; omega⟩) (fun r hr1 => ?_)
      rw [hml2] at hr1
      subst hr1
      refine gn_ge (tgt := 99) hx hb (by omega) (by omega) dc_TH_markReached_70 (by decide) (fun hge => ?_) (fun hlt => ?_)
      · rw [cl_mr_none (List.getElem?_eq_none hge)] at ha
        exact tail M2 H locs ls ci a ha (lv_sub hl [0] rfl) hP hS h2 hc2
      · refine lv_iload_n hx hb dc_TH_markReached_73 rfl (lv_fd hl rfl) ?_
        refine lv_iload_n hx hb dc_TH_markReached_74 rfl (lv_fd hl rfl) ?_
        refine gn_ge (tgt := 99) hx hb (by omega) (by omega) dc_TH_markReached_75 (by decide) (fun q => absurd q (by omega)) (fun _ => ?_)
        obtain ⟨u, hu⟩ : ∃ u, a.2[i]? = some u := ⟨a.2[i], List.getElem?_eq_getElem hlt⟩
        rw [cl_mr_some hu] at ha
        have hum := h2.2.2.2.2.2.2.2.2.2.1 u (List.mem_of_getElem? hu)
        have hth : M2 (G.1 u) = some (6 + 2 * u, .inr (2, [.int (nI u), .ref (G.2.1 u), .int (hld u), .int (cs_B (a.1 u))])) := h2.2.2.2.2.2.1 u hum
        have hd1 := cl_mr_len row f (i + 1) (rx_f (row u) a)
        rw [ha] at hd1
        have hd2 := rx_len (row u) a
        obtain ⟨rc2, R2⟩ := a
        have hd2 : R2.length ≤ (rx_f (row u) (rc2, R2)).2.length := hd2
        have hdc1 : ci ≤ rx_c row (rc2, R2) ci u := (al_to_ok _ _ hcap _).2
        have hdc2 : rx_c row (rc2, R2) ci u ≤ 780 := al_to_le hc2 (by decide) _ (by show R2.length + ((rx_f (row u) (rc2, R2)).2.length - R2.length) + (R2.length + ((rx_f (row u) (rc2, R2)).2.length - R2.length)) / 2 ≤ 780; omega)
        refine lv_aload_n hx hb dc_TH_markReached_78 rfl (lv_fd hl rfl) ?_
        refine lv_aload_n hx hb dc_TH_markReached_79 rfl (lv_fd hl rfl) ?_
        refine gh_get hx hb ht nu_TH hown hK.1 hP h2.1 rfl 3 (by decide) (ht _ ww_53) (fun _ h9 => h9) rfl dc_TH_markReached_80 ?_
        refine lv_iload_n hx hb dc_TH_markReached_83 rfl (lv_fd hl rfl) ?_
        refine gk_sq (gk_rV F (b := G.2.2.2.2.2) (As := [.int (nI i)]) (rest := [.ref h0]) (ct_AL_get l E _ _ (j := i) h2.2.2.2.2.1 (by rw [hml2]; exact hlt)) ww_172 ww_173 ww_174 ww_4 ww_175 rfl rfl ⟨by decide, by decide, by show _ = some 1; decide +kernel⟩ ⟨Nat.le_of_ble_eq_true rfl, Nat.le_of_ble_eq_true rfl⟩ (by obtain ⟨mk, el, hq, -⟩ := h2.2.2.2.2.1; exact gh_recv hK.1 hP hq rfl) hK hZ hP hS hA hl.1 rfl (Nat.le_of_ble_eq_true rfl) dc_TH_markReached_84 ⟨by show (ci - cR) / 5 + 0 ≤ 156; omega, by show 4 * (ci - cR) + 0 ≤ 3120; omega⟩) (fun r hr2 => ?_)
        have hr2 : r = some (G.1 u) := by rw [hr2, List.getElem?_map, hu]; rfl
        subst hr2
        refine va_castE hx hb hown (ht _ ww_22) (gh_recv hK.1 hP hth rfl) dc_TH_markReached_87 ?_
        refine gk_cv (gk_rV F (b := h0) (As := [.ref (G.1 u)]) (rest := []) (ct_TH_reachItems l E _ _ h2 hum hc2 (by show (rx_f (row u) (rc2, R2)).2.length ≤ 520; omega)) ww_293 ww_295 ws_TH_reachItems ww_1 ww_296 rfl rfl ⟨by decide, by decide, by show _ = some 1; decide +kernel⟩ ⟨Nat.le_of_ble_eq_true rfl, Nat.le_of_ble_eq_true rfl⟩ (gh_recv hK.1 hP h2.1 rfl) hK hZ hP hS hA hl.1 rfl (Nat.le_of_ble_eq_true rfl) dc_TH_markReached_90 ⟨by show (ci - cR) / 5 + (rx_c row (rc2, R2) ci u - ci) / 5 ≤ 156; omega, by show 4 * (ci - cR) + 4 * (rx_c row (rc2, R2) ci u - ci) ≤ 3120; omega⟩) hP hS hA (fun M3 H locs h3 hP hS => ?_)
        refine lv_iinc (k := 2) (v := nI (i + 1)) hx hb dc_TH_markReached_93 hl rfl (gh_inc i) (by decide) rfl (fun ls hl => ?_)
        refine lv_goto (tgt := 62) hx hb dc_TH_markReached_96 (by decide) ?_
        refine W.widen (k := (rx_c row (rc2, R2) ci u - cR) / 5) (n := 4 * (rx_c row (rc2, R2) ci u - cR)) (by show (ci - cR) / 5 + (rx_c row (rc2, R2) ci u - ci) / 5 ≤ _; omega) (by show 4 * (ci - cR) + 4 * (rx_c row (rc2, R2) ci u - ci) ≤ _; omega) ?_
        exact ih (i + 1) M3 H locs ls _ (rx_f (row u) (rc2, R2)) (by omega) ha (lv_sub hl [1, 2, 0] rfl) hP hS h3 (by omega) hdc2
  have hfin : cl_mr row T.length 0 (mk_r root (mk_z T rch T.length, []) 16) = cl_mark T root row rch := by
    unfold mk_z
    rw [List.take_of_length_le (Nat.le_refl _)]
    rfl
  have hfl := cl_mr_len row T.length 0 (mk_r root (mk_z T rch T.length, []) 16)
  rw [hfin] at hfl
  have loop2 : ∀ (d r : Nat) (M2 : gh_M) (H : Heap) (locs : List Loc) (ls : Array Slot) (ci : Nat), r + d = 16 → lv_has ls 3 [(0, .ref h0), (1, .int (nI T.length)), (2, .int (nI r))] → gh_P E.1 cl_L (gh_A M s.heap.size) M2 H → va_S (gh_A M s.heap.size) s.heap H locs → cs_R E M2 h0 G made T U (mk_r root (mk_z T rch T.length, []) r).2 cT cU ci root row hld (mk_r root (mk_z T rch T.length, []) r).1 → cR ≤ ci → ci ≤ 780 →
      W p l e ({ frames := 9, cells := 156, slots := 3120, locals := 260 } : Room) s m ([.ref h0] : List Value).toArray below meth c H locs ((ci - cR) / 5) (4 * (ci - cR)) (MQ below (va_Qv (fun M' => ∃ c2, c2 ≤ 780 ∧ cs_R E M' h0 G made T U [] cT cU c2 root row hld (cl_mark T root row rch).1) (gk_B E M s.heap.size) (gh_A M s.heap.size)) ([.ref h0] : List Value).toArray s 156 3120 (gh_A M s.heap.size)) (F0 m 38 ls []) := by
    intro d
    induction d with
    | zero =>
      intro r M2 H locs ls ci hrd hl hP hS h2 hc1 hc2
      refine lv_iload_n hx hb dc_TH_markReached_38 rfl (lv_fd hl rfl) ?_
      refine lv_bipush (v := nI 16) hx hb dc_TH_markReached_39 (by decide) ?_
      refine gn_ge (tgt := 60) hx hb (by omega) (by decide) dc_TH_markReached_41 (by decide) (fun _ => ?_) (fun q => absurd q (by omega))
      refine lv_iconst (v := nI 0) hx hb dc_TH_markReached_60 (by decide) ?_
      refine lv_istore_n hx hb dc_TH_markReached_61 rfl hl (by decide) rfl (fun ls hl => ?_)
      have h16 : r = 16 := by omega
      subst h16
      exact loop3 T.length 0 M2 H locs ls ci _ (by omega) hfin (lv_sub hl [1, 2, 0] rfl) hP hS h2 hc1 hc2
    | succ d ih =>
      intro r M2 H locs ls ci hrd hl hP hS h2 hc1 hc2
      have hcap := h2.2.2.2.2.1.cap
      obtain ⟨f, hf, hf2⟩ := h2.2.1
      have hl1 : (mk_r root (mk_z T rch T.length, []) (r + 1)).2.length ≤ (mk_r root (mk_z T rch T.length, []) 16).2.length := mk_rl root _ (by omega)
      have hl0 : (mk_r root (mk_z T rch T.length, []) r).2.length ≤ (mk_r root (mk_z T rch T.length, []) (r + 1)).2.length := mk_rl root _ (by omega)
      have hs1 := mk_rs root (mk_z T rch T.length, []) r
      generalize mk_r root (mk_z T rch T.length, []) r = a at h2 hl0 hs1
      obtain ⟨rc2, R2⟩ := a
      have hl0 : R2.length ≤ (mk_r root (mk_z T rch T.length, []) (r + 1)).2.length := hl0
      have hrc : re_c (rc2, R2) ci (root r) = al_to ci R2.length ((mk_r root (mk_z T rch T.length, []) (r + 1)).2.length - R2.length) := by
        unfold re_c
        rw [hs1]
      have hdc1 : ci ≤ re_c (rc2, R2) ci (root r) := (al_to_ok _ _ hcap _).2
      have hdc2 : re_c (rc2, R2) ci (root r) ≤ 780 := by
        rw [hrc]
        exact al_to_le hc2 (by decide) _ (by omega)
      refine lv_iload_n hx hb dc_TH_markReached_38 rfl (lv_fd hl rfl) ?_
      refine lv_bipush (v := nI 16) hx hb dc_TH_markReached_39 (by decide) ?_
      refine gn_ge (tgt := 60) hx hb (by omega) (by decide) dc_TH_markReached_41 (by decide) (fun q => absurd q (by omega)) (fun _ => ?_)
      refine lv_aload_n hx hb dc_TH_markReached_44 rfl (lv_fd hl rfl) ?_
      refine lv_aload_n hx hb dc_TH_markReached_45 rfl (lv_fd hl rfl) ?_
      refine gh_get hx hb ht nu_TH hown hK.1 hP h2.1 rfl 0 (by decide) (ht _ ww_50) (fun _ h9 => h9) rfl dc_TH_markReached_46 ?_
      refine lv_iload_n hx hb dc_TH_markReached_49 rfl (lv_fd hl rfl) ?_
      refine gh_aald (v := va_rf ((root r).map G.1)) hx hb hK.1 hP 3 hf rfl rfl rfl (by omega) (by decide) (by rw [hf2 r (by omega)]) dc_TH_markReached_50 ?_
      refine gk_cv (gk_rV F (b := h0) (As := [va_rf ((root r).map G.1)]) (rest := []) (ct_TH_reach l E _ _ h2 (root r) (fun n hn => h2.2.2.2.2.2.2.2.2.2.2.1 r (by omega) n hn) (by omega)) ww_289 ww_291 ws_TH_reach ww_1 ww_292 rfl rfl ⟨by decide, by decide, by show _ = some 1; decide +kernel⟩ ⟨Nat.le_of_ble_eq_true rfl, Nat.le_of_ble_eq_true rfl⟩ (gh_recv hK.1 hP h2.1 rfl) hK hZ hP hS hA hl.1 rfl (Nat.le_of_ble_eq_true rfl) dc_TH_markReached_51 ⟨by show (ci - cR) / 5 + (re_c (rc2, R2) ci (root r) - ci) / 5 ≤ 156; omega, by show 4 * (ci - cR) + 4 * (re_c (rc2, R2) ci (root r) - ci) ≤ 3120; omega⟩) hP hS hA (fun M3 H locs h3 hP hS => ?_)
      refine lv_iinc (k := 2) (v := nI (r + 1)) hx hb dc_TH_markReached_54 hl rfl (gh_inc r) (by decide) rfl (fun ls hl => ?_)
      refine lv_goto (tgt := 38) hx hb dc_TH_markReached_57 (by decide) ?_
      refine W.widen (k := (re_c (rc2, R2) ci (root r) - cR) / 5) (n := 4 * (re_c (rc2, R2) ci (root r) - cR)) (by show (ci - cR) / 5 + (re_c (rc2, R2) ci (root r) - ci) / 5 ≤ _; omega) (by show 4 * (ci - cR) + 4 * (re_c (rc2, R2) ci (root r) - ci) ≤ _; omega) ?_
      refine ih (r + 1) M3 H locs ls _ (by omega) (lv_sub hl [1, 2, 0] rfl) hP hS ?_ (by omega) hdc2
      rw [hs1]
      exact h3
  have loop1 : ∀ (d i : Nat) (M2 : gh_M) (H : Heap) (locs : List Loc) (ls : Array Slot), i + d = T.length → lv_has ls 3 [(0, .ref h0), (1, .int (nI T.length)), (2, .int (nI i))] → gh_P E.1 cl_L (gh_A M s.heap.size) M2 H → va_S (gh_A M s.heap.size) s.heap H locs → cs_R E M2 h0 G made T U [] cT cU cR root row hld (mk_z T rch i) →
      W p l e ({ frames := 9, cells := 156, slots := 3120, locals := 260 } : Room) s m ([.ref h0] : List Value).toArray below meth c H locs 0 0 (MQ below (va_Qv (fun M' => ∃ c2, c2 ≤ 780 ∧ cs_R E M' h0 G made T U [] cT cU c2 root row hld (cl_mark T root row rch).1) (gk_B E M s.heap.size) (gh_A M s.heap.size)) ([.ref h0] : List Value).toArray s 156 3120 (gh_A M s.heap.size)) (F0 m 10 ls []) := by
    intro d
    induction d with
    | zero =>
      intro i M2 H locs ls hid hl hP hS h2
      refine lv_iload_n hx hb dc_TH_markReached_10 rfl (lv_fd hl rfl) ?_
      refine lv_iload_n hx hb dc_TH_markReached_11 rfl (lv_fd hl rfl) ?_
      refine gn_ge (tgt := 36) hx hb (by omega) (by omega) dc_TH_markReached_12 (by decide) (fun _ => ?_) (fun q => absurd q (by omega))
      refine lv_iconst (v := nI 0) hx hb dc_TH_markReached_36 (by decide) ?_
      refine lv_istore_n hx hb dc_TH_markReached_37 rfl hl (by decide) rfl (fun ls hl => ?_)
      have hiT : i = T.length := by omega
      subst hiT
      have hw := loop2 16 0 M2 H locs ls cR (by omega) (lv_sub hl [1, 2, 0] rfl) hP hS h2 (Nat.le_refl _) hcR
      rw [Nat.sub_self] at hw
      exact hw
    | succ d ih =>
      intro i M2 H locs ls hid hl hP hS h2
      obtain ⟨n, hn⟩ : ∃ n, T[i]? = some n := ⟨T[i]'(by omega), List.getElem?_eq_getElem (by omega)⟩
      have hnm := hTw n (List.mem_of_getElem? hn)
      have hth : M2 (G.1 n) = some (6 + 2 * n, .inr (2, [.int (nI n), .ref (G.2.1 n), .int (hld n), .int (cs_B (mk_z T rch i n))])) := h2.2.2.2.2.2.1 n hnm
      refine lv_iload_n hx hb dc_TH_markReached_10 rfl (lv_fd hl rfl) ?_
      refine lv_iload_n hx hb dc_TH_markReached_11 rfl (lv_fd hl rfl) ?_
      refine gn_ge (tgt := 36) hx hb (by omega) (by omega) dc_TH_markReached_12 (by decide) (fun q => absurd q (by omega)) (fun _ => ?_)
      refine lv_aload_n hx hb dc_TH_markReached_15 rfl (lv_fd hl rfl) ?_
      refine gh_get hx hb ht nu_TH hown hK.1 hP h2.1 rfl 1 (by decide) (ht _ ww_51) (fun _ h9 => h9) rfl dc_TH_markReached_16 ?_
      refine lv_iload_n hx hb dc_TH_markReached_19 rfl (lv_fd hl rfl) ?_
      refine gk_sq (gk_rV F (b := G.2.2.2.1) (As := [.int (nI i)]) (rest := []) (ct_AL_get l E _ _ (j := i) h2.2.2.1 (by rw [hmlT]; omega)) ww_172 ww_173 ww_174 ww_4 ww_175 rfl rfl ⟨by decide, by decide, by show _ = some 1; decide +kernel⟩ ⟨Nat.le_of_ble_eq_true rfl, Nat.le_of_ble_eq_true rfl⟩ (by obtain ⟨mk, el, hq, -⟩ := h2.2.2.1; exact gh_recv hK.1 hP hq rfl) hK hZ hP hS hA hl.1 rfl (Nat.le_of_ble_eq_true rfl) dc_TH_markReached_20 ⟨Nat.zero_le _, Nat.zero_le _⟩) (fun r hr2 => ?_)
      have hr2 : r = some (G.1 n) := by rw [hr2, List.getElem?_map, hn]; rfl
      subst hr2
      refine va_castE hx hb hown (ht _ ww_22) (gh_recv hK.1 hP hth rfl) dc_TH_markReached_23 ?_
      refine lv_iconst (v := nI 0) hx hb dc_TH_markReached_26 (by decide) ?_
      refine gh_put (ty := .boolean) hx hb ht nu_TG nt_TG no_TG nn_TG hown hK.1 hP hS hth rfl 3 (by decide) (ht _ ww_91) (fun _ h9 => h9) rfl (by decide +kernel) (by decide) (by decide) (Nat.le_of_ble_eq_true rfl) rfl dc_TH_markReached_27 (fun H locs hP hS => ?_)
      refine lv_iinc (k := 2) (v := nI (i + 1)) hx hb dc_TH_markReached_30 hl rfl (gh_inc i) (by decide) rfl (fun ls hl => ?_)
      refine lv_goto (tgt := 10) hx hb dc_TH_markReached_33 (by decide) ?_
      have h3 := h2.setTh hnm (v := hld n) (b := false)
      rw [va_up_id hld n rfl, mk_zs hn, show cs_B false = nI 0 by decide] at h3
      exact ih (i + 1) _ H locs ls (by omega) (lv_sub hl [1, 2, 0] rfl) hP hS h3
  refine lv_aload_n hx hb dc_TH_markReached_0 rfl (lv_fd hl rfl) ?_
  refine gh_get hx hb ht nu_TH hown hK.1 hP h.1 rfl 1 (by decide) (ht _ ww_51) (fun _ h9 => h9) rfl dc_TH_markReached_1 ?_
  refine gk_si (gk_rV F (b := G.2.2.2.1) (As := []) (rest := []) (ct_AL_size l E _ _ h.2.2.1) ww_73 ww_74 ww_75 ww_4 ww_76 rfl rfl ⟨by decide, by decide, by show _ = some 0; decide +kernel⟩ ⟨Nat.le_of_ble_eq_true rfl, Nat.le_of_ble_eq_true rfl⟩ (by obtain ⟨mk, el, hq, -⟩ := h.2.2.1; exact gh_recv hK.1 hP hq rfl) hK hZ hP hS hA hl.1 rfl (Nat.le_of_ble_eq_true rfl) dc_TH_markReached_4 ⟨Nat.zero_le _, Nat.zero_le _⟩) (fun r hr1 => ?_)
  rw [hmlT] at hr1
  subst hr1
  refine lv_istore_n hx hb dc_TH_markReached_7 rfl hl (by decide) rfl (fun ls hl => ?_)
  refine lv_iconst (v := nI 0) hx hb dc_TH_markReached_8 (by decide) ?_
  refine lv_istore_n hx hb dc_TH_markReached_9 rfl hl (by decide) rfl (fun ls hl => ?_)
  exact loop1 T.length 0 M s.heap [] ls (by omega) (lv_sub hl [2, 1, 0] rfl) hP hS (by rw [mk_z0]; exact h)
theorem sw_take {T : List Nat} {rch : Nat → Bool} {i n : Nat} (h : T[i]? = some n) (st : cl_S) : cl_sweep (T.take (i + 1)) rch st = if rch n = true then cl_sweep (T.take i) rch st else cl_drop (cl_sweep (T.take i) rch st) n := by
  show List.foldl _ st (T.take (i + 1)) = _
  rw [kp_tk h, List.foldl_append]
  rfl
theorem sw_len (rch : Nat → Bool) : ∀ (X : List Nat) (st : cl_S), st.2.2.length ≤ (cl_sweep X rch st).2.2.length
  | [], st => Nat.le_refl _
  | n :: X, st => by
    have h1 := sw_len rch X (if rch n = true then st else cl_drop st n)
    refine Nat.le_trans ?_ h1
    by_cases hr : rch n = true
    · rw [if_pos hr]
      exact Nat.le_refl _
    · rw [if_neg hr]
      exact dr_len (st.1 n) st.2
theorem sw_take_len (T : List Nat) (rch : Nat → Bool) (i : Nat) (st : cl_S) : (cl_sweep (T.take i) rch st).2.2.length ≤ (cl_sweep T rch st).2.2.length := by
  have h := sw_len rch (T.drop i) (cl_sweep (T.take i) rch st)
  have e : cl_sweep (T.drop i) rch (cl_sweep (T.take i) rch st) = cl_sweep T rch st := by
    show List.foldl _ (List.foldl _ st (T.take i)) (T.drop i) = _
    rw [← List.foldl_append, List.take_append_drop]
    rfl
  rw [e] at h
  exact h
set_option maxHeartbeats 4000000 in
set_option maxRecDepth 100000 in
theorem ct_TH_collect (l : Launch) (E : gk_E) (M : gh_M) (sz : Nat) {h0 made cT cU cR : Nat} {G : cs_G} {T : List Nat} {root : Nat → Option Nat} {row : Nat → List it_I} {hld : Nat → Int32} {rch : Nat → Bool} (h : cs_R E M h0 G made T [] [] cT cU cR root row hld rch) (hcR : cR ≤ 780) (hcU : cU ≤ 780) (hTl : T.length ≤ 520) (hlen : (cl_mark T root row rch).2.length ≤ 520) (hlen2 : (cl_sweep T (cl_mark T root row rch).1 (row, hld, [])).2.2.length ≤ 520) (hlen3 : (cl_ru T.length 0 (cl_sweep T (cl_mark T root row rch).1 (row, hld, []))).2.2.length ≤ 520) : Met l yn_TH_collect (.code yn_TH_collect cd_TH_collect 4 (some FieldType.int) :: bw_L) { frames := 10, cells := 468, slots := 9360, locals := 284 } (gk_Pre E [.ref h0] M sz) (va_Qi (fun r M' => r = nI T.length - nI (cl_rem T (cl_sweep T (cl_mark T root row rch).1 (row, hld, []))).1.length ∧ ∃ c2 c3, c2 ≤ 780 ∧ c3 ≤ 780 ∧ cs_R E M' h0 G made (cl_rem T (cl_sweep T (cl_mark T root row rch).1 (row, hld, []))).1 (cl_rem T (cl_sweep T (cl_mark T root row rch).1 (row, hld, []))).2.2.2 [] cT c2 c3 root (cl_rem T (cl_sweep T (cl_mark T root row rch).1 (row, hld, []))).2.1 (cl_rem T (cl_sweep T (cl_mark T root row rch).1 (row, hld, []))).2.2.1 (cl_mark T root row rch).1) (gk_B E M sz) (gh_A M sz)) 468 9360 (gh_A M sz) := by
  refine gk_met rfl (Nat.le_of_ble_eq_true rfl) ?_
  intro p e s m below meth c F hsz hP hK hZ ls hl
  subst hsz
  have hx := F.1
  have hb := F.2.1
  have hr := F.2.2.1
  have hml := F.2.2.2.1
  have hown : s.vm.findClass "ThingHeap" = some m.cls := F.2.2.2.2.1
  have hlk := F.2.2.2.2.2.1
  have hnm := F.2.2.2.2.2.2.1
  have ht := fun (w : Cond) (h : w ∈ bw_L) => F.2.2.2.2.2.2.2 w (List.mem_cons_of_mem _ h)
  have hA : ∀ q, s.heap.size ≤ q → gh_A M s.heap.size q := fun q h => Or.inr h
  have hS : va_S (gh_A M s.heap.size) s.heap s.heap [] := va_S.rf
  have hl : lv_has ls 4 [(0, .ref h0)] := hl
  have hmlT : (T.map G.1).length = T.length := List.length_map _
  have hTw := h.2.2.2.2.2.2.2.1
  refine lv_aload_n hx hb dc_TH_collect_0 rfl (lv_fd hl rfl) ?_
  refine gh_get hx hb ht nu_TH hown hK.1 hP h.1 rfl 1 (by decide) (ht _ ww_51) (fun _ h9 => h9) rfl dc_TH_collect_1 ?_
  refine gk_si (gk_rV F (b := G.2.2.2.1) (As := []) (rest := []) (ct_AL_size l E _ _ h.2.2.1) ww_73 ww_74 ww_75 ww_4 ww_76 rfl rfl ⟨by decide, by decide, by show _ = some 0; decide +kernel⟩ ⟨Nat.le_of_ble_eq_true rfl, Nat.le_of_ble_eq_true rfl⟩ (by obtain ⟨mk, el, hq, -⟩ := h.2.2.1; exact gh_recv hK.1 hP hq rfl) hK hZ hP hS hA hl.1 rfl (Nat.le_of_ble_eq_true rfl) dc_TH_collect_4 ⟨Nat.zero_le _, Nat.zero_le _⟩) (fun r hr1 => ?_)
  rw [hmlT] at hr1
  subst hr1
  refine lv_istore_n hx hb dc_TH_collect_7 rfl hl (by decide) rfl (fun ls hl => ?_)
  refine lv_aload_n hx hb dc_TH_collect_8 rfl (lv_fd hl rfl) ?_
  refine gk_cv (gk_rV F (b := h0) (As := []) (rest := []) (ct_TH_markReached l E _ _ h hcR hTl hlen) ww_285 ww_287 ws_TH_markReached ww_1 ww_288 rfl rfl ⟨by decide, by decide, by show _ = some 0; decide +kernel⟩ ⟨Nat.le_of_ble_eq_true rfl, Nat.le_of_ble_eq_true rfl⟩ (gh_recv hK.1 hP h.1 rfl) hK hZ hP hS hA hl.1 rfl (Nat.le_of_ble_eq_true rfl) dc_TH_collect_9 ⟨Nat.le_of_ble_eq_true rfl, Nat.le_of_ble_eq_true rfl⟩) hP hS hA (fun M1 H locs h1 hP hS => ?_)
  obtain ⟨c3, hc3, h1⟩ := h1
  have loop : ∀ (d i : Nat) (M2 : gh_M) (H : Heap) (locs : List Loc) (ls : Array Slot) (ci : Nat) (st : cl_S), i + d = T.length → st = cl_sweep (T.take i) (cl_mark T root row rch).1 (row, hld, []) → lv_has ls 4 [(0, .ref h0), (1, .int (nI T.length)), (2, .int (nI i))] → gh_P E.1 cl_L (gh_A M s.heap.size) M2 H → va_S (gh_A M s.heap.size) s.heap H locs → cs_R E M2 h0 G made T st.2.2 [] cT ci c3 root st.1 st.2.1 (cl_mark T root row rch).1 → cU ≤ ci → ci ≤ 780 →
      W p l e ({ frames := 10, cells := 468, slots := 9360, locals := 284 } : Room) s m ([.ref h0] : List Value).toArray below meth c H locs (0 + 156 + (ci - cU) / 5) (0 + 3120 + 4 * (ci - cU)) (MQ below (va_Qi (fun r M' => r = nI T.length - nI (cl_rem T (cl_sweep T (cl_mark T root row rch).1 (row, hld, []))).1.length ∧ ∃ c2 c3, c2 ≤ 780 ∧ c3 ≤ 780 ∧ cs_R E M' h0 G made (cl_rem T (cl_sweep T (cl_mark T root row rch).1 (row, hld, []))).1 (cl_rem T (cl_sweep T (cl_mark T root row rch).1 (row, hld, []))).2.2.2 [] cT c2 c3 root (cl_rem T (cl_sweep T (cl_mark T root row rch).1 (row, hld, []))).2.1 (cl_rem T (cl_sweep T (cl_mark T root row rch).1 (row, hld, []))).2.2.1 (cl_mark T root row rch).1) (gk_B E M s.heap.size) (gh_A M s.heap.size)) ([.ref h0] : List Value).toArray s 468 9360 (gh_A M s.heap.size)) (F0 m 14 ls []) := by
    intro d
    induction d with
    | zero =>
      intro i M2 H locs ls ci st hid hst hl hP hS h2 hc1 hc2
      have hsw : st = cl_sweep T (cl_mark T root row rch).1 (row, hld, []) := by rw [hst, List.take_of_length_le (by omega)]
      refine lv_iload_n hx hb dc_TH_collect_14 rfl (lv_fd hl rfl) ?_
      refine lv_iload_n hx hb dc_TH_collect_15 rfl (lv_fd hl rfl) ?_
      refine gn_ge (tgt := 49) hx hb (by omega) (by omega) dc_TH_collect_16 (by decide) (fun _ => ?_) (fun q => absurd q (by omega))
      refine lv_aload_n hx hb dc_TH_collect_49 rfl (lv_fd hl rfl) ?_
      refine gk_cv (gk_rV F (b := h0) (As := []) (rest := []) (ct_TH_removeUnheld l E _ _ h2 hc2 hTl (by show (cl_ru T.length 0 st).2.2.length ≤ 520; rw [hsw]; exact hlen3)) ww_168 ww_170 ws_TH_removeUnheld ww_1 ww_171 rfl rfl ⟨by decide, by decide, by show _ = some 0; decide +kernel⟩ ⟨Nat.le_of_ble_eq_true rfl, Nat.le_of_ble_eq_true rfl⟩ (gh_recv hK.1 hP h2.1 rfl) hK hZ hP hS hA hl.1 rfl (Nat.le_of_ble_eq_true rfl) dc_TH_collect_50 ⟨by show 0 + 156 + (ci - cU) / 5 + 156 ≤ 468; omega, by show 0 + 3120 + 4 * (ci - cU) + 3120 ≤ 9360; omega⟩) hP hS hA (fun M3 H locs h3 hP hS => ?_)
      obtain ⟨c4, hc4, h3⟩ := h3
      have h3 : cs_R E M3 h0 G made (cl_rem T st).1 (cl_rem T st).2.2.2 [] cT c4 c3 root (cl_rem T st).2.1 (cl_rem T st).2.2.1 (cl_mark T root row rch).1 := h3
      have hmlT3 : ((cl_rem T st).1.map G.1).length = (cl_rem T st).1.length := List.length_map _
      refine lv_iload_n hx hb dc_TH_collect_53 rfl (lv_fd hl rfl) ?_
      refine lv_aload_n hx hb dc_TH_collect_54 rfl (lv_fd hl rfl) ?_
      refine gh_get hx hb ht nu_TH hown hK.1 hP h3.1 rfl 1 (by decide) (ht _ ww_51) (fun _ h9 => h9) rfl dc_TH_collect_55 ?_
      refine gk_si (gk_rV F (b := G.2.2.2.1) (As := []) (rest := [.int (nI T.length)]) (ct_AL_size l E _ _ h3.2.2.1) ww_73 ww_74 ww_75 ww_4 ww_76 rfl rfl ⟨by decide, by decide, by show _ = some 0; decide +kernel⟩ ⟨Nat.le_of_ble_eq_true rfl, Nat.le_of_ble_eq_true rfl⟩ (by obtain ⟨mk, el, hq, -⟩ := h3.2.2.1; exact gh_recv hK.1 hP hq rfl) hK hZ hP hS hA hl.1 rfl (Nat.le_of_ble_eq_true rfl) dc_TH_collect_58 ⟨by show 0 + 156 + (ci - cU) / 5 + 156 + 0 ≤ 468; omega, by show 0 + 3120 + 4 * (ci - cU) + 3120 + 0 ≤ 9360; omega⟩) (fun r hr1 => ?_)
      rw [hmlT3] at hr1
      subst hr1
      refine lv_isub hx hb dc_TH_collect_61 ?_
      refine W.widen (k := 468) (n := 9360) (by omega) (by omega) ?_
      refine gk_ei hx hb hr hlk hP hS dc_TH_collect_62 ⟨by rw [← hsw], c4, c3, hc4, hc3, ?_⟩
      rw [← hsw]
      exact h3
    | succ d ih =>
      intro i M2 H locs ls ci st hid hst hl hP hS h2 hc1 hc2
      obtain ⟨n, hn⟩ : ∃ n, T[i]? = some n := ⟨T[i]'(by omega), List.getElem?_eq_getElem (by omega)⟩
      have hnm := hTw n (List.mem_of_getElem? hn)
      have hth : M2 (G.1 n) = some (6 + 2 * n, .inr (2, [.int (nI n), .ref (G.2.1 n), .int (st.2.1 n), .int (cs_B ((cl_mark T root row rch).1 n))])) := h2.2.2.2.2.2.1 n hnm
      have hstep := sw_take (rch := (cl_mark T root row rch).1) hn (row, hld, [])
      rw [← hst] at hstep
      have hle := sw_take_len T (cl_mark T root row rch).1 (i + 1) (row, hld, [])
      refine lv_iload_n hx hb dc_TH_collect_14 rfl (lv_fd hl rfl) ?_
      refine lv_iload_n hx hb dc_TH_collect_15 rfl (lv_fd hl rfl) ?_
      refine gn_ge (tgt := 49) hx hb (by omega) (by omega) dc_TH_collect_16 (by decide) (fun q => absurd q (by omega)) (fun _ => ?_)
      refine lv_aload_n hx hb dc_TH_collect_19 rfl (lv_fd hl rfl) ?_
      refine gh_get hx hb ht nu_TH hown hK.1 hP h2.1 rfl 1 (by decide) (ht _ ww_51) (fun _ h9 => h9) rfl dc_TH_collect_20 ?_
      refine lv_iload_n hx hb dc_TH_collect_23 rfl (lv_fd hl rfl) ?_
      refine gk_sq (gk_rV F (b := G.2.2.2.1) (As := [.int (nI i)]) (rest := []) (ct_AL_get l E _ _ (j := i) h2.2.2.1 (by rw [hmlT]; omega)) ww_172 ww_173 ww_174 ww_4 ww_175 rfl rfl ⟨by decide, by decide, by show _ = some 1; decide +kernel⟩ ⟨Nat.le_of_ble_eq_true rfl, Nat.le_of_ble_eq_true rfl⟩ (by obtain ⟨mk, el, hq, -⟩ := h2.2.2.1; exact gh_recv hK.1 hP hq rfl) hK hZ hP hS hA hl.1 rfl (Nat.le_of_ble_eq_true rfl) dc_TH_collect_24 ⟨by show 0 + 156 + (ci - cU) / 5 + 0 ≤ 468; omega, by show 0 + 3120 + 4 * (ci - cU) + 0 ≤ 9360; omega⟩) (fun r hr2 => ?_)
      have hr2 : r = some (G.1 n) := by rw [hr2, List.getElem?_map, hn]; rfl
      subst hr2
      refine va_castE hx hb hown (ht _ ww_22) (gh_recv hK.1 hP hth rfl) dc_TH_collect_27 ?_
      refine lv_astore_n hx hb dc_TH_collect_30 rfl hl (by decide) rfl (fun ls hl => ?_)
      refine lv_aload_n hx hb dc_TH_collect_31 rfl (lv_fd hl rfl) ?_
      refine gh_get hx hb ht nu_TG hown hK.1 hP hth rfl 3 (by decide) (ht _ ww_91) (fun _ h9 => h9) rfl dc_TH_collect_32 ?_
      refine lv_if_ne (tgt := 43) hx hb dc_TH_collect_35 (by decide) (fun hz => ?_) (fun hz => ?_)
      · have hrt : (cl_mark T root row rch).1 n = true := by
          cases hq : (cl_mark T root row rch).1 n with
          | true => rfl
          | false => rw [hq] at hz; exact absurd rfl hz
        rw [if_pos hrt] at hstep
        refine lv_iinc (k := 3) (v := nI (i + 1)) hx hb dc_TH_collect_43 hl rfl (gh_inc i) (by decide) rfl (fun ls hl => ?_)
        refine lv_goto (tgt := 14) hx hb dc_TH_collect_46 (by decide) ?_
        exact ih (i + 1) M2 H locs ls ci st (by omega) hstep.symm (lv_sub hl [2, 3, 0] rfl) hP hS h2 hc1 hc2
      · have hrf : ¬ (cl_mark T root row rch).1 n = true := by
          intro q
          rw [q] at hz
          exact absurd hz (by decide)
        rw [if_neg hrf] at hstep
        rw [hstep] at hle
        have hcap := h2.2.2.2.1.cap
        have hdl := dr_len (st.1 n) st.2
        obtain ⟨rw2, hl2, U2⟩ := st
        have hle : (dr_f (rw2 n) (hl2, U2)).2.length ≤ (cl_sweep T (cl_mark T root row rch).1 (row, hld, [])).2.2.length := hle
        have hdl : U2.length ≤ (dr_f (rw2 n) (hl2, U2)).2.length := hdl
        have hdc1 : ci ≤ dr_c rw2 (hl2, U2) ci n := (al_to_ok _ _ hcap _).2
        have hdc2 : dr_c rw2 (hl2, U2) ci n ≤ 780 := al_to_le hc2 (by decide) _ (by show U2.length + ((dr_f (rw2 n) (hl2, U2)).2.length - U2.length) + (U2.length + ((dr_f (rw2 n) (hl2, U2)).2.length - U2.length)) / 2 ≤ 780; omega)
        refine lv_aload_n hx hb dc_TH_collect_38 rfl (lv_fd hl rfl) ?_
        refine lv_aload_n hx hb dc_TH_collect_39 rfl (lv_fd hl rfl) ?_
        refine gk_cv (gk_rV F (b := h0) (As := [.ref (G.1 n)]) (rest := []) (ct_TH_dropItems l E _ _ h2 hnm hc2 (by show (dr_f (rw2 n) (hl2, U2)).2.length ≤ 520; omega)) ww_186 ww_188 ws_TH_dropItems ww_1 ww_189 rfl rfl ⟨by decide, by decide, by show _ = some 1; decide +kernel⟩ ⟨Nat.le_of_ble_eq_true rfl, Nat.le_of_ble_eq_true rfl⟩ (gh_recv hK.1 hP h2.1 rfl) hK hZ hP hS hA hl.1 rfl (Nat.le_of_ble_eq_true rfl) dc_TH_collect_40 ⟨by show 0 + 156 + (ci - cU) / 5 + (dr_c rw2 (hl2, U2) ci n - ci) / 5 ≤ 468; omega, by show 0 + 3120 + 4 * (ci - cU) + 4 * (dr_c rw2 (hl2, U2) ci n - ci) ≤ 9360; omega⟩) hP hS hA (fun M3 H locs h3 hP hS => ?_)
        refine lv_iinc (k := 3) (v := nI (i + 1)) hx hb dc_TH_collect_43 hl rfl (gh_inc i) (by decide) rfl (fun ls hl => ?_)
        refine lv_goto (tgt := 14) hx hb dc_TH_collect_46 (by decide) ?_
        refine W.widen (k := 0 + 156 + (dr_c rw2 (hl2, U2) ci n - cU) / 5) (n := 0 + 3120 + 4 * (dr_c rw2 (hl2, U2) ci n - cU)) (by show 0 + 156 + (ci - cU) / 5 + (dr_c rw2 (hl2, U2) ci n - ci) / 5 ≤ _; omega) (by show 0 + 3120 + 4 * (ci - cU) + 4 * (dr_c rw2 (hl2, U2) ci n - ci) ≤ _; omega) ?_
        exact ih (i + 1) M3 H locs ls _ (cl_drop (rw2, hl2, U2) n) (by omega) hstep.symm (lv_sub hl [2, 3, 0] rfl) hP hS h3 (by omega) hdc2
  refine lv_iconst (v := nI 0) hx hb dc_TH_collect_12 (by decide) ?_
  refine lv_istore_n hx hb dc_TH_collect_13 rfl hl (by decide) rfl (fun ls hl => ?_)
  have hw := loop T.length 0 M1 H locs ls cU (row, hld, []) (by omega) rfl (lv_sub hl [2, 1, 0] rfl) hP hS h1 (Nat.le_refl _) hcU
  rw [Nat.sub_self] at hw
  exact hw
