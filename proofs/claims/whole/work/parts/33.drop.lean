theorem al_to_mono {c n : Nat} (hc : c = 0 ∨ 10 ≤ c) {j k : Nat} (h : j ≤ k) : al_to c n j ≤ al_to c n k := by
  obtain ⟨d, rfl⟩ := Nat.le.dest h
  rw [al_to_add]
  exact (al_to_ok _ _ (al_to_ok c n hc j).1 d).2
abbrev dr_f (r : List it_I) (a : (Nat → Int32) × List Nat) : (Nat → Int32) × List Nat := r.foldl (fun a x => cl_lose a x.1) a
theorem dr_len (r : List it_I) (a : (Nat → Int32) × List Nat) : a.2.length ≤ (dr_f r a).2.length := by
  obtain ⟨X, hX⟩ := cl_fold_app r a
  show a.2.length ≤ (List.foldl (fun a x => cl_lose a x.1) a r).2.length
  rw [hX, List.length_append]
  omega
theorem dr_take {r : List it_I} {k : Nat} {x : it_I} (hx : r[k]? = some x) (a : (Nat → Int32) × List Nat) : dr_f (r.take (k + 1)) a = cl_lose (dr_f (r.take k) a) x.1 := by
  have : r.take (k + 1) = r.take k ++ [x] := by
    rw [List.take_add_one, hx]
    rfl
  show List.foldl _ a (r.take (k + 1)) = _
  rw [this, List.foldl_append]
  rfl
theorem dr_take_len (r : List it_I) (k : Nat) (a : (Nat → Int32) × List Nat) : (dr_f (r.take k) a).2.length ≤ (dr_f r a).2.length := by
  have h := dr_len (r.drop k) (dr_f (r.take k) a)
  have e : dr_f (r.drop k) (dr_f (r.take k) a) = dr_f r a := by
    show List.foldl _ (List.foldl _ a (r.take k)) (r.drop k) = _
    rw [← List.foldl_append, List.take_append_drop]
  rw [e] at h
  exact h
/-- the capacity of the unheld behind a row's drop -/
def dr_c (row : Nat → List it_I) (hU : (Nat → Int32) × List Nat) (c u : Nat) : Nat := al_to c hU.2.length ((dr_f (row u) hU).2.length - hU.2.length)
set_option maxHeartbeats 4000000 in
set_option maxRecDepth 100000 in
theorem ct_TH_dropItems (l : Launch) (E : gk_E) (M : gh_M) (sz : Nat) {h0 made cT cU cR : Nat} {G : cs_G} {T U R : List Nat} {root : Nat → Option Nat} {row : Nat → List it_I} {hld : Nat → Int32} {rch : Nat → Bool} (h : cs_R E M h0 G made T U R cT cU cR root row hld rch) {u : Nat} (hu : u < made) (hcU : cU ≤ 780) (hlen : (dr_f (row u) (hld, U)).2.length ≤ 520) : Met l yn_TH_dropItems (.code yn_TH_dropItems cd_TH_dropItems 3 none :: bw_L) { frames := 8, cells := ((dr_c row (hld, U) cU u - cU) / 5), slots := (4 * (dr_c row (hld, U) cU u - cU)), locals := 232 } (gk_Pre E [.ref h0, .ref (G.1 u)] M sz) (va_Qv (fun M' => cs_R E M' h0 G made T (cl_drop (row, hld, U) u).2.2 R cT (dr_c row (hld, U) cU u) cR root (cl_drop (row, hld, U) u).1 (cl_drop (row, hld, U) u).2.1 rch) (gk_B E M sz) (gh_A M sz)) ((dr_c row (hld, U) cU u - cU) / 5) (4 * (dr_c row (hld, U) cU u - cU)) (gh_A M sz) := by
  refine gk_met rfl (Nat.le_of_ble_eq_true rfl) ?_
  intro p e s m below meth c F hsz hP hK hZ ls hl
  subst hsz
  have hx := F.1
  have hb := F.2.1
  have hr := F.2.2.1
  have hml := F.2.2.2.1
  have hown : s.vm.findClass "ThingHeap" = some m.cls := F.2.2.2.2.1
  have hlk := F.2.2.2.2.2.1
  have hnm := F.2.2.2.2.2.2.1
  have ht := fun (w : Cond) (h : w ∈ bw_L) => F.2.2.2.2.2.2.2 w (List.mem_cons_of_mem _ h)
  have hA : ∀ q, s.heap.size ≤ q → gh_A M s.heap.size q := fun q h => Or.inr h
  have hS : va_S (gh_A M s.heap.size) s.heap s.heap [] := va_S.rf
  have hl : lv_has ls 3 [(0, .ref h0), (1, .ref (G.1 u))] := hl
  have hcap := h.2.2.2.1.cap
  have hrl : (row u).length ≤ 450 := by
    obtain ⟨cap, its, hc, hal, hil, -⟩ := h.2.2.2.2.2.2.1 u hu
    have := hal.len
    omega
  have loop : ∀ (d k : Nat) (M2 : gh_M) (H : Heap) (locs : List Loc) (ls : Array Slot) (c2 s2 : Nat), k + d = (row u).length → lv_has ls 3 [(0, .ref h0), (1, .ref (G.1 u)), (2, .int (nI k))] → gh_P E.1 cl_L (gh_A M s.heap.size) M2 H → va_S (gh_A M s.heap.size) s.heap H locs →
      cs_R E M2 h0 G made T (dr_f ((row u).take k) (hld, U)).2 R cT (al_to cU U.length ((dr_f ((row u).take k) (hld, U)).2.length - U.length)) cR root row (dr_f ((row u).take k) (hld, U)).1 rch → c2 = ((al_to cU U.length ((dr_f ((row u).take k) (hld, U)).2.length - U.length)) - cU) / 5 → s2 = 4 * ((al_to cU U.length ((dr_f ((row u).take k) (hld, U)).2.length - U.length)) - cU) →
      W p l e ({ frames := 8, cells := ((dr_c row (hld, U) cU u - cU) / 5), slots := (4 * (dr_c row (hld, U) cU u - cU)), locals := 232 } : Room) s m ([.ref h0, .ref (G.1 u)] : List Value).toArray below meth c H locs c2 s2 (MQ below (va_Qv (fun M' => cs_R E M' h0 G made T (cl_drop (row, hld, U) u).2.2 R cT (dr_c row (hld, U) cU u) cR root (cl_drop (row, hld, U) u).1 (cl_drop (row, hld, U) u).2.1 rch) (gk_B E M s.heap.size) (gh_A M s.heap.size)) ([.ref h0, .ref (G.1 u)] : List Value).toArray s ((dr_c row (hld, U) cU u - cU) / 5) (4 * (dr_c row (hld, U) cU u - cU)) (gh_A M s.heap.size)) (F0 m 2 ls []) := by
    intro d
    induction d with
    | zero =>
      intro k M2 H locs ls c2 s2 hk hl hP hS h2 hc2 hs2
      have hth2 : M2 (G.1 u) = some (6 + 2 * u, .inr (2, [.int (nI u), .ref (G.2.1 u), .int ((dr_f ((row u).take k) (hld, U)).1 u), .int (cs_B (rch u))])) := h2.2.2.2.2.2.1 u hu
      obtain ⟨cap, its, hca, hal, hil, hits⟩ := h2.2.2.2.2.2.2.1 u hu
      have hlim := hal.len
      have htk : (row u).take k = row u := List.take_of_length_le (by omega)
      refine lv_iload_n hx hb dc_TH_dropItems_2 rfl (lv_fd hl rfl) ?_
      refine lv_aload_n hx hb dc_TH_dropItems_3 rfl (lv_fd hl rfl) ?_
      refine gh_get hx hb ht nu_TG hown hK.1 hP hth2 rfl 1 (by decide) (ht _ ww_87) (fun _ h9 => h9) rfl dc_TH_dropItems_4 ?_
      refine gk_si (gk_rV F (b := G.2.1 u) (As := []) (rest := [.int (nI k)]) (ct_AL_size l E _ _ hal) ww_73 ww_74 ww_75 ww_4 ww_76 rfl rfl ⟨by decide, by decide, by show _ = some 0; decide +kernel⟩ ⟨Nat.le_of_ble_eq_true rfl, Nat.le_of_ble_eq_true rfl⟩ (by obtain ⟨mk, el, hq, -⟩ := hal; exact gh_recv hK.1 hP hq rfl) hK hZ hP hS hA hl.1 rfl (Nat.le_of_ble_eq_true rfl) dc_TH_dropItems_7 ⟨by rw [hc2, htk]; exact Nat.le_refl _, by rw [hs2, htk]; exact Nat.le_refl _⟩) (fun r hr1 => ?_)
      subst hr1
      refine gn_ge (tgt := 37) hx hb (by omega) (by omega) dc_TH_dropItems_10 (by decide) (fun _ => ?_) (fun q => absurd q (by omega))
      refine lv_aload_n hx hb dc_TH_dropItems_37 rfl (lv_fd hl rfl) ?_
      refine gh_get hx hb ht nu_TG hown hK.1 hP hth2 rfl 1 (by decide) (ht _ ww_87) (fun _ h9 => h9) rfl dc_TH_dropItems_38 ?_
      refine gk_cv (gk_rV F (b := G.2.1 u) (As := []) (rest := []) (ct_AL_clear l E _ _ hal) ww_191 ww_192 ww_193 ww_4 ww_194 rfl rfl ⟨by decide, by decide, by show _ = some 0; decide +kernel⟩ ⟨Nat.le_of_ble_eq_true rfl, Nat.le_of_ble_eq_true rfl⟩ (by obtain ⟨mk, el, hq, -⟩ := hal; exact gh_recv hK.1 hP hq rfl) hK hZ hP hS hA hl.1 rfl (Nat.le_of_ble_eq_true rfl) dc_TH_dropItems_41 ⟨by rw [hc2, htk]; exact Nat.le_refl _, by rw [hs2, htk]; exact Nat.le_refl _⟩) hP hS hA (fun M3 H locs hM3 hP hS => ?_)
      refine W.widen (k := (dr_c row (hld, U) cU u - cU) / 5) (n := 4 * (dr_c row (hld, U) cU u - cU)) (by rw [hc2, htk]; exact Nat.le_refl _) (by rw [hs2, htk]; exact Nat.le_refl _) ?_
      refine gk_ev hx hb hr hlk hP hS dc_TH_dropItems_44 ?_
      rw [htk] at h2
      exact h2.setRow hM3.1 ⟨cap, [], hca, hM3.2, rfl, fun i q x hi => by cases hi⟩ (fun x hx' => by cases hx')
    | succ d ih =>
      intro k M2 H locs ls c2 s2 hk hl hP hS h2 hc2 hs2
      have hth2 : M2 (G.1 u) = some (6 + 2 * u, .inr (2, [.int (nI u), .ref (G.2.1 u), .int ((dr_f ((row u).take k) (hld, U)).1 u), .int (cs_B (rch u))])) := h2.2.2.2.2.2.1 u hu
      obtain ⟨cap, its, hca, hal, hil, hits⟩ := h2.2.2.2.2.2.2.1 u hu
      have hlim := hal.len
      have hki : k < its.length := by omega
      obtain ⟨q, hq⟩ : ∃ q, its[k]? = some q := ⟨its[k], List.getElem?_eq_getElem hki⟩
      obtain ⟨x, hxr⟩ : ∃ x, (row u)[k]? = some x := ⟨(row u)[k]'(by omega), List.getElem?_eq_getElem (by omega)⟩
      have hqx : M2 q = some (0, .inr (3, [va_rf (x.1.map G.1), .int x.2])) := hits k q x hq hxr
      have hstep := dr_take hxr (hld, U)
      have hl1 := dr_len ((row u).take k) (hld, U)
      have hl1 : U.length ≤ (dr_f ((row u).take k) (hld, U)).2.length := hl1
      have hl2 := dr_take_len (row u) (k + 1) (hld, U)
      have hl3 : (dr_f ((row u).take k) (hld, U)).2.length ≤ (dr_f ((row u).take (k + 1)) (hld, U)).2.length := by
        rw [hstep]
        obtain ⟨X, hX⟩ := cl_lose_app (dr_f ((row u).take k) (hld, U)) x.1
        rw [hX, List.length_append]
        omega
      have hlc : lo_c (dr_f ((row u).take k) (hld, U)).1 (dr_f ((row u).take k) (hld, U)).2 (al_to cU U.length ((dr_f ((row u).take k) (hld, U)).2.length - U.length)) x.1 = al_to cU U.length ((dr_f ((row u).take (k + 1)) (hld, U)).2.length - U.length) := by
        unfold lo_c
        rw [← hstep]
        have e := al_to_add cU U.length ((dr_f ((row u).take k) (hld, U)).2.length - U.length) ((dr_f ((row u).take (k + 1)) (hld, U)).2.length - (dr_f ((row u).take k) (hld, U)).2.length)
        rw [show U.length + ((dr_f ((row u).take k) (hld, U)).2.length - U.length) = (dr_f ((row u).take k) (hld, U)).2.length by omega] at e
        rw [← e]
        congr 1
        omega
      have hb1 : al_to cU U.length ((dr_f ((row u).take k) (hld, U)).2.length - U.length) ≤ 780 := al_to_le hcU (by decide) _ (by omega)
      have hb2 : al_to cU U.length ((dr_f ((row u).take k) (hld, U)).2.length - U.length) ≤ al_to cU U.length ((dr_f ((row u).take (k + 1)) (hld, U)).2.length - U.length) := al_to_mono hcap (by omega)
      have hb3 : al_to cU U.length ((dr_f ((row u).take (k + 1)) (hld, U)).2.length - U.length) ≤ dr_c row (hld, U) cU u := al_to_mono hcap (by show _ ≤ _ - U.length; omega)
      have hb0 : cU ≤ al_to cU U.length ((dr_f ((row u).take k) (hld, U)).2.length - U.length) := (al_to_ok _ _ hcap _).2
      refine lv_iload_n hx hb dc_TH_dropItems_2 rfl (lv_fd hl rfl) ?_
      refine lv_aload_n hx hb dc_TH_dropItems_3 rfl (lv_fd hl rfl) ?_
      refine gh_get hx hb ht nu_TG hown hK.1 hP hth2 rfl 1 (by decide) (ht _ ww_87) (fun _ h9 => h9) rfl dc_TH_dropItems_4 ?_
      refine gk_si (gk_rV F (b := G.2.1 u) (As := []) (rest := [.int (nI k)]) (ct_AL_size l E _ _ hal) ww_73 ww_74 ww_75 ww_4 ww_76 rfl rfl ⟨by decide, by decide, by show _ = some 0; decide +kernel⟩ ⟨Nat.le_of_ble_eq_true rfl, Nat.le_of_ble_eq_true rfl⟩ (by obtain ⟨mk, el, hq, -⟩ := hal; exact gh_recv hK.1 hP hq rfl) hK hZ hP hS hA hl.1 rfl (Nat.le_of_ble_eq_true rfl) dc_TH_dropItems_7 ⟨by show c2 + 0 ≤ (dr_c row (hld, U) cU u - cU) / 5; omega, by show s2 + 0 ≤ 4 * (dr_c row (hld, U) cU u - cU); omega⟩) (fun r hr1 => ?_)
      subst hr1
      refine gn_ge (tgt := 37) hx hb (by omega) (by omega) dc_TH_dropItems_10 (by decide) (fun q => absurd q (by omega)) (fun _ => ?_)
      refine lv_aload_n hx hb dc_TH_dropItems_13 rfl (lv_fd hl rfl) ?_
      refine lv_aload_n hx hb dc_TH_dropItems_14 rfl (lv_fd hl rfl) ?_
      refine gh_get hx hb ht nu_TG hown hK.1 hP hth2 rfl 1 (by decide) (ht _ ww_87) (fun _ h9 => h9) rfl dc_TH_dropItems_15 ?_
      refine lv_iload_n hx hb dc_TH_dropItems_18 rfl (lv_fd hl rfl) ?_
      refine gk_sq (gk_rV F (b := G.2.1 u) (As := [.int (nI k)]) (rest := [.ref h0]) (ct_AL_get l E _ _ hal hki) ww_172 ww_173 ww_174 ww_4 ww_175 rfl rfl ⟨by decide, by decide, by show _ = some 1; decide +kernel⟩ ⟨Nat.le_of_ble_eq_true rfl, Nat.le_of_ble_eq_true rfl⟩ (by obtain ⟨mk, el, hq, -⟩ := hal; exact gh_recv hK.1 hP hq rfl) hK hZ hP hS hA hl.1 rfl (Nat.le_of_ble_eq_true rfl) dc_TH_dropItems_19 ⟨by show c2 + 0 ≤ (dr_c row (hld, U) cU u - cU) / 5; omega, by show s2 + 0 ≤ 4 * (dr_c row (hld, U) cU u - cU); omega⟩) (fun r hr2 => ?_)
      rw [hq] at hr2
      subst hr2
      refine va_castE hx hb hown (ht _ ww_190) (gh_recv hK.1 hP hqx rfl) dc_TH_dropItems_22 ?_
      refine gh_get hx hb ht nu_IT hown hK.1 hP hqx rfl 0 (by decide) (ht _ ww_238) (fun _ h9 => h9) rfl dc_TH_dropItems_25 ?_
      refine gk_cv (gk_rV F (b := h0) (As := [va_rf (x.1.map G.1)]) (rest := []) (ct_TH_loseHold l E _ _ h2 x.1 (fun n hn => h2.2.2.2.2.2.2.2.2.2.2.2.1 u hu x (List.mem_of_getElem? hxr) n hn) (by omega)) ww_164 ww_166 ws_TH_loseHold ww_1 ww_167 rfl rfl ⟨by decide, by decide, by show _ = some 1; decide +kernel⟩ ⟨Nat.le_of_ble_eq_true rfl, Nat.le_of_ble_eq_true rfl⟩ (gh_recv hK.1 hP h2.1 rfl) hK hZ hP hS hA hl.1 rfl (Nat.le_of_ble_eq_true rfl) dc_TH_dropItems_28 ⟨by rw [hlc]; show c2 + (al_to cU U.length ((dr_f ((row u).take (k + 1)) (hld, U)).2.length - U.length) - al_to cU U.length ((dr_f ((row u).take k) (hld, U)).2.length - U.length)) / 5 ≤ (dr_c row (hld, U) cU u - cU) / 5; omega, by rw [hlc]; show s2 + 4 * (al_to cU U.length ((dr_f ((row u).take (k + 1)) (hld, U)).2.length - U.length) - al_to cU U.length ((dr_f ((row u).take k) (hld, U)).2.length - U.length)) ≤ 4 * (dr_c row (hld, U) cU u - cU); omega⟩) hP hS hA (fun M3 H locs hM3 hP hS => ?_)
      rw [hlc] at hM3
      have hM3 : cs_R E M3 h0 G made T (dr_f ((row u).take (k + 1)) (hld, U)).2 R cT (al_to cU U.length ((dr_f ((row u).take (k + 1)) (hld, U)).2.length - U.length)) cR root row (dr_f ((row u).take (k + 1)) (hld, U)).1 rch := by
        rw [hstep] at hM3 ⊢
        exact hM3
      refine lv_iinc (k := 2) (v := nI (k + 1)) hx hb dc_TH_dropItems_31 hl rfl (gh_inc k) (by decide) rfl (fun ls hl => ?_)
      refine lv_goto (tgt := 2) hx hb dc_TH_dropItems_34 (by decide) ?_
      refine W.widen (k := (al_to cU U.length ((dr_f ((row u).take (k + 1)) (hld, U)).2.length - U.length) - cU) / 5) (n := 4 * (al_to cU U.length ((dr_f ((row u).take (k + 1)) (hld, U)).2.length - U.length) - cU)) (by rw [hlc]; omega) (by rw [hlc]; omega) ?_
      exact ih (k + 1) M3 H locs ls _ _ (by omega) (lv_sub hl [1, 2, 0] rfl) hP hS hM3 rfl rfl
  refine lv_iconst (v := nI 0) hx hb dc_TH_dropItems_0 (by decide) ?_
  refine lv_istore_n hx hb dc_TH_dropItems_1 rfl hl (by decide) rfl (fun ls hl => ?_)
  have h00 : al_to cU U.length ((dr_f ((row u).take 0) (hld, U)).2.length - U.length) = cU := by
    show al_to cU U.length (U.length - U.length) = cU
    rw [Nat.sub_self]
    rfl
  refine loop (row u).length 0 M s.heap [] ls 0 0 (by omega) (lv_sub hl [1, 2, 0] rfl) hP hS ?_ (by rw [h00, Nat.sub_self]) (by rw [h00, Nat.sub_self])
  rw [h00]
  exact h
