def cl_hold (hld : Nat → Int32) (x : Option Nat) : Nat → Int32 := match x with
  | none => hld
  | some n => va_up hld n (hld n + 1)
theorem cs_Bv (b : Bool) : narrow .boolean (.int (cs_B b)) = .int (cs_B b) ∧ fits .boolean (.int (cs_B b)) = true := by cases b <;> exact ⟨by decide, by decide⟩
set_option maxHeartbeats 4000000 in
set_option maxRecDepth 100000 in
theorem ct_TH_hold (l : Launch) (E : gk_E) (M : gh_M) (sz : Nat) {h0 made cT cU cR : Nat} {G : cs_G} {T U R : List Nat} {root : Nat → Option Nat} {row : Nat → List it_I} {hld : Nat → Int32} {rch : Nat → Bool} (h : cs_R E M h0 G made T U R cT cU cR root row hld rch) (x : Option Nat) (hx0 : ∀ n, x = some n → n < made) : Met l yn_TH_hold (.code yn_TH_hold cd_TH_hold 1 none :: bw_L) { frames := 0, cells := 0, slots := 0, locals := 0 } (gk_Pre E [va_rf (x.map G.1)] M sz) (va_Qv (fun M' => cs_R E M' h0 G made T U R cT cU cR root row (cl_hold hld x) rch) (gk_B E M sz) (gh_A M sz)) 0 0 (gh_A M sz) := by
  cases x with
  | none =>
    refine gk_met rfl (Nat.le_of_ble_eq_true rfl) ?_
    intro p e s m below meth c F hsz hP hK hZ ls hl
    subst hsz
    have hx := F.1
    have hb := F.2.1
    have hr := F.2.2.1
    have hml := F.2.2.2.1
    have hown : s.vm.findClass "ThingHeap" = some m.cls := F.2.2.2.2.1
    have hlk := F.2.2.2.2.2.1
    have hnm := F.2.2.2.2.2.2.1
    have ht := fun (w : Cond) (h : w ∈ bw_L) => F.2.2.2.2.2.2.2 w (List.mem_cons_of_mem _ h)
    have hA : ∀ q, s.heap.size ≤ q → gh_A M s.heap.size q := fun q h => Or.inr h
    have hS : va_S (gh_A M s.heap.size) s.heap s.heap [] := va_S.rf
    have hl : lv_has ls 1 [(0, .null)] := hl
    refine lv_aload_nN hx hb dc_TH_hold_0 rfl (lv_fd hl rfl) ?_
    refine lv_ifnullN (tgt := 14) hx hb dc_TH_hold_1 (by decide) ?_
    exact gk_ev hx hb hr hlk hP hS dc_TH_hold_14 h
  | some n =>
    have hn := hx0 n rfl
    refine gk_met rfl (Nat.le_of_ble_eq_true rfl) ?_
    intro p e s m below meth c F hsz hP hK hZ ls hl
    subst hsz
    have hx := F.1
    have hb := F.2.1
    have hr := F.2.2.1
    have hml := F.2.2.2.1
    have hown : s.vm.findClass "ThingHeap" = some m.cls := F.2.2.2.2.1
    have hlk := F.2.2.2.2.2.1
    have hnm := F.2.2.2.2.2.2.1
    have ht := fun (w : Cond) (h : w ∈ bw_L) => F.2.2.2.2.2.2.2 w (List.mem_cons_of_mem _ h)
    have hA : ∀ q, s.heap.size ≤ q → gh_A M s.heap.size q := fun q h => Or.inr h
    have hS : va_S (gh_A M s.heap.size) s.heap s.heap [] := va_S.rf
    have hl : lv_has ls 1 [(0, .ref (G.1 n))] := hl
    have hth : M (G.1 n) = some (6 + 2 * n, .inr (2, [.int (nI n), .ref (G.2.1 n), .int (hld n), .int (cs_B (rch n))])) := h.2.2.2.2.2.1 n hn
    refine lv_aload_n hx hb dc_TH_hold_0 rfl (lv_fd hl rfl) ?_
    refine lv_ifnull hx hb dc_TH_hold_1 ?_
    refine lv_aload_n hx hb dc_TH_hold_4 rfl (lv_fd hl rfl) ?_
    refine lv_dup hx hb dc_TH_hold_5 rfl ?_
    refine gh_get hx hb ht nu_TG hown hK.1 hP hth rfl 2 (by decide) (ht _ ww_89) (fun _ h9 => h9) rfl dc_TH_hold_6 ?_
    refine lv_iconst (v := nI 1) hx hb dc_TH_hold_9 (by decide) ?_
    refine lv_iadd hx hb dc_TH_hold_10 ?_
    refine gh_put (ty := .int) hx hb ht nu_TG nt_TG no_TG nn_TG hown hK.1 hP hS hth rfl 2 (by decide) (ht _ ww_89) (fun _ h9 => h9) rfl (by decide +kernel) rfl rfl (Nat.le_of_ble_eq_true rfl) rfl dc_TH_hold_11 (fun H locs hP hS => ?_)
    refine gk_ev hx hb hr hlk hP hS dc_TH_hold_14 ?_
    have h2 := h.setTh hn (v := hld n + nI 1) (b := rch n)
    rw [va_up_id rch n rfl] at h2
    exact h2
def lo_c (hld : Nat → Int32) (U : List Nat) (c : Nat) (x : Option Nat) : Nat := al_to c U.length ((cl_lose (hld, U) x).2.length - U.length)
theorem lo_same {hld : Nat → Int32} {U : List Nat} {c : Nat} {x : Option Nat} (h : (cl_lose (hld, U) x).2 = U) : lo_c hld U c x = c := by
  unfold lo_c
  rw [h, Nat.sub_self]
  rfl
theorem lo_more {hld : Nat → Int32} {U : List Nat} {c n : Nat} {x : Option Nat} (h : (cl_lose (hld, U) x).2 = U ++ [n]) : lo_c hld U c x = al_cap c U.length := by
  unfold lo_c
  rw [h, List.length_append, Nat.add_sub_cancel_left]
  rfl
set_option maxHeartbeats 4000000 in
set_option maxRecDepth 100000 in
theorem ct_TH_loseHold (l : Launch) (E : gk_E) (M : gh_M) (sz : Nat) {h0 made cT cU cR : Nat} {G : cs_G} {T U R : List Nat} {root : Nat → Option Nat} {row : Nat → List it_I} {hld : Nat → Int32} {rch : Nat → Bool} (h : cs_R E M h0 G made T U R cT cU cR root row hld rch) (x : Option Nat) (hx0 : ∀ n, x = some n → n < made) (hcU : cU ≤ 1000) : Met l yn_TH_loseHold (.code yn_TH_loseHold cd_TH_loseHold 2 none :: bw_L) { frames := 7, cells := ((lo_c hld U cU x - cU) / 5), slots := (4 * (lo_c hld U cU x - cU)), locals := 206 } (gk_Pre E [.ref h0, va_rf (x.map G.1)] M sz) (va_Qv (fun M' => cs_R E M' h0 G made T (cl_lose (hld, U) x).2 R cT (lo_c hld U cU x) cR root row (cl_lose (hld, U) x).1 rch) (gk_B E M sz) (gh_A M sz)) ((lo_c hld U cU x - cU) / 5) (4 * (lo_c hld U cU x - cU)) (gh_A M sz) := by
  cases x with
  | none =>
    have hlo : lo_c hld U cU none = cU := lo_same rfl
    rw [hlo, Nat.sub_self]
    refine gk_met rfl (Nat.le_of_ble_eq_true rfl) ?_
    intro p e s m below meth c F hsz hP hK hZ ls hl
    subst hsz
    have hx := F.1
    have hb := F.2.1
    have hr := F.2.2.1
    have hml := F.2.2.2.1
    have hown : s.vm.findClass "ThingHeap" = some m.cls := F.2.2.2.2.1
    have hlk := F.2.2.2.2.2.1
    have hnm := F.2.2.2.2.2.2.1
    have ht := fun (w : Cond) (h : w ∈ bw_L) => F.2.2.2.2.2.2.2 w (List.mem_cons_of_mem _ h)
    have hA : ∀ q, s.heap.size ≤ q → gh_A M s.heap.size q := fun q h => Or.inr h
    have hS : va_S (gh_A M s.heap.size) s.heap s.heap [] := va_S.rf
    have hl : lv_has ls 2 [(0, .ref h0), (1, .null)] := hl
    refine lv_aload_nN hx hb dc_TH_loseHold_0 rfl (lv_fd hl rfl) ?_
    refine lv_ifnonnullN hx hb dc_TH_loseHold_1 ?_
    exact gk_ev hx hb hr hlk hP hS dc_TH_loseHold_4 h
  | some n =>
    have hn := hx0 n rfl
    refine gk_met rfl (Nat.le_of_ble_eq_true rfl) ?_
    intro p e s m below meth c F hsz hP hK hZ ls hl
    subst hsz
    have hx := F.1
    have hb := F.2.1
    have hr := F.2.2.1
    have hml := F.2.2.2.1
    have hown : s.vm.findClass "ThingHeap" = some m.cls := F.2.2.2.2.1
    have hlk := F.2.2.2.2.2.1
    have hnm := F.2.2.2.2.2.2.1
    have ht := fun (w : Cond) (h : w ∈ bw_L) => F.2.2.2.2.2.2.2 w (List.mem_cons_of_mem _ h)
    have hA : ∀ q, s.heap.size ≤ q → gh_A M s.heap.size q := fun q h => Or.inr h
    have hS : va_S (gh_A M s.heap.size) s.heap s.heap [] := va_S.rf
    have hl : lv_has ls 2 [(0, .ref h0), (1, .ref (G.1 n))] := hl
    have hth : M (G.1 n) = some (6 + 2 * n, .inr (2, [.int (nI n), .ref (G.2.1 n), .int (hld n), .int (cs_B (rch n))])) := h.2.2.2.2.2.1 n hn
    refine lv_aload_n hx hb dc_TH_loseHold_0 rfl (lv_fd hl rfl) ?_
    refine lv_ifnonnull (tgt := 5) hx hb dc_TH_loseHold_1 (by decide) ?_
    refine lv_aload_n hx hb dc_TH_loseHold_5 rfl (lv_fd hl rfl) ?_
    refine lv_dup hx hb dc_TH_loseHold_6 rfl ?_
    refine gh_get hx hb ht nu_TG hown hK.1 hP hth rfl 2 (by decide) (ht _ ww_89) (fun _ h9 => h9) rfl dc_TH_loseHold_7 ?_
    refine lv_iconst (v := nI 1) hx hb dc_TH_loseHold_10 (by decide) ?_
    refine lv_isub hx hb dc_TH_loseHold_11 ?_
    refine gh_put (ty := .int) hx hb ht nu_TG nt_TG no_TG nn_TG hown hK.1 hP hS hth rfl 2 (by decide) (ht _ ww_89) (fun _ h9 => h9) rfl (by decide +kernel) rfl rfl (Nat.le_of_ble_eq_true rfl) rfl dc_TH_loseHold_12 (fun H locs hP hS => ?_)
    have h2 := h.setTh hn (v := hld n - nI 1) (b := rch n)
    rw [va_up_id rch n rfl] at h2
    have hP : gh_P E.1 cl_L (gh_A M s.heap.size) (gh_up M (G.1 n) (6 + 2 * n, .inr (2, [.int (nI n), .ref (G.2.1 n), .int (hld n - nI 1), .int (cs_B (rch n))]))) H := hP
    have hth2 := gh_up_self M (G.1 n) (6 + 2 * n, .inr (2, [.int (nI n), .ref (G.2.1 n), .int (hld n - nI 1), .int (cs_B (rch n))]))
    generalize gh_up M (G.1 n) (6 + 2 * n, .inr (2, [.int (nI n), .ref (G.2.1 n), .int (hld n - nI 1), .int (cs_B (rch n))])) = M1 at h2 hth2 hP
    have hh := h2.1
    refine lv_aload_n hx hb dc_TH_loseHold_15 rfl (lv_fd hl rfl) ?_
    refine gh_get hx hb ht nu_TG hown hK.1 hP hth2 rfl 2 (by decide) (ht _ ww_89) (fun _ h9 => h9) rfl dc_TH_loseHold_16 ?_
    refine lv_if_ne (tgt := 31) hx hb dc_TH_loseHold_19 (by decide) (fun hz => ?_) (fun hz => ?_)
    · have hU2 : (cl_lose (hld, U) (some n)).2 = U := if_neg hz
      have hlo : lo_c hld U cU (some n) = cU := lo_same hU2
      refine W.widen (k := (lo_c hld U cU (some n) - cU) / 5) (n := 4 * (lo_c hld U cU (some n) - cU)) (Nat.zero_le _) (Nat.zero_le _) ?_
      refine gk_ev hx hb hr hlk hP hS dc_TH_loseHold_31 ?_
      rw [hU2, hlo]
      exact h2
    · have hU2 : (cl_lose (hld, U) (some n)).2 = U ++ [n] := if_pos hz
      have hlo : lo_c hld U cU (some n) = al_cap cU U.length := lo_more hU2
      have hUl := h2.2.2.2.1
      have hUw := h2.2.2.2.2.2.2.2.2.1
      have hcost := al_cost cU U.length hUl.cap
      have hml2 : (U.map G.1).length = U.length := List.length_map _
      refine lv_aload_n hx hb dc_TH_loseHold_22 rfl (lv_fd hl rfl) ?_
      refine gh_get hx hb ht nu_TH hown hK.1 hP hh rfl 2 (by decide) (ht _ ww_52) (fun _ h9 => h9) rfl dc_TH_loseHold_23 ?_
      refine lv_aload_n hx hb dc_TH_loseHold_26 rfl (lv_fd hl rfl) ?_
      refine gk_ci (gk_rV F (b := G.2.2.2.2.1) (As := [.ref (G.1 n)]) (rest := []) (ct_AL_add1 l E _ _ hUl (by omega) (h2.elL hUw) (h2.el hn)) ww_101 ww_102 ww_103 ww_4 ww_104 rfl rfl ⟨by decide, by decide, by show _ = some 1; decide +kernel⟩ ⟨Nat.le_of_ble_eq_true rfl, Nat.le_of_ble_eq_true rfl⟩ (by obtain ⟨mk, el, hq, -⟩ := hUl; exact gh_recv hK.1 hP hq rfl) hK hZ hP hS hA hl.1 rfl (Nat.le_of_ble_eq_true rfl) dc_TH_loseHold_27 ⟨by rw [hml2]; show 0 + al_mc cU U.length ≤ (lo_c hld U cU (some n) - cU) / 5; rw [hlo]; omega, by rw [hml2]; show 0 + al_ms cU U.length ≤ 4 * (lo_c hld U cU (some n) - cU); rw [hlo]; omega⟩) hP hS hA (fun r M2 H locs hM2 hP hS => ?_)
      refine lv_pop hx hb dc_TH_loseHold_30 rfl ?_
      refine W.widen (k := (lo_c hld U cU (some n) - cU) / 5) (n := 4 * (lo_c hld U cU (some n) - cU)) (by rw [hml2, hlo]; omega) (by rw [hml2, hlo]; omega) ?_
      refine gk_ev hx hb hr hlk hP hS dc_TH_loseHold_31 ?_
      rw [hU2, hlo]
      refine h2.setU hM2.1 (by rw [List.map_append]; have := hM2.2; rw [hml2] at this; exact this) (fun k hk => ?_)
      rcases List.mem_append.mp hk with q | q
      · exact hUw k q
      · rw [List.mem_singleton.mp q]
        exact hn
