theorem cl_reach_app (a : (Nat → Bool) × List Nat) (x : Option Nat) : ∃ X, (cl_reach a x).2 = a.2 ++ X := by
  cases x with
  | none => exact ⟨[], (List.append_nil _).symm⟩
  | some n =>
    unfold cl_reach
    by_cases h : a.1 n = true
    · exact ⟨[], by simp [h]⟩
    · exact ⟨[n], by simp [h]⟩
def re_c (a : (Nat → Bool) × List Nat) (c : Nat) (x : Option Nat) : Nat := al_to c a.2.length ((cl_reach a x).2.length - a.2.length)
theorem re_same {a : (Nat → Bool) × List Nat} {c : Nat} {x : Option Nat} (h : (cl_reach a x).2 = a.2) : re_c a c x = c := by
  unfold re_c
  rw [h, Nat.sub_self]
  rfl
theorem re_more {a : (Nat → Bool) × List Nat} {c n : Nat} {x : Option Nat} (h : (cl_reach a x).2 = a.2 ++ [n]) : re_c a c x = al_cap c a.2.length := by
  unfold re_c
  rw [h, List.length_append, Nat.add_sub_cancel_left]
  rfl
abbrev rx_f (r : List it_I) (a : (Nat → Bool) × List Nat) : (Nat → Bool) × List Nat := r.foldl (fun a x => cl_reach a x.1) a
theorem rx_len (r : List it_I) : ∀ (a : (Nat → Bool) × List Nat), a.2.length ≤ (rx_f r a).2.length := by
  induction r with
  | nil => exact fun a => Nat.le_refl _
  | cons x r ih =>
    intro a
    obtain ⟨X, hX⟩ := cl_reach_app a x.1
    have h1 : a.2.length ≤ (cl_reach a x.1).2.length := by rw [hX, List.length_append]; omega
    exact Nat.le_trans h1 (ih (cl_reach a x.1))
theorem rx_take {r : List it_I} {k : Nat} {x : it_I} (hx : r[k]? = some x) (a : (Nat → Bool) × List Nat) : rx_f (r.take (k + 1)) a = cl_reach (rx_f (r.take k) a) x.1 := by
  have : r.take (k + 1) = r.take k ++ [x] := by
    rw [List.take_add_one, hx]
    rfl
  show List.foldl _ a (r.take (k + 1)) = _
  rw [this, List.foldl_append]
  rfl
theorem rx_take_len (r : List it_I) (k : Nat) (a : (Nat → Bool) × List Nat) : (rx_f (r.take k) a).2.length ≤ (rx_f r a).2.length := by
  have h := rx_len (r.drop k) (rx_f (r.take k) a)
  have e : rx_f (r.drop k) (rx_f (r.take k) a) = rx_f r a := by
    show List.foldl _ (List.foldl _ a (r.take k)) (r.drop k) = _
    rw [← List.foldl_append, List.take_append_drop]
  rw [e] at h
  exact h
theorem cl_mr_none {row : Nat → List it_I} {f i : Nat} {a : (Nat → Bool) × List Nat} (h : a.2[i]? = none) : cl_mr row (f + 1) i a = a := by
  show (match a.2[i]? with | none => a | some u => cl_mr row f (i + 1) (rx_f (row u) a)) = _
  rw [h]
theorem cl_mr_some {row : Nat → List it_I} {f i u : Nat} {a : (Nat → Bool) × List Nat} (h : a.2[i]? = some u) : cl_mr row (f + 1) i a = cl_mr row f (i + 1) (rx_f (row u) a) := by
  show (match a.2[i]? with | none => a | some u => cl_mr row f (i + 1) (rx_f (row u) a)) = _
  rw [h]
theorem cl_mr_len (row : Nat → List it_I) : ∀ (f i : Nat) (a : (Nat → Bool) × List Nat), a.2.length ≤ (cl_mr row f i a).2.length
  | 0, _, _ => Nat.le_refl _
  | f + 1, i, a => by
    cases hi : a.2[i]? with
    | none => rw [cl_mr_none hi]; exact Nat.le_refl _
    | some u =>
      rw [cl_mr_some hi]
      exact Nat.le_trans (rx_len (row u) a) (cl_mr_len row f (i + 1) _)
set_option maxHeartbeats 4000000 in
set_option maxRecDepth 100000 in
theorem ct_TH_reach (l : Launch) (E : gk_E) (M : gh_M) (sz : Nat) {h0 made cT cU cR : Nat} {G : cs_G} {T U R : List Nat} {root : Nat → Option Nat} {row : Nat → List it_I} {hld : Nat → Int32} {rch : Nat → Bool} (h : cs_R E M h0 G made T U R cT cU cR root row hld rch) (x : Option Nat) (hx0 : ∀ n, x = some n → n < made) (hcR : cR ≤ 1000) : Met l yn_TH_reach (.code yn_TH_reach cd_TH_reach 2 none :: bw_L) { frames := 7, cells := ((re_c (rch, R) cR x - cR) / 5), slots := (4 * (re_c (rch, R) cR x - cR)), locals := 206 } (gk_Pre E [.ref h0, va_rf (x.map G.1)] M sz) (va_Qv (fun M' => cs_R E M' h0 G made T U (cl_reach (rch, R) x).2 cT cU (re_c (rch, R) cR x) root row hld (cl_reach (rch, R) x).1) (gk_B E M sz) (gh_A M sz)) ((re_c (rch, R) cR x - cR) / 5) (4 * (re_c (rch, R) cR x - cR)) (gh_A M sz) := by
  cases x with
  | none =>
    have hlo : re_c (rch, R) cR none = cR := re_same rfl
    rw [hlo, Nat.sub_self]
    refine gk_met rfl (Nat.le_of_ble_eq_true rfl) ?_
    intro p e s m below meth c F hsz hP hK hZ ls hl
    subst hsz
    have hx := F.1
    have hb := F.2.1
    have hr := F.2.2.1
    have hml := F.2.2.2.1
    have hown : s.vm.findClass "ThingHeap" = some m.cls := F.2.2.2.2.1
    have hlk := F.2.2.2.2.2.1
    have hnm := F.2.2.2.2.2.2.1
    have ht := fun (w : Cond) (h : w ∈ bw_L) => F.2.2.2.2.2.2.2 w (List.mem_cons_of_mem _ h)
    have hA : ∀ q, s.heap.size ≤ q → gh_A M s.heap.size q := fun q h => Or.inr h
    have hS : va_S (gh_A M s.heap.size) s.heap s.heap [] := va_S.rf
    have hl : lv_has ls 2 [(0, .ref h0), (1, .null)] := hl
    refine lv_aload_nN hx hb dc_TH_reach_0 rfl (lv_fd hl rfl) ?_
    refine lv_ifnullN (tgt := 25) hx hb dc_TH_reach_1 (by decide) ?_
    exact gk_ev hx hb hr hlk hP hS dc_TH_reach_25 h
  | some n =>
    have hn := hx0 n rfl
    refine gk_met rfl (Nat.le_of_ble_eq_true rfl) ?_
    intro p e s m below meth c F hsz hP hK hZ ls hl
    subst hsz
    have hx := F.1
    have hb := F.2.1
    have hr := F.2.2.1
    have hml := F.2.2.2.1
    have hown : s.vm.findClass "ThingHeap" = some m.cls := F.2.2.2.2.1
    have hlk := F.2.2.2.2.2.1
    have hnm := F.2.2.2.2.2.2.1
    have ht := fun (w : Cond) (h : w ∈ bw_L) => F.2.2.2.2.2.2.2 w (List.mem_cons_of_mem _ h)
    have hA : ∀ q, s.heap.size ≤ q → gh_A M s.heap.size q := fun q h => Or.inr h
    have hS : va_S (gh_A M s.heap.size) s.heap s.heap [] := va_S.rf
    have hl : lv_has ls 2 [(0, .ref h0), (1, .ref (G.1 n))] := hl
    have hth : M (G.1 n) = some (6 + 2 * n, .inr (2, [.int (nI n), .ref (G.2.1 n), .int (hld n), .int (cs_B (rch n))])) := h.2.2.2.2.2.1 n hn
    refine lv_aload_n hx hb dc_TH_reach_0 rfl (lv_fd hl rfl) ?_
    refine lv_ifnull hx hb dc_TH_reach_1 ?_
    refine lv_aload_n hx hb dc_TH_reach_4 rfl (lv_fd hl rfl) ?_
    refine gh_get hx hb ht nu_TG hown hK.1 hP hth rfl 3 (by decide) (ht _ ww_91) (fun _ h9 => h9) rfl dc_TH_reach_5 ?_
    refine lv_if_ne (tgt := 25) hx hb dc_TH_reach_8 (by decide) (fun hz => ?_) (fun hz => ?_)
    · have hrt : rch n = true := by
        cases hq : rch n with
        | true => rfl
        | false => rw [hq] at hz; exact absurd rfl hz
      have hR2 : cl_reach (rch, R) (some n) = (rch, R) := if_pos hrt
      have hlo : re_c (rch, R) cR (some n) = cR := re_same (by rw [hR2])
      refine W.widen (k := (re_c (rch, R) cR (some n) - cR) / 5) (n := 4 * (re_c (rch, R) cR (some n) - cR)) (Nat.zero_le _) (Nat.zero_le _) ?_
      refine gk_ev hx hb hr hlk hP hS dc_TH_reach_25 ?_
      rw [hlo, hR2]
      exact h
    · have hrf : ¬ rch n = true := by
        intro q
        rw [q] at hz
        exact absurd hz (by decide)
      have hR2 : cl_reach (rch, R) (some n) = (va_up rch n true, R ++ [n]) := if_neg hrf
      have hlo : re_c (rch, R) cR (some n) = al_cap cR R.length := re_more (a := (rch, R)) (n := n) (by rw [hR2])
      refine lv_aload_n hx hb dc_TH_reach_11 rfl (lv_fd hl rfl) ?_
      refine lv_iconst (v := nI 1) hx hb dc_TH_reach_12 (by decide) ?_
      refine gh_put (ty := .boolean) hx hb ht nu_TG nt_TG no_TG nn_TG hown hK.1 hP hS hth rfl 3 (by decide) (ht _ ww_91) (fun _ h9 => h9) rfl (by decide +kernel) (by decide) (by decide) (Nat.le_of_ble_eq_true rfl) rfl dc_TH_reach_13 (fun H locs hP hS => ?_)
      have h2 := h.setTh hn (v := hld n) (b := true)
      rw [va_up_id hld n rfl, show cs_B true = nI 1 by decide] at h2
      have hP : gh_P E.1 cl_L (gh_A M s.heap.size) (gh_up M (G.1 n) (6 + 2 * n, .inr (2, [.int (nI n), .ref (G.2.1 n), .int (hld n), .int (nI 1)]))) H := hP
      generalize gh_up M (G.1 n) (6 + 2 * n, .inr (2, [.int (nI n), .ref (G.2.1 n), .int (hld n), .int (nI 1)])) = M1 at h2 hP
      have hh := h2.1
      have hRl := h2.2.2.2.2.1
      have hRw := h2.2.2.2.2.2.2.2.2.2.1
      have hcost := al_cost cR R.length hRl.cap
      have hml2 : (R.map G.1).length = R.length := List.length_map _
      refine lv_aload_n hx hb dc_TH_reach_16 rfl (lv_fd hl rfl) ?_
      refine gh_get hx hb ht nu_TH hown hK.1 hP hh rfl 3 (by decide) (ht _ ww_53) (fun _ h9 => h9) rfl dc_TH_reach_17 ?_
      refine lv_aload_n hx hb dc_TH_reach_20 rfl (lv_fd hl rfl) ?_
      refine gk_ci (gk_rV F (b := G.2.2.2.2.2) (As := [.ref (G.1 n)]) (rest := []) (ct_AL_add1 l E _ _ hRl (by omega) (h2.elL hRw) (h2.el hn)) ww_101 ww_102 ww_103 ww_4 ww_104 rfl rfl ⟨by decide, by decide, by show _ = some 1; decide +kernel⟩ ⟨Nat.le_of_ble_eq_true rfl, Nat.le_of_ble_eq_true rfl⟩ (by obtain ⟨mk, el, hq, -⟩ := hRl; exact gh_recv hK.1 hP hq rfl) hK hZ hP hS hA hl.1 rfl (Nat.le_of_ble_eq_true rfl) dc_TH_reach_21 ⟨by rw [hml2]; show 0 + al_mc cR R.length ≤ (re_c (rch, R) cR (some n) - cR) / 5; rw [hlo]; omega, by rw [hml2]; show 0 + al_ms cR R.length ≤ 4 * (re_c (rch, R) cR (some n) - cR); rw [hlo]; omega⟩) hP hS hA (fun r M2 H locs hM2 hP hS => ?_)
      refine lv_pop hx hb dc_TH_reach_24 rfl ?_
      refine W.widen (k := (re_c (rch, R) cR (some n) - cR) / 5) (n := 4 * (re_c (rch, R) cR (some n) - cR)) (by rw [hml2, hlo]; omega) (by rw [hml2, hlo]; omega) ?_
      refine gk_ev hx hb hr hlk hP hS dc_TH_reach_25 ?_
      rw [hlo, hR2]
      refine h2.setR hM2.1 (by rw [List.map_append]; have := hM2.2; rw [hml2] at this; exact this) (fun k hk => ?_)
      rcases List.mem_append.mp hk with q | q
      · exact hRw k q
      · rw [List.mem_singleton.mp q]
        exact hn
/-- what a walk over a row makes, at most -/
def rx_c (row : Nat → List it_I) (a : (Nat → Bool) × List Nat) (c u : Nat) : Nat := al_to c a.2.length ((rx_f (row u) a).2.length - a.2.length)
set_option maxHeartbeats 4000000 in
set_option maxRecDepth 100000 in
theorem ct_TH_reachItems (l : Launch) (E : gk_E) (M : gh_M) (sz : Nat) {h0 made cT cU cR : Nat} {G : cs_G} {T U R : List Nat} {root : Nat → Option Nat} {row : Nat → List it_I} {hld : Nat → Int32} {rch : Nat → Bool} (h : cs_R E M h0 G made T U R cT cU cR root row hld rch) {u : Nat} (hu : u < made) (hcR : cR ≤ 780) (hlen : (rx_f (row u) (rch, R)).2.length ≤ 520) : Met l yn_TH_reachItems (.code yn_TH_reachItems cd_TH_reachItems 3 none :: bw_L) { frames := 8, cells := ((rx_c row (rch, R) cR u - cR) / 5), slots := (4 * (rx_c row (rch, R) cR u - cR)), locals := 232 } (gk_Pre E [.ref h0, .ref (G.1 u)] M sz) (va_Qv (fun M' => cs_R E M' h0 G made T U (rx_f (row u) (rch, R)).2 cT cU (rx_c row (rch, R) cR u) root row hld (rx_f (row u) (rch, R)).1) (gk_B E M sz) (gh_A M sz)) ((rx_c row (rch, R) cR u - cR) / 5) (4 * (rx_c row (rch, R) cR u - cR)) (gh_A M sz) := by
  refine gk_met rfl (Nat.le_of_ble_eq_true rfl) ?_
  intro p e s m below meth c F hsz hP hK hZ ls hl
  subst hsz
  have hx := F.1
  have hb := F.2.1
  have hr := F.2.2.1
  have hml := F.2.2.2.1
  have hown : s.vm.findClass "ThingHeap" = some m.cls := F.2.2.2.2.1
  have hlk := F.2.2.2.2.2.1
  have hnm := F.2.2.2.2.2.2.1
  have ht := fun (w : Cond) (h : w ∈ bw_L) => F.2.2.2.2.2.2.2 w (List.mem_cons_of_mem _ h)
  have hA : ∀ q, s.heap.size ≤ q → gh_A M s.heap.size q := fun q h => Or.inr h
  have hS : va_S (gh_A M s.heap.size) s.heap s.heap [] := va_S.rf
  have hl : lv_has ls 3 [(0, .ref h0), (1, .ref (G.1 u))] := hl
  have hcap := h.2.2.2.2.1.cap
  have hrl : (row u).length ≤ 450 := by
    obtain ⟨cap, its, hc, hal, hil, -⟩ := h.2.2.2.2.2.2.1 u hu
    have := hal.len
    omega
  have loop : ∀ (d k : Nat) (M2 : gh_M) (H : Heap) (locs : List Loc) (ls : Array Slot) (c2 s2 : Nat), k + d = (row u).length → lv_has ls 3 [(0, .ref h0), (1, .ref (G.1 u)), (2, .int (nI k))] → gh_P E.1 cl_L (gh_A M s.heap.size) M2 H → va_S (gh_A M s.heap.size) s.heap H locs →
      cs_R E M2 h0 G made T U (rx_f ((row u).take k) (rch, R)).2 cT cU (al_to cR R.length ((rx_f ((row u).take k) (rch, R)).2.length - R.length)) root row hld (rx_f ((row u).take k) (rch, R)).1 → c2 = ((al_to cR R.length ((rx_f ((row u).take k) (rch, R)).2.length - R.length)) - cR) / 5 → s2 = 4 * ((al_to cR R.length ((rx_f ((row u).take k) (rch, R)).2.length - R.length)) - cR) →
      W p l e ({ frames := 8, cells := ((rx_c row (rch, R) cR u - cR) / 5), slots := (4 * (rx_c row (rch, R) cR u - cR)), locals := 232 } : Room) s m ([.ref h0, .ref (G.1 u)] : List Value).toArray below meth c H locs c2 s2 (MQ below (va_Qv (fun M' => cs_R E M' h0 G made T U (rx_f (row u) (rch, R)).2 cT cU (rx_c row (rch, R) cR u) root row hld (rx_f (row u) (rch, R)).1) (gk_B E M s.heap.size) (gh_A M s.heap.size)) ([.ref h0, .ref (G.1 u)] : List Value).toArray s ((rx_c row (rch, R) cR u - cR) / 5) (4 * (rx_c row (rch, R) cR u - cR)) (gh_A M s.heap.size)) (F0 m 2 ls []) := by
    intro d
    induction d with
    | zero =>
      intro k M2 H locs ls c2 s2 hk hl hP hS h2 hc2 hs2
      have hth2 : M2 (G.1 u) = some (6 + 2 * u, .inr (2, [.int (nI u), .ref (G.2.1 u), .int (hld u), .int (cs_B ((rx_f ((row u).take k) (rch, R)).1 u))])) := h2.2.2.2.2.2.1 u hu
      obtain ⟨cap, its, hca, hal, hil, hits⟩ := h2.2.2.2.2.2.2.1 u hu
      have hlim := hal.len
      have htk : (row u).take k = row u := List.take_of_length_le (by omega)
      refine lv_iload_n hx hb dc_TH_reachItems_2 rfl (lv_fd hl rfl) ?_
      refine lv_aload_n hx hb dc_TH_reachItems_3 rfl (lv_fd hl rfl) ?_
      refine gh_get hx hb ht nu_TG hown hK.1 hP hth2 rfl 1 (by decide) (ht _ ww_87) (fun _ h9 => h9) rfl dc_TH_reachItems_4 ?_
      refine gk_si (gk_rV F (b := G.2.1 u) (As := []) (rest := [.int (nI k)]) (ct_AL_size l E _ _ hal) ww_73 ww_74 ww_75 ww_4 ww_76 rfl rfl ⟨by decide, by decide, by show _ = some 0; decide +kernel⟩ ⟨Nat.le_of_ble_eq_true rfl, Nat.le_of_ble_eq_true rfl⟩ (by obtain ⟨mk, el, hq, -⟩ := hal; exact gh_recv hK.1 hP hq rfl) hK hZ hP hS hA hl.1 rfl (Nat.le_of_ble_eq_true rfl) dc_TH_reachItems_7 ⟨by rw [hc2, htk]; exact Nat.le_refl _, by rw [hs2, htk]; exact Nat.le_refl _⟩) (fun r hr1 => ?_)
      subst hr1
      refine gn_ge (tgt := 37) hx hb (by omega) (by omega) dc_TH_reachItems_10 (by decide) (fun _ => ?_) (fun q => absurd q (by omega))
      refine W.widen (k := (rx_c row (rch, R) cR u - cR) / 5) (n := 4 * (rx_c row (rch, R) cR u - cR)) (by rw [hc2, htk]; exact Nat.le_refl _) (by rw [hs2, htk]; exact Nat.le_refl _) ?_
      refine gk_ev hx hb hr hlk hP hS dc_TH_reachItems_37 ?_
      rw [htk] at h2
      exact h2
    | succ d ih =>
      intro k M2 H locs ls c2 s2 hk hl hP hS h2 hc2 hs2
      have hth2 : M2 (G.1 u) = some (6 + 2 * u, .inr (2, [.int (nI u), .ref (G.2.1 u), .int (hld u), .int (cs_B ((rx_f ((row u).take k) (rch, R)).1 u))])) := h2.2.2.2.2.2.1 u hu
      obtain ⟨cap, its, hca, hal, hil, hits⟩ := h2.2.2.2.2.2.2.1 u hu
      have hlim := hal.len
      have hki : k < its.length := by omega
      obtain ⟨q, hq⟩ : ∃ q, its[k]? = some q := ⟨its[k], List.getElem?_eq_getElem hki⟩
      obtain ⟨x, hxr⟩ : ∃ x, (row u)[k]? = some x := ⟨(row u)[k]'(by omega), List.getElem?_eq_getElem (by omega)⟩
      have hqx : M2 q = some (0, .inr (3, [va_rf (x.1.map G.1), .int x.2])) := hits k q x hq hxr
      have hstep := rx_take hxr (rch, R)
      have hl1 := rx_len ((row u).take k) (rch, R)
      have hl1 : R.length ≤ (rx_f ((row u).take k) (rch, R)).2.length := hl1
      have hl2 := rx_take_len (row u) (k + 1) (rch, R)
      have hl3 : (rx_f ((row u).take k) (rch, R)).2.length ≤ (rx_f ((row u).take (k + 1)) (rch, R)).2.length := by
        rw [hstep]
        obtain ⟨X, hX⟩ := cl_reach_app (rx_f ((row u).take k) (rch, R)) x.1
        rw [hX, List.length_append]
        omega
      have hlc : re_c ((rx_f ((row u).take k) (rch, R)).1, (rx_f ((row u).take k) (rch, R)).2) (al_to cR R.length ((rx_f ((row u).take k) (rch, R)).2.length - R.length)) x.1 = (al_to cR R.length ((rx_f ((row u).take (k + 1)) (rch, R)).2.length - R.length)) := by
        unfold re_c
        rw [hstep]
        have e := al_to_add cR R.length ((rx_f ((row u).take k) (rch, R)).2.length - R.length) ((cl_reach (rx_f ((row u).take k) (rch, R)) x.1).2.length - (rx_f ((row u).take k) (rch, R)).2.length)
        rw [show R.length + ((rx_f ((row u).take k) (rch, R)).2.length - R.length) = (rx_f ((row u).take k) (rch, R)).2.length by omega] at e
        show al_to _ (rx_f ((row u).take k) (rch, R)).2.length ((cl_reach (rx_f ((row u).take k) (rch, R)) x.1).2.length - (rx_f ((row u).take k) (rch, R)).2.length) = _
        rw [← e]
        congr 1
        rw [hstep] at hl3
        omega
      have hb1 : (al_to cR R.length ((rx_f ((row u).take k) (rch, R)).2.length - R.length)) ≤ 780 := al_to_le hcR (by decide) _ (by omega)
      have hb2 : (al_to cR R.length ((rx_f ((row u).take k) (rch, R)).2.length - R.length)) ≤ (al_to cR R.length ((rx_f ((row u).take (k + 1)) (rch, R)).2.length - R.length)) := al_to_mono hcap (by omega)
      have hb3 : (al_to cR R.length ((rx_f ((row u).take (k + 1)) (rch, R)).2.length - R.length)) ≤ rx_c row (rch, R) cR u := al_to_mono hcap (by show _ ≤ _ - R.length; omega)
      have hb0 : cR ≤ (al_to cR R.length ((rx_f ((row u).take k) (rch, R)).2.length - R.length)) := (al_to_ok _ _ hcap _).2
      refine lv_iload_n hx hb dc_TH_reachItems_2 rfl (lv_fd hl rfl) ?_
      refine lv_aload_n hx hb dc_TH_reachItems_3 rfl (lv_fd hl rfl) ?_
      refine gh_get hx hb ht nu_TG hown hK.1 hP hth2 rfl 1 (by decide) (ht _ ww_87) (fun _ h9 => h9) rfl dc_TH_reachItems_4 ?_
      refine gk_si (gk_rV F (b := G.2.1 u) (As := []) (rest := [.int (nI k)]) (ct_AL_size l E _ _ hal) ww_73 ww_74 ww_75 ww_4 ww_76 rfl rfl ⟨by decide, by decide, by show _ = some 0; decide +kernel⟩ ⟨Nat.le_of_ble_eq_true rfl, Nat.le_of_ble_eq_true rfl⟩ (by obtain ⟨mk, el, hq, -⟩ := hal; exact gh_recv hK.1 hP hq rfl) hK hZ hP hS hA hl.1 rfl (Nat.le_of_ble_eq_true rfl) dc_TH_reachItems_7 ⟨by show c2 + 0 ≤ (rx_c row (rch, R) cR u - cR) / 5; omega, by show s2 + 0 ≤ 4 * (rx_c row (rch, R) cR u - cR); omega⟩) (fun r hr1 => ?_)
      subst hr1
      refine gn_ge (tgt := 37) hx hb (by omega) (by omega) dc_TH_reachItems_10 (by decide) (fun q => absurd q (by omega)) (fun _ => ?_)
      refine lv_aload_n hx hb dc_TH_reachItems_13 rfl (lv_fd hl rfl) ?_
      refine lv_aload_n hx hb dc_TH_reachItems_14 rfl (lv_fd hl rfl) ?_
      refine gh_get hx hb ht nu_TG hown hK.1 hP hth2 rfl 1 (by decide) (ht _ ww_87) (fun _ h9 => h9) rfl dc_TH_reachItems_15 ?_
      refine lv_iload_n hx hb dc_TH_reachItems_18 rfl (lv_fd hl rfl) ?_
      refine gk_sq (gk_rV F (b := G.2.1 u) (As := [.int (nI k)]) (rest := [.ref h0]) (ct_AL_get l E _ _ hal hki) ww_172 ww_173 ww_174 ww_4 ww_175 rfl rfl ⟨by decide, by decide, by show _ = some 1; decide +kernel⟩ ⟨Nat.le_of_ble_eq_true rfl, Nat.le_of_ble_eq_true rfl⟩ (by obtain ⟨mk, el, hq, -⟩ := hal; exact gh_recv hK.1 hP hq rfl) hK hZ hP hS hA hl.1 rfl (Nat.le_of_ble_eq_true rfl) dc_TH_reachItems_19 ⟨by show c2 + 0 ≤ (rx_c row (rch, R) cR u - cR) / 5; omega, by show s2 + 0 ≤ 4 * (rx_c row (rch, R) cR u - cR); omega⟩) (fun r hr2 => ?_)
      rw [hq] at hr2
      subst hr2
      refine va_castE hx hb hown (ht _ ww_190) (gh_recv hK.1 hP hqx rfl) dc_TH_reachItems_22 ?_
      refine gh_get hx hb ht nu_IT hown hK.1 hP hqx rfl 0 (by decide) (ht _ ww_238) (fun _ h9 => h9) rfl dc_TH_reachItems_25 ?_
      refine gk_cv (gk_rV F (b := h0) (As := [va_rf (x.1.map G.1)]) (rest := []) (ct_TH_reach l E _ _ h2 x.1 (fun n hn => h2.2.2.2.2.2.2.2.2.2.2.2.1 u hu x (List.mem_of_getElem? hxr) n hn) (by omega)) ww_289 ww_291 ws_TH_reach ww_1 ww_292 rfl rfl ⟨by decide, by decide, by show _ = some 1; decide +kernel⟩ ⟨Nat.le_of_ble_eq_true rfl, Nat.le_of_ble_eq_true rfl⟩ (gh_recv hK.1 hP h2.1 rfl) hK hZ hP hS hA hl.1 rfl (Nat.le_of_ble_eq_true rfl) dc_TH_reachItems_28 ⟨by rw [hlc]; show c2 + ((al_to cR R.length ((rx_f ((row u).take (k + 1)) (rch, R)).2.length - R.length)) - (al_to cR R.length ((rx_f ((row u).take k) (rch, R)).2.length - R.length))) / 5 ≤ (rx_c row (rch, R) cR u - cR) / 5; omega, by rw [hlc]; show s2 + 4 * ((al_to cR R.length ((rx_f ((row u).take (k + 1)) (rch, R)).2.length - R.length)) - (al_to cR R.length ((rx_f ((row u).take k) (rch, R)).2.length - R.length))) ≤ 4 * (rx_c row (rch, R) cR u - cR); omega⟩) hP hS hA (fun M3 H locs hM3 hP hS => ?_)
      rw [hlc] at hM3
      have hM3 : cs_R E M3 h0 G made T U (rx_f ((row u).take (k + 1)) (rch, R)).2 cT cU (al_to cR R.length ((rx_f ((row u).take (k + 1)) (rch, R)).2.length - R.length)) root row hld (rx_f ((row u).take (k + 1)) (rch, R)).1 := by
        rw [hstep] at hM3 ⊢
        exact hM3
      refine lv_iinc (k := 2) (v := nI (k + 1)) hx hb dc_TH_reachItems_31 hl rfl (gh_inc k) (by decide) rfl (fun ls hl => ?_)
      refine lv_goto (tgt := 2) hx hb dc_TH_reachItems_34 (by decide) ?_
      refine W.widen (k := ((al_to cR R.length ((rx_f ((row u).take (k + 1)) (rch, R)).2.length - R.length)) - cR) / 5) (n := 4 * ((al_to cR R.length ((rx_f ((row u).take (k + 1)) (rch, R)).2.length - R.length)) - cR)) (by rw [hlc]; omega) (by rw [hlc]; omega) ?_
      exact ih (k + 1) M3 H locs ls _ _ (by omega) (lv_sub hl [1, 2, 0] rfl) hP hS hM3 rfl rfl
  refine lv_iconst (v := nI 0) hx hb dc_TH_reachItems_0 (by decide) ?_
  refine lv_istore_n hx hb dc_TH_reachItems_1 rfl hl (by decide) rfl (fun ls hl => ?_)
  have h00 : al_to cR R.length ((rx_f ((row u).take 0) (rch, R)).2.length - R.length) = cR := by
    show al_to cR R.length (R.length - R.length) = cR
    rw [Nat.sub_self]
    rfl
  refine loop (row u).length 0 M s.heap [] ls 0 0 (by omega) (lv_sub hl [1, 2, 0] rfl) hP hS ?_ (by rw [h00, Nat.sub_self]) (by rw [h00, Nat.sub_self])
  rw [h00]
  exact h
