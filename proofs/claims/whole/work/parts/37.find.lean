set_option maxHeartbeats 4000000 in
set_option maxRecDepth 100000 in
theorem ct_TH_setRoot (l : Launch) (E : gk_E) (M : gh_M) (sz : Nat) {h0 made cT cU cR : Nat} {G : cs_G} {T U R : List Nat} {root : Nat → Option Nat} {row : Nat → List it_I} {hld : Nat → Int32} {rch : Nat → Bool} (h : cs_R E M h0 G made T U R cT cU cR root row hld rch) (x : Option Nat) (hx0 : ∀ n, x = some n → n < made) {r : Nat} (hr0 : r < 16) (hcU : cU ≤ 780) (hTl : T.length ≤ 520) (hlen : (cl_ru T.length 0 (row, cl_lose (cl_hold hld x, U) (root r))).2.2.length ≤ 520) : Met l yn_TH_setRoot (.code yn_TH_setRoot cd_TH_setRoot 4 none :: bw_L) { frames := 11, cells := 312, slots := 6240, locals := 310 } (gk_Pre E [.ref h0, .int (nI r), va_rf (x.map G.1)] M sz) (va_Qv (fun M' => ∃ c2, c2 ≤ 780 ∧ cs_R E M' h0 G made (cl_rem T (row, cl_lose (cl_hold hld x, U) (root r))).1 (cl_rem T (row, cl_lose (cl_hold hld x, U) (root r))).2.2.2 R cT c2 cR (va_up root r x) (cl_rem T (row, cl_lose (cl_hold hld x, U) (root r))).2.1 (cl_rem T (row, cl_lose (cl_hold hld x, U) (root r))).2.2.1 rch) (gk_B E M sz) (gh_A M sz)) 312 6240 (gh_A M sz) := by
  refine gk_met rfl (by cases x <;> exact Nat.le_of_ble_eq_true rfl) ?_
  intro p e s m below meth c F hsz hP hK hZ ls hl
  subst hsz
  have hx := F.1
  have hb := F.2.1
  have hr := F.2.2.1
  have hml := F.2.2.2.1
  have hown : s.vm.findClass "ThingHeap" = some m.cls := F.2.2.2.2.1
  have hlk := F.2.2.2.2.2.1
  have hnm := F.2.2.2.2.2.2.1
  have ht := fun (w : Cond) (h : w ∈ bw_L) => F.2.2.2.2.2.2.2 w (List.mem_cons_of_mem _ h)
  have hA : ∀ q, s.heap.size ≤ q → gh_A M s.heap.size q := fun q h => Or.inr h
  have hS : va_S (gh_A M s.heap.size) s.heap s.heap [] := va_S.rf
  have hl : lv_has ls 4 [(0, .ref h0), (1, .int (nI r)), (2, va_rf (x.map G.1))] := by cases x <;> exact hl
  obtain ⟨f, hf, hf2⟩ := h.2.1
  refine lv_aload_n hx hb dc_TH_setRoot_0 rfl (lv_fd hl rfl) ?_
  refine gh_get hx hb ht nu_TH hown hK.1 hP h.1 rfl 0 (by decide) (ht _ ww_50) (fun _ h9 => h9) rfl dc_TH_setRoot_1 ?_
  refine lv_iload_n hx hb dc_TH_setRoot_4 rfl (lv_fd hl rfl) ?_
  refine gh_aald (v := va_rf ((root r).map G.1)) hx hb hK.1 hP 3 hf rfl rfl rfl hr0 (by decide) (by rw [hf2 r hr0]) dc_TH_setRoot_5 ?_
  refine gq_astore_n (lv' := [(3, va_rf ((root r).map G.1)), (0, .ref h0), (1, .int (nI r)), (2, va_rf (x.map G.1))]) hx hb dc_TH_setRoot_6 rfl hl (by decide) (by cases x <;> rfl) (fun ls hl => ?_)
  refine gq_aload_n hx hb dc_TH_setRoot_7 rfl (lv_fd hl rfl) ?_
  refine gk_cv (gk_rS F (As := [va_rf (x.map G.1)]) (rest := []) (ct_TH_hold l E _ _ h x hx0) ww_157 ww_158 ww_1 ww_159 rfl rfl ⟨by decide, by decide, by show _ = some 1; decide +kernel⟩ ⟨Nat.le_of_ble_eq_true rfl, Nat.le_of_ble_eq_true rfl⟩ hK hZ hP hS hA hl.1 rfl (Nat.le_of_ble_eq_true rfl) dc_TH_setRoot_8 ⟨Nat.le_of_ble_eq_true rfl, Nat.le_of_ble_eq_true rfl⟩) hP hS hA (fun M1 H locs h1 hP hS => ?_)
  obtain ⟨f1, hf1, hf12⟩ := h1.2.1
  refine lv_aload_n hx hb dc_TH_setRoot_11 rfl (lv_fd hl rfl) ?_
  refine gh_get hx hb ht nu_TH hown hK.1 hP h1.1 rfl 0 (by decide) (ht _ ww_50) (fun _ h9 => h9) rfl dc_TH_setRoot_12 ?_
  refine lv_iload_n hx hb dc_TH_setRoot_15 rfl (lv_fd hl rfl) ?_
  refine gq_aload_n hx hb dc_TH_setRoot_16 rfl (lv_fd hl rfl) ?_
  refine gq_aast hx hb hK.1 hP hS 3 hf1 rfl (fun v hv => ?_) rfl hr0 (by decide) dc_TH_setRoot_17 (fun H locs hP hS => ?_)
  · obtain ⟨n, hn, rfl⟩ := Option.map_eq_some_iff.mp hv
    exact gh_anyS (q := (nR_TG, nF_TG, 4)) hK.1 hP (h1.2.2.2.2.2.1 n (hx0 n hn)) rfl
  have h2 := h1.setRoot hr0 (x := x) hx0 hf1 hf12
  refine lv_aload_n hx hb dc_TH_setRoot_18 rfl (lv_fd hl rfl) ?_
  refine gq_aload_n hx hb dc_TH_setRoot_19 rfl (lv_fd hl rfl) ?_
  refine gk_cv (gk_rV F (b := h0) (As := [va_rf ((root r).map G.1)]) (rest := []) (ct_TH_release l E _ _ h2 (root r) (fun n hn => h.2.2.2.2.2.2.2.2.2.2.1 r hr0 n hn) hcU hTl hlen) ww_160 ww_162 ws_TH_release ww_1 ww_163 rfl rfl ⟨by decide, by decide, by show _ = some 1; decide +kernel⟩ ⟨Nat.le_of_ble_eq_true rfl, Nat.le_of_ble_eq_true rfl⟩ (gh_recv hK.1 hP h2.1 rfl) hK hZ hP hS hA hl.1 rfl (Nat.le_of_ble_eq_true rfl) dc_TH_setRoot_20 ⟨Nat.le_of_ble_eq_true rfl, Nat.le_of_ble_eq_true rfl⟩) hP hS hA (fun M3 H locs h3 hP hS => ?_)
  refine W.widen (k := 312) (n := 6240) (Nat.le_of_ble_eq_true rfl) (Nat.le_of_ble_eq_true rfl) ?_
  exact gk_ev hx hb hr hlk hP hS dc_TH_setRoot_23 h3
set_option maxHeartbeats 4000000 in
set_option maxRecDepth 100000 in
theorem ct_TH_append (l : Launch) (E : gk_E) (M : gh_M) (sz : Nat) {h0 made cT cU cR : Nat} {G : cs_G} {T U R : List Nat} {root : Nat → Option Nat} {row : Nat → List it_I} {hld : Nat → Int32} {rch : Nat → Bool} (h : cs_R E M h0 G made T U R cT cU cR root row hld rch) {u : Nat} (hu : u < made) (x : Option Nat) (hx0 : ∀ n, x = some n → n < made) (v : Int32) (hrw : (row u).length ≤ 300) : Met l yn_TH_append (.code yn_TH_append cd_TH_append 4 (some FieldType.int) :: bw_L) { frames := 7, cells := 2, slots := 460, locals := 214 } (gk_Pre E [.ref h0, .ref (G.1 u), va_rf (x.map G.1), .int v] M sz) (va_Qi (fun r M' => (300 ≤ (row u).length ∧ r = -3 ∧ cs_R E M' h0 G made T U R cT cU cR root row hld rch) ∨ ((row u).length < 300 ∧ r = nI ((row u).length + 1) ∧ cs_R E M' h0 G made T U R cT cU cR root (va_up row u (row u ++ [(x, v)])) (cl_hold hld x) rch)) (gk_B E M sz) (gh_A M sz)) 2 460 (gh_A M sz) := by
  refine gk_met rfl (by cases x <;> exact Nat.le_of_ble_eq_true rfl) ?_
  intro p e s m below meth c F hsz hP hK hZ ls hl
  subst hsz
  have hx := F.1
  have hb := F.2.1
  have hr := F.2.2.1
  have hml := F.2.2.2.1
  have hown : s.vm.findClass "ThingHeap" = some m.cls := F.2.2.2.2.1
  have hlk := F.2.2.2.2.2.1
  have hnm := F.2.2.2.2.2.2.1
  have ht := fun (w : Cond) (h : w ∈ bw_L) => F.2.2.2.2.2.2.2 w (List.mem_cons_of_mem _ h)
  have hA : ∀ q, s.heap.size ≤ q → gh_A M s.heap.size q := fun q h => Or.inr h
  have hS : va_S (gh_A M s.heap.size) s.heap s.heap [] := va_S.rf
  have hl : lv_has ls 4 [(0, .ref h0), (1, .ref (G.1 u)), (2, va_rf (x.map G.1)), (3, .int v)] := by cases x <;> exact hl
  have hth : M (G.1 u) = some (6 + 2 * u, .inr (2, [.int (nI u), .ref (G.2.1 u), .int (hld u), .int (cs_B (rch u))])) := h.2.2.2.2.2.1 u hu
  obtain ⟨cap, its, hca, hal, hil, hits⟩ := h.2.2.2.2.2.2.1 u hu
  have hlim := hal.len
  refine lv_aload_n hx hb dc_TH_append_0 rfl (lv_fd hl rfl) ?_
  refine gh_get hx hb ht nu_TG hown hK.1 hP hth rfl 1 (by decide) (ht _ ww_87) (fun _ h9 => h9) rfl dc_TH_append_1 ?_
  refine gk_si (gk_rV F (b := G.2.1 u) (As := []) (rest := []) (ct_AL_size l E _ _ hal) ww_73 ww_74 ww_75 ww_4 ww_76 rfl rfl ⟨by decide, by decide, by show _ = some 0; decide +kernel⟩ ⟨Nat.le_of_ble_eq_true rfl, Nat.le_of_ble_eq_true rfl⟩ (by obtain ⟨mk, el, hq, -⟩ := hal; exact gh_recv hK.1 hP hq rfl) hK hZ hP hS hA hl.1 rfl (Nat.le_of_ble_eq_true rfl) dc_TH_append_4 ⟨Nat.le_of_ble_eq_true rfl, Nat.le_of_ble_eq_true rfl⟩) (fun r hr1 => ?_)
  subst hr1
  refine lv_sipush (v := nI 300) hx hb dc_TH_append_7 (by decide) ?_
  refine gn_lt (tgt := 16) hx hb (by omega) (by decide) dc_TH_append_10 (by decide) (fun hlt => ?_) (fun hge => ?_)
  rotate_left
  · refine lv_bipush (v := (-3)) hx hb dc_TH_append_13 (by decide) ?_
    refine W.widen (k := 2) (n := 460) (Nat.le_of_ble_eq_true rfl) (Nat.le_of_ble_eq_true rfl) ?_
    exact gk_ei hx hb hr hlk hP hS dc_TH_append_15 (Or.inl ⟨by omega, rfl, h⟩)
  refine gq_aload_n hx hb dc_TH_append_16 rfl (lv_fd hl rfl) ?_
  refine gk_cv (gk_rS F (As := [va_rf (x.map G.1)]) (rest := []) (ct_TH_hold l E _ _ h x hx0) ww_157 ww_158 ww_1 ww_159 rfl rfl ⟨by decide, by decide, by show _ = some 1; decide +kernel⟩ ⟨Nat.le_of_ble_eq_true rfl, Nat.le_of_ble_eq_true rfl⟩ hK hZ hP hS hA hl.1 rfl (Nat.le_of_ble_eq_true rfl) dc_TH_append_17 ⟨Nat.le_of_ble_eq_true rfl, Nat.le_of_ble_eq_true rfl⟩) hP hS hA (fun M1 H locs h1 hP hS => ?_)
  have hth1 : M1 (G.1 u) = some (6 + 2 * u, .inr (2, [.int (nI u), .ref (G.2.1 u), .int (cl_hold hld x u), .int (cs_B (rch u))])) := h1.2.2.2.2.2.1 u hu
  refine lv_aload_n hx hb dc_TH_append_20 rfl (lv_fd hl rfl) ?_
  refine gh_get hx hb ht nu_TG hown hK.1 hP hth1 rfl 1 (by decide) (ht _ ww_87) (fun _ h9 => h9) rfl dc_TH_append_21 ?_
  refine gh_new 0 (ci := 3) (fs := [.null, .int 0]) hx hb ht nu_IT nt_IT no_IT hown (ht _ ww_190) (ht _ ww_232) (ht _ ww_13) hK.1 hP hS hA rfl (fun j hj => by rcases (show j = 0 ∨ j = 1 by omega) with rfl | rfl <;> rfl) (Nat.le_of_ble_eq_true rfl) (Nat.le_of_ble_eq_true rfl) dc_TH_append_24 (fun q H hn_q hP hS => ?_)
  refine lv_dup hx hb dc_TH_append_27 rfl ?_
  refine gq_aload_n hx hb dc_TH_append_28 rfl (lv_fd hl rfl) ?_
  refine lv_iload_n hx hb dc_TH_append_29 rfl (lv_fd hl rfl) ?_
  have hex1 : ∀ b y, M1 b = some y → gh_up M1 q (0, .inr (3, [.null, .int 0])) b = some y := fun b y hy => gh_up_at hy (gh_ne0 hy hn_q)
  have hini : ∀ (l : Launch) (sz : Nat), Met l yn_IT_init (.code yn_IT_init cd_IT_init 3 none :: bw_L) { frames := 1, cells := 0, slots := 0, locals := 14 } (gk_Pre E [.ref q, va_rf (x.map G.1), .int v] (gh_up M1 q (0, .inr (3, [.null, .int 0]))) sz) (va_Qv (fun M' => M' q = some (0, .inr (3, [va_rf (x.map G.1), .int v])) ∧ ∀ b, b ≠ q → M' b = gh_up M1 q (0, .inr (3, [.null, .int 0])) b) (gk_B E (gh_up M1 q (0, .inr (3, [.null, .int 0]))) sz) (gh_A (gh_up M1 q (0, .inr (3, [.null, .int 0]))) sz)) 0 0 (gh_A (gh_up M1 q (0, .inr (3, [.null, .int 0]))) sz) := by
    intro l sz
    cases x with
    | none => exact ct_IT_initN l E _ sz (gh_up_self _ _ _)
    | some n => exact ct_IT_initS l E _ sz (gh_up_self _ _ _)
  refine gk_cv (gk_rI F (b := q) (As := [va_rf (x.map G.1), .int v]) (rest := [.ref q, .ref (G.2.1 u)]) (hini l _) ww_233 ww_234 ww_13 ww_235 rfl rfl rfl ⟨by decide, by decide, by show _ = some 2; decide +kernel⟩ ⟨Nat.le_of_ble_eq_true rfl, Nat.le_of_ble_eq_true rfl⟩ hK hZ hP hS hA hl.1 rfl (Nat.le_of_ble_eq_true rfl) dc_TH_append_30 ⟨Nat.le_of_ble_eq_true rfl, Nat.le_of_ble_eq_true rfl⟩) hP hS hA (fun M2 H locs h2 hP hS => ?_)
  have hex2 : ∀ b y, M1 b = some y → M2 b = some y := fun b y hy => (h2.2 b (gh_ne0 hy hn_q)).trans (hex1 b y hy)
  have h3 := h1.ext hex2
  obtain ⟨cap3, its3, hca3, hal3, hil3, hits3⟩ := h3.2.2.2.2.2.2.1 u hu
  have hlim3 := hal3.len
  have hcost := al_cost cap3 its3.length hal3.cap
  have hcp : al_cap cap3 its3.length ≤ 450 := al_cap_le hca3 (by decide) (by omega) (by omega)
  have hmc : al_mc cap3 its3.length ≤ 1 := by unfold al_mc; split <;> omega
  have hms : al_ms cap3 its3.length ≤ 450 := by unfold al_ms; split <;> omega
  refine gk_ci (gk_rV F (b := G.2.1 u) (As := [.ref q]) (rest := []) (ct_AL_add1 l E _ _ hal3 (by omega) (cs_Row.elL (E := E) hil3 hits3) ⟨0, _, Or.inr h2.1⟩) ww_101 ww_102 ww_103 ww_4 ww_104 rfl rfl ⟨by decide, by decide, by show _ = some 1; decide +kernel⟩ ⟨Nat.le_of_ble_eq_true rfl, Nat.le_of_ble_eq_true rfl⟩ (by obtain ⟨mk, el, hq, -⟩ := hal3; exact gh_recv hK.1 hP hq rfl) hK hZ hP hS hA hl.1 rfl (Nat.le_of_ble_eq_true rfl) dc_TH_append_33 ⟨by show 0 + 0 + 1 + 0 + al_mc cap3 its3.length ≤ 2; omega, by show 0 + 0 + 2 + 0 + al_ms cap3 its3.length ≤ 460; omega⟩) hP hS hA (fun r M4 H locs h4 hP hS => ?_)
  have h5 : cs_R E M4 h0 G made T U R cT cU cR root (va_up row u (row u ++ [(x, v)])) (cl_hold hld x) rch := by
    refine h3.setRow h4.1 ⟨_, its3 ++ [q], hcp, h4.2, by rw [List.length_append, List.length_append, hil3]; rfl, fun i b y hi hy => ?_⟩ (fun y hy n hn => ?_)
    · by_cases hin : i < its3.length
      · rw [List.getElem?_append_left hin] at hi
        rw [List.getElem?_append_left (by omega)] at hy
        exact h4.1.keep (hits3 i b y hi hy) (by omega)
      · rw [List.getElem?_append_right (by omega)] at hi hy
        have hi0 : i - its3.length < 1 := (List.getElem?_eq_some_iff.mp hi).1
        rw [show i - its3.length = 0 by omega] at hi
        rw [show i - (row u).length = 0 by omega] at hy
        cases hi
        cases hy
        exact h4.1.keep h2.1 (by omega)
    · rcases List.mem_append.mp hy with hq | hq
      · exact h3.2.2.2.2.2.2.2.2.2.2.2.1 u hu y hq n hn
      · rw [List.mem_singleton.mp hq] at hn
        exact hx0 n hn
  have hth5 : M4 (G.1 u) = some (6 + 2 * u, .inr (2, [.int (nI u), .ref (G.2.1 u), .int (cl_hold hld x u), .int (cs_B (rch u))])) := h5.2.2.2.2.2.1 u hu
  refine lv_pop hx hb dc_TH_append_36 rfl ?_
  refine lv_aload_n hx hb dc_TH_append_37 rfl (lv_fd hl rfl) ?_
  refine gh_get hx hb ht nu_TG hown hK.1 hP hth5 rfl 1 (by decide) (ht _ ww_87) (fun _ h9 => h9) rfl dc_TH_append_38 ?_
  refine gk_si (gk_rV F (b := G.2.1 u) (As := []) (rest := []) (ct_AL_size l E _ _ h4.2) ww_73 ww_74 ww_75 ww_4 ww_76 rfl rfl ⟨by decide, by decide, by show _ = some 0; decide +kernel⟩ ⟨Nat.le_of_ble_eq_true rfl, Nat.le_of_ble_eq_true rfl⟩ (by obtain ⟨mk, el, hq, -⟩ := h4.2; exact gh_recv hK.1 hP hq rfl) hK hZ hP hS hA hl.1 rfl (Nat.le_of_ble_eq_true rfl) dc_TH_append_41 ⟨by show 0 + 0 + 1 + 0 + al_mc cap3 its3.length + 0 ≤ 2; omega, by show 0 + 0 + 2 + 0 + al_ms cap3 its3.length + 0 ≤ 460; omega⟩) (fun r2 hr2 => ?_)
  refine W.widen (k := 2) (n := 460) (by omega) (by omega) ?_
  refine gk_ei hx hb hr hlk hP hS dc_TH_append_44 (Or.inr ⟨by omega, ?_, h5⟩)
  rw [hr2, List.length_append, hil3]
  rfl
theorem sd_lt {T : List Nat} (hs : T.Pairwise (· < ·)) {i j a b : Nat} (hij : i < j) (ha : T[i]? = some a) (hb : T[j]? = some b) : a < b := by
  obtain ⟨h1, rfl⟩ := List.getElem?_eq_some_iff.mp ha
  obtain ⟨h2, rfl⟩ := List.getElem?_eq_some_iff.mp hb
  exact List.pairwise_iff_getElem.mp hs i j h1 h2 hij
set_option maxHeartbeats 4000000 in
set_option maxRecDepth 100000 in
theorem ct_TH_find (l : Launch) (E : gk_E) (M : gh_M) (sz : Nat) {h0 made cT cU cR : Nat} {G : cs_G} {T U R : List Nat} {root : Nat → Option Nat} {row : Nat → List it_I} {hld : Nat → Int32} {rch : Nat → Bool} (h : cs_R E M h0 G made T U R cT cU cR root row hld rch) (num : Int32) (hsd : T.Pairwise (· < ·)) (hTl : T.length ≤ 520) : Met l yn_TH_find (.code yn_TH_find cd_TH_find 6 (some (FieldType.object "ThingHeap$Thing")) :: bw_L) { frames := 3, cells := 0, slots := 0, locals := 92 } (gk_Pre E [.ref h0, .int num] M sz) (va_Sq (fun r => (∃ n, n ∈ T ∧ num = nI n ∧ r = some (G.1 n)) ∨ ((∀ n ∈ T, num ≠ nI n) ∧ r = none))) 0 0 (fun _ => False) := by
  refine gk_met rfl (Nat.le_of_ble_eq_true rfl) ?_
  intro p e s m below meth c F hsz hP hK hZ ls hl
  subst hsz
  have hx := F.1
  have hb := F.2.1
  have hr := F.2.2.1
  have hml := F.2.2.2.1
  have hown : s.vm.findClass "ThingHeap" = some m.cls := F.2.2.2.2.1
  have hlk := F.2.2.2.2.2.1
  have hnm := F.2.2.2.2.2.2.1
  have ht := fun (w : Cond) (h : w ∈ bw_L) => F.2.2.2.2.2.2.2 w (List.mem_cons_of_mem _ h)
  have hA : ∀ q, s.heap.size ≤ q → gh_A M s.heap.size q := fun q h => Or.inr h
  have hS : va_S (gh_A M s.heap.size) s.heap s.heap [] := va_S.rf
  have hl : lv_has ls 6 [(0, .ref h0), (1, .int num)] := hl
  have hmlT : (T.map G.1).length = T.length := List.length_map _
  have hTw := h.2.2.2.2.2.2.2.1
  have hmd := h.2.2.2.2.2.2.2.2.2.2.2.2
  have loop : ∀ (d lo hi : Nat) (ls : Array Slot), hi - lo ≤ d → lo ≤ hi → hi ≤ T.length → (∀ i n, i < lo → T[i]? = some n → (n : Int) < num.toInt) → (∀ i n, hi ≤ i → T[i]? = some n → num.toInt < (n : Int)) → lv_has ls 6 [(0, .ref h0), (1, .int num), (2, .int (nI lo)), (3, .int (nI hi - nI 1))] →
      W p l e ({ frames := 3, cells := 0, slots := 0, locals := 92 } : Room) s m ([.ref h0, .int num] : List Value).toArray below meth c s.heap [] 0 0 (MQ below (va_Sq (fun r => (∃ n, n ∈ T ∧ num = nI n ∧ r = some (G.1 n)) ∨ ((∀ n ∈ T, num ≠ nI n) ∧ r = none))) ([.ref h0, .int num] : List Value).toArray s 0 0 (fun _ => False)) (F0 m 12 ls []) := by
    intro d
    induction d with
    | zero =>
      intro lo hi ls hd hlh hhT hlo hhi hl
      refine lv_iload_n hx hb dc_TH_find_12 rfl (lv_fd hl rfl) ?_
      refine lv_iload_n hx hb dc_TH_find_13 rfl (lv_fd hl rfl) ?_
      refine lv_icmp_gt (tgt := 75) hx hb dc_TH_find_14 (by decide) (fun _ => ?_) (fun q => absurd (show nI hi - nI 1 < nI lo from Int32.lt_iff_toInt_lt.mpr (by rw [pk_sub_toInt (by omega) (by omega), nI_toInt (by omega)]; omega)) q)
      refine lv_null hx hb dc_TH_find_75 ?_
      refine W.aret hx hb hr (Or.inl ⟨_, rfl⟩) (Or.inl rfl) (fun t ht _ => ⟨none, rfl, Or.inr ⟨fun n hn hq => ?_, rfl⟩, ht⟩) (fun q h => by cases h) dc_TH_find_76
      obtain ⟨i, hi'⟩ := List.getElem?_of_mem hn
      have hnm := hTw n hn
      have e : num.toInt = (n : Int) := by rw [hq]; exact nI_toInt (by omega)
      rcases Nat.lt_or_ge i lo with q | q
      · have := hlo i n q hi'
        omega
      · have := hhi i n (by omega) hi'
        omega
    | succ d ih =>
      intro lo hi ls hd hlh hhT hlo hhi hl
      refine lv_iload_n hx hb dc_TH_find_12 rfl (lv_fd hl rfl) ?_
      refine lv_iload_n hx hb dc_TH_find_13 rfl (lv_fd hl rfl) ?_
      refine lv_icmp_gt (tgt := 75) hx hb dc_TH_find_14 (by decide) (fun hq => ?_) (fun hq => ?_)
      · rw [Int32.lt_iff_toInt_lt, pk_sub_toInt (by omega) (by omega), nI_toInt (by omega)] at hq
        refine lv_null hx hb dc_TH_find_75 ?_
        refine W.aret hx hb hr (Or.inl ⟨_, rfl⟩) (Or.inl rfl) (fun t ht _ => ⟨none, rfl, Or.inr ⟨fun n hn hq' => ?_, rfl⟩, ht⟩) (fun q h => by cases h) dc_TH_find_76
        obtain ⟨i, hi'⟩ := List.getElem?_of_mem hn
        have hnm := hTw n hn
        have e : num.toInt = (n : Int) := by rw [hq']; exact nI_toInt (by omega)
        rcases Nat.lt_or_ge i lo with q | q
        · have := hlo i n q hi'
          omega
        · have := hhi i n (by omega) hi'
          omega
      · rw [Int32.lt_iff_toInt_lt, pk_sub_toInt (by omega) (by omega), nI_toInt (by omega)] at hq
        have hlt : lo < hi := by omega
        obtain ⟨md, hmd1⟩ : ∃ md, md = (lo + (hi - 1)) / 2 := ⟨_, rfl⟩
        obtain ⟨n, hn⟩ : ∃ n, T[md]? = some n := ⟨T[md]'(by omega), List.getElem?_eq_getElem (by omega)⟩
        have hnm := hTw n (List.mem_of_getElem? hn)
        have hth : M (G.1 n) = some (6 + 2 * n, .inr (2, [.int (nI n), .ref (G.2.1 n), .int (hld n), .int (cs_B (rch n))])) := h.2.2.2.2.2.1 n hnm
        refine lv_iload_n hx hb dc_TH_find_17 rfl (lv_fd hl rfl) ?_
        refine lv_iload_n hx hb dc_TH_find_18 rfl (lv_fd hl rfl) ?_
        refine lv_iadd hx hb dc_TH_find_19 ?_
        refine gh_topi (show nI lo + (nI hi - nI 1) = nI (lo + (hi - 1)) by rw [pk_sub (by omega), nI_add]) ?_
        refine lv_iconst (v := nI 2) hx hb dc_TH_find_20 (by decide) ?_
        refine lv_idiv hx hb dc_TH_find_21 (by decide) ?_
        refine gh_topi (show nI (lo + (hi - 1)) / nI 2 = nI md by rw [pk_div (by omega) (by decide) (by decide), hmd1]) ?_
        refine lv_istore hx hb dc_TH_find_22 hl (by decide) rfl (fun ls hl => ?_)
        refine lv_aload_n hx hb dc_TH_find_24 rfl (lv_fd hl rfl) ?_
        refine gh_get hx hb ht nu_TH hown hK.1 hP h.1 rfl 1 (by decide) (ht _ ww_51) (fun _ h9 => h9) rfl dc_TH_find_25 ?_
        refine lv_iload hx hb dc_TH_find_28 (lv_fd hl rfl) ?_
        refine gk_sq (gk_rV F (b := G.2.2.2.1) (As := [.int (nI md)]) (rest := []) (ct_AL_get l E _ _ (j := md) h.2.2.1 (by rw [hmlT]; omega)) ww_172 ww_173 ww_174 ww_4 ww_175 rfl rfl ⟨by decide, by decide, by show _ = some 1; decide +kernel⟩ ⟨Nat.le_of_ble_eq_true rfl, Nat.le_of_ble_eq_true rfl⟩ (by obtain ⟨mk, el, hq, -⟩ := h.2.2.1; exact gh_recv hK.1 hP hq rfl) hK hZ hP hS hA hl.1 rfl (Nat.le_of_ble_eq_true rfl) dc_TH_find_30 ⟨Nat.le_refl _, Nat.le_refl _⟩) (fun r hr2 => ?_)
        have hr2 : r = some (G.1 n) := by rw [hr2, List.getElem?_map, hn]; rfl
        subst hr2
        refine va_castE hx hb hown (ht _ ww_22) (gh_recv hK.1 hP hth rfl) dc_TH_find_33 ?_
        refine lv_astore hx hb dc_TH_find_36 hl (by decide) rfl (fun ls hl => ?_)
        refine lv_aload hx hb dc_TH_find_38 (lv_fd hl rfl) ?_
        refine gh_get hx hb ht nu_TG hown hK.1 hP hth rfl 0 (by decide) (ht _ ww_85) (fun _ h9 => h9) rfl dc_TH_find_40 ?_
        refine lv_iload_n hx hb dc_TH_find_43 rfl (lv_fd hl rfl) ?_
        refine lv_icmp_ne (tgt := 50) hx hb dc_TH_find_44 (by decide) (fun hne => ?_) (fun he => ?_)
        · refine lv_aload hx hb dc_TH_find_50 (lv_fd hl rfl) ?_
          refine gh_get hx hb ht nu_TG hown hK.1 hP hth rfl 0 (by decide) (ht _ ww_85) (fun _ h9 => h9) rfl dc_TH_find_52 ?_
          refine lv_iload_n hx hb dc_TH_find_55 rfl (lv_fd hl rfl) ?_
          have e1 : (nI n).toInt = (n : Int) := nI_toInt (by omega)
          refine lv_icmp_ge (tgt := 67) hx hb dc_TH_find_56 (by decide) (fun hge => ?_) (fun hlt2 => ?_)
          · refine lv_iload hx hb dc_TH_find_67 (lv_fd hl rfl) ?_
            refine lv_iconst (v := nI 1) hx hb dc_TH_find_69 (by decide) ?_
            refine lv_isub hx hb dc_TH_find_70 ?_
            refine lv_istore_n hx hb dc_TH_find_71 rfl hl (by decide) rfl (fun ls hl => ?_)
            refine lv_goto (tgt := 12) hx hb dc_TH_find_72 (by decide) ?_
            have hge : num.toInt < (n : Int) := by
              have h1 := Int32.le_iff_toInt_le.mp hge
              have h2 : num.toInt ≠ (n : Int) := fun q => hne (Int32.toInt_inj.mp (by rw [e1, q]))
              omega
            refine ih lo md ls (by omega) (by omega) (by omega) hlo (fun i k hi' hk => ?_) (lv_sub hl [3, 4, 5, 0] rfl)
            rcases Nat.lt_or_ge md i with q | q
            · have := sd_lt hsd q hn hk
              omega
            · have : i = md := by omega
              subst this
              rw [hn] at hk
              cases hk
              exact hge
          · refine lv_iload hx hb dc_TH_find_59 (lv_fd hl rfl) ?_
            refine lv_iconst (v := nI 1) hx hb dc_TH_find_61 (by decide) ?_
            refine lv_iadd hx hb dc_TH_find_62 ?_
            refine gh_topi (nI_add md 1) ?_
            refine lv_istore_n hx hb dc_TH_find_63 rfl hl (by decide) rfl (fun ls hl => ?_)
            refine lv_goto (tgt := 72) hx hb dc_TH_find_64 (by decide) ?_
            refine lv_goto (tgt := 12) hx hb dc_TH_find_72 (by decide) ?_
            have hlt2 : (n : Int) < num.toInt := by
              have h1 := Int32.lt_iff_toInt_lt.mp (Int32.not_le.mp hlt2)
              omega
            refine ih (md + 1) hi ls (by omega) (by omega) (by omega) (fun i k hi' hk => ?_) hhi (lv_sub hl [3, 4, 0, 5] rfl)
            rcases Nat.lt_or_ge i md with q | q
            · have := sd_lt hsd q hk hn
              omega
            · have : i = md := by omega
              subst this
              rw [hn] at hk
              cases hk
              exact hlt2
        · refine lv_aload hx hb dc_TH_find_47 (lv_fd hl rfl) ?_
          exact W.aret hx hb hr (Or.inl ⟨_, rfl⟩) (Or.inr ⟨_, rfl⟩) (fun t ht _ => ⟨some (G.1 n), rfl, Or.inl ⟨n, List.mem_of_getElem? hn, he.symm, rfl⟩, ht⟩) (fun q h => by cases h) dc_TH_find_49
  refine lv_iconst (v := nI 0) hx hb dc_TH_find_0 (by decide) ?_
  refine lv_istore_n hx hb dc_TH_find_1 rfl hl (by decide) rfl (fun ls hl => ?_)
  refine lv_aload_n hx hb dc_TH_find_2 rfl (lv_fd hl rfl) ?_
  refine gh_get hx hb ht nu_TH hown hK.1 hP h.1 rfl 1 (by decide) (ht _ ww_51) (fun _ h9 => h9) rfl dc_TH_find_3 ?_
  refine gk_si (gk_rV F (b := G.2.2.2.1) (As := []) (rest := []) (ct_AL_size l E _ _ h.2.2.1) ww_73 ww_74 ww_75 ww_4 ww_76 rfl rfl ⟨by decide, by decide, by show _ = some 0; decide +kernel⟩ ⟨Nat.le_of_ble_eq_true rfl, Nat.le_of_ble_eq_true rfl⟩ (by obtain ⟨mk, el, hq, -⟩ := h.2.2.1; exact gh_recv hK.1 hP hq rfl) hK hZ hP hS hA hl.1 rfl (Nat.le_of_ble_eq_true rfl) dc_TH_find_6 ⟨Nat.le_refl _, Nat.le_refl _⟩) (fun r hr1 => ?_)
  rw [hmlT] at hr1
  subst hr1
  refine lv_iconst (v := nI 1) hx hb dc_TH_find_9 (by decide) ?_
  refine lv_isub hx hb dc_TH_find_10 ?_
  refine lv_istore_n hx hb dc_TH_find_11 rfl hl (by decide) rfl (fun ls hl => ?_)
  exact loop T.length 0 T.length ls (by omega) (by omega) (Nat.le_refl _) (fun i n hi => absurd hi (Nat.not_lt_zero _)) (fun i n hi hn => absurd (List.getElem?_eq_some_iff.mp hn).1 (by omega)) (lv_sub hl [2, 3, 1, 0] rfl)
