set_option maxHeartbeats 4000000 in
set_option maxRecDepth 100000 in
theorem ct_TH_init (l : Launch) (E : gk_E) (M : gh_M) (sz : Nat) {a : Nat} {v0 v1 v2 v3 v4 : Value} (ha : M a = some (1, .inr (1, [v0, v1, v2, v3, v4]))) : Met l yn_TH_init (.code yn_TH_init cd_TH_init 1 none :: bw_L) { frames := 4, cells := 4, slots := 25, locals := 90 } (gk_Pre E [.ref a] M sz) (va_Qv (fun M' => cs_V E M' a vv_0) (gk_B E M sz) (gh_A M sz)) 4 25 (gh_A M sz) := by
  refine gk_met rfl (Nat.le_of_ble_eq_true rfl) ?_
  intro p e s m below meth c F hsz hP hK hZ ls hl
  subst hsz
  have hx := F.1
  have hb := F.2.1
  have hr := F.2.2.1
  have hml := F.2.2.2.1
  have hown : s.vm.findClass "ThingHeap" = some m.cls := F.2.2.2.2.1
  have hlk := F.2.2.2.2.2.1
  have hnm := F.2.2.2.2.2.2.1
  have ht := fun (w : Cond) (h : w ∈ bw_L) => F.2.2.2.2.2.2.2 w (List.mem_cons_of_mem _ h)
  have hA : ∀ q, s.heap.size ≤ q → gh_A M s.heap.size q := fun q h => Or.inr h
  have hS : va_S (gh_A M s.heap.size) s.heap s.heap [] := va_S.rf
  have hl : lv_has ls 1 [(0, .ref a)] := hl
  refine lv_aload_n hx hb dc_TH_init_0 rfl (lv_fd hl rfl) ?_
  refine W.objInit hx hb hown (ht _ ww_19) (ht _ ww_20) (ht _ ww_21) rfl (by rw [hml]; exact hl.1) rfl dc_TH_init_1 (Nat.le_of_ble_eq_true rfl) (Nat.le_of_ble_eq_true rfl) ?_
  refine W.eq (g2 := F0 m 4 ls []) rfl ?_
  refine lv_aload_n hx hb dc_TH_init_4 rfl (lv_fd hl rfl) ?_
  refine lv_bipush (v := nI 16) hx hb dc_TH_init_5 (by decide) ?_
  refine gh_newq 2 hx hb hown (ht _ ww_22) hK.2.2.2.2.2.1 hK.1 hP hS hA 3 rfl rfl (by decide) (by decide) (Nat.le_of_ble_eq_true rfl) (Nat.le_of_ble_eq_true rfl) dc_TH_init_7 (fun q1 H hn1 hP hS => ?_)
  have hne1 : a ≠ q1 := gh_ne0 ha hn1
  have ha0 := gh_up_at (q := (2, .inl (E.2.1 3, 16, .inr (.inr (.inr (.inr (fun _ => none))))))) ha hne1
  refine gh_putF (ty := .array (.object "ThingHeap$Thing")) hx hb ht nu_TH nt_TH no_TH nn_TH hown hK.1 hP hS ha0 rfl 0 (by decide) (ht _ ww_50) (fun _ h9 => h9) rfl hnm rfl (by decide +kernel) rfl rfl (Nat.le_of_ble_eq_true rfl) rfl dc_TH_init_10 (fun H locs hP hS => ?_)
  refine gh_at0 (a := a) (x := (1, .inr (1, [.ref q1, v1, v2, v3, v4]))) hP (fun M1 ho1 ha1 hP => ?_) rfl
  have hq1 := (ho1 q1 (Ne.symm hne1)).trans (gh_up_self _ _ _)
  refine lv_aload_n hx hb dc_TH_init_13 rfl (lv_fd hl rfl) ?_
  refine gh_new 3 (ci := 0) (fs := [.int 0, .null, .int 0]) hx hb ht nu_AL nt_AL no_AL hown (ht _ ww_24) (ht _ ww_25) (ht _ ww_4) hK.1 hP hS hA rfl (fun j hj => by rcases (show j = 0 ∨ j = 1 ∨ j = 2 by omega) with rfl | rfl | rfl <;> rfl) (Nat.le_of_ble_eq_true rfl) (Nat.le_of_ble_eq_true rfl) dc_TH_init_14 (fun q2 H hn_q2 hP hS => ?_)
  refine lv_dup hx hb dc_TH_init_17 rfl ?_
  refine gk_cv (gk_rI F (b := q2) (As := []) (rest := [.ref q2, .ref a]) (ct_AL_init l E _ _ (gh_up_self _ _ _)) ww_26 ww_27 ww_4 ww_28 rfl rfl rfl ⟨by decide, by decide, by show _ = some 0; decide +kernel⟩ ⟨Nat.le_of_ble_eq_true rfl, Nat.le_of_ble_eq_true rfl⟩ hK hZ hP hS hA hl.1 rfl (Nat.le_of_ble_eq_true rfl) dc_TH_init_18 ⟨Nat.le_of_ble_eq_true rfl, Nat.le_of_ble_eq_true rfl⟩) hP hS hA (fun N2 H locs hN2 hP hS => ?_)
  have hne2 : a ≠ q2 := gh_ne0 ha1 hn_q2
  have hb2 : N2 a = some (1, .inr (1, [.ref q1, v1, v2, v3, v4])) := (hN2.1 a hne2).trans (gh_up_at ha1 hne2)
  refine gh_putF (ty := .object "java/util/ArrayList") hx hb ht nu_TH nt_TH no_TH nn_TH hown hK.1 hP hS hb2 rfl 1 (by decide) (ht _ ww_51) (fun _ h9 => h9) rfl hnm rfl (by decide +kernel) rfl rfl (Nat.le_of_ble_eq_true rfl) rfl dc_TH_init_21 (fun H locs hP hS => ?_)
  refine gh_at0 (a := a) (x := (1, .inr (1, [.ref q1, .ref q2, v2, v3, v4]))) hP (fun M2 ho2 ha2 hP => ?_) rfl
  have k2 : ∀ b y, b ≠ a → M1 b = some y → M2 b = some y := fun b y hb hy => (ho2 b hb).trans ((hN2.1 b (gh_ne0 hy hn_q2)).trans (gh_up_at hy (gh_ne0 hy hn_q2)))
  have hq2 := (ho2 q2 (Ne.symm hne2)).trans hN2.2
  refine lv_aload_n hx hb dc_TH_init_24 rfl (lv_fd hl rfl) ?_
  refine gh_new 4 (ci := 0) (fs := [.int 0, .null, .int 0]) hx hb ht nu_AL nt_AL no_AL hown (ht _ ww_24) (ht _ ww_25) (ht _ ww_4) hK.1 hP hS hA rfl (fun j hj => by rcases (show j = 0 ∨ j = 1 ∨ j = 2 by omega) with rfl | rfl | rfl <;> rfl) (Nat.le_of_ble_eq_true rfl) (Nat.le_of_ble_eq_true rfl) dc_TH_init_25 (fun q3 H hn_q3 hP hS => ?_)
  refine lv_dup hx hb dc_TH_init_28 rfl ?_
  refine gk_cv (gk_rI F (b := q3) (As := []) (rest := [.ref q3, .ref a]) (ct_AL_init l E _ _ (gh_up_self _ _ _)) ww_26 ww_27 ww_4 ww_28 rfl rfl rfl ⟨by decide, by decide, by show _ = some 0; decide +kernel⟩ ⟨Nat.le_of_ble_eq_true rfl, Nat.le_of_ble_eq_true rfl⟩ hK hZ hP hS hA hl.1 rfl (Nat.le_of_ble_eq_true rfl) dc_TH_init_29 ⟨Nat.le_of_ble_eq_true rfl, Nat.le_of_ble_eq_true rfl⟩) hP hS hA (fun N3 H locs hN3 hP hS => ?_)
  have hne3 : a ≠ q3 := gh_ne0 ha2 hn_q3
  have hb3 : N3 a = some (1, .inr (1, [.ref q1, .ref q2, v2, v3, v4])) := (hN3.1 a hne3).trans (gh_up_at ha2 hne3)
  refine gh_putF (ty := .object "java/util/ArrayList") hx hb ht nu_TH nt_TH no_TH nn_TH hown hK.1 hP hS hb3 rfl 2 (by decide) (ht _ ww_52) (fun _ h9 => h9) rfl hnm rfl (by decide +kernel) rfl rfl (Nat.le_of_ble_eq_true rfl) rfl dc_TH_init_32 (fun H locs hP hS => ?_)
  refine gh_at0 (a := a) (x := (1, .inr (1, [.ref q1, .ref q2, .ref q3, v3, v4]))) hP (fun M3 ho3 ha3 hP => ?_) rfl
  have k3 : ∀ b y, b ≠ a → M2 b = some y → M3 b = some y := fun b y hb hy => (ho3 b hb).trans ((hN3.1 b (gh_ne0 hy hn_q3)).trans (gh_up_at hy (gh_ne0 hy hn_q3)))
  have hq3 := (ho3 q3 (Ne.symm hne3)).trans hN3.2
  refine lv_aload_n hx hb dc_TH_init_35 rfl (lv_fd hl rfl) ?_
  refine gh_new 5 (ci := 0) (fs := [.int 0, .null, .int 0]) hx hb ht nu_AL nt_AL no_AL hown (ht _ ww_24) (ht _ ww_25) (ht _ ww_4) hK.1 hP hS hA rfl (fun j hj => by rcases (show j = 0 ∨ j = 1 ∨ j = 2 by omega) with rfl | rfl | rfl <;> rfl) (Nat.le_of_ble_eq_true rfl) (Nat.le_of_ble_eq_true rfl) dc_TH_init_36 (fun q4 H hn_q4 hP hS => ?_)
  refine lv_dup hx hb dc_TH_init_39 rfl ?_
  refine gk_cv (gk_rI F (b := q4) (As := []) (rest := [.ref q4, .ref a]) (ct_AL_init l E _ _ (gh_up_self _ _ _)) ww_26 ww_27 ww_4 ww_28 rfl rfl rfl ⟨by decide, by decide, by show _ = some 0; decide +kernel⟩ ⟨Nat.le_of_ble_eq_true rfl, Nat.le_of_ble_eq_true rfl⟩ hK hZ hP hS hA hl.1 rfl (Nat.le_of_ble_eq_true rfl) dc_TH_init_40 ⟨Nat.le_of_ble_eq_true rfl, Nat.le_of_ble_eq_true rfl⟩) hP hS hA (fun N4 H locs hN4 hP hS => ?_)
  have hne4 : a ≠ q4 := gh_ne0 ha3 hn_q4
  have hb4 : N4 a = some (1, .inr (1, [.ref q1, .ref q2, .ref q3, v3, v4])) := (hN4.1 a hne4).trans (gh_up_at ha3 hne4)
  refine gh_putF (ty := .object "java/util/ArrayList") hx hb ht nu_TH nt_TH no_TH nn_TH hown hK.1 hP hS hb4 rfl 3 (by decide) (ht _ ww_53) (fun _ h9 => h9) rfl hnm rfl (by decide +kernel) rfl rfl (Nat.le_of_ble_eq_true rfl) rfl dc_TH_init_43 (fun H locs hP hS => ?_)
  refine gh_at0 (a := a) (x := (1, .inr (1, [.ref q1, .ref q2, .ref q3, .ref q4, v4]))) hP (fun M4 ho4 ha4 hP => ?_) rfl
  have k4 : ∀ b y, b ≠ a → M3 b = some y → M4 b = some y := fun b y hb hy => (ho4 b hb).trans ((hN4.1 b (gh_ne0 hy hn_q4)).trans (gh_up_at hy (gh_ne0 hy hn_q4)))
  have hq4 := (ho4 q4 (Ne.symm hne4)).trans hN4.2
  refine lv_aload_n hx hb dc_TH_init_46 rfl (lv_fd hl rfl) ?_
  refine lv_iconst (v := nI 0) hx hb dc_TH_init_47 (by decide) ?_
  refine gh_put (ty := .int) hx hb ht nu_TH nt_TH no_TH nn_TH hown hK.1 hP hS ha4 rfl 4 (by decide) (ht _ ww_54) (fun _ h9 => h9) rfl (by decide +kernel) rfl rfl (Nat.le_of_ble_eq_true rfl) rfl dc_TH_init_48 (fun H locs hP hS => ?_)
  refine gh_at0 (a := a) (x := (1, .inr (1, [.ref q1, .ref q2, .ref q3, .ref q4, .int (nI 0)]))) hP (fun M9 ho9 ha9 hP => ?_) rfl
  refine W.widen (k := 4) (n := 25) (Nat.le_of_ble_eq_true rfl) (Nat.le_of_ble_eq_true rfl) ?_
  refine gk_ev hx hb hr hlk hP hS dc_TH_init_51 ⟨(fun _ => 0, fun _ => 0, q1, q2, q3, q4), 0, 0, 0, fun _ => 0, fun _ => false, ⟨ha9, ⟨fun _ => none, ?_, fun r _ => rfl⟩, al_new ?_, al_new ?_, al_new ?_, fun n hn => absurd hn (Nat.not_lt_zero n), fun n hn => absurd hn (Nat.not_lt_zero n), fun n hn => (by cases hn), fun n hn => (by cases hn), fun n hn => (by cases hn), fun r _ n hn => (by cases hn), fun n hn => absurd hn (Nat.not_lt_zero n), by decide⟩, by decide, by decide, by decide, fun n hn => (by cases hn)⟩
  · exact (ho9 _ (Ne.symm hne1)).trans (k4 _ _ (Ne.symm hne1) (k3 _ _ (Ne.symm hne1) (k2 _ _ (Ne.symm hne1) hq1)))
  · exact (ho9 _ (Ne.symm hne2)).trans (k4 _ _ (Ne.symm hne2) (k3 _ _ (Ne.symm hne2) hq2))
  · exact (ho9 _ (Ne.symm hne3)).trans (k4 _ _ (Ne.symm hne3) hq3)
  · exact (ho9 _ (Ne.symm hne4)).trans hq4
theorem cs_R.more {E : gk_E} {M : gh_M} {h0 : Nat} {G : cs_G} {made : Nat} {T U R : List Nat} {cT cU cR : Nat} {root : Nat → Option Nat} {row : Nat → List it_I} {hld : Nat → Int32} {rch : Nat → Bool} (h : cs_R E M h0 G made T U R cT cU cR root row hld rch) {q q2 : Nat} (hq : M q = some (6 + 2 * made, .inr (2, [.int (nI made), .ref q2, .int (nI 0), .int (nI 0)]))) (hq2 : al_L E M (7 + 2 * made) q2 0 []) (hrow : row made = []) (hmd : made < 2 ^ 20) :
    ∃ G' : cs_G, G'.1 made = q ∧ G'.2.2 = G.2.2 ∧ cs_R E (gh_up M h0 (1, .inr (1, [.ref G.2.2.1, .ref G.2.2.2.1, .ref G.2.2.2.2.1, .ref G.2.2.2.2.2, .int (nI (made + 1))]))) h0 G' (made + 1) T U R cT cU cR root row (va_up hld made (nI 0)) (va_up rch made false) := by
  obtain ⟨hh, ⟨f, hf, hf2⟩, hT, hU, hR, hth, hrw, w1, w2, w3, w4, w5, w6⟩ := h
  have hc := gh_ch.up (e' := .inr (1, [.ref G.2.2.1, .ref G.2.2.2.1, .ref G.2.2.2.2.1, .ref G.2.2.2.2.2, .int (nI (made + 1))])) hh
  have hg : ∀ n, n < made → va_up G.1 made q n = G.1 n := fun n hn => va_up_ne _ _ (by omega)
  have hmp : ∀ X : List Nat, (∀ n ∈ X, n < made) → X.map (va_up G.1 made q) = X.map G.1 := fun X hX => List.map_congr_left (fun n hn => hg n (hX n hn))
  have hop : ∀ o : Option Nat, (∀ n, o = some n → n < made) → o.map (va_up G.1 made q) = o.map G.1 := by
    intro o ho
    cases o with
    | none => rfl
    | some n => exact congrArg some (hg n (ho n rfl))
  refine ⟨(va_up G.1 made q, va_up G.2.1 made q2, G.2.2), va_up_self _ _ _, rfl, gh_up_self _ _ _, ⟨f, hc.keep hf (by omega), fun r hr => ?_⟩, ?_, ?_, ?_, fun n hn => ?_, fun n hn => ?_, fun n hn => Nat.lt_succ_of_lt (w1 n hn), fun n hn => Nat.lt_succ_of_lt (w2 n hn), fun n hn => Nat.lt_succ_of_lt (w3 n hn), fun r hr n hn => Nat.lt_succ_of_lt (w4 r hr n hn), fun m hm x hx n hn => ?_, hmd⟩
  · rw [hf2 r hr]
    exact (hop _ (fun n hn => w4 r hr n hn)).symm
  · show al_L E _ 3 G.2.2.2.1 cT (T.map (va_up G.1 made q))
    rw [hmp T w1]
    exact hT.ch hc (by omega)
  · show al_L E _ 4 G.2.2.2.2.1 cU (U.map (va_up G.1 made q))
    rw [hmp U w2]
    exact hU.ch hc (by omega)
  · show al_L E _ 5 G.2.2.2.2.2 cR (R.map (va_up G.1 made q))
    rw [hmp R w3]
    exact hR.ch hc (by omega)
  · show (_ : Option (Nat × va_E)) = some (6 + 2 * n, .inr (2, [.int (nI n), .ref (va_up G.2.1 made q2 n), .int (va_up hld made (nI 0) n), .int (cs_B (va_up rch made false n))]))
    by_cases e : n = made
    · subst e
      show gh_up M h0 _ (va_up G.1 n q n) = _
      rw [va_up_self, va_up_self, va_up_self, va_up_self]
      exact hc.keep hq (by omega)
    · show gh_up M h0 _ (va_up G.1 made q n) = _
      rw [va_up_ne _ _ e, va_up_ne _ _ e, va_up_ne _ _ e, va_up_ne _ _ e]
      exact hc.keep (hth n (by omega)) (by omega)
  · show cs_Row E _ (va_up G.1 made q) (7 + 2 * n) (va_up G.2.1 made q2 n) (row n)
    by_cases e : n = made
    · subst e
      rw [va_up_self, hrow]
      exact ⟨0, [], by decide, hq2.ch hc (by omega), rfl, fun i b y hi hy => by cases hi⟩
    · rw [va_up_ne _ _ e]
      obtain ⟨cap, its, c1, c2, c3, c4⟩ := (hrw n (by omega)).ch hc (by omega) (by omega)
      refine ⟨cap, its, c1, c2, c3, fun i b y hi hy => ?_⟩
      unfold cs_It
      rw [hop y.1 (fun k hk => w5 n (by omega) y (List.mem_of_getElem? hy) k hk)]
      exact c4 i b y hi hy
  · by_cases e : m = made
    · subst e
      rw [hrow] at hx
      cases hx
    · exact Nat.lt_succ_of_lt (w5 m (by omega) x hx n hn)
set_option maxHeartbeats 4000000 in
set_option maxRecDepth 100000 in
theorem ct_TH_make (l : Launch) (E : gk_E) (M : gh_M) (sz : Nat) {h0 N : Nat} {V : vv_V} (hV : cs_V E M h0 V) (hI : vv_I N V) (hN : N < 512) (k : Int32) : Met l yn_TH_make (.code yn_TH_make cd_TH_make 3 (some FieldType.int) :: bw_L) { frames := 12, cells := 316, slots := 7100, locals := 336 } (gk_Pre E [.ref h0, .int k] M sz) (va_Qi (fun r M' => r = (vq_make V k).1 ∧ cs_V E M' h0 (vq_make V k).2) (gk_B E M sz) (gh_A M sz)) 316 7100 (gh_A M sz) := by
  refine gk_met rfl (Nat.le_of_ble_eq_true rfl) ?_
  intro p e s m below meth c F hsz hP hK hZ ls hl
  subst hsz
  have hx := F.1
  have hb := F.2.1
  have hr := F.2.2.1
  have hml := F.2.2.2.1
  have hown : s.vm.findClass "ThingHeap" = some m.cls := F.2.2.2.2.1
  have hlk := F.2.2.2.2.2.1
  have hnm := F.2.2.2.2.2.2.1
  have ht := fun (w : Cond) (h : w ∈ bw_L) => F.2.2.2.2.2.2.2 w (List.mem_cons_of_mem _ h)
  have hA : ∀ q, s.heap.size ≤ q → gh_A M s.heap.size q := fun q h => Or.inr h
  have hS : va_S (gh_A M s.heap.size) s.heap s.heap [] := va_S.rf
  have hl : lv_has ls 3 [(0, .ref h0), (1, .int k)] := hl
  have hV0 := hV
  obtain ⟨G, cT, cU, cR, hld, rch, h, hcT, hcU, hcR, hhl⟩ := hV
  have hTl := vv_len hI
  have hmN := hI.2.2.2.2
  have hTm : ∀ k ∈ V.2.1, k < 2 ^ 31 := fun k hk => by have := hI.2.2.1 k hk; omega
  refine lv_iload_n hx hb dc_TH_make_0 rfl (lv_fd hl rfl) ?_
  refine gk_si (gk_rS F (As := [.int k]) (rest := []) (ct_TH_isRoot l E _ _ k) ww_70 ww_71 ww_1 ww_72 rfl rfl ⟨by decide, by decide, by show _ = some 1; decide +kernel⟩ ⟨Nat.le_of_ble_eq_true rfl, Nat.le_of_ble_eq_true rfl⟩ hK hZ hP hS hA hl.1 rfl (Nat.le_of_ble_eq_true rfl) dc_TH_make_1 ⟨Nat.le_of_ble_eq_true rfl, Nat.le_of_ble_eq_true rfl⟩) (fun r hr1 => ?_)
  rcases hr1 with ⟨rfl, j, hj, rfl⟩ | ⟨rfl, hno⟩
  rotate_left
  · have e : vq_make V k = (-1, V) := by unfold vq_make; rw [sf_rn hno]
    refine lv_if_ne (tgt := 9) hx hb dc_TH_make_4 (by decide) (fun q => absurd rfl q) (fun _ => ?_)
    refine lv_iconst (v := (-1)) hx hb dc_TH_make_7 (by decide) ?_
    refine W.widen (k := 316) (n := 7100) (Nat.le_of_ble_eq_true rfl) (Nat.le_of_ble_eq_true rfl) ?_
    exact gk_ei hx hb hr hlk hP hS dc_TH_make_8 ⟨by rw [e], by rw [e]; exact hV0⟩
  have hsf : sf_T (List.range 16) (nI j) = some j := sf_rg (by decide) hj rfl
  have e : vq_make V (nI j) = (nI V.1, vv_set (V.1 + 1, V.2.1 ++ [V.1], va_up V.2.2.1 j (some V.1), V.2.2.2)) := by unfold vq_make; rw [hsf]
  have hk0 : V.1 ∉ V.2.1 := fun q => Nat.lt_irrefl _ (hI.2.2.1 _ q)
  refine lv_if_ne (tgt := 9) hx hb dc_TH_make_4 (by decide) (fun _ => ?_) (fun q => absurd q (by decide))
  refine lv_aload_n hx hb dc_TH_make_9 rfl (lv_fd hl rfl) ?_
  refine gh_get hx hb ht nu_TH hown hK.1 hP h.1 rfl 1 (by decide) (ht _ ww_51) (fun _ h9 => h9) rfl dc_TH_make_10 ?_
  refine gk_si (gk_rV F (b := G.2.2.2.1) (As := []) (rest := []) (ct_AL_size l E _ _ h.2.2.1) ww_73 ww_74 ww_75 ww_4 ww_76 rfl rfl ⟨by decide, by decide, by show _ = some 0; decide +kernel⟩ ⟨Nat.le_of_ble_eq_true rfl, Nat.le_of_ble_eq_true rfl⟩ (by obtain ⟨mk, el, hq, -⟩ := h.2.2.1; exact gh_recv hK.1 hP hq rfl) hK hZ hP hS hA hl.1 rfl (Nat.le_of_ble_eq_true rfl) dc_TH_make_13 ⟨Nat.le_of_ble_eq_true rfl, Nat.le_of_ble_eq_true rfl⟩) (fun r hr1 => ?_)
  rw [List.length_map] at hr1
  subst hr1
  refine lv_sipush (v := nI 1500) hx hb dc_TH_make_16 (by decide) ?_
  refine gn_lt (tgt := 25) hx hb (by omega) (by decide) dc_TH_make_19 (by decide) (fun _ => ?_) (fun q => absurd q (by omega))
  refine gh_new (6 + 2 * V.1) (ci := 2) (fs := [.int 0, .null, .int 0, .int 0]) hx hb ht nu_TG nt_TG no_TG hown (ht _ ww_22) (ht _ ww_77) (ht _ ww_7) hK.1 hP hS hA rfl (fun j hj => by rcases (show j = 0 ∨ j = 1 ∨ j = 2 ∨ j = 3 by omega) with rfl | rfl | rfl | rfl <;> rfl) (Nat.le_of_ble_eq_true rfl) (Nat.le_of_ble_eq_true rfl) dc_TH_make_25 (fun q H hn_q hP hS => ?_)
  refine lv_dup hx hb dc_TH_make_28 rfl ?_
  refine lv_aload_n hx hb dc_TH_make_29 rfl (lv_fd hl rfl) ?_
  refine gh_get hx hb ht nu_TH hown hK.1 hP (gh_up_at h.1 (gh_ne0 h.1 hn_q)) rfl 4 (by decide) (ht _ ww_54) (fun _ h9 => h9) rfl dc_TH_make_30 ?_
  refine gk_cv (gk_rI F (b := q) (As := [.int (nI V.1)]) (rest := [.ref q]) (ct_TG_init l E _ _ (7 + 2 * V.1) (gh_up_self _ _ _)) ww_78 ww_79 ww_7 ww_80 rfl rfl rfl ⟨by decide, by decide, by show _ = some 1; decide +kernel⟩ ⟨Nat.le_of_ble_eq_true rfl, Nat.le_of_ble_eq_true rfl⟩ hK hZ hP hS hA hl.1 rfl (Nat.le_of_ble_eq_true rfl) dc_TH_make_33 ⟨Nat.le_of_ble_eq_true rfl, Nat.le_of_ble_eq_true rfl⟩) hP hS hA (fun M2 H locs h2 hP hS => ?_)
  obtain ⟨q2, hn2, hq2, hal2, ho2⟩ := h2
  have h3 := h.ext (M' := M2) (fun b y hy => (ho2 b (gh_ne0 hy hn_q) (gh_ne0 (gh_up_at (q := (6 + 2 * V.1, .inr (2, [.int 0, .null, .int 0, .int 0]))) hy (gh_ne0 hy hn_q)) hn2)).trans (gh_up_at hy (gh_ne0 hy hn_q)))
  refine lv_astore_n hx hb dc_TH_make_36 rfl hl (by decide) rfl (fun ls hl => ?_)
  refine lv_aload_n hx hb dc_TH_make_37 rfl (lv_fd hl rfl) ?_
  refine lv_dup hx hb dc_TH_make_38 rfl ?_
  refine gh_get hx hb ht nu_TH hown hK.1 hP h3.1 rfl 4 (by decide) (ht _ ww_54) (fun _ h9 => h9) rfl dc_TH_make_39 ?_
  refine lv_iconst (v := nI 1) hx hb dc_TH_make_42 (by decide) ?_
  refine lv_iadd hx hb dc_TH_make_43 ?_
  refine gh_topi (show nI V.1 + nI 1 = nI (V.1 + 1) from nI_add _ _) ?_
  refine gh_put (ty := .int) hx hb ht nu_TH nt_TH no_TH nn_TH hown hK.1 hP hS h3.1 rfl 4 (by decide) (ht _ ww_54) (fun _ h9 => h9) rfl (by decide +kernel) rfl rfl (Nat.le_of_ble_eq_true rfl) rfl dc_TH_make_44 (fun H locs hP hS => ?_)
  obtain ⟨G', hGq, hG2, h4⟩ := h3.more hq2 hal2 (hI.1.2.2.2.1 _ hk0) (by omega)
  have hPz := hP
  subst hGq
  have hP : gh_P E.1 cl_L (gh_A M s.heap.size) (gh_up M2 h0 (1, .inr (1, [.ref G.2.2.1, .ref G.2.2.2.1, .ref G.2.2.2.2.1, .ref G.2.2.2.2.2, .int (nI (V.1 + 1))]))) H := hPz
  clear hPz
  generalize gh_up M2 h0 (1, .inr (1, [.ref G.2.2.1, .ref G.2.2.2.1, .ref G.2.2.2.2.1, .ref G.2.2.2.2.2, .int (nI (V.1 + 1))])) = M4 at h4 hP
  have hml4 : (V.2.1.map G'.1).length = V.2.1.length := List.length_map _
  have hcost := al_cost cT V.2.1.length h4.2.2.1.cap
  have hlen4 := h4.2.2.1.len
  have hcp : al_cap cT V.2.1.length ≤ 780 := al_cap_le hcT (by decide) (by omega) (by omega)
  have hmc : al_mc cT V.2.1.length ≤ 1 := by unfold al_mc; split <;> omega
  have hms : al_ms cT V.2.1.length ≤ 780 := by unfold al_ms; split <;> omega
  refine lv_aload_n hx hb dc_TH_make_47 rfl (lv_fd hl rfl) ?_
  refine gh_get hx hb ht nu_TH hown hK.1 hP h4.1 rfl 1 (by decide) (ht _ ww_51) (fun _ h9 => h9) rfl dc_TH_make_48 ?_
  refine lv_aload_n hx hb dc_TH_make_51 rfl (lv_fd hl rfl) ?_
  refine gk_ci (gk_rV F (b := G'.2.2.2.1) (As := [.ref (G'.1 V.1)]) (rest := []) (ct_AL_add1 l E _ _ h4.2.2.1 (by omega) (h4.elL h4.2.2.2.2.2.2.2.1) (h4.el (Nat.lt_succ_self V.1))) ww_101 ww_102 ww_103 ww_4 ww_104 rfl rfl ⟨by decide, by decide, by show _ = some 1; decide +kernel⟩ ⟨Nat.le_of_ble_eq_true rfl, Nat.le_of_ble_eq_true rfl⟩ (by obtain ⟨mk, el, hq, -⟩ := h4.2.2.1; exact gh_recv hK.1 hP hq rfl) hK hZ hP hS hA hl.1 rfl (Nat.le_of_ble_eq_true rfl) dc_TH_make_52 ⟨by rw [hml4]; show 0 + 0 + 0 + 1 + 1 + al_mc cT V.2.1.length ≤ 316; omega, by rw [hml4]; show 0 + 0 + 0 + 4 + 3 + al_ms cT V.2.1.length ≤ 7100; omega⟩) hP hS hA (fun r M5 H locs h5 hP hS => ?_)
  rw [hml4] at h5 ⊢
  have h6 : cs_R E M5 h0 G' (V.1 + 1) (V.2.1 ++ [V.1]) [] [] (al_cap cT V.2.1.length) cU cR V.2.2.1 V.2.2.2 (va_up hld V.1 (nI 0)) (va_up rch V.1 false) := by
    refine h4.setT h5.1 (by rw [List.map_append]; exact h5.2) (fun n hn => ?_)
    rcases List.mem_append.mp hn with g | g
    · exact Nat.lt_succ_of_lt (hI.2.2.1 n g)
    · rw [List.mem_singleton.mp g]
      exact Nat.lt_succ_self _
  have hop := op_make (hld := va_up hld V.1 (nI 0)) hI.1 hI.2.2.2.1 (by omega) (fun n hn => (va_up_ne hld (nI 0) (show n ≠ V.1 from fun g => hk0 (g ▸ hn))).trans (hhl n hn)) hj hk0 (va_up_self _ _ _)
  have hlT : (V.2.1 ++ [V.1]).length = V.2.1.length + 1 := by rw [List.length_append]; rfl
  refine lv_pop hx hb dc_TH_make_55 rfl ?_
  refine lv_aload_n hx hb dc_TH_make_56 rfl (lv_fd hl rfl) ?_
  refine lv_iload_n hx hb dc_TH_make_57 rfl (lv_fd hl rfl) ?_
  refine lv_aload_n hx hb dc_TH_make_58 rfl (lv_fd hl rfl) ?_
  refine gk_cv (gk_rV F (b := h0) (As := [.int (nI j), .ref (G'.1 V.1)]) (rest := []) (ct_TH_setRoot l E _ _ h6 (some V.1) (fun n hn => by rw [← Option.some.inj hn]; exact Nat.lt_succ_self _) hj hcU (by omega) (Nat.le_trans hop.1 (by omega))) ww_153 ww_155 ws_TH_setRoot ww_1 ww_156 rfl rfl ⟨by decide, by decide, by show _ = some 2; decide +kernel⟩ ⟨Nat.le_of_ble_eq_true rfl, Nat.le_of_ble_eq_true rfl⟩ (gh_recv hK.1 hP h6.1 rfl) hK hZ hP hS hA hl.1 rfl (Nat.le_of_ble_eq_true rfl) dc_TH_make_59 ⟨by show 0 + 0 + 0 + 1 + 1 + al_mc cT V.2.1.length + 312 ≤ 316; omega, by show 0 + 0 + 0 + 4 + 3 + al_ms cT V.2.1.length + 6240 ≤ 7100; omega⟩) hP hS hA (fun M7 H locs h7 hP hS => ?_)
  obtain ⟨c2, hc2, h7⟩ := h7
  have hth7 := h7.2.2.2.2.2.1 V.1 (Nat.lt_succ_self V.1)
  unfold cs_Th at hth7
  obtain ⟨hV1, -, -⟩ := cs_V_of hop h7 hcp hc2 hcR
  refine lv_aload_n hx hb dc_TH_make_62 rfl (lv_fd hl rfl) ?_
  refine gh_get hx hb ht nu_TG hown hK.1 hP hth7 rfl 0 (by decide) (ht _ ww_85) (fun _ h9 => h9) rfl dc_TH_make_63 ?_
  refine W.widen (k := 316) (n := 7100) (by show 0 + 0 + 0 + 1 + 1 + al_mc cT V.2.1.length + 312 ≤ 316; omega) (by show 0 + 0 + 0 + 4 + 3 + al_ms cT V.2.1.length + 6240 ≤ 7100; omega) ?_
  exact gk_ei hx hb hr hlk hP hS dc_TH_make_66 ⟨by rw [e], by rw [e]; exact hV1⟩
