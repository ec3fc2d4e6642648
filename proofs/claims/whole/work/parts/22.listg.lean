set_option maxHeartbeats 4000000 in
set_option maxRecDepth 100000 in
theorem ct_AR_copyOf3 (l : Launch) (E : gk_E) (M : gh_M) (sz : Nat) (tn : Nat) {t el n n2 : Nat} {f : Nat → Option Nat} (hel : M el = some (t, .inl (E.2.1 2, n, .inr (.inr (.inr (.inr f)))))) (hn : n ≤ n2) (hn2 : n2 < 2 ^ 27) (hx0 : ∀ i, i < n → ∀ y, f i = some y → el_O M y) : Met l yn_AR_copyOf3 (.code yn_AR_copyOf3 cd_AR_copyOf3 4 (some (FieldType.array (FieldType.object "java/lang/Object"))) :: bw_L) { frames := 1, cells := 1, slots := n2, locals := 30 } (gk_Pre E [.ref el, .int (nI n2), .ref E.2.2.2] M sz) (va_Qq (fun r M' => ∃ q, r = some q ∧ M q = none ∧ (∀ b, b ≠ q → M' b = M b) ∧ M' q = some (tn, .inl (E.2.1 2, n2, .inr (.inr (.inr (.inr (va_cpy f (fun _ => none) 0 0 n))))))) (gk_B E M sz) (gh_A M sz)) 1 n2 (gh_A M sz) := by
  refine gk_met rfl (Nat.le_of_ble_eq_true rfl) ?_
  intro p e s m below meth c F hsz hP hK hZ ls hl
  subst hsz
  have hx := F.1
  have hb := F.2.1
  have hr := F.2.2.1
  have hml := F.2.2.2.1
  have hown : s.vm.findClass "java/util/Arrays" = some m.cls := F.2.2.2.2.1
  have hlk := F.2.2.2.2.2.1
  have hnm := F.2.2.2.2.2.2.1
  have ht := fun (w : Cond) (h : w ∈ bw_L) => F.2.2.2.2.2.2.2 w (List.mem_cons_of_mem _ h)
  have hA : ∀ q, s.heap.size ≤ q → gh_A M s.heap.size q := fun q h => Or.inr h
  have hS : va_S (gh_A M s.heap.size) s.heap s.heap [] := va_S.rf
  have hl : lv_has ls 4 [(0, .ref el), (1, .int (nI n2)), (2, .ref E.2.2.2)] := hl
  refine lv_aload_n hx hb dc_AR_copyOf3_0 rfl (lv_fd hl rfl) ?_
  refine va_ldcM hx hb hown (ht _ ww_142) hK.2.2.2.1 dc_AR_copyOf3_1 ?_
  refine lv_acmp_ne (rx := some E.2.2.2) (ry := some E.2.2.2) (tgt := 13) hx hb dc_AR_copyOf3_3 (by decide) (fun h => absurd rfl h) (fun _ => ?_)
  refine lv_iload_n hx hb dc_AR_copyOf3_6 rfl (lv_fd hl rfl) ?_
  refine gh_newq tn hx hb hown (ht _ ww_144) hK.2.2.2.2.1 hK.1 hP hS hA 2 rfl rfl (by omega) (by omega) (Nat.le_refl _) (by show 0 + n2 ≤ n2; omega) dc_AR_copyOf3_7 (fun q H hq hP hS => ?_)
  refine W.widen (k := 1) (n := n2) (by omega) (by omega) ?_
  refine lv_goto (tgt := 24) hx hb dc_AR_copyOf3_10 (by decide) ?_
  have hne : el ≠ q := gh_ne0 hel hq
  have hel1 := gh_up_at (q := (tn, .inl (E.2.1 2, n2, .inr (.inr (.inr (.inr (fun _ => none))))))) hel hne
  refine lv_astore_n hx hb dc_AR_copyOf3_24 rfl hl (by decide) rfl (fun ls hl => ?_)
  refine lv_aload_n hx hb dc_AR_copyOf3_25 rfl (lv_fd hl rfl) ?_
  refine lv_iconst (v := nI 0) hx hb dc_AR_copyOf3_26 (by decide) ?_
  refine lv_aload_n hx hb dc_AR_copyOf3_27 rfl (lv_fd hl rfl) ?_
  refine lv_iconst (v := nI 0) hx hb dc_AR_copyOf3_28 (by decide) ?_
  refine lv_aload_n hx hb dc_AR_copyOf3_29 rfl (lv_fd hl rfl) ?_
  refine gh_alen hx hb hK.1 hP 2 hel1 rfl rfl dc_AR_copyOf3_30 ?_
  refine lv_iload_n hx hb dc_AR_copyOf3_31 rfl (lv_fd hl rfl) ?_
  refine va_mmin hx hb (by rw [hml]; exact hl.1.symm) hown (ht _ ww_145) (ht _ ww_146) (ht _ ww_9) (ht _ ww_147) (Nat.le_of_ble_eq_true rfl) (Nat.le_of_ble_eq_true rfl) (Nat.le_refl _) (Nat.le_refl _) dc_AR_copyOf3_32 ?_
  have hmn : (if nI n2 < Int32.ofNat n then nI n2 else Int32.ofNat n) = nI n := if_neg (nI_nlt (b := n) hn (by omega))
  refine gh_topi hmn ?_
  refine gh_copyM hx hb (by rw [hml]; exact hl.1.symm) hown (ht _ ww_148) (ht _ ww_150) (ht _ ww_149) (ht _ ww_10) hK.1 hP hS 2 2 hel1 (gh_up_self _ _ _) rfl rfl (by decide) (by decide) (by omega) (by omega) (by omega) (fun i hi y hy => ((hx0 i hi y (by rw [Nat.zero_add] at hy; exact hy)).upN hq _).any hK hP) (Nat.le_of_ble_eq_true rfl) (Nat.le_of_ble_eq_true rfl) dc_AR_copyOf3_35 (fun H locs hP hS => ?_)
  refine lv_aload_n hx hb dc_AR_copyOf3_38 rfl (lv_fd hl rfl) ?_
  exact gk_eq (v := some q) hx hb hr (Or.inr ⟨_, rfl⟩) hlk hP hS dc_AR_copyOf3_39 ⟨q, rfl, hq, fun b hb => by rw [gh_up_ne _ _ hb, gh_up_ne _ _ hb], gh_up_self _ _ _⟩
set_option maxHeartbeats 4000000 in
set_option maxRecDepth 100000 in
theorem ct_AR_copyOf2 (l : Launch) (E : gk_E) (M : gh_M) (sz : Nat) (tn : Nat) {t el n n2 : Nat} {f : Nat → Option Nat} (hel : M el = some (t, .inl (E.2.1 2, n, .inr (.inr (.inr (.inr f)))))) (hn : n ≤ n2) (hn2 : n2 < 2 ^ 27) (hx0 : ∀ i, i < n → ∀ y, f i = some y → el_O M y) : Met l yn_AR_copyOf2 (.code yn_AR_copyOf2 cd_AR_copyOf2 2 (some (FieldType.array (FieldType.object "java/lang/Object"))) :: bw_L) { frames := 2, cells := 1, slots := n2, locals := 60 } (gk_Pre E [.ref el, .int (nI n2)] M sz) (va_Qq (fun r M' => ∃ q, r = some q ∧ M q = none ∧ (∀ b, b ≠ q → M' b = M b) ∧ M' q = some (tn, .inl (E.2.1 2, n2, .inr (.inr (.inr (.inr (va_cpy f (fun _ => none) 0 0 n))))))) (gk_B E M sz) (gh_A M sz)) 1 n2 (gh_A M sz) := by
  refine gk_met rfl (Nat.le_of_ble_eq_true rfl) ?_
  intro p e s m below meth c F hsz hP hK hZ ls hl
  subst hsz
  have hx := F.1
  have hb := F.2.1
  have hr := F.2.2.1
  have hml := F.2.2.2.1
  have hown : s.vm.findClass "java/util/Arrays" = some m.cls := F.2.2.2.2.1
  have hlk := F.2.2.2.2.2.1
  have hnm := F.2.2.2.2.2.2.1
  have ht := fun (w : Cond) (h : w ∈ bw_L) => F.2.2.2.2.2.2.2 w (List.mem_cons_of_mem _ h)
  have hA : ∀ q, s.heap.size ≤ q → gh_A M s.heap.size q := fun q h => Or.inr h
  have hS : va_S (gh_A M s.heap.size) s.heap s.heap [] := va_S.rf
  have hl : lv_has ls 2 [(0, .ref el), (1, .int (nI n2))] := hl
  refine lv_aload_n hx hb dc_AR_copyOf2_0 rfl (lv_fd hl rfl) ?_
  refine lv_iload_n hx hb dc_AR_copyOf2_1 rfl (lv_fd hl rfl) ?_
  refine lv_aload_n hx hb dc_AR_copyOf2_2 rfl (lv_fd hl rfl) ?_
  refine va_getC hx hb (by rw [hml]; exact hl.1.symm) hown (ht _ ww_130) (va_Dc.use hK.2.2.2.2.2.2.1) (ht _ ww_451) (ht _ ww_131) (ht _ ww_138) hK.2.2.2.1 (gh_recvA hP hel (va_nmO (hK.1.2 2 (E.2.1 2, .object "java/lang/Object") rfl).2 (by decide))) (Nat.le_of_ble_eq_true rfl) (Nat.le_of_ble_eq_true rfl) dc_AR_copyOf2_3 ?_
  refine gk_cq (gk_rS F (As := [.ref el, .int (nI n2), .ref E.2.2.2]) (rest := []) (ct_AR_copyOf3 l E _ _ tn hel hn hn2 hx0) ww_139 ww_140 ww_6 ww_141 rfl rfl ⟨by decide, by decide, by show _ = some 3; decide +kernel⟩ ⟨Nat.le_of_ble_eq_true rfl, Nat.le_of_ble_eq_true rfl⟩ hK hZ hP hS hA hl.1 rfl (Nat.le_of_ble_eq_true rfl) dc_AR_copyOf2_6 ⟨Nat.le_refl _, by show 0 + n2 ≤ n2; omega⟩) hP hS hA (fun r M1 H locs hM1 hP hS => ?_)
  refine W.widen (k := 1) (n := n2) (by omega) (by omega) ?_
  exact gk_eq hx hb hr (Or.inr ⟨_, rfl⟩) hlk hP hS dc_AR_copyOf2_9 hM1
set_option maxHeartbeats 4000000 in
set_option maxRecDepth 100000 in
theorem ct_AL_grow1 (l : Launch) (E : gk_E) (M : gh_M) (sz : Nat) {t a el cap : Nat} {mk : Int32} {xs : List Nat} (ha : M a = some (t, .inr (0, [.int mk, .ref el, .int (nI xs.length)]))) (hD : al_D E M t el cap xs) (hfull : xs.length = cap) (hc : cap < 2 ^ 26) (hx0 : ∀ x ∈ xs, el_O M x) : Met l yn_AL_grow1 (.code yn_AL_grow1 cd_AL_grow1 4 (some (FieldType.array (FieldType.object "java/lang/Object"))) :: bw_L) { frames := 3, cells := 1, slots := (al_cap cap xs.length), locals := 90 } (gk_Pre E [.ref a, .int (nI (xs.length + 1))] M sz) (va_Qq (fun r M' => ∃ q f2, r = some q ∧ M q = none ∧ (∀ b, b ≠ a → b ≠ q → M' b = M b) ∧ M' a = some (t, .inr (0, [.int mk, .ref q, .int (nI xs.length)])) ∧ M' q = some (t, .inl (E.2.1 2, al_cap cap xs.length, .inr (.inr (.inr (.inr f2))))) ∧ ∀ i, i < xs.length → f2 i = xs[i]?) (gk_B E M sz) (gh_A M sz)) 1 (al_cap cap xs.length) (gh_A M sz) := by
  refine gk_met rfl (Nat.le_of_ble_eq_true rfl) ?_
  intro p e s m below meth c F hsz hP hK hZ ls hl
  subst hsz
  have hx := F.1
  have hb := F.2.1
  have hr := F.2.2.1
  have hml := F.2.2.2.1
  have hown : s.vm.findClass "java/util/ArrayList" = some m.cls := F.2.2.2.2.1
  have hlk := F.2.2.2.2.2.1
  have hnm := F.2.2.2.2.2.2.1
  have ht := fun (w : Cond) (h : w ∈ bw_L) => F.2.2.2.2.2.2.2 w (List.mem_cons_of_mem _ h)
  have hA : ∀ q, s.heap.size ≤ q → gh_A M s.heap.size q := fun q h => Or.inr h
  have hS : va_S (gh_A M s.heap.size) s.heap s.heap [] := va_S.rf
  have hl : lv_has ls 4 [(0, .ref a), (1, .int (nI (xs.length + 1)))] := hl
  rcases hD with ⟨rfl, rfl, rfl⟩ | ⟨f, hel, hc1, hc2, hc3, hf⟩
  · refine lv_aload_n hx hb dc_AL_grow1_0 rfl (lv_fd hl rfl) ?_
    refine gh_get hx hb ht nu_AL hown hK.1 hP ha rfl 1 (by decide) (ht _ ww_38) (fun _ h9 => h9) rfl dc_AL_grow1_1 ?_
    refine va_tlen hx hb hZ.2 hS rfl dc_AL_grow1_4 ?_
    refine lv_istore_n hx hb dc_AL_grow1_5 rfl hl (by decide) rfl (fun ls hl => ?_)
    refine lv_iload_n hx hb dc_AL_grow1_6 rfl (lv_fd hl rfl) ?_
    refine lv_if_gt (tgt := 20) hx hb dc_AL_grow1_7 (by decide) (fun h => absurd h (by decide)) (fun _ => ?_)
    refine lv_aload_n hx hb dc_AL_grow1_10 rfl (lv_fd hl rfl) ?_
    refine gh_get hx hb ht nu_AL hown hK.1 hP ha rfl 1 (by decide) (ht _ ww_38) (fun _ h9 => h9) rfl dc_AL_grow1_11 ?_
    refine va_gets hx hb hZ.1 hS hown (ht _ ww_36) (fun _ h9 => h9) dc_AL_grow1_14 ?_
    refine lv_acmp_eq (rx := some E.2.2.1) (ry := some E.2.2.1) (tgt := 45) hx hb dc_AL_grow1_17 (by decide) (fun _ => ?_) (fun h => absurd rfl h)
    refine lv_aload_n hx hb dc_AL_grow1_45 rfl (lv_fd hl rfl) ?_
    refine lv_bipush (v := nI 10) hx hb dc_AL_grow1_46 (by decide) ?_
    refine lv_iload_n hx hb dc_AL_grow1_48 rfl (lv_fd hl rfl) ?_
    refine va_mmax hx hb (by rw [hml]; exact hl.1.symm) hown (ht _ ww_151) (ht _ ww_121) (ht _ ww_9) (ht _ ww_122) (Nat.le_of_ble_eq_true rfl) (Nat.le_of_ble_eq_true rfl) (Nat.zero_le _) (Nat.zero_le _) dc_AL_grow1_49 ?_
    refine gh_topi (y := nI 10) (by decide) ?_
    refine gh_newq t hx hb hown (ht _ ww_152) hK.2.2.2.2.1 hK.1 hP hS hA 2 rfl rfl (by decide) (by decide) (Nat.le_refl _) (Nat.le_of_ble_eq_true rfl) dc_AL_grow1_52 (fun q H hq hP hS => ?_)
    have hne : a ≠ q := gh_ne0 ha hq
    have ha1 := gh_up_at (q := (t, .inl (E.2.1 2, 10, .inr (.inr (.inr (.inr (fun _ => none))))))) ha hne
    refine lv_dup_x1 hx hb dc_AL_grow1_55 rfl rfl ?_
    refine gh_put (ty := .array (.object "java/lang/Object")) hx hb ht nu_AL nt_AL no_AL nn_AL hown hK.1 hP hS ha1 rfl 1 (by decide) (ht _ ww_38) (fun _ h9 => h9) rfl (by decide +kernel) rfl rfl (Nat.le_of_ble_eq_true rfl) rfl dc_AL_grow1_56 (fun H locs hP hS => ?_)
    refine W.widen (k := 1) (n := al_cap 0 ([] : List Nat).length) (Nat.le_refl _) (Nat.le_of_ble_eq_true rfl) ?_
    refine gk_eq (v := some q) hx hb hr (Or.inr ⟨_, rfl⟩) hlk hP hS dc_AL_grow1_59 ⟨q, fun _ => none, rfl, hq, fun b h1 h2 => by rw [gh_up_ne _ _ h1, gh_up_ne _ _ h2], gh_up_self _ _ _, ?_, fun i hi => absurd hi (Nat.not_lt_zero _)⟩
    rw [gh_up_ne _ _ (Ne.symm hne)]
    exact gh_up_self _ _ _
  · refine lv_aload_n hx hb dc_AL_grow1_0 rfl (lv_fd hl rfl) ?_
    refine gh_get hx hb ht nu_AL hown hK.1 hP ha rfl 1 (by decide) (ht _ ww_38) (fun _ h9 => h9) rfl dc_AL_grow1_1 ?_
    refine gh_alen hx hb hK.1 hP 2 hel rfl rfl dc_AL_grow1_4 ?_
    refine lv_istore_n hx hb dc_AL_grow1_5 rfl hl (by decide) rfl (fun ls hl => ?_)
    refine lv_iload_n hx hb dc_AL_grow1_6 rfl (lv_fd hl rfl) ?_
    refine lv_if_gt (tgt := 20) hx hb dc_AL_grow1_7 (by decide) (fun _ => ?_) (fun h => absurd (show (0 : Int32) < nI cap from nI_0 ▸ nI_lt (by omega) (by omega)) h)
    refine lv_iload_n hx hb dc_AL_grow1_20 rfl (lv_fd hl rfl) ?_
    refine lv_iload_n hx hb dc_AL_grow1_21 rfl (lv_fd hl rfl) ?_
    refine lv_iload_n hx hb dc_AL_grow1_22 rfl (lv_fd hl rfl) ?_
    refine lv_isub hx hb dc_AL_grow1_23 ?_
    refine gh_topi (show nI (xs.length + 1) - nI cap = nI 1 by rw [hfull, pk_sub (by omega)]; congr 1; omega) ?_
    refine lv_iload_n hx hb dc_AL_grow1_24 rfl (lv_fd hl rfl) ?_
    refine lv_iconst (v := nI 1) hx hb dc_AL_grow1_25 (by decide) ?_
    refine lv_ishr hx hb dc_AL_grow1_26 ?_
    refine gh_topi (show nI cap >>> (nI 1 &&& 31) = nI (cap / 2) from (pk_shrN (n := cap) (by omega) (nI 1 &&& 31) 1 (by decide)).trans (by rw [Nat.pow_one])) ?_
    refine gk_si (gk_rS F (As := [.int (nI cap), .int (nI 1), .int (nI (cap / 2))]) (rest := []) (ct_AS_newLength l E _ _ (a := cap) (b := 1) (d := cap / 2) (by omega) (by omega) (by omega) (by omega)) ww_117 ww_118 ww_8 ww_119 rfl rfl ⟨by decide, by decide, by show _ = some 3; decide +kernel⟩ ⟨Nat.le_of_ble_eq_true rfl, Nat.le_of_ble_eq_true rfl⟩ hK hZ hP hS hA hl.1 rfl (Nat.le_of_ble_eq_true rfl) dc_AL_grow1_27 ⟨Nat.zero_le _, Nat.zero_le _⟩) (fun r hr1 => ?_)
    subst hr1
    refine lv_istore_n hx hb dc_AL_grow1_30 rfl hl (by decide) rfl (fun ls hl => ?_)
    refine lv_aload_n hx hb dc_AL_grow1_31 rfl (lv_fd hl rfl) ?_
    refine lv_aload_n hx hb dc_AL_grow1_32 rfl (lv_fd hl rfl) ?_
    refine gh_get hx hb ht nu_AL hown hK.1 hP ha rfl 1 (by decide) (ht _ ww_38) (fun _ h9 => h9) rfl dc_AL_grow1_33 ?_
    refine lv_iload_n hx hb dc_AL_grow1_36 rfl (lv_fd hl rfl) ?_
    have hcp : al_cap cap xs.length = cap + cap / 2 := by
      unfold al_cap
      rw [if_neg (by omega), if_neg (by omega)]
    refine gk_cq (gk_rS F (As := [.ref el, .int (nI (cap + cap / 2))]) (rest := [.ref a]) (ct_AR_copyOf2 l E _ _ t hel (n2 := cap + cap / 2) (by omega) (by omega) (fun i hi y hy => hx0 y (List.mem_of_getElem? ((hf i (by omega)).symm.trans hy)))) ww_127 ww_128 ww_6 ww_129 rfl rfl ⟨by decide, by decide, by show _ = some 2; decide +kernel⟩ ⟨Nat.le_of_ble_eq_true rfl, Nat.le_of_ble_eq_true rfl⟩ hK hZ hP hS hA hl.1 rfl (Nat.le_of_ble_eq_true rfl) dc_AL_grow1_37 ⟨Nat.le_refl _, by show 0 + (cap + cap / 2) ≤ al_cap cap xs.length; omega⟩) hP hS hA (fun r M1 H locs hM1 hP hS => ?_)
    obtain ⟨q, rfl, hq, ho, hq1⟩ := hM1
    have hne : a ≠ q := gh_ne0 ha hq
    have ha1 := (ho a hne).trans ha
    refine lv_dup_x1 hx hb dc_AL_grow1_40 rfl rfl ?_
    refine gh_put (ty := .array (.object "java/lang/Object")) hx hb ht nu_AL nt_AL no_AL nn_AL hown hK.1 hP hS ha1 rfl 1 (by decide) (ht _ ww_38) (fun _ h9 => h9) rfl (by decide +kernel) rfl rfl (Nat.le_of_ble_eq_true rfl) rfl dc_AL_grow1_41 (fun H locs hP hS => ?_)
    refine W.widen (k := 1) (n := al_cap cap xs.length) (Nat.le_refl _) (by show 0 + 0 + (cap + cap / 2) ≤ _; omega) ?_
    refine gk_eq (v := some q) hx hb hr (Or.inr ⟨_, rfl⟩) hlk hP hS dc_AL_grow1_44 ⟨q, _, rfl, hq, fun b h1 h2 => by rw [gh_up_ne _ _ h1]; exact ho b h2, gh_up_self _ _ _, by rw [gh_up_ne _ _ (Ne.symm hne), hcp]; exact hq1, fun i hi => ?_⟩
    rw [pk_cpy_in (Nat.zero_le _) (by omega)]
    rw [Nat.zero_add, Nat.sub_zero]
    exact hf i hi
set_option maxHeartbeats 4000000 in
set_option maxRecDepth 100000 in
theorem ct_AL_grow0 (l : Launch) (E : gk_E) (M : gh_M) (sz : Nat) {t a el cap : Nat} {mk : Int32} {xs : List Nat} (ha : M a = some (t, .inr (0, [.int mk, .ref el, .int (nI xs.length)]))) (hD : al_D E M t el cap xs) (hfull : xs.length = cap) (hc : cap < 2 ^ 26) (hx0 : ∀ x ∈ xs, el_O M x) : Met l yn_AL_grow0 (.code yn_AL_grow0 cd_AL_grow0 1 (some (FieldType.array (FieldType.object "java/lang/Object"))) :: bw_L) { frames := 4, cells := 1, slots := (al_cap cap xs.length), locals := 120 } (gk_Pre E [.ref a] M sz) (va_Qq (fun r M' => ∃ q f2, r = some q ∧ M q = none ∧ (∀ b, b ≠ a → b ≠ q → M' b = M b) ∧ M' a = some (t, .inr (0, [.int mk, .ref q, .int (nI xs.length)])) ∧ M' q = some (t, .inl (E.2.1 2, al_cap cap xs.length, .inr (.inr (.inr (.inr f2))))) ∧ ∀ i, i < xs.length → f2 i = xs[i]?) (gk_B E M sz) (gh_A M sz)) 1 (al_cap cap xs.length) (gh_A M sz) := by
  refine gk_met rfl (Nat.le_of_ble_eq_true rfl) ?_
  intro p e s m below meth c F hsz hP hK hZ ls hl
  subst hsz
  have hx := F.1
  have hb := F.2.1
  have hr := F.2.2.1
  have hml := F.2.2.2.1
  have hown : s.vm.findClass "java/util/ArrayList" = some m.cls := F.2.2.2.2.1
  have hlk := F.2.2.2.2.2.1
  have hnm := F.2.2.2.2.2.2.1
  have ht := fun (w : Cond) (h : w ∈ bw_L) => F.2.2.2.2.2.2.2 w (List.mem_cons_of_mem _ h)
  have hA : ∀ q, s.heap.size ≤ q → gh_A M s.heap.size q := fun q h => Or.inr h
  have hS : va_S (gh_A M s.heap.size) s.heap s.heap [] := va_S.rf
  have hl : lv_has ls 1 [(0, .ref a)] := hl
  have hlen := hD.len
  refine lv_aload_n hx hb dc_AL_grow0_0 rfl (lv_fd hl rfl) ?_
  refine lv_aload_n hx hb dc_AL_grow0_1 rfl (lv_fd hl rfl) ?_
  refine gh_get hx hb ht nu_AL hown hK.1 hP ha rfl 2 (by decide) (ht _ ww_39) (fun _ h9 => h9) rfl dc_AL_grow0_2 ?_
  refine lv_iconst (v := nI 1) hx hb dc_AL_grow0_5 (by decide) ?_
  refine lv_iadd hx hb dc_AL_grow0_6 ?_
  refine gh_topi (nI_add xs.length 1) ?_
  refine gk_cq (gk_rV F (b := a) (As := [.int (nI (xs.length + 1))]) (rest := []) (ct_AL_grow1 l E _ _ ha hD hfull hc hx0) ww_113 ww_115 ws_AL_grow1 ww_4 ww_116 rfl rfl ⟨by decide, by decide, by show _ = some 1; decide +kernel⟩ ⟨Nat.le_of_ble_eq_true rfl, Nat.le_of_ble_eq_true rfl⟩ (gh_recv hK.1 hP ha rfl) hK hZ hP hS hA hl.1 rfl (Nat.le_of_ble_eq_true rfl) dc_AL_grow0_7 ⟨Nat.le_refl _, by show 0 + al_cap cap xs.length ≤ al_cap cap xs.length; omega⟩) hP hS hA (fun r M1 H locs hM1 hP hS => ?_)
  refine W.widen (k := 1) (n := al_cap cap xs.length) (by omega) (by omega) ?_
  exact gk_eq hx hb hr (Or.inr ⟨_, rfl⟩) hlk hP hS dc_AL_grow0_10 hM1
