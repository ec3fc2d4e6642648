theorem gh_inc (k : Nat) : nI k + Int32.ofInt 1 = nI (k + 1) := by
  have : Int32.ofInt 1 = 1 := by decide
  rw [this]
  exact nI_1 k
set_option maxHeartbeats 4000000 in
set_option maxRecDepth 100000 in
theorem ct_AL_add3 (l : Launch) (E : gk_E) (M : gh_M) (sz : Nat) {t a x el cap : Nat} {mk : Int32} {xs : List Nat} (ha : M a = some (t, .inr (0, [.int mk, .ref el, .int (nI xs.length)]))) (hD : al_D E M t el cap xs) (hc : cap < 2 ^ 26) (hx0 : ∀ y ∈ xs, el_O M y) (hxo : el_O M x) : Met l yn_AL_add3 (.code yn_AL_add3 cd_AL_add3 4 none :: bw_L) { frames := 5, cells := (al_mc cap xs.length), slots := (al_ms cap xs.length), locals := 150 } (gk_Pre E [.ref a, .ref x, .ref el, .int (nI xs.length)] M sz) (va_Qv (fun M' => gh_ch t M M' ∧ al_L E M' t a (al_cap cap xs.length) (xs ++ [x])) (gk_B E M sz) (gh_A M sz)) (al_mc cap xs.length) (al_ms cap xs.length) (gh_A M sz) := by
  refine gk_met rfl (Nat.le_of_ble_eq_true rfl) ?_
  intro p e s m below meth c F hsz hP hK hZ ls hl
  subst hsz
  have hx := F.1
  have hb := F.2.1
  have hr := F.2.2.1
  have hml := F.2.2.2.1
  have hown : s.vm.findClass "java/util/ArrayList" = some m.cls := F.2.2.2.2.1
  have hlk := F.2.2.2.2.2.1
  have hnm := F.2.2.2.2.2.2.1
  have ht := fun (w : Cond) (h : w ∈ bw_L) => F.2.2.2.2.2.2.2 w (List.mem_cons_of_mem _ h)
  have hA : ∀ q, s.heap.size ≤ q → gh_A M s.heap.size q := fun q h => Or.inr h
  have hS : va_S (gh_A M s.heap.size) s.heap s.heap [] := va_S.rf
  have hl : lv_has ls 4 [(0, .ref a), (1, .ref x), (2, .ref el), (3, .int (nI xs.length))] := hl
  have hlen := hD.len
  have hcost := al_cost cap xs.length (by rcases hD with ⟨-, h, -⟩ | ⟨f, -, h, -⟩ <;> omega)
  have tail : ∀ (M1 : gh_M) (H : Heap) (locs : List Loc) (c1 s1 : Nat) (ls : Array Slot) (q cp : Nat) (f1 : Nat → Option Nat), lv_has ls 4 [(0, .ref a), (1, .ref x), (2, .ref q), (3, .int (nI xs.length))] → gh_P E.1 cl_L (gh_A M s.heap.size) M1 H → va_S (gh_A M s.heap.size) s.heap H locs →
      M1 a = some (t, .inr (0, [.int mk, .ref q, .int (nI xs.length)])) → M1 q = some (t, .inl (E.2.1 2, cp, .inr (.inr (.inr (.inr f1))))) → (∀ i, i < xs.length → f1 i = xs[i]?) → xs.length < cp → cp = al_cap cap xs.length → 10 ≤ cp → cp < 2 ^ 29 → el_O M1 x → gh_ch t M M1 → c1 ≤ al_mc cap xs.length → s1 ≤ al_ms cap xs.length →
      W p l e ({ frames := 5, cells := (al_mc cap xs.length), slots := (al_ms cap xs.length), locals := 150 } : Room) s m ([.ref a, .ref x, .ref el, .int (nI xs.length)] : List Value).toArray below meth c H locs c1 s1 (MQ below (va_Qv (fun M' => gh_ch t M M' ∧ al_L E M' t a (al_cap cap xs.length) (xs ++ [x])) (gk_B E M s.heap.size) (gh_A M s.heap.size)) ([.ref a, .ref x, .ref el, .int (nI xs.length)] : List Value).toArray s (al_mc cap xs.length) (al_ms cap xs.length) (gh_A M s.heap.size)) (F0 m 11 ls []) := by
    intro M1 H locs c1 s1 ls q cp f1 hl hP hS ha1 hq1 hf1 hlt hcp h10 h29 hxo1 hch hc1 hs1
    have hne := gh_neOA ha1 hq1
    refine lv_aload_n hx hb dc_AL_add3_11 rfl (lv_fd hl rfl) ?_
    refine lv_iload_n hx hb dc_AL_add3_12 rfl (lv_fd hl rfl) ?_
    refine lv_aload_n hx hb dc_AL_add3_13 rfl (lv_fd hl rfl) ?_
    refine gh_aast hx hb hK.1 hP hS 2 hq1 rfl (hxo1.any hK hP) rfl hlt (by omega) dc_AL_add3_14 (fun H locs hP hS => ?_)
    have ha2 := gh_up_at (q := (t, .inl (E.2.1 2, cp, .inr (.inr (.inr (.inr (va_up f1 xs.length (some x)))))))) ha1 hne
    refine lv_aload_n hx hb dc_AL_add3_15 rfl (lv_fd hl rfl) ?_
    refine lv_iload_n hx hb dc_AL_add3_16 rfl (lv_fd hl rfl) ?_
    refine lv_iconst (v := nI 1) hx hb dc_AL_add3_17 (by decide) ?_
    refine lv_iadd hx hb dc_AL_add3_18 ?_
    refine gh_topi (nI_add xs.length 1) ?_
    refine gh_put (ty := .int) hx hb ht nu_AL nt_AL no_AL nn_AL hown hK.1 hP hS ha2 rfl 2 (by decide) (ht _ ww_39) (fun _ h9 => h9) rfl (by decide +kernel) rfl rfl (Nat.le_of_ble_eq_true rfl) rfl dc_AL_add3_19 (fun H locs hP hS => ?_)
    refine W.widen (k := al_mc cap xs.length) (n := al_ms cap xs.length) hc1 hs1 ?_
    refine gk_ev hx hb hr hlk hP hS dc_AL_add3_22 ⟨(hch.trans (gh_ch.up hq1)).trans (gh_ch.up ha2), mk, q, ?_, Or.inr ⟨va_up f1 xs.length (some x), ?_, by omega, by omega, ?_, fun i hi => ?_⟩⟩
    · rw [gh_up_self, List.length_append]
      rfl
    · rw [gh_up_ne _ _ (Ne.symm hne), gh_up_self, hcp]
    · rw [List.length_append]
      show xs.length + 1 ≤ _
      omega
    · rw [List.length_append] at hi
      have hi : i < xs.length + 1 := hi
      by_cases hin : i = xs.length
      · subst hin
        rw [va_up_self]
        simp
      · rw [va_up_ne _ _ hin, List.getElem?_append_left (by omega)]
        exact hf1 i (by omega)
  have grown : ∀ (ls : Array Slot), lv_has ls 4 [(0, .ref a), (1, .ref x), (2, .ref el), (3, .int (nI xs.length))] → xs.length = cap → W p l e ({ frames := 5, cells := (al_mc cap xs.length), slots := (al_ms cap xs.length), locals := 150 } : Room) s m ([.ref a, .ref x, .ref el, .int (nI xs.length)] : List Value).toArray below meth c s.heap [] 0 0 (MQ below (va_Qv (fun M' => gh_ch t M M' ∧ al_L E M' t a (al_cap cap xs.length) (xs ++ [x])) (gk_B E M s.heap.size) (gh_A M s.heap.size)) ([.ref a, .ref x, .ref el, .int (nI xs.length)] : List Value).toArray s (al_mc cap xs.length) (al_ms cap xs.length) (gh_A M s.heap.size)) (F0 m 6 ls []) := by
    intro ls hl hfull
    have hmc : al_mc cap xs.length = 1 := by unfold al_mc; rw [if_neg (by omega)]
    have hms : al_ms cap xs.length = al_cap cap xs.length := by unfold al_ms; rw [if_neg (by omega)]
    refine lv_aload_n hx hb dc_AL_add3_6 rfl (lv_fd hl rfl) ?_
    refine gk_cq (gk_rV F (b := a) (As := []) (rest := []) (ct_AL_grow0 l E _ _ ha hD hfull hc hx0) ww_109 ww_111 ws_AL_grow0 ww_4 ww_112 rfl rfl ⟨by decide, by decide, by show _ = some 0; decide +kernel⟩ ⟨Nat.le_of_ble_eq_true rfl, Nat.le_of_ble_eq_true rfl⟩ (gh_recv hK.1 hP ha rfl) hK hZ hP hS hA hl.1 rfl (Nat.le_of_ble_eq_true rfl) dc_AL_add3_7 ⟨by show 0 + 1 ≤ al_mc cap xs.length; omega, by show 0 + al_cap cap xs.length ≤ al_ms cap xs.length; omega⟩) hP hS hA (fun r M1 H locs hM1 hP hS => ?_)
    obtain ⟨q, f2, rfl, hq, ho, ha1, hq1, hf2⟩ := hM1
    refine lv_astore_n hx hb dc_AL_add3_10 rfl hl (by decide) rfl (fun ls hl => ?_)
    have h10 : 10 ≤ al_cap cap xs.length ∧ xs.length < al_cap cap xs.length ∧ al_cap cap xs.length < 2 ^ 29 := by
      unfold al_cap
      rw [if_neg (by omega)]
      rcases hD with ⟨-, h, -⟩ | ⟨f, -, h, -⟩
      · rw [if_pos h]
        omega
      · rw [if_neg (by omega)]
        omega
    obtain ⟨tx, gs, hxx⟩ := hxo
    have hxa : x ≠ a := fun e => by
      subst e
      rw [ha] at hxx
      rcases hxx with h | h <;> (injection h with h; injection h with _ h; injection h with h; injection h with h _; cases h)
    have hxq : x ≠ q := fun e => by
      subst e
      rw [hq] at hxx
      rcases hxx with h | h <;> cases h
    refine tail M1 H locs _ _ ls q _ f2 (lv_sub hl [1, 2, 0, 3] rfl) hP hS ha1 hq1 hf2 h10.2.1 rfl h10.1 h10.2.2 ⟨tx, gs, by rw [ho x hxa hxq]; exact hxx⟩ (fun b => ?_) (by omega) (by omega)
    by_cases hba : b = a
    · subst hba
      exact Or.inr ⟨Or.inr ⟨_, ha⟩, _, ha1⟩
    · by_cases hbq : b = q
      · subst hbq
        exact Or.inr ⟨Or.inl hq, _, hq1⟩
      · exact Or.inl (ho b hba hbq)
  rcases hD with ⟨rfl, rfl, rfl⟩ | ⟨f, hel, hc1, hc2, hc3, hf⟩
  · refine lv_iload_n hx hb dc_AL_add3_0 rfl (lv_fd hl rfl) ?_
    refine lv_aload_n hx hb dc_AL_add3_1 rfl (lv_fd hl rfl) ?_
    refine va_tlen hx hb hZ.2 hS rfl dc_AL_add3_2 ?_
    refine lv_icmp_ne (tgt := 11) hx hb dc_AL_add3_3 (by decide) (fun h => absurd rfl h) (fun _ => ?_)
    exact grown ls hl rfl
  · refine lv_iload_n hx hb dc_AL_add3_0 rfl (lv_fd hl rfl) ?_
    refine lv_aload_n hx hb dc_AL_add3_1 rfl (lv_fd hl rfl) ?_
    refine gh_alen hx hb hK.1 hP 2 hel rfl rfl dc_AL_add3_2 ?_
    refine gn_ne (tgt := 11) hx hb (by omega) (by omega) dc_AL_add3_3 (by decide) (fun h => ?_) (fun h => grown ls hl h)
    have hcp : al_cap cap xs.length = cap := by unfold al_cap; rw [if_pos (by omega)]
    exact tail M s.heap [] 0 0 ls el cap f hl hP hS ha hel hf (by omega) hcp.symm hc1 hc2 hxo (gh_ch.rf _ _) (Nat.zero_le _) (Nat.zero_le _)
set_option maxHeartbeats 4000000 in
set_option maxRecDepth 100000 in
theorem ct_AL_add1 (l : Launch) (E : gk_E) (M : gh_M) (sz : Nat) {t a x cap : Nat} {xs : List Nat} (h : al_L E M t a cap xs) (hc : cap < 2 ^ 26) (hx0 : ∀ y ∈ xs, el_O M y) (hxo : el_O M x) : Met l yn_AL_add1 (.code yn_AL_add1 cd_AL_add1 2 (some FieldType.boolean) :: bw_L) { frames := 6, cells := (al_mc cap xs.length), slots := (al_ms cap xs.length), locals := 180 } (gk_Pre E [.ref a, .ref x] M sz) (va_Qi (fun _ M' => gh_ch t M M' ∧ al_L E M' t a (al_cap cap xs.length) (xs ++ [x])) (gk_B E M sz) (gh_A M sz)) (al_mc cap xs.length) (al_ms cap xs.length) (gh_A M sz) := by
  refine gk_met rfl (Nat.le_of_ble_eq_true rfl) ?_
  intro p e s m below meth c F hsz hP hK hZ ls hl
  subst hsz
  have hx := F.1
  have hb := F.2.1
  have hr := F.2.2.1
  have hml := F.2.2.2.1
  have hown : s.vm.findClass "java/util/ArrayList" = some m.cls := F.2.2.2.2.1
  have hlk := F.2.2.2.2.2.1
  have hnm := F.2.2.2.2.2.2.1
  have ht := fun (w : Cond) (h : w ∈ bw_L) => F.2.2.2.2.2.2.2 w (List.mem_cons_of_mem _ h)
  have hA : ∀ q, s.heap.size ≤ q → gh_A M s.heap.size q := fun q h => Or.inr h
  have hS : va_S (gh_A M s.heap.size) s.heap s.heap [] := va_S.rf
  have hl : lv_has ls 2 [(0, .ref a), (1, .ref x)] := hl
  obtain ⟨mk, el, ha, hD⟩ := h
  refine lv_aload_n hx hb dc_AL_add1_0 rfl (lv_fd hl rfl) ?_
  refine lv_dup hx hb dc_AL_add1_1 rfl ?_
  refine gh_get hx hb ht nu_AL hown hK.1 hP ha rfl 0 (by decide) (ht _ ww_41) (fun x9 h9 => u_same (ht _ ww_42) x9 h9) rfl dc_AL_add1_2 ?_
  refine lv_iconst (v := nI 1) hx hb dc_AL_add1_5 (by decide) ?_
  refine lv_iadd hx hb dc_AL_add1_6 ?_
  refine gh_put (ty := .int) hx hb ht nu_AL nt_AL no_AL nn_AL hown hK.1 hP hS ha rfl 0 (by decide) (ht _ ww_41) (fun x9 h9 => u_same (ht _ ww_42) x9 h9) rfl (by decide +kernel) rfl rfl (Nat.le_of_ble_eq_true rfl) rfl dc_AL_add1_7 (fun H locs hP hS => ?_)
  have hel1 : al_D E (gh_up M a (t, .inr (0, [.int mk, .ref el, .int (nI xs.length)].set 0 (.int (mk + nI 1))))) t el cap xs := hD.ch (fun y hy => gh_up_at hy (Ne.symm (gh_neOA ha hy)))
  have ha1 : gh_up M a (t, .inr (0, [.int mk, .ref el, .int (nI xs.length)].set 0 (.int (mk + nI 1)))) a = some (t, .inr (0, [.int (mk + nI 1), .ref el, .int (nI xs.length)])) := gh_up_self _ _ _
  refine lv_aload_n hx hb dc_AL_add1_10 rfl (lv_fd hl rfl) ?_
  refine lv_aload_n hx hb dc_AL_add1_11 rfl (lv_fd hl rfl) ?_
  refine lv_aload_n hx hb dc_AL_add1_12 rfl (lv_fd hl rfl) ?_
  refine gh_get hx hb ht nu_AL hown hK.1 hP ha1 rfl 1 (by decide) (ht _ ww_38) (fun _ h9 => h9) rfl dc_AL_add1_13 ?_
  refine lv_aload_n hx hb dc_AL_add1_16 rfl (lv_fd hl rfl) ?_
  refine gh_get hx hb ht nu_AL hown hK.1 hP ha1 rfl 2 (by decide) (ht _ ww_39) (fun _ h9 => h9) rfl dc_AL_add1_17 ?_
  refine gk_cv (gk_rV F (b := a) (As := [.ref x, .ref el, .int (nI xs.length)]) (rest := []) (ct_AL_add3 l E _ _ ha1 hel1 hc (fun y hy => (hx0 y hy).up ha (Or.inl rfl) _) (hxo.up ha (Or.inl rfl) _)) ww_105 ww_107 ws_AL_add3 ww_4 ww_108 rfl rfl ⟨by decide, by decide, by show _ = some 3; decide +kernel⟩ ⟨Nat.le_of_ble_eq_true rfl, Nat.le_of_ble_eq_true rfl⟩ (gh_recv hK.1 hP ha1 rfl) hK hZ hP hS hA hl.1 rfl (Nat.le_of_ble_eq_true rfl) dc_AL_add1_20 ⟨by show 0 + al_mc cap xs.length ≤ al_mc cap xs.length; omega, by show 0 + al_ms cap xs.length ≤ al_ms cap xs.length; omega⟩) hP hS hA (fun M2 H locs hM2 hP hS => ?_)
  refine lv_iconst (v := nI 1) hx hb dc_AL_add1_23 (by decide) ?_
  refine W.widen (k := al_mc cap xs.length) (n := al_ms cap xs.length) (by omega) (by omega) ?_
  exact gk_ez hx hb hr hlk (by decide) hP hS dc_AL_add1_24 ⟨(gh_ch.up ha).trans hM2.1, hM2.2⟩
set_option maxHeartbeats 4000000 in
set_option maxRecDepth 100000 in
theorem ct_AL_clear (l : Launch) (E : gk_E) (M : gh_M) (sz : Nat) {t a cap : Nat} {xs : List Nat} (h : al_L E M t a cap xs) : Met l yn_AL_clear (.code yn_AL_clear cd_AL_clear 4 none :: bw_L) { frames := 0, cells := 0, slots := 0, locals := 0 } (gk_Pre E [.ref a] M sz) (va_Qv (fun M' => gh_ch t M M' ∧ al_L E M' t a cap []) (gk_B E M sz) (gh_A M sz)) 0 0 (gh_A M sz) := by
  refine gk_met rfl (Nat.le_of_ble_eq_true rfl) ?_
  intro p e s m below meth c F hsz hP hK hZ ls hl
  subst hsz
  have hx := F.1
  have hb := F.2.1
  have hr := F.2.2.1
  have hml := F.2.2.2.1
  have hown : s.vm.findClass "java/util/ArrayList" = some m.cls := F.2.2.2.2.1
  have hlk := F.2.2.2.2.2.1
  have hnm := F.2.2.2.2.2.2.1
  have ht := fun (w : Cond) (h : w ∈ bw_L) => F.2.2.2.2.2.2.2 w (List.mem_cons_of_mem _ h)
  have hA : ∀ q, s.heap.size ≤ q → gh_A M s.heap.size q := fun q h => Or.inr h
  have hS : va_S (gh_A M s.heap.size) s.heap s.heap [] := va_S.rf
  have hl : lv_has ls 4 [(0, .ref a)] := hl
  obtain ⟨mk, el, ha, hD⟩ := h
  have hlen := hD.len
  refine lv_aload_n hx hb dc_AL_clear_0 rfl (lv_fd hl rfl) ?_
  refine lv_dup hx hb dc_AL_clear_1 rfl ?_
  refine gh_get hx hb ht nu_AL hown hK.1 hP ha rfl 0 (by decide) (ht _ ww_41) (fun x9 h9 => u_same (ht _ ww_42) x9 h9) rfl dc_AL_clear_2 ?_
  refine lv_iconst (v := nI 1) hx hb dc_AL_clear_5 (by decide) ?_
  refine lv_iadd hx hb dc_AL_clear_6 ?_
  refine gh_put (ty := .int) hx hb ht nu_AL nt_AL no_AL nn_AL hown hK.1 hP hS ha rfl 0 (by decide) (ht _ ww_41) (fun x9 h9 => u_same (ht _ ww_42) x9 h9) rfl (by decide +kernel) rfl rfl (Nat.le_of_ble_eq_true rfl) rfl dc_AL_clear_7 (fun H locs hP hS => ?_)
  have hD1 : al_D E (gh_up M a (t, .inr (0, [.int mk, .ref el, .int (nI xs.length)].set 0 (.int (mk + nI 1))))) t el cap xs := hD.ch (fun y hy => gh_up_at hy (Ne.symm (gh_neOA ha hy)))
  have ha1 : gh_up M a (t, .inr (0, [.int mk, .ref el, .int (nI xs.length)].set 0 (.int (mk + nI 1)))) a = some (t, .inr (0, [.int (mk + nI 1), .ref el, .int (nI xs.length)])) := gh_up_self _ _ _
  have hch1 := gh_ch.up (e' := .inr (0, [.int mk, .ref el, .int (nI xs.length)].set 0 (.int (mk + nI 1)))) ha
  generalize gh_up M a (t, .inr (0, [.int mk, .ref el, .int (nI xs.length)].set 0 (.int (mk + nI 1)))) = M1 at hD1 ha1 hch1 hP
  refine lv_aload_n hx hb dc_AL_clear_10 rfl (lv_fd hl rfl) ?_
  refine gh_get hx hb ht nu_AL hown hK.1 hP ha1 rfl 1 (by decide) (ht _ ww_38) (fun _ h9 => h9) rfl dc_AL_clear_11 ?_
  refine lv_astore_n hx hb dc_AL_clear_14 rfl hl (by decide) rfl (fun ls hl => ?_)
  refine lv_aload_n hx hb dc_AL_clear_15 rfl (lv_fd hl rfl) ?_
  refine gh_get hx hb ht nu_AL hown hK.1 hP ha1 rfl 2 (by decide) (ht _ ww_39) (fun _ h9 => h9) rfl dc_AL_clear_16 ?_
  refine lv_istore_n hx hb dc_AL_clear_19 rfl hl (by decide) rfl (fun ls hl => ?_)
  refine lv_aload_n hx hb dc_AL_clear_20 rfl (lv_fd hl rfl) ?_
  refine lv_iconst (v := nI 0) hx hb dc_AL_clear_21 (by decide) ?_
  refine lv_dup_x1 hx hb dc_AL_clear_22 rfl rfl ?_
  refine gh_put (ty := .int) hx hb ht nu_AL nt_AL no_AL nn_AL hown hK.1 hP hS ha1 rfl 2 (by decide) (ht _ ww_39) (fun _ h9 => h9) rfl (by decide +kernel) rfl rfl (Nat.le_of_ble_eq_true rfl) rfl dc_AL_clear_23 (fun H locs hP hS => ?_)
  refine lv_istore_n hx hb dc_AL_clear_26 rfl hl (by decide) rfl (fun ls hl => ?_)
  have hD2 : al_D E (gh_up M1 a (t, .inr (0, [.int (mk + nI 1), .ref el, .int (nI xs.length)].set 2 (.int (nI 0))))) t el cap xs := hD1.ch (fun y hy => gh_up_at hy (Ne.symm (gh_neOA ha1 hy)))
  have ha2 : gh_up M1 a (t, .inr (0, [.int (mk + nI 1), .ref el, .int (nI xs.length)].set 2 (.int (nI 0)))) a = some (t, .inr (0, [.int (mk + nI 1), .ref el, .int (nI 0)])) := gh_up_self _ _ _
  have hch2 := hch1.trans (gh_ch.up (e' := .inr (0, [.int (mk + nI 1), .ref el, .int (nI xs.length)].set 2 (.int (nI 0)))) ha1)
  generalize gh_up M1 a (t, .inr (0, [.int (mk + nI 1), .ref el, .int (nI xs.length)].set 2 (.int (nI 0)))) = M2 at hD2 ha2 hch2 hP
  have hl : lv_has ls 4 [(0, .ref a), (1, .ref el), (2, .int (nI xs.length)), (3, .int (nI 0))] := lv_sub hl [3, 2, 1, 0] rfl
  have loop : ∀ (d k : Nat) (M2 : gh_M) (H : Heap) (locs : List Loc) (ls : Array Slot), k + d = xs.length → lv_has ls 4 [(0, .ref a), (1, .ref el), (2, .int (nI xs.length)), (3, .int (nI k))] → gh_P E.1 cl_L (gh_A M s.heap.size) M2 H → va_S (gh_A M s.heap.size) s.heap H locs → M2 a = some (t, .inr (0, [.int (mk + nI 1), .ref el, .int (nI 0)])) → gh_ch t M M2 → ((el = E.2.2.1 ∧ cap = 0 ∧ xs = []) ∨ ∃ f : Nat → Option Nat, M2 el = some (t, .inl (E.2.1 2, cap, .inr (.inr (.inr (.inr f))))) ∧ 10 ≤ cap) →
      W p l e ({ frames := 0, cells := 0, slots := 0, locals := 0 } : Room) s m ([.ref a] : List Value).toArray below meth c H locs 0 0 (MQ below (va_Qv (fun M' => gh_ch t M M' ∧ al_L E M' t a cap []) (gk_B E M s.heap.size) (gh_A M s.heap.size)) ([.ref a] : List Value).toArray s 0 0 (gh_A M s.heap.size)) (F0 m 27 ls []) := by
    intro d
    induction d with
    | zero =>
      intro k M2 H locs ls hk hl hP hS ha2 hch2 hf2
      refine lv_iload_n hx hb dc_AL_clear_27 rfl (lv_fd hl rfl) ?_
      refine lv_iload_n hx hb dc_AL_clear_28 rfl (lv_fd hl rfl) ?_
      refine gn_ge (tgt := 42) hx hb (by omega) (by omega) dc_AL_clear_29 (by decide) (fun _ => ?_) (fun h => absurd h (by omega))
      refine gk_ev hx hb hr hlk hP hS dc_AL_clear_42 ⟨hch2, mk + nI 1, el, ha2, ?_⟩
      rcases hf2 with ⟨h1, h2, -⟩ | ⟨f, h1, h2⟩
      · exact Or.inl ⟨h1, h2, rfl⟩
      · exact Or.inr ⟨f, h1, h2, by omega, Nat.zero_le _, fun i hi => absurd hi (Nat.not_lt_zero _)⟩
    | succ d ih =>
      intro k M2 H locs ls hk hl hP hS ha2 hch2 hf2
      obtain ⟨f, hel, h10⟩ : ∃ f : Nat → Option Nat, M2 el = some (t, .inl (E.2.1 2, cap, .inr (.inr (.inr (.inr f))))) ∧ 10 ≤ cap := by
        rcases hf2 with ⟨-, -, h⟩ | h
        · rw [h] at hk
          have hk : k + (d + 1) = 0 := hk
          omega
        · exact h
      refine lv_iload_n hx hb dc_AL_clear_27 rfl (lv_fd hl rfl) ?_
      refine lv_iload_n hx hb dc_AL_clear_28 rfl (lv_fd hl rfl) ?_
      refine gn_ge (tgt := 42) hx hb (by omega) (by omega) dc_AL_clear_29 (by decide) (fun h => absurd h (by omega)) (fun _ => ?_)
      refine lv_aload_n hx hb dc_AL_clear_32 rfl (lv_fd hl rfl) ?_
      refine lv_iload_n hx hb dc_AL_clear_33 rfl (lv_fd hl rfl) ?_
      refine lv_null hx hb dc_AL_clear_34 ?_
      refine gh_aastN hx hb hK.1 hP hS 2 hel rfl rfl (by omega) (by omega) dc_AL_clear_35 (fun H locs hP hS => ?_)
      refine lv_iinc (k := 3) (v := nI (k + 1)) hx hb dc_AL_clear_36 hl rfl (gh_inc k) (by decide) rfl (fun ls hl => ?_)
      refine lv_goto (tgt := 27) hx hb dc_AL_clear_39 (by decide) ?_
      exact ih (k + 1) _ H locs ls (by omega) (lv_sub hl [1, 2, 3, 0] rfl) hP hS (gh_up_at ha2 (gh_neOA ha2 hel)) (hch2.trans (gh_ch.up hel)) (Or.inr ⟨_, gh_up_self _ _ _, h10⟩)
  refine loop xs.length 0 M2 H locs ls (by omega) hl hP hS ha2 hch2 ?_
  rcases hD2 with h | ⟨f, h1, h2, -⟩
  · exact Or.inl h
  · exact Or.inr ⟨f, h1, h2⟩
