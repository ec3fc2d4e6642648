theorem cp_lo {α : Type} {f g : Nat → α} {n i : Nat} (h : i < n) : va_cpy f g 0 0 n i = f i := by
  unfold va_cpy
  rw [if_pos (by omega), Nat.zero_add, Nat.sub_zero]
set_option maxHeartbeats 4000000 in
set_option maxRecDepth 100000 in
theorem ct_MO_grow (l : Launch) (E : gk_E) (M : gh_M) (sz : Nat) {h0 made : Nat} {G : rs_G} {ex : Nat → Bool} {hol w : Nat → Int32} {root : Nat → Option Nat} {row : Nat → List it_I} (h : rs_R E M h0 G made made ex hol w root row) (hm1 : 64 ≤ made) (hm2 : made ≤ 512) : Met l yn_MO_grow (.code yn_MO_grow cd_MO_grow 4 none :: bw_L) { frames := 2, cells := 5, slots := 5120, locals := 60 } (gk_Pre E [.ref h0] M sz) (va_Qv (fun M' => ∃ G' hol' w', rs_R E M' h0 G' made (2 * made) ex hol' w' root row) (gk_B E M sz) (gh_A M sz)) 5 5120 (gh_A M sz) := by
  refine gk_met rfl (Nat.le_of_ble_eq_true rfl) ?_
  intro p e s m below meth c F hsz hP hK hZ ls hl
  subst hsz
  have hx := F.1
  have hb := F.2.1
  have hr := F.2.2.1
  have hml := F.2.2.2.1
  have hown : s.vm.findClass "ThingHeapModel" = some m.cls := F.2.2.2.2.1
  have hlk := F.2.2.2.2.2.1
  have hnm := F.2.2.2.2.2.2.1
  have ht := fun (w : Cond) (h : w ∈ bw_L) => F.2.2.2.2.2.2.2 w (List.mem_cons_of_mem _ h)
  have hA : ∀ q, s.heap.size ≤ q → gh_A M s.heap.size q := fun q h => Or.inr h
  have hS : va_S (gh_A M s.heap.size) s.heap s.heap [] := va_S.rf
  have hl : lv_has ls 4 [(0, .ref h0)] := hl
  obtain ⟨fi, hfi, hfi2, hfi3⟩ := h.2.1
  obtain ⟨fm, hfm, hfm2⟩ := h.2.2.1
  obtain ⟨fe, hfe, hfe2⟩ := h.2.2.2.1
  obtain ⟨fr, hfr, hfr2⟩ := h.2.2.2.2.2.2.1
  have hhl := h.2.2.2.2.1
  have hwt := h.2.2.2.2.2.1
  have hrows := h.2.2.2.2.2.2.2.1
  obtain ⟨⟨kA, kB, jj1, jj2, jj3⟩, jj4⟩ := hK.2.2.1
  refine lv_iconst (v := nI 2) hx hb dc_MO_grow_0 (by decide) ?_
  refine lv_aload_n hx hb dc_MO_grow_1 rfl (lv_fd hl rfl) ?_
  refine gh_get hx hb ht nu_MO hown hK.1 hP h.1 rfl 5 (by decide) (ht _ ww_317) (fun _ h9 => h9) rfl dc_MO_grow_2 ?_
  refine lv_imul hx hb dc_MO_grow_5 ?_
  refine gh_topi (show nI 2 * nI made = nI (2 * made) from (Int32.ofNat_mul 2 made).symm) ?_
  refine lv_istore_n hx hb dc_MO_grow_6 rfl hl (by decide) rfl (fun ls hl => ?_)
  refine lv_iload_n hx hb dc_MO_grow_7 rfl (lv_fd hl rfl) ?_
  refine gh_newA 2 (t := .long) hx hb hown (ht _ ww_307) hK.2.1 hP hS hA hK.2.2.1.2 rfl (by omega) (by omega) (Nat.le_of_ble_eq_true rfl) (by show 0 + 2 * made ≤ 5120; omega) dc_MO_grow_8 (fun q0 H hn_q0 hP hS => ?_)
  refine lv_astore_n hx hb dc_MO_grow_11 rfl hl (by decide) rfl (fun ls hl => ?_)
  refine lv_iconst (v := nI 0) hx hb dc_MO_grow_12 (by decide) ?_
  refine lv_istore_n hx hb dc_MO_grow_13 rfl hl (by decide) rfl (fun ls hl => ?_)
  refine W.widen (k := 1) (n := 1024) (by omega) (by omega) ?_
  have loop : ∀ (d k : Nat) (M2 : gh_M) (H : Heap) (locs : List Loc) (ls : Array Slot), k + d = made → lv_has ls 4 [(3, .int (nI k)), (2, .ref q0), (1, .int (nI (2 * made))), (0, .ref h0)] → gh_P E.1 cl_L (gh_A M s.heap.size) M2 H → va_S (gh_A M s.heap.size) s.heap H locs → (∀ b y, M b = some y → M2 b = some y) → M2 q0 = some (2, .inl (E.2.1 4, 2 * made, .inr (.inr (.inr (.inr (fun i => if i < k then some (G.1 i) else none)))))) →
      W p l e ({ frames := 2, cells := 5, slots := 5120, locals := 60 } : Room) s m ([.ref h0] : List Value).toArray below meth c H locs 1 1024 (MQ below (va_Qv (fun M' => ∃ G' hol' w', rs_R E M' h0 G' made (2 * made) ex hol' w' root row) (gk_B E M s.heap.size) (gh_A M s.heap.size)) ([.ref h0] : List Value).toArray s 5 5120 (gh_A M s.heap.size)) (F0 m 14 ls []) := by
    intro d
    induction d with
    | zero =>
      intro k M2 H locs ls hkd hl hP hS hex0 hq0
      have hkm : k = made := by omega
      rw [hkm] at hl hq0
      refine lv_iload_n hx hb dc_MO_grow_14 rfl (lv_fd hl rfl) ?_
      refine lv_aload_n hx hb dc_MO_grow_15 rfl (lv_fd hl rfl) ?_
      refine gh_get hx hb ht nu_MO hown hK.1 hP (hex0 _ _ h.1) rfl 5 (by decide) (ht _ ww_317) (fun _ h9 => h9) rfl dc_MO_grow_16 ?_
      refine gn_ge (tgt := 37) hx hb (by omega) (by omega) dc_MO_grow_19 (by decide) (fun _ => ?_) (fun q => absurd q (by omega))
      refine lv_aload_n hx hb dc_MO_grow_37 rfl (lv_fd hl rfl) ?_
      refine lv_aload_n hx hb dc_MO_grow_38 rfl (lv_fd hl rfl) ?_
      refine gh_put (ty := .array (.array .long)) hx hb ht nu_MO nt_MO no_MO nn_MO hown hK.1 hP hS (hex0 _ _ h.1) rfl 0 (by decide) (ht _ ww_312) (fun _ h9 => h9) rfl (by decide +kernel) rfl rfl (Nat.le_of_ble_eq_true rfl) rfl dc_MO_grow_39 (fun H locs hP hS => ?_)
      have hne0 : h0 ≠ q0 := gh_ne0 h.1 hn_q0
      refine gh_at0 (a := h0) (x := (1, .inr (4, [.ref q0, .ref G.2.2.1, .ref G.2.2.2.1, .ref G.2.2.2.2.1, .ref G.2.2.2.2.2.1, .int (nI made), .int (nI ((List.range made).filter ex).length), .ref G.2.2.2.2.2.2]))) hP (fun M0 ho0 ha0 hP => ?_) rfl
      have k0 : ∀ b y, b ≠ h0 → M b = some y → M0 b = some y := fun b y hb hy => (ho0 b hb).trans (hex0 b y hy)
      have hq0 := (ho0 q0 (Ne.symm hne0)).trans hq0
      have he1 := k0 _ _ (gh_ne hfm h.1 (fun q => by cases q)) hfm
      refine lv_aload_n hx hb dc_MO_grow_42 rfl (lv_fd hl rfl) ?_
      refine lv_aload_n hx hb dc_MO_grow_43 rfl (lv_fd hl rfl) ?_
      refine gh_get hx hb ht nu_MO hown hK.1 hP ha0 rfl 1 (by decide) (ht _ ww_313) (fun _ h9 => h9) rfl dc_MO_grow_44 ?_
      refine lv_iload_n hx hb dc_MO_grow_47 rfl (lv_fd hl rfl) ?_
      refine gk_cq (gk_rS F (As := [.ref G.2.2.1, .int (nI (2 * made))]) (rest := [.ref h0]) (ct_AR_copyOfI l E _ _ 3 he1 (n2 := 2 * made) (by omega) (by omega)) ww_349 ww_350 ww_6 ww_351 rfl rfl ⟨by decide, by decide, by show _ = some 2; decide +kernel⟩ ⟨Nat.le_of_ble_eq_true rfl, Nat.le_of_ble_eq_true rfl⟩ hK hZ hP hS hA hl.1 rfl (Nat.le_of_ble_eq_true rfl) dc_MO_grow_48 ⟨by show 1 + 1 ≤ 5; omega, by show 1024 + 2 * made ≤ 5120; omega⟩) hP hS hA (fun r N1 H locs hN1 hP hS => ?_)
      obtain ⟨q1, rfl, hn_q1, hO1, hQ1⟩ := hN1
      have hne1 : h0 ≠ q1 := gh_ne0 ha0 hn_q1
      have hb1 := (hO1 h0 hne1).trans ha0
      refine W.widen (k := 2) (n := 2048) (by omega) (by omega) ?_
      refine gh_put (ty := .array .int) hx hb ht nu_MO nt_MO no_MO nn_MO hown hK.1 hP hS hb1 rfl 1 (by decide) (ht _ ww_313) (fun _ h9 => h9) rfl (by decide +kernel) rfl rfl (Nat.le_of_ble_eq_true rfl) rfl dc_MO_grow_51 (fun H locs hP hS => ?_)
      refine gh_at0 (a := h0) (x := (1, .inr (4, [.ref q0, .ref q1, .ref G.2.2.2.1, .ref G.2.2.2.2.1, .ref G.2.2.2.2.2.1, .int (nI made), .int (nI ((List.range made).filter ex).length), .ref G.2.2.2.2.2.2]))) hP (fun M1 ho1 ha1 hP => ?_) rfl
      have s1 : ∀ b y, b ≠ h0 → M0 b = some y → M1 b = some y := fun b y hb hy => (ho1 b hb).trans ((hO1 b (gh_ne0 hy hn_q1)).trans hy)
      have k1 : ∀ b y, b ≠ h0 → M b = some y → M1 b = some y := fun b y hb hy => s1 b y hb (k0 b y hb hy)
      have hq1 := (ho1 q1 (Ne.symm hne1)).trans hQ1
      have hq0 := s1 _ _ (Ne.symm hne0) hq0
      have he2 := k1 _ _ (gh_ne hfe h.1 (fun q => by cases q)) hfe
      refine lv_aload_n hx hb dc_MO_grow_54 rfl (lv_fd hl rfl) ?_
      refine lv_aload_n hx hb dc_MO_grow_55 rfl (lv_fd hl rfl) ?_
      refine gh_get hx hb ht nu_MO hown hK.1 hP ha1 rfl 2 (by decide) (ht _ ww_314) (fun _ h9 => h9) rfl dc_MO_grow_56 ?_
      refine lv_iload_n hx hb dc_MO_grow_59 rfl (lv_fd hl rfl) ?_
      refine gk_cq (gk_rS F (As := [.ref G.2.2.2.1, .int (nI (2 * made))]) (rest := [.ref h0]) (ct_AR_copyOfI l E _ _ 4 he2 (n2 := 2 * made) (by omega) (by omega)) ww_349 ww_350 ww_6 ww_351 rfl rfl ⟨by decide, by decide, by show _ = some 2; decide +kernel⟩ ⟨Nat.le_of_ble_eq_true rfl, Nat.le_of_ble_eq_true rfl⟩ hK hZ hP hS hA hl.1 rfl (Nat.le_of_ble_eq_true rfl) dc_MO_grow_60 ⟨by show 2 + 1 ≤ 5; omega, by show 2048 + 2 * made ≤ 5120; omega⟩) hP hS hA (fun r N2 H locs hN2 hP hS => ?_)
      obtain ⟨q2, rfl, hn_q2, hO2, hQ2⟩ := hN2
      have hne2 : h0 ≠ q2 := gh_ne0 ha1 hn_q2
      have hb2 := (hO2 h0 hne2).trans ha1
      refine W.widen (k := 3) (n := 3072) (by omega) (by omega) ?_
      refine gh_put (ty := .array .int) hx hb ht nu_MO nt_MO no_MO nn_MO hown hK.1 hP hS hb2 rfl 2 (by decide) (ht _ ww_314) (fun _ h9 => h9) rfl (by decide +kernel) rfl rfl (Nat.le_of_ble_eq_true rfl) rfl dc_MO_grow_63 (fun H locs hP hS => ?_)
      refine gh_at0 (a := h0) (x := (1, .inr (4, [.ref q0, .ref q1, .ref q2, .ref G.2.2.2.2.1, .ref G.2.2.2.2.2.1, .int (nI made), .int (nI ((List.range made).filter ex).length), .ref G.2.2.2.2.2.2]))) hP (fun M2 ho2 ha2 hP => ?_) rfl
      have s2 : ∀ b y, b ≠ h0 → M1 b = some y → M2 b = some y := fun b y hb hy => (ho2 b hb).trans ((hO2 b (gh_ne0 hy hn_q2)).trans hy)
      have k2 : ∀ b y, b ≠ h0 → M b = some y → M2 b = some y := fun b y hb hy => s2 b y hb (k1 b y hb hy)
      have hq2 := (ho2 q2 (Ne.symm hne2)).trans hQ2
      have hq0 := s2 _ _ (Ne.symm hne0) hq0
      have hq1 := s2 _ _ (Ne.symm hne1) hq1
      have he3 := k2 _ _ (gh_ne hhl h.1 (fun q => by cases q)) hhl
      refine lv_aload_n hx hb dc_MO_grow_66 rfl (lv_fd hl rfl) ?_
      refine lv_aload_n hx hb dc_MO_grow_67 rfl (lv_fd hl rfl) ?_
      refine gh_get hx hb ht nu_MO hown hK.1 hP ha2 rfl 3 (by decide) (ht _ ww_315) (fun _ h9 => h9) rfl dc_MO_grow_68 ?_
      refine lv_iload_n hx hb dc_MO_grow_71 rfl (lv_fd hl rfl) ?_
      refine gk_cq (gk_rS F (As := [.ref G.2.2.2.2.1, .int (nI (2 * made))]) (rest := [.ref h0]) (ct_AR_copyOfI l E _ _ 5 he3 (n2 := 2 * made) (by omega) (by omega)) ww_349 ww_350 ww_6 ww_351 rfl rfl ⟨by decide, by decide, by show _ = some 2; decide +kernel⟩ ⟨Nat.le_of_ble_eq_true rfl, Nat.le_of_ble_eq_true rfl⟩ hK hZ hP hS hA hl.1 rfl (Nat.le_of_ble_eq_true rfl) dc_MO_grow_72 ⟨by show 3 + 1 ≤ 5; omega, by show 3072 + 2 * made ≤ 5120; omega⟩) hP hS hA (fun r N3 H locs hN3 hP hS => ?_)
      obtain ⟨q3, rfl, hn_q3, hO3, hQ3⟩ := hN3
      have hne3 : h0 ≠ q3 := gh_ne0 ha2 hn_q3
      have hb3 := (hO3 h0 hne3).trans ha2
      refine W.widen (k := 4) (n := 4096) (by omega) (by omega) ?_
      refine gh_put (ty := .array .int) hx hb ht nu_MO nt_MO no_MO nn_MO hown hK.1 hP hS hb3 rfl 3 (by decide) (ht _ ww_315) (fun _ h9 => h9) rfl (by decide +kernel) rfl rfl (Nat.le_of_ble_eq_true rfl) rfl dc_MO_grow_75 (fun H locs hP hS => ?_)
      refine gh_at0 (a := h0) (x := (1, .inr (4, [.ref q0, .ref q1, .ref q2, .ref q3, .ref G.2.2.2.2.2.1, .int (nI made), .int (nI ((List.range made).filter ex).length), .ref G.2.2.2.2.2.2]))) hP (fun M3 ho3 ha3 hP => ?_) rfl
      have s3 : ∀ b y, b ≠ h0 → M2 b = some y → M3 b = some y := fun b y hb hy => (ho3 b hb).trans ((hO3 b (gh_ne0 hy hn_q3)).trans hy)
      have k3 : ∀ b y, b ≠ h0 → M b = some y → M3 b = some y := fun b y hb hy => s3 b y hb (k2 b y hb hy)
      have hq3 := (ho3 q3 (Ne.symm hne3)).trans hQ3
      have hq0 := s3 _ _ (Ne.symm hne0) hq0
      have hq1 := s3 _ _ (Ne.symm hne1) hq1
      have hq2 := s3 _ _ (Ne.symm hne2) hq2
      have he4 := k3 _ _ (gh_ne hwt h.1 (fun q => by cases q)) hwt
      refine lv_aload_n hx hb dc_MO_grow_78 rfl (lv_fd hl rfl) ?_
      refine lv_aload_n hx hb dc_MO_grow_79 rfl (lv_fd hl rfl) ?_
      refine gh_get hx hb ht nu_MO hown hK.1 hP ha3 rfl 4 (by decide) (ht _ ww_316) (fun _ h9 => h9) rfl dc_MO_grow_80 ?_
      refine lv_iload_n hx hb dc_MO_grow_83 rfl (lv_fd hl rfl) ?_
      refine gk_cq (gk_rS F (As := [.ref G.2.2.2.2.2.1, .int (nI (2 * made))]) (rest := [.ref h0]) (ct_AR_copyOfI l E _ _ 6 he4 (n2 := 2 * made) (by omega) (by omega)) ww_349 ww_350 ww_6 ww_351 rfl rfl ⟨by decide, by decide, by show _ = some 2; decide +kernel⟩ ⟨Nat.le_of_ble_eq_true rfl, Nat.le_of_ble_eq_true rfl⟩ hK hZ hP hS hA hl.1 rfl (Nat.le_of_ble_eq_true rfl) dc_MO_grow_84 ⟨by show 4 + 1 ≤ 5; omega, by show 4096 + 2 * made ≤ 5120; omega⟩) hP hS hA (fun r N4 H locs hN4 hP hS => ?_)
      obtain ⟨q4, rfl, hn_q4, hO4, hQ4⟩ := hN4
      have hne4 : h0 ≠ q4 := gh_ne0 ha3 hn_q4
      have hb4 := (hO4 h0 hne4).trans ha3
      refine W.widen (k := 5) (n := 5120) (by omega) (by omega) ?_
      refine gh_put (ty := .array .int) hx hb ht nu_MO nt_MO no_MO nn_MO hown hK.1 hP hS hb4 rfl 4 (by decide) (ht _ ww_316) (fun _ h9 => h9) rfl (by decide +kernel) rfl rfl (Nat.le_of_ble_eq_true rfl) rfl dc_MO_grow_87 (fun H locs hP hS => ?_)
      refine gh_at0 (a := h0) (x := (1, .inr (4, [.ref q0, .ref q1, .ref q2, .ref q3, .ref q4, .int (nI made), .int (nI ((List.range made).filter ex).length), .ref G.2.2.2.2.2.2]))) hP (fun M4 ho4 ha4 hP => ?_) rfl
      have s4 : ∀ b y, b ≠ h0 → M3 b = some y → M4 b = some y := fun b y hb hy => (ho4 b hb).trans ((hO4 b (gh_ne0 hy hn_q4)).trans hy)
      have k4 : ∀ b y, b ≠ h0 → M b = some y → M4 b = some y := fun b y hb hy => s4 b y hb (k3 b y hb hy)
      have hq4 := (ho4 q4 (Ne.symm hne4)).trans hQ4
      have hq0 := s4 _ _ (Ne.symm hne0) hq0
      have hq1 := s4 _ _ (Ne.symm hne1) hq1
      have hq2 := s4 _ _ (Ne.symm hne2) hq2
      have hq3 := s4 _ _ (Ne.symm hne3) hq3
      refine W.widen (k := 5) (n := 5120) (by omega) (by omega) ?_
      refine gk_ev hx hb hr hlk hP hS dc_MO_grow_90 ⟨(G.1, q0, q1, q2, q3, q4, G.2.2.2.2.2.2), _, _, ha4, ⟨_, hq0, fun n hn => if_pos hn, fun n hn _ => if_neg (by omega)⟩, ⟨_, hq1, fun n hn => by rw [cp_lo hn]; exact hfm2 n hn⟩, ⟨_, hq2, fun n hn => by rw [cp_lo hn]; exact hfe2 n hn⟩, hq3, hq4, ⟨fr, k4 _ _ (gh_ne hfr h.1 (fun q => by cases q)) hfr, hfr2⟩, fun n hn => ?_, h.2.2.2.2.2.2.2.2.1, h.2.2.2.2.2.2.2.2.2.1, by omega, by omega, by omega⟩
      obtain ⟨c9, fl, r1, r2⟩ := hrows n hn
      exact ⟨c9, fl, k4 _ _ (gh_ne r1 h.1 (fun q => by have := (Prod.mk.inj q).1; omega)) r1, r2⟩
    | succ d ih =>
      intro k M2 H locs ls hkd hl hP hS hex0 hq0
      have hkm : k < made := by omega
      obtain ⟨c9, fl, r1, r2⟩ := hrows k hkm
      refine lv_iload_n hx hb dc_MO_grow_14 rfl (lv_fd hl rfl) ?_
      refine lv_aload_n hx hb dc_MO_grow_15 rfl (lv_fd hl rfl) ?_
      refine gh_get hx hb ht nu_MO hown hK.1 hP (hex0 _ _ h.1) rfl 5 (by decide) (ht _ ww_317) (fun _ h9 => h9) rfl dc_MO_grow_16 ?_
      refine gn_ge (tgt := 37) hx hb (by omega) (by omega) dc_MO_grow_19 (by decide) (fun q => absurd q (by omega)) (fun _ => ?_)
      refine lv_aload_n hx hb dc_MO_grow_22 rfl (lv_fd hl rfl) ?_
      refine lv_iload_n hx hb dc_MO_grow_23 rfl (lv_fd hl rfl) ?_
      refine lv_aload_n hx hb dc_MO_grow_24 rfl (lv_fd hl rfl) ?_
      refine gh_get hx hb ht nu_MO hown hK.1 hP (hex0 _ _ h.1) rfl 0 (by decide) (ht _ ww_312) (fun _ h9 => h9) rfl dc_MO_grow_25 ?_
      refine lv_iload_n hx hb dc_MO_grow_28 rfl (lv_fd hl rfl) ?_
      refine gh_aald (v := .ref (G.1 k)) hx hb hK.1 hP 4 (hex0 _ _ hfi) rfl rfl rfl (show k < made by omega) (by omega) (by rw [hfi2 k hkm]; rfl) dc_MO_grow_29 ?_
      refine gh_aastA hx hb hP hS jj1 jj2 jj3 hq0 (hex0 _ _ r1) rfl (show k < 2 * made by omega) (by omega) dc_MO_grow_30 (fun H locs hP hS => ?_)
      refine lv_iinc (k := 0) (v := nI (k + 1)) hx hb dc_MO_grow_31 hl rfl (gh_inc k) (by decide) rfl (fun ls hl => ?_)
      refine lv_goto (tgt := 14) hx hb dc_MO_grow_34 (by decide) ?_
      refine ih (k + 1) _ H locs ls (by omega) hl hP hS (fun b y hy => gh_up_at (hex0 b y hy) (gh_ne0 hy hn_q0)) ?_
      rw [gh_up_self]
      congr 9
      funext i
      by_cases e1 : i = k
      · subst e1
        rw [va_up_self, if_pos (by omega)]
      · rw [va_up_ne _ _ e1]
        by_cases e2 : i < k
        · rw [if_pos e2, if_pos (by omega)]
        · rw [if_neg e2, if_neg (by omega)]
  exact loop made 0 _ H _ ls (by omega) hl hP hS (fun b y hy => gh_up_at hy (gh_ne0 hy hn_q0)) (by rw [gh_up_self]; congr 9)
