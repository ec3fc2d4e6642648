theorem gh_atc {D : va_G} {cl : List vw_C} {A : Nat → Prop} {M : gh_M} {H : Heap} {a t : Nat} {e e' x : va_E} {C : Prop} (hM : M a = some (t, e)) (hP : gh_P D cl A (gh_up M a (t, e')) H) (hx : e' = x) (k : ∀ M2 : gh_M, gh_ch t M M2 → M2 a = some (t, x) → gh_P D cl A M2 H → C) : C := k _ (gh_ch.up hM) (by rw [gh_up_self, hx]) hP
set_option maxHeartbeats 4000000 in
set_option maxRecDepth 100000 in
theorem ct_MO_init (l : Launch) (E : gk_E) (M : gh_M) (sz : Nat) {a : Nat} {v0 v1 v2 v3 v4 v7 : Value} (ha : M a = some (1, .inr (4, [v0, v1, v2, v3, v4, .int 0, .int 0, v7]))) : Met l yn_MO_init (.code yn_MO_init cd_MO_init 1 none :: bw_L) { frames := 2, cells := 6, slots := 336, locals := 60 } (gk_Pre E [.ref a] M sz) (va_Qv (fun M' => rs_V E M' a vv_0) (gk_B E M sz) (gh_A M sz)) 6 336 (gh_A M sz) := by
  refine gk_met rfl (Nat.le_of_ble_eq_true rfl) ?_
  intro p e s m below meth c F hsz hP hK hZ ls hl
  subst hsz
  have hx := F.1
  have hb := F.2.1
  have hr := F.2.2.1
  have hml := F.2.2.2.1
  have hown : s.vm.findClass "ThingHeapModel" = some m.cls := F.2.2.2.2.1
  have hlk := F.2.2.2.2.2.1
  have hnm := F.2.2.2.2.2.2.1
  have ht := fun (w : Cond) (h : w ∈ bw_L) => F.2.2.2.2.2.2.2 w (List.mem_cons_of_mem _ h)
  have hA : ∀ q, s.heap.size ≤ q → gh_A M s.heap.size q := fun q h => Or.inr h
  have hS : va_S (gh_A M s.heap.size) s.heap s.heap [] := va_S.rf
  have hl : lv_has ls 1 [(0, .ref a)] := hl
  refine lv_aload_n hx hb dc_MO_init_0 rfl (lv_fd hl rfl) ?_
  refine W.objInit hx hb hown (ht _ ww_306) (ht _ ww_20) (ht _ ww_21) rfl (by rw [hml]; exact hl.1) rfl dc_MO_init_1 (Nat.le_of_ble_eq_true rfl) (Nat.le_of_ble_eq_true rfl) ?_
  refine W.eq (g2 := F0 m 4 ls []) rfl ?_
  refine lv_aload_n hx hb dc_MO_init_4 rfl (lv_fd hl rfl) ?_
  refine lv_bipush (v := nI 64) hx hb dc_MO_init_5 (by decide) ?_
  refine gh_newA 2 (t := .long) hx hb hown (ht _ ww_307) hK.2.1 hP hS hA hK.2.2.1.2 rfl (by decide) (by decide) (Nat.le_of_ble_eq_true rfl) (Nat.le_of_ble_eq_true rfl) dc_MO_init_7 (fun q0 H hn_q0 hP hS => ?_)
  have hne0 : a ≠ q0 := gh_ne0 ha hn_q0
  refine gh_put (ty := .array (.array .long)) hx hb ht nu_MO nt_MO no_MO nn_MO hown hK.1 hP hS (gh_up_at ha hne0) rfl 0 (by decide) (ht _ ww_312) (fun _ h9 => h9) rfl (by decide +kernel) rfl rfl (Nat.le_of_ble_eq_true rfl) rfl dc_MO_init_10 (fun H locs hP hS => ?_)
  refine gh_at0 (a := a) (x := (1, .inr (4, [.ref q0, v1, v2, v3, v4, .int 0, .int 0, v7]))) hP (fun N0 ho0 ha0 hP => ?_) rfl
  have s0 : ∀ b y, b ≠ a → M b = some y → N0 b = some y := fun b y hb hy => (ho0 b hb).trans (gh_up_at hy (gh_ne0 hy hn_q0))
  have hq0 := (ho0 q0 (Ne.symm hne0)).trans (gh_up_self _ _ _)
  refine lv_aload_n hx hb dc_MO_init_13 rfl (lv_fd hl rfl) ?_
  refine lv_bipush (v := nI 64) hx hb dc_MO_init_14 (by decide) ?_
  refine gh_newa 3 (atype := .int) (a0 := (64, .inl (fun _ => 0))) hx hb (ht _ ww_337) rfl hK.1 hP hS hA 0 rfl (fun h => h) (fun cA => rfl) rfl (by decide) (by decide) (Nat.le_of_ble_eq_true rfl) (Nat.le_of_ble_eq_true rfl) dc_MO_init_16 (fun q1 H hn_q1 hP hS => ?_)
  have hne1 : a ≠ q1 := gh_ne0 ha0 hn_q1
  refine gh_put (ty := .array .int) hx hb ht nu_MO nt_MO no_MO nn_MO hown hK.1 hP hS (gh_up_at ha0 hne1) rfl 1 (by decide) (ht _ ww_313) (fun _ h9 => h9) rfl (by decide +kernel) rfl rfl (Nat.le_of_ble_eq_true rfl) rfl dc_MO_init_18 (fun H locs hP hS => ?_)
  refine gh_at0 (a := a) (x := (1, .inr (4, [.ref q0, .ref q1, v2, v3, v4, .int 0, .int 0, v7]))) hP (fun N1 ho1 ha1 hP => ?_) rfl
  have s1 : ∀ b y, b ≠ a → N0 b = some y → N1 b = some y := fun b y hb hy => (ho1 b hb).trans (gh_up_at hy (gh_ne0 hy hn_q1))
  have hq1 := (ho1 q1 (Ne.symm hne1)).trans (gh_up_self _ _ _)
  have hq0 := s1 _ _ (Ne.symm hne0) hq0
  refine lv_aload_n hx hb dc_MO_init_21 rfl (lv_fd hl rfl) ?_
  refine lv_bipush (v := nI 64) hx hb dc_MO_init_22 (by decide) ?_
  refine gh_newa 4 (atype := .int) (a0 := (64, .inl (fun _ => 0))) hx hb (ht _ ww_337) rfl hK.1 hP hS hA 0 rfl (fun h => h) (fun cA => rfl) rfl (by decide) (by decide) (Nat.le_of_ble_eq_true rfl) (Nat.le_of_ble_eq_true rfl) dc_MO_init_24 (fun q2 H hn_q2 hP hS => ?_)
  have hne2 : a ≠ q2 := gh_ne0 ha1 hn_q2
  refine gh_put (ty := .array .int) hx hb ht nu_MO nt_MO no_MO nn_MO hown hK.1 hP hS (gh_up_at ha1 hne2) rfl 2 (by decide) (ht _ ww_314) (fun _ h9 => h9) rfl (by decide +kernel) rfl rfl (Nat.le_of_ble_eq_true rfl) rfl dc_MO_init_26 (fun H locs hP hS => ?_)
  refine gh_at0 (a := a) (x := (1, .inr (4, [.ref q0, .ref q1, .ref q2, v3, v4, .int 0, .int 0, v7]))) hP (fun N2 ho2 ha2 hP => ?_) rfl
  have s2 : ∀ b y, b ≠ a → N1 b = some y → N2 b = some y := fun b y hb hy => (ho2 b hb).trans (gh_up_at hy (gh_ne0 hy hn_q2))
  have hq2 := (ho2 q2 (Ne.symm hne2)).trans (gh_up_self _ _ _)
  have hq0 := s2 _ _ (Ne.symm hne0) hq0
  have hq1 := s2 _ _ (Ne.symm hne1) hq1
  refine lv_aload_n hx hb dc_MO_init_29 rfl (lv_fd hl rfl) ?_
  refine lv_bipush (v := nI 64) hx hb dc_MO_init_30 (by decide) ?_
  refine gh_newa 5 (atype := .int) (a0 := (64, .inl (fun _ => 0))) hx hb (ht _ ww_337) rfl hK.1 hP hS hA 0 rfl (fun h => h) (fun cA => rfl) rfl (by decide) (by decide) (Nat.le_of_ble_eq_true rfl) (Nat.le_of_ble_eq_true rfl) dc_MO_init_32 (fun q3 H hn_q3 hP hS => ?_)
  have hne3 : a ≠ q3 := gh_ne0 ha2 hn_q3
  refine gh_put (ty := .array .int) hx hb ht nu_MO nt_MO no_MO nn_MO hown hK.1 hP hS (gh_up_at ha2 hne3) rfl 3 (by decide) (ht _ ww_315) (fun _ h9 => h9) rfl (by decide +kernel) rfl rfl (Nat.le_of_ble_eq_true rfl) rfl dc_MO_init_34 (fun H locs hP hS => ?_)
  refine gh_at0 (a := a) (x := (1, .inr (4, [.ref q0, .ref q1, .ref q2, .ref q3, v4, .int 0, .int 0, v7]))) hP (fun N3 ho3 ha3 hP => ?_) rfl
  have s3 : ∀ b y, b ≠ a → N2 b = some y → N3 b = some y := fun b y hb hy => (ho3 b hb).trans (gh_up_at hy (gh_ne0 hy hn_q3))
  have hq3 := (ho3 q3 (Ne.symm hne3)).trans (gh_up_self _ _ _)
  have hq0 := s3 _ _ (Ne.symm hne0) hq0
  have hq1 := s3 _ _ (Ne.symm hne1) hq1
  have hq2 := s3 _ _ (Ne.symm hne2) hq2
  refine lv_aload_n hx hb dc_MO_init_37 rfl (lv_fd hl rfl) ?_
  refine lv_bipush (v := nI 64) hx hb dc_MO_init_38 (by decide) ?_
  refine gh_newa 6 (atype := .int) (a0 := (64, .inl (fun _ => 0))) hx hb (ht _ ww_337) rfl hK.1 hP hS hA 0 rfl (fun h => h) (fun cA => rfl) rfl (by decide) (by decide) (Nat.le_of_ble_eq_true rfl) (Nat.le_of_ble_eq_true rfl) dc_MO_init_40 (fun q4 H hn_q4 hP hS => ?_)
  have hne4 : a ≠ q4 := gh_ne0 ha3 hn_q4
  refine gh_put (ty := .array .int) hx hb ht nu_MO nt_MO no_MO nn_MO hown hK.1 hP hS (gh_up_at ha3 hne4) rfl 4 (by decide) (ht _ ww_316) (fun _ h9 => h9) rfl (by decide +kernel) rfl rfl (Nat.le_of_ble_eq_true rfl) rfl dc_MO_init_42 (fun H locs hP hS => ?_)
  refine gh_at0 (a := a) (x := (1, .inr (4, [.ref q0, .ref q1, .ref q2, .ref q3, .ref q4, .int 0, .int 0, v7]))) hP (fun N4 ho4 ha4 hP => ?_) rfl
  have s4 : ∀ b y, b ≠ a → N3 b = some y → N4 b = some y := fun b y hb hy => (ho4 b hb).trans (gh_up_at hy (gh_ne0 hy hn_q4))
  have hq4 := (ho4 q4 (Ne.symm hne4)).trans (gh_up_self _ _ _)
  have hq0 := s4 _ _ (Ne.symm hne0) hq0
  have hq1 := s4 _ _ (Ne.symm hne1) hq1
  have hq2 := s4 _ _ (Ne.symm hne2) hq2
  have hq3 := s4 _ _ (Ne.symm hne3) hq3
  refine lv_aload_n hx hb dc_MO_init_45 rfl (lv_fd hl rfl) ?_
  refine lv_bipush (v := nI 16) hx hb dc_MO_init_46 (by decide) ?_
  refine gh_newa 7 (atype := .int) (a0 := (16, .inl (fun _ => 0))) hx hb (ht _ ww_337) rfl hK.1 hP hS hA 0 rfl (fun h => h) (fun cA => rfl) rfl (by decide) (by decide) (Nat.le_of_ble_eq_true rfl) (Nat.le_of_ble_eq_true rfl) dc_MO_init_48 (fun q5 H hn_q5 hP hS => ?_)
  have hne5 : a ≠ q5 := gh_ne0 ha4 hn_q5
  refine gh_putF (ty := .array .int) hx hb ht nu_MO nt_MO no_MO nn_MO hown hK.1 hP hS (gh_up_at ha4 hne5) rfl 7 (by decide) (ht _ ww_319) (fun _ h9 => h9) rfl hnm rfl (by decide +kernel) rfl rfl (Nat.le_of_ble_eq_true rfl) rfl dc_MO_init_50 (fun H locs hP hS => ?_)
  refine gh_at0 (a := a) (x := (1, .inr (4, [.ref q0, .ref q1, .ref q2, .ref q3, .ref q4, .int 0, .int 0, .ref q5]))) hP (fun N5 ho5 ha5 hP => ?_) rfl
  have s5 : ∀ b y, b ≠ a → N4 b = some y → N5 b = some y := fun b y hb hy => (ho5 b hb).trans (gh_up_at hy (gh_ne0 hy hn_q5))
  have hq5 := (ho5 q5 (Ne.symm hne5)).trans (gh_up_self _ _ _)
  have hq0 := s5 _ _ (Ne.symm hne0) hq0
  have hq1 := s5 _ _ (Ne.symm hne1) hq1
  have hq2 := s5 _ _ (Ne.symm hne2) hq2
  have hq3 := s5 _ _ (Ne.symm hne3) hq3
  have hq4 := s5 _ _ (Ne.symm hne4) hq4
  refine lv_aload_n hx hb dc_MO_init_53 rfl (lv_fd hl rfl) ?_
  refine gh_get hx hb ht nu_MO hown hK.1 hP ha5 rfl 7 (by decide) (ht _ ww_319) (fun _ h9 => h9) rfl dc_MO_init_54 ?_
  refine lv_iconst (v := (-1)) hx hb dc_MO_init_57 (by decide) ?_
  refine gk_cv (gk_rS F (As := [.ref q5, .int (-1)]) (rest := []) (ct_AR_fill2 l E _ _ hq5 (by decide) (-1)) ww_309 ww_310 ww_6 ww_311 rfl rfl ⟨by decide, by decide, by show _ = some 2; decide +kernel⟩ ⟨Nat.le_of_ble_eq_true rfl, Nat.le_of_ble_eq_true rfl⟩ hK hZ hP hS hA hl.1 rfl (Nat.le_of_ble_eq_true rfl) dc_MO_init_58 ⟨Nat.le_of_ble_eq_true rfl, Nat.le_of_ble_eq_true rfl⟩) hP hS hA (fun M9 H locs h9 hP hS => ?_)
  refine W.widen (k := 6) (n := 336) (Nat.le_of_ble_eq_true rfl) (Nat.le_of_ble_eq_true rfl) ?_
  have ha9 := (h9.2 a hne5).trans ha5
  have n0 : q0 ≠ q5 := gh_ne hq0 hq5 (fun q => by cases q)
  have n1 : q1 ≠ q5 := gh_ne hq1 hq5 (fun q => by cases q)
  have n2 : q2 ≠ q5 := gh_ne hq2 hq5 (fun q => by cases q)
  have n3 : q3 ≠ q5 := gh_ne hq3 hq5 (fun q => by cases q)
  have n4 : q4 ≠ q5 := gh_ne hq4 hq5 (fun q => by cases q)
  exact gk_ev hx hb hr hlk hP hS dc_MO_init_61 ⟨(fun _ => 0, q0, q1, q2, q3, q4, q5), 64, fun _ => false, fun _ => 0, fun _ => 0, fun _ => [], ⟨ha9, ⟨_, (h9.2 _ n0).trans hq0, fun n hn => absurd hn (Nat.not_lt_zero n), fun n _ _ => rfl⟩, ⟨_, (h9.2 _ n1).trans hq1, fun n hn => absurd hn (Nat.not_lt_zero n)⟩, ⟨_, (h9.2 _ n2).trans hq2, fun n hn => absurd hn (Nat.not_lt_zero n)⟩, (h9.2 _ n3).trans hq3, (h9.2 _ n4).trans hq4, ⟨_, h9.1, fun r hr => if_pos hr⟩, fun n hn => absurd hn (Nat.not_lt_zero n), fun r _ n hn => (by cases hn), fun n hn => absurd hn (Nat.not_lt_zero n), by decide, by decide, by decide⟩, rfl, fun n hn => (by cases hn)⟩
set_option maxHeartbeats 4000000 in
set_option maxRecDepth 100000 in
theorem ct_MO_make (l : Launch) (E : gk_E) (M : gh_M) (sz : Nat) {h0 N : Nat} {V : vv_V} (hV : rs_V E M h0 V) (hI : vv_I N V) (hN : N < 512) (k : Int32) : Met l yn_MO_make (.code yn_MO_make cd_MO_make 2 (some FieldType.int) :: bw_L) { frames := 4, cells := 6, slots := 5124, locals := 120 } (gk_Pre E [.ref h0, .int k] M sz) (va_Qi (fun r M' => r = (vq_make V k).1 ∧ rs_V E M' h0 (vq_make V k).2) (gk_B E M sz) (gh_A M sz)) 6 5124 (gh_A M sz) := by
  refine gk_met rfl (Nat.le_of_ble_eq_true rfl) ?_
  intro p e s m below meth c F hsz hP hK hZ ls hl
  subst hsz
  have hx := F.1
  have hb := F.2.1
  have hr := F.2.2.1
  have hml := F.2.2.2.1
  have hown : s.vm.findClass "ThingHeapModel" = some m.cls := F.2.2.2.2.1
  have hlk := F.2.2.2.2.2.1
  have hnm := F.2.2.2.2.2.2.1
  have ht := fun (w : Cond) (h : w ∈ bw_L) => F.2.2.2.2.2.2.2 w (List.mem_cons_of_mem _ h)
  have hA : ∀ q, s.heap.size ≤ q → gh_A M s.heap.size q := fun q h => Or.inr h
  have hS : va_S (gh_A M s.heap.size) s.heap s.heap [] := va_S.rf
  have hl : lv_has ls 2 [(0, .ref h0), (1, .int k)] := hl
  have hV0 := hV
  obtain ⟨G, cap, ex, hol, w, row, h, hT, hag⟩ := hV
  have hcb := h.2.2.2.2.2.2.2.2.2.2
  have hTl := vv_len hI
  have hmN := hI.2.2.2.2
  have hTm : ∀ k ∈ V.2.1, k < 2 ^ 31 := fun k hk => by have := hI.2.2.1 k hk; omega
  have hin : ∀ n, n ∈ V.2.1 ↔ n < V.1 ∧ ex n = true := fun n => by rw [← hT, List.mem_filter, List.mem_range]
  obtain ⟨made, T, root, vrow⟩ := V
  have hV0 : rs_V E M h0 (made, T, root, vrow) := hV0
  have h : rs_R E M h0 G made cap ex hol w root row := h
  have hT : (List.range made).filter ex = T := hT
  have hag : ∀ n ∈ T, row n = vrow n := hag
  have hTl : T.length ≤ made := hTl
  have hmN : made ≤ N := hmN
  have hcb : made ≤ cap ∧ 64 ≤ cap ∧ cap ≤ 1024 := hcb
  have hk0 : made ∉ T := fun q => Nat.lt_irrefl _ (hI.2.2.1 _ q)
  have hvr : vrow made = [] := hI.1.2.2.2.1 made hk0
  refine lv_iload_n hx hb dc_MO_make_0 rfl (lv_fd hl rfl) ?_
  refine lv_iconst (v := nI 0) hx hb dc_MO_make_1 (by decide) ?_
  refine lv_bipush (v := nI 15) hx hb dc_MO_make_2 (by decide) ?_
  refine gk_si (gk_rS F (As := [.int k, .int (nI 0), .int (nI 15)]) (rest := []) (ct_MO_in l E M _ k (n := 16) (by decide) (by omega)) ww_342 ww_343 ww_5 ww_344 rfl rfl ⟨by decide, by decide, by show _ = some 3; decide +kernel⟩ ⟨Nat.le_of_ble_eq_true rfl, Nat.le_of_ble_eq_true rfl⟩ hK hZ hP hS hA hl.1 rfl (Nat.le_of_ble_eq_true rfl) dc_MO_make_4 ⟨Nat.le_of_ble_eq_true rfl, Nat.le_of_ble_eq_true rfl⟩) (fun r hr1 => ?_)
  rcases hr1 with ⟨rfl, j, hj, rfl⟩ | ⟨rfl, hno⟩
  rotate_left
  · have ee : vq_make (made, T, root, vrow) k = (-1, (made, T, root, vrow)) := by unfold vq_make; rw [sf_rn hno]
    refine lv_if_ne (tgt := 12) hx hb dc_MO_make_7 (by decide) (fun q => absurd rfl q) (fun _ => ?_)
    refine lv_iconst (v := (-1)) hx hb dc_MO_make_10 (by decide) ?_
    refine W.widen (k := 6) (n := 5124) (Nat.le_of_ble_eq_true rfl) (Nat.le_of_ble_eq_true rfl) ?_
    exact gk_ei hx hb hr hlk hP hS dc_MO_make_11 ⟨by rw [ee], by rw [ee]; exact hV0⟩
  have ee : vq_make (made, T, root, vrow) (nI j) = (nI made, vv_set (made + 1, T ++ [made], va_up root j (some made), vrow)) := by unfold vq_make; rw [sf_rg (by decide) hj rfl]
  refine lv_if_ne (tgt := 12) hx hb dc_MO_make_7 (by decide) (fun _ => ?_) (fun q => absurd q (by decide))
  have tail : ∀ (G2 : rs_G) (cap2 : Nat) (hol2 w2 : Nat → Int32) (M2 : gh_M) (H : Heap) (locs : List Loc), gh_P E.1 cl_L (gh_A M s.heap.size) M2 H → va_S (gh_A M s.heap.size) s.heap H locs → rs_R E M2 h0 G2 made cap2 ex hol2 w2 root row → made < cap2 →
      W p l e ({ frames := 4, cells := 6, slots := 5124, locals := 120 } : Room) s m ([.ref h0, .int (nI j)] : List Value).toArray below meth c H locs 5 5120 (MQ below (va_Qi (fun r M' => r = (vq_make (made, T, root, vrow) (nI j)).1 ∧ rs_V E M' h0 (vq_make (made, T, root, vrow) (nI j)).2) (gk_B E M s.heap.size) (gh_A M s.heap.size)) ([.ref h0, .int (nI j)] : List Value).toArray s 6 5124 (gh_A M s.heap.size)) (F0 m 41 ls []) := by
    intro G2 cap2 hol2 w2 M2 H locs hP hS h2 hlt
    have hcb2 := h2.2.2.2.2.2.2.2.2.2.2
    obtain ⟨fi, hfi, hfi2, hfi3⟩ := h2.2.1
    obtain ⟨fm, hfm, hfm2⟩ := h2.2.2.1
    obtain ⟨fe, hfe, hfe2⟩ := h2.2.2.2.1
    obtain ⟨fr, hfr, hfr2⟩ := h2.2.2.2.2.2.2.1
    obtain ⟨⟨kA, kB, jj1, jj2, jj3⟩, jj4⟩ := hK.2.2.1
    refine lv_aload_n hx hb dc_MO_make_41 rfl (lv_fd hl rfl) ?_
    refine gh_get hx hb ht nu_MO hown hK.1 hP h2.1 rfl 0 (by decide) (ht _ ww_312) (fun _ h9 => h9) rfl dc_MO_make_42 ?_
    refine lv_aload_n hx hb dc_MO_make_45 rfl (lv_fd hl rfl) ?_
    refine gh_get hx hb ht nu_MO hown hK.1 hP h2.1 rfl 5 (by decide) (ht _ ww_317) (fun _ h9 => h9) rfl dc_MO_make_46 ?_
    refine gh_aald (v := .null) hx hb hK.1 hP 4 hfi rfl rfl rfl hlt (by omega) (by rw [hfi3 made (Nat.le_refl _) hlt]; rfl) dc_MO_make_49 ?_
    refine lv_ifnonnullN hx hb dc_MO_make_50 ?_
    refine lv_aload_n hx hb dc_MO_make_53 rfl (lv_fd hl rfl) ?_
    refine gh_get hx hb ht nu_MO hown hK.1 hP h2.1 rfl 0 (by decide) (ht _ ww_312) (fun _ h9 => h9) rfl dc_MO_make_54 ?_
    refine lv_aload_n hx hb dc_MO_make_57 rfl (lv_fd hl rfl) ?_
    refine gh_get hx hb ht nu_MO hown hK.1 hP h2.1 rfl 5 (by decide) (ht _ ww_317) (fun _ h9 => h9) rfl dc_MO_make_58 ?_
    refine lv_iconst (v := nI 4) hx hb dc_MO_make_61 (by decide) ?_
    refine gh_newa (8 + made) (atype := .long) (a0 := (4, .inr (.inl (fun _ => 0)))) hx hb (ht _ ww_382) rfl hK.1 hP hS hA 1 rfl (fun h => h) (fun cA => rfl) rfl (by decide) (by decide) (Nat.le_of_ble_eq_true rfl) (Nat.le_of_ble_eq_true rfl) dc_MO_make_62 (fun q H hn_q hP hS => ?_)
    have hex3 : ∀ b y, M2 b = some y → gh_up M2 q (8 + made, .inl (E.2.1 1, 4, .inr (.inl (fun _ => 0)))) b = some y := fun b y hy => gh_up_at hy (gh_ne0 hy hn_q)
    have hq3 : gh_up M2 q (8 + made, .inl (E.2.1 1, 4, .inr (.inl (fun _ => 0)))) q = _ := gh_up_self _ _ _
    generalize gh_up M2 q (8 + made, .inl (E.2.1 1, 4, .inr (.inl (fun _ => 0)))) = M3 at hex3 hq3 hP
    refine gh_aastA hx hb hP hS jj1 jj2 jj3 (hex3 _ _ hfi) hq3 rfl hlt (by omega) dc_MO_make_64 (fun H locs hP hS => ?_)
    refine gh_atc (hex3 _ _ hfi) hP rfl (fun M4 c4 hi4 hP => ?_)
    have hh4 := c4.keep (hex3 _ _ h2.1) (by omega)
    have hm4 := c4.keep (hex3 _ _ hfm) (by omega)
    refine lv_aload_n hx hb dc_MO_make_65 rfl (lv_fd hl rfl) ?_
    refine gh_get hx hb ht nu_MO hown hK.1 hP hh4 rfl 1 (by decide) (ht _ ww_313) (fun _ h9 => h9) rfl dc_MO_make_66 ?_
    refine lv_aload_n hx hb dc_MO_make_69 rfl (lv_fd hl rfl) ?_
    refine gh_get hx hb ht nu_MO hown hK.1 hP hh4 rfl 5 (by decide) (ht _ ww_317) (fun _ h9 => h9) rfl dc_MO_make_70 ?_
    refine lv_iconst (v := nI 0) hx hb dc_MO_make_73 (by decide) ?_
    refine gm_iast hx hb hK.1 hP hS 0 hm4 rfl rfl hlt (by omega) dc_MO_make_74 (fun H locs hP hS => ?_)
    refine gh_atc hm4 hP rfl (fun M5 c5 hm5 hP => ?_)
    have hh5 := c5.keep hh4 (by omega)
    have he5 := c5.keep (c4.keep (hex3 _ _ hfe) (by omega)) (by omega)
    refine lv_aload_n hx hb dc_MO_make_75 rfl (lv_fd hl rfl) ?_
    refine gh_get hx hb ht nu_MO hown hK.1 hP hh5 rfl 2 (by decide) (ht _ ww_314) (fun _ h9 => h9) rfl dc_MO_make_76 ?_
    refine lv_aload_n hx hb dc_MO_make_79 rfl (lv_fd hl rfl) ?_
    refine gh_get hx hb ht nu_MO hown hK.1 hP hh5 rfl 5 (by decide) (ht _ ww_317) (fun _ h9 => h9) rfl dc_MO_make_80 ?_
    refine lv_iconst (v := nI 1) hx hb dc_MO_make_83 (by decide) ?_
    refine gm_iast hx hb hK.1 hP hS 0 he5 rfl rfl hlt (by omega) dc_MO_make_84 (fun H locs hP hS => ?_)
    refine gh_atc he5 hP rfl (fun M6 c6 he6 hP => ?_)
    have hh6 := c6.keep hh5 (by omega)
    refine lv_aload_n hx hb dc_MO_make_85 rfl (lv_fd hl rfl) ?_
    refine lv_dup hx hb dc_MO_make_86 rfl ?_
    refine gh_get hx hb ht nu_MO hown hK.1 hP hh6 rfl 6 (by decide) (ht _ ww_318) (fun _ h9 => h9) rfl dc_MO_make_87 ?_
    refine lv_iconst (v := nI 1) hx hb dc_MO_make_90 (by decide) ?_
    refine lv_iadd hx hb dc_MO_make_91 ?_
    refine gh_topi (nI_add ((List.range made).filter ex).length 1) ?_
    refine gh_put (ty := .int) hx hb ht nu_MO nt_MO no_MO nn_MO hown hK.1 hP hS hh6 rfl 6 (by decide) (ht _ ww_318) (fun _ h9 => h9) rfl (by decide +kernel) rfl rfl (Nat.le_of_ble_eq_true rfl) rfl dc_MO_make_92 (fun H locs hP hS => ?_)
    refine gh_atc (x := .inr (4, [.ref G2.2.1, .ref G2.2.2.1, .ref G2.2.2.2.1, .ref G2.2.2.2.2.1, .ref G2.2.2.2.2.2.1, .int (nI made), .int (nI (((List.range made).filter ex).length + 1)), .ref G2.2.2.2.2.2.2])) hh6 hP rfl (fun M7 c7 hh7 hP => ?_)
    have hr7 := c7.keep (c6.keep (c5.keep (c4.keep (hex3 _ _ hfr) (by omega)) (by omega)) (by omega)) (by omega)
    refine lv_aload_n hx hb dc_MO_make_95 rfl (lv_fd hl rfl) ?_
    refine gh_get hx hb ht nu_MO hown hK.1 hP hh7 rfl 7 (by decide) (ht _ ww_319) (fun _ h9 => h9) rfl dc_MO_make_96 ?_
    refine lv_iload_n hx hb dc_MO_make_99 rfl (lv_fd hl rfl) ?_
    refine lv_aload_n hx hb dc_MO_make_100 rfl (lv_fd hl rfl) ?_
    refine gh_get hx hb ht nu_MO hown hK.1 hP hh7 rfl 5 (by decide) (ht _ ww_317) (fun _ h9 => h9) rfl dc_MO_make_101 ?_
    refine gm_iast hx hb hK.1 hP hS 0 hr7 rfl rfl hj (by omega) dc_MO_make_104 (fun H locs hP hS => ?_)
    refine gh_atc hr7 hP rfl (fun M8 c8 hr8 hP => ?_)
    have hh8 := c8.keep hh7 (by omega)
    refine lv_aload_n hx hb dc_MO_make_105 rfl (lv_fd hl rfl) ?_
    refine lv_dup hx hb dc_MO_make_106 rfl ?_
    refine gh_get hx hb ht nu_MO hown hK.1 hP hh8 rfl 5 (by decide) (ht _ ww_317) (fun _ h9 => h9) rfl dc_MO_make_107 ?_
    refine lv_iconst (v := nI 1) hx hb dc_MO_make_110 (by decide) ?_
    refine lv_iadd hx hb dc_MO_make_111 ?_
    refine gh_topi (nI_add made 1) ?_
    refine gh_put (ty := .int) hx hb ht nu_MO nt_MO no_MO nn_MO hown hK.1 hP hS hh8 rfl 5 (by decide) (ht _ ww_317) (fun _ h9 => h9) rfl (by decide +kernel) rfl rfl (Nat.le_of_ble_eq_true rfl) rfl dc_MO_make_112 (fun H locs hP hS => ?_)
    refine gh_atc (x := .inr (4, [.ref G2.2.1, .ref G2.2.2.1, .ref G2.2.2.2.1, .ref G2.2.2.2.2.1, .ref G2.2.2.2.2.2.1, .int (nI (made + 1)), .int (nI (((List.range made).filter ex).length + 1)), .ref G2.2.2.2.2.2.2])) hh8 hP rfl (fun M9 c9 hh9 hP => ?_)
    have hk9 : ∀ b t y, M2 b = some (t, y) → t = 5 ∨ t = 6 ∨ 8 ≤ t → M9 b = some (t, y) := fun b t y hy ht9 => c9.keep (c8.keep (c7.keep (c6.keep (c5.keep (c4.keep (hex3 _ _ hy) (by omega)) (by omega)) (by omega)) (by omega)) (by omega)) (by omega)
    have hq9 := c9.keep (c8.keep (c7.keep (c6.keep (c5.keep (c4.keep hq3 (by omega)) (by omega)) (by omega)) (by omega)) (by omega)) (by omega)
    have hi9 := c9.keep (c8.keep (c7.keep (c6.keep (c5.keep hi4 (by omega)) (by omega)) (by omega)) (by omega)) (by omega)
    have hm9 := c9.keep (c8.keep (c7.keep (c6.keep hm5 (by omega)) (by omega)) (by omega)) (by omega)
    have he9 := c9.keep (c8.keep (c7.keep he6 (by omega)) (by omega)) (by omega)
    have hr9 := c9.keep hr8 (by omega)
    have h9 := h2.more (r := j) (root' := va_up root j (some made)) hlt hk9 hh9
      ⟨_, hi9, fun n hn => by rw [va_up_ne _ _ (by omega)]; exact hfi2 n hn, va_up_self _ _ _, fun n h1 h3 => by rw [va_up_ne _ _ (by omega)]; exact hfi3 n (by omega) h3⟩
      ⟨_, hm9, fun n hn => by rw [va_up_ne _ _ (by omega)]; exact hfm2 n hn, va_up_self _ _ _⟩
      ⟨_, he9, fun n hn => by rw [va_up_ne _ _ (by omega)]; exact hfe2 n hn, va_up_self _ _ _⟩
      ⟨_, hr9, fun r hr => by
        by_cases e1 : r = j
        · subst e1
          rw [va_up_self, va_up_self]
          rfl
        · rw [va_up_ne _ _ e1, va_up_ne _ _ e1]
          exact hfr2 r hr⟩
      (fun r hr n hn => by
        by_cases e1 : r = j
        · subst e1
          rw [va_up_self] at hn
          rw [← Option.some.inj hn]
          exact Nat.lt_succ_self _
        · rw [va_up_ne _ _ e1] at hn
          exact Nat.lt_succ_of_lt (h2.2.2.2.2.2.2.2.2.1 r hr n hn))
      ⟨4, _, hq9, by decide, by decide, by decide, by decide, fun i x hi => by cases hi⟩
    have hT9 : (List.range (made + 1)).filter (va_up ex made true) = T ++ [made] := by
      rw [List.range_succ, List.filter_append, ← hT, List.filter_congr (q := ex) (fun n hn => va_up_ne ex true (by have := List.mem_range.mp hn; omega))]
      congr 1
      simp [va_up_self]
    have hag9 : ∀ n ∈ T ++ [made], va_up row made [] n = vrow n := by
      intro n hn
      by_cases e1 : n = made
      · subst e1
        rw [va_up_self, hvr]
      · rw [va_up_ne _ _ e1]
        rcases List.mem_append.mp hn with g | g
        · exact hag n g
        · exact absurd (List.mem_singleton.mp g) e1
    obtain ⟨p1, p2⟩ := st_pre (root := va_up root j (some made)) hT9 hag9 (fun m hm n hn => by
      rcases List.mem_append.mp hm with g | g
      · exact List.mem_append_left _ (hI.1.2.2.1 m g n hn)
      · rw [List.mem_singleton.mp g, hvr] at hn
        cases hn) hI.2.2.2.1 (by rw [List.length_append, List.length_singleton]; omega)
    refine lv_aload_n hx hb dc_MO_make_115 rfl (lv_fd hl rfl) ?_
    refine gk_cv (gk_rV F (b := h0) (As := []) (rest := []) (ct_MO_settle l E _ _ h9 p1 p2) ww_359 ww_361 ws_MO_settle ww_5 ww_362 rfl rfl ⟨by decide, by decide, by show _ = some 0; decide +kernel⟩ ⟨Nat.le_of_ble_eq_true rfl, Nat.le_of_ble_eq_true rfl⟩ (gh_recv hK.1 hP h9.1 rfl) hK hZ hP hS hA hl.1 rfl (Nat.le_of_ble_eq_true rfl) dc_MO_make_116 ⟨Nat.le_of_ble_eq_true rfl, Nat.le_of_ble_eq_true rfl⟩) hP hS hA (fun M10 H locs h10 hP hS => ?_)
    obtain ⟨ex', hol', w', h10, hT2⟩ := h10
    rw [hT9] at hT2
    have hV2 := rs_V_of h10 hT2 hag9
    refine lv_aload_n hx hb dc_MO_make_119 rfl (lv_fd hl rfl) ?_
    refine gh_get hx hb ht nu_MO hown hK.1 hP h10.1 rfl 5 (by decide) (ht _ ww_317) (fun _ h9 => h9) rfl dc_MO_make_120 ?_
    refine lv_iconst (v := nI 1) hx hb dc_MO_make_123 (by decide) ?_
    refine lv_isub hx hb dc_MO_make_124 ?_
    refine gh_topi (show nI (made + 1) - nI 1 = nI made from nI_pred made) ?_
    refine W.widen (k := 6) (n := 5124) (Nat.le_of_ble_eq_true rfl) (Nat.le_of_ble_eq_true rfl) ?_
    exact gk_ei hx hb hr hlk hP hS dc_MO_make_125 ⟨by rw [ee], by rw [ee]; exact hV2⟩
  obtain ⟨fm, hfm, hfm2⟩ := h.2.2.1
  have hfl : ((List.range made).filter ex).length = T.length := by rw [hT]
  refine lv_aload_n hx hb dc_MO_make_12 rfl (lv_fd hl rfl) ?_
  refine gh_get hx hb ht nu_MO hown hK.1 hP h.1 rfl 6 (by decide) (ht _ ww_318) (fun _ h9 => h9) rfl dc_MO_make_13 ?_
  refine lv_sipush (v := nI 1500) hx hb dc_MO_make_16 (by decide) ?_
  refine gn_ne (tgt := 25) hx hb (by omega) (by decide) dc_MO_make_19 (by decide) (fun _ => ?_) (fun q => absurd q (by omega))
  refine lv_aload_n hx hb dc_MO_make_25 rfl (lv_fd hl rfl) ?_
  refine gh_get hx hb ht nu_MO hown hK.1 hP h.1 rfl 5 (by decide) (ht _ ww_317) (fun _ h9 => h9) rfl dc_MO_make_26 ?_
  refine lv_aload_n hx hb dc_MO_make_29 rfl (lv_fd hl rfl) ?_
  refine gh_get hx hb ht nu_MO hown hK.1 hP h.1 rfl 1 (by decide) (ht _ ww_313) (fun _ h9 => h9) rfl dc_MO_make_30 ?_
  refine gh_alen hx hb hK.1 hP 0 hfm rfl rfl dc_MO_make_33 ?_
  refine gn_ne (tgt := 41) hx hb (by omega) (by omega) dc_MO_make_34 (by decide) (fun hne => ?_) (fun heq => ?_)
  · refine W.widen (k := 5) (n := 5120) (Nat.le_of_ble_eq_true rfl) (Nat.le_of_ble_eq_true rfl) ?_
    exact tail G cap hol w M s.heap [] hP hS h (by omega)
  · have heq : made = cap := heq
    rw [← heq] at h
    refine lv_aload_n hx hb dc_MO_make_37 rfl (lv_fd hl rfl) ?_
    refine gk_cv (gk_rV F (b := h0) (As := []) (rest := []) (ct_MO_grow l E _ _ h (by omega) (by omega)) ww_345 ww_347 ws_MO_grow ww_5 ww_348 rfl rfl ⟨by decide, by decide, by show _ = some 0; decide +kernel⟩ ⟨Nat.le_of_ble_eq_true rfl, Nat.le_of_ble_eq_true rfl⟩ (gh_recv hK.1 hP h.1 rfl) hK hZ hP hS hA hl.1 rfl (Nat.le_of_ble_eq_true rfl) dc_MO_make_38 ⟨Nat.le_of_ble_eq_true rfl, Nat.le_of_ble_eq_true rfl⟩) hP hS hA (fun M1 H locs h1 hP hS => ?_)
    obtain ⟨G', hol', w', h1⟩ := h1
    refine W.widen (k := 5) (n := 5120) (Nat.le_of_ble_eq_true rfl) (Nat.le_of_ble_eq_true rfl) ?_
    exact tail G' (2 * made) hol' w' M1 H locs hP hS h1 (by omega)
