set_option maxHeartbeats 4000000 in
set_option maxRecDepth 100000 in
theorem ct_MO_add (l : Launch) (E : gk_E) (M : gh_M) (sz : Nat) {h0 made cap : Nat} {G : rs_G} {ex : Nat → Bool} {hol w : Nat → Int32} {root : Nat → Option Nat} {row : Nat → List it_I} (h : rs_R E M h0 G made cap ex hol w root row) {o : Nat} (ho : o < made) (x : it_I) (hx0 : ∀ n, x.1 = some n → n < made) : Met l yn_MO_add (.code yn_MO_add cd_MO_add 4 (some FieldType.int) :: bw_L) { frames := 2, cells := 1, slots := 600, locals := 60 } (gk_Pre E [.ref h0, .int (nI o), .long (it_L x)] M sz) (va_Qi (fun r M' => (300 ≤ (row o).length ∧ r = -3 ∧ rs_R E M' h0 G made cap ex hol w root row) ∨ ((row o).length < 300 ∧ r = nI ((row o).length + 1) ∧ ∃ G', rs_R E M' h0 G' made cap ex hol w root (va_up row o (row o ++ [x])))) (gk_B E M sz) (gh_A M sz)) 1 600 (gh_A M sz) := by
  refine gk_met rfl (Nat.le_of_ble_eq_true rfl) ?_
  intro p e s m below meth c F hsz hP hK hZ ls hl
  subst hsz
  have hx := F.1
  have hb := F.2.1
  have hr := F.2.2.1
  have hml := F.2.2.2.1
  have hown : s.vm.findClass "ThingHeapModel" = some m.cls := F.2.2.2.2.1
  have hlk := F.2.2.2.2.2.1
  have hnm := F.2.2.2.2.2.2.1
  have ht := fun (w : Cond) (h : w ∈ bw_L) => F.2.2.2.2.2.2.2 w (List.mem_cons_of_mem _ h)
  have hA : ∀ q, s.heap.size ≤ q → gh_A M s.heap.size q := fun q h => Or.inr h
  have hS : va_S (gh_A M s.heap.size) s.heap s.heap [] := va_S.rf
  have hl : lv_has ls 4 [(0, .ref h0), (1, .int (nI o)), (2, .long (it_L x))] := hl
  have hcb := h.2.2.2.2.2.2.2.2.2.2
  have tail : ∀ (G2 : rs_G) (M2 : gh_M) (H : Heap) (locs : List Loc), (row o).length < 300 → gh_P E.1 cl_L (gh_A M s.heap.size) M2 H → va_S (gh_A M s.heap.size) s.heap H locs → rs_R E M2 h0 G2 made cap ex hol w root row → (∃ c fl, M2 (G2.1 o) = some (8 + o, .inl (E.2.1 1, c, .inr (.inl fl))) ∧ (row o).length < c ∧ c ≤ 600 ∧ 4 ≤ c ∧ ∀ (i : Nat) (x : it_I), (row o)[i]? = some x → fl i = it_L x) →
      W p l e ({ frames := 2, cells := 1, slots := 600, locals := 60 } : Room) s m ([.ref h0, .int (nI o), .long (it_L x)] : List Value).toArray below meth c H locs 1 600 (MQ below (va_Qi (fun r M' => (300 ≤ (row o).length ∧ r = -3 ∧ rs_R E M' h0 G made cap ex hol w root row) ∨ ((row o).length < 300 ∧ r = nI ((row o).length + 1) ∧ ∃ G', rs_R E M' h0 G' made cap ex hol w root (va_up row o (row o ++ [x])))) (gk_B E M s.heap.size) (gh_A M s.heap.size)) ([.ref h0, .int (nI o), .long (it_L x)] : List Value).toArray s 1 600 (gh_A M s.heap.size)) (F0 m 54 ls []) := by
    intro G2 M2 H locs hl3 hP hS h2 hrow
    obtain ⟨c9, fl, hrw, hc1, hc2, hc3, hfl⟩ := hrow
    obtain ⟨fi, hfi, hfi2, -⟩ := h2.2.1
    obtain ⟨fm, hfm, hfm2⟩ := h2.2.2.1
    have k1 := gh_ch.up (e' := .inl (E.2.1 1, c9, .inr (.inl (va_up fl (row o).length (it_L x))))) hrw
    have hh1 := k1.keep h2.1 (by omega)
    have hfm1 := k1.keep hfm (by omega)
    have hrw1 : gh_up M2 (G2.1 o) (8 + o, .inl (E.2.1 1, c9, .inr (.inl (va_up fl (row o).length (it_L x))))) (G2.1 o) = _ := gh_up_self _ _ _
    refine lv_aload_n hx hb dc_MO_add_54 rfl (lv_fd hl rfl) ?_
    refine gh_get hx hb ht nu_MO hown hK.1 hP h2.1 rfl 0 (by decide) (ht _ ww_312) (fun _ h9 => h9) rfl dc_MO_add_55 ?_
    refine lv_iload_n hx hb dc_MO_add_58 rfl (lv_fd hl rfl) ?_
    refine gh_aald (v := .ref (G2.1 o)) hx hb hK.1 hP 4 hfi rfl rfl rfl (show o < cap by omega) (by omega) (by rw [hfi2 o ho]; rfl) dc_MO_add_59 ?_
    refine lv_aload_n hx hb dc_MO_add_60 rfl (lv_fd hl rfl) ?_
    refine gh_get hx hb ht nu_MO hown hK.1 hP h2.1 rfl 1 (by decide) (ht _ ww_313) (fun _ h9 => h9) rfl dc_MO_add_61 ?_
    refine lv_iload_n hx hb dc_MO_add_64 rfl (lv_fd hl rfl) ?_
    refine gh_iald hx hb hK.1 hP 0 hfm rfl rfl (show o < cap by omega) (by omega) (hfm2 o ho) dc_MO_add_65 ?_
    refine lv_lload_n hx hb dc_MO_add_66 rfl (lv_fd hl rfl) ?_
    refine gm_last hx hb hK.1 hP hS 1 hrw rfl rfl hc1 (by omega) dc_MO_add_67 (fun H locs hP hS => ?_)
    generalize gh_up M2 (G2.1 o) (8 + o, .inl (E.2.1 1, c9, .inr (.inl (va_up fl (row o).length (it_L x))))) = M3 at k1 hh1 hfm1 hrw1 hP
    have k2 := gh_ch.up (e' := .inl (E.2.1 0, cap, .inl (va_up fm o (nI ((row o).length + 1))))) hfm1
    have hh2 := k2.keep hh1 (by omega)
    have hrw2 := k2.keep hrw1 (by omega)
    have hfm3 : gh_up M3 G2.2.2.1 (3, .inl (E.2.1 0, cap, .inl (va_up fm o (nI ((row o).length + 1))))) G2.2.2.1 = _ := gh_up_self _ _ _
    refine lv_aload_n hx hb dc_MO_add_68 rfl (lv_fd hl rfl) ?_
    refine gh_get hx hb ht nu_MO hown hK.1 hP hh1 rfl 1 (by decide) (ht _ ww_313) (fun _ h9 => h9) rfl dc_MO_add_69 ?_
    refine lv_iload_n hx hb dc_MO_add_72 rfl (lv_fd hl rfl) ?_
    refine lv_dup2_11 hx hb dc_MO_add_73 rfl rfl ?_
    refine gh_iald hx hb hK.1 hP 0 hfm1 rfl rfl (show o < cap by omega) (by omega) (hfm2 o ho) dc_MO_add_74 ?_
    refine lv_iconst (v := nI 1) hx hb dc_MO_add_75 (by decide) ?_
    refine lv_iadd hx hb dc_MO_add_76 ?_
    refine gh_topi (nI_add (row o).length 1) ?_
    refine gm_iast hx hb hK.1 hP hS 0 hfm1 rfl rfl (show o < cap by omega) (by omega) dc_MO_add_77 (fun H locs hP hS => ?_)
    generalize gh_up M3 G2.2.2.1 (3, .inl (E.2.1 0, cap, .inl (va_up fm o (nI ((row o).length + 1))))) = M4 at k2 hh2 hrw2 hfm3 hP
    refine lv_aload_n hx hb dc_MO_add_78 rfl (lv_fd hl rfl) ?_
    refine gh_get hx hb ht nu_MO hown hK.1 hP hh2 rfl 1 (by decide) (ht _ ww_313) (fun _ h9 => h9) rfl dc_MO_add_79 ?_
    refine lv_iload_n hx hb dc_MO_add_82 rfl (lv_fd hl rfl) ?_
    refine gh_iald hx hb hK.1 hP 0 hfm3 rfl rfl (show o < cap by omega) (by omega) (va_up_self _ _ _) dc_MO_add_83 ?_
    refine gk_ei hx hb hr hlk hP hS dc_MO_add_84 (Or.inr ⟨hl3, rfl, G2, ?_⟩)
    have hle : (row o ++ [x]).length = (row o).length + 1 := by rw [List.length_append]; rfl
    refine h2.setRow (fun b t y hy h3 h8 => k2.keep (k1.keep hy h8) h3) ⟨_, hfm3, by rw [va_up_self, hle], fun k hk1 hk2 => by rw [va_up_ne _ _ hk1]; exact hfm2 k hk2⟩ ⟨c9, _, hrw2, hc3, hc2, by omega, by omega, fun i y hi => ?_⟩ (fun y hy n hn => ?_)
    · by_cases hin : i < (row o).length
      · rw [List.getElem?_append_left hin] at hi
        rw [va_up_ne _ _ (by omega)]
        exact hfl i y hi
      · rw [List.getElem?_append_right (by omega)] at hi
        have hi0 : i - (row o).length < 1 := (List.getElem?_eq_some_iff.mp hi).1
        have hi1 : i = (row o).length := by omega
        subst hi1
        rw [Nat.sub_self] at hi
        cases hi
        exact va_up_self _ _ _
    · rcases List.mem_append.mp hy with g | g
      · exact h.2.2.2.2.2.2.2.2.2.1 o ho y g n hn
      · rw [List.mem_singleton.mp g] at hn
        exact hx0 n hn
  obtain ⟨fi, hfi, hfi2, hfi3⟩ := h.2.1
  obtain ⟨fm, hfm, hfm2⟩ := h.2.2.1
  obtain ⟨c9, fl, hrw, hc4, hc6, hrl, hr3, hfl⟩ := h.2.2.2.2.2.2.2.1 o ho
  refine lv_aload_n hx hb dc_MO_add_0 rfl (lv_fd hl rfl) ?_
  refine gh_get hx hb ht nu_MO hown hK.1 hP h.1 rfl 1 (by decide) (ht _ ww_313) (fun _ h9 => h9) rfl dc_MO_add_1 ?_
  refine lv_iload_n hx hb dc_MO_add_4 rfl (lv_fd hl rfl) ?_
  refine gh_iald hx hb hK.1 hP 0 hfm rfl rfl (show o < cap by omega) (by omega) (hfm2 o ho) dc_MO_add_5 ?_
  refine lv_sipush (v := nI 300) hx hb dc_MO_add_6 (by decide) ?_
  refine gn_ne (tgt := 15) hx hb (by omega) (by decide) dc_MO_add_9 (by decide) (fun hne => ?_) (fun heq => ?_)
  rotate_left
  · refine lv_bipush (v := (-3)) hx hb dc_MO_add_12 (by decide) ?_
    refine W.widen (k := 1) (n := 600) (Nat.zero_le _) (Nat.zero_le _) ?_
    exact gk_ei hx hb hr hlk hP hS dc_MO_add_14 (Or.inl ⟨by omega, rfl, h⟩)
  refine lv_aload_n hx hb dc_MO_add_15 rfl (lv_fd hl rfl) ?_
  refine gh_get hx hb ht nu_MO hown hK.1 hP h.1 rfl 1 (by decide) (ht _ ww_313) (fun _ h9 => h9) rfl dc_MO_add_16 ?_
  refine lv_iload_n hx hb dc_MO_add_19 rfl (lv_fd hl rfl) ?_
  refine gh_iald hx hb hK.1 hP 0 hfm rfl rfl (show o < cap by omega) (by omega) (hfm2 o ho) dc_MO_add_20 ?_
  refine lv_aload_n hx hb dc_MO_add_21 rfl (lv_fd hl rfl) ?_
  refine gh_get hx hb ht nu_MO hown hK.1 hP h.1 rfl 0 (by decide) (ht _ ww_312) (fun _ h9 => h9) rfl dc_MO_add_22 ?_
  refine lv_iload_n hx hb dc_MO_add_25 rfl (lv_fd hl rfl) ?_
  refine gh_aald (v := .ref (G.1 o)) hx hb hK.1 hP 4 hfi rfl rfl rfl (show o < cap by omega) (by omega) (by rw [hfi2 o ho]; rfl) dc_MO_add_26 ?_
  refine gh_alen hx hb hK.1 hP 1 hrw rfl rfl dc_MO_add_27 ?_
  refine gn_ne (tgt := 54) hx hb (by omega) (by omega) dc_MO_add_28 (by decide) (fun hne2 => ?_) (fun heq => ?_)
  · refine W.widen (k := 1) (n := 600) (Nat.zero_le _) (Nat.zero_le _) ?_
    exact tail G M s.heap [] (by omega) hP hS h ⟨c9, fl, hrw, by omega, hc6, hc4, hfl⟩
  refine lv_aload_n hx hb dc_MO_add_31 rfl (lv_fd hl rfl) ?_
  refine gh_get hx hb ht nu_MO hown hK.1 hP h.1 rfl 0 (by decide) (ht _ ww_312) (fun _ h9 => h9) rfl dc_MO_add_32 ?_
  refine lv_iload_n hx hb dc_MO_add_35 rfl (lv_fd hl rfl) ?_
  refine lv_aload_n hx hb dc_MO_add_36 rfl (lv_fd hl rfl) ?_
  refine gh_get hx hb ht nu_MO hown hK.1 hP h.1 rfl 0 (by decide) (ht _ ww_312) (fun _ h9 => h9) rfl dc_MO_add_37 ?_
  refine lv_iload_n hx hb dc_MO_add_40 rfl (lv_fd hl rfl) ?_
  refine gh_aald (v := .ref (G.1 o)) hx hb hK.1 hP 4 hfi rfl rfl rfl (show o < cap by omega) (by omega) (by rw [hfi2 o ho]; rfl) dc_MO_add_41 ?_
  refine lv_iconst (v := nI 2) hx hb dc_MO_add_42 (by decide) ?_
  refine lv_aload_n hx hb dc_MO_add_43 rfl (lv_fd hl rfl) ?_
  refine gh_get hx hb ht nu_MO hown hK.1 hP h.1 rfl 1 (by decide) (ht _ ww_313) (fun _ h9 => h9) rfl dc_MO_add_44 ?_
  refine lv_iload_n hx hb dc_MO_add_47 rfl (lv_fd hl rfl) ?_
  refine gh_iald hx hb hK.1 hP 0 hfm rfl rfl (show o < cap by omega) (by omega) (hfm2 o ho) dc_MO_add_48 ?_
  refine lv_imul hx hb dc_MO_add_49 ?_
  refine gh_topi (show nI 2 * nI (row o).length = nI (2 * c9) by rw [heq]; exact (Int32.ofNat_mul 2 c9).symm) ?_
  refine gk_cq (gk_rS F (As := [.ref (G.1 o), .int (nI (2 * c9))]) (rest := [.int (nI o), .ref G.2.1]) (ct_AR_copyOfJ l E _ _ (8 + o) hrw (n2 := 2 * c9) (by omega) (by omega)) ww_399 ww_400 ww_6 ww_401 rfl rfl ⟨by decide, by decide, by show _ = some 2; decide +kernel⟩ ⟨Nat.le_of_ble_eq_true rfl, Nat.le_of_ble_eq_true rfl⟩ hK hZ hP hS hA hl.1 rfl (Nat.le_of_ble_eq_true rfl) dc_MO_add_50 ⟨Nat.le_refl _, by show 0 + 2 * c9 ≤ 600; omega⟩) hP hS hA (fun r M1 H locs h1 hP hS => ?_)
  obtain ⟨q, rfl, hq, ho1, hq1⟩ := h1
  have hex : ∀ b y, M b = some y → M1 b = some y := fun b y hy => (ho1 b (gh_ne0 hy hq)).trans hy
  have h2 := h.ext hex
  have hfi1 := hex _ _ hfi
  obtain ⟨⟨kA, kB, jj1, jj2, jj3⟩, -⟩ := hK.2.2.1
  refine gh_aastA hx hb hP hS jj1 jj2 jj3 hfi1 hq1 rfl (show o < cap by omega) (by omega) dc_MO_add_53 (fun H locs hP hS => ?_)
  have hcp : ∀ i, i < c9 → va_cpy fl (fun _ => 0) 0 0 c9 i = fl i := by
    intro i hi
    unfold va_cpy
    rw [if_pos (by omega), Nat.zero_add, Nat.sub_zero]
  have hrw9 : rs_Row E M1 o q (row o) := ⟨2 * c9, _, hq1, by omega, by omega, by omega, hr3, fun i y hi => by
    have := (List.getElem?_eq_some_iff.mp hi).1
    rw [hcp i (by omega)]
    exact hfl i y hi⟩
  have h3 := h2.move (o := o) (q := q) hfi1 hfi2 hfi3 ho hrw9
  refine W.widen (k := 1) (n := 600) (by omega) (by omega) ?_
  refine tail _ _ H locs (by omega) hP hS h3 ⟨2 * c9, va_cpy fl (fun _ => 0) 0 0 c9, ?_, by omega, by omega, by omega, fun i y hi => ?_⟩
  · show gh_up M1 G.2.1 _ (va_up G.1 o q o) = _
    rw [va_up_self]
    exact (gh_ch.up hfi1).keep hq1 (by omega)
  · have := (List.getElem?_eq_some_iff.mp hi).1
    rw [hcp i (by omega)]
    exact hfl i y hi
theorem rp_post {E : gk_E} {M : gh_M} {h0 N cap : Nat} {V : vv_V} {G : rs_G} {ex : Nat → Bool} {hol w : Nat → Int32} {row : Nat → List it_I} (hI : vv_I N V) (hT : (List.range V.1).filter ex = V.2.1) (hag : ∀ n ∈ V.2.1, row n = V.2.2.2 n) {n : Nat} (hn : n ∈ V.2.1) {x : it_I} {r : Int32}
    (hp : (300 ≤ (row n).length ∧ r = -3 ∧ rs_R E M h0 G V.1 cap ex hol w V.2.2.1 row) ∨ ((row n).length < 300 ∧ r = nI ((row n).length + 1) ∧ ∃ G', rs_R E M h0 G' V.1 cap ex hol w V.2.2.1 (va_up row n (row n ++ [x])))) : r = (vq_app V n x).1 ∧ rs_V E M h0 (vq_app V n x).2 := by
  have hrT := hag n hn
  rcases hp with ⟨h1, h2, h3⟩ | ⟨h1, h2, G', h3⟩
  · have e : vq_app V n x = (-3, V) := if_pos (by rw [← hrT]; exact h1)
    rw [e]
    exact ⟨h2, G, cap, ex, hol, w, row, h3, hT, hag⟩
  · have e : vq_app V n x = (nI ((V.2.2.2 n).length + 1), V.1, V.2.1, V.2.2.1, va_up V.2.2.2 n (V.2.2.2 n ++ [x])) := if_neg (by rw [← hrT]; omega)
    rw [e]
    exact ⟨by rw [h2, hrT], G', cap, ex, hol, w, _, h3, hT, ag_up hag (by rw [hrT])⟩
set_option maxHeartbeats 4000000 in
set_option maxRecDepth 100000 in
theorem ct_MO_note (l : Launch) (E : gk_E) (M : gh_M) (sz : Nat) {h0 N : Nat} {V : vv_V} (hV : rs_V E M h0 V) (hI : vv_I N V) (hN : N ≤ 512) (k v : Int32) : Met l yn_MO_note (.code yn_MO_note cd_MO_note 3 (some FieldType.int) :: bw_L) { frames := 3, cells := 1, slots := 600, locals := 90 } (gk_Pre E [.ref h0, .int k, .int v] M sz) (va_Qi (fun r M' => r = (vq_note V k v).1 ∧ rs_V E M' h0 (vq_note V k v).2) (gk_B E M sz) (gh_A M sz)) 1 600 (gh_A M sz) := by
  refine gk_met rfl (Nat.le_of_ble_eq_true rfl) ?_
  intro p e s m below meth c F hsz hP hK hZ ls hl
  subst hsz
  have hx := F.1
  have hb := F.2.1
  have hr := F.2.2.1
  have hml := F.2.2.2.1
  have hown : s.vm.findClass "ThingHeapModel" = some m.cls := F.2.2.2.2.1
  have hlk := F.2.2.2.2.2.1
  have hnm := F.2.2.2.2.2.2.1
  have ht := fun (w : Cond) (h : w ∈ bw_L) => F.2.2.2.2.2.2.2 w (List.mem_cons_of_mem _ h)
  have hA : ∀ q, s.heap.size ≤ q → gh_A M s.heap.size q := fun q h => Or.inr h
  have hS : va_S (gh_A M s.heap.size) s.heap s.heap [] := va_S.rf
  have hl : lv_has ls 3 [(0, .ref h0), (1, .int k), (2, .int v)] := hl
  have hV0 := hV
  obtain ⟨G, cap, ex, hol, w, row, h, hT, hag⟩ := hV
  have hcb := h.2.2.2.2.2.2.2.2.2.2
  have hTl := vv_len hI
  have hmN := hI.2.2.2.2
  have hTm : ∀ k ∈ V.2.1, k < 2 ^ 31 := fun k hk => by have := hI.2.2.1 k hk; omega
  have hin : ∀ n, n ∈ V.2.1 ↔ n < V.1 ∧ ex n = true := fun n => by rw [← hT, List.mem_filter, List.mem_range]
  refine lv_aload_n hx hb dc_MO_note_0 rfl (lv_fd hl rfl) ?_
  refine lv_iload_n hx hb dc_MO_note_1 rfl (lv_fd hl rfl) ?_
  refine gk_si (gk_rV F (b := h0) (As := [.int k]) (rest := []) (ct_MO_isThere l E _ _ h k) ww_387 ww_389 ws_MO_isThere ww_5 ww_390 rfl rfl ⟨by decide, by decide, by show _ = some 1; decide +kernel⟩ ⟨Nat.le_of_ble_eq_true rfl, Nat.le_of_ble_eq_true rfl⟩ (gh_recv hK.1 hP h.1 rfl) hK hZ hP hS hA hl.1 rfl (Nat.le_of_ble_eq_true rfl) dc_MO_note_2 ⟨Nat.le_of_ble_eq_true rfl, Nat.le_of_ble_eq_true rfl⟩) (fun r hr1 => ?_)
  rcases hr1 with ⟨rfl, n, hn, hen, rfl⟩ | ⟨rfl, hno⟩
  · have hnT := (hin n).mpr ⟨hn, hen⟩
    have ee : vq_note V (nI n) v = vq_app V n (none, v) := by unfold vq_note; rw [sf_of hTm hnT rfl]
    refine lv_if_eq (tgt := 18) hx hb dc_MO_note_5 (by decide) (fun q => absurd q (by decide)) (fun _ => ?_)
    refine lv_aload_n hx hb dc_MO_note_8 rfl (lv_fd hl rfl) ?_
    refine lv_iload_n hx hb dc_MO_note_9 rfl (lv_fd hl rfl) ?_
    refine lv_iload_n hx hb dc_MO_note_10 rfl (lv_fd hl rfl) ?_
    refine lv_i2l hx hb dc_MO_note_11 rfl ?_
    refine gk_ci (gk_rV F (b := h0) (As := [.int (nI n), .long v.toInt64]) (rest := []) (ct_MO_add l E _ _ h hn (none, v) (fun n hn => by cases hn)) ww_395 ww_397 ws_MO_add ww_5 ww_398 rfl rfl ⟨by decide, by decide, by show _ = some 2; decide +kernel⟩ ⟨Nat.le_of_ble_eq_true rfl, Nat.le_of_ble_eq_true rfl⟩ (gh_recv hK.1 hP h.1 rfl) hK hZ hP hS hA hl.1 rfl (Nat.le_of_ble_eq_true rfl) dc_MO_note_12 ⟨Nat.le_of_ble_eq_true rfl, Nat.le_of_ble_eq_true rfl⟩) hP hS hA (fun r M1 H locs h1 hP hS => ?_)
    refine lv_goto (tgt := 20) hx hb dc_MO_note_15 (by decide) ?_
    exact gk_ei hx hb hr hlk hP hS dc_MO_note_20 (by rw [ee]; exact rp_post hI hT hag hnT h1)
  · have ee : vq_note V k v = (-2, V) := by unfold vq_note; rw [sf_none (fun n hn => hno n ((hin n).mp hn).1 ((hin n).mp hn).2)]
    refine lv_if_eq (tgt := 18) hx hb dc_MO_note_5 (by decide) (fun _ => ?_) (fun q => absurd rfl q)
    refine lv_bipush (v := (-2)) hx hb dc_MO_note_18 (by decide) ?_
    refine W.widen (k := 1) (n := 600) (Nat.le_of_ble_eq_true rfl) (Nat.le_of_ble_eq_true rfl) ?_
    exact gk_ei hx hb hr hlk hP hS dc_MO_note_20 ⟨by rw [ee], by rw [ee]; exact hV0⟩
set_option maxHeartbeats 4000000 in
set_option maxRecDepth 100000 in
theorem ct_MO_point (l : Launch) (E : gk_E) (M : gh_M) (sz : Nat) {h0 N : Nat} {V : vv_V} (hV : rs_V E M h0 V) (hI : vv_I N V) (hN : N ≤ 512) (k i : Int32) : Met l yn_MO_point (.code yn_MO_point cd_MO_point 3 (some FieldType.int) :: bw_L) { frames := 3, cells := 1, slots := 600, locals := 90 } (gk_Pre E [.ref h0, .int k, .int i] M sz) (va_Qi (fun r M' => r = (vq_point V k i).1 ∧ rs_V E M' h0 (vq_point V k i).2) (gk_B E M sz) (gh_A M sz)) 1 600 (gh_A M sz) := by
  refine gk_met rfl (Nat.le_of_ble_eq_true rfl) ?_
  intro p e s m below meth c F hsz hP hK hZ ls hl
  subst hsz
  have hx := F.1
  have hb := F.2.1
  have hr := F.2.2.1
  have hml := F.2.2.2.1
  have hown : s.vm.findClass "ThingHeapModel" = some m.cls := F.2.2.2.2.1
  have hlk := F.2.2.2.2.2.1
  have hnm := F.2.2.2.2.2.2.1
  have ht := fun (w : Cond) (h : w ∈ bw_L) => F.2.2.2.2.2.2.2 w (List.mem_cons_of_mem _ h)
  have hA : ∀ q, s.heap.size ≤ q → gh_A M s.heap.size q := fun q h => Or.inr h
  have hS : va_S (gh_A M s.heap.size) s.heap s.heap [] := va_S.rf
  have hl : lv_has ls 3 [(0, .ref h0), (1, .int k), (2, .int i)] := hl
  have hV0 := hV
  obtain ⟨G, cap, ex, hol, w, row, h, hT, hag⟩ := hV
  have hcb := h.2.2.2.2.2.2.2.2.2.2
  have hTl := vv_len hI
  have hmN := hI.2.2.2.2
  have hTm : ∀ k ∈ V.2.1, k < 2 ^ 31 := fun k hk => by have := hI.2.2.1 k hk; omega
  have hin : ∀ n, n ∈ V.2.1 ↔ n < V.1 ∧ ex n = true := fun n => by rw [← hT, List.mem_filter, List.mem_range]
  have no : ∀ ls, vq_point V k i = (-2, V) → W p l e ({ frames := 3, cells := 1, slots := 600, locals := 90 } : Room) s m ([.ref h0, .int k, .int i] : List Value).toArray below meth c s.heap [] 0 0 (MQ below (va_Qi (fun r M' => r = (vq_point V k i).1 ∧ rs_V E M' h0 (vq_point V k i).2) (gk_B E M s.heap.size) (gh_A M s.heap.size)) ([.ref h0, .int k, .int i] : List Value).toArray s 1 600 (gh_A M s.heap.size)) (F0 m 30 ls []) := by
    intro ls ee
    refine lv_bipush (v := (-2)) hx hb dc_MO_point_30 (by decide) ?_
    refine W.widen (k := 1) (n := 600) (Nat.le_of_ble_eq_true rfl) (Nat.le_of_ble_eq_true rfl) ?_
    exact gk_ei hx hb hr hlk hP hS dc_MO_point_32 ⟨by rw [ee], by rw [ee]; exact hV0⟩
  refine lv_aload_n hx hb dc_MO_point_0 rfl (lv_fd hl rfl) ?_
  refine lv_iload_n hx hb dc_MO_point_1 rfl (lv_fd hl rfl) ?_
  refine gk_si (gk_rV F (b := h0) (As := [.int k]) (rest := []) (ct_MO_isThere l E _ _ h k) ww_387 ww_389 ws_MO_isThere ww_5 ww_390 rfl rfl ⟨by decide, by decide, by show _ = some 1; decide +kernel⟩ ⟨Nat.le_of_ble_eq_true rfl, Nat.le_of_ble_eq_true rfl⟩ (gh_recv hK.1 hP h.1 rfl) hK hZ hP hS hA hl.1 rfl (Nat.le_of_ble_eq_true rfl) dc_MO_point_2 ⟨Nat.le_of_ble_eq_true rfl, Nat.le_of_ble_eq_true rfl⟩) (fun r hr1 => ?_)
  rcases hr1 with ⟨rfl, n, hn, hen, rfl⟩ | ⟨rfl, hno⟩
  rotate_left
  · refine lv_if_eq (tgt := 30) hx hb dc_MO_point_5 (by decide) (fun _ => ?_) (fun q => absurd rfl q)
    exact no ls (by unfold vq_point; rw [sf_none (fun n hn => hno n ((hin n).mp hn).1 ((hin n).mp hn).2)])
  have hnT := (hin n).mpr ⟨hn, hen⟩
  have hsf : sf_T V.2.1 (nI n) = some n := sf_of hTm hnT rfl
  refine lv_if_eq (tgt := 30) hx hb dc_MO_point_5 (by decide) (fun q => absurd q (by decide)) (fun _ => ?_)
  refine lv_aload_n hx hb dc_MO_point_8 rfl (lv_fd hl rfl) ?_
  refine lv_iload_n hx hb dc_MO_point_9 rfl (lv_fd hl rfl) ?_
  refine gk_si (gk_rV F (b := h0) (As := [.int i]) (rest := []) (ct_MO_isThere l E _ _ h i) ww_387 ww_389 ws_MO_isThere ww_5 ww_390 rfl rfl ⟨by decide, by decide, by show _ = some 1; decide +kernel⟩ ⟨Nat.le_of_ble_eq_true rfl, Nat.le_of_ble_eq_true rfl⟩ (gh_recv hK.1 hP h.1 rfl) hK hZ hP hS hA hl.1 rfl (Nat.le_of_ble_eq_true rfl) dc_MO_point_10 ⟨Nat.le_of_ble_eq_true rfl, Nat.le_of_ble_eq_true rfl⟩) (fun r hr1 => ?_)
  rcases hr1 with ⟨rfl, n2, hn2, hen2, rfl⟩ | ⟨rfl, hno⟩
  rotate_left
  · refine lv_if_eq (tgt := 30) hx hb dc_MO_point_13 (by decide) (fun _ => ?_) (fun q => absurd rfl q)
    exact no ls (by unfold vq_point; rw [hsf]; dsimp only; rw [sf_none (fun n hn => hno n ((hin n).mp hn).1 ((hin n).mp hn).2)])
  have hnT2 := (hin n2).mpr ⟨hn2, hen2⟩
  have ee : vq_point V (nI n) (nI n2) = vq_app V n (some n2, 0) := by unfold vq_point; rw [hsf]; dsimp only; rw [sf_of hTm hnT2 rfl]
  refine lv_if_eq (tgt := 30) hx hb dc_MO_point_13 (by decide) (fun q => absurd q (by decide)) (fun _ => ?_)
  refine lv_aload_n hx hb dc_MO_point_16 rfl (lv_fd hl rfl) ?_
  refine lv_iload_n hx hb dc_MO_point_17 rfl (lv_fd hl rfl) ?_
  refine lv_ldc2 hx hb hown (ht _ ww_377) dc_MO_point_18 ?_
  refine lv_iload_n hx hb dc_MO_point_21 rfl (lv_fd hl rfl) ?_
  refine lv_i2l (v := lN n2) hx hb dc_MO_point_22 (nI_l (by omega)) ?_
  refine lv_ladd hx hb dc_MO_point_23 ?_
  refine gh_topl (show (1099511627776 : Int64) + lN n2 = it_L (some n2, 0) from lN_add 1099511627776 n2) ?_
  refine gk_ci (gk_rV F (b := h0) (As := [.int (nI n), .long (it_L (some n2, 0))]) (rest := []) (ct_MO_add l E _ _ h hn (some n2, 0) (fun k hk => by rw [← Option.some.inj hk]; exact hn2)) ww_395 ww_397 ws_MO_add ww_5 ww_398 rfl rfl ⟨by decide, by decide, by show _ = some 2; decide +kernel⟩ ⟨Nat.le_of_ble_eq_true rfl, Nat.le_of_ble_eq_true rfl⟩ (gh_recv hK.1 hP h.1 rfl) hK hZ hP hS hA hl.1 rfl (Nat.le_of_ble_eq_true rfl) dc_MO_point_24 ⟨Nat.le_of_ble_eq_true rfl, Nat.le_of_ble_eq_true rfl⟩) hP hS hA (fun r M1 H locs h1 hP hS => ?_)
  refine lv_goto (tgt := 32) hx hb dc_MO_point_27 (by decide) ?_
  exact gk_ei hx hb hr hlk hP hS dc_MO_point_32 (by rw [ee]; exact rp_post hI hT hag hnT h1)
set_option maxHeartbeats 4000000 in
set_option maxRecDepth 100000 in
theorem ct_MO_reach (l : Launch) (E : gk_E) (M : gh_M) (sz : Nat) {h0 made cap : Nat} {G : rs_G} {ex : Nat → Bool} {hol w : Nat → Int32} {root : Nat → Option Nat} {row : Nat → List it_I} (h : rs_R E M h0 G made cap ex hol w root row) {o k : Nat} (ho : o < made) (hk : 0 < hol o ∨ k < cap) : Met l yn_MO_reach (.code yn_MO_reach cd_MO_reach 3 (some FieldType.int) :: bw_L) { frames := 0, cells := 0, slots := 0, locals := 0 } (gk_Pre E [.ref h0, .int (nI o), .int (nI k)] M sz) (va_Qi (fun r M' => (0 < hol o ∧ r = nI k ∧ rs_R E M' h0 G made cap ex hol w root row) ∨ (¬ 0 < hol o ∧ r = nI (k + 1) ∧ rs_R E M' h0 G made cap ex (va_up hol o 1) (va_up w k (nI o)) root row)) (gk_B E M sz) (gh_A M sz)) 0 0 (gh_A M sz) := by
  refine gk_met rfl (Nat.le_of_ble_eq_true rfl) ?_
  intro p e s m below meth c F hsz hP hK hZ ls hl
  subst hsz
  have hx := F.1
  have hb := F.2.1
  have hr := F.2.2.1
  have hml := F.2.2.2.1
  have hown : s.vm.findClass "ThingHeapModel" = some m.cls := F.2.2.2.2.1
  have hlk := F.2.2.2.2.2.1
  have hnm := F.2.2.2.2.2.2.1
  have ht := fun (w : Cond) (h : w ∈ bw_L) => F.2.2.2.2.2.2.2 w (List.mem_cons_of_mem _ h)
  have hA : ∀ q, s.heap.size ≤ q → gh_A M s.heap.size q := fun q h => Or.inr h
  have hS : va_S (gh_A M s.heap.size) s.heap s.heap [] := va_S.rf
  have hl : lv_has ls 3 [(0, .ref h0), (1, .int (nI o)), (2, .int (nI k))] := hl
  have hcb := h.2.2.2.2.2.2.2.2.2.2
  refine lv_aload_n hx hb dc_MO_reach_0 rfl (lv_fd hl rfl) ?_
  refine gh_get hx hb ht nu_MO hown hK.1 hP h.1 rfl 3 (by decide) (ht _ ww_315) (fun _ h9 => h9) rfl dc_MO_reach_1 ?_
  refine lv_iload_n hx hb dc_MO_reach_4 rfl (lv_fd hl rfl) ?_
  refine gh_iald hx hb hK.1 hP 0 h.2.2.2.2.1 rfl rfl (show o < cap by omega) (by omega) rfl dc_MO_reach_5 ?_
  refine lv_if_le (tgt := 11) hx hb dc_MO_reach_6 (by decide) (fun hz => ?_) (fun hz => ?_)
  · have hn0 : ¬ 0 < hol o := by
      intro q
      rw [Int32.lt_iff_toInt_lt] at q
      rw [Int32.le_iff_toInt_le] at hz
      omega
    have hkc : k < cap := hk.resolve_left hn0
    have h2 := h.upHol (f := va_up hol o (nI 1))
    refine lv_aload_n hx hb dc_MO_reach_11 rfl (lv_fd hl rfl) ?_
    refine gh_get hx hb ht nu_MO hown hK.1 hP h.1 rfl 3 (by decide) (ht _ ww_315) (fun _ h9 => h9) rfl dc_MO_reach_12 ?_
    refine lv_iload_n hx hb dc_MO_reach_15 rfl (lv_fd hl rfl) ?_
    refine lv_iconst (v := nI 1) hx hb dc_MO_reach_16 (by decide) ?_
    refine gm_iast hx hb hK.1 hP hS 0 h.2.2.2.2.1 rfl rfl (show o < cap by omega) (by omega) dc_MO_reach_17 (fun H locs hP hS => ?_)
    refine lv_aload_n hx hb dc_MO_reach_18 rfl (lv_fd hl rfl) ?_
    refine gh_get hx hb ht nu_MO hown hK.1 hP h2.1 rfl 4 (by decide) (ht _ ww_316) (fun _ h9 => h9) rfl dc_MO_reach_19 ?_
    refine lv_iload_n hx hb dc_MO_reach_22 rfl (lv_fd hl rfl) ?_
    refine lv_iload_n hx hb dc_MO_reach_23 rfl (lv_fd hl rfl) ?_
    refine gm_iast hx hb hK.1 hP hS 0 h2.2.2.2.2.2.1 rfl rfl hkc (by omega) dc_MO_reach_24 (fun H locs hP hS => ?_)
    refine lv_iload_n hx hb dc_MO_reach_25 rfl (lv_fd hl rfl) ?_
    refine lv_iconst (v := nI 1) hx hb dc_MO_reach_26 (by decide) ?_
    refine lv_iadd hx hb dc_MO_reach_27 ?_
    refine gh_topi (nI_add k 1) ?_
    refine gk_ei hx hb hr hlk hP hS dc_MO_reach_28 (Or.inr ⟨hn0, rfl, ?_⟩)
    have h3 := h2.upW (f := va_up w k (nI o))
    rw [show nI 1 = (1 : Int32) by decide] at h3
    exact h3
  · have hp : 0 < hol o := by
      rw [Int32.lt_iff_toInt_lt]
      rw [Int32.le_iff_toInt_le] at hz
      omega
    refine lv_iload_n hx hb dc_MO_reach_9 rfl (lv_fd hl rfl) ?_
    exact gk_ei hx hb hr hlk hP hS dc_MO_reach_10 (Or.inl ⟨hp, rfl, h⟩)
