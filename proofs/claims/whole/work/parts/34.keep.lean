abbrev kp_p (hld : Nat → Int32) : Nat → Bool := fun n => decide (0 < hld n)
/-- the list while it is closed up: those kept of the first i, then the old ones -/
abbrev kp_l (T : List Nat) (hld : Nat → Int32) (i : Nat) : List Nat := (T.take i).filter (kp_p hld) ++ T.drop ((T.take i).filter (kp_p hld)).length
theorem kp_le (T : List Nat) (hld : Nat → Int32) (i : Nat) : ((T.take i).filter (kp_p hld)).length ≤ i ∧ ((T.take i).filter (kp_p hld)).length ≤ T.length := by
  have h1 := List.length_filter_le (kp_p hld) (T.take i)
  rw [List.length_take] at h1
  omega
theorem kp_len (T : List Nat) (hld : Nat → Int32) (i : Nat) : (kp_l T hld i).length = T.length := by
  have := kp_le T hld i
  show ((T.take i).filter (kp_p hld) ++ T.drop ((T.take i).filter (kp_p hld)).length).length = _
  rw [List.length_append, List.length_drop]
  omega
theorem kp_get {T : List Nat} {hld : Nat → Int32} {i n : Nat} (h : T[i]? = some n) : (kp_l T hld i)[i]? = some n := by
  have := kp_le T hld i
  show ((T.take i).filter (kp_p hld) ++ T.drop ((T.take i).filter (kp_p hld)).length)[i]? = _
  rw [List.getElem?_append_right this.1, List.getElem?_drop, show ((T.take i).filter (kp_p hld)).length + (i - ((T.take i).filter (kp_p hld)).length) = i by omega]
  exact h
theorem kp_tk {T : List Nat} {i n : Nat} (h : T[i]? = some n) : T.take (i + 1) = T.take i ++ [n] := by
  rw [List.take_add_one, h]
  rfl
theorem kp_no {T : List Nat} {hld : Nat → Int32} {i n : Nat} (h : T[i]? = some n) (hn : ¬ 0 < hld n) : (T.take (i + 1)).filter (kp_p hld) = (T.take i).filter (kp_p hld) := by
  rw [kp_tk h, List.filter_append, List.filter_cons_of_neg (by simp [hn])]
  simp
theorem kp_yes {T : List Nat} {hld : Nat → Int32} {i n : Nat} (h : T[i]? = some n) (hn : 0 < hld n) : (T.take (i + 1)).filter (kp_p hld) = (T.take i).filter (kp_p hld) ++ [n] := by
  rw [kp_tk h, List.filter_append, List.filter_cons_of_pos (by simp [hn])]
  rfl
theorem kp_set {T : List Nat} {hld : Nat → Int32} {i n : Nat} (h : T[i]? = some n) (hn : 0 < hld n) : (kp_l T hld i).set ((T.take i).filter (kp_p hld)).length n = kp_l T hld (i + 1) := by
  have hil := (List.getElem?_eq_some_iff.mp h).1
  have hle := kp_le T hld i
  show ((T.take i).filter (kp_p hld) ++ T.drop ((T.take i).filter (kp_p hld)).length).set _ _ = (T.take (i + 1)).filter (kp_p hld) ++ T.drop ((T.take (i + 1)).filter (kp_p hld)).length
  rw [kp_yes h hn, List.length_append, List.set_append_right _ _ (Nat.le_refl _), Nat.sub_self, List.append_assoc]
  congr 1
  have hd : T.drop ((T.take i).filter (kp_p hld)).length = T[((T.take i).filter (kp_p hld)).length]'(by omega) :: T.drop (((T.take i).filter (kp_p hld)).length + 1) := List.drop_eq_getElem_cons (by omega)
  rw [hd]
  rfl
theorem gh_dec (m : Nat) : nI (m + 1) - nI 1 + Int32.ofInt (-1) = nI m - nI 1 := by
  have h1 : nI 1 = 1 := by decide
  have h2 : Int32.ofInt (-1) = -1 := by decide
  rw [h1, h2, nI_pred, Int32.sub_eq_add_neg]
theorem er_last {α : Type} (L : List α) (m : Nat) (h : m < L.length) : (L.take (m + 1)).eraseIdx m = L.take m := by
  rw [List.eraseIdx_eq_take_drop_succ, List.take_take, List.drop_take]
  simp
set_option maxHeartbeats 4000000 in
set_option maxRecDepth 100000 in
theorem ct_TH_keepHeld (l : Launch) (E : gk_E) (M : gh_M) (sz : Nat) {h0 made cT cU cR : Nat} {G : cs_G} {T U R : List Nat} {root : Nat → Option Nat} {row : Nat → List it_I} {hld : Nat → Int32} {rch : Nat → Bool} (h : cs_R E M h0 G made T U R cT cU cR root row hld rch) (hmd : made ≤ 2 ^ 20) : Met l yn_TH_keepHeld (.code yn_TH_keepHeld cd_TH_keepHeld 5 none :: bw_L) { frames := 3, cells := 0, slots := 0, locals := 94 } (gk_Pre E [.ref h0] M sz) (va_Qv (fun M' => cs_R E M' h0 G made (T.filter (fun n => decide (0 < hld n))) U R cT cU cR root row hld rch) (gk_B E M sz) (gh_A M sz)) 0 0 (gh_A M sz) := by
  refine gk_met rfl (Nat.le_of_ble_eq_true rfl) ?_
  intro p e s m below meth c F hsz hP hK hZ ls hl
  subst hsz
  have hx := F.1
  have hb := F.2.1
  have hr := F.2.2.1
  have hml := F.2.2.2.1
  have hown : s.vm.findClass "ThingHeap" = some m.cls := F.2.2.2.2.1
  have hlk := F.2.2.2.2.2.1
  have hnm := F.2.2.2.2.2.2.1
  have ht := fun (w : Cond) (h : w ∈ bw_L) => F.2.2.2.2.2.2.2 w (List.mem_cons_of_mem _ h)
  have hA : ∀ q, s.heap.size ≤ q → gh_A M s.heap.size q := fun q h => Or.inr h
  have hS : va_S (gh_A M s.heap.size) s.heap s.heap [] := va_S.rf
  have hl : lv_has ls 5 [(0, .ref h0)] := hl
  have hTl := h.2.2.1.len
  have hTw := h.2.2.2.2.2.2.2.1
  have hmlT : (T.map G.1).length = T.length := List.length_map _
  rw [hmlT] at hTl
  have loop2 : ∀ (d k : Nat) (M2 : gh_M) (H : Heap) (locs : List Loc) (ls : Array Slot) (Fl L : List Nat), Fl.length = k → Fl = L.take k → k + d ≤ L.length → L.length ≤ T.length → lv_has ls 5 [(0, .ref h0), (1, .int (nI T.length)), (2, .int (nI k)), (3, .int (nI (k + d) - nI 1))] → gh_P E.1 cl_L (gh_A M s.heap.size) M2 H → va_S (gh_A M s.heap.size) s.heap H locs → (∀ n ∈ L, n < made) →
      cs_R E M2 h0 G made (L.take (k + d)) U R cT cU cR root row hld rch → Fl = T.filter (fun n => decide (0 < hld n)) → W p l e ({ frames := 3, cells := 0, slots := 0, locals := 94 } : Room) s m ([.ref h0] : List Value).toArray below meth c H locs 0 0 (MQ below (va_Qv (fun M' => cs_R E M' h0 G made (T.filter (fun n => decide (0 < hld n))) U R cT cU cR root row hld rch) (gk_B E M s.heap.size) (gh_A M s.heap.size)) ([.ref h0] : List Value).toArray s 0 0 (gh_A M s.heap.size)) (F0 m 62 ls []) := by
    intro d
    induction d with
    | zero =>
      intro k M2 H locs ls Fl L hFk hFL hkL hLT hl hP hS hLm h2 hF
      refine lv_iload_n hx hb dc_TH_keepHeld_62 rfl (lv_fd hl rfl) ?_
      refine lv_iload_n hx hb dc_TH_keepHeld_63 rfl (lv_fd hl rfl) ?_
      refine lv_icmp_lt (tgt := 82) hx hb dc_TH_keepHeld_64 (by decide) (fun _ => ?_) (fun q => absurd (show nI (k + 0) - nI 1 < nI k from Int32.lt_iff_toInt_lt.mpr (by rw [pk_sub_toInt (by omega) (by omega), nI_toInt (by omega)]; omega)) q)
      refine gk_ev hx hb hr hlk hP hS dc_TH_keepHeld_82 ?_
      rw [Nat.add_zero, ← hFL, hF] at h2
      exact h2
    | succ d ih =>
      intro k M2 H locs ls Fl L hFk hFL hkL hLT hl hP hS hLm h2 hF
      have hal := h2.2.2.1
      have hlt : k + d < ((L.take (k + (d + 1))).map G.1).length := by
        rw [List.length_map, List.length_take]
        omega
      refine lv_iload_n hx hb dc_TH_keepHeld_62 rfl (lv_fd hl rfl) ?_
      refine lv_iload_n hx hb dc_TH_keepHeld_63 rfl (lv_fd hl rfl) ?_
      refine lv_icmp_lt (tgt := 82) hx hb dc_TH_keepHeld_64 (by decide) (fun q => absurd q (fun q => by rw [Int32.lt_iff_toInt_lt, pk_sub_toInt (by omega) (by omega), nI_toInt (by omega)] at q; omega)) (fun _ => ?_)
      refine lv_aload_n hx hb dc_TH_keepHeld_67 rfl (lv_fd hl rfl) ?_
      refine gh_get hx hb ht nu_TH hown hK.1 hP h2.1 rfl 1 (by decide) (ht _ ww_51) (fun _ h9 => h9) rfl dc_TH_keepHeld_68 ?_
      refine lv_iload_n hx hb dc_TH_keepHeld_71 rfl (lv_fd hl rfl) ?_
      refine gh_topi (y := nI (k + d)) (by rw [pk_sub (by omega)]; congr 1) ?_
      refine gk_cq (gk_rV F (b := G.2.2.2.1) (As := [.int (nI (k + d))]) (rest := []) (ct_AL_remove l E _ _ hal hlt (h2.elL (fun n hn => hLm n (List.mem_of_mem_take hn)))) ww_207 ww_208 ww_209 ww_4 ww_210 rfl rfl ⟨by decide, by decide, by show _ = some 1; decide +kernel⟩ ⟨Nat.le_of_ble_eq_true rfl, Nat.le_of_ble_eq_true rfl⟩ (by obtain ⟨mk, el, hq, -⟩ := hal; exact gh_recv hK.1 hP hq rfl) hK hZ hP hS hA hl.1 rfl (Nat.le_of_ble_eq_true rfl) dc_TH_keepHeld_72 ⟨Nat.le_refl _, Nat.le_refl _⟩) hP hS hA (fun r M3 H locs hM3 hP hS => ?_)
      obtain ⟨hr3, hch3, hal3⟩ := hM3
      refine lv_pop hx hb dc_TH_keepHeld_75 (by rw [hr3, List.getElem?_eq_getElem hlt]; rfl) ?_
      refine lv_iinc (k := 3) (v := nI (k + d) - nI 1) hx hb dc_TH_keepHeld_76 hl rfl (gh_dec (k + d)) (by decide) rfl (fun ls hl => ?_)
      refine lv_goto (tgt := 62) hx hb dc_TH_keepHeld_79 (by decide) ?_
      refine ih k M3 H locs ls Fl L hFk hFL (by omega) hLT (lv_sub hl [1, 2, 3, 0] rfl) hP hS hLm (h2.setT hch3 ?_ (fun n hn => hLm n (List.mem_of_mem_take hn))) hF
      rw [List.map_take] at hal3 ⊢
      rw [show k + (d + 1) = k + d + 1 by omega, er_last _ _ (by rw [List.length_map]; omega)] at hal3
      exact hal3
  have loop1 : ∀ (d i : Nat) (M2 : gh_M) (H : Heap) (locs : List Loc) (ls : Array Slot), i + d = T.length → lv_has ls 5 [(0, .ref h0), (1, .int (nI T.length)), (2, .int (nI ((T.take i).filter (kp_p hld)).length)), (3, .int (nI i))] → gh_P E.1 cl_L (gh_A M s.heap.size) M2 H → va_S (gh_A M s.heap.size) s.heap H locs →
      cs_R E M2 h0 G made (kp_l T hld i) U R cT cU cR root row hld rch → W p l e ({ frames := 3, cells := 0, slots := 0, locals := 94 } : Room) s m ([.ref h0] : List Value).toArray below meth c H locs 0 0 (MQ below (va_Qv (fun M' => cs_R E M' h0 G made (T.filter (fun n => decide (0 < hld n))) U R cT cU cR root row hld rch) (gk_B E M s.heap.size) (gh_A M s.heap.size)) ([.ref h0] : List Value).toArray s 0 0 (gh_A M s.heap.size)) (F0 m 12 ls []) := by
    intro d
    induction d with
    | zero =>
      intro i M2 H locs ls hi hl hP hS h2
      have hkl := kp_le T hld i
      have hkn := kp_len T hld i
      have htk : T.take i = T := List.take_of_length_le (by omega)
      refine lv_iload_n hx hb dc_TH_keepHeld_12 rfl (lv_fd hl rfl) ?_
      refine lv_iload_n hx hb dc_TH_keepHeld_13 rfl (lv_fd hl rfl) ?_
      refine gn_ge (tgt := 58) hx hb (by omega) (by omega) dc_TH_keepHeld_14 (by decide) (fun _ => ?_) (fun q => absurd q (by omega))
      refine lv_iload_n hx hb dc_TH_keepHeld_58 rfl (lv_fd hl rfl) ?_
      refine lv_iconst (v := nI 1) hx hb dc_TH_keepHeld_59 (by decide) ?_
      refine lv_isub hx hb dc_TH_keepHeld_60 ?_
      refine lv_istore_n hx hb dc_TH_keepHeld_61 rfl hl (by decide) rfl (fun ls hl => ?_)
      have hsum : ((T.take i).filter (kp_p hld)).length + (T.length - ((T.take i).filter (kp_p hld)).length) = T.length := by omega
      refine loop2 (T.length - ((T.take i).filter (kp_p hld)).length) ((T.take i).filter (kp_p hld)).length M2 H locs ls ((T.take i).filter (kp_p hld)) (kp_l T hld i) rfl (List.take_left).symm (by omega) (by omega) (by rw [hsum]; exact lv_sub hl [1, 2, 3, 0] rfl) hP hS h2.2.2.2.2.2.2.2.1 ?_ (by rw [htk])
      rw [hsum, List.take_of_length_le (by omega)]
      exact h2
    | succ d ih =>
      intro i M2 H locs ls hi hl hP hS h2
      have hkl := kp_le T hld i
      have hkn := kp_len T hld i
      obtain ⟨n, hn⟩ : ∃ n, T[i]? = some n := ⟨T[i]'(by omega), List.getElem?_eq_getElem (by omega)⟩
      have hnm := hTw n (List.mem_of_getElem? hn)
      have hgn := kp_get (hld := hld) hn
      have hal := h2.2.2.1
      have hil : i < ((kp_l T hld i).map G.1).length := by
        rw [List.length_map]
        omega
      have hth : M2 (G.1 n) = some (6 + 2 * n, .inr (2, [.int (nI n), .ref (G.2.1 n), .int (hld n), .int (cs_B (rch n))])) := h2.2.2.2.2.2.1 n hnm
      refine lv_iload_n hx hb dc_TH_keepHeld_12 rfl (lv_fd hl rfl) ?_
      refine lv_iload_n hx hb dc_TH_keepHeld_13 rfl (lv_fd hl rfl) ?_
      refine gn_ge (tgt := 58) hx hb (by omega) (by omega) dc_TH_keepHeld_14 (by decide) (fun q => absurd q (by omega)) (fun _ => ?_)
      refine lv_aload_n hx hb dc_TH_keepHeld_17 rfl (lv_fd hl rfl) ?_
      refine gh_get hx hb ht nu_TH hown hK.1 hP h2.1 rfl 1 (by decide) (ht _ ww_51) (fun _ h9 => h9) rfl dc_TH_keepHeld_18 ?_
      refine lv_iload_n hx hb dc_TH_keepHeld_21 rfl (lv_fd hl rfl) ?_
      refine gk_sq (gk_rV F (b := G.2.2.2.1) (As := [.int (nI i)]) (rest := []) (ct_AL_get l E _ _ hal hil) ww_172 ww_173 ww_174 ww_4 ww_175 rfl rfl ⟨by decide, by decide, by show _ = some 1; decide +kernel⟩ ⟨Nat.le_of_ble_eq_true rfl, Nat.le_of_ble_eq_true rfl⟩ (by obtain ⟨mk, el, hq, -⟩ := hal; exact gh_recv hK.1 hP hq rfl) hK hZ hP hS hA hl.1 rfl (Nat.le_of_ble_eq_true rfl) dc_TH_keepHeld_22 ⟨Nat.le_refl _, Nat.le_refl _⟩) (fun r hr2 => ?_)
      rw [List.getElem?_map, hgn] at hr2
      have hr2 : r = some (G.1 n) := hr2
      subst hr2
      refine va_castE hx hb hown (ht _ ww_22) (gh_recv hK.1 hP hth rfl) dc_TH_keepHeld_25 ?_
      refine lv_astore hx hb dc_TH_keepHeld_28 hl (by decide) rfl (fun ls hl => ?_)
      refine lv_aload hx hb dc_TH_keepHeld_30 (lv_fd hl rfl) ?_
      refine gh_get hx hb ht nu_TG hown hK.1 hP hth rfl 2 (by decide) (ht _ ww_89) (fun _ h9 => h9) rfl dc_TH_keepHeld_32 ?_
      refine lv_if_le (tgt := 52) hx hb dc_TH_keepHeld_35 (by decide) (fun hz => ?_) (fun hz => ?_)
      · have hz : ¬ 0 < hld n := Int32.not_lt.mpr hz
        refine lv_iinc (k := 4) (v := nI (i + 1)) hx hb dc_TH_keepHeld_52 hl rfl (gh_inc i) (by decide) rfl (fun ls hl => ?_)
        refine lv_goto (tgt := 12) hx hb dc_TH_keepHeld_55 (by decide) ?_
        refine ih (i + 1) M2 H locs ls (by omega) (by rw [kp_no hn hz]; exact lv_sub hl [2, 3, 4, 0] rfl) hP hS ?_
        have e : kp_l T hld (i + 1) = kp_l T hld i := by
          show (T.take (i + 1)).filter (kp_p hld) ++ T.drop ((T.take (i + 1)).filter (kp_p hld)).length = _
          rw [kp_no hn hz]
        rw [e]
        exact h2
      · have hz : 0 < hld n := Int32.not_le.mp hz
        have hkl2 : ((T.take i).filter (kp_p hld)).length < ((kp_l T hld i).map G.1).length := by
          rw [List.length_map]
          omega
        refine lv_aload_n hx hb dc_TH_keepHeld_38 rfl (lv_fd hl rfl) ?_
        refine gh_get hx hb ht nu_TH hown hK.1 hP h2.1 rfl 1 (by decide) (ht _ ww_51) (fun _ h9 => h9) rfl dc_TH_keepHeld_39 ?_
        refine lv_iload_n hx hb dc_TH_keepHeld_42 rfl (lv_fd hl rfl) ?_
        refine lv_aload hx hb dc_TH_keepHeld_43 (lv_fd hl rfl) ?_
        refine gk_cq (gk_rV F (b := G.2.2.2.1) (As := [.int (nI ((T.take i).filter (kp_p hld)).length), .ref (G.1 n)]) (rest := []) (ct_AL_set l E _ _ hal hkl2 (h2.el hnm)) ww_203 ww_204 ww_205 ww_4 ww_206 rfl rfl ⟨by decide, by decide, by show _ = some 2; decide +kernel⟩ ⟨Nat.le_of_ble_eq_true rfl, Nat.le_of_ble_eq_true rfl⟩ (by obtain ⟨mk, el, hq, -⟩ := hal; exact gh_recv hK.1 hP hq rfl) hK hZ hP hS hA hl.1 rfl (Nat.le_of_ble_eq_true rfl) dc_TH_keepHeld_45 ⟨Nat.le_refl _, Nat.le_refl _⟩) hP hS hA (fun r M3 H locs hM3 hP hS => ?_)
        obtain ⟨hr3, -, hch3, hal3⟩ := hM3
        refine lv_pop hx hb dc_TH_keepHeld_48 (by rw [hr3, List.getElem?_eq_getElem hkl2]; rfl) ?_
        refine lv_iinc (k := 3) (v := nI (((T.take i).filter (kp_p hld)).length + 1)) hx hb dc_TH_keepHeld_49 hl rfl (gh_inc _) (by decide) rfl (fun ls hl => ?_)
        refine lv_iinc (k := 4) (v := nI (i + 1)) hx hb dc_TH_keepHeld_52 hl rfl (gh_inc i) (by decide) rfl (fun ls hl => ?_)
        refine lv_goto (tgt := 12) hx hb dc_TH_keepHeld_55 (by decide) ?_
        refine ih (i + 1) M3 H locs ls (by omega) (by rw [kp_yes hn hz, List.length_append]; exact lv_sub hl [3, 4, 1, 0] rfl) hP hS (h2.setT hch3 ?_ (fun k hk => ?_))
        · rw [← kp_set hn hz, List.map_set]
          exact hal3
        · rw [← kp_set hn hz] at hk
          rcases List.mem_or_eq_of_mem_set hk with q | q
          · exact h2.2.2.2.2.2.2.2.1 k q
          · rw [q]
            exact hnm
  refine lv_aload_n hx hb dc_TH_keepHeld_0 rfl (lv_fd hl rfl) ?_
  refine gh_get hx hb ht nu_TH hown hK.1 hP h.1 rfl 1 (by decide) (ht _ ww_51) (fun _ h9 => h9) rfl dc_TH_keepHeld_1 ?_
  refine gk_si (gk_rV F (b := G.2.2.2.1) (As := []) (rest := []) (ct_AL_size l E _ _ h.2.2.1) ww_73 ww_74 ww_75 ww_4 ww_76 rfl rfl ⟨by decide, by decide, by show _ = some 0; decide +kernel⟩ ⟨Nat.le_of_ble_eq_true rfl, Nat.le_of_ble_eq_true rfl⟩ (by obtain ⟨mk, el, hq, -⟩ := h.2.2.1; exact gh_recv hK.1 hP hq rfl) hK hZ hP hS hA hl.1 rfl (Nat.le_of_ble_eq_true rfl) dc_TH_keepHeld_4 ⟨Nat.le_refl _, Nat.le_refl _⟩) (fun r hr1 => ?_)
  rw [hmlT] at hr1
  subst hr1
  refine lv_istore_n hx hb dc_TH_keepHeld_7 rfl hl (by decide) rfl (fun ls hl => ?_)
  refine lv_iconst (v := nI 0) hx hb dc_TH_keepHeld_8 (by decide) ?_
  refine lv_istore_n hx hb dc_TH_keepHeld_9 rfl hl (by decide) rfl (fun ls hl => ?_)
  refine lv_iconst (v := nI 0) hx hb dc_TH_keepHeld_10 (by decide) ?_
  refine lv_istore_n hx hb dc_TH_keepHeld_11 rfl hl (by decide) rfl (fun ls hl => ?_)
  refine loop1 T.length 0 M s.heap [] ls (by omega) (lv_sub hl [3, 2, 1, 0] rfl) hP hS ?_
  exact h
