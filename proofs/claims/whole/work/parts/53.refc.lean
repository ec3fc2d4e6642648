theorem rf_by1 : rf_by (nI 1) = rf_inc := by
  funext h n
  unfold rf_by rf_inc
  rw [show nI 1 = 1 by decide]
theorem rf_bym : rf_by (-1) = rf_dec := rfl
def stW (w : Nat → Int32) (stk : List Nat) : Prop := ∀ (i o : Nat), stk[i]? = some o → w i = nI o
theorem stW.push {w : Nat → Int32} {stk : List Nat} (h : stW w stk) (o : Nat) : stW (va_up w stk.length (nI o)) (stk ++ [o]) := by
  intro i q hi
  by_cases e : i < stk.length
  · rw [List.getElem?_append_left e] at hi
    rw [va_up_ne _ _ (by omega)]
    exact h i q hi
  · rw [List.getElem?_append_right (by omega)] at hi
    have h1 : i - stk.length < 1 := (List.getElem?_eq_some_iff.mp hi).1
    have h2 : i = stk.length := by omega
    subst h2
    rw [Nat.sub_self] at hi
    cases hi
    exact va_up_self _ _ _
theorem stW.pop {w : Nat → Int32} {stk : List Nat} {o : Nat} (h : stW w (stk ++ [o])) : stW w stk ∧ w stk.length = nI o := by
  refine ⟨fun i q hi => h i q ?_, h stk.length o ?_⟩
  · rw [List.getElem?_append_left (List.getElem?_eq_some_iff.mp hi).1]
    exact hi
  · rw [List.getElem?_append_right (Nat.le_refl _), Nat.sub_self]
    rfl
set_option maxHeartbeats 4000000 in
set_option maxRecDepth 100000 in
theorem ct_MO_count0 (l : Launch) (E : gk_E) (M : gh_M) (sz : Nat) {h0 made cap : Nat} {G : rs_G} {ex : Nat → Bool} {hol w : Nat → Int32} {root : Nat → Option Nat} {row : Nat → List it_I} (h : rs_R E M h0 G made cap ex hol w root row) : Met l yn_MO_count0 (.code yn_MO_count0 cd_MO_count0 5 none :: bw_L) { frames := 2, cells := 0, slots := 0, locals := 60 } (gk_Pre E [.ref h0] M sz) (va_Qv (fun M' => ∃ hol', rs_R E M' h0 G made cap ex hol' w root row ∧ ∀ n, n < made → hol' n = nI ((hd_all ((List.range made).filter ex) root row).count n)) (gk_B E M sz) (gh_A M sz)) 0 0 (gh_A M sz) := by
  refine gk_met rfl (Nat.le_of_ble_eq_true rfl) ?_
  intro p e s m below meth c F hsz hP hK hZ ls hl
  subst hsz
  have hx := F.1
  have hb := F.2.1
  have hr := F.2.2.1
  have hml := F.2.2.2.1
  have hown : s.vm.findClass "ThingHeapModel" = some m.cls := F.2.2.2.2.1
  have hlk := F.2.2.2.2.2.1
  have hnm := F.2.2.2.2.2.2.1
  have ht := fun (w : Cond) (h : w ∈ bw_L) => F.2.2.2.2.2.2.2 w (List.mem_cons_of_mem _ h)
  have hA : ∀ q, s.heap.size ≤ q → gh_A M s.heap.size q := fun q h => Or.inr h
  have hS : va_S (gh_A M s.heap.size) s.heap s.heap [] := va_S.rf
  have hl : lv_has ls 5 [(0, .ref h0)] := hl
  have hcb := h.2.2.2.2.2.2.2.2.2.2
  have loop2 : ∀ (d i : Nat) (M2 : gh_M) (H : Heap) (locs : List Loc) (ls : Array Slot), i + d = made → lv_has ls 5 [(1, .int (nI i)), (0, .ref h0)] → gh_P E.1 cl_L (gh_A M s.heap.size) M2 H → va_S (gh_A M s.heap.size) s.heap H locs → rs_R E M2 h0 G made cap ex ((((List.range i).filter ex).flatMap (fun m => hd_row (row m))).foldl rf_inc ((hd_roots root).foldl rf_inc (fun i => if i < made then nI 0 else hol i))) w root row →
      W p l e ({ frames := 2, cells := 0, slots := 0, locals := 60 } : Room) s m ([.ref h0] : List Value).toArray below meth c H locs 0 0 (MQ below (va_Qv (fun M' => ∃ hol', rs_R E M' h0 G made cap ex hol' w root row ∧ ∀ n, n < made → hol' n = nI ((hd_all ((List.range made).filter ex) root row).count n)) (gk_B E M s.heap.size) (gh_A M s.heap.size)) ([.ref h0] : List Value).toArray s 0 0 (gh_A M s.heap.size)) (F0 m 57 ls []) := by
    intro d
    induction d with
    | zero =>
      intro i M2 H locs ls hid hl hP hS h2
      have him : i = made := by omega
      subst him
      refine lv_iload_n hx hb dc_MO_count0_57 rfl (lv_fd hl rfl) ?_
      refine lv_aload_n hx hb dc_MO_count0_58 rfl (lv_fd hl rfl) ?_
      refine gh_get hx hb ht nu_MO hown hK.1 hP h2.1 rfl 5 (by decide) (ht _ ww_317) (fun _ h9 => h9) rfl dc_MO_count0_59 ?_
      refine gn_ge (tgt := 87) hx hb (by omega) (by omega) dc_MO_count0_62 (by decide) (fun _ => ?_) (fun q => absurd q (by omega))
      refine gk_ev hx hb hr hlk hP hS dc_MO_count0_87 ⟨_, h2, fun n hn => ?_⟩
      rw [← List.foldl_append]
      have := rf_inc_all (hd_all ((List.range i).filter ex) root row) (fun j => if j < i then nI 0 else hol j) n 0 (if_pos hn)
      rw [Nat.zero_add] at this
      exact this
    | succ d ih =>
      intro i M2 H locs ls hid hl hP hS h2
      have him : i < made := by omega
      obtain ⟨fe, hfe, hfe2⟩ := h2.2.2.2.1
      refine lv_iload_n hx hb dc_MO_count0_57 rfl (lv_fd hl rfl) ?_
      refine lv_aload_n hx hb dc_MO_count0_58 rfl (lv_fd hl rfl) ?_
      refine gh_get hx hb ht nu_MO hown hK.1 hP h2.1 rfl 5 (by decide) (ht _ ww_317) (fun _ h9 => h9) rfl dc_MO_count0_59 ?_
      refine gn_ge (tgt := 87) hx hb (by omega) (by omega) dc_MO_count0_62 (by decide) (fun q => absurd q (by omega)) (fun _ => ?_)
      refine lv_aload_n hx hb dc_MO_count0_65 rfl (lv_fd hl rfl) ?_
      refine gh_get hx hb ht nu_MO hown hK.1 hP h2.1 rfl 2 (by decide) (ht _ ww_314) (fun _ h9 => h9) rfl dc_MO_count0_66 ?_
      refine lv_iload_n hx hb dc_MO_count0_69 rfl (lv_fd hl rfl) ?_
      refine gh_iald hx hb hK.1 hP 0 hfe rfl rfl (show i < cap by omega) (by omega) (hfe2 i him) dc_MO_count0_70 ?_
      refine lv_iconst (v := nI 1) hx hb dc_MO_count0_71 (by decide) ?_
      cases hxi : ex i with
      | false =>
        refine lv_icmp_ne (tgt := 81) hx hb dc_MO_count0_72 (by decide) (fun _ => ?_) (fun q => absurd q (by decide))
        refine lv_iinc (k := 0) (v := nI (i + 1)) hx hb dc_MO_count0_81 hl rfl (gh_inc i) (by decide) rfl (fun ls hl => ?_)
        refine lv_goto (tgt := 57) hx hb dc_MO_count0_84 (by decide) ?_
        refine ih (i + 1) M2 H locs ls (by omega) hl hP hS ?_
        rw [List.range_succ, List.filter_append, show List.filter ex [i] = [] by simp [hxi], List.append_nil]
        exact h2
      | true =>
        refine lv_icmp_ne (tgt := 81) hx hb dc_MO_count0_72 (by decide) (fun q => absurd (show cs_B true = nI 1 by decide) q) (fun _ => ?_)
        refine lv_aload_n hx hb dc_MO_count0_75 rfl (lv_fd hl rfl) ?_
        refine lv_iload_n hx hb dc_MO_count0_76 rfl (lv_fd hl rfl) ?_
        refine lv_iconst (v := nI 1) hx hb dc_MO_count0_77 (by decide) ?_
        refine gk_cv (gk_rV F (b := h0) (As := [.int (nI i), .int (nI 1)]) (rest := []) (ct_MO_hold l E _ _ h2 him (nI 1)) ww_373 ww_375 ws_MO_hold ww_5 ww_376 rfl rfl ⟨by decide, by decide, by show _ = some 2; decide +kernel⟩ ⟨Nat.le_of_ble_eq_true rfl, Nat.le_of_ble_eq_true rfl⟩ (gh_recv hK.1 hP h2.1 rfl) hK hZ hP hS hA hl.1 rfl (Nat.le_of_ble_eq_true rfl) dc_MO_count0_78 ⟨Nat.le_of_ble_eq_true rfl, Nat.le_of_ble_eq_true rfl⟩) hP hS hA (fun M3 H locs h3 hP hS => ?_)
        refine lv_iinc (k := 0) (v := nI (i + 1)) hx hb dc_MO_count0_81 hl rfl (gh_inc i) (by decide) rfl (fun ls hl => ?_)
        refine lv_goto (tgt := 57) hx hb dc_MO_count0_84 (by decide) ?_
        refine ih (i + 1) M3 H locs ls (by omega) hl hP hS ?_
        rw [List.range_succ, List.filter_append, show List.filter ex [i] = [i] by simp [hxi], List.flatMap_append, List.foldl_append, List.flatMap_cons, List.flatMap_nil, List.append_nil]
        rw [rf_by1] at h3
        exact h3
  have loop1 : ∀ (d r : Nat) (M2 : gh_M) (H : Heap) (locs : List Loc) (ls : Array Slot), r + d = 16 → lv_has ls 5 [(3, .int (nI r)), (2, .int (nI 16)), (1, .ref G.2.2.2.2.2.2), (0, .ref h0)] → gh_P E.1 cl_L (gh_A M s.heap.size) M2 H → va_S (gh_A M s.heap.size) s.heap H locs → rs_R E M2 h0 G made cap ex (((List.range r).filterMap root).foldl rf_inc (fun i => if i < made then nI 0 else hol i)) w root row →
      W p l e ({ frames := 2, cells := 0, slots := 0, locals := 60 } : Room) s m ([.ref h0] : List Value).toArray below meth c H locs 0 0 (MQ below (va_Qv (fun M' => ∃ hol', rs_R E M' h0 G made cap ex hol' w root row ∧ ∀ n, n < made → hol' n = nI ((hd_all ((List.range made).filter ex) root row).count n)) (gk_B E M s.heap.size) (gh_A M s.heap.size)) ([.ref h0] : List Value).toArray s 0 0 (gh_A M s.heap.size)) (F0 m 23 ls []) := by
    intro d
    induction d with
    | zero =>
      intro r M2 H locs ls hid hl hP hS h2
      have hr16 : r = 16 := by omega
      subst hr16
      refine lv_iload_n hx hb dc_MO_count0_23 rfl (lv_fd hl rfl) ?_
      refine lv_iload_n hx hb dc_MO_count0_24 rfl (lv_fd hl rfl) ?_
      refine gn_ge (tgt := 55) hx hb (by omega) (by omega) dc_MO_count0_25 (by decide) (fun _ => ?_) (fun q => absurd q (by omega))
      refine lv_iconst (v := nI 0) hx hb dc_MO_count0_55 (by decide) ?_
      refine lv_istore_n hx hb dc_MO_count0_56 rfl hl (by decide) rfl (fun ls hl => ?_)
      exact loop2 made 0 M2 H locs ls (by omega) (lv_sub hl [0, 3] rfl) hP hS h2
    | succ d ih =>
      intro r M2 H locs ls hid hl hP hS h2
      have hr16 : r < 16 := by omega
      obtain ⟨fr, hfr, hfr2⟩ := h2.2.2.2.2.2.2.1
      refine lv_iload_n hx hb dc_MO_count0_23 rfl (lv_fd hl rfl) ?_
      refine lv_iload_n hx hb dc_MO_count0_24 rfl (lv_fd hl rfl) ?_
      refine gn_ge (tgt := 55) hx hb (by omega) (by omega) dc_MO_count0_25 (by decide) (fun q => absurd q (by omega)) (fun _ => ?_)
      refine lv_aload_n hx hb dc_MO_count0_28 rfl (lv_fd hl rfl) ?_
      refine lv_iload_n hx hb dc_MO_count0_29 rfl (lv_fd hl rfl) ?_
      refine gh_iald hx hb hK.1 hP 0 hfr rfl rfl hr16 (by omega) (hfr2 r hr16) dc_MO_count0_30 ?_
      refine lv_istore hx hb dc_MO_count0_31 hl (by decide) rfl (fun ls hl => ?_)
      refine lv_iload hx hb dc_MO_count0_33 (lv_fd hl rfl) ?_
      cases hrr : root r with
      | none =>
        rw [hrr] at hl
        refine lv_if_lt (tgt := 49) hx hb dc_MO_count0_35 (by decide) (fun _ => ?_) (fun q => absurd (show rt_v none < 0 by decide) q)
        refine lv_iinc (k := 1) (v := nI (r + 1)) hx hb dc_MO_count0_49 hl rfl (gh_inc r) (by decide) rfl (fun ls hl => ?_)
        refine lv_goto (tgt := 23) hx hb dc_MO_count0_52 (by decide) ?_
        refine ih (r + 1) M2 H locs ls (by omega) (lv_sub hl [0, 2, 3, 4] rfl) hP hS ?_
        rw [List.range_succ, List.filterMap_append, show List.filterMap root [r] = [] by simp [hrr], List.append_nil]
        exact h2
      | some n =>
        rw [hrr] at hl
        have hn := h2.2.2.2.2.2.2.2.2.1 r hr16 n hrr
        refine lv_if_lt (tgt := 49) hx hb dc_MO_count0_35 (by decide) (fun q => absurd q (nI_pos (n := n) (by omega))) (fun _ => ?_)
        have hl : lv_has ls 5 [(4, .int (nI n)), (3, .int (nI r)), (2, .int (nI 16)), (1, .ref G.2.2.2.2.2.2), (0, .ref h0)] := hl
        refine lv_aload_n hx hb dc_MO_count0_38 rfl (lv_fd hl rfl) ?_
        refine gh_get hx hb ht nu_MO hown hK.1 hP h2.1 rfl 3 (by decide) (ht _ ww_315) (fun _ h9 => h9) rfl dc_MO_count0_39 ?_
        refine lv_iload hx hb dc_MO_count0_42 (lv_fd hl rfl) ?_
        refine lv_dup2_11 hx hb dc_MO_count0_44 rfl rfl ?_
        refine gh_iald hx hb hK.1 hP 0 h2.2.2.2.2.1 rfl rfl (show n < cap by omega) (by omega) rfl dc_MO_count0_45 ?_
        refine lv_iconst (v := nI 1) hx hb dc_MO_count0_46 (by decide) ?_
        refine lv_iadd hx hb dc_MO_count0_47 ?_
        refine gm_iast hx hb hK.1 hP hS 0 h2.2.2.2.2.1 rfl rfl (show n < cap by omega) (by omega) dc_MO_count0_48 (fun H locs hP hS => ?_)
        refine lv_iinc (k := 1) (v := nI (r + 1)) hx hb dc_MO_count0_49 hl rfl (gh_inc r) (by decide) rfl (fun ls hl => ?_)
        refine lv_goto (tgt := 23) hx hb dc_MO_count0_52 (by decide) ?_
        refine ih (r + 1) _ H locs ls (by omega) (lv_sub hl [0, 2, 3, 4] rfl) hP hS ?_
        rw [List.range_succ, List.filterMap_append, show List.filterMap root [r] = [n] by simp [hrr], List.foldl_append]
        have h3 := h2.upHol (f := rf_by (nI 1) (((List.range r).filterMap root).foldl rf_inc (fun i => if i < made then nI 0 else hol i)) n)
        rw [rf_by1] at h3
        exact h3
  refine lv_aload_n hx hb dc_MO_count0_0 rfl (lv_fd hl rfl) ?_
  refine gh_get hx hb ht nu_MO hown hK.1 hP h.1 rfl 3 (by decide) (ht _ ww_315) (fun _ h9 => h9) rfl dc_MO_count0_1 ?_
  refine lv_iconst (v := nI 0) hx hb dc_MO_count0_4 (by decide) ?_
  refine lv_aload_n hx hb dc_MO_count0_5 rfl (lv_fd hl rfl) ?_
  refine gh_get hx hb ht nu_MO hown hK.1 hP h.1 rfl 5 (by decide) (ht _ ww_317) (fun _ h9 => h9) rfl dc_MO_count0_6 ?_
  refine lv_iconst (v := nI 0) hx hb dc_MO_count0_9 (by decide) ?_
  refine gk_cv (gk_rS F (As := [.ref G.2.2.2.2.1, .int (nI 0), .int (nI made), .int (nI 0)]) (rest := []) (ct_AR_fill4 l E _ _ h.2.2.2.2.1 (by omega) hcb.1 (nI 0)) ww_367 ww_368 ww_6 ww_369 rfl rfl ⟨by decide, by decide, by show _ = some 4; decide +kernel⟩ ⟨Nat.le_of_ble_eq_true rfl, Nat.le_of_ble_eq_true rfl⟩ hK hZ hP hS hA hl.1 rfl (Nat.le_of_ble_eq_true rfl) dc_MO_count0_10 ⟨Nat.le_of_ble_eq_true rfl, Nat.le_of_ble_eq_true rfl⟩) hP hS hA (fun M1 H locs h1 hP hS => ?_)
  have h2 := h.setHol (M' := M1) (f := fun i => if i < made then nI 0 else hol i) (fun q => by
    by_cases e : q = G.2.2.2.2.1
    · subst e
      exact Or.inr ⟨Or.inr ⟨_, h.2.2.2.2.1⟩, _, h1.1⟩
    · exact Or.inl (h1.2 q e)) h1.1
  obtain ⟨fr, hfr, hfr2⟩ := h2.2.2.2.2.2.2.1
  refine lv_aload_n hx hb dc_MO_count0_13 rfl (lv_fd hl rfl) ?_
  refine gh_get hx hb ht nu_MO hown hK.1 hP h2.1 rfl 7 (by decide) (ht _ ww_319) (fun _ h9 => h9) rfl dc_MO_count0_14 ?_
  refine lv_astore_n hx hb dc_MO_count0_17 rfl hl (by decide) rfl (fun ls hl => ?_)
  refine lv_aload_n hx hb dc_MO_count0_18 rfl (lv_fd hl rfl) ?_
  refine gh_alen hx hb hK.1 hP 0 hfr rfl rfl dc_MO_count0_19 ?_
  refine lv_istore_n hx hb dc_MO_count0_20 rfl hl (by decide) rfl (fun ls hl => ?_)
  refine lv_iconst (v := nI 0) hx hb dc_MO_count0_21 (by decide) ?_
  refine lv_istore_n hx hb dc_MO_count0_22 rfl hl (by decide) rfl (fun ls hl => ?_)
  exact loop1 16 0 M1 H locs ls (by omega) hl hP hS h2
theorem rf_gl {made : Nat} {stk : List Nat} {ex : Nat → Bool} (h1 : stk.Nodup) (h2 : ∀ n ∈ stk, ex n = false) (h3 : ∀ n ∈ stk, n < made) {n : Nat} (hn : n < made) (he : ex n = true) : stk.length < made := by
  have h := nd_le (n :: stk) (List.range made) (List.nodup_cons.mpr ⟨fun q => (by rw [h2 n q] at he; cases he), h1⟩) (fun k hk => by
    rcases List.mem_cons.mp hk with q | q
    · rw [q]; exact List.mem_range.mpr hn
    · exact List.mem_range.mpr (h3 k q))
  rw [List.length_range, List.length_cons] at h
  exact h
theorem rf_loop_nil (row : Nat → List it_I) (f : Nat) (ex : Nat → Bool) (hol : Nat → Int32) : rf_loop row f (ex, hol, []) = (ex, hol, []) := by cases f <;> rfl
theorem rf_loop_snoc (row : Nat → List it_I) (f : Nat) (ex : Nat → Bool) (hol : Nat → Int32) (stk : List Nat) (o : Nat) : rf_loop row (f + 1) (ex, hol, stk ++ [o]) = rf_loop row f (rf_pop row (ex, hol, stk ++ [o]) o) := by
  show (match (stk ++ [o]).getLast? with | none => _ | some o => _) = _
  rw [List.getLast?_concat]
set_option maxHeartbeats 4000000 in
set_option maxRecDepth 100000 in
theorem ct_MO_settle (l : Launch) (E : gk_E) (M : gh_M) (sz : Nat) {h0 made cap : Nat} {G : rs_G} {ex : Nat → Bool} {hol w : Nat → Int32} {root : Nat → Option Nat} {row : Nat → List it_I} (h : rs_R E M h0 G made cap ex hol w root row) (hrow : ∀ m ∈ (List.range made).filter ex, ∀ n ∈ hd_row (row m), n ∈ (List.range made).filter ex) (hbd : ∀ n, (hd_all ((List.range made).filter ex) root row).count n < 2 ^ 31) : Met l yn_MO_settle (.code yn_MO_settle cd_MO_settle 5 none :: bw_L) { frames := 3, cells := 0, slots := 0, locals := 90 } (gk_Pre E [.ref h0] M sz) (va_Qv (fun M' => ∃ (ex' : Nat → Bool) (hol' w' : Nat → Int32), rs_R E M' h0 G made cap ex' hol' w' root row ∧ (List.range made).filter ex' = sv_T ((List.range made).filter ex) root row) (gk_B E M sz) (gh_A M sz)) 0 0 (gh_A M sz) := by
  refine gk_met rfl (Nat.le_of_ble_eq_true rfl) ?_
  intro p e s m below meth c F hsz hP hK hZ ls hl
  subst hsz
  have hx := F.1
  have hb := F.2.1
  have hr := F.2.2.1
  have hml := F.2.2.2.1
  have hown : s.vm.findClass "ThingHeapModel" = some m.cls := F.2.2.2.2.1
  have hlk := F.2.2.2.2.2.1
  have hnm := F.2.2.2.2.2.2.1
  have ht := fun (w : Cond) (h : w ∈ bw_L) => F.2.2.2.2.2.2.2 w (List.mem_cons_of_mem _ h)
  have hA : ∀ q, s.heap.size ≤ q → gh_A M s.heap.size q := fun q h => Or.inr h
  have hS : va_S (gh_A M s.heap.size) s.heap s.heap [] := va_S.rf
  have hl : lv_has ls 5 [(0, .ref h0)] := hl
  have hcb := h.2.2.2.2.2.2.2.2.2.2
  refine lv_aload_n hx hb dc_MO_settle_0 rfl (lv_fd hl rfl) ?_
  refine gk_cv (gk_rV F (b := h0) (As := []) (rest := []) (ct_MO_count0 l E _ _ h) ww_363 ww_365 ws_MO_count0 ww_5 ww_366 rfl rfl ⟨by decide, by decide, by show _ = some 0; decide +kernel⟩ ⟨Nat.le_of_ble_eq_true rfl, Nat.le_of_ble_eq_true rfl⟩ (gh_recv hK.1 hP h.1 rfl) hK hZ hP hS hA hl.1 rfl (Nat.le_of_ble_eq_true rfl) dc_MO_settle_1 ⟨Nat.le_of_ble_eq_true rfl, Nat.le_of_ble_eq_true rfl⟩) hP hS hA (fun M1 H locs h1 hP hS => ?_)
  obtain ⟨holc, h1, hcnt⟩ := h1
  obtain ⟨hs1, hs2, -⟩ := rf_settled (root := root) (row := row) rfl hrow hcnt hbd
  have loop2 : ∀ (f : Nat) (ex1 : Nat → Bool) (hol1 w1 : Nat → Int32) (stk1 : List Nat) (M2 : gh_M) (H : Heap) (locs : List Loc) (ls : Array Slot), lv_has ls 5 [(1, .int (nI stk1.length)), (0, .ref h0)] → stk1.Nodup → (∀ n ∈ stk1, ex1 n = false) → (∀ n ∈ stk1, n < made) → rf_loop row f (ex1, hol1, stk1) = rf_settle made row ex holc → gh_P E.1 cl_L (gh_A M s.heap.size) M2 H → va_S (gh_A M s.heap.size) s.heap H locs → rs_R E M2 h0 G made cap ex1 hol1 w1 root row → stW w1 stk1 →
      W p l e ({ frames := 3, cells := 0, slots := 0, locals := 90 } : Room) s m ([.ref h0] : List Value).toArray below meth c H locs (0 + 0) (0 + 0) (MQ below (va_Qv (fun M' => ∃ (ex' : Nat → Bool) (hol' w' : Nat → Int32), rs_R E M' h0 G made cap ex' hol' w' root row ∧ (List.range made).filter ex' = sv_T ((List.range made).filter ex) root row) (gk_B E M s.heap.size) (gh_A M s.heap.size)) ([.ref h0] : List Value).toArray s 0 0 (gh_A M s.heap.size)) (F0 m 48 ls []) := by
    intro f
    induction f with
    | zero =>
      intro ex1 hol1 w1 stk1 M2 H locs ls hl i1 i2 i3 hlp hP hS h2 hw
      have hst : stk1 = [] := by
        rw [← hlp] at hs2
        exact hs2
      subst hst
      refine lv_iload_n hx hb dc_MO_settle_48 rfl (lv_fd hl rfl) ?_
      refine gn_ifle (tgt := 157) hx hb (by decide) dc_MO_settle_49 (by decide) (fun _ => ?_) (fun q => absurd q (by decide))
      refine gk_ev hx hb hr hlk hP hS dc_MO_settle_157 ⟨_, _, _, h2, ?_⟩
      rw [← hs1, ← hlp]
      rfl
    | succ f ih =>
      intro ex1 hol1 w1 stk1 M2 H locs ls hl i1 i2 i3 hlp hP hS h2 hw
      rcases List.eq_nil_or_concat stk1 with rfl | ⟨stk, o, hcc⟩
      · rw [rf_loop_nil] at hlp
        refine lv_iload_n hx hb dc_MO_settle_48 rfl (lv_fd hl rfl) ?_
        refine gn_ifle (tgt := 157) hx hb (by decide) dc_MO_settle_49 (by decide) (fun _ => ?_) (fun q => absurd q (by decide))
        refine gk_ev hx hb hr hlk hP hS dc_MO_settle_157 ⟨_, _, _, h2, ?_⟩
        rw [← hs1, ← hlp]
      rw [List.concat_eq_append] at hcc
      subst hcc
      have ho : o < made := i3 o (List.mem_append_right _ (List.mem_singleton.mpr rfl))
      have hsl : (stk ++ [o]).length = stk.length + 1 := by rw [List.length_append]; rfl
      have hnd := (List.nodup_append.mp i1)
      have hlen : stk.length + 1 ≤ made := by
        have := nd_le (stk ++ [o]) (List.range made) i1 (fun n hn => List.mem_range.mpr (i3 n hn))
        rw [List.length_range, hsl] at this
        exact this
      rw [rf_loop_snoc] at hlp
      rw [hsl] at hl
      obtain ⟨hw1, hw2⟩ := hw.pop
      refine lv_iload_n hx hb dc_MO_settle_48 rfl (lv_fd hl rfl) ?_
      refine gn_ifle (tgt := 157) hx hb (by omega) dc_MO_settle_49 (by decide) (fun q => absurd q (by omega)) (fun _ => ?_)
      refine lv_iinc (k := 0) (v := nI stk.length) hx hb dc_MO_settle_52 hl rfl (gm_dec stk.length) (by decide) rfl (fun ls hl => ?_)
      refine lv_aload_n hx hb dc_MO_settle_55 rfl (lv_fd hl rfl) ?_
      refine gh_get hx hb ht nu_MO hown hK.1 hP h2.1 rfl 4 (by decide) (ht _ ww_316) (fun _ h9 => h9) rfl dc_MO_settle_56 ?_
      refine lv_iload_n hx hb dc_MO_settle_59 rfl (lv_fd hl rfl) ?_
      refine gh_iald hx hb hK.1 hP 0 h2.2.2.2.2.2.1 rfl rfl (show stk.length < cap by omega) (by omega) hw2 dc_MO_settle_60 ?_
      refine lv_istore_n hx hb dc_MO_settle_61 rfl hl (by decide) rfl (fun ls hl => ?_)
      refine lv_aload_n hx hb dc_MO_settle_62 rfl (lv_fd hl rfl) ?_
      refine lv_iload_n hx hb dc_MO_settle_63 rfl (lv_fd hl rfl) ?_
      refine lv_iconst (v := (-1)) hx hb dc_MO_settle_64 (by decide) ?_
      refine gk_cv (gk_rV F (b := h0) (As := [.int (nI o), .int (-1)]) (rest := []) (ct_MO_hold l E _ _ h2 ho (-1)) ww_373 ww_375 ws_MO_hold ww_5 ww_376 rfl rfl ⟨by decide, by decide, by show _ = some 2; decide +kernel⟩ ⟨Nat.le_of_ble_eq_true rfl, Nat.le_of_ble_eq_true rfl⟩ (gh_recv hK.1 hP h2.1 rfl) hK hZ hP hS hA hl.1 rfl (Nat.le_of_ble_eq_true rfl) dc_MO_settle_65 ⟨Nat.le_of_ble_eq_true rfl, Nat.le_of_ble_eq_true rfl⟩) hP hS hA (fun M3 H locs h3 hP hS => ?_)
      rw [rf_bym] at h3
      have hpop : rf_pop row (ex1, hol1, stk ++ [o]) o = (((hd_row (row o)).foldl (rf_gone ((hd_row (row o)).foldl rf_dec hol1)) (ex1, stk)).1, (hd_row (row o)).foldl rf_dec hol1, ((hd_row (row o)).foldl (rf_gone ((hd_row (row o)).foldl rf_dec hol1)) (ex1, stk)).2) := by
        unfold rf_pop
        dsimp only
        rw [List.dropLast_concat]
      rw [hpop] at hlp
      generalize (hd_row (row o)).foldl rf_dec hol1 = hol2 at h3 hlp
      have j1 : stk.Nodup := hnd.1
      have j2 : ∀ n ∈ stk, ex1 n = false := fun n hn => i2 n (List.mem_append_left _ hn)
      have j3 : ∀ n ∈ stk, n < made := fun n hn => i3 n (List.mem_append_left _ hn)
      have hrm : ∀ n ∈ hd_row (row o), n < made := by
        intro n hn
        obtain ⟨x, hx1, hx2⟩ := List.mem_filterMap.mp hn
        exact h3.2.2.2.2.2.2.2.2.2.1 o ho x hx1 n hx2
      have hG := fun k => rf_gone_all (made := made) hol2 (hd_row ((row o).take k)) (ex1, stk) j1 j2 j3 (fun n hn => by
        obtain ⟨x, hx1, hx2⟩ := List.mem_filterMap.mp hn
        exact hrm n (List.mem_filterMap.mpr ⟨x, List.mem_of_mem_take hx1, hx2⟩))
      have inner : ∀ (d k : Nat) (a : (Nat → Bool) × List Nat) (w2 : Nat → Int32) (M2 : gh_M) (H : Heap) (locs : List Loc) (ls : Array Slot), k + d = (row o).length → a = ((hd_row ((row o).take k)).foldl (rf_gone hol2) (ex1, stk)) → lv_has ls 5 [(3, .int (nI k)), (2, .int (nI o)), (1, .int (nI a.2.length)), (0, .ref h0)] → gh_P E.1 cl_L (gh_A M s.heap.size) M2 H → va_S (gh_A M s.heap.size) s.heap H locs → rs_R E M2 h0 G made cap a.1 hol2 w2 root row → stW w2 a.2 →
          W p l e ({ frames := 3, cells := 0, slots := 0, locals := 90 } : Room) s m ([.ref h0] : List Value).toArray below meth c H locs (0 + 0) (0 + 0) (MQ below (va_Qv (fun M' => ∃ (ex' : Nat → Bool) (hol' w' : Nat → Int32), rs_R E M' h0 G made cap ex' hol' w' root row ∧ (List.range made).filter ex' = sv_T ((List.range made).filter ex) root row) (gk_B E M s.heap.size) (gh_A M s.heap.size)) ([.ref h0] : List Value).toArray s 0 0 (gh_A M s.heap.size)) (F0 m 70 ls []) := by
        intro d
        induction d with
        | zero =>
          intro k a w2 M2 H locs ls hkd hak hl hP hS h2 hw
          have hko : k = (row o).length := by omega
          obtain ⟨fm, hfm, hfm2⟩ := h2.2.2.1
          obtain ⟨cc9, fl, hrw, hc4, hc6, hrl, hr3, hfl⟩ := h2.2.2.2.2.2.2.2.1 o ho
          refine lv_iload_n hx hb dc_MO_settle_70 rfl (lv_fd hl rfl) ?_
          refine lv_aload_n hx hb dc_MO_settle_71 rfl (lv_fd hl rfl) ?_
          refine gh_get hx hb ht nu_MO hown hK.1 hP h2.1 rfl 1 (by decide) (ht _ ww_313) (fun _ h9 => h9) rfl dc_MO_settle_72 ?_
          refine lv_iload_n hx hb dc_MO_settle_75 rfl (lv_fd hl rfl) ?_
          refine gh_iald hx hb hK.1 hP 0 hfm rfl rfl (show o < cap by omega) (by omega) (hfm2 o ho) dc_MO_settle_76 ?_
          refine gn_ge (tgt := 154) hx hb (by omega) (by omega) dc_MO_settle_77 (by decide) (fun _ => ?_) (fun q => absurd q (by omega))
          refine lv_goto (tgt := 48) hx hb dc_MO_settle_154 (by decide) ?_
          obtain ⟨g1, g2, g3, -⟩ := hG k
          rw [← hak] at g1 g2 g3
          rw [hko, List.take_length] at hak
          exact ih a.1 hol2 w2 a.2 M2 H locs ls (lv_sub hl [2, 3] rfl) g1 g2 g3 (by rw [hak]; exact hlp) hP hS h2 hw
        | succ d ih2 =>
          intro k a w2 M2 H locs ls hkd hak hl hP hS h2 hw
          obtain ⟨g1, g2, g3, -⟩ := hG k
          rw [← hak] at g1 g2 g3
          obtain ⟨fi, hfi, hfi2, -⟩ := h2.2.1
          obtain ⟨fm, hfm, hfm2⟩ := h2.2.2.1
          obtain ⟨fe, hfe, hfe2⟩ := h2.2.2.2.1
          obtain ⟨cc9, fl, hrw, hc4, hc6, hrl, hr3, hfl⟩ := h2.2.2.2.2.2.2.2.1 o ho
          obtain ⟨x, hxk⟩ : ∃ x, (row o)[k]? = some x := ⟨(row o)[k]'(by omega), List.getElem?_eq_getElem (by omega)⟩
          have hfx := hfl k x hxk
          have hstep := hd_take hxk
          refine lv_iload_n hx hb dc_MO_settle_70 rfl (lv_fd hl rfl) ?_
          refine lv_aload_n hx hb dc_MO_settle_71 rfl (lv_fd hl rfl) ?_
          refine gh_get hx hb ht nu_MO hown hK.1 hP h2.1 rfl 1 (by decide) (ht _ ww_313) (fun _ h9 => h9) rfl dc_MO_settle_72 ?_
          refine lv_iload_n hx hb dc_MO_settle_75 rfl (lv_fd hl rfl) ?_
          refine gh_iald hx hb hK.1 hP 0 hfm rfl rfl (show o < cap by omega) (by omega) (hfm2 o ho) dc_MO_settle_76 ?_
          refine gn_ge (tgt := 154) hx hb (by omega) (by omega) dc_MO_settle_77 (by decide) (fun q => absurd q (by omega)) (fun _ => ?_)
          refine lv_aload_n hx hb dc_MO_settle_80 rfl (lv_fd hl rfl) ?_
          refine gh_get hx hb ht nu_MO hown hK.1 hP h2.1 rfl 0 (by decide) (ht _ ww_312) (fun _ h9 => h9) rfl dc_MO_settle_81 ?_
          refine lv_iload_n hx hb dc_MO_settle_84 rfl (lv_fd hl rfl) ?_
          refine gh_aald (v := .ref (G.1 o)) hx hb hK.1 hP 4 hfi rfl rfl rfl (show o < cap by omega) (by omega) (by rw [hfi2 o ho]; rfl) dc_MO_settle_85 ?_
          refine lv_iload_n hx hb dc_MO_settle_86 rfl (lv_fd hl rfl) ?_
          refine gh_lald hx hb hK.1 hP 1 hrw rfl rfl (show k < cc9 by omega) (by omega) hfx dc_MO_settle_87 ?_
          refine lv_ldc2 hx hb hown (ht _ ww_377) dc_MO_settle_88 ?_
          refine W.lcmp hx hb dc_MO_settle_91 ?_
          cases hx1 : x.1 with
          | none =>
            refine lv_if_lt (tgt := 111) hx hb dc_MO_settle_92 (by decide) (fun _ => ?_) (fun q => absurd ((lg_cmp_lt _ _).mpr (it_lo hx1)) q)
            refine lv_iconst (v := (-1)) hx hb dc_MO_settle_111 (by decide) ?_
            refine lv_istore hx hb dc_MO_settle_112 hl (by decide) rfl (fun ls hl => ?_)
            refine lv_iload hx hb dc_MO_settle_114 (lv_fd hl rfl) ?_
            refine lv_if_lt (tgt := 148) hx hb dc_MO_settle_116 (by decide) (fun _ => ?_) (fun q => absurd (show (-1 : Int32) < 0 by decide) q)
            refine lv_iinc (k := 1) (v := nI (k + 1)) hx hb dc_MO_settle_148 hl rfl (gh_inc k) (by decide) rfl (fun ls hl => ?_)
            refine lv_goto (tgt := 70) hx hb dc_MO_settle_151 (by decide) ?_
            refine ih2 (k + 1) a w2 M2 H locs ls (by omega) ?_ (lv_sub hl [0, 2, 3, 4] rfl) hP hS h2 hw
            rw [hstep, hx1, hak]
            show _ = List.foldl (rf_gone hol2) (ex1, stk) (hd_row ((row o).take k) ++ [])
            rw [List.append_nil]
          | some n =>
            have hnm := h2.2.2.2.2.2.2.2.2.2.1 o ho x (List.mem_of_getElem? hxk) n hx1
            have hfx2 : fl k = lN (1099511627776 + n) := hfx.trans (it_some hx1)
            have hnext : List.foldl (rf_gone hol2) (ex1, stk) (hd_row ((row o).take (k + 1))) = rf_gone hol2 a n := by
              rw [hstep, hx1, hak]
              show List.foldl (rf_gone hol2) (ex1, stk) (hd_row ((row o).take k) ++ [n]) = _
              rw [List.foldl_append]
              rfl
            refine lv_if_lt (tgt := 111) hx hb dc_MO_settle_92 (by decide) (fun q => absurd ((lg_cmp_lt _ _).mp q) (it_hi hx1 (by omega))) (fun _ => ?_)
            refine lv_aload_n hx hb dc_MO_settle_95 rfl (lv_fd hl rfl) ?_
            refine gh_get hx hb ht nu_MO hown hK.1 hP h2.1 rfl 0 (by decide) (ht _ ww_312) (fun _ h9 => h9) rfl dc_MO_settle_96 ?_
            refine lv_iload_n hx hb dc_MO_settle_99 rfl (lv_fd hl rfl) ?_
            refine gh_aald (v := .ref (G.1 o)) hx hb hK.1 hP 4 hfi rfl rfl rfl (show o < cap by omega) (by omega) (by rw [hfi2 o ho]; rfl) dc_MO_settle_100 ?_
            refine lv_iload_n hx hb dc_MO_settle_101 rfl (lv_fd hl rfl) ?_
            refine gh_lald hx hb hK.1 hP 1 hrw rfl rfl (show k < cc9 by omega) (by omega) hfx2 dc_MO_settle_102 ?_
            refine lv_ldc2 hx hb hown (ht _ ww_377) dc_MO_settle_103 ?_
            refine lv_lsub hx hb dc_MO_settle_106 ?_
            refine gh_topl (it_sub n) ?_
            refine lv_l2i (v := nI n) hx hb dc_MO_settle_107 (lN_i n) ?_
            refine lv_goto (tgt := 112) hx hb dc_MO_settle_108 (by decide) ?_
            refine lv_istore hx hb dc_MO_settle_112 hl (by decide) rfl (fun ls hl => ?_)
            refine lv_iload hx hb dc_MO_settle_114 (lv_fd hl rfl) ?_
            refine lv_if_lt (tgt := 148) hx hb dc_MO_settle_116 (by decide) (fun q => absurd q (nI_pos (n := n) (by omega))) (fun _ => ?_)
            refine lv_aload_n hx hb dc_MO_settle_119 rfl (lv_fd hl rfl) ?_
            refine gh_get hx hb ht nu_MO hown hK.1 hP h2.1 rfl 2 (by decide) (ht _ ww_314) (fun _ h9 => h9) rfl dc_MO_settle_120 ?_
            refine lv_iload hx hb dc_MO_settle_123 (lv_fd hl rfl) ?_
            refine gh_iald hx hb hK.1 hP 0 hfe rfl rfl (show n < cap by omega) (by omega) (hfe2 n hnm) dc_MO_settle_125 ?_
            refine lv_iconst (v := nI 1) hx hb dc_MO_settle_126 (by decide) ?_
            cases hxn : a.1 n with
            | false =>
              refine lv_icmp_ne (tgt := 148) hx hb dc_MO_settle_127 (by decide) (fun _ => ?_) (fun q => absurd q (by decide))
              refine lv_iinc (k := 1) (v := nI (k + 1)) hx hb dc_MO_settle_148 hl rfl (gh_inc k) (by decide) rfl (fun ls hl => ?_)
              refine lv_goto (tgt := 70) hx hb dc_MO_settle_151 (by decide) ?_
              refine ih2 (k + 1) a w2 M2 H locs ls (by omega) ?_ (lv_sub hl [0, 2, 3, 4] rfl) hP hS h2 hw
              rw [hnext]
              exact (if_neg (fun q => by rw [hxn] at q; cases q.1)).symm
            | true =>
              refine lv_icmp_ne (tgt := 148) hx hb dc_MO_settle_127 (by decide) (fun q => absurd (show cs_B true = nI 1 by decide) q) (fun _ => ?_)
              refine lv_aload_n hx hb dc_MO_settle_130 rfl (lv_fd hl rfl) ?_
              refine gh_get hx hb ht nu_MO hown hK.1 hP h2.1 rfl 3 (by decide) (ht _ ww_315) (fun _ h9 => h9) rfl dc_MO_settle_131 ?_
              refine lv_iload hx hb dc_MO_settle_134 (lv_fd hl rfl) ?_
              refine gh_iald hx hb hK.1 hP 0 h2.2.2.2.2.1 rfl rfl (show n < cap by omega) (by omega) rfl dc_MO_settle_136 ?_
              refine lv_if_ne (tgt := 148) hx hb dc_MO_settle_137 (by decide) (fun hz => ?_) (fun hz => ?_)
              · refine lv_iinc (k := 1) (v := nI (k + 1)) hx hb dc_MO_settle_148 hl rfl (gh_inc k) (by decide) rfl (fun ls hl => ?_)
                refine lv_goto (tgt := 70) hx hb dc_MO_settle_151 (by decide) ?_
                refine ih2 (k + 1) a w2 M2 H locs ls (by omega) ?_ (lv_sub hl [0, 2, 3, 4] rfl) hP hS h2 hw
                rw [hnext]
                exact (if_neg (fun q => hz q.2)).symm
              · have hlt := rf_gl g1 g2 g3 hnm hxn
                have hgn : rf_gone hol2 a n = (va_up a.1 n false, a.2 ++ [n]) := if_pos ⟨hxn, hz⟩
                refine lv_aload_n hx hb dc_MO_settle_140 rfl (lv_fd hl rfl) ?_
                refine lv_iload hx hb dc_MO_settle_141 (lv_fd hl rfl) ?_
                refine lv_iload_n hx hb dc_MO_settle_143 rfl (lv_fd hl rfl) ?_
                refine gk_ci (gk_rV F (b := h0) (As := [.int (nI n), .int (nI a.2.length)]) (rest := []) (ct_MO_gone l E _ _ h2 hnm hxn (show a.2.length < cap by omega)) ww_378 ww_380 ws_MO_gone ww_5 ww_381 rfl rfl ⟨by decide, by decide, by show _ = some 2; decide +kernel⟩ ⟨Nat.le_of_ble_eq_true rfl, Nat.le_of_ble_eq_true rfl⟩ (gh_recv hK.1 hP h2.1 rfl) hK hZ hP hS hA hl.1 rfl (Nat.le_of_ble_eq_true rfl) dc_MO_settle_144 ⟨Nat.le_of_ble_eq_true rfl, Nat.le_of_ble_eq_true rfl⟩) hP hS hA (fun r M4 H locs h4 hP hS => ?_)
                obtain ⟨rfl, h4⟩ := h4
                refine lv_istore_n hx hb dc_MO_settle_147 rfl hl (by decide) rfl (fun ls hl => ?_)
                refine lv_iinc (k := 2) (v := nI (k + 1)) hx hb dc_MO_settle_148 hl rfl (gh_inc k) (by decide) rfl (fun ls hl => ?_)
                refine lv_goto (tgt := 70) hx hb dc_MO_settle_151 (by decide) ?_
                refine ih2 (k + 1) (rf_gone hol2 a n) _ M4 H locs ls (by omega) hnext.symm ?_ hP hS (by rw [hgn]; exact h4) (by rw [hgn]; exact hw.push n)
                rw [hgn, List.length_append]
                exact lv_sub hl [0, 3, 1, 4] rfl
      refine lv_iconst (v := nI 0) hx hb dc_MO_settle_68 (by decide) ?_
      refine lv_istore_n hx hb dc_MO_settle_69 rfl hl (by decide) rfl (fun ls hl => ?_)
      exact inner (row o).length 0 (ex1, stk) w1 M3 H locs ls (by omega) rfl (lv_sub hl [0, 1, 2, 3] rfl) hP hS h3 hw1
  have loop1 : ∀ (d i : Nat) (a : (Nat → Bool) × List Nat) (w2 : Nat → Int32) (M2 : gh_M) (H : Heap) (locs : List Loc) (ls : Array Slot), i + d = made → a = ((List.range i).foldl (rf_gone holc) (ex, [])) → a.2.length ≤ i → lv_has ls 5 [(2, .int (nI i)), (1, .int (nI a.2.length)), (0, .ref h0)] → gh_P E.1 cl_L (gh_A M s.heap.size) M2 H → va_S (gh_A M s.heap.size) s.heap H locs → rs_R E M2 h0 G made cap a.1 holc w2 root row → stW w2 a.2 →
      W p l e ({ frames := 3, cells := 0, slots := 0, locals := 90 } : Room) s m ([.ref h0] : List Value).toArray below meth c H locs (0 + 0) (0 + 0) (MQ below (va_Qv (fun M' => ∃ (ex' : Nat → Bool) (hol' w' : Nat → Int32), rs_R E M' h0 G made cap ex' hol' w' root row ∧ (List.range made).filter ex' = sv_T ((List.range made).filter ex) root row) (gk_B E M s.heap.size) (gh_A M s.heap.size)) ([.ref h0] : List Value).toArray s 0 0 (gh_A M s.heap.size)) (F0 m 8 ls []) := by
    intro d
    induction d with
    | zero =>
      intro i a w2 M2 H locs ls hid ha hal hl hP hS h2 hw
      have him : i = made := by omega
      subst him
      refine lv_iload_n hx hb dc_MO_settle_8 rfl (lv_fd hl rfl) ?_
      refine lv_aload_n hx hb dc_MO_settle_9 rfl (lv_fd hl rfl) ?_
      refine gh_get hx hb ht nu_MO hown hK.1 hP h2.1 rfl 5 (by decide) (ht _ ww_317) (fun _ h9 => h9) rfl dc_MO_settle_10 ?_
      refine gn_ge (tgt := 48) hx hb (by omega) (by omega) dc_MO_settle_13 (by decide) (fun _ => ?_) (fun q => absurd q (by omega))
      obtain ⟨g1, g2, g3, -⟩ := rf_gone_all (made := i) holc (List.range i) (ex, []) List.nodup_nil (fun n hn => by cases hn) (fun n hn => by cases hn) (fun n hn => List.mem_range.mp hn)
      rw [← ha] at g1 g2 g3
      exact loop2 i a.1 holc w2 a.2 M2 H locs ls (lv_sub hl [1, 2] rfl) g1 g2 g3 (by rw [ha]; rfl) hP hS h2 hw
    | succ d ih =>
      intro i a w2 M2 H locs ls hid ha hal hl hP hS h2 hw
      have him : i < made := by omega
      obtain ⟨fe, hfe, hfe2⟩ := h2.2.2.2.1
      have hnext : (List.range (i + 1)).foldl (rf_gone holc) (ex, []) = rf_gone holc a i := by
        rw [List.range_succ, List.foldl_append, ha]
        rfl
      refine lv_iload_n hx hb dc_MO_settle_8 rfl (lv_fd hl rfl) ?_
      refine lv_aload_n hx hb dc_MO_settle_9 rfl (lv_fd hl rfl) ?_
      refine gh_get hx hb ht nu_MO hown hK.1 hP h2.1 rfl 5 (by decide) (ht _ ww_317) (fun _ h9 => h9) rfl dc_MO_settle_10 ?_
      refine gn_ge (tgt := 48) hx hb (by omega) (by omega) dc_MO_settle_13 (by decide) (fun q => absurd q (by omega)) (fun _ => ?_)
      refine lv_aload_n hx hb dc_MO_settle_16 rfl (lv_fd hl rfl) ?_
      refine gh_get hx hb ht nu_MO hown hK.1 hP h2.1 rfl 2 (by decide) (ht _ ww_314) (fun _ h9 => h9) rfl dc_MO_settle_17 ?_
      refine lv_iload_n hx hb dc_MO_settle_20 rfl (lv_fd hl rfl) ?_
      refine gh_iald hx hb hK.1 hP 0 hfe rfl rfl (show i < cap by omega) (by omega) (hfe2 i him) dc_MO_settle_21 ?_
      refine lv_iconst (v := nI 1) hx hb dc_MO_settle_22 (by decide) ?_
      cases hxi : a.1 i with
      | false =>
        refine lv_icmp_ne (tgt := 42) hx hb dc_MO_settle_23 (by decide) (fun _ => ?_) (fun q => absurd q (by decide))
        refine lv_iinc (k := 0) (v := nI (i + 1)) hx hb dc_MO_settle_42 hl rfl (gh_inc i) (by decide) rfl (fun ls hl => ?_)
        refine lv_goto (tgt := 8) hx hb dc_MO_settle_45 (by decide) ?_
        refine ih (i + 1) a w2 M2 H locs ls (by omega) ?_ (by omega) hl hP hS h2 hw
        rw [hnext]
        exact (if_neg (fun q => by rw [hxi] at q; cases q.1)).symm
      | true =>
        refine lv_icmp_ne (tgt := 42) hx hb dc_MO_settle_23 (by decide) (fun q => absurd (show cs_B true = nI 1 by decide) q) (fun _ => ?_)
        refine lv_aload_n hx hb dc_MO_settle_26 rfl (lv_fd hl rfl) ?_
        refine gh_get hx hb ht nu_MO hown hK.1 hP h2.1 rfl 3 (by decide) (ht _ ww_315) (fun _ h9 => h9) rfl dc_MO_settle_27 ?_
        refine lv_iload_n hx hb dc_MO_settle_30 rfl (lv_fd hl rfl) ?_
        refine gh_iald hx hb hK.1 hP 0 h2.2.2.2.2.1 rfl rfl (show i < cap by omega) (by omega) rfl dc_MO_settle_31 ?_
        refine lv_if_ne (tgt := 42) hx hb dc_MO_settle_32 (by decide) (fun hz => ?_) (fun hz => ?_)
        · refine lv_iinc (k := 0) (v := nI (i + 1)) hx hb dc_MO_settle_42 hl rfl (gh_inc i) (by decide) rfl (fun ls hl => ?_)
          refine lv_goto (tgt := 8) hx hb dc_MO_settle_45 (by decide) ?_
          refine ih (i + 1) a w2 M2 H locs ls (by omega) ?_ (by omega) hl hP hS h2 hw
          rw [hnext]
          exact (if_neg (fun q => hz q.2)).symm
        · have hgn : rf_gone holc a i = (va_up a.1 i false, a.2 ++ [i]) := if_pos ⟨hxi, hz⟩
          refine lv_aload_n hx hb dc_MO_settle_35 rfl (lv_fd hl rfl) ?_
          refine lv_iload_n hx hb dc_MO_settle_36 rfl (lv_fd hl rfl) ?_
          refine lv_iload_n hx hb dc_MO_settle_37 rfl (lv_fd hl rfl) ?_
          refine gk_ci (gk_rV F (b := h0) (As := [.int (nI i), .int (nI a.2.length)]) (rest := []) (ct_MO_gone l E _ _ h2 him hxi (show a.2.length < cap by omega)) ww_378 ww_380 ws_MO_gone ww_5 ww_381 rfl rfl ⟨by decide, by decide, by show _ = some 2; decide +kernel⟩ ⟨Nat.le_of_ble_eq_true rfl, Nat.le_of_ble_eq_true rfl⟩ (gh_recv hK.1 hP h2.1 rfl) hK hZ hP hS hA hl.1 rfl (Nat.le_of_ble_eq_true rfl) dc_MO_settle_38 ⟨Nat.le_of_ble_eq_true rfl, Nat.le_of_ble_eq_true rfl⟩) hP hS hA (fun r M4 H locs h4 hP hS => ?_)
          obtain ⟨rfl, h4⟩ := h4
          refine lv_istore_n hx hb dc_MO_settle_41 rfl hl (by decide) rfl (fun ls hl => ?_)
          refine lv_iinc (k := 1) (v := nI (i + 1)) hx hb dc_MO_settle_42 hl rfl (gh_inc i) (by decide) rfl (fun ls hl => ?_)
          refine lv_goto (tgt := 8) hx hb dc_MO_settle_45 (by decide) ?_
          refine ih (i + 1) (rf_gone holc a i) _ M4 H locs ls (by omega) hnext.symm ?_ ?_ hP hS (by rw [hgn]; exact h4) (by rw [hgn]; exact hw.push i)
          · rw [hgn, List.length_append]
            show a.2.length + 1 ≤ i + 1
            omega
          · rw [hgn, List.length_append]
            exact lv_sub hl [0, 1, 2] rfl
  refine lv_iconst (v := nI 0) hx hb dc_MO_settle_4 (by decide) ?_
  refine lv_istore_n hx hb dc_MO_settle_5 rfl hl (by decide) rfl (fun ls hl => ?_)
  refine lv_iconst (v := nI 0) hx hb dc_MO_settle_6 (by decide) ?_
  refine lv_istore_n hx hb dc_MO_settle_7 rfl hl (by decide) rfl (fun ls hl => ?_)
  exact loop1 made 0 (ex, []) w M1 H locs ls (by omega) rfl (Nat.le_refl _) hl hP hS h1 (fun i o hi => by cases hi)
