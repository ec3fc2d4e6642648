theorem rf_mr_nil (row : Nat → List it_I) (f : Nat) (h : Nat → Int32) : rf_mr row f (h, []) = (h, []) := by cases f <;> rfl
theorem rf_mr_snoc (row : Nat → List it_I) (f : Nat) (h : Nat → Int32) (stk : List Nat) (o : Nat) : rf_mr row (f + 1) (h, stk ++ [o]) = rf_mr row f ((hd_row (row o)).foldl rf_reach (h, stk)) := by
  show (match (stk ++ [o]).getLast? with | none => _ | some o => _) = _
  rw [List.getLast?_concat]
  show rf_mr row f ((hd_row (row o)).foldl rf_reach (h, (stk ++ [o]).dropLast)) = _
  rw [List.dropLast_concat]
theorem rm_room {made cap : Nat} {a : (Nat → Int32) × List Nat} (h : rf_un made a.1 + a.2.length ≤ made) (hc : made ≤ cap) {n : Nat} (hn : n < made) : 0 < a.1 n ∨ a.2.length < cap := by
  by_cases hp : 0 < a.1 n
  · exact Or.inl hp
  · have := rf_un_up hn hp
    exact Or.inr (by omega)
theorem rm_step {a : (Nat → Int32) × List Nat} {n : Nat} {w : Nat → Int32} {r : Int32} {E : gk_E} {M' : gh_M} {h0 made cap : Nat} {G : rs_G} {ex : Nat → Bool} {root : Nat → Option Nat} {row : Nat → List it_I} (hw : stW w a.2) (h : (0 < a.1 n ∧ r = nI a.2.length ∧ rs_R E M' h0 G made cap ex a.1 w root row) ∨ (¬ 0 < a.1 n ∧ r = nI (a.2.length + 1) ∧ rs_R E M' h0 G made cap ex (va_up a.1 n 1) (va_up w a.2.length (nI n)) root row)) :
    r = nI (rf_reach a n).2.length ∧ ∃ w', rs_R E M' h0 G made cap ex (rf_reach a n).1 w' root row ∧ stW w' (rf_reach a n).2 := by
  rcases h with ⟨h1, h2, h3⟩ | ⟨h1, h2, h3⟩
  · have e : rf_reach a n = a := if_pos h1
    rw [e]
    exact ⟨h2, w, h3, hw⟩
  · have e : rf_reach a n = (va_up a.1 n 1, a.2 ++ [n]) := if_neg h1
    rw [e]
    refine ⟨?_, _, h3, hw.push n⟩
    rw [h2, List.length_append]
    rfl
set_option maxHeartbeats 4000000 in
set_option maxRecDepth 100000 in
theorem ct_MO_collect (l : Launch) (E : gk_E) (M : gh_M) (sz : Nat) {h0 N : Nat} {V : vv_V} (hV : rs_V E M h0 V) (hI : vv_I N V) (hN : N ≤ 512) : Met l yn_MO_collect (.code yn_MO_collect cd_MO_collect 7 (some FieldType.int) :: bw_L) { frames := 2, cells := 0, slots := 0, locals := 60 } (gk_Pre E [.ref h0] M sz) (va_Qi (fun r M' => r = (vq_collect V).1 ∧ rs_V E M' h0 (vq_collect V).2) (gk_B E M sz) (gh_A M sz)) 0 0 (gh_A M sz) := by
  refine gk_met rfl (Nat.le_of_ble_eq_true rfl) ?_
  intro p e s m below meth c F hsz hP hK hZ ls hl
  subst hsz
  have hx := F.1
  have hb := F.2.1
  have hr := F.2.2.1
  have hml := F.2.2.2.1
  have hown : s.vm.findClass "ThingHeapModel" = some m.cls := F.2.2.2.2.1
  have hlk := F.2.2.2.2.2.1
  have hnm := F.2.2.2.2.2.2.1
  have ht := fun (w : Cond) (h : w ∈ bw_L) => F.2.2.2.2.2.2.2 w (List.mem_cons_of_mem _ h)
  have hA : ∀ q, s.heap.size ≤ q → gh_A M s.heap.size q := fun q h => Or.inr h
  have hS : va_S (gh_A M s.heap.size) s.heap s.heap [] := va_S.rf
  have hl : lv_has ls 7 [(0, .ref h0)] := hl
  have hV0 := hV
  obtain ⟨G, cap, ex, hol, w, row, h, hT, hag⟩ := hV
  have hcb := h.2.2.2.2.2.2.2.2.2.2
  have hTl := vv_len hI
  have hmN := hI.2.2.2.2
  have hTm : ∀ k ∈ V.2.1, k < 2 ^ 31 := fun k hk => by have := hI.2.2.1 k hk; omega
  have hin : ∀ n, n ∈ V.2.1 ↔ n < V.1 ∧ ex n = true := fun n => by rw [← hT, List.mem_filter, List.mem_range]
  obtain ⟨made, T, root, vrow⟩ := V
  have hV0 : rs_V E M h0 (made, T, root, vrow) := hV0
  have h : rs_R E M h0 G made cap ex hol w root row := h
  have hT : (List.range made).filter ex = T := hT
  have hag : ∀ n ∈ T, row n = vrow n := hag
  have hTl : T.length ≤ made := hTl
  have hmN : made ≤ N := hmN
  have hroot : ∀ n ∈ hd_roots root, n ∈ T := hI.1.2.1
  have hrow : ∀ m ∈ T, ∀ n ∈ hd_row (row m), n ∈ T := fun m hm n hn => hI.1.2.2.1 m hm n (by show n ∈ hd_row (vrow m); rw [← hag m hm]; exact hn)
  have hTmd : ∀ n ∈ T, n < made := hI.2.2.1
  obtain ⟨hmk1, hmk2⟩ := rf_marked (hol := hol) hTmd hroot hrow
  have hcb : made ≤ cap ∧ 64 ≤ cap ∧ cap ≤ 1024 := hcb
  have loopC : ∀ (d i g : Nat) (ex2 : Nat → Bool) (w2 : Nat → Int32) (M2 : gh_M) (H : Heap) (locs : List Loc) (ls : Array Slot), i + d = made → (∀ n, ex2 n = (ex n && (decide (i ≤ n) || decide (0 < (rf_mark made root row hol).1 n)))) → g + ((List.range made).filter ex2).length = T.length → lv_has ls 7 [(3, .int (nI i)), (2, .int (nI g)), (0, .ref h0)] → gh_P E.1 cl_L (gh_A M s.heap.size) M2 H → va_S (gh_A M s.heap.size) s.heap H locs → rs_R E M2 h0 G made cap ex2 (rf_mark made root row hol).1 w2 root row →
      W p l e ({ frames := 2, cells := 0, slots := 0, locals := 60 } : Room) s m ([.ref h0] : List Value).toArray below meth c H locs (0 + 0) (0 + 0) (MQ below (va_Qi (fun r M' => r = (vq_collect (made, T, root, vrow)).1 ∧ rs_V E M' h0 (vq_collect (made, T, root, vrow)).2) (gk_B E M s.heap.size) (gh_A M s.heap.size)) ([.ref h0] : List Value).toArray s 0 0 (gh_A M s.heap.size)) (F0 m 136 ls []) := by
    intro d
    induction d with
    | zero =>
      intro i g ex2 w2 M2 H locs ls hid hex hg hl hP hS h2
      have him : i = made := by omega
      subst him
      refine lv_iload_n hx hb dc_MO_collect_136 rfl (lv_fd hl rfl) ?_
      refine lv_aload_n hx hb dc_MO_collect_137 rfl (lv_fd hl rfl) ?_
      refine gh_get hx hb ht nu_MO hown hK.1 hP h2.1 rfl 5 (by decide) (ht _ ww_317) (fun _ h9 => h9) rfl dc_MO_collect_138 ?_
      refine gn_ge (tgt := 191) hx hb (by omega) (by omega) dc_MO_collect_141 (by decide) (fun _ => ?_) (fun q => absurd q (by omega))
      refine lv_iload_n hx hb dc_MO_collect_191 rfl (lv_fd hl rfl) ?_
      have hrd : (List.range i).filter ex2 = rd_T T root row := by
        refine Eq.trans ?_ (rd_filter (T := T) (P := fun n => decide (0 < (rf_mark i root row hol).1 n)) (fun n hn => ?_))
        · rw [← hT, List.filter_filter]
          refine List.filter_congr (fun n hn => ?_)
          have hni := List.mem_range.mp hn
          rw [hex n, decide_eq_false (by omega : ¬ i ≤ n), Bool.false_or, Bool.and_comm]
        · rw [decide_eq_true_eq]
          exact hmk2 n (hTmd n hn)
      rw [rd_congr hroot hrow hag] at hrd
      refine gk_ei hx hb hr hlk hP hS dc_MO_collect_192 ⟨?_, G, cap, ex2, _, w2, row, h2, hrd, fun n hn => ?_⟩
      · show nI g = nI (T.length - (rd_T T root vrow).length)
        rw [← hrd]
        congr 1
        omega
      · have hn : n ∈ rd_T T root vrow := hn
        show row n = if n ∈ rd_T T root vrow then vrow n else []
        rw [if_pos hn]
        exact hag n (rd_mem.mp hn).1
    | succ d ih =>
      intro i g ex2 w2 M2 H locs ls hid hex hg hl hP hS h2
      have him : i < made := by omega
      obtain ⟨fe, hfe, hfe2⟩ := h2.2.2.2.1
      refine lv_iload_n hx hb dc_MO_collect_136 rfl (lv_fd hl rfl) ?_
      refine lv_aload_n hx hb dc_MO_collect_137 rfl (lv_fd hl rfl) ?_
      refine gh_get hx hb ht nu_MO hown hK.1 hP h2.1 rfl 5 (by decide) (ht _ ww_317) (fun _ h9 => h9) rfl dc_MO_collect_138 ?_
      refine gn_ge (tgt := 191) hx hb (by omega) (by omega) dc_MO_collect_141 (by decide) (fun q => absurd q (by omega)) (fun _ => ?_)
      refine lv_aload_n hx hb dc_MO_collect_144 rfl (lv_fd hl rfl) ?_
      refine gh_get hx hb ht nu_MO hown hK.1 hP h2.1 rfl 2 (by decide) (ht _ ww_314) (fun _ h9 => h9) rfl dc_MO_collect_145 ?_
      refine lv_iload_n hx hb dc_MO_collect_148 rfl (lv_fd hl rfl) ?_
      refine gh_iald hx hb hK.1 hP 0 hfe rfl rfl (show i < cap by omega) (by omega) (hfe2 i him) dc_MO_collect_149 ?_
      have hexi : ex2 i = ex i := by rw [hex i, decide_eq_true (Nat.le_refl i)]; simp
      cases hxi : ex2 i with
      | false =>
        refine lv_if_eq (tgt := 185) hx hb dc_MO_collect_150 (by decide) (fun _ => ?_) (fun q => absurd (show cs_B false = 0 by decide) q)
        refine lv_iinc (k := 0) (v := nI (i + 1)) hx hb dc_MO_collect_185 hl rfl (gh_inc i) (by decide) rfl (fun ls hl => ?_)
        refine lv_goto (tgt := 136) hx hb dc_MO_collect_188 (by decide) ?_
        refine ih (i + 1) g ex2 w2 M2 H locs ls (by omega) (fun n => ?_) hg hl hP hS h2
        by_cases e1 : n = i
        · subst e1
          rw [hxi, ← hexi, hxi]
          rfl
        · rw [hex n]
          congr 2
          exact decide_eq_decide.mpr (by omega)
      | true =>
        refine lv_if_eq (tgt := 185) hx hb dc_MO_collect_150 (by decide) (fun q => absurd q (by decide)) (fun _ => ?_)
        refine lv_aload_n hx hb dc_MO_collect_153 rfl (lv_fd hl rfl) ?_
        refine gh_get hx hb ht nu_MO hown hK.1 hP h2.1 rfl 3 (by decide) (ht _ ww_315) (fun _ h9 => h9) rfl dc_MO_collect_154 ?_
        refine lv_iload_n hx hb dc_MO_collect_157 rfl (lv_fd hl rfl) ?_
        refine gh_iald hx hb hK.1 hP 0 h2.2.2.2.2.1 rfl rfl (show i < cap by omega) (by omega) rfl dc_MO_collect_158 ?_
        refine lv_if_le (tgt := 165) hx hb dc_MO_collect_159 (by decide) (fun hz => ?_) (fun hz => ?_)
        · have hn0 : ¬ 0 < (rf_mark made root row hol).1 i := by
            intro q
            rw [Int32.lt_iff_toInt_lt] at q
            rw [Int32.le_iff_toInt_le] at hz
            omega
          have hdn := fl_down him hxi
          have hc1 := gh_ch.up (e' := .inl (E.2.1 0, cap, .inl (va_up fe i (nI 0)))) hfe
          have hh1 := hc1.keep h2.1 (by omega)
          refine lv_aload_n hx hb dc_MO_collect_165 rfl (lv_fd hl rfl) ?_
          refine gh_get hx hb ht nu_MO hown hK.1 hP h2.1 rfl 2 (by decide) (ht _ ww_314) (fun _ h9 => h9) rfl dc_MO_collect_166 ?_
          refine lv_iload_n hx hb dc_MO_collect_169 rfl (lv_fd hl rfl) ?_
          refine lv_iconst (v := nI 0) hx hb dc_MO_collect_170 (by decide) ?_
          refine gm_iast hx hb hK.1 hP hS 0 hfe rfl rfl (show i < cap by omega) (by omega) dc_MO_collect_171 (fun H locs hP hS => ?_)
          refine lv_aload_n hx hb dc_MO_collect_172 rfl (lv_fd hl rfl) ?_
          refine lv_dup hx hb dc_MO_collect_173 rfl ?_
          refine gh_get hx hb ht nu_MO hown hK.1 hP hh1 rfl 6 (by decide) (ht _ ww_318) (fun _ h9 => h9) rfl dc_MO_collect_174 ?_
          refine lv_iconst (v := nI 1) hx hb dc_MO_collect_177 (by decide) ?_
          refine lv_isub hx hb dc_MO_collect_178 ?_
          refine gh_topi (show nI ((List.range made).filter ex2).length - nI 1 = nI ((List.range made).filter (va_up ex2 i false)).length by rw [hdn]; exact nI_pred _) ?_
          refine gh_put (ty := .int) hx hb ht nu_MO nt_MO no_MO nn_MO hown hK.1 hP hS hh1 rfl 6 (by decide) (ht _ ww_318) (fun _ h9 => h9) rfl (by decide +kernel) rfl rfl (Nat.le_of_ble_eq_true rfl) rfl dc_MO_collect_179 (fun H locs hP hS => ?_)
          have h3 := h2.upEx (o := i) (b := false) (v := nI 0) hfe hfe2 (by decide) rfl
          refine lv_iinc (k := 1) (v := nI (g + 1)) hx hb dc_MO_collect_182 hl rfl (gh_inc g) (by decide) rfl (fun ls hl => ?_)
          refine lv_iinc (k := 1) (v := nI (i + 1)) hx hb dc_MO_collect_185 hl rfl (gh_inc i) (by decide) rfl (fun ls hl => ?_)
          refine lv_goto (tgt := 136) hx hb dc_MO_collect_188 (by decide) ?_
          refine ih (i + 1) (g + 1) (va_up ex2 i false) w2 _ H locs ls (by omega) (fun n => ?_) (by omega) hl hP hS h3
          by_cases e1 : n = i
          · subst e1
            rw [va_up_self, decide_eq_false (by omega : ¬ n + 1 ≤ n), decide_eq_false hn0]
            simp
          · rw [va_up_ne _ _ e1, hex n]
            congr 2
            exact decide_eq_decide.mpr (by omega)
        · have hp : 0 < (rf_mark made root row hol).1 i := by
            rw [Int32.lt_iff_toInt_lt]
            rw [Int32.le_iff_toInt_le] at hz
            omega
          refine lv_goto (tgt := 185) hx hb dc_MO_collect_162 (by decide) ?_
          refine lv_iinc (k := 0) (v := nI (i + 1)) hx hb dc_MO_collect_185 hl rfl (gh_inc i) (by decide) rfl (fun ls hl => ?_)
          refine lv_goto (tgt := 136) hx hb dc_MO_collect_188 (by decide) ?_
          refine ih (i + 1) g ex2 w2 M2 H locs ls (by omega) (fun n => ?_) hg hl hP hS h2
          by_cases e1 : n = i
          · subst e1
            rw [hexi, decide_eq_true hp]
            simp
          · rw [hex n]
            congr 2
            exact decide_eq_decide.mpr (by omega)
  have loopB : ∀ (f : Nat) (h1 w1 : Nat → Int32) (stk1 : List Nat) (M2 : gh_M) (H : Heap) (locs : List Loc) (ls : Array Slot), lv_has ls 7 [(1, .int (nI stk1.length)), (2, .int (nI 0)), (0, .ref h0)] → rm_C made (h1, stk1) → rf_un made h1 + stk1.length ≤ made → rf_mr row f (h1, stk1) = rf_mark made root row hol → gh_P E.1 cl_L (gh_A M s.heap.size) M2 H → va_S (gh_A M s.heap.size) s.heap H locs → rs_R E M2 h0 G made cap ex h1 w1 root row → stW w1 stk1 →
      W p l e ({ frames := 2, cells := 0, slots := 0, locals := 60 } : Room) s m ([.ref h0] : List Value).toArray below meth c H locs (0 + 0) (0 + 0) (MQ below (va_Qi (fun r M' => r = (vq_collect (made, T, root, vrow)).1 ∧ rs_V E M' h0 (vq_collect (made, T, root, vrow)).2) (gk_B E M s.heap.size) (gh_A M s.heap.size)) ([.ref h0] : List Value).toArray s 0 0 (gh_A M s.heap.size)) (F0 m 61 ls []) := by
    intro f
    have fin : ∀ (h1 w1 : Nat → Int32) (M2 : gh_M) (H : Heap) (locs : List Loc) (ls : Array Slot), lv_has ls 7 [(1, .int (nI 0)), (2, .int (nI 0)), (0, .ref h0)] → (h1, []) = rf_mark made root row hol → gh_P E.1 cl_L (gh_A M s.heap.size) M2 H → va_S (gh_A M s.heap.size) s.heap H locs → rs_R E M2 h0 G made cap ex h1 w1 root row →
      W p l e ({ frames := 2, cells := 0, slots := 0, locals := 60 } : Room) s m ([.ref h0] : List Value).toArray below meth c H locs (0 + 0) (0 + 0) (MQ below (va_Qi (fun r M' => r = (vq_collect (made, T, root, vrow)).1 ∧ rs_V E M' h0 (vq_collect (made, T, root, vrow)).2) (gk_B E M s.heap.size) (gh_A M s.heap.size)) ([.ref h0] : List Value).toArray s 0 0 (gh_A M s.heap.size)) (F0 m 61 ls []) := by
      intro h1 w1 M2 H locs ls hl he hP hS h2
      refine lv_iload_n hx hb dc_MO_collect_61 rfl (lv_fd hl rfl) ?_
      refine gn_ifle (tgt := 134) hx hb (by decide) dc_MO_collect_62 (by decide) (fun _ => ?_) (fun q => absurd q (by decide))
      refine lv_iconst (v := nI 0) hx hb dc_MO_collect_134 (by decide) ?_
      refine lv_istore_n hx hb dc_MO_collect_135 rfl hl (by decide) rfl (fun ls hl => ?_)
      have e1 : h1 = (rf_mark made root row hol).1 := by rw [← he]
      rw [e1] at h2
      refine loopC made 0 0 ex w1 M2 H locs ls (by omega) (fun n => ?_) (by rw [hT, Nat.zero_add]) (lv_sub hl [0, 2, 3] rfl) hP hS h2
      rw [decide_eq_true (Nat.zero_le n)]
      simp
    induction f with
    | zero =>
      intro h1 w1 stk1 M2 H locs ls hl i1 i2 hlp hP hS h2 hw
      have hst : stk1 = [] := by
        rw [← hlp] at hmk1
        exact hmk1
      subst hst
      exact fin h1 w1 M2 H locs ls hl hlp hP hS h2
    | succ f ih =>
      intro h1 w1 stk1 M2 H locs ls hl i1 i2 hlp hP hS h2 hw
      rcases List.eq_nil_or_concat stk1 with rfl | ⟨stk, o, hcc⟩
      · rw [rf_mr_nil] at hlp
        exact fin h1 w1 M2 H locs ls hl hlp hP hS h2
      rw [List.concat_eq_append] at hcc
      subst hcc
      have ho : o < made := (i1 o (List.mem_append_right _ (List.mem_singleton.mpr rfl))).1
      have hsl : (stk ++ [o]).length = stk.length + 1 := by rw [List.length_append]; rfl
      rw [rf_mr_snoc] at hlp
      rw [hsl] at hl i2
      obtain ⟨hw1, hw2⟩ := hw.pop
      have j1 : rm_C made (h1, stk) := fun n hn => i1 n (List.mem_append_left _ hn)
      have hrm : ∀ n ∈ hd_row (row o), n < made := by
        intro n hn
        obtain ⟨x, hx1, hx2⟩ := List.mem_filterMap.mp hn
        exact h2.2.2.2.2.2.2.2.2.2.1 o ho x hx1 n hx2
      have hG := fun k => rm_fold (made := made) (hd_row ((row o).take k)) (h1, stk) (fun n hn => by
        obtain ⟨x, hx1, hx2⟩ := List.mem_filterMap.mp hn
        exact hrm n (List.mem_filterMap.mpr ⟨x, List.mem_of_mem_take hx1, hx2⟩)) j1
      refine lv_iload_n hx hb dc_MO_collect_61 rfl (lv_fd hl rfl) ?_
      refine gn_ifle (tgt := 134) hx hb (by omega) dc_MO_collect_62 (by decide) (fun q => absurd q (by omega)) (fun _ => ?_)
      refine lv_iinc (k := 0) (v := nI stk.length) hx hb dc_MO_collect_65 hl rfl (gm_dec stk.length) (by decide) rfl (fun ls hl => ?_)
      refine lv_aload_n hx hb dc_MO_collect_68 rfl (lv_fd hl rfl) ?_
      refine gh_get hx hb ht nu_MO hown hK.1 hP h2.1 rfl 4 (by decide) (ht _ ww_316) (fun _ h9 => h9) rfl dc_MO_collect_69 ?_
      refine lv_iload_n hx hb dc_MO_collect_72 rfl (lv_fd hl rfl) ?_
      refine gh_iald hx hb hK.1 hP 0 h2.2.2.2.2.2.1 rfl rfl (show stk.length < cap by omega) (by omega) hw2 dc_MO_collect_73 ?_
      refine lv_istore_n hx hb dc_MO_collect_74 rfl hl (by decide) rfl (fun ls hl => ?_)
      refine lv_iconst (v := nI 0) hx hb dc_MO_collect_75 (by decide) ?_
      refine lv_istore hx hb dc_MO_collect_76 hl (by decide) rfl (fun ls hl => ?_)
      have inner : ∀ (d k : Nat) (a : (Nat → Int32) × List Nat) (w2 : Nat → Int32) (M2 : gh_M) (H : Heap) (locs : List Loc) (ls : Array Slot), k + d = (row o).length → a = ((hd_row ((row o).take k)).foldl rf_reach (h1, stk)) → lv_has ls 7 [(4, .int (nI k)), (3, .int (nI o)), (1, .int (nI a.2.length)), (2, .int (nI 0)), (0, .ref h0)] → gh_P E.1 cl_L (gh_A M s.heap.size) M2 H → va_S (gh_A M s.heap.size) s.heap H locs → rs_R E M2 h0 G made cap ex a.1 w2 root row → stW w2 a.2 →
          W p l e ({ frames := 2, cells := 0, slots := 0, locals := 60 } : Room) s m ([.ref h0] : List Value).toArray below meth c H locs (0 + 0) (0 + 0) (MQ below (va_Qi (fun r M' => r = (vq_collect (made, T, root, vrow)).1 ∧ rs_V E M' h0 (vq_collect (made, T, root, vrow)).2) (gk_B E M s.heap.size) (gh_A M s.heap.size)) ([.ref h0] : List Value).toArray s 0 0 (gh_A M s.heap.size)) (F0 m 78 ls []) := by
        intro d
        induction d with
        | zero =>
          intro k a w2 M2 H locs ls hkd hak hl hP hS h2 hw
          have hko : k = (row o).length := by omega
          obtain ⟨fm, hfm, hfm2⟩ := h2.2.2.1
          obtain ⟨cc9, fl, hrw, hc4, hc6, hrl, hr3, hfl⟩ := h2.2.2.2.2.2.2.2.1 o ho
          refine lv_iload hx hb dc_MO_collect_78 (lv_fd hl rfl) ?_
          refine lv_aload_n hx hb dc_MO_collect_80 rfl (lv_fd hl rfl) ?_
          refine gh_get hx hb ht nu_MO hown hK.1 hP h2.1 rfl 1 (by decide) (ht _ ww_313) (fun _ h9 => h9) rfl dc_MO_collect_81 ?_
          refine lv_iload_n hx hb dc_MO_collect_84 rfl (lv_fd hl rfl) ?_
          refine gh_iald hx hb hK.1 hP 0 hfm rfl rfl (show o < cap by omega) (by omega) (hfm2 o ho) dc_MO_collect_85 ?_
          refine gn_ge (tgt := 131) hx hb (by omega) (by omega) dc_MO_collect_86 (by decide) (fun _ => ?_) (fun q => absurd q (by omega))
          refine lv_goto (tgt := 61) hx hb dc_MO_collect_131 (by decide) ?_
          obtain ⟨g1, -, -, g4⟩ := hG k
          rw [← hak] at g1 g4
          rw [hko, List.take_length] at hak
          have g4 : rf_un made a.1 + a.2.length = rf_un made h1 + stk.length := g4
          exact ih a.1 w2 a.2 M2 H locs ls (lv_sub hl [2, 3, 4] rfl) g1 (by omega) (by rw [← hlp, hak]) hP hS h2 hw
        | succ d ih2 =>
          intro k a w2 M2 H locs ls hkd hak hl hP hS h2 hw
          obtain ⟨g1, -, -, g4⟩ := hG k
          rw [← hak] at g1 g4
          have g4 : rf_un made a.1 + a.2.length = rf_un made h1 + stk.length := g4
          obtain ⟨fi, hfi, hfi2, -⟩ := h2.2.1
          obtain ⟨fm, hfm, hfm2⟩ := h2.2.2.1
          obtain ⟨cc9, fl, hrw, hc4, hc6, hrl, hr3, hfl⟩ := h2.2.2.2.2.2.2.2.1 o ho
          obtain ⟨x, hxk⟩ : ∃ x, (row o)[k]? = some x := ⟨(row o)[k]'(by omega), List.getElem?_eq_getElem (by omega)⟩
          have hfx := hfl k x hxk
          have hstep := hd_take hxk
          refine lv_iload hx hb dc_MO_collect_78 (lv_fd hl rfl) ?_
          refine lv_aload_n hx hb dc_MO_collect_80 rfl (lv_fd hl rfl) ?_
          refine gh_get hx hb ht nu_MO hown hK.1 hP h2.1 rfl 1 (by decide) (ht _ ww_313) (fun _ h9 => h9) rfl dc_MO_collect_81 ?_
          refine lv_iload_n hx hb dc_MO_collect_84 rfl (lv_fd hl rfl) ?_
          refine gh_iald hx hb hK.1 hP 0 hfm rfl rfl (show o < cap by omega) (by omega) (hfm2 o ho) dc_MO_collect_85 ?_
          refine gn_ge (tgt := 131) hx hb (by omega) (by omega) dc_MO_collect_86 (by decide) (fun q => absurd q (by omega)) (fun _ => ?_)
          refine lv_aload_n hx hb dc_MO_collect_89 rfl (lv_fd hl rfl) ?_
          refine gh_get hx hb ht nu_MO hown hK.1 hP h2.1 rfl 0 (by decide) (ht _ ww_312) (fun _ h9 => h9) rfl dc_MO_collect_90 ?_
          refine lv_iload_n hx hb dc_MO_collect_93 rfl (lv_fd hl rfl) ?_
          refine gh_aald (v := .ref (G.1 o)) hx hb hK.1 hP 4 hfi rfl rfl rfl (show o < cap by omega) (by omega) (by rw [hfi2 o ho]; rfl) dc_MO_collect_94 ?_
          refine lv_iload hx hb dc_MO_collect_95 (lv_fd hl rfl) ?_
          refine gh_lald hx hb hK.1 hP 1 hrw rfl rfl (show k < cc9 by omega) (by omega) hfx dc_MO_collect_97 ?_
          refine lv_ldc2 hx hb hown (ht _ ww_377) dc_MO_collect_98 ?_
          refine W.lcmp hx hb dc_MO_collect_101 ?_
          cases hx1 : x.1 with
          | none =>
            refine lv_if_lt (tgt := 125) hx hb dc_MO_collect_102 (by decide) (fun _ => ?_) (fun q => absurd ((lg_cmp_lt _ _).mpr (it_lo hx1)) q)
            refine lv_iinc (k := 0) (v := nI (k + 1)) hx hb dc_MO_collect_125 hl rfl (gh_inc k) (by decide) rfl (fun ls hl => ?_)
            refine lv_goto (tgt := 78) hx hb dc_MO_collect_128 (by decide) ?_
            refine ih2 (k + 1) a w2 M2 H locs ls (by omega) ?_ hl hP hS h2 hw
            rw [hstep, hx1, hak]
            show _ = List.foldl rf_reach (h1, stk) (hd_row ((row o).take k) ++ [])
            rw [List.append_nil]
          | some n =>
            have hnm := h2.2.2.2.2.2.2.2.2.2.1 o ho x (List.mem_of_getElem? hxk) n hx1
            have hfx2 : fl k = lN (1099511627776 + n) := hfx.trans (it_some hx1)
            have hnext : List.foldl rf_reach (h1, stk) (hd_row ((row o).take (k + 1))) = rf_reach a n := by
              rw [hstep, hx1, hak]
              show List.foldl rf_reach (h1, stk) (hd_row ((row o).take k) ++ [n]) = _
              rw [List.foldl_append]
              rfl
            refine lv_if_lt (tgt := 125) hx hb dc_MO_collect_102 (by decide) (fun q => absurd ((lg_cmp_lt _ _).mp q) (it_hi hx1 (by omega))) (fun _ => ?_)
            refine lv_aload_n hx hb dc_MO_collect_105 rfl (lv_fd hl rfl) ?_
            refine lv_aload_n hx hb dc_MO_collect_106 rfl (lv_fd hl rfl) ?_
            refine gh_get hx hb ht nu_MO hown hK.1 hP h2.1 rfl 0 (by decide) (ht _ ww_312) (fun _ h9 => h9) rfl dc_MO_collect_107 ?_
            refine lv_iload_n hx hb dc_MO_collect_110 rfl (lv_fd hl rfl) ?_
            refine gh_aald (v := .ref (G.1 o)) hx hb hK.1 hP 4 hfi rfl rfl rfl (show o < cap by omega) (by omega) (by rw [hfi2 o ho]; rfl) dc_MO_collect_111 ?_
            refine lv_iload hx hb dc_MO_collect_112 (lv_fd hl rfl) ?_
            refine gh_lald hx hb hK.1 hP 1 hrw rfl rfl (show k < cc9 by omega) (by omega) hfx2 dc_MO_collect_114 ?_
            refine lv_ldc2 hx hb hown (ht _ ww_377) dc_MO_collect_115 ?_
            refine lv_lsub hx hb dc_MO_collect_118 ?_
            refine gh_topl (it_sub n) ?_
            refine lv_l2i (v := nI n) hx hb dc_MO_collect_119 (lN_i n) ?_
            refine lv_iload_n hx hb dc_MO_collect_120 rfl (lv_fd hl rfl) ?_
            refine gk_ci (gk_rV F (b := h0) (As := [.int (nI n), .int (nI a.2.length)]) (rest := []) (ct_MO_reach l E _ _ h2 hnm (rm_room (a := a) (by omega) hcb.1 hnm)) ww_440 ww_442 ws_MO_reach ww_5 ww_443 rfl rfl ⟨by decide, by decide, by show _ = some 2; decide +kernel⟩ ⟨Nat.le_of_ble_eq_true rfl, Nat.le_of_ble_eq_true rfl⟩ (gh_recv hK.1 hP h2.1 rfl) hK hZ hP hS hA hl.1 rfl (Nat.le_of_ble_eq_true rfl) dc_MO_collect_121 ⟨Nat.le_of_ble_eq_true rfl, Nat.le_of_ble_eq_true rfl⟩) hP hS hA (fun r M4 H locs h4 hP hS => ?_)
            obtain ⟨rfl, w4, h4, hw4⟩ := rm_step hw h4
            refine lv_istore_n hx hb dc_MO_collect_124 rfl hl (by decide) rfl (fun ls hl => ?_)
            refine lv_iinc (k := 1) (v := nI (k + 1)) hx hb dc_MO_collect_125 hl rfl (gh_inc k) (by decide) rfl (fun ls hl => ?_)
            refine lv_goto (tgt := 78) hx hb dc_MO_collect_128 (by decide) ?_
            exact ih2 (k + 1) (rf_reach a n) w4 M4 H locs ls (by omega) hnext.symm (lv_sub hl [0, 2, 1, 3, 4] rfl) hP hS h4 hw4
      exact inner (row o).length 0 (h1, stk) w1 M2 H locs ls (by omega) rfl (lv_sub hl [0, 1, 2, 3, 4] rfl) hP hS h2 hw1
  have loopA : ∀ (d r : Nat) (a : (Nat → Int32) × List Nat) (w2 : Nat → Int32) (M2 : gh_M) (H : Heap) (locs : List Loc) (ls : Array Slot), r + d = 16 → a = (((List.range r).filterMap root).foldl rf_reach (fun n => if n < made then 0 else hol n, [])) → rm_C made a → rf_un made a.1 + a.2.length ≤ made → lv_has ls 7 [(5, .int (nI r)), (4, .int (nI 16)), (3, .ref G.2.2.2.2.2.2), (2, .int (nI 0)), (1, .int (nI a.2.length)), (0, .ref h0)] → gh_P E.1 cl_L (gh_A M s.heap.size) M2 H → va_S (gh_A M s.heap.size) s.heap H locs → rs_R E M2 h0 G made cap ex a.1 w2 root row → stW w2 a.2 →
      W p l e ({ frames := 2, cells := 0, slots := 0, locals := 60 } : Room) s m ([.ref h0] : List Value).toArray below meth c H locs (0 + 0) (0 + 0) (MQ below (va_Qi (fun r M' => r = (vq_collect (made, T, root, vrow)).1 ∧ rs_V E M' h0 (vq_collect (made, T, root, vrow)).2) (gk_B E M s.heap.size) (gh_A M s.heap.size)) ([.ref h0] : List Value).toArray s 0 0 (gh_A M s.heap.size)) (F0 m 29 ls []) := by
    intro d
    induction d with
    | zero =>
      intro r a w2 M2 H locs ls hid ha i1 i2 hl hP hS h2 hw
      have hr16 : r = 16 := by omega
      subst hr16
      refine lv_iload hx hb dc_MO_collect_29 (lv_fd hl rfl) ?_
      refine lv_iload hx hb dc_MO_collect_31 (lv_fd hl rfl) ?_
      refine gn_ge (tgt := 61) hx hb (by omega) (by omega) dc_MO_collect_33 (by decide) (fun _ => ?_) (fun q => absurd q (by omega))
      exact loopB made a.1 w2 a.2 M2 H locs ls (lv_sub hl [4, 3, 5] rfl) i1 i2 (by rw [ha]; rfl) hP hS h2 hw
    | succ d ih =>
      intro r a w2 M2 H locs ls hid ha i1 i2 hl hP hS h2 hw
      have hr16 : r < 16 := by omega
      obtain ⟨fr, hfr, hfr2⟩ := h2.2.2.2.2.2.2.1
      refine lv_iload hx hb dc_MO_collect_29 (lv_fd hl rfl) ?_
      refine lv_iload hx hb dc_MO_collect_31 (lv_fd hl rfl) ?_
      refine gn_ge (tgt := 61) hx hb (by omega) (by omega) dc_MO_collect_33 (by decide) (fun q => absurd q (by omega)) (fun _ => ?_)
      refine lv_aload_n hx hb dc_MO_collect_36 rfl (lv_fd hl rfl) ?_
      refine lv_iload hx hb dc_MO_collect_37 (lv_fd hl rfl) ?_
      refine gh_iald hx hb hK.1 hP 0 hfr rfl rfl hr16 (by omega) (hfr2 r hr16) dc_MO_collect_39 ?_
      refine lv_istore hx hb dc_MO_collect_40 hl (by decide) rfl (fun ls hl => ?_)
      refine lv_iload hx hb dc_MO_collect_42 (lv_fd hl rfl) ?_
      cases hrr : root r with
      | none =>
        rw [hrr] at hl
        refine lv_if_lt (tgt := 55) hx hb dc_MO_collect_44 (by decide) (fun _ => ?_) (fun q => absurd (show rt_v none < 0 by decide) q)
        refine lv_iinc (k := 1) (v := nI (r + 1)) hx hb dc_MO_collect_55 hl rfl (gh_inc r) (by decide) rfl (fun ls hl => ?_)
        refine lv_goto (tgt := 29) hx hb dc_MO_collect_58 (by decide) ?_
        refine ih (r + 1) a w2 M2 H locs ls (by omega) ?_ i1 i2 (lv_sub hl [0, 2, 3, 4, 5, 6] rfl) hP hS h2 hw
        rw [List.range_succ, List.filterMap_append, show List.filterMap root [r] = [] by simp [hrr], List.append_nil]
        exact ha
      | some n =>
        rw [hrr] at hl
        have hn := h2.2.2.2.2.2.2.2.2.1 r hr16 n hrr
        refine lv_if_lt (tgt := 55) hx hb dc_MO_collect_44 (by decide) (fun q => absurd q (nI_pos (n := n) (by omega))) (fun _ => ?_)
        have hl : lv_has ls 7 [(6, .int (nI n)), (5, .int (nI r)), (4, .int (nI 16)), (3, .ref G.2.2.2.2.2.2), (2, .int (nI 0)), (1, .int (nI a.2.length)), (0, .ref h0)] := hl
        refine lv_aload_n hx hb dc_MO_collect_47 rfl (lv_fd hl rfl) ?_
        refine lv_iload hx hb dc_MO_collect_48 (lv_fd hl rfl) ?_
        refine lv_iload_n hx hb dc_MO_collect_50 rfl (lv_fd hl rfl) ?_
        refine gk_ci (gk_rV F (b := h0) (As := [.int (nI n), .int (nI a.2.length)]) (rest := []) (ct_MO_reach l E _ _ h2 hn (rm_room (a := a) i2 hcb.1 hn)) ww_440 ww_442 ws_MO_reach ww_5 ww_443 rfl rfl ⟨by decide, by decide, by show _ = some 2; decide +kernel⟩ ⟨Nat.le_of_ble_eq_true rfl, Nat.le_of_ble_eq_true rfl⟩ (gh_recv hK.1 hP h2.1 rfl) hK hZ hP hS hA hl.1 rfl (Nat.le_of_ble_eq_true rfl) dc_MO_collect_51 ⟨Nat.le_of_ble_eq_true rfl, Nat.le_of_ble_eq_true rfl⟩) hP hS hA (fun r9 M4 H locs h4 hP hS => ?_)
        obtain ⟨rfl, w4, h4, hw4⟩ := rm_step hw h4
        obtain ⟨g1, -, -, g4⟩ := rm_reach hn i1
        refine lv_istore_n hx hb dc_MO_collect_54 rfl hl (by decide) rfl (fun ls hl => ?_)
        refine lv_iinc (k := 2) (v := nI (r + 1)) hx hb dc_MO_collect_55 hl rfl (gh_inc r) (by decide) rfl (fun ls hl => ?_)
        refine lv_goto (tgt := 29) hx hb dc_MO_collect_58 (by decide) ?_
        refine ih (r + 1) (rf_reach a n) w4 M4 H locs ls (by omega) ?_ g1 (by omega) (lv_sub hl [0, 3, 4, 5, 1, 6] rfl) hP hS h4 hw4
        rw [List.range_succ, List.filterMap_append, show List.filterMap root [r] = [n] by simp [hrr], List.foldl_append, ← ha]
        rfl
  refine lv_aload_n hx hb dc_MO_collect_0 rfl (lv_fd hl rfl) ?_
  refine gh_get hx hb ht nu_MO hown hK.1 hP h.1 rfl 3 (by decide) (ht _ ww_315) (fun _ h9 => h9) rfl dc_MO_collect_1 ?_
  refine lv_iconst (v := nI 0) hx hb dc_MO_collect_4 (by decide) ?_
  refine lv_aload_n hx hb dc_MO_collect_5 rfl (lv_fd hl rfl) ?_
  refine gh_get hx hb ht nu_MO hown hK.1 hP h.1 rfl 5 (by decide) (ht _ ww_317) (fun _ h9 => h9) rfl dc_MO_collect_6 ?_
  refine lv_iconst (v := nI 0) hx hb dc_MO_collect_9 (by decide) ?_
  refine gk_cv (gk_rS F (As := [.ref G.2.2.2.2.1, .int (nI 0), .int (nI made), .int (nI 0)]) (rest := []) (ct_AR_fill4 l E _ _ h.2.2.2.2.1 (by omega) hcb.1 (nI 0)) ww_367 ww_368 ww_6 ww_369 rfl rfl ⟨by decide, by decide, by show _ = some 4; decide +kernel⟩ ⟨Nat.le_of_ble_eq_true rfl, Nat.le_of_ble_eq_true rfl⟩ hK hZ hP hS hA hl.1 rfl (Nat.le_of_ble_eq_true rfl) dc_MO_collect_10 ⟨Nat.le_of_ble_eq_true rfl, Nat.le_of_ble_eq_true rfl⟩) hP hS hA (fun M1 H locs h1 hP hS => ?_)
  rw [nI_0] at h1
  have h2 := h.setHol (M' := M1) (f := fun i => if i < made then 0 else hol i) (fun q => by
    by_cases e1 : q = G.2.2.2.2.1
    · subst e1
      exact Or.inr ⟨Or.inr ⟨_, h.2.2.2.2.1⟩, _, h1.1⟩
    · exact Or.inl (h1.2 q e1)) h1.1
  obtain ⟨fr, hfr, hfr2⟩ := h2.2.2.2.2.2.2.1
  refine lv_iconst (v := nI 0) hx hb dc_MO_collect_13 (by decide) ?_
  refine lv_istore_n hx hb dc_MO_collect_14 rfl hl (by decide) rfl (fun ls hl => ?_)
  refine lv_iconst (v := nI 0) hx hb dc_MO_collect_15 (by decide) ?_
  refine lv_istore_n hx hb dc_MO_collect_16 rfl hl (by decide) rfl (fun ls hl => ?_)
  refine lv_aload_n hx hb dc_MO_collect_17 rfl (lv_fd hl rfl) ?_
  refine gh_get hx hb ht nu_MO hown hK.1 hP h2.1 rfl 7 (by decide) (ht _ ww_319) (fun _ h9 => h9) rfl dc_MO_collect_18 ?_
  refine lv_astore_n hx hb dc_MO_collect_21 rfl hl (by decide) rfl (fun ls hl => ?_)
  refine lv_aload_n hx hb dc_MO_collect_22 rfl (lv_fd hl rfl) ?_
  refine gh_alen hx hb hK.1 hP 0 hfr rfl rfl dc_MO_collect_23 ?_
  refine lv_istore hx hb dc_MO_collect_24 hl (by decide) rfl (fun ls hl => ?_)
  refine lv_iconst (v := nI 0) hx hb dc_MO_collect_26 (by decide) ?_
  refine lv_istore hx hb dc_MO_collect_27 hl (by decide) rfl (fun ls hl => ?_)
  refine loopA 16 0 (fun n => if n < made then 0 else hol n, []) w M1 H locs ls (by omega) rfl (fun n hn => by cases hn) ?_ (lv_sub hl [0, 1, 2, 3, 4, 5] rfl) hP hS h2 (fun i o hi => by cases hi)
  have := List.length_filter_le (fun n => !(decide (0 < (fun n => if n < made then (0 : Int32) else hol n) n))) (List.range made)
  rw [List.length_range] at this
  exact this
