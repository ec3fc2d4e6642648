/-! THE CLAIM OUT OF ONE WALK OF THE LAW'S BODY. Your part is whole_start (and what it stands on); all else here is the same for every law, but numbers. -/
def R_law : String := "ThingHeapLaw"
def lw_P (b : Addr) (xs : List Int32) (args : Array Value) (s : State) : Prop := args = #[.ref b] ∧ s.IntsAt b xs ∧ xs.length ≤ 2048 ∧ (Jvm.Cond.and given_1 narrow_1).before args s = true
def lw_Q (_ : Array Value) (s : State) (o : Outcome) (t : State) : Prop := o = .returned (some (.int 1)) ∧ Framed s o t [] 600000 7302249
def lw_Z (below : List Frame) (a : Array Value) (s : State) : State → Prop := fun t => ∃ o, t.status = .running ∧ Ended t below o ∧ lw_Q a s o t
/-- the law's own end, with 1 on the stack, nothing written that was there before, its room as the claim has it -/
theorem lw_ret {p : Program} {l : Launch} {e : Env} {s : State} {m : MethodId} {below : List Frame} {meth : Method} {c : Code} {b : Nat} (hx : p.tables.exec = Jvm.exec) (hb : c.code = code) (hr : meth.sig.returnType = ret) (hlocks : meth.locks = false) {pc : Nat} {H : Heap} {ls : Array Slot} (hdg : decode code pc = .ok (.ireturn, 1)) : W p l e room_1 s m #[Value.ref b] below meth c H [] 600000 7302249 (lw_Z below #[Value.ref b] s) (F0 m pc ls [.int 1]) := by
  intro T hT X
  obtain ⟨fs, hret, hrun, hended, hW, hframe⟩ := X.leave (v := some (.int 1)) (hlocks := hlocks) (fun h => by rw [hr] at h; cases h)
  have hmeth' : T.vm.method? m = some meth := X.method'
  refine ⟨T.setFrames fs, ?_, .returned (some (.int 1)), hrun, hended, rfl, ⟨_, rfl⟩, hW, hframe⟩
  jvm_step X.here [X.here.top, hx, hb, hdg, hmeth', hr, ret, narrow_b1]
  (try refine ⟨rfl, ?_⟩); (try refine ⟨rfl, ?_⟩)
  first | (intro acts; rw [hret _ acts rfl rfl rfl]) | rw [hret _ _ rfl rfl rfl]
  exact Steps.refl _
/-- what holds at the law's entry: the machine, the code, the tables' words (any of lw_tbl by 'hts w (by decide +kernel)'), the script of L ints xs at the cell b, what the Statement gives of the start (any of its parts by flat_of_before) -/
def lw_At (p : Program) (s : State) (m : MethodId) (meth : Method) (c : Code) (b L : Nat) (xs : Nat → Int32) : Prop :=
  p.tables.exec = Jvm.exec ∧ c.code = code ∧ meth.sig.returnType = ret ∧ c.maxLocals = 4 ∧ s.vm.findClass R_law = some m.cls ∧ (∀ w ∈ lw_tbl, w.before #[Value.ref b] s = true) ∧ va_X b L xs s s.heap ∧ b < s.heap.size ∧ meth.locks = false ∧ (Jvm.Cond.and given_1 narrow_1).before #[Value.ref b] s = true ∧ meth.name = x.name ∧ (Jvm.Cond.code x code maxLocals ret).before #[Value.ref b] s = true
set_option maxHeartbeats 8000000 in
set_option maxRecDepth 100000 in
theorem lw_loop {p : Program} {e : Env} {s : State} {m : MethodId} {below : List Frame} {meth : Method} {c : Code} (l : Launch) {b L : Nat} {xs : Nat → Int32} (hL : L ≤ 2048) (F : gk_F p s m #[Value.ref b] meth c yn_LW_law cd_LW_law 4 ret) (hX : va_X b L xs s s.heap) (hbl : b < s.heap.size) {E : gk_E} (hK : gk_K E s) (hZ : gk_Z E.2.2.1 (fun q => s.heap.size ≤ q) s s.heap) {hc hr : Nat} :
    ∀ (d k : Nat) (V : vv_V) (Mc Mr : gh_M) (H : Heap) (ls : Array Slot), k + d = 512 → lv_has ls 4 [(3, .int (nI (4 * k))), (2, .ref hr), (1, .ref hc), (0, .ref b)] → vv_I k V → cs_V E Mc hc V → rs_V E Mr hr V → gh_P E.1 cl_L (fun q => s.heap.size ≤ q) Mc H → gh_P E.1 cl_L (fun q => s.heap.size ≤ q) Mr H → lw_D Mc Mr → va_S (fun q => s.heap.size ≤ q) s.heap H [] → 
      W p l e room_1 s m #[Value.ref b] below meth c H [] (12 + 470 * k) (374 + 12230 * k) (lw_Z below #[Value.ref b] s) (F0 m 18 ls []) := by
  have hx := F.1
  have hb := F.2.1
  have hret := F.2.2.1
  have hlk := F.2.2.2.2.2.1
  intro d
  induction d with
  | zero =>
    intro k V Mc Mr H ls hkd hl hI hVc hVr hPc hPr hd hS
    have hk5 : k = 512 := by omega
    refine lv_iload_n hx hb dc_LW_law_18 rfl (lv_fd hl rfl) ?_
    refine lv_aload_n hx hb dc_LW_law_19 rfl (lv_fd hl rfl) ?_
    refine va_slen hx hb hX hbl (A := (fun q => s.heap.size ≤ q)) (Nat.not_le.mpr hbl) hS dc_LW_law_20 ?_
    refine lv_iconst (v := nI 4) hx hb dc_LW_law_21 (by decide) ?_
    refine lv_isub hx hb dc_LW_law_22 ?_
    refine lv_icmp_gt (tgt := 439) hx hb dc_LW_law_23 (by decide) (fun _ => ?_) (fun q => ?_)
    · refine lv_iconst (v := 1) hx hb dc_LW_law_439 (by decide) ?_
      refine W.widen (k := 600000) (n := 7302249) (by omega) (by omega) ?_
      exact lw_ret hx hb hret hlk dc_LW_law_440
    · exfalso
      apply q
      show nI L - nI 4 < nI (4 * k)
      rw [Int32.lt_iff_toInt_lt, pk_sub_toInt (by omega) (by decide), nI_toInt (by omega)]
      omega
  | succ d ih =>
    intro k V Mc Mr H ls hkd hl hI hVc hVr hPc hPr hd hS
    have hk5 : k < 512 := by omega
    have nx : ∀ (V : vv_V) (Mc Mr : gh_M) (H : Heap) (ls : Array Slot) (cells slots : Nat), cells ≤ 12 + 470 * (k + 1) → slots ≤ 374 + 12230 * (k + 1) → lv_has ls 4 [(3, .int (nI (4 * k))), (2, .ref hr), (1, .ref hc), (0, .ref b)] → vv_I (k + 1) V → cs_V E Mc hc V → rs_V E Mr hr V → gh_P E.1 cl_L (fun q => s.heap.size ≤ q) Mc H → gh_P E.1 cl_L (fun q => s.heap.size ≤ q) Mr H → lw_D Mc Mr → va_S (fun q => s.heap.size ≤ q) s.heap H [] → 
        W p l e room_1 s m #[Value.ref b] below meth c H [] cells slots (lw_Z below #[Value.ref b] s) (F0 m 433 ls []) := by
      intro V Mc Mr H ls cells slots h1 h2 hl hI hVc hVr hPc hPr hd hS
      refine lv_iinc (k := 0) (v := nI (4 * (k + 1))) hx hb dc_LW_law_433 hl rfl (gm_inc4 k) (by decide) rfl (fun ls hl => ?_)
      refine lv_goto (tgt := 18) hx hb dc_LW_law_436 (by decide) ?_
      refine W.widen (k := 12 + 470 * (k + 1)) (n := 374 + 12230 * (k + 1)) h1 h2 ?_
      exact ih (k + 1) V Mc Mr H ls (by omega) hl hI hVc hVr hPc hPr hd hS
    refine lv_iload_n hx hb dc_LW_law_18 rfl (lv_fd hl rfl) ?_
    refine lv_aload_n hx hb dc_LW_law_19 rfl (lv_fd hl rfl) ?_
    refine va_slen hx hb hX hbl (A := (fun q => s.heap.size ≤ q)) (Nat.not_le.mpr hbl) hS dc_LW_law_20 ?_
    refine lv_iconst (v := nI 4) hx hb dc_LW_law_21 (by decide) ?_
    refine lv_isub hx hb dc_LW_law_22 ?_
    refine lv_icmp_gt (tgt := 439) hx hb dc_LW_law_23 (by decide) (fun _ => ?_) (fun q => ?_)
    · refine lv_iconst (v := 1) hx hb dc_LW_law_439 (by decide) ?_
      refine W.widen (k := 600000) (n := 7302249) (by omega) (by omega) ?_
      exact lw_ret hx hb hret hlk dc_LW_law_440
    have hkL : 4 * k + 4 ≤ L := by
      have q : ¬ nI L - nI 4 < nI (4 * k) := q
      rw [Int32.lt_iff_toInt_lt, pk_sub_toInt (by omega) (by decide), nI_toInt (by omega)] at q
      omega
    refine lv_aload_n hx hb dc_LW_law_26 rfl (lv_fd hl rfl) ?_
    refine lv_iload_n hx hb dc_LW_law_27 rfl (lv_fd hl rfl) ?_
    refine lw_ld hx hb hX hbl hS (show 4 * k < L by omega) hL dc_LW_law_28 ?_
    refine lv_bipush (v := nI 15) hx hb dc_LW_law_29 (by decide) ?_
    refine lv_iand hx hb dc_LW_law_31 ?_
    obtain ⟨t, ht16, htv⟩ := and15 (xs (4 * k))
    refine gh_topi htv ?_
    rcases (show t = 0 ∨ t = 1 ∨ t = 2 ∨ t = 3 ∨ t = 4 ∨ t = 5 ∨ t = 6 ∨ t = 7 ∨ t = 8 ∨ t = 9 ∨ t = 10 ∨ t = 11 ∨ 12 ≤ t by omega) with rfl | rfl | rfl | rfl | rfl | rfl | rfl | rfl | rfl | rfl | rfl | rfl | h12
    · refine lv_tableIn (tgt := 96) hx hb dc_LW_law_32 (by decide) (by decide) (by rfl) (by decide) ?_
      refine lv_aload_n hx hb dc_LW_law_96 rfl (lv_fd hl rfl) ?_
      refine lv_aload_n hx hb dc_LW_law_97 rfl (lv_fd hl rfl) ?_
      refine lv_iload_n hx hb dc_LW_law_98 rfl (lv_fd hl rfl) ?_
      refine lv_iconst (v := nI 1) hx hb dc_LW_law_99 (by decide) ?_
      refine lv_iadd hx hb dc_LW_law_100 ?_
      refine gh_topi (show nI (4 * k) + nI 1 = nI (4 * k + 1) from nI_add _ _) ?_
      refine lw_ld hx hb hX hbl hS (show 4 * k + 1 < L by omega) hL dc_LW_law_101 ?_
      refine lw_ci (gk_rV F (b := hc) (As := [.int (xs (4 * k + 1))]) (rest := []) (ct_TH_make l E _ _ hVc hI hk5 (xs (4 * k + 1))) ww_66 ww_67 ww_68 ww_1 ww_69 rfl rfl ⟨by decide, by decide, by show _ = some 1; decide +kernel⟩ ⟨Nat.le_of_ble_eq_true rfl, Nat.le_of_ble_eq_true rfl⟩ (by obtain ⟨fs, hq⟩ := hVc.obj; exact gh_recv hK.1 hPc hq rfl) hK hZ hPc hS (fun q h => h) hl.1 rfl (Nat.le_of_ble_eq_true rfl) dc_LW_law_102 ⟨by show 12 + 470 * k + 316 ≤ 600000; omega, by show 374 + 12230 * k + 7100 ≤ 7302249; omega⟩) hPc hPr hd hS (fun r M1 H h1 hPc hPr hd hS => ?_)
      refine lv_aload_n hx hb dc_LW_law_105 rfl (lv_fd hl rfl) ?_
      refine lv_aload_n hx hb dc_LW_law_106 rfl (lv_fd hl rfl) ?_
      refine lv_iload_n hx hb dc_LW_law_107 rfl (lv_fd hl rfl) ?_
      refine lv_iconst (v := nI 1) hx hb dc_LW_law_108 (by decide) ?_
      refine lv_iadd hx hb dc_LW_law_109 ?_
      refine gh_topi (show nI (4 * k) + nI 1 = nI (4 * k + 1) from nI_add _ _) ?_
      refine lw_ld hx hb hX hbl hS (show 4 * k + 1 < L by omega) hL dc_LW_law_110 ?_
      refine lw_ci (gk_rV F (b := hr) (As := [.int (xs (4 * k + 1))]) (rest := [.int r]) (ct_MO_make l E _ _ hVr hI hk5 (xs (4 * k + 1))) ww_338 ww_339 ww_340 ww_5 ww_341 rfl rfl ⟨by decide, by decide, by show _ = some 1; decide +kernel⟩ ⟨Nat.le_of_ble_eq_true rfl, Nat.le_of_ble_eq_true rfl⟩ (by obtain ⟨fs, hq⟩ := hVr.obj; exact gh_recv hK.1 hPr hq rfl) hK hZ hPr hS (fun q h => h) hl.1 rfl (Nat.le_of_ble_eq_true rfl) dc_LW_law_111 ⟨by show 12 + 470 * k + 316 + 6 ≤ 600000; omega, by show 374 + 12230 * k + 7100 + 5124 ≤ 7302249; omega⟩) hPr hPc hd.symm hS (fun r2 M2 H h2 hPr hPc hd hS => ?_)
      refine lv_icmp_eq (tgt := 433) hx hb dc_LW_law_114 (by decide) (fun _ => ?_) (fun q => absurd (h1.1.trans h2.1.symm) q)
      exact nx _ M1 M2 H ls (12 + 470 * k + 316 + 6) (374 + 12230 * k + 7100 + 5124) (by omega) (by omega) hl (vv_make hI hk5 (xs (4 * k + 1))) h1.2 h2.2 hPc hPr hd.symm hS
    · refine lv_tableIn (tgt := 119) hx hb dc_LW_law_32 (by decide) (by decide) (by rfl) (by decide) ?_
      refine lv_aload_n hx hb dc_LW_law_119 rfl (lv_fd hl rfl) ?_
      refine lv_aload_n hx hb dc_LW_law_120 rfl (lv_fd hl rfl) ?_
      refine lv_iload_n hx hb dc_LW_law_121 rfl (lv_fd hl rfl) ?_
      refine lv_iconst (v := nI 1) hx hb dc_LW_law_122 (by decide) ?_
      refine lv_iadd hx hb dc_LW_law_123 ?_
      refine gh_topi (show nI (4 * k) + nI 1 = nI (4 * k + 1) from nI_add _ _) ?_
      refine lw_ld hx hb hX hbl hS (show 4 * k + 1 < L by omega) hL dc_LW_law_124 ?_
      refine lv_aload_n hx hb dc_LW_law_125 rfl (lv_fd hl rfl) ?_
      refine lv_iload_n hx hb dc_LW_law_126 rfl (lv_fd hl rfl) ?_
      refine lv_iconst (v := nI 2) hx hb dc_LW_law_127 (by decide) ?_
      refine lv_iadd hx hb dc_LW_law_128 ?_
      refine gh_topi (show nI (4 * k) + nI 2 = nI (4 * k + 2) from nI_add _ _) ?_
      refine lw_ld hx hb hX hbl hS (show 4 * k + 2 < L by omega) hL dc_LW_law_129 ?_
      refine lw_ci (gk_rV F (b := hc) (As := [.int (xs (4 * k + 1)), .int (xs (4 * k + 2))]) (rest := []) (ct_TH_root l E _ _ hVc hI (by omega) (xs (4 * k + 1)) (xs (4 * k + 2))) ww_216 ww_217 ww_218 ww_1 ww_219 rfl rfl ⟨by decide, by decide, by show _ = some 2; decide +kernel⟩ ⟨Nat.le_of_ble_eq_true rfl, Nat.le_of_ble_eq_true rfl⟩ (by obtain ⟨fs, hq⟩ := hVc.obj; exact gh_recv hK.1 hPc hq rfl) hK hZ hPc hS (fun q h => h) hl.1 rfl (Nat.le_of_ble_eq_true rfl) dc_LW_law_130 ⟨by show 12 + 470 * k + 312 ≤ 600000; omega, by show 374 + 12230 * k + 6240 ≤ 7302249; omega⟩) hPc hPr hd hS (fun r M1 H h1 hPc hPr hd hS => ?_)
      refine lv_aload_n hx hb dc_LW_law_133 rfl (lv_fd hl rfl) ?_
      refine lv_aload_n hx hb dc_LW_law_134 rfl (lv_fd hl rfl) ?_
      refine lv_iload_n hx hb dc_LW_law_135 rfl (lv_fd hl rfl) ?_
      refine lv_iconst (v := nI 1) hx hb dc_LW_law_136 (by decide) ?_
      refine lv_iadd hx hb dc_LW_law_137 ?_
      refine gh_topi (show nI (4 * k) + nI 1 = nI (4 * k + 1) from nI_add _ _) ?_
      refine lw_ld hx hb hX hbl hS (show 4 * k + 1 < L by omega) hL dc_LW_law_138 ?_
      refine lv_aload_n hx hb dc_LW_law_139 rfl (lv_fd hl rfl) ?_
      refine lv_iload_n hx hb dc_LW_law_140 rfl (lv_fd hl rfl) ?_
      refine lv_iconst (v := nI 2) hx hb dc_LW_law_141 (by decide) ?_
      refine lv_iadd hx hb dc_LW_law_142 ?_
      refine gh_topi (show nI (4 * k) + nI 2 = nI (4 * k + 2) from nI_add _ _) ?_
      refine lw_ld hx hb hX hbl hS (show 4 * k + 2 < L by omega) hL dc_LW_law_143 ?_
      refine lw_ci (gk_rV F (b := hr) (As := [.int (xs (4 * k + 1)), .int (xs (4 * k + 2))]) (rest := [.int r]) (ct_MO_root l E _ _ hVr hI (by omega) (xs (4 * k + 1)) (xs (4 * k + 2))) ww_383 ww_384 ww_385 ww_5 ww_386 rfl rfl ⟨by decide, by decide, by show _ = some 2; decide +kernel⟩ ⟨Nat.le_of_ble_eq_true rfl, Nat.le_of_ble_eq_true rfl⟩ (by obtain ⟨fs, hq⟩ := hVr.obj; exact gh_recv hK.1 hPr hq rfl) hK hZ hPr hS (fun q h => h) hl.1 rfl (Nat.le_of_ble_eq_true rfl) dc_LW_law_144 ⟨by show 12 + 470 * k + 312 + 0 ≤ 600000; omega, by show 374 + 12230 * k + 6240 + 0 ≤ 7302249; omega⟩) hPr hPc hd.symm hS (fun r2 M2 H h2 hPr hPc hd hS => ?_)
      refine lv_icmp_eq (tgt := 433) hx hb dc_LW_law_147 (by decide) (fun _ => ?_) (fun q => absurd (h1.1.trans h2.1.symm) q)
      exact nx _ M1 M2 H ls (12 + 470 * k + 312 + 0) (374 + 12230 * k + 6240 + 0) (by omega) (by omega) hl (vv_root hI (by omega) (xs (4 * k + 1)) (xs (4 * k + 2))).up h1.2 h2.2 hPc hPr hd.symm hS
    · refine lv_tableIn (tgt := 152) hx hb dc_LW_law_32 (by decide) (by decide) (by rfl) (by decide) ?_
      refine lv_aload_n hx hb dc_LW_law_152 rfl (lv_fd hl rfl) ?_
      refine lv_aload_n hx hb dc_LW_law_153 rfl (lv_fd hl rfl) ?_
      refine lv_iload_n hx hb dc_LW_law_154 rfl (lv_fd hl rfl) ?_
      refine lv_iconst (v := nI 1) hx hb dc_LW_law_155 (by decide) ?_
      refine lv_iadd hx hb dc_LW_law_156 ?_
      refine gh_topi (show nI (4 * k) + nI 1 = nI (4 * k + 1) from nI_add _ _) ?_
      refine lw_ld hx hb hX hbl hS (show 4 * k + 1 < L by omega) hL dc_LW_law_157 ?_
      refine lv_aload_n hx hb dc_LW_law_158 rfl (lv_fd hl rfl) ?_
      refine lv_iload_n hx hb dc_LW_law_159 rfl (lv_fd hl rfl) ?_
      refine lv_iconst (v := nI 2) hx hb dc_LW_law_160 (by decide) ?_
      refine lv_iadd hx hb dc_LW_law_161 ?_
      refine gh_topi (show nI (4 * k) + nI 2 = nI (4 * k + 2) from nI_add _ _) ?_
      refine lw_ld hx hb hX hbl hS (show 4 * k + 2 < L by omega) hL dc_LW_law_162 ?_
      refine lw_ci (gk_rV F (b := hc) (As := [.int (xs (4 * k + 1)), .int (xs (4 * k + 2))]) (rest := []) (ct_TH_point l E _ _ hVc hI (by omega) (xs (4 * k + 1)) (xs (4 * k + 2))) ww_224 ww_225 ww_226 ww_1 ww_227 rfl rfl ⟨by decide, by decide, by show _ = some 2; decide +kernel⟩ ⟨Nat.le_of_ble_eq_true rfl, Nat.le_of_ble_eq_true rfl⟩ (by obtain ⟨fs, hq⟩ := hVc.obj; exact gh_recv hK.1 hPc hq rfl) hK hZ hPc hS (fun q h => h) hl.1 rfl (Nat.le_of_ble_eq_true rfl) dc_LW_law_163 ⟨by show 12 + 470 * k + 2 ≤ 600000; omega, by show 374 + 12230 * k + 460 ≤ 7302249; omega⟩) hPc hPr hd hS (fun r M1 H h1 hPc hPr hd hS => ?_)
      refine lv_aload_n hx hb dc_LW_law_166 rfl (lv_fd hl rfl) ?_
      refine lv_aload_n hx hb dc_LW_law_167 rfl (lv_fd hl rfl) ?_
      refine lv_iload_n hx hb dc_LW_law_168 rfl (lv_fd hl rfl) ?_
      refine lv_iconst (v := nI 1) hx hb dc_LW_law_169 (by decide) ?_
      refine lv_iadd hx hb dc_LW_law_170 ?_
      refine gh_topi (show nI (4 * k) + nI 1 = nI (4 * k + 1) from nI_add _ _) ?_
      refine lw_ld hx hb hX hbl hS (show 4 * k + 1 < L by omega) hL dc_LW_law_171 ?_
      refine lv_aload_n hx hb dc_LW_law_172 rfl (lv_fd hl rfl) ?_
      refine lv_iload_n hx hb dc_LW_law_173 rfl (lv_fd hl rfl) ?_
      refine lv_iconst (v := nI 2) hx hb dc_LW_law_174 (by decide) ?_
      refine lv_iadd hx hb dc_LW_law_175 ?_
      refine gh_topi (show nI (4 * k) + nI 2 = nI (4 * k + 2) from nI_add _ _) ?_
      refine lw_ld hx hb hX hbl hS (show 4 * k + 2 < L by omega) hL dc_LW_law_176 ?_
      refine lw_ci (gk_rV F (b := hr) (As := [.int (xs (4 * k + 1)), .int (xs (4 * k + 2))]) (rest := [.int r]) (ct_MO_point l E _ _ hVr hI (by omega) (xs (4 * k + 1)) (xs (4 * k + 2))) ww_391 ww_392 ww_393 ww_5 ww_394 rfl rfl ⟨by decide, by decide, by show _ = some 2; decide +kernel⟩ ⟨Nat.le_of_ble_eq_true rfl, Nat.le_of_ble_eq_true rfl⟩ (by obtain ⟨fs, hq⟩ := hVr.obj; exact gh_recv hK.1 hPr hq rfl) hK hZ hPr hS (fun q h => h) hl.1 rfl (Nat.le_of_ble_eq_true rfl) dc_LW_law_177 ⟨by show 12 + 470 * k + 2 + 1 ≤ 600000; omega, by show 374 + 12230 * k + 460 + 600 ≤ 7302249; omega⟩) hPr hPc hd.symm hS (fun r2 M2 H h2 hPr hPc hd hS => ?_)
      refine lv_icmp_eq (tgt := 433) hx hb dc_LW_law_180 (by decide) (fun _ => ?_) (fun q => absurd (h1.1.trans h2.1.symm) q)
      exact nx _ M1 M2 H ls (12 + 470 * k + 2 + 1) (374 + 12230 * k + 460 + 600) (by omega) (by omega) hl (vv_point hI (xs (4 * k + 1)) (xs (4 * k + 2))).up h1.2 h2.2 hPc hPr hd.symm hS
    · refine lv_tableIn (tgt := 185) hx hb dc_LW_law_32 (by decide) (by decide) (by rfl) (by decide) ?_
      refine lv_aload_n hx hb dc_LW_law_185 rfl (lv_fd hl rfl) ?_
      refine lv_aload_n hx hb dc_LW_law_186 rfl (lv_fd hl rfl) ?_
      refine lv_iload_n hx hb dc_LW_law_187 rfl (lv_fd hl rfl) ?_
      refine lv_iconst (v := nI 1) hx hb dc_LW_law_188 (by decide) ?_
      refine lv_iadd hx hb dc_LW_law_189 ?_
      refine gh_topi (show nI (4 * k) + nI 1 = nI (4 * k + 1) from nI_add _ _) ?_
      refine lw_ld hx hb hX hbl hS (show 4 * k + 1 < L by omega) hL dc_LW_law_190 ?_
      refine lv_aload_n hx hb dc_LW_law_191 rfl (lv_fd hl rfl) ?_
      refine lv_iload_n hx hb dc_LW_law_192 rfl (lv_fd hl rfl) ?_
      refine lv_iconst (v := nI 2) hx hb dc_LW_law_193 (by decide) ?_
      refine lv_iadd hx hb dc_LW_law_194 ?_
      refine gh_topi (show nI (4 * k) + nI 2 = nI (4 * k + 2) from nI_add _ _) ?_
      refine lw_ld hx hb hX hbl hS (show 4 * k + 2 < L by omega) hL dc_LW_law_195 ?_
      refine lw_ci (gk_rV F (b := hc) (As := [.int (xs (4 * k + 1)), .int (xs (4 * k + 2))]) (rest := []) (ct_TH_note l E _ _ hVc hI (by omega) (xs (4 * k + 1)) (xs (4 * k + 2))) ww_246 ww_247 ww_248 ww_1 ww_249 rfl rfl ⟨by decide, by decide, by show _ = some 2; decide +kernel⟩ ⟨Nat.le_of_ble_eq_true rfl, Nat.le_of_ble_eq_true rfl⟩ (by obtain ⟨fs, hq⟩ := hVc.obj; exact gh_recv hK.1 hPc hq rfl) hK hZ hPc hS (fun q h => h) hl.1 rfl (Nat.le_of_ble_eq_true rfl) dc_LW_law_196 ⟨by show 12 + 470 * k + 2 ≤ 600000; omega, by show 374 + 12230 * k + 460 ≤ 7302249; omega⟩) hPc hPr hd hS (fun r M1 H h1 hPc hPr hd hS => ?_)
      refine lv_aload_n hx hb dc_LW_law_199 rfl (lv_fd hl rfl) ?_
      refine lv_aload_n hx hb dc_LW_law_200 rfl (lv_fd hl rfl) ?_
      refine lv_iload_n hx hb dc_LW_law_201 rfl (lv_fd hl rfl) ?_
      refine lv_iconst (v := nI 1) hx hb dc_LW_law_202 (by decide) ?_
      refine lv_iadd hx hb dc_LW_law_203 ?_
      refine gh_topi (show nI (4 * k) + nI 1 = nI (4 * k + 1) from nI_add _ _) ?_
      refine lw_ld hx hb hX hbl hS (show 4 * k + 1 < L by omega) hL dc_LW_law_204 ?_
      refine lv_aload_n hx hb dc_LW_law_205 rfl (lv_fd hl rfl) ?_
      refine lv_iload_n hx hb dc_LW_law_206 rfl (lv_fd hl rfl) ?_
      refine lv_iconst (v := nI 2) hx hb dc_LW_law_207 (by decide) ?_
      refine lv_iadd hx hb dc_LW_law_208 ?_
      refine gh_topi (show nI (4 * k) + nI 2 = nI (4 * k + 2) from nI_add _ _) ?_
      refine lw_ld hx hb hX hbl hS (show 4 * k + 2 < L by omega) hL dc_LW_law_209 ?_
      refine lw_ci (gk_rV F (b := hr) (As := [.int (xs (4 * k + 1)), .int (xs (4 * k + 2))]) (rest := [.int r]) (ct_MO_note l E _ _ hVr hI (by omega) (xs (4 * k + 1)) (xs (4 * k + 2))) ww_407 ww_408 ww_409 ww_5 ww_410 rfl rfl ⟨by decide, by decide, by show _ = some 2; decide +kernel⟩ ⟨Nat.le_of_ble_eq_true rfl, Nat.le_of_ble_eq_true rfl⟩ (by obtain ⟨fs, hq⟩ := hVr.obj; exact gh_recv hK.1 hPr hq rfl) hK hZ hPr hS (fun q h => h) hl.1 rfl (Nat.le_of_ble_eq_true rfl) dc_LW_law_210 ⟨by show 12 + 470 * k + 2 + 1 ≤ 600000; omega, by show 374 + 12230 * k + 460 + 600 ≤ 7302249; omega⟩) hPr hPc hd.symm hS (fun r2 M2 H h2 hPr hPc hd hS => ?_)
      refine lv_icmp_eq (tgt := 433) hx hb dc_LW_law_213 (by decide) (fun _ => ?_) (fun q => absurd (h1.1.trans h2.1.symm) q)
      exact nx _ M1 M2 H ls (12 + 470 * k + 2 + 1) (374 + 12230 * k + 460 + 600) (by omega) (by omega) hl (vv_note hI (xs (4 * k + 1)) (xs (4 * k + 2))).up h1.2 h2.2 hPc hPr hd.symm hS
    · refine lv_tableIn (tgt := 218) hx hb dc_LW_law_32 (by decide) (by decide) (by rfl) (by decide) ?_
      refine lv_aload_n hx hb dc_LW_law_218 rfl (lv_fd hl rfl) ?_
      refine lv_aload_n hx hb dc_LW_law_219 rfl (lv_fd hl rfl) ?_
      refine lv_iload_n hx hb dc_LW_law_220 rfl (lv_fd hl rfl) ?_
      refine lv_iconst (v := nI 1) hx hb dc_LW_law_221 (by decide) ?_
      refine lv_iadd hx hb dc_LW_law_222 ?_
      refine gh_topi (show nI (4 * k) + nI 1 = nI (4 * k + 1) from nI_add _ _) ?_
      refine lw_ld hx hb hX hbl hS (show 4 * k + 1 < L by omega) hL dc_LW_law_223 ?_
      refine lv_aload_n hx hb dc_LW_law_224 rfl (lv_fd hl rfl) ?_
      refine lv_iload_n hx hb dc_LW_law_225 rfl (lv_fd hl rfl) ?_
      refine lv_iconst (v := nI 2) hx hb dc_LW_law_226 (by decide) ?_
      refine lv_iadd hx hb dc_LW_law_227 ?_
      refine gh_topi (show nI (4 * k) + nI 2 = nI (4 * k + 2) from nI_add _ _) ?_
      refine lw_ld hx hb hX hbl hS (show 4 * k + 2 < L by omega) hL dc_LW_law_228 ?_
      refine lv_aload_n hx hb dc_LW_law_229 rfl (lv_fd hl rfl) ?_
      refine lv_iload_n hx hb dc_LW_law_230 rfl (lv_fd hl rfl) ?_
      refine lv_iconst (v := nI 3) hx hb dc_LW_law_231 (by decide) ?_
      refine lv_iadd hx hb dc_LW_law_232 ?_
      refine gh_topi (show nI (4 * k) + nI 3 = nI (4 * k + 3) from nI_add _ _) ?_
      refine lw_ld hx hb hX hbl hS (show 4 * k + 3 < L by omega) hL dc_LW_law_233 ?_
      refine lw_ci (gk_rV F (b := hc) (As := [.int (xs (4 * k + 1)), .int (xs (4 * k + 2)), .int (xs (4 * k + 3))]) (rest := []) (ct_TH_turn l E _ _ hVc hI (by omega) (xs (4 * k + 1)) (xs (4 * k + 2)) (xs (4 * k + 3))) ww_250 ww_251 ww_252 ww_1 ww_253 rfl rfl ⟨by decide, by decide, by show _ = some 3; decide +kernel⟩ ⟨Nat.le_of_ble_eq_true rfl, Nat.le_of_ble_eq_true rfl⟩ (by obtain ⟨fs, hq⟩ := hVc.obj; exact gh_recv hK.1 hPc hq rfl) hK hZ hPc hS (fun q h => h) hl.1 rfl (Nat.le_of_ble_eq_true rfl) dc_LW_law_234 ⟨by show 12 + 470 * k + 313 ≤ 600000; omega, by show 374 + 12230 * k + 6250 ≤ 7302249; omega⟩) hPc hPr hd hS (fun r M1 H h1 hPc hPr hd hS => ?_)
      refine lv_aload_n hx hb dc_LW_law_237 rfl (lv_fd hl rfl) ?_
      refine lv_aload_n hx hb dc_LW_law_238 rfl (lv_fd hl rfl) ?_
      refine lv_iload_n hx hb dc_LW_law_239 rfl (lv_fd hl rfl) ?_
      refine lv_iconst (v := nI 1) hx hb dc_LW_law_240 (by decide) ?_
      refine lv_iadd hx hb dc_LW_law_241 ?_
      refine gh_topi (show nI (4 * k) + nI 1 = nI (4 * k + 1) from nI_add _ _) ?_
      refine lw_ld hx hb hX hbl hS (show 4 * k + 1 < L by omega) hL dc_LW_law_242 ?_
      refine lv_aload_n hx hb dc_LW_law_243 rfl (lv_fd hl rfl) ?_
      refine lv_iload_n hx hb dc_LW_law_244 rfl (lv_fd hl rfl) ?_
      refine lv_iconst (v := nI 2) hx hb dc_LW_law_245 (by decide) ?_
      refine lv_iadd hx hb dc_LW_law_246 ?_
      refine gh_topi (show nI (4 * k) + nI 2 = nI (4 * k + 2) from nI_add _ _) ?_
      refine lw_ld hx hb hX hbl hS (show 4 * k + 2 < L by omega) hL dc_LW_law_247 ?_
      refine lv_aload_n hx hb dc_LW_law_248 rfl (lv_fd hl rfl) ?_
      refine lv_iload_n hx hb dc_LW_law_249 rfl (lv_fd hl rfl) ?_
      refine lv_iconst (v := nI 3) hx hb dc_LW_law_250 (by decide) ?_
      refine lv_iadd hx hb dc_LW_law_251 ?_
      refine gh_topi (show nI (4 * k) + nI 3 = nI (4 * k + 3) from nI_add _ _) ?_
      refine lw_ld hx hb hX hbl hS (show 4 * k + 3 < L by omega) hL dc_LW_law_252 ?_
      refine lw_ci (gk_rV F (b := hr) (As := [.int (xs (4 * k + 1)), .int (xs (4 * k + 2)), .int (xs (4 * k + 3))]) (rest := [.int r]) (ct_MO_turn l E _ _ hVr hI (by omega) (xs (4 * k + 1)) (xs (4 * k + 2)) (xs (4 * k + 3))) ww_411 ww_412 ww_413 ww_5 ww_414 rfl rfl ⟨by decide, by decide, by show _ = some 3; decide +kernel⟩ ⟨Nat.le_of_ble_eq_true rfl, Nat.le_of_ble_eq_true rfl⟩ (by obtain ⟨fs, hq⟩ := hVr.obj; exact gh_recv hK.1 hPr hq rfl) hK hZ hPr hS (fun q h => h) hl.1 rfl (Nat.le_of_ble_eq_true rfl) dc_LW_law_253 ⟨by show 12 + 470 * k + 313 + 0 ≤ 600000; omega, by show 374 + 12230 * k + 6250 + 0 ≤ 7302249; omega⟩) hPr hPc hd.symm hS (fun r2 M2 H h2 hPr hPc hd hS => ?_)
      refine lv_icmp_eq (tgt := 433) hx hb dc_LW_law_256 (by decide) (fun _ => ?_) (fun q => absurd (h1.1.trans h2.1.symm) q)
      exact nx _ M1 M2 H ls (12 + 470 * k + 313 + 0) (374 + 12230 * k + 6250 + 0) (by omega) (by omega) hl (vv_turn hI (by omega) (xs (4 * k + 1)) (xs (4 * k + 2)) (xs (4 * k + 3))).up h1.2 h2.2 hPc hPr hd.symm hS
    · refine lv_tableIn (tgt := 261) hx hb dc_LW_law_32 (by decide) (by decide) (by rfl) (by decide) ?_
      refine lv_aload_n hx hb dc_LW_law_261 rfl (lv_fd hl rfl) ?_
      refine lv_aload_n hx hb dc_LW_law_262 rfl (lv_fd hl rfl) ?_
      refine lv_iload_n hx hb dc_LW_law_263 rfl (lv_fd hl rfl) ?_
      refine lv_iconst (v := nI 1) hx hb dc_LW_law_264 (by decide) ?_
      refine lv_iadd hx hb dc_LW_law_265 ?_
      refine gh_topi (show nI (4 * k) + nI 1 = nI (4 * k + 1) from nI_add _ _) ?_
      refine lw_ld hx hb hX hbl hS (show 4 * k + 1 < L by omega) hL dc_LW_law_266 ?_
      refine lv_aload_n hx hb dc_LW_law_267 rfl (lv_fd hl rfl) ?_
      refine lv_iload_n hx hb dc_LW_law_268 rfl (lv_fd hl rfl) ?_
      refine lv_iconst (v := nI 2) hx hb dc_LW_law_269 (by decide) ?_
      refine lv_iadd hx hb dc_LW_law_270 ?_
      refine gh_topi (show nI (4 * k) + nI 2 = nI (4 * k + 2) from nI_add _ _) ?_
      refine lw_ld hx hb hX hbl hS (show 4 * k + 2 < L by omega) hL dc_LW_law_271 ?_
      refine lw_ci (gk_rV F (b := hc) (As := [.int (xs (4 * k + 1)), .int (xs (4 * k + 2))]) (rest := []) (ct_TH_take l E _ _ hVc hI (by omega) (xs (4 * k + 1)) (xs (4 * k + 2))) ww_259 ww_260 ww_261 ww_1 ww_262 rfl rfl ⟨by decide, by decide, by show _ = some 2; decide +kernel⟩ ⟨Nat.le_of_ble_eq_true rfl, Nat.le_of_ble_eq_true rfl⟩ (by obtain ⟨fs, hq⟩ := hVc.obj; exact gh_recv hK.1 hPc hq rfl) hK hZ hPc hS (fun q h => h) hl.1 rfl (Nat.le_of_ble_eq_true rfl) dc_LW_law_272 ⟨by show 12 + 470 * k + 312 ≤ 600000; omega, by show 374 + 12230 * k + 6240 ≤ 7302249; omega⟩) hPc hPr hd hS (fun r M1 H h1 hPc hPr hd hS => ?_)
      refine lv_aload_n hx hb dc_LW_law_275 rfl (lv_fd hl rfl) ?_
      refine lv_aload_n hx hb dc_LW_law_276 rfl (lv_fd hl rfl) ?_
      refine lv_iload_n hx hb dc_LW_law_277 rfl (lv_fd hl rfl) ?_
      refine lv_iconst (v := nI 1) hx hb dc_LW_law_278 (by decide) ?_
      refine lv_iadd hx hb dc_LW_law_279 ?_
      refine gh_topi (show nI (4 * k) + nI 1 = nI (4 * k + 1) from nI_add _ _) ?_
      refine lw_ld hx hb hX hbl hS (show 4 * k + 1 < L by omega) hL dc_LW_law_280 ?_
      refine lv_aload_n hx hb dc_LW_law_281 rfl (lv_fd hl rfl) ?_
      refine lv_iload_n hx hb dc_LW_law_282 rfl (lv_fd hl rfl) ?_
      refine lv_iconst (v := nI 2) hx hb dc_LW_law_283 (by decide) ?_
      refine lv_iadd hx hb dc_LW_law_284 ?_
      refine gh_topi (show nI (4 * k) + nI 2 = nI (4 * k + 2) from nI_add _ _) ?_
      refine lw_ld hx hb hX hbl hS (show 4 * k + 2 < L by omega) hL dc_LW_law_285 ?_
      refine lw_ci (gk_rV F (b := hr) (As := [.int (xs (4 * k + 1)), .int (xs (4 * k + 2))]) (rest := [.int r]) (ct_MO_take l E _ _ hVr hI (by omega) (xs (4 * k + 1)) (xs (4 * k + 2))) ww_415 ww_416 ww_417 ww_5 ww_418 rfl rfl ⟨by decide, by decide, by show _ = some 2; decide +kernel⟩ ⟨Nat.le_of_ble_eq_true rfl, Nat.le_of_ble_eq_true rfl⟩ (by obtain ⟨fs, hq⟩ := hVr.obj; exact gh_recv hK.1 hPr hq rfl) hK hZ hPr hS (fun q h => h) hl.1 rfl (Nat.le_of_ble_eq_true rfl) dc_LW_law_286 ⟨by show 12 + 470 * k + 312 + 0 ≤ 600000; omega, by show 374 + 12230 * k + 6240 + 0 ≤ 7302249; omega⟩) hPr hPc hd.symm hS (fun r2 M2 H h2 hPr hPc hd hS => ?_)
      refine lv_icmp_eq (tgt := 433) hx hb dc_LW_law_289 (by decide) (fun _ => ?_) (fun q => absurd (h1.1.trans h2.1.symm) q)
      exact nx _ M1 M2 H ls (12 + 470 * k + 312 + 0) (374 + 12230 * k + 6240 + 0) (by omega) (by omega) hl (vv_take hI (by omega) (xs (4 * k + 1)) (xs (4 * k + 2))).up h1.2 h2.2 hPc hPr hd.symm hS
    · refine lv_tableIn (tgt := 294) hx hb dc_LW_law_32 (by decide) (by decide) (by rfl) (by decide) ?_
      refine lv_aload_n hx hb dc_LW_law_294 rfl (lv_fd hl rfl) ?_
      refine lv_aload_n hx hb dc_LW_law_295 rfl (lv_fd hl rfl) ?_
      refine lv_iload_n hx hb dc_LW_law_296 rfl (lv_fd hl rfl) ?_
      refine lv_iconst (v := nI 1) hx hb dc_LW_law_297 (by decide) ?_
      refine lv_iadd hx hb dc_LW_law_298 ?_
      refine gh_topi (show nI (4 * k) + nI 1 = nI (4 * k + 1) from nI_add _ _) ?_
      refine lw_ld hx hb hX hbl hS (show 4 * k + 1 < L by omega) hL dc_LW_law_299 ?_
      refine lv_aload_n hx hb dc_LW_law_300 rfl (lv_fd hl rfl) ?_
      refine lv_iload_n hx hb dc_LW_law_301 rfl (lv_fd hl rfl) ?_
      refine lv_iconst (v := nI 2) hx hb dc_LW_law_302 (by decide) ?_
      refine lv_iadd hx hb dc_LW_law_303 ?_
      refine gh_topi (show nI (4 * k) + nI 2 = nI (4 * k + 2) from nI_add _ _) ?_
      refine lw_ld hx hb hX hbl hS (show 4 * k + 2 < L by omega) hL dc_LW_law_304 ?_
      refine gk_sl (gk_rV F (b := hc) (As := [.int (xs (4 * k + 1)), .int (xs (4 * k + 2))]) (rest := []) (ct_TH_item l E _ _ hVc hI (by omega) (xs (4 * k + 1)) (xs (4 * k + 2))) ww_263 ww_264 ww_265 ww_1 ww_266 rfl rfl ⟨by decide, by decide, by show _ = some 2; decide +kernel⟩ ⟨Nat.le_of_ble_eq_true rfl, Nat.le_of_ble_eq_true rfl⟩ (by obtain ⟨fs, hq⟩ := hVc.obj; exact gh_recv hK.1 hPc hq rfl) hK hZ hPc hS (fun q h => h) hl.1 rfl (Nat.le_of_ble_eq_true rfl) dc_LW_law_305 ⟨by show 12 + 470 * k + 0 ≤ 600000; omega, by show 374 + 12230 * k + 0 ≤ 7302249; omega⟩) (fun r h1 => ?_)
      refine lv_aload_n hx hb dc_LW_law_308 rfl (lv_fd hl rfl) ?_
      refine lv_aload_n hx hb dc_LW_law_309 rfl (lv_fd hl rfl) ?_
      refine lv_iload_n hx hb dc_LW_law_310 rfl (lv_fd hl rfl) ?_
      refine lv_iconst (v := nI 1) hx hb dc_LW_law_311 (by decide) ?_
      refine lv_iadd hx hb dc_LW_law_312 ?_
      refine gh_topi (show nI (4 * k) + nI 1 = nI (4 * k + 1) from nI_add _ _) ?_
      refine lw_ld hx hb hX hbl hS (show 4 * k + 1 < L by omega) hL dc_LW_law_313 ?_
      refine lv_aload_n hx hb dc_LW_law_314 rfl (lv_fd hl rfl) ?_
      refine lv_iload_n hx hb dc_LW_law_315 rfl (lv_fd hl rfl) ?_
      refine lv_iconst (v := nI 2) hx hb dc_LW_law_316 (by decide) ?_
      refine lv_iadd hx hb dc_LW_law_317 ?_
      refine gh_topi (show nI (4 * k) + nI 2 = nI (4 * k + 2) from nI_add _ _) ?_
      refine lw_ld hx hb hX hbl hS (show 4 * k + 2 < L by omega) hL dc_LW_law_318 ?_
      refine gk_sl (gk_rV F (b := hr) (As := [.int (xs (4 * k + 1)), .int (xs (4 * k + 2))]) (rest := [.long r]) (ct_MO_item l E _ _ hVr hI (by omega) (xs (4 * k + 1)) (xs (4 * k + 2))) ww_419 ww_420 ww_421 ww_5 ww_422 rfl rfl ⟨by decide, by decide, by show _ = some 2; decide +kernel⟩ ⟨Nat.le_of_ble_eq_true rfl, Nat.le_of_ble_eq_true rfl⟩ (by obtain ⟨fs, hq⟩ := hVr.obj; exact gh_recv hK.1 hPr hq rfl) hK hZ hPr hS (fun q h => h) hl.1 rfl (Nat.le_of_ble_eq_true rfl) dc_LW_law_319 ⟨by show 12 + 470 * k + 0 ≤ 600000; omega, by show 374 + 12230 * k + 0 ≤ 7302249; omega⟩) (fun r2 h2 => ?_)
      refine W.lcmp hx hb dc_LW_law_322 ?_
      refine lv_if_eq (tgt := 433) hx hb dc_LW_law_323 (by decide) (fun _ => ?_) (fun q => absurd ((lg_cmp_eq _ _).mpr (h1.trans h2.symm)) q)
      exact nx V Mc Mr H ls (12 + 470 * k) (374 + 12230 * k) (by omega) (by omega) hl hI.up hVc hVr hPc hPr hd hS
    · refine lv_tableIn (tgt := 328) hx hb dc_LW_law_32 (by decide) (by decide) (by rfl) (by decide) ?_
      refine lv_aload_n hx hb dc_LW_law_328 rfl (lv_fd hl rfl) ?_
      refine lv_aload_n hx hb dc_LW_law_329 rfl (lv_fd hl rfl) ?_
      refine lv_iload_n hx hb dc_LW_law_330 rfl (lv_fd hl rfl) ?_
      refine lv_iconst (v := nI 1) hx hb dc_LW_law_331 (by decide) ?_
      refine lv_iadd hx hb dc_LW_law_332 ?_
      refine gh_topi (show nI (4 * k) + nI 1 = nI (4 * k + 1) from nI_add _ _) ?_
      refine lw_ld hx hb hX hbl hS (show 4 * k + 1 < L by omega) hL dc_LW_law_333 ?_
      refine gk_si (gk_rV F (b := hc) (As := [.int (xs (4 * k + 1))]) (rest := []) (ct_TH_held l E _ _ hVc hI (by omega) (xs (4 * k + 1))) ww_269 ww_270 ww_271 ww_1 ww_272 rfl rfl ⟨by decide, by decide, by show _ = some 1; decide +kernel⟩ ⟨Nat.le_of_ble_eq_true rfl, Nat.le_of_ble_eq_true rfl⟩ (by obtain ⟨fs, hq⟩ := hVc.obj; exact gh_recv hK.1 hPc hq rfl) hK hZ hPc hS (fun q h => h) hl.1 rfl (Nat.le_of_ble_eq_true rfl) dc_LW_law_334 ⟨by show 12 + 470 * k + 0 ≤ 600000; omega, by show 374 + 12230 * k + 0 ≤ 7302249; omega⟩) (fun r h1 => ?_)
      refine lv_aload_n hx hb dc_LW_law_337 rfl (lv_fd hl rfl) ?_
      refine lv_aload_n hx hb dc_LW_law_338 rfl (lv_fd hl rfl) ?_
      refine lv_iload_n hx hb dc_LW_law_339 rfl (lv_fd hl rfl) ?_
      refine lv_iconst (v := nI 1) hx hb dc_LW_law_340 (by decide) ?_
      refine lv_iadd hx hb dc_LW_law_341 ?_
      refine gh_topi (show nI (4 * k) + nI 1 = nI (4 * k + 1) from nI_add _ _) ?_
      refine lw_ld hx hb hX hbl hS (show 4 * k + 1 < L by omega) hL dc_LW_law_342 ?_
      refine gk_si (gk_rV F (b := hr) (As := [.int (xs (4 * k + 1))]) (rest := [.int r]) (ct_MO_held l E _ _ hVr hI (by omega) (xs (4 * k + 1))) ww_424 ww_425 ww_426 ww_5 ww_427 rfl rfl ⟨by decide, by decide, by show _ = some 1; decide +kernel⟩ ⟨Nat.le_of_ble_eq_true rfl, Nat.le_of_ble_eq_true rfl⟩ (by obtain ⟨fs, hq⟩ := hVr.obj; exact gh_recv hK.1 hPr hq rfl) hK hZ hPr hS (fun q h => h) hl.1 rfl (Nat.le_of_ble_eq_true rfl) dc_LW_law_343 ⟨by show 12 + 470 * k + 0 ≤ 600000; omega, by show 374 + 12230 * k + 0 ≤ 7302249; omega⟩) (fun r2 h2 => ?_)
      refine lv_icmp_eq (tgt := 433) hx hb dc_LW_law_346 (by decide) (fun _ => ?_) (fun q => absurd (h1.trans h2.symm) q)
      exact nx V Mc Mr H ls (12 + 470 * k) (374 + 12230 * k) (by omega) (by omega) hl hI.up hVc hVr hPc hPr hd hS
    · refine lv_tableIn (tgt := 351) hx hb dc_LW_law_32 (by decide) (by decide) (by rfl) (by decide) ?_
      refine lv_aload_n hx hb dc_LW_law_351 rfl (lv_fd hl rfl) ?_
      refine lv_aload_n hx hb dc_LW_law_352 rfl (lv_fd hl rfl) ?_
      refine lv_iload_n hx hb dc_LW_law_353 rfl (lv_fd hl rfl) ?_
      refine lv_iconst (v := nI 1) hx hb dc_LW_law_354 (by decide) ?_
      refine lv_iadd hx hb dc_LW_law_355 ?_
      refine gh_topi (show nI (4 * k) + nI 1 = nI (4 * k + 1) from nI_add _ _) ?_
      refine lw_ld hx hb hX hbl hS (show 4 * k + 1 < L by omega) hL dc_LW_law_356 ?_
      refine gk_si (gk_rV F (b := hc) (As := [.int (xs (4 * k + 1))]) (rest := []) (ct_TH_holders l E _ _ hVc hI (by omega) (xs (4 * k + 1))) ww_273 ww_274 ww_275 ww_1 ww_276 rfl rfl ⟨by decide, by decide, by show _ = some 1; decide +kernel⟩ ⟨Nat.le_of_ble_eq_true rfl, Nat.le_of_ble_eq_true rfl⟩ (by obtain ⟨fs, hq⟩ := hVc.obj; exact gh_recv hK.1 hPc hq rfl) hK hZ hPc hS (fun q h => h) hl.1 rfl (Nat.le_of_ble_eq_true rfl) dc_LW_law_357 ⟨by show 12 + 470 * k + 0 ≤ 600000; omega, by show 374 + 12230 * k + 0 ≤ 7302249; omega⟩) (fun r h1 => ?_)
      refine lv_aload_n hx hb dc_LW_law_360 rfl (lv_fd hl rfl) ?_
      refine lv_aload_n hx hb dc_LW_law_361 rfl (lv_fd hl rfl) ?_
      refine lv_iload_n hx hb dc_LW_law_362 rfl (lv_fd hl rfl) ?_
      refine lv_iconst (v := nI 1) hx hb dc_LW_law_363 (by decide) ?_
      refine lv_iadd hx hb dc_LW_law_364 ?_
      refine gh_topi (show nI (4 * k) + nI 1 = nI (4 * k + 1) from nI_add _ _) ?_
      refine lw_ld hx hb hX hbl hS (show 4 * k + 1 < L by omega) hL dc_LW_law_365 ?_
      refine lw_ci (gk_rV F (b := hr) (As := [.int (xs (4 * k + 1))]) (rest := [.int r]) (ct_MO_holders l E _ _ hVr hI (by omega) (xs (4 * k + 1))) ww_428 ww_429 ww_430 ww_5 ww_431 rfl rfl ⟨by decide, by decide, by show _ = some 1; decide +kernel⟩ ⟨Nat.le_of_ble_eq_true rfl, Nat.le_of_ble_eq_true rfl⟩ (by obtain ⟨fs, hq⟩ := hVr.obj; exact gh_recv hK.1 hPr hq rfl) hK hZ hPr hS (fun q h => h) hl.1 rfl (Nat.le_of_ble_eq_true rfl) dc_LW_law_366 ⟨by show 12 + 470 * k + 0 ≤ 600000; omega, by show 374 + 12230 * k + 0 ≤ 7302249; omega⟩) hPr hPc hd.symm hS (fun r2 M2 H h2 hPr hPc hd hS => ?_)
      refine lv_icmp_eq (tgt := 433) hx hb dc_LW_law_369 (by decide) (fun _ => ?_) (fun q => absurd (h1.trans h2.1.symm) q)
      exact nx V Mc M2 H ls (12 + 470 * k + 0) (374 + 12230 * k + 0) (by omega) (by omega) hl hI.up hVc h2.2 hPc hPr hd.symm hS
    · refine lv_tableIn (tgt := 374) hx hb dc_LW_law_32 (by decide) (by decide) (by rfl) (by decide) ?_
      refine lv_aload_n hx hb dc_LW_law_374 rfl (lv_fd hl rfl) ?_
      refine lv_aload_n hx hb dc_LW_law_375 rfl (lv_fd hl rfl) ?_
      refine lv_iload_n hx hb dc_LW_law_376 rfl (lv_fd hl rfl) ?_
      refine lv_iconst (v := nI 1) hx hb dc_LW_law_377 (by decide) ?_
      refine lv_iadd hx hb dc_LW_law_378 ?_
      refine gh_topi (show nI (4 * k) + nI 1 = nI (4 * k + 1) from nI_add _ _) ?_
      refine lw_ld hx hb hX hbl hS (show 4 * k + 1 < L by omega) hL dc_LW_law_379 ?_
      refine gk_si (gk_rV F (b := hc) (As := [.int (xs (4 * k + 1))]) (rest := []) (ct_TH_items l E _ _ hVc hI (by omega) (xs (4 * k + 1))) ww_277 ww_278 ww_279 ww_1 ww_280 rfl rfl ⟨by decide, by decide, by show _ = some 1; decide +kernel⟩ ⟨Nat.le_of_ble_eq_true rfl, Nat.le_of_ble_eq_true rfl⟩ (by obtain ⟨fs, hq⟩ := hVc.obj; exact gh_recv hK.1 hPc hq rfl) hK hZ hPc hS (fun q h => h) hl.1 rfl (Nat.le_of_ble_eq_true rfl) dc_LW_law_380 ⟨by show 12 + 470 * k + 0 ≤ 600000; omega, by show 374 + 12230 * k + 0 ≤ 7302249; omega⟩) (fun r h1 => ?_)
      refine lv_aload_n hx hb dc_LW_law_383 rfl (lv_fd hl rfl) ?_
      refine lv_aload_n hx hb dc_LW_law_384 rfl (lv_fd hl rfl) ?_
      refine lv_iload_n hx hb dc_LW_law_385 rfl (lv_fd hl rfl) ?_
      refine lv_iconst (v := nI 1) hx hb dc_LW_law_386 (by decide) ?_
      refine lv_iadd hx hb dc_LW_law_387 ?_
      refine gh_topi (show nI (4 * k) + nI 1 = nI (4 * k + 1) from nI_add _ _) ?_
      refine lw_ld hx hb hX hbl hS (show 4 * k + 1 < L by omega) hL dc_LW_law_388 ?_
      refine gk_si (gk_rV F (b := hr) (As := [.int (xs (4 * k + 1))]) (rest := [.int r]) (ct_MO_items l E _ _ hVr hI (by omega) (xs (4 * k + 1))) ww_432 ww_433 ww_434 ww_5 ww_435 rfl rfl ⟨by decide, by decide, by show _ = some 1; decide +kernel⟩ ⟨Nat.le_of_ble_eq_true rfl, Nat.le_of_ble_eq_true rfl⟩ (by obtain ⟨fs, hq⟩ := hVr.obj; exact gh_recv hK.1 hPr hq rfl) hK hZ hPr hS (fun q h => h) hl.1 rfl (Nat.le_of_ble_eq_true rfl) dc_LW_law_389 ⟨by show 12 + 470 * k + 0 ≤ 600000; omega, by show 374 + 12230 * k + 0 ≤ 7302249; omega⟩) (fun r2 h2 => ?_)
      refine lv_icmp_eq (tgt := 433) hx hb dc_LW_law_392 (by decide) (fun _ => ?_) (fun q => absurd (h1.trans h2.symm) q)
      exact nx V Mc Mr H ls (12 + 470 * k) (374 + 12230 * k) (by omega) (by omega) hl hI.up hVc hVr hPc hPr hd hS
    · refine lv_tableIn (tgt := 397) hx hb dc_LW_law_32 (by decide) (by decide) (by rfl) (by decide) ?_
      refine lv_aload_n hx hb dc_LW_law_397 rfl (lv_fd hl rfl) ?_
      have hVc0 := hVc
      obtain ⟨G, cT, cU, cR, hld, rch, hR, hcT, hcU, hcR, hhl⟩ := hVc
      obtain ⟨l1, l2, l3⟩ := co_len hR hI (by omega) hhl
      have hTl := vv_len hI
      have hmN := hI.2.2.2.2
      refine lw_ci (gk_rV F (b := hc) (As := []) (rest := []) (ct_TH_collect l E _ _ hR hcR hcU (by omega) l1 l2 l3) ww_281 ww_282 ww_283 ww_1 ww_284 rfl rfl ⟨by decide, by decide, by show _ = some 0; decide +kernel⟩ ⟨Nat.le_of_ble_eq_true rfl, Nat.le_of_ble_eq_true rfl⟩ (gh_recv hK.1 hPc hR.1 rfl) hK hZ hPc hS (fun q h => h) hl.1 rfl (Nat.le_of_ble_eq_true rfl) dc_LW_law_398 ⟨by show 12 + 470 * k + 468 ≤ 600000; omega, by show 374 + 12230 * k + 9360 ≤ 7302249; omega⟩) hPc hPr hd hS (fun r M1 H h1 hPc hPr hd hS => ?_)
      have h1 := co_post hR hI (by omega) hcT hhl h1
      refine lv_aload_n hx hb dc_LW_law_401 rfl (lv_fd hl rfl) ?_
      refine lw_ci (gk_rV F (b := hr) (As := []) (rest := [.int r]) (ct_MO_collect l E _ _ hVr hI (by omega)) ww_436 ww_437 ww_438 ww_5 ww_439 rfl rfl ⟨by decide, by decide, by show _ = some 0; decide +kernel⟩ ⟨Nat.le_of_ble_eq_true rfl, Nat.le_of_ble_eq_true rfl⟩ (by obtain ⟨fs, hq⟩ := hVr.obj; exact gh_recv hK.1 hPr hq rfl) hK hZ hPr hS (fun q h => h) hl.1 rfl (Nat.le_of_ble_eq_true rfl) dc_LW_law_402 ⟨by show 12 + 470 * k + 468 + 0 ≤ 600000; omega, by show 374 + 12230 * k + 9360 + 0 ≤ 7302249; omega⟩) hPr hPc hd.symm hS (fun r2 M2 H h2 hPr hPc hd hS => ?_)
      refine lv_icmp_eq (tgt := 433) hx hb dc_LW_law_405 (by decide) (fun _ => ?_) (fun q => absurd (h1.1.trans h2.1.symm) q)
      exact nx _ M1 M2 H ls (12 + 470 * k + 468 + 0) (374 + 12230 * k + 9360 + 0) (by omega) (by omega) hl (vv_collect hI (by omega) ).up h1.2 h2.2 hPc hPr hd.symm hS
    · refine lv_tableIn (tgt := 410) hx hb dc_LW_law_32 (by decide) (by decide) (by rfl) (by decide) ?_
      refine lv_aload_n hx hb dc_LW_law_410 rfl (lv_fd hl rfl) ?_
      refine lv_aload_n hx hb dc_LW_law_411 rfl (lv_fd hl rfl) ?_
      refine lv_iload_n hx hb dc_LW_law_412 rfl (lv_fd hl rfl) ?_
      refine lv_iconst (v := nI 1) hx hb dc_LW_law_413 (by decide) ?_
      refine lv_iadd hx hb dc_LW_law_414 ?_
      refine gh_topi (show nI (4 * k) + nI 1 = nI (4 * k + 1) from nI_add _ _) ?_
      refine lw_ld hx hb hX hbl hS (show 4 * k + 1 < L by omega) hL dc_LW_law_415 ?_
      refine gk_si (gk_rV F (b := hc) (As := [.int (xs (4 * k + 1))]) (rest := []) (ct_TH_count1 l E _ _ hVc hI (by omega) (xs (4 * k + 1))) ww_297 ww_298 ww_299 ww_1 ww_300 rfl rfl ⟨by decide, by decide, by show _ = some 1; decide +kernel⟩ ⟨Nat.le_of_ble_eq_true rfl, Nat.le_of_ble_eq_true rfl⟩ (by obtain ⟨fs, hq⟩ := hVc.obj; exact gh_recv hK.1 hPc hq rfl) hK hZ hPc hS (fun q h => h) hl.1 rfl (Nat.le_of_ble_eq_true rfl) dc_LW_law_416 ⟨by show 12 + 470 * k + 0 ≤ 600000; omega, by show 374 + 12230 * k + 0 ≤ 7302249; omega⟩) (fun r h1 => ?_)
      refine lv_aload_n hx hb dc_LW_law_419 rfl (lv_fd hl rfl) ?_
      refine lv_aload_n hx hb dc_LW_law_420 rfl (lv_fd hl rfl) ?_
      refine lv_iload_n hx hb dc_LW_law_421 rfl (lv_fd hl rfl) ?_
      refine lv_iconst (v := nI 1) hx hb dc_LW_law_422 (by decide) ?_
      refine lv_iadd hx hb dc_LW_law_423 ?_
      refine gh_topi (show nI (4 * k) + nI 1 = nI (4 * k + 1) from nI_add _ _) ?_
      refine lw_ld hx hb hX hbl hS (show 4 * k + 1 < L by omega) hL dc_LW_law_424 ?_
      refine gk_si (gk_rV F (b := hr) (As := [.int (xs (4 * k + 1))]) (rest := [.int r]) (ct_MO_count1 l E _ _ hVr hI (by omega) (xs (4 * k + 1))) ww_444 ww_445 ww_446 ww_5 ww_447 rfl rfl ⟨by decide, by decide, by show _ = some 1; decide +kernel⟩ ⟨Nat.le_of_ble_eq_true rfl, Nat.le_of_ble_eq_true rfl⟩ (by obtain ⟨fs, hq⟩ := hVr.obj; exact gh_recv hK.1 hPr hq rfl) hK hZ hPr hS (fun q h => h) hl.1 rfl (Nat.le_of_ble_eq_true rfl) dc_LW_law_425 ⟨by show 12 + 470 * k + 0 ≤ 600000; omega, by show 374 + 12230 * k + 0 ≤ 7302249; omega⟩) (fun r2 h2 => ?_)
      refine lv_icmp_eq (tgt := 433) hx hb dc_LW_law_428 (by decide) (fun _ => ?_) (fun q => absurd (h1.trans h2.symm) q)
      exact nx V Mc Mr H ls (12 + 470 * k) (374 + 12230 * k) (by omega) (by omega) hl hI.up hVc hVr hPc hPr hd hS
    · refine lv_tableOut (tgt := 433) hx hb dc_LW_law_32 (Or.inr (by rw [nI_toInt (by omega)]; omega)) (by decide) ?_
      exact nx V Mc Mr H ls (12 + 470 * k) (374 + 12230 * k) (by omega) (by omega) hl hI.up hVc hVr hPc hPr hd hS
set_option maxHeartbeats 8000000 in
set_option maxRecDepth 100000 in
theorem lw_begin {p : Program} {e : Env} {s : State} {m : MethodId} {below : List Frame} {meth : Method} {c : Code} (l : Launch) {b L : Nat} {xs : Nat → Int32} (hL : L ≤ 2048) (F : gk_F p s m #[Value.ref b] meth c yn_LW_law cd_LW_law 4 ret) (hX : va_X b L xs s s.heap) (hbl : b < s.heap.size) {E : gk_E} (hK : gk_K E s) (hZ : gk_Z E.2.2.1 (fun q => s.heap.size ≤ q) s s.heap) (ls : Array Slot) (hl : lv_has ls 4 [(0, .ref b)]) :
    W p l e room_1 s m #[Value.ref b] below meth c s.heap [] 0 0 (lw_Z below #[Value.ref b] s) (F0 m 0 ls []) := by
  have hx := F.1
  have hb := F.2.1
  have hown : s.vm.findClass "ThingHeapLaw" = some m.cls := F.2.2.2.2.1
  have ht := fun (w : Cond) (h : w ∈ bw_L) => F.2.2.2.2.2.2.2 w (List.mem_cons_of_mem _ h)
  have hA : ∀ q, s.heap.size ≤ q → (fun q => s.heap.size ≤ q) q := fun q h => h
  have hS : va_S (fun q => s.heap.size ≤ q) s.heap s.heap [] := va_S.rf
  have hP : gh_P E.1 cl_L (fun q => s.heap.size ≤ q) (fun _ => none) s.heap := gh_empty _ _ _ _
  refine gh_new 1 (ci := 1) (fs := [.null, .null, .null, .null, .int 0]) hx hb ht nu_TH nt_TH no_TH hown (ht _ ww_14) (ht _ ww_15) (ht _ ww_1) hK.1 hP hS hA rfl (fun j hj => by rcases (show j = 0 ∨ j = 1 ∨ j = 2 ∨ j = 3 ∨ j = 4 by omega) with rfl | rfl | rfl | rfl | rfl <;> rfl) (Nat.le_of_ble_eq_true rfl) (Nat.le_of_ble_eq_true rfl) dc_LW_law_0 (fun hc H hn_hc hP hS => ?_)
  refine lv_dup hx hb dc_LW_law_3 rfl ?_
  have h9 : gh_P E.1 cl_L (fun q => s.heap.size ≤ q) (fun _ => none) H := gh_empty _ _ _ _
  refine lw_cv (gk_rI F (b := hc) (As := []) (rest := [.ref hc]) (ct_TH_init l E _ _ (gh_up_self _ _ _)) ww_16 ww_17 ww_1 ww_18 rfl rfl rfl ⟨by decide, by decide, by show _ = some 0; decide +kernel⟩ ⟨Nat.le_of_ble_eq_true rfl, Nat.le_of_ble_eq_true rfl⟩ hK hZ hP hS (fun q h => h) hl.1 rfl (Nat.le_of_ble_eq_true rfl) dc_LW_law_4 ⟨Nat.le_of_ble_eq_true rfl, Nat.le_of_ble_eq_true rfl⟩) hP h9 (fun q _ => rfl) hS (fun Mc H hVc hPc h9 hd hS => ?_)
  refine lv_astore_n hx hb dc_LW_law_7 rfl hl (by decide) rfl (fun ls hl => ?_)
  have hS2 : va_S (fun q => H.size ≤ q) H H [] := va_S.rf
  have hP2 : gh_P E.1 cl_L (fun q => H.size ≤ q) (fun _ => none) H := gh_empty _ _ _ _
  refine gh_new 1 (ci := 4) (fs := [.null, .null, .null, .null, .null, .int 0, .int 0, .null]) hx hb ht nu_MO nt_MO no_MO hown (ht _ ww_301) (ht _ ww_302) (ht _ ww_5) hK.1 hP2 hS2 (fun q h => h) rfl (fun j hj => by rcases (show j = 0 ∨ j = 1 ∨ j = 2 ∨ j = 3 ∨ j = 4 ∨ j = 5 ∨ j = 6 ∨ j = 7 by omega) with rfl | rfl | rfl | rfl | rfl | rfl | rfl | rfl <;> rfl) (Nat.le_of_ble_eq_true rfl) (Nat.le_of_ble_eq_true rfl) dc_LW_law_8 (fun hr H1 hn_hr hP3 hS3 => ?_)
  refine lv_dup hx hb dc_LW_law_11 rfl ?_
  have hPc2 : gh_P E.1 cl_L (fun q => s.heap.size ≤ q) Mc H1 := hPc.kept (fun q hq => hS3.2.1 q (hPc.dom hq).2 (Nat.not_le.mpr (hPc.dom hq).2)) (fun q hq => (hPc.dom hq).1)
  have hPr : gh_P E.1 cl_L (fun q => s.heap.size ≤ q) (gh_up (fun _ => none) hr (1, .inr (4, [.null, .null, .null, .null, .null, .int 0, .int 0, .null]))) H1 := hP3.weaken (fun q hq => Nat.le_trans hS.1 hq)
  have hS4 : va_S (fun q => s.heap.size ≤ q) s.heap H1 [] := ⟨Nat.le_trans hS.1 hS3.1, fun q h1 h2 => (hS3.2.1 q (Nat.lt_of_lt_of_le h1 hS.1) (Nat.not_le.mpr (Nat.lt_of_lt_of_le h1 hS.1))).trans (hS.2.1 q h1 h2), fun q hq => by cases hq⟩
  have hd2 : lw_D (gh_up (fun _ => none) hr (1, .inr (4, [.null, .null, .null, .null, .null, .int 0, .int 0, .null]))) Mc := by
    intro q hq
    by_cases e1 : q = hr
    · cases hm : Mc q with
      | none => rfl
      | some y =>
        have h5 : gh_up (fun _ => none) hr (1, .inr (4, [.null, .null, .null, .null, .null, .int 0, .int 0, .null])) hr ≠ none := by rw [gh_up_self]; exact fun z => by cases z
        have h6 := (hP3.dom h5).1
        have h7 := (hPc.dom (a := q) (by rw [hm]; exact fun z => by cases z)).2
        rw [e1] at h7
        exact absurd h7 (Nat.not_lt.mpr h6)
    · exact absurd (gh_up_ne _ _ e1) hq
  refine lw_cv (gk_rI F (b := hr) (As := []) (rest := [.ref hr]) (ct_MO_init l E _ _ (gh_up_self _ _ _)) ww_303 ww_304 ww_5 ww_305 rfl rfl rfl ⟨by decide, by decide, by show _ = some 0; decide +kernel⟩ ⟨Nat.le_of_ble_eq_true rfl, Nat.le_of_ble_eq_true rfl⟩ hK hZ hPr hS4 (fun q h => h) hl.1 rfl (Nat.le_of_ble_eq_true rfl) dc_LW_law_12 ⟨Nat.le_of_ble_eq_true rfl, Nat.le_of_ble_eq_true rfl⟩) hPr hPc2 hd2 hS4 (fun Mr H hVr hPr hPc hd hS => ?_)
  refine lv_astore_n hx hb dc_LW_law_15 rfl hl (by decide) rfl (fun ls hl => ?_)
  refine lv_iconst (v := nI 0) hx hb dc_LW_law_16 (by decide) ?_
  refine lv_istore_n hx hb dc_LW_law_17 rfl hl (by decide) rfl (fun ls hl => ?_)
  refine W.widen (k := 12 + 470 * 0) (n := 374 + 12230 * 0) (Nat.le_of_ble_eq_true rfl) (Nat.le_of_ble_eq_true rfl) ?_
  exact lw_loop l hL F hX hbl hK hZ 512 0 vv_0 Mc Mr H ls (by decide) hl vv_I0 hVc hVr hPc hPr hd.symm hS
/-- from the entry, for every script of at most 2048 ints, the law comes to its end with true -/
theorem whole_start {p : Program} {e : Env} {s : State} {m : MethodId} {below : List Frame} {meth : Method} {c : Code} (l : Launch) {b L : Nat} {xs : Nat → Int32} (hL : L ≤ 2048) (C0 : lw_At p s m meth c b L xs) : W p l e room_1 s m #[Value.ref b] below meth c s.heap [] 0 0 (lw_Z below #[Value.ref b] s) (entryFrame m ([Value.ref b] : List Value).toArray 4) := by
  obtain ⟨hx, hb, hr, hml, hown, hts, hX, hbl, hlk, hgv, hnm, hcw⟩ := C0
  obtain ⟨E, hK, hZ⟩ := gk_start hts hgv
  rw [lg_entry_eq]
  refine lw_begin l hL ⟨hx, hb, hr, hml, hown, hlk, hnm, fun w hw => ?_⟩ hX hbl hK hZ _ (lv_entry [Value.ref b] (n := 4) (Nat.le_of_ble_eq_true rfl))
  rcases List.mem_cons.mp hw with q | q
  · rw [q]
    exact hcw
  · exact hts w (List.mem_filter.mp q).1
