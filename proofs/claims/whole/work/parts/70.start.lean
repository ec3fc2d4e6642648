/-! what holds at the law's start; two worlds side by side -/
theorem gk_start {b : Nat} {s : State} (hts : ∀ w ∈ lw_tbl, w.before #[Value.ref b] s = true) (hgv : (Jvm.Cond.and given_1 narrow_1).before #[Value.ref b] s = true) : ∃ E : gk_E, gk_K E s ∧ gk_Z E.2.2.1 (fun q => s.heap.size ≤ q) s s.heap := by
  have ht : ∀ w ∈ bw_L, w.before #[Value.ref b] s = true := fun w hw => hts w (List.mem_filter.mp hw).1
  have hs := flat_of_before _ hgv
  have hnA : ∀ a : Nat, a < s.heap.size → ¬ s.heap.size ≤ a := fun a h => Nat.not_le.mpr h
  obtain ⟨c0, i0, k0⟩ := u_known ht nu_AL (ht _ ww_25)
  obtain ⟨c1, i1, k1⟩ := u_known ht nu_TH (ht _ ww_15)
  obtain ⟨c2, i2, k2⟩ := u_known ht nu_TG (ht _ ww_77)
  obtain ⟨c3, i3, k3⟩ := u_known ht nu_IT (ht _ ww_232)
  obtain ⟨c4, i4, k4⟩ := u_known ht nu_MO (ht _ ww_302)
  obtain ⟨aI, kI, cI, hI1, hI2, hI3⟩ := Cond.arrayClass_spec (ht _ ww_337)
  obtain ⟨aJ, kJ, cJ, hJ1, hJ2, hJ3⟩ := Cond.arrayClass_spec (ht _ ww_382)
  obtain ⟨oO, aO, kO, hO1, -, hO2, hO3, hO4⟩ := Cond.arrayOver_spec (hts _ wt_143)
  obtain ⟨oT, aT, kT, hT1, -, hT2, hT3, hT4⟩ := Cond.arrayOver_spec (hts _ wt_23)
  obtain ⟨oA, aA, kA, hA1, -, hA2, hA3, hA4⟩ := arrayOverA_spec (hts _ wt_308)
  obtain ⟨mi, hmi⟩ := va_Mi.of (C := "[Ljava/lang/Object;") (hs _ (by decide +kernel))
  obtain ⟨z, hz, hzT⟩ := va_Tof (A := fun q => s.heap.size ≤ q) (f := fun _ => .null) (N := 0) (tm := .static "java/util/ArrayList" "DEFAULTCAPACITY_EMPTY_ELEMENTDATA" "[Ljava/lang/Object;") (ty := .object "java/lang/Object") (by decide) (hs _ (by decide +kernel)) (va_eqt (hs _ (by decide +kernel))) (fun j hj => absurd hj (Nat.not_lt_zero j)) hnA
  have hoJ : oA = aJ := Option.some.inj (hA1.symm.trans hJ1)
  subst hoJ
  refine ⟨((fun c => match c with | 0 => c0 | 1 => c1 | 2 => c2 | 3 => c3 | _ => c4, fun c => match c with | 0 => i0 | 1 => i1 | 2 => i2 | 3 => i3 | _ => i4), fun c => match c with | 0 => aI | 1 => oA | 2 => aO | 3 => aT | _ => aA, z, mi), ⟨⟨fun c q hq => ?_, fun k q hk => ?_⟩, hts _ wt_308, ⟨⟨kA, kJ, hA2, hA3, hJ2⟩, hA4⟩, hmi, hts _ wt_143, hts _ wt_23, va_Dc.of (hts _ wt_452), va_Nw.of rfl (hts _ wt_455), va_Nw.of rfl (hts _ wt_456), va_Nw.of rfl (hts _ wt_357), va_Nw.of rfl (hts _ wt_405)⟩, va_Zref (hts _ wt_37) (ht _ ww_4) hz hnA, hzT⟩
  · rcases c with _ | _ | _ | _ | _ | c
    · cases hq; exact k0
    · cases hq; exact k1
    · cases hq; exact k2
    · cases hq; exact k3
    · cases hq; exact k4
    · cases hq
  · rcases k with _ | _ | _ | _ | _ | k
    · cases hk; exact ⟨fun n z => ⟨fun k h => (by cases h), kI, hI2, cI, hI3⟩, hI1⟩
    · cases hk; exact ⟨fun n z => ⟨fun k h => (by cases h), kJ, hJ2, cJ, hJ3⟩, hJ1⟩
    · cases hk; exact ⟨fun n z => ⟨fun k h => (by cases h), kO, hO2, oO, hO3⟩, kO, oO, hO2, hO3, hO1, hO4⟩
    · cases hk; exact ⟨fun n z => ⟨fun k h => (by cases h), kT, hT2, oT, hT3⟩, kT, oT, hT2, hT3, hT1, hT4⟩
    · cases hk; exact ⟨fun n z => ⟨fun k h => (by cases h), kA, hA2, oA, hA3⟩, hA4⟩
    · cases hk
def lw_D (M M9 : gh_M) : Prop := ∀ q, M q ≠ none → M9 q = none
theorem lw_D.symm {M M9 : gh_M} (h : lw_D M M9) : lw_D M9 M := fun q hq => by
  cases hm : M q with
  | none => rfl
  | some x => exact absurd (h q (by rw [hm]; exact fun z => by cases z)) hq
section LW
variable {p : Program} {l : Launch} {e : Env} {R : Room} {s : State} {m : MethodId} {args : Array Value} {below : List Frame} {meth : Method} {c : Code} {H : Heap} {cells slots : Nat} {Q : State → Prop}
variable {pc : Nat} {ls : Array Slot} {rest st0 : List Value} {a : Array Value} {mc ms : Nat} {M M9 : gh_M} {E : gk_E}
theorem lw_side {A : Nat → Prop} {M' : gh_M} {H1 : Heap} (hP9 : gh_P E.1 cl_L A M9 H) (hd : lw_D M M9) (hB : gh_P E.1 cl_L (gh_A M H.size) M' H1) (hk : ∀ q : Nat, q < H.size → ¬ gh_A M H.size q → H1[q]? = H[q]?) : gh_P E.1 cl_L A M9 H1 ∧ lw_D M' M9 := by
  have hn : ∀ q, M9 q ≠ none → ¬ gh_A M H.size q := fun q hq z => by
    rcases z with z | z
    · exact hq (hd q z)
    · exact absurd (hP9.dom hq).2 (Nat.not_lt.mpr z)
  refine ⟨hP9.kept (fun q hq => hk q (hP9.dom hq).2 (hn q hq)) (fun q hq => (hP9.dom hq).1), fun q hq => ?_⟩
  cases h9 : M9 q with
  | none => rfl
  | some x => exact absurd (hB.dom hq).1 (hn q (by rw [h9]; exact fun z => by cases z))
theorem lw_ci {post : Int32 → gh_M → Prop} (hr : va_Run p l e R s m args below meth c H [] cells slots mc ms (F0 m pc ls st0) rest (va_Qi post (gk_B E M H.size) (gh_A M H.size) a) (gh_A M H.size)) (hP : gh_P E.1 cl_L (fun q => s.heap.size ≤ q) M H) (hP9 : gh_P E.1 cl_L (fun q => s.heap.size ≤ q) M9 H) (hd : lw_D M M9) (hS : va_S (fun q => s.heap.size ≤ q) s.heap H [])
    (kk : ∀ (r : Int32) (M' : gh_M) (H1 : Heap), post r M' → gh_P E.1 cl_L (fun q => s.heap.size ≤ q) M' H1 → gh_P E.1 cl_L (fun q => s.heap.size ≤ q) M9 H1 → lw_D M' M9 → va_S (fun q => s.heap.size ≤ q) s.heap H1 [] → W p l e R s m args below meth c H1 [] (cells + mc) (slots + ms) Q (F0 m (pc + 3) ls (.int r :: rest))) : W p l e R s m args below meth c H [] cells slots Q (F0 m pc ls st0) := by
  have hF := gh_free hP hS (fun q h => h)
  exact va_calli hr hS (fun q _ h => hF q h) hF (fun r u t H1 locs1 ht _ hp hB _ hk hS1 => by
    have hB : gh_P E.1 cl_L (gh_A M H.size) u t.heap := hB
    rw [ht] at hB
    obtain ⟨h9, hd2⟩ := lw_side hP9 hd hB hk
    exact va_forget (fun q hq => hS1.2.2 q hq) (kk r u H1 hp (hB.weaken hF) h9 hd2 ⟨hS1.1, hS1.2.1, fun q hq => by cases hq⟩))
theorem lw_cv {post : gh_M → Prop} (hr : va_Run p l e R s m args below meth c H [] cells slots mc ms (F0 m pc ls st0) rest (va_Qv post (gk_B E M H.size) (gh_A M H.size) a) (gh_A M H.size)) (hP : gh_P E.1 cl_L (fun q => s.heap.size ≤ q) M H) (hP9 : gh_P E.1 cl_L (fun q => s.heap.size ≤ q) M9 H) (hd : lw_D M M9) (hS : va_S (fun q => s.heap.size ≤ q) s.heap H [])
    (kk : ∀ (M' : gh_M) (H1 : Heap), post M' → gh_P E.1 cl_L (fun q => s.heap.size ≤ q) M' H1 → gh_P E.1 cl_L (fun q => s.heap.size ≤ q) M9 H1 → lw_D M' M9 → va_S (fun q => s.heap.size ≤ q) s.heap H1 [] → W p l e R s m args below meth c H1 [] (cells + mc) (slots + ms) Q (F0 m (pc + 3) ls rest)) : W p l e R s m args below meth c H [] cells slots Q (F0 m pc ls st0) := by
  have hF := gh_free hP hS (fun q h => h)
  exact va_callv hr hS (fun q _ h => hF q h) hF (fun u t H1 locs1 ht _ hp hB _ hk hS1 => by
    have hB : gh_P E.1 cl_L (gh_A M H.size) u t.heap := hB
    rw [ht] at hB
    obtain ⟨h9, hd2⟩ := lw_side hP9 hd hB hk
    exact va_forget (fun q hq => hS1.2.2 q hq) (kk u H1 hp (hB.weaken hF) h9 hd2 ⟨hS1.1, hS1.2.1, fun q hq => by cases hq⟩))
/-- a load from the script -/
theorem lw_ld {cc : ByteArray} (hexec : p.tables.exec = Jvm.exec) (hb : c.code = cc) {b L : Nat} {xs : Nat → Int32} (hX : va_X b L xs s s.heap) (hbl : b < s.heap.size) (hS : va_S (fun q => s.heap.size ≤ q) s.heap H []) {j : Nat} (hj : j < L) (hL : L ≤ 2048) (hdg : decode cc pc = .ok (.iaload, 1))
    (kk : W p l e R s m args below meth c H [] cells slots Q (F0 m (pc + 1) ls (.int (xs j) :: rest))) : W p l e R s m args below meth c H [] cells slots Q (F0 m pc ls (.int (nI j) :: .ref b :: rest)) := by
  refine va_sld hexec hb hX hbl (A := fun q => s.heap.size ≤ q) (Nat.not_le.mpr hbl) hS (i := nI j) (vp_in_nI hj (by omega)) hdg ?_
  rw [nI_clamp (by omega)]
  exact kk
end LW
theorem and15 (x : Int32) : ∃ t : Nat, t < 16 ∧ x &&& nI 15 = nI t := by
  refine ⟨x.toBitVec.toNat &&& 15, Nat.lt_of_le_of_lt Nat.and_le_right (by decide), Int32.toBitVec_inj.mp (BitVec.eq_of_toNat_eq ?_)⟩
  have h1 : x.toBitVec.toNat &&& 15 ≤ 15 := Nat.and_le_right
  have e1 : (x &&& nI 15).toBitVec.toNat = x.toBitVec.toNat &&& 15 := by
    rw [Int32.toBitVec_and, BitVec.toNat_and]
    rfl
  have e2 : (nI (x.toBitVec.toNat &&& 15)).toBitVec.toNat = (x.toBitVec.toNat &&& 15) % 2 ^ 32 := by
    show (Int32.ofNat _).toBitVec.toNat = _
    rw [Int32.toBitVec_ofNat', BitVec.toNat_ofNat]
  rw [e1, e2, Nat.mod_eq_of_lt (by omega)]
theorem cs_V.obj {E : gk_E} {M : gh_M} {h0 : Nat} {V : vv_V} (h : cs_V E M h0 V) : ∃ fs, M h0 = some (1, .inr (1, fs)) := by
  obtain ⟨G, cT, cU, cR, hld, rch, h, -⟩ := h
  exact ⟨_, h.1⟩
theorem rs_V.obj {E : gk_E} {M : gh_M} {h0 : Nat} {V : vv_V} (h : rs_V E M h0 V) : ∃ fs, M h0 = some (1, .inr (4, fs)) := by
  obtain ⟨G, cap, ex, hol, w, row, h, -⟩ := h
  exact ⟨_, h.1⟩
theorem vv_I.up {N : Nat} {V : vv_V} (h : vv_I N V) : vv_I (N + 1) V := ⟨h.1, h.2.1, h.2.2.1, h.2.2.2.1, Nat.le_succ_of_le h.2.2.2.2⟩
theorem gm_inc4 (k : Nat) : nI (4 * k) + Int32.ofInt 4 = nI (4 * (k + 1)) := by
  have e : Int32.ofInt 4 = nI 4 := by decide
  rw [e, nI_add]
  rfl
