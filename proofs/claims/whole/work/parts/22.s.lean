/-! the law, from its entry -/
theorem zstr_in : ∀ x ∈ zStr, Cond.stringRef RX2 x.1 x.2 ∈ lw_tbl := by
  intro x hx
  simp only [zStr, List.mem_cons, List.not_mem_nil, or_false] at hx
  rcases hx with rfl | rfl | rfl | rfl | rfl | rfl | rfl | rfl | rfl | rfl | rfl | rfl | rfl
  · exact List.mem_append_right _ (List.mem_of_getElem? (i := 422) (by decide +kernel))
  · exact List.mem_append_right _ (List.mem_of_getElem? (i := 438) (by decide +kernel))
  · exact List.mem_append_right _ (List.mem_of_getElem? (i := 439) (by decide +kernel))
  · exact List.mem_append_right _ (List.mem_of_getElem? (i := 473) (by decide +kernel))
  · exact List.mem_append_right _ (List.mem_of_getElem? (i := 481) (by decide +kernel))
  · exact List.mem_append_right _ (List.mem_of_getElem? (i := 535) (by decide +kernel))
  · exact List.mem_append_right _ (List.mem_of_getElem? (i := 562) (by decide +kernel))
  · exact List.mem_append_right _ (List.mem_of_getElem? (i := 304) (by decide +kernel))
  · exact List.mem_append_right _ (List.mem_of_getElem? (i := 366) (by decide +kernel))
  · exact List.mem_append_right _ (List.mem_of_getElem? (i := 411) (by decide +kernel))
  · exact List.mem_append_right _ (List.mem_of_getElem? (i := 389) (by decide +kernel))
  · exact List.mem_append_right _ (List.mem_of_getElem? (i := 259) (by decide +kernel))
  · exact List.mem_append_right _ (List.mem_of_getElem? (i := 286) (by decide +kernel))
theorem zstr_of {A : Array Value} {s : State} {k cur : Nat} {tx : String} (hcur : s.vm.findClass RX2 = some cur) (h : (Cond.stringRef RX2 k tx).before A s = true) : ∃ sa : Nat, vk_R RX2 k tx sa s := by
  obtain ⟨_, _, _, a, _, _, _, _, _, he⟩ := Cond.stringRef_spec hcur h
  exact ⟨a, vk_R.of h he⟩
theorem zdec_in0 : Cond.declares (Bundle.initS "java/lang/RuntimeException") ∈ lw_tbl := List.mem_append_right _ (List.mem_of_getElem? (i := 222) (by decide +kernel))
theorem zdec_in1 : Cond.declares (Bundle.initS "java/lang/Exception") ∈ lw_tbl := List.mem_append_right _ (List.mem_of_getElem? (i := 224) (by decide +kernel))
theorem zdec_in2 : Cond.declares (Bundle.initS "java/lang/Throwable") ∈ lw_tbl := List.mem_append_right _ (List.mem_of_getElem? (i := 226) (by decide +kernel))
theorem zcas_in0 : Cond.castable "java/lang/IndexOutOfBoundsException" "java/lang/IndexOutOfBoundsException" ∈ lw_tbl := List.mem_append_right _ (List.mem_of_getElem? (i := 220) (by decide +kernel))
theorem zcas_in1 : Cond.castable "java/lang/IllegalStateException" "java/lang/IllegalStateException" ∈ lw_tbl := List.mem_append_right _ (List.mem_of_getElem? (i := 359) (by decide +kernel))
theorem zcas_in2 : Cond.castable "java/lang/IllegalArgumentException" "java/lang/IllegalArgumentException" ∈ lw_tbl := List.mem_append_right _ (List.mem_of_getElem? (i := 404) (by decide +kernel))
theorem zB_of {A : Array Value} {s : State} (hts : ∀ w ∈ lw_tbl, w.before A s = true) : zB s := by
  intro w hw
  rcases List.mem_append.mp hw with g | g
  · obtain ⟨x, hx, e⟩ := List.mem_map.mp g
    subst e
    simp only [zDec, List.mem_cons, List.not_mem_nil, or_false] at hx
    rcases hx with rfl | rfl | rfl
    · exact zdec (s := s) (Vm.Alike.refl s.vm) (hts _ zdec_in0)
    · exact zdec (s := s) (Vm.Alike.refl s.vm) (hts _ zdec_in1)
    · exact zdec (s := s) (Vm.Alike.refl s.vm) (hts _ zdec_in2)
  · obtain ⟨x, hx, e⟩ := List.mem_map.mp g
    subst e
    simp only [zCas, List.mem_cons, List.not_mem_nil, or_false] at hx
    rcases hx with rfl | rfl | rfl
    · exact zcast (s := s) (Vm.Alike.refl s.vm) (hts _ zcas_in0)
    · exact zcast (s := s) (Vm.Alike.refl s.vm) (hts _ zcas_in1)
    · exact zcast (s := s) (Vm.Alike.refl s.vm) (hts _ zcas_in2)
theorem zT_of {b : Nat} {s : State} {cur : Nat} (hcur : s.vm.findClass RX2 = some cur) (hts : ∀ w ∈ lw_tbl, w.before #[Value.ref b] s = true) (hgv : (Jvm.Cond.and given_1 narrow_1).before #[Value.ref b] s = true) : zT (fun a => s.heap.size ≤ a) s s.heap := by
  have hg := flat_of_before _ hgv
  have hA : ∀ a : Nat, a < s.heap.size → ¬ (fun a => s.heap.size ≤ a) a := fun a h => Nat.not_le.mpr h
  have hini : (Cond.initialized Bundle.tN).before #[Value.ref b] s = true := hts _ (List.mem_append_right _ (List.mem_of_getElem? (i := 5) (by decide +kernel)))
  refine ⟨vx_Zqof (hts _ (List.mem_append_right _ (List.mem_of_getElem? (i := 245) (by decide +kernel)))) hini (hg (Cond.isRef (.static Bundle.tN "UNASSIGNED_STACK" Bundle.steD)) (by decide +kernel)) hA, vx_Zqof (hts _ (List.mem_append_right _ (List.mem_of_getElem? (i := 247) (by decide +kernel)))) hini (hg (Cond.isRef (.static Bundle.tN "SUPPRESSED_SENTINEL" Bundle.listD)) (by decide +kernel)) hA, fun x hx => zstr_of hcur (hts _ (zstr_in x hx)), zB_of hts⟩
theorem zE_of {b : Nat} {s : State} (hts : ∀ w ∈ lw_tbl, w.before #[Value.ref b] s = true) (hgv : (Jvm.Cond.and given_1 narrow_1).before #[Value.ref b] s = true) : zE s := by
  have hg := flat_of_before _ hgv
  exact ⟨⟨zcast (s := s) (Vm.Alike.refl s.vm) (hts _ zcas_in0), zcast (s := s) (Vm.Alike.refl s.vm) (hts _ zcas_in1), zcast (s := s) (Vm.Alike.refl s.vm) (hts _ zcas_in2)⟩, va_Nc.of (hg (Cond.not (.castable zIS zIO)) (by decide +kernel)), va_Nc.of (hg (Cond.not (.castable zIA zIO)) (by decide +kernel)), va_Nc.of (hg (Cond.not (.castable zIS zIA)) (by decide +kernel))⟩
theorem zNest_of {b : Nat} {s : State} (hts : ∀ w ∈ lw_tbl, w.before #[Value.ref b] s = true) : zNest s := ⟨va_Nw.of (A := #[Value.ref b]) rfl (hts _ (List.mem_append_right _ (List.mem_of_getElem? (i := 24) (by decide +kernel)))), va_Nw.of (A := #[Value.ref b]) rfl (hts _ (List.mem_append_right _ (List.mem_of_getElem? (i := 53) (by decide +kernel))))⟩
theorem zand63 (x : Int32) : ∃ y : Int, 0 ≤ y ∧ y ≤ 63 ∧ x &&& zI 63 = zI y := by
  refine ⟨(x &&& zI 63).toInt, ?_, ?_, zI_of _⟩
  all_goals
    have h1 : (x &&& zI 63).toBitVec.toNat ≤ 63 := by
      show (x.toBitVec &&& (zI 63).toBitVec).toNat ≤ 63
      rw [BitVec.toNat_and]
      exact Nat.le_trans Nat.and_le_right (by decide)
    have h2 : (x &&& zI 63).toInt = ((x &&& zI 63).toBitVec.toNat : Int) := BitVec.toInt_eq_toNat_of_lt (by omega)
    omega
set_option maxHeartbeats 4000000 in
set_option maxRecDepth 100000 in
theorem law_loop {p : Program} {l : Launch} {e : Env} {s : State} {m : MethodId} {below : List Frame} {meth : Method} {c : Code} {b L : Nat} {xs : Nat → Int32} {D : va_G} {cI cZ cJ : ClassId} {q r : Nat → Nat} {o : Nat} (C : zCx p l s m meth c b L xs D cI cZ cJ q r o) : ∀ (kf j : Nat), j ≤ 512 → 512 - j < kf → ∀ (d0 : Drawn), s.drawn.sameBut d0 lw_cs → ∀ (H : Heap) (locs : List Loc) (ls : Array Slot), zLS D cI cZ cJ q r o j H → va_S (fun a => s.heap.size ≤ a) s.heap H locs → lv_has ls 9 [(4, .int (zI (5 * (j : Int)))), (0, .ref b), (1, .ref (q 0)), (2, .ref (r 0)), (3, .ref o)] → W p l e room_1 (s.setDrawn d0) m #[Value.ref b] below meth c H locs (24 + 2 * j) (2861 + 12 * j) (lw_Z below #[Value.ref b] s) (F0 m 23 ls []) := by
  have hL := C.hL
  have hLN := C.hLN
  intro kf
  induction kf with
  | zero => intro j h1 h2; omega
  | succ kf ih =>
    intro j hj hk d0 hd0 H locs ls hZ hS hl
    refine lv_iload C.hx C.hb dL_law_23 (lv_at hl 0 rfl) ?_
    refine lv_aload_n C.hx C.hb dL_law_25 rfl (lv_at hl 1 rfl) ?_
    refine zr_slen (s := s.setDrawn d0) C.hx C.hb C.hX C.hbl C.hbA hS dL_law_26 ?_
    refine zr_iconst C.hx C.hb dL_law_27 ?_
    refine zr_isub (v := (L : Int) - 5) C.hx C.hb rfl dL_law_28 ?_
    refine zr_icmp_gt (tgt := 1831) C.hx C.hb dL_law_29 (by decide) ⟨by omega, by omega⟩ ⟨by omega, by omega⟩ (fun c1 => ?_) (fun c1 => ?_)
    · have c1 := c1
      refine lv_iconst (v := 1) C.hx C.hb dL_law_1831 (by decide) ?_
      refine va_forget (fun q hq => hS.2.2 q hq) ?_
      refine W.widen (k := 601024) (n := 7293034) (by omega) (by omega) ?_
      exact lw_ret hd0 C.hx C.hb C.hr C.hlocks dL_law_1832
    · have c1 := c1
      have hj5 : 5 * (j : Int) + 5 ≤ (L : Int) := by omega
      have hj2 : j < 512 := by omega
      have hcs : 24 + 2 * j + 2 ≤ 601024 ∧ 2861 + 12 * j + 12 ≤ 7293034 := ⟨by omega, by omega⟩
      have K : ∀ (d1 : Drawn), s.drawn.sameBut d1 lw_cs → ∀ (H1 : Heap) (locs1 : List Loc) (ls1 : Array Slot), zLS D cI cZ cJ q r o (j + 1) H1 → va_S (fun a => s.heap.size ≤ a) s.heap H1 locs1 → lv_has ls1 9 [(4, .int (zI (5 * (j : Int)))), (0, .ref b), (1, .ref (q 0)), (2, .ref (r 0)), (3, .ref o)] → W p l e room_1 (s.setDrawn d1) m #[Value.ref b] below meth c H1 locs1 (24 + 2 * j + 2) (2861 + 12 * j + 12) (lw_Z below #[Value.ref b] s) (F0 m 1825 ls1 []) := by
        intro d1 hd1 H1 locs1 ls1 hZ hS hl
        refine zr_iinc (v := 5 * (((j + 1 : Nat)) : Int)) (lv' := [(4, .int (zI (5 * (((j + 1 : Nat)) : Int)))), (0, .ref b), (1, .ref (q 0)), (2, .ref (r 0)), (3, .ref o)]) C.hx C.hb dL_law_1825 hl (k := 0) rfl (by omega) (by decide) rfl (fun ls hl => ?_)
        refine lv_goto (tgt := 23) C.hx C.hb dL_law_1828 (by decide) ?_
        have h9 := ih (j + 1) (by omega) (by omega) d1 hd1 H1 locs1 ls hZ hS hl
        rw [show 24 + 2 * (j + 1) = 24 + 2 * j + 2 by omega, show 2861 + 12 * (j + 1) = 2861 + 12 * j + 12 by omega] at h9
        exact h9
      refine lv_aload_n C.hx C.hb dL_law_32 rfl (lv_at hl 1 rfl) ?_
      refine lv_iload C.hx C.hb dL_law_33 (lv_at hl 0 rfl) ?_
      refine zr_sld (s := s.setDrawn d0) C.hx C.hb C.hX C.hbl C.hbA hS (i := 5 * (j : Int)) (by omega) (by omega) C.hLN dL_law_35 ?_
      refine zr_bipush C.hx C.hb dL_law_36 (by decide) ?_
      refine lv_iand C.hx C.hb dL_law_38 ?_
      obtain ⟨y, y0, y1, ey⟩ := zand63 (zI (sc xs (5 * (j : Int))))
      rw [ey]
      by_cases hy : y ≤ 32
      · rcases (show y = 0 ∨ y = 1 ∨ y = 2 ∨ y = 3 ∨ y = 4 ∨ y = 5 ∨ y = 6 ∨ y = 7 ∨ y = 8 ∨ y = 9 ∨ y = 10 ∨ y = 11 ∨ y = 12 ∨ y = 13 ∨ y = 14 ∨ y = 15 ∨ y = 16 ∨ y = 17 ∨ y = 18 ∨ y = 19 ∨ y = 20 ∨ y = 21 ∨ y = 22 ∨ y = 23 ∨ y = 24 ∨ y = 25 ∨ y = 26 ∨ y = 27 ∨ y = 28 ∨ y = 29 ∨ y = 30 ∨ y = 31 ∨ y = 32 by omega) with rfl | rfl | rfl | rfl | rfl | rfl | rfl | rfl | rfl | rfl | rfl | rfl | rfl | rfl | rfl | rfl | rfl | rfl | rfl | rfl | rfl | rfl | rfl | rfl | rfl | rfl | rfl | rfl | rfl | rfl | rfl | rfl | rfl
        · exact lv_tableIn (off := 145) (tgt := 184) C.hx C.hb dL_law_39 (by decide) (by decide) (by decide) (by decide) (law_c0 C hd0 hcs hj5 (by omega) hZ hS hl K)
        · exact lv_tableIn (off := 189) (tgt := 228) C.hx C.hb dL_law_39 (by decide) (by decide) (by decide) (by decide) (law_c1 C hd0 hcs hj5 (by omega) hZ hS hl K)
        · exact lv_tableIn (off := 245) (tgt := 284) C.hx C.hb dL_law_39 (by decide) (by decide) (by decide) (by decide) (law_c2 C hd0 hcs hj5 (by omega) hZ hS hl K)
        · exact lv_tableIn (off := 313) (tgt := 352) C.hx C.hb dL_law_39 (by decide) (by decide) (by decide) (by decide) (law_c3 C hd0 hcs hj5 (by omega) hZ hS hl K)
        · exact lv_tableIn (off := 405) (tgt := 444) C.hx C.hb dL_law_39 (by decide) (by decide) (by decide) (by decide) (law_c4 C hd0 hcs hj5 (by omega) hZ hS hl K)
        · exact lv_tableIn (off := 461) (tgt := 500) C.hx C.hb dL_law_39 (by decide) (by decide) (by decide) (by decide) (law_c5 C hd0 hcs hj5 (by omega) hZ hS hl K)
        · exact lv_tableIn (off := 529) (tgt := 568) C.hx C.hb dL_law_39 (by decide) (by decide) (by decide) (by decide) (law_c6 C hd0 hcs hj5 (by omega) hZ hS hl K)
        · exact lv_tableIn (off := 585) (tgt := 624) C.hx C.hb dL_law_39 (by decide) (by decide) (by decide) (by decide) (law_c7 C hd0 hcs hj5 (by omega) hZ hS hl K)
        · exact lv_tableIn (off := 598) (tgt := 637) C.hx C.hb dL_law_39 (by decide) (by decide) (by decide) (by decide) (law_c8 C hd0 hcs hj5 (by omega) hZ hS hl K)
        · exact lv_tableIn (off := 611) (tgt := 650) C.hx C.hb dL_law_39 (by decide) (by decide) (by decide) (by decide) (law_c9 C hd0 hcs hj5 (by omega) hZ hS hl K)
        · exact lv_tableIn (off := 674) (tgt := 713) C.hx C.hb dL_law_39 (by decide) (by decide) (by decide) (by decide) (law_c10 C hd0 hcs hj5 (by omega) hZ hS hl K)
        · exact lv_tableIn (off := 730) (tgt := 769) C.hx C.hb dL_law_39 (by decide) (by decide) (by decide) (by decide) (law_c11 C hd0 hcs hj5 (by omega) hZ hS hl K)
        · exact lv_tableIn (off := 786) (tgt := 825) C.hx C.hb dL_law_39 (by decide) (by decide) (by decide) (by decide) (law_c12 C hd0 hcs hj5 (by omega) hZ hS hl K)
        · exact lv_tableIn (off := 854) (tgt := 893) C.hx C.hb dL_law_39 (by decide) (by decide) (by decide) (by decide) (law_c13 C hd0 hcs hj5 (by omega) hZ hS hl K)
        · exact lv_tableIn (off := 922) (tgt := 961) C.hx C.hb dL_law_39 (by decide) (by decide) (by decide) (by decide) (law_c14 C hd0 hcs hj5 (by omega) hZ hS hl K)
        · exact lv_tableIn (off := 990) (tgt := 1029) C.hx C.hb dL_law_39 (by decide) (by decide) (by decide) (by decide) (law_c15 C hd0 hcs hj5 (by omega) hZ hS hl K)
        · exact lv_tableIn (off := 1058) (tgt := 1097) C.hx C.hb dL_law_39 (by decide) (by decide) (by decide) (by decide) (law_c16 C hd0 hcs hj5 (by omega) hZ hS hl K)
        · exact lv_tableIn (off := 1071) (tgt := 1110) C.hx C.hb dL_law_39 (by decide) (by decide) (by decide) (by decide) (law_c17 C hd0 hcs hj5 (by omega) hZ hS hl K)
        · exact lv_tableIn (off := 1127) (tgt := 1166) C.hx C.hb dL_law_39 (by decide) (by decide) (by decide) (by decide) (law_c18 C hd0 hcs hj5 (by omega) hZ hS hl K)
        · exact lv_tableIn (off := 1195) (tgt := 1234) C.hx C.hb dL_law_39 (by decide) (by decide) (by decide) (by decide) (law_c19 C hd0 hcs hj5 (by omega) hZ hS hl K)
        · exact lv_tableIn (off := 1251) (tgt := 1290) C.hx C.hb dL_law_39 (by decide) (by decide) (by decide) (by decide) (law_c20 C hd0 hcs hj5 (by omega) hZ hS hl K)
        · exact lv_tableIn (off := 1319) (tgt := 1358) C.hx C.hb dL_law_39 (by decide) (by decide) (by decide) (by decide) (law_c21 C hd0 hcs hj5 (by omega) hZ hS hl K)
        · exact lv_tableIn (off := 1375) (tgt := 1414) C.hx C.hb dL_law_39 (by decide) (by decide) (by decide) (by decide) (law_c22 C hd0 hcs hj5 (by omega) hZ hS hl K)
        · exact lv_tableIn (off := 1431) (tgt := 1470) C.hx C.hb dL_law_39 (by decide) (by decide) (by decide) (by decide) (law_c23 C hd0 hcs hj5 (by omega) hZ hS hl K)
        · exact lv_tableIn (off := 1499) (tgt := 1538) C.hx C.hb dL_law_39 (by decide) (by decide) (by decide) (by decide) (law_c24 C hd0 hcs hj5 (by omega) hZ hS hl K)
        · exact lv_tableIn (off := 1555) (tgt := 1594) C.hx C.hb dL_law_39 (by decide) (by decide) (by decide) (by decide) (law_c25 C hd0 hcs hj5 (by omega) hZ hS hl K)
        · exact lv_tableIn (off := 1568) (tgt := 1607) C.hx C.hb dL_law_39 (by decide) (by decide) (by decide) (by decide) (law_c26 C hd0 hcs hj5 (by omega) hZ hS hl K)
        · exact lv_tableIn (off := 1581) (tgt := 1620) C.hx C.hb dL_law_39 (by decide) (by decide) (by decide) (by decide) (law_c27 C hd0 hcs hj5 (by omega) hZ hS hl K)
        · exact lv_tableIn (off := 1594) (tgt := 1633) C.hx C.hb dL_law_39 (by decide) (by decide) (by decide) (by decide) (law_c28 C hd0 hcs hj5 (by omega) hZ hS hl K)
        · exact lv_tableIn (off := 1650) (tgt := 1689) C.hx C.hb dL_law_39 (by decide) (by decide) (by decide) (by decide) (law_c29 C hd0 hcs hj5 (by omega) hZ hS hl K)
        · exact lv_tableIn (off := 1718) (tgt := 1757) C.hx C.hb dL_law_39 (by decide) (by decide) (by decide) (by decide) (law_c30 C hd0 hcs hj5 (by omega) hZ hS hl K)
        · exact lv_tableIn (off := 1731) (tgt := 1770) C.hx C.hb dL_law_39 (by decide) (by decide) (by decide) (by decide) (law_c31 C hd0 hcs hj5 (by omega) hZ hS hl K)
        · exact lv_tableIn (off := 1772) (tgt := 1811) C.hx C.hb dL_law_39 (by decide) (by decide) (by decide) (by decide) (law_c32 C hd0 hcs hj5 (by omega) hZ hS hl K)
      · refine lv_tableOut (tgt := 1825) C.hx C.hb dL_law_39 (Or.inr (by rw [zI_toInt ⟨by omega, by omega⟩]; omega)) (by decide) ?_
        refine W.widen (k := 24 + 2 * j + 2) (n := 2861 + 12 * j + 12) (by omega) (by omega) ?_
        obtain ⟨pa, sp, al, dg, co, da, mb, dd, ah, wl, lo, n, td, wn, co', da', mo, st, mr, th, f, R, htd, hst, hmr, hC, hM, hO⟩ := hZ
        exact K d0 hd0 H locs ls ⟨pa, sp, al, dg, co, da, mb, dd, ah, wl, lo, n, td, wn, co', da', mo, st, mr, th, f, R, by omega, hst, hmr, hC, hM, hO⟩ hS hl
set_option maxHeartbeats 4000000 in
set_option maxRecDepth 100000 in
/-- the law, from its entry -/
theorem whole_start {p : Program} {e : Env} {s : State} {m : MethodId} {below : List Frame} {meth : Method} {c : Code} (l : Launch) (hflags : l.flags = flags0) {b L : Nat} {xs : Nat → Int32} (hL : L ≤ 2560) (C0 : lw_At p s m meth c b L xs) : W p l e room_1 s m #[Value.ref b] below meth c s.heap [] 0 0 (lw_Z below #[Value.ref b] s) (entryFrame m ([Value.ref b] : List Value).toArray 9) := by
  obtain ⟨hx, hb, hr, hml, hown0, htsT, hX, hbl, hlocks, hgv⟩ := C0
  have hown : s.vm.findClass RL = some m.cls := hown0
  have hts : ∀ w ∈ wsL_law, w.before #[Value.ref b] s = true := fun w h => htsT w (wsL_law_in w h)
  have hst0 : l.stackTraces = false := by unfold Launch.stackTraces; rw [hflags]; decide +kernel
  have hA : ∀ q : Nat, s.heap.size ≤ q → (fun q : Nat => s.heap.size ≤ q) q := fun _ h => h
  obtain ⟨c0, iS0, hKn0⟩ := u_known (C := RX0) (T := TX0) (N := 2) (n := 2) htsT inX0 (htsT (.instantiable RX0 2) (List.mem_append_right _ (List.mem_of_getElem? (i := 52) (by decide +kernel))))
  obtain ⟨c1, iS1, hKn1⟩ := u_known (C := RX1) (T := TX1) (N := 5) (n := 5) htsT inX1 (htsT (.instantiable RX1 5) (List.mem_append_right _ (List.mem_of_getElem? (i := 23) (by decide +kernel))))
  obtain ⟨c2, iS2, hKn2⟩ := u_known (C := RX2) (T := TX2) (N := 9) (n := 9) htsT inX2 (htsT (.instantiable RX2 9) (List.mem_append_right _ (List.mem_of_getElem? (i := 15) (by decide +kernel))))
  obtain ⟨c3, iS3, hKn3⟩ := u_known (C := RX3) (T := TX3) (N := 12) (n := 12) htsT inX3 (htsT (.instantiable RX3 12) (List.mem_append_right _ (List.mem_of_getElem? (i := 589) (by decide +kernel))))
  obtain ⟨D, hKc⟩ : ∃ D : va_G, ∀ (k : Nat) (q : vw_C), vwCl[k]? = some q → u_Kn s q.1 q.2.1 q.2.2 (D.1 k) (D.2 k) := by
    refine ⟨(fun k => match k with | 0 => c0 | 1 => c1 | 2 => c2 | _ => c3, fun k => match k with | 0 => iS0 | 1 => iS1 | 2 => iS2 | _ => iS3), ?_⟩
    intro k q hq
    match k, hq with
    | 0, hq => cases hq; exact hKn0
    | 1, hq => cases hq; exact hKn1
    | 2, hq => cases hq; exact hKn2
    | 3, hq => cases hq; exact hKn3
    | k + 4, hq => simp [vwCl] at hq
  obtain ⟨cI, kI, compI, fI, gI, hI⟩ := Cond.arrayClass_spec (hts (.arrayClass .int) (by decide +kernel))
  obtain ⟨cZ, kZ, compZ, fZ, gZ, hZ⟩ := Cond.arrayClass_spec (hts (.arrayClass .boolean) (by decide +kernel))
  obtain ⟨cJ, kJ, compJ, fJ, gJ, hJ⟩ := Cond.arrayClass_spec (hts (.arrayClass .long) (by decide +kernel))
  have hK : va_K D vwCl [(cI, .int), (cZ, .boolean), (cJ, .long)] s := by
    refine ⟨hKc, fun k q h => ?_⟩
    match k, h with
    | 0, h => cases h; exact ⟨fun n z => ⟨fun k h => (by cases h), kI, gI, compI, hI⟩, fI⟩
    | 1, h => cases h; exact ⟨fun n z => ⟨fun k h => (by cases h), kZ, gZ, compZ, hZ⟩, fZ⟩
    | 2, h => cases h; exact ⟨fun n z => ⟨fun k h => (by cases h), kJ, gJ, compJ, hJ⟩, fJ⟩
    | k + 3, h => simp at h
  have hK2 : va_K D vwCl [(cI, .int), (cZ, .boolean)] s := hK.sub [0, 1] rfl
  have hT := zT_of hKn2.2.1 htsT hgv
  have hE := zE_of htsT hgv
  have hNe := zNest_of htsT
  have hS : va_S (fun q : Nat => s.heap.size ≤ q) s.heap s.heap [] := va_S.rf
  have hP : va_P D vwCl [] s.heap := fun k q h => by simp at h
  have hD : va_D (fun q : Nat => s.heap.size ≤ q) [] := ⟨fun i j p q h => by simp at h, fun k q h => by simp at h⟩
  have hl := lv_entry ([.ref b]) (n := 9) (Nat.le_of_ble_eq_true rfl)
  rw [lg_entry_eq]
  generalize (lg_sl ([.ref b]) ++ List.replicate (9 - (lg_sl ([.ref b])).length) Slot.unset).toArray = ls at hl ⊢
  have hl : lv_has ls 9 [(0, .ref b)] := hl
  refine va_new (ci := 2) (fs := [.null, .null, .null, .null, .int (zI 0), .int (zI 0), .null, .null, .null]) (C := RX2) (T := TX2) (N := 9) hx hb htsT inX2 tyX2 tyX2_ok hown (hts (.classLink RL 8 RX2) (by decide +kernel)) (hts (.instantiable RX2 9) (by decide +kernel)) (hts (.initialized RX2) (by decide +kernel)) hK hP hD hS hA rfl (fun j hj => by rcases (show j = 0 ∨ j = 1 ∨ j = 2 ∨ j = 3 ∨ j = 4 ∨ j = 5 ∨ j = 6 ∨ j = 7 ∨ j = 8 by omega) with rfl | rfl | rfl | rfl | rfl | rfl | rfl | rfl | rfl <;> rfl) (Nat.le_of_ble_eq_true rfl) (Nat.le_of_ble_eq_true rfl) dL_law_0 (fun a0 H hP hD hS => ?_)
  have hP : va_P D vwCl [(a0, .inr (2, [.null, .null, .null, .null, .int (zI 0), .int (zI 0), .null, .null, .null]))] H := hP
  have hD : va_D (fun q : Nat => s.heap.size ≤ q) [(a0, .inr (2, [.null, .null, .null, .null, .int (zI 0), .int (zI 0), .null, .null, .null]))] := hD
  refine W.widen (k := 1) (n := 9) (Nat.le_of_ble_eq_true rfl) (Nat.le_of_ble_eq_true rfl) ?_
  refine lv_dup hx hb dL_law_3 rfl ?_
  have hPc := hP.sub (ws' := [(a0, .inr (2, [.null, .null, .null, .null, .int (zI 0), .int (zI 0), .null, .null, .null]))]) [0] rfl
  have hDc := hD.sub (ws' := [(a0, .inr (2, [.null, .null, .null, .null, .int (zI 0), .int (zI 0), .null, .null, .null]))]) [0] (by decide) rfl
  have hFc := va_free (wc := [(a0, .inr (2, [.null, .null, .null, .null, .int (zI 0), .int (zI 0), .null, .null, .null]))]) hD hS hA [0] rfl
  refine va_callv (va_runI (As := []) (rest := [.ref a0]) ⟨hx, hb, hml, hown, hts⟩ (kX2_init l D cI cZ a0 H.size) (cwI 0 hts gL_law_X2_init rfl rfl rfl (hts (.initialized RX2) (by decide +kernel)) (hts (.methodLink RL 92 yX2_init) (by decide +kernel)) (hts (.instanceMethod yX2_init) (by decide +kernel)) rfl (by decide +kernel) ⟨Nat.le_of_ble_eq_true rfl, Nat.le_of_ble_eq_true rfl⟩) ⟨zblindI2, fun U hU hW => ⟨rfl, by rw [hU], by rw [hU]; exact hPc, va_K.moved hW.alike hK2, hDc.weaken (fun _ _ _ _ => trivial), hNe.warm hW⟩⟩ rfl rfl hl.1 rfl (lv_room (Nat.le_of_ble_eq_true rfl)) dL_law_4 ⟨Nat.le_of_ble_eq_true rfl, Nat.le_of_ble_eq_true rfl⟩) hS (fun q _ h => hFc q h) hFc (fun q t H1 locs ht hvm hw hB hz1 hk1 hS => ?_)
  obtain ⟨hP1, hD1⟩ := hB
  rw [ht] at hP1
  obtain ⟨hP9, hD9⟩ := va_join (wr := []) (w1 := (wC cI cZ q (cst 0) (cst 0) (cst 0) (cst 0) (cst 0) (cst 0) (cst 0) (cst 0) (cst 0) (cst 0) (cst 0) 0 0 0)) hP hD [0] [] rfl rfl (by decide) (by decide) hk1 hFc hP1 hD1
  have hw : q 0 = a0 := hw
  subst hw
  have hP := hP9
  have hD := hD9
  clear hP9 hD9
  generalize H1 = H at hP hS ⊢
  refine W.widen (k := 14) (n := 961) (Nat.le_of_ble_eq_true rfl) (Nat.le_of_ble_eq_true rfl) ?_
  have hP : va_P D vwCl (wC cI cZ q (cst 0) (cst 0) (cst 0) (cst 0) (cst 0) (cst 0) (cst 0) (cst 0) (cst 0) (cst 0) (cst 0) 0 0 0) H := hP
  have hD : va_D (fun q : Nat => s.heap.size ≤ q) (wC cI cZ q (cst 0) (cst 0) (cst 0) (cst 0) (cst 0) (cst 0) (cst 0) (cst 0) (cst 0) (cst 0) (cst 0) 0 0 0) := hD
  refine lv_astore_n (lv' := [(1, .ref (q 0)), (0, .ref b)]) hx hb dL_law_7 rfl hl (by decide) rfl (fun ls hl => ?_)
  refine va_new (ci := 3) (fs := [.int (zI 0), .int (zI 0), .null, .null, .null, .null, .null, .null, .int (zI 0), .int (zI 0), .null, .null]) (C := RX3) (T := TX3) (N := 12) hx hb htsT inX3 tyX3 tyX3_ok hown (hts (.classLink RL 93 RX3) (by decide +kernel)) (hts (.instantiable RX3 12) (by decide +kernel)) (hts (.initialized RX3) (by decide +kernel)) hK hP hD hS hA rfl (fun j hj => by rcases (show j = 0 ∨ j = 1 ∨ j = 2 ∨ j = 3 ∨ j = 4 ∨ j = 5 ∨ j = 6 ∨ j = 7 ∨ j = 8 ∨ j = 9 ∨ j = 10 ∨ j = 11 by omega) with rfl | rfl | rfl | rfl | rfl | rfl | rfl | rfl | rfl | rfl | rfl | rfl <;> rfl) (Nat.le_of_ble_eq_true rfl) (Nat.le_of_ble_eq_true rfl) dL_law_8 (fun a1 H hP hD hS => ?_)
  have hP : va_P D vwCl ((wC cI cZ q (cst 0) (cst 0) (cst 0) (cst 0) (cst 0) (cst 0) (cst 0) (cst 0) (cst 0) (cst 0) (cst 0) 0 0 0) ++ [(a1, .inr (3, [.int (zI 0), .int (zI 0), .null, .null, .null, .null, .null, .null, .int (zI 0), .int (zI 0), .null, .null]))]) H := hP
  have hD : va_D (fun q : Nat => s.heap.size ≤ q) ((wC cI cZ q (cst 0) (cst 0) (cst 0) (cst 0) (cst 0) (cst 0) (cst 0) (cst 0) (cst 0) (cst 0) (cst 0) 0 0 0) ++ [(a1, .inr (3, [.int (zI 0), .int (zI 0), .null, .null, .null, .null, .null, .null, .int (zI 0), .int (zI 0), .null, .null]))]) := hD
  refine W.widen (k := 15) (n := 973) (Nat.le_of_ble_eq_true rfl) (Nat.le_of_ble_eq_true rfl) ?_
  refine lv_dup hx hb dL_law_11 rfl ?_
  have hPc := hP.sub (ws' := [(a1, .inr (3, [.int (zI 0), .int (zI 0), .null, .null, .null, .null, .null, .null, .int (zI 0), .int (zI 0), .null, .null]))]) [14] rfl
  have hDc := hD.sub (ws' := [(a1, .inr (3, [.int (zI 0), .int (zI 0), .null, .null, .null, .null, .null, .null, .int (zI 0), .int (zI 0), .null, .null]))]) [14] (by decide) rfl
  have hFc := va_free (wc := [(a1, .inr (3, [.int (zI 0), .int (zI 0), .null, .null, .null, .null, .null, .null, .int (zI 0), .int (zI 0), .null, .null]))]) hD hS hA [14] rfl
  refine va_callv (va_runI (As := []) (rest := [.ref a1]) ⟨hx, hb, hml, hown, hts⟩ (kX3_init l D cI cZ a1 H.size) (cwI 0 hts gL_law_X3_init rfl rfl rfl (hts (.initialized RX3) (by decide +kernel)) (hts (.methodLink RL 95 yX3_init) (by decide +kernel)) (hts (.instanceMethod yX3_init) (by decide +kernel)) rfl (by decide +kernel) ⟨Nat.le_of_ble_eq_true rfl, Nat.le_of_ble_eq_true rfl⟩) ⟨zblindI, fun U hU hW => ⟨rfl, by rw [hU], by rw [hU]; exact hPc, va_K.moved hW.alike hK2, hDc.weaken (fun _ _ _ _ => trivial)⟩⟩ rfl rfl hl.1 rfl (lv_room (Nat.le_of_ble_eq_true rfl)) dL_law_12 ⟨Nat.le_of_ble_eq_true rfl, Nat.le_of_ble_eq_true rfl⟩) hS (fun q _ h => hFc q h) hFc (fun r t H1 locs ht hvm hw hB hz1 hk1 hS => ?_)
  obtain ⟨hP1, hD1⟩ := hB
  rw [ht] at hP1
  obtain ⟨hP9, hD9⟩ := va_join (wr := (wC cI cZ q (cst 0) (cst 0) (cst 0) (cst 0) (cst 0) (cst 0) (cst 0) (cst 0) (cst 0) (cst 0) (cst 0) 0 0 0)) (w1 := (wM cI cZ r (cst 0) (cst 0) (cst 0) (cst 0) (cst 0) (miF 256) (cst 0) (cst 0) 0 0 0 0)) hP hD [14] [0, 1, 2, 3, 4, 5, 6, 7, 8, 9, 10, 11, 12, 13] rfl rfl (by decide) (by decide) hk1 hFc hP1 hD1
  have hw : r 0 = a1 := hw
  subst hw
  have hP := hP9
  have hD := hD9
  clear hP9 hD9
  generalize H1 = H at hP hS ⊢
  refine W.widen (k := 23) (n := 2860) (Nat.le_of_ble_eq_true rfl) (Nat.le_of_ble_eq_true rfl) ?_
  have hP : va_P D vwCl ((wC cI cZ q (cst 0) (cst 0) (cst 0) (cst 0) (cst 0) (cst 0) (cst 0) (cst 0) (cst 0) (cst 0) (cst 0) 0 0 0) ++ (wM cI cZ r (cst 0) (cst 0) (cst 0) (cst 0) (cst 0) (miF 256) (cst 0) (cst 0) 0 0 0 0)) H := hP
  have hD : va_D (fun q : Nat => s.heap.size ≤ q) ((wC cI cZ q (cst 0) (cst 0) (cst 0) (cst 0) (cst 0) (cst 0) (cst 0) (cst 0) (cst 0) (cst 0) (cst 0) 0 0 0) ++ (wM cI cZ r (cst 0) (cst 0) (cst 0) (cst 0) (cst 0) (miF 256) (cst 0) (cst 0) 0 0 0 0)) := hD
  refine lv_astore_n (lv' := [(2, .ref (r 0)), (1, .ref (q 0)), (0, .ref b)]) hx hb dL_law_15 rfl hl (by decide) rfl (fun ls hl => ?_)
  refine zr_iconst hx hb dL_law_16 ?_
  refine zr_newaJ (N' := 1) (a0 := (1, .inr (.inl (fun _ => 0)))) hx hb (hts (.arrayClass .long) (by decide +kernel)) hK 2 rfl hP hD hS hA (fun _ => rfl) (by decide) (by decide) (by decide) (Nat.le_of_ble_eq_true rfl) (Nat.le_of_ble_eq_true rfl) dL_law_17 (fun o H hP hD hS => ?_)
  have hP : va_P D vwCl (((wC cI cZ q (cst 0) (cst 0) (cst 0) (cst 0) (cst 0) (cst 0) (cst 0) (cst 0) (cst 0) (cst 0) (cst 0) 0 0 0) ++ (wM cI cZ r (cst 0) (cst 0) (cst 0) (cst 0) (cst 0) (miF 256) (cst 0) (cst 0) 0 0 0 0)) ++ wO cJ o (fun _ => 0)) H := hP
  have hD : va_D (fun q : Nat => s.heap.size ≤ q) (((wC cI cZ q (cst 0) (cst 0) (cst 0) (cst 0) (cst 0) (cst 0) (cst 0) (cst 0) (cst 0) (cst 0) (cst 0) 0 0 0) ++ (wM cI cZ r (cst 0) (cst 0) (cst 0) (cst 0) (cst 0) (miF 256) (cst 0) (cst 0) 0 0 0 0)) ++ wO cJ o (fun _ => 0)) := hD
  refine W.widen (k := 24) (n := 2861) (Nat.le_of_ble_eq_true rfl) (Nat.le_of_ble_eq_true rfl) ?_
  refine lv_astore_n (lv' := [(3, .ref o), (2, .ref (r 0)), (1, .ref (q 0)), (0, .ref b)]) hx hb dL_law_19 rfl hl (by decide) rfl (fun ls hl => ?_)
  refine zr_iconst hx hb dL_law_20 ?_
  refine lv_istore (lv' := [(4, .int (zI 0)), (3, .ref o), (2, .ref (r 0)), (1, .ref (q 0)), (0, .ref b)]) hx hb dL_law_21 hl (by decide) rfl (fun ls hl => ?_)
  have hl := lv_sub hl (l' := [(4, .int (zI (5 * (((0 : Nat)) : Int)))), (0, .ref b), (1, .ref (q 0)), (2, .ref (r 0)), (3, .ref o)]) [0, 4, 3, 2, 1] rfl
  have hNN : (zLC q ++ zLM r ++ [o]).Nodup := zND hD
  have hAA : ∀ a ∈ zLC q ++ zLM r ++ [o], s.heap.size ≤ a := zDA hD
  have C : zCx p l s m meth c b L xs D cI cZ cJ q r o := ⟨⟨hx, hb, hr, hml, hown, hts, hX, hbl, hlocks, hL, hst0⟩, ⟨hK, hT, hE⟩, hNN, hAA⟩
  refine W.base ?_
  exact law_loop C 513 0 (Nat.zero_le _) (by omega) s.drawn (Drawn.sameBut.refl s.drawn lw_cs) H _ ls ⟨cst 0, cst 0, cst 0, cst 0, cst 0, cst 0, cst 0, cst 0, cst 0, cst 0, cst 0, 0, 0, 0, cst 0, cst 0, miF 256, cst 0, cst 0, 0, fun _ => 0, re_init, Int.le_refl 0, fun _ => ⟨show (-1 : Int) ≤ 0 by decide, show (0 : Int) ≤ 4 by decide⟩, fun _ => ⟨show (-1 : Int) ≤ 0 by decide, show (0 : Int) ≤ 1000000 by decide⟩, zleft (zleft hP), zright (zleft hP), zright hP⟩ hS hl
