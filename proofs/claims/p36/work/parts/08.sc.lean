theorem if_al {x y : Int} (h : 0 ≤ x ∧ x ≤ 1) : (if x ≠ 0 ∧ y = y then (1 : Int) else 0) = x := by
  by_cases z : x = 0
  · rw [if_neg (fun q => q.1 z), z]
  · rw [if_pos ⟨z, rfl⟩]
    omega
section ZI6
variable {n : Nat} {pa sp al co da mb dd : Int → Int} {td : Int} {M : Nat} {mo : Int → Int → Int}
theorem zInv.wears0 (h : zInv n pa sp al co da mb dd td M mo) {p : Int} (p0 : 0 ≤ p) (p1 : p < (n : Int)) : wrF mo M td p = ca co da mb dd td n p 0 := by
  have := h.wears p0 p1 (Int.le_refl 0)
  rw [Int.add_zero] at this
  exact this
theorem zInv.ll180 (h : zInv n pa sp al co da mb dd td M mo) (p : Int) : llS da mb dd td n p ≤ 180 := mxF_le (by decide) (fun d _ _ => (h.lf180 p d).2)
theorem zInv.moB (h : zInv n pa sp al co da mb dd td M mo) (ht : td ≤ 900000) (i j : Int) (i0 : 0 ≤ i) (i1 : i < (M : Int)) (j0 : 0 ≤ j) (j8 : j ≤ 8) : -1 ≤ mo i j ∧ mo i j ≤ 1000000 := by
  obtain ⟨a1, a2, a3, a4, a5, a6, a7, a8, a9, a10⟩ := h.2.2.1 i i0 i1
  have hn := h.n16
  have hco := h.1.2.2.2.1
  have hda := h.1.2.2.2.2.1
  have hdd := h.1.2.2.2.2.2.2.1
  rcases (show j = 0 ∨ j = 1 ∨ j = 2 ∨ j = 3 ∨ j = 4 ∨ j = 5 ∨ j = 6 ∨ j = 7 ∨ j = 8 by omega) with rfl | rfl | rfl | rfl | rfl | rfl | rfl | rfl | rfl
  · omega
  · omega
  · rw [a4]; have := hdd (mo i 1); omega
  · rw [a5]; have := hco (mo i 1 * 12 + (mb (mo i 0 * 16 + mo i 1) - 1) * 3 + 0); omega
  · rw [a6]; have := hda (mo i 1 * 12 + (mb (mo i 0 * 16 + mo i 1) - 1) * 3 + 0); omega
  · rw [a7]; have := hco (mo i 1 * 12 + (mb (mo i 0 * 16 + mo i 1) - 1) * 3 + 1); omega
  · rw [a8]; have := hda (mo i 1 * 12 + (mb (mo i 0 * 16 + mo i 1) - 1) * 3 + 1); omega
  · rw [a9]; have := hco (mo i 1 * 12 + (mb (mo i 0 * 16 + mo i 1) - 1) * 3 + 2); omega
  · rw [a10]; have := hda (mo i 1 * 12 + (mb (mo i 0 * 16 + mo i 1) - 1) * 3 + 2); omega
end ZI6
set_option maxHeartbeats 4000000 in
set_option maxRecDepth 100000 in
theorem kX3_isSame (l : Launch) (D : va_G) (cI cZ c1 c2 : ClassId) (sz : Nat) (s0 : Nat) (a : Nat) (q : Nat → Nat) (hN : (zLC q).Nodup) (hq0 : ∀ x ∈ zLC q, x < s0) (pa : Int → Int) (sp : Int → Int) (al : Int → Int) (dg : Int → Int) (co : Int → Int) (da : Int → Int) (mb : Int → Int) (dd : Int → Int) (ah : Int → Int) (wl : Int → Int) (lo : Int → Int) (n : Nat) (td : Int) (wn : Int) (M : Nat) (mo : Int → Int → Int) (hI : zInv n pa sp al co da mb dd td M mo) (htd9 : td ≤ 900000) : zGD l yX3_isSame wsX3_isSame ({ frames := 9, cells := 40, slots := 400, locals := 155 } : Room) D cI cZ c1 c2 [.ref a, .ref (q 0)] sz (fun H => va_P D vwCl (wC cI cZ q pa sp al dg co da mb dd ah wl lo n td wn) H ∧ zSW D cI c1 c2 s0 a n pa sp al co da M mo td wn H) (fun v H => v = some (.int (zI 1))) (fun x : Nat => x ∈ zLC q ∨ sz ≤ x) (40) (400) := by
  refine MetD.ofW (cc := cX3_isSame) (maxL := 14) (ret := (some .boolean)) (by decide) rfl ?_
  intro p0 e9 s9 m9 ag9 below meth c9 s₁ B hml hv hd0
  obtain ⟨hav, hsz, hPre, hK, hQ⟩ := hv
  subst hsz
  have hx := B.exec
  have hb := B.bytes
  have hr := B.returns
  have hts := atoms_spec (ws := wsX3_isSame) B.pre
  have hown : s9.vm.findClass RX3 = some m9.cls := findClass_of_methodNamed B.named
  have hlocks := B.notSynchronized
  have hin3 : ∀ w ∈ u_ws RX3 TX3 5, w ∈ wsX3_isSame := by decide +kernel
  have hl := lv_entry ([.ref a, .ref (q 0)]) (n := 14) (Nat.le_of_ble_eq_true rfl)
  have hE : entryFrame m9 ag9 14 = F0 m9 0 ((lg_sl ([.ref a, .ref (q 0)]) ++ List.replicate (14 - (lg_sl ([.ref a, .ref (q 0)])).length) Slot.unset).toArray) [] := by rw [hav]; exact lg_entry_eq m9 _ _
  obtain ⟨Q0, hQ0⟩ : ∃ Q0, Q0 = MQD lw_cs below (zGQ (fun v H => v = some (.int (zI 1))) (fun x : Nat => x ∈ zLC q ∨ s9.heap.size ≤ x)) ag9 s9 (40) (400) (fun x : Nat => x ∈ zLC q ∨ s9.heap.size ≤ x) := ⟨_, rfl⟩
  show W p0 l e9 ({ frames := 9, cells := 40, slots := 400, locals := 155 } : Room) s9 m9 ag9 below meth c9 s9.heap [] 0 0 (MQD lw_cs below (zGQ (fun v H => v = some (.int (zI 1))) (fun x : Nat => x ∈ zLC q ∨ s9.heap.size ≤ x)) ag9 s9 (40) (400) (fun x : Nat => x ∈ zLC q ∨ s9.heap.size ≤ x)) _
  rw [hE, ← hQ0]
  have hS : va_S (fun x : Nat => x ∈ zLC q ∨ s9.heap.size ≤ x) s9.heap s9.heap [] := va_S.rf
  have hU : s9.heap.size ≤ s9.heap.size := Nat.le_refl _
  generalize (lg_sl ([.ref a, .ref (q 0)]) ++ List.replicate (14 - (lg_sl ([.ref a, .ref (q 0)])).length) Slot.unset).toArray = ls at hl ⊢
  have hl : lv_has ls 14 [(0, .ref a), (1, .ref (q 0))] := hl
  obtain ⟨hC, kd, ap, ac, am, ra, rc, rr, rm, hL0⟩ := hPre
  have hL := hL0
  have hs0 := hL.s0u
  have hn9 := hL.n16
  have hM9 := hL.M240
  have hpa := hI.1.1
  have hsp := hI.1.2.1
  have hal := hI.1.2.2.1
  have hco := hI.1.2.2.2.1
  have hda := hI.1.2.2.2.2.1
  have hmb := hI.1.2.2.2.2.2.1
  have hdd := hI.1.2.2.2.2.2.2.1
  have hn := hI.1.2.2.2.2.2.2.2.1
  have htd : 0 ≤ td ∧ td ≤ 1000000 := ⟨hI.1.2.2.2.2.2.2.2.2, by omega⟩
  have hmo := hI.moB htd9
  refine lv_aload_n hx hb dX3_isSame_0 rfl (lv_at hl 0 rfl) ?_
  refine va_get (D := D) (ci := 3) (v := .ref ap) (C := RX3) (T := TX3) (N := 5) hx hb hts hin3 hown hK hL.obj 0 rfl rfl 2 (by decide) (hts (.fieldLink RX3 9 "MourningRibbonsLaw$Sim" "people" "[[I") (by decide +kernel)) (fun _ h9 => h9) rfl dX3_isSame_1 ?_
  refine zs_len1 hx hb hQ hL.ppl dX3_isSame_4 ?_
  have b_1 := hL.n16
  refine lv_istore_n (lv' := [(2, .int (zI (n : Int))), (0, .ref a), (1, .ref (q 0))]) hx hb dX3_isSame_5 rfl hl (by decide) rfl (fun ls hl => ?_)
  refine lv_aload_n hx hb dX3_isSame_6 rfl (lv_at hl 1 rfl) ?_
  refine zcallGV (ci := 3) (cq := (RX3, TX3, 5)) (As := []) (rest := []) ⟨hx, hb, hml, hown, hts⟩ hK hQ (kX3_degrees l D cI cZ c1 c2 s9.heap.size s0 a n pa sp al co da M mo td wn hpa hsp) (cwV 0 hts gX3_isSame_X3_degrees rfl rfl rfl (by decide +kernel) ⟨by first | exact Nat.le_of_ble_eq_true rfl | (show _ ≤ _; omega), Nat.le_of_ble_eq_true rfl⟩) (hL.toW hU) hL.obj hS (fun x h => Or.inr (Nat.le_trans hU h)) rfl rfl hl.1 rfl (Nat.le_of_ble_eq_true rfl) dX3_isSame_7 ⟨show 0 + 17 ≤ 40 from by omega, show 0 + 272 ≤ 400 from by omega⟩ (fun v9 H locs hp9 hz9 hk9 hS => ?_)
  obtain ⟨mx, rfl, hge_mx, hM⟩ := hp9
  have hk9 := fun (x : Nat) (h : x < _) => hk9 x h (Nat.not_le.mpr h)
  have hge_mx := Nat.le_trans hU hge_mx
  have hC := zgrowP hC hk9
  have hkp : ∀ x : Nat, s0 ≤ x → x < s9.heap.size → H[x]? = s9.heap[x]? := fun x h1 h2 => hS.2.1 x h2 (fun h => h.elim (fun h => absurd (hq0 x h) (Nat.not_lt.mpr h1)) (fun h => absurd h (Nat.not_le.mpr h2)))
  have hL := hL0.keep hkp
  have hU : s9.heap.size ≤ H.size := hS.1
  refine W.eq (g2 := F0 m9 10 ls [.ref mx]) rfl ?_
  refine lv_astore_n (lv' := [(3, .ref mx), (2, .int (zI (n : Int))), (0, .ref a), (1, .ref (q 0))]) hx hb dX3_isSame_10 rfl hl (by decide) rfl (fun ls hl => ?_)
  refine zr_bipush hx hb dX3_isSame_11 (by decide) ?_
  have hme1 := mA.end hM
  refine zs_newI (N' := 6) hx hb hQ (hts (.arrayClass .int) (by decide +kernel)) hS (z := 6) (by omega) (by omega) (show 0 + 17 + 1 ≤ 40 from by omega) (show 0 + 272 + 6 ≤ 400 from by omega) dX3_isSame_13 (fun H wa hq_wa hi_wa hz9 hk9 hS => ?_)
  have hC := zgrowP hC hk9
  have hM := mA.grow hM hk9
  have hge_wa : s9.heap.size ≤ wa := by omega
  have hU : s9.heap.size ≤ H.size := hS.1
  have hkp : ∀ x : Nat, s0 ≤ x → x < s9.heap.size → H[x]? = s9.heap[x]? := fun x h1 h2 => hS.2.1 x h2 (fun h => h.elim (fun h => absurd (hq0 x h) (Nat.not_lt.mpr h1)) (fun h => absurd h (Nat.not_le.mpr h2)))
  have hL := hL0.keep hkp
  refine lv_astore (lv' := [(4, .ref wa), (3, .ref mx), (2, .int (zI (n : Int))), (0, .ref a), (1, .ref (q 0))]) hx hb dX3_isSame_15 hl (by decide) rfl (fun ls hl => ?_)
  refine zr_iconst hx hb dX3_isSame_17 ?_
  refine lv_istore (lv' := [(5, .int (zI 0)), (4, .ref wa), (3, .ref mx), (2, .int (zI (n : Int))), (0, .ref a), (1, .ref (q 0))]) hx hb dX3_isSame_18 hl (by decide) rfl (fun ls hl => ?_)
  refine zr_iconst hx hb dX3_isSame_20 ?_
  refine lv_istore (lv' := [(6, .int (zI 0)), (5, .int (zI 0)), (4, .ref wa), (3, .ref mx), (2, .int (zI (n : Int))), (0, .ref a), (1, .ref (q 0))]) hx hb dX3_isSame_21 hl (by decide) rfl (fun ls hl => ?_)
  refine zr_iconst hx hb dX3_isSame_23 ?_
  refine lv_istore (lv' := [(7, .int (zI 0)), (6, .int (zI 0)), (5, .int (zI 0)), (4, .ref wa), (3, .ref mx), (2, .int (zI (n : Int))), (0, .ref a), (1, .ref (q 0))]) hx hb dX3_isSame_24 hl (by decide) rfl (fun ls hl => ?_)
  refine zr_iconst hx hb dX3_isSame_26 ?_
  refine lv_istore (lv' := [(8, .int (zI (-1))), (7, .int (zI 0)), (6, .int (zI 0)), (5, .int (zI 0)), (4, .ref wa), (3, .ref mx), (2, .int (zI (n : Int))), (0, .ref a), (1, .ref (q 0))]) hx hb dX3_isSame_27 hl (by decide) rfl (fun ls hl => ?_)
  refine zr_iconst hx hb dX3_isSame_29 ?_
  refine lv_istore (lv' := [(9, .int (zI 0)), (8, .int (zI (-1))), (7, .int (zI 0)), (6, .int (zI 0)), (5, .int (zI 0)), (4, .ref wa), (3, .ref mx), (2, .int (zI (n : Int))), (0, .ref a), (1, .ref (q 0))]) hx hb dX3_isSame_30 hl (by decide) rfl (fun ls hl => ?_)
  have L32_2 : ∀ (kf p : Nat), p ≤ n → n - p < kf → ∀ (H : Heap) (locs : List Loc) (ls : Array Slot) (dg1 : Int → Int) (cc ss : Nat), (va_P D vwCl (wC cI cZ q pa sp al dg1 co da mb dd ah wl lo n td wn) H) → (mA cI c1 H mx n (dgF pa sp n)) → (iA cI H wa 6 (fun c => smF (cwF al co da mb dd td n c) p)) → va_S (fun x : Nat => x ∈ zLC q ∨ s9.heap.size ≤ x) s9.heap H locs → lv_has ls 14 [(9, .int (zI (p : Int))), (8, .int (zI (lgF (llS da mb dd td n) p))), (7, .int (zI (mxF (llS da mb dd td n) p))), (6, .int (zI (smF (llS da mb dd td n) p))), (5, .int (zI (smF al p))), (4, .ref wa), (3, .ref mx), (2, .int (zI (n : Int))), (0, .ref a), (1, .ref (q 0))] → cc ≤ 18 + p → ss ≤ 278 + 5 * p → W p0 l e9 (({ frames := 9, cells := 40, slots := 400, locals := 155 } : Room)) s9 m9 ag9 below meth c9 H locs cc ss Q0 (F0 m9 32 ls []) := by
    intro kf
    induction kf with
    | zero => intro p h1 h2; omega
    | succ kf ih =>
      intro p hi_p hk_p H locs ls dg1 cc ss hC hM hi_wa hS hl  hcc hss
      have ih_p := ih
      clear ih
      have hkp : ∀ x : Nat, s0 ≤ x → x < s9.heap.size → H[x]? = s9.heap[x]? := fun x h1 h2 => hS.2.1 x h2 (fun h => h.elim (fun h => absurd (hq0 x h) (Nat.not_lt.mpr h1)) (fun h => absurd h (Nat.not_le.mpr h2)))
      have hL := hL0.keep hkp
      have hU : s9.heap.size ≤ H.size := hS.1
      have hmx := mxF_bk (f := llS da mb dd td n) (k := p) (B := 180) (by decide) (fun j _ _ => hI.ll180 j)
      refine lv_iload hx hb dX3_isSame_32 (lv_at hl 0 rfl) ?_
      refine lv_iload_n hx hb dX3_isSame_34 rfl (lv_at hl 7 rfl) ?_
      refine zr_icmp_ge (tgt := 370) hx hb dX3_isSame_35 (by decide) ⟨by omega, by omega⟩ ⟨by omega, by omega⟩ (fun c_3 => ?_) (fun c_3 => ?_)
      · have c_3 := c_3
        have x_4 : p = n := by omega
        try rw [x_4] at hl
        try rw [x_4] at hC
        try rw [x_4] at hM
        try rw [x_4] at hi_wa
        try rw [x_4] at hcc
        try rw [x_4] at hss
        refine zr_iconst hx hb dX3_isSame_370 ?_
        refine lv_istore (lv' := [(9, .int (zI 0)), (8, .int (zI (lgF (llS da mb dd td n) n))), (7, .int (zI (mxF (llS da mb dd td n) n))), (6, .int (zI (smF (llS da mb dd td n) n))), (5, .int (zI (smF al n))), (4, .ref wa), (3, .ref mx), (2, .int (zI (n : Int))), (0, .ref a), (1, .ref (q 0))]) hx hb dX3_isSame_371 hl (by decide) rfl (fun ls hl => ?_)
        refine zr_iconst hx hb dX3_isSame_373 ?_
        refine lv_istore (lv' := [(10, .int (zI 0)), (9, .int (zI 0)), (8, .int (zI (lgF (llS da mb dd td n) n))), (7, .int (zI (mxF (llS da mb dd td n) n))), (6, .int (zI (smF (llS da mb dd td n) n))), (5, .int (zI (smF al n))), (4, .ref wa), (3, .ref mx), (2, .int (zI (n : Int))), (0, .ref a), (1, .ref (q 0))]) hx hb dX3_isSame_374 hl (by decide) rfl (fun ls hl => ?_)
        have L376_5 : ∀ (kf c : Nat), c ≤ 6 → 6 - c < kf → ∀ (H : Heap) (locs : List Loc) (ls : Array Slot), (va_P D vwCl (wC cI cZ q pa sp al dg1 co da mb dd ah wl lo n td wn) H) → (iA cI H wa 6 (fun c => smF (cwF al co da mb dd td n c) n)) → va_S (fun x : Nat => x ∈ zLC q ∨ s9.heap.size ≤ x) s9.heap H locs → lv_has ls 14 [(10, .int (zI (c : Int))), (9, .int (zI (stF (cwN al co da mb dd td n) c))), (8, .int (zI (lgF (llS da mb dd td n) n))), (7, .int (zI (mxF (llS da mb dd td n) n))), (6, .int (zI (smF (llS da mb dd td n) n))), (5, .int (zI (smF al n))), (4, .ref wa), (3, .ref mx), (2, .int (zI (n : Int))), (0, .ref a), (1, .ref (q 0))] → W p0 l e9 (({ frames := 9, cells := 40, slots := 400, locals := 155 } : Room)) s9 m9 ag9 below meth c9 H locs cc ss Q0 (F0 m9 376 ls []) := by
          intro kf
          induction kf with
          | zero => intro c h1 h2; omega
          | succ kf ih =>
            intro c hi_c hk_c H locs ls  hC hi_wa hS hl 
            have ih_c := ih
            clear ih
            have hkp : ∀ x : Nat, s0 ≤ x → x < s9.heap.size → H[x]? = s9.heap[x]? := fun x h1 h2 => hS.2.1 x h2 (fun h => h.elim (fun h => absurd (hq0 x h) (Nat.not_lt.mpr h1)) (fun h => absurd h (Nat.not_le.mpr h2)))
            have hL := hL0.keep hkp
            have hU : s9.heap.size ≤ H.size := hS.1
            refine lv_iload hx hb dX3_isSame_376 (lv_at hl 0 rfl) ?_
            refine zr_bipush hx hb dX3_isSame_378 (by decide) ?_
            refine zr_icmp_ge (tgt := 422) hx hb dX3_isSame_380 (by decide) ⟨by omega, by omega⟩ ⟨by decide, by decide⟩ (fun c_6 => ?_) (fun c_6 => ?_)
            · have c_6 := c_6
              have x_7 : c = 6 := by omega
              try rw [x_7] at hl
              try rw [x_7] at hC
              try rw [x_7] at hi_wa
              have hst9 := hI.stFe
              refine zr_iconst hx hb dX3_isSame_422 ?_
              refine lv_istore (lv' := [(10, .int (zI 1)), (9, .int (zI (stF (cwN al co da mb dd td n) 6))), (8, .int (zI (lgF (llS da mb dd td n) n))), (7, .int (zI (mxF (llS da mb dd td n) n))), (6, .int (zI (smF (llS da mb dd td n) n))), (5, .int (zI (smF al n))), (4, .ref wa), (3, .ref mx), (2, .int (zI (n : Int))), (0, .ref a), (1, .ref (q 0))]) hx hb dX3_isSame_423 hl (by decide) rfl (fun ls hl => ?_)
              have L425_8 : ∀ (kf g : Nat), g ≤ 4 → 4 - g < kf → ∀ (H : Heap) (locs : List Loc) (ls : Array Slot), (va_P D vwCl (wC cI cZ q pa sp al dg1 co da mb dd ah wl lo n td wn) H) → va_S (fun x : Nat => x ∈ zLC q ∨ s9.heap.size ≤ x) s9.heap H locs → lv_has ls 14 [(10, .int (zI ((g : Int) + 1))), (9, .int (zI (stF (cwN al co da mb dd td n) 6))), (8, .int (zI (lgF (llS da mb dd td n) n))), (7, .int (zI (mxF (llS da mb dd td n) n))), (6, .int (zI (smF (llS da mb dd td n) n))), (5, .int (zI (smF al n))), (4, .ref wa), (3, .ref mx), (2, .int (zI (n : Int))), (0, .ref a), (1, .ref (q 0))] → W p0 l e9 (({ frames := 9, cells := 40, slots := 400, locals := 155 } : Room)) s9 m9 ag9 below meth c9 H locs cc ss Q0 (F0 m9 425 ls []) := by
                intro kf
                induction kf with
                | zero => intro g h1 h2; omega
                | succ kf ih =>
                  intro g hi_g hk_g H locs ls  hC hS hl 
                  have ih_g := ih
                  clear ih
                  have hkp : ∀ x : Nat, s0 ≤ x → x < s9.heap.size → H[x]? = s9.heap[x]? := fun x h1 h2 => hS.2.1 x h2 (fun h => h.elim (fun h => absurd (hq0 x h) (Nat.not_lt.mpr h1)) (fun h => absurd h (Nat.not_le.mpr h2)))
                  have hL := hL0.keep hkp
                  have hU : s9.heap.size ≤ H.size := hS.1
                  refine lv_iload hx hb dX3_isSame_425 (lv_at hl 0 rfl) ?_
                  refine zr_iconst hx hb dX3_isSame_427 ?_
                  refine zr_icmp_ge (tgt := 500) hx hb dX3_isSame_428 (by decide) ⟨by omega, by omega⟩ ⟨by decide, by decide⟩ (fun c_9 => ?_) (fun c_9 => ?_)
                  · have c_9 := c_9
                    have x_10 : g = 4 := by omega
                    try rw [x_10] at hl
                    try rw [x_10] at hC
                    refine lv_aload_n hx hb dX3_isSame_500 rfl (lv_at hl 10 rfl) ?_
                    refine zcallV (ci := 2) (q0 := 0) (cq := (RX2, TX2, 9)) (As := []) (rest := []) ⟨hx, hb, hml, hown, hts⟩ hK (kX2_people l D cI cZ q hN pa sp al dg1 co da mb dd ah wl lo n td wn) (cwV 0 hts gX3_isSame_X2_people rfl rfl rfl (by decide +kernel) ⟨Nat.le_of_ble_eq_true rfl, Nat.le_of_ble_eq_true rfl⟩) hC hS (fun x h => Or.inl h) rfl rfl rfl hl.1 rfl (Nat.le_of_ble_eq_true rfl) dX3_isSame_501 ⟨show cc ≤ 40 from by omega, show ss ≤ 400 from by omega⟩ (fun H locs hC hS hz9 hk9 => ?_)
                    have hkq := fun (x : Nat) (h1 : x < _) (h2 : s0 ≤ x) => hk9 x h1 (fun h => absurd (hq0 x h) (Nat.not_lt.mpr h2))
                    have hU : s9.heap.size ≤ H.size := hS.1
                    have hkp : ∀ x : Nat, s0 ≤ x → x < s9.heap.size → H[x]? = s9.heap[x]? := fun x h1 h2 => hS.2.1 x h2 (fun h => h.elim (fun h => absurd (hq0 x h) (Nat.not_lt.mpr h1)) (fun h => absurd h (Nat.not_le.mpr h2)))
                    have hL := hL0.keep hkp
                    refine W.eq (g2 := F0 m9 504 ls [.int (zI (n : Int))]) rfl ?_
                    refine lv_iload_n hx hb dX3_isSame_504 rfl (lv_at hl 8 rfl) ?_
                    refine zr_icmp_neF (tgt := 585) hx hb rfl dX3_isSame_505 (by decide) ?_
                    refine lv_aload_n hx hb dX3_isSame_508 rfl (lv_at hl 10 rfl) ?_
                    refine zcallV (ci := 2) (q0 := 0) (cq := (RX2, TX2, 9)) (As := []) (rest := []) ⟨hx, hb, hml, hown, hts⟩ hK (kX2_living l D cI cZ q hN pa sp al dg1 co da mb dd ah wl lo n td wn hn hal) (cwV 0 hts gX3_isSame_X2_living rfl rfl rfl (by decide +kernel) ⟨Nat.le_of_ble_eq_true rfl, Nat.le_of_ble_eq_true rfl⟩) hC hS (fun x h => Or.inl h) rfl rfl rfl hl.1 rfl (Nat.le_of_ble_eq_true rfl) dX3_isSame_509 ⟨show cc ≤ 40 from by omega, show ss ≤ 400 from by omega⟩ (fun H locs hC hS hz9 hk9 => ?_)
                    have hkq := fun (x : Nat) (h1 : x < _) (h2 : s0 ≤ x) => hk9 x h1 (fun h => absurd (hq0 x h) (Nat.not_lt.mpr h2))
                    have hU : s9.heap.size ≤ H.size := hS.1
                    have hkp : ∀ x : Nat, s0 ≤ x → x < s9.heap.size → H[x]? = s9.heap[x]? := fun x h1 h2 => hS.2.1 x h2 (fun h => h.elim (fun h => absurd (hq0 x h) (Nat.not_lt.mpr h1)) (fun h => absurd h (Nat.not_le.mpr h2)))
                    have hL := hL0.keep hkp
                    refine W.eq (g2 := F0 m9 512 ls [.int (zI (smF al n))]) rfl ?_
                    refine lv_iload hx hb dX3_isSame_512 (lv_at hl 5 rfl) ?_
                    refine zr_icmp_neF (tgt := 585) hx hb rfl dX3_isSame_514 (by decide) ?_
                    refine lv_aload_n hx hb dX3_isSame_517 rfl (lv_at hl 10 rfl) ?_
                    refine zcallV (ci := 2) (q0 := 0) (cq := (RX2, TX2, 9)) (As := []) (rest := []) ⟨hx, hb, hml, hown, hts⟩ hK (kX2_day l D cI cZ q hN pa sp al dg1 co da mb dd ah wl lo n td wn) (cwV 0 hts gX3_isSame_X2_day rfl rfl rfl (by decide +kernel) ⟨Nat.le_of_ble_eq_true rfl, Nat.le_of_ble_eq_true rfl⟩) hC hS (fun x h => Or.inl h) rfl rfl rfl hl.1 rfl (Nat.le_of_ble_eq_true rfl) dX3_isSame_518 ⟨show cc ≤ 40 from by omega, show ss ≤ 400 from by omega⟩ (fun H locs hC hS hz9 hk9 => ?_)
                    have hkq := fun (x : Nat) (h1 : x < _) (h2 : s0 ≤ x) => hk9 x h1 (fun h => absurd (hq0 x h) (Nat.not_lt.mpr h2))
                    have hU : s9.heap.size ≤ H.size := hS.1
                    have hkp : ∀ x : Nat, s0 ≤ x → x < s9.heap.size → H[x]? = s9.heap[x]? := fun x h1 h2 => hS.2.1 x h2 (fun h => h.elim (fun h => absurd (hq0 x h) (Nat.not_lt.mpr h1)) (fun h => absurd h (Nat.not_le.mpr h2)))
                    have hL := hL0.keep hkp
                    refine W.eq (g2 := F0 m9 521 ls [.int (zI td)]) rfl ?_
                    refine lv_aload_n hx hb dX3_isSame_521 rfl (lv_at hl 9 rfl) ?_
                    refine va_get (D := D) (ci := 3) (v := .int (zI td)) (C := RX3) (T := TX3) (N := 5) hx hb hts hin3 hown hK hL.obj 0 rfl rfl 0 (by decide) (hts (.fieldLink RX3 38 "MourningRibbonsLaw$Sim" "day" "I") (by decide +kernel)) (fun _ h9 => h9) rfl dX3_isSame_522 ?_
                    refine zr_icmp_neF (tgt := 585) hx hb rfl dX3_isSame_525 (by decide) ?_
                    refine lv_aload_n hx hb dX3_isSame_528 rfl (lv_at hl 10 rfl) ?_
                    refine zcallV (ci := 2) (q0 := 0) (cq := (RX2, TX2, 9)) (As := []) (rest := []) ⟨hx, hb, hml, hown, hts⟩ hK (kX2_strictest l D cI cZ q hN pa sp al dg1 co da mb dd ah wl lo n td wn hn hco hda hmb hdd htd) (cwV 0 hts gX3_isSame_X2_strictest rfl rfl rfl (by decide +kernel) ⟨Nat.le_of_ble_eq_true rfl, Nat.le_of_ble_eq_true rfl⟩) hC hS (fun x h => Or.inl h) rfl rfl rfl hl.1 rfl (Nat.le_of_ble_eq_true rfl) dX3_isSame_529 ⟨show cc ≤ 40 from by omega, show ss ≤ 400 from by omega⟩ (fun H locs hC hS hz9 hk9 => ?_)
                    have hkq := fun (x : Nat) (h1 : x < _) (h2 : s0 ≤ x) => hk9 x h1 (fun h => absurd (hq0 x h) (Nat.not_lt.mpr h2))
                    have hU : s9.heap.size ≤ H.size := hS.1
                    have hkp : ∀ x : Nat, s0 ≤ x → x < s9.heap.size → H[x]? = s9.heap[x]? := fun x h1 h2 => hS.2.1 x h2 (fun h => h.elim (fun h => absurd (hq0 x h) (Nat.not_lt.mpr h1)) (fun h => absurd h (Nat.not_le.mpr h2)))
                    have hL := hL0.keep hkp
                    refine W.eq (g2 := F0 m9 532 ls [.int (zI (mxF (caZ co da mb dd td n) n))]) rfl ?_
                    refine lv_iload hx hb dX3_isSame_532 (lv_at hl 1 rfl) ?_
                    refine zr_icmp_neF (tgt := 585) hx hb hst9.symm dX3_isSame_534 (by decide) ?_
                    refine lv_aload_n hx hb dX3_isSame_537 rfl (lv_at hl 10 rfl) ?_
                    refine zcallV (ci := 2) (q0 := 0) (cq := (RX2, TX2, 9)) (As := []) (rest := []) ⟨hx, hb, hml, hown, hts⟩ hK (kX2_longestMourner l D cI cZ q hN pa sp al dg1 co da mb dd ah wl lo n td wn hn hda hmb hdd htd) (cwV 0 hts gX3_isSame_X2_longestMourner rfl rfl rfl (by decide +kernel) ⟨Nat.le_of_ble_eq_true rfl, Nat.le_of_ble_eq_true rfl⟩) hC hS (fun x h => Or.inl h) rfl rfl rfl hl.1 rfl (Nat.le_of_ble_eq_true rfl) dX3_isSame_538 ⟨show cc ≤ 40 from by omega, show ss ≤ 400 from by omega⟩ (fun H locs hC hS hz9 hk9 => ?_)
                    have hkq := fun (x : Nat) (h1 : x < _) (h2 : s0 ≤ x) => hk9 x h1 (fun h => absurd (hq0 x h) (Nat.not_lt.mpr h2))
                    have hU : s9.heap.size ≤ H.size := hS.1
                    have hkp : ∀ x : Nat, s0 ≤ x → x < s9.heap.size → H[x]? = s9.heap[x]? := fun x h1 h2 => hS.2.1 x h2 (fun h => h.elim (fun h => absurd (hq0 x h) (Nat.not_lt.mpr h1)) (fun h => absurd h (Nat.not_le.mpr h2)))
                    have hL := hL0.keep hkp
                    refine W.eq (g2 := F0 m9 541 ls [.int (zI (lgF (llS da mb dd td n) n))]) rfl ?_
                    refine lv_iload hx hb dX3_isSame_541 (lv_at hl 2 rfl) ?_
                    refine zr_icmp_neF (tgt := 585) hx hb rfl dX3_isSame_543 (by decide) ?_
                    refine lv_aload_n hx hb dX3_isSame_546 rfl (lv_at hl 10 rfl) ?_
                    refine zcallV (ci := 2) (q0 := 0) (cq := (RX2, TX2, 9)) (As := []) (rest := []) ⟨hx, hb, hml, hown, hts⟩ hK (kX2_daysWorn l D cI cZ q hN pa sp al dg1 co da mb dd ah wl lo n td wn) (cwV 0 hts gX3_isSame_X2_daysWorn rfl rfl rfl (by decide +kernel) ⟨Nat.le_of_ble_eq_true rfl, Nat.le_of_ble_eq_true rfl⟩) hC hS (fun x h => Or.inl h) rfl rfl rfl hl.1 rfl (Nat.le_of_ble_eq_true rfl) dX3_isSame_547 ⟨show cc ≤ 40 from by omega, show ss ≤ 400 from by omega⟩ (fun H locs hC hS hz9 hk9 => ?_)
                    have hkq := fun (x : Nat) (h1 : x < _) (h2 : s0 ≤ x) => hk9 x h1 (fun h => absurd (hq0 x h) (Nat.not_lt.mpr h2))
                    have hU : s9.heap.size ≤ H.size := hS.1
                    have hkp : ∀ x : Nat, s0 ≤ x → x < s9.heap.size → H[x]? = s9.heap[x]? := fun x h1 h2 => hS.2.1 x h2 (fun h => h.elim (fun h => absurd (hq0 x h) (Nat.not_lt.mpr h1)) (fun h => absurd h (Nat.not_le.mpr h2)))
                    have hL := hL0.keep hkp
                    refine W.eq (g2 := F0 m9 550 ls [.int (zI wn)]) rfl ?_
                    refine lv_aload_n hx hb dX3_isSame_550 rfl (lv_at hl 9 rfl) ?_
                    refine va_get (D := D) (ci := 3) (v := .int (zI wn)) (C := RX3) (T := TX3) (N := 5) hx hb hts hin3 hown hK hL.obj 0 rfl rfl 1 (by decide) (hts (.fieldLink RX3 61 "MourningRibbonsLaw$Sim" "worn" "I") (by decide +kernel)) (fun _ h9 => h9) rfl dX3_isSame_551 ?_
                    refine zr_icmp_neF (tgt := 585) hx hb rfl dX3_isSame_554 (by decide) ?_
                    refine lv_aload_n hx hb dX3_isSame_557 rfl (lv_at hl 10 rfl) ?_
                    refine W.base ?_
                    refine zcallDV (ci := 2) (q0 := 0) (cq := (RX2, TX2, 9)) (As := []) (rest := []) hd0 ⟨hx, hb, hml, hown, dr_words hts _⟩ hK (kX2_meanDaysLeft l D cI cZ q hN pa sp al dg1 co da mb dd ah wl lo n td wn hn hal hda hmb hdd htd) (cwV 0 (dr_words hts _) gX3_isSame_X2_meanDaysLeft rfl rfl rfl (by decide +kernel) ⟨Nat.le_of_ble_eq_true rfl, Nat.le_of_ble_eq_true rfl⟩) hC hS (fun x h => Or.inl h) rfl rfl rfl hl.1 rfl (Nat.le_of_ble_eq_true rfl) dX3_isSame_558 ⟨show cc ≤ 40 from by omega, show ss ≤ 400 from by omega⟩ (fun r1 d1 H locs hd1 ha1 hC hS _ _ => ?_)
                    have hlv := smF_bd (f := al) (k := n) (B := 1) hal
                    refine lv_iload hx hb dX3_isSame_561 (lv_at hl 5 rfl) ?_
                    refine zr_if_ne (tgt := 570) hx hb dX3_isSame_563 (by decide) ⟨by omega, by omega⟩ (fun cz => ?_) (fun cz => ?_)
                    · have hnn := n64_q (x := zI (smF (llS da mb dd td n) n)) (zI_ne0 cz ⟨by omega, by omega⟩)
                      rw [dMean_y cz] at ha1
                      have hr1 := alike_num ha1 hnn
                      subst hr1
                      refine lv_iload hx hb dX3_isSame_570 (lv_at hl 4 rfl) ?_
                      refine lv_i2d hx hb dX3_isSame_572 ?_
                      refine lv_iload hx hb dX3_isSame_573 (lv_at hl 5 rfl) ?_
                      refine lv_i2d hx hb dX3_isSame_575 ?_
                      refine lv_ddiv hx hb dX3_isSame_576 hnn ?_
                      refine lv_dcmp hx hb dX3_isSame_577 ?_
                      rw [dcmp_same hnn]
                      refine lv_if_ne (tgt := 585) hx hb dX3_isSame_578 (by decide) (fun h => absurd rfl h) (fun _ => ?_)
                      refine zr_iconst hx hb dX3_isSame_581 ?_
                      refine lv_goto (tgt := 586) hx hb dX3_isSame_582 (by decide) ?_
                      rw [hQ0]
                      exact W.endD hd1 (zgret_z (z := 1) hx hb hr hlocks (zn_bool ⟨by decide, by decide⟩) rfl rfl hS dX3_isSame_586 (by omega) (by omega))
                    · have hnn := n64_0
                      rw [dMean_n cz] at ha1
                      have hr1 := alike_num ha1 hnn
                      subst hr1
                      refine lv_dconst0 hx hb dX3_isSame_566 ?_
                      refine lv_goto (tgt := 577) hx hb dX3_isSame_567 (by decide) ?_
                      refine lv_dcmp hx hb dX3_isSame_577 ?_
                      rw [dcmp_same hnn]
                      refine lv_if_ne (tgt := 585) hx hb dX3_isSame_578 (by decide) (fun h => absurd rfl h) (fun _ => ?_)
                      refine zr_iconst hx hb dX3_isSame_581 ?_
                      refine lv_goto (tgt := 586) hx hb dX3_isSame_582 (by decide) ?_
                      rw [hQ0]
                      exact W.endD hd1 (zgret_z (z := 1) hx hb hr hlocks (zn_bool ⟨by decide, by decide⟩) rfl rfl hS dX3_isSame_586 (by omega) (by omega))
                  · have c_9 := c_9
                    refine zr_iconst hx hb dX3_isSame_431 ?_
                    refine lv_istore (lv' := [(11, .int (zI 0)), (10, .int (zI ((g : Int) + 1))), (9, .int (zI (stF (cwN al co da mb dd td n) 6))), (8, .int (zI (lgF (llS da mb dd td n) n))), (7, .int (zI (mxF (llS da mb dd td n) n))), (6, .int (zI (smF (llS da mb dd td n) n))), (5, .int (zI (smF al n))), (4, .ref wa), (3, .ref mx), (2, .int (zI (n : Int))), (0, .ref a), (1, .ref (q 0))]) hx hb dX3_isSame_432 hl (by decide) rfl (fun ls hl => ?_)
                    have L434_11 : ∀ (kf s : Nat), s ≤ 3 → 3 - s < kf → ∀ (H : Heap) (locs : List Loc) (ls : Array Slot), (va_P D vwCl (wC cI cZ q pa sp al dg1 co da mb dd ah wl lo n td wn) H) → va_S (fun x : Nat => x ∈ zLC q ∨ s9.heap.size ≤ x) s9.heap H locs → lv_has ls 14 [(11, .int (zI (s : Int))), (10, .int (zI ((g : Int) + 1))), (9, .int (zI (stF (cwN al co da mb dd td n) 6))), (8, .int (zI (lgF (llS da mb dd td n) n))), (7, .int (zI (mxF (llS da mb dd td n) n))), (6, .int (zI (smF (llS da mb dd td n) n))), (5, .int (zI (smF al n))), (4, .ref wa), (3, .ref mx), (2, .int (zI (n : Int))), (0, .ref a), (1, .ref (q 0))] → W p0 l e9 (({ frames := 9, cells := 40, slots := 400, locals := 155 } : Room)) s9 m9 ag9 below meth c9 H locs cc ss Q0 (F0 m9 434 ls []) := by
                      intro kf
                      induction kf with
                      | zero => intro s h1 h2; omega
                      | succ kf ih =>
                        intro s hi_s hk_s H locs ls  hC hS hl 
                        have ih_s := ih
                        clear ih
                        have hkp : ∀ x : Nat, s0 ≤ x → x < s9.heap.size → H[x]? = s9.heap[x]? := fun x h1 h2 => hS.2.1 x h2 (fun h => h.elim (fun h => absurd (hq0 x h) (Nat.not_lt.mpr h1)) (fun h => absurd h (Nat.not_le.mpr h2)))
                        have hL := hL0.keep hkp
                        have hU : s9.heap.size ≤ H.size := hS.1
                        refine lv_iload hx hb dX3_isSame_434 (lv_at hl 0 rfl) ?_
                        refine zr_iconst hx hb dX3_isSame_436 ?_
                        refine zr_icmp_ge (tgt := 494) hx hb dX3_isSame_437 (by decide) ⟨by omega, by omega⟩ ⟨by decide, by decide⟩ (fun c_12 => ?_) (fun c_12 => ?_)
                        · have c_12 := c_12
                          have x_13 : s = 3 := by omega
                          try rw [x_13] at hl
                          try rw [x_13] at hC
                          refine zr_iinc (v := ((g : Int) + 1) + 1) (lv' := [(10, .int (zI (((g : Int) + 1) + 1))), (11, .int (zI 3)), (9, .int (zI (stF (cwN al co da mb dd td n) 6))), (8, .int (zI (lgF (llS da mb dd td n) n))), (7, .int (zI (mxF (llS da mb dd td n) n))), (6, .int (zI (smF (llS da mb dd td n) n))), (5, .int (zI (smF al n))), (4, .ref wa), (3, .ref mx), (2, .int (zI (n : Int))), (0, .ref a), (1, .ref (q 0))]) hx hb dX3_isSame_494 hl (k := 1) rfl rfl (by decide) rfl (fun ls hl => ?_)
                          refine lv_goto (tgt := 425) hx hb dX3_isSame_497 (by decide) ?_
                          have hl := lv_sub hl (l' := [(10, .int (zI (((g : Int) + 1) + 1))), (9, .int (zI (stF (cwN al co da mb dd td n) 6))), (8, .int (zI (lgF (llS da mb dd td n) n))), (7, .int (zI (mxF (llS da mb dd td n) n))), (6, .int (zI (smF (llS da mb dd td n) n))), (5, .int (zI (smF al n))), (4, .ref wa), (3, .ref mx), (2, .int (zI (n : Int))), (0, .ref a), (1, .ref (q 0))]) [0, 2, 3, 4, 5, 6, 7, 8, 9, 10, 11] rfl
                          have e_14 : ((((g + 1) : Nat) : Int) + 1 : Int) = ((g : Int) + 1) + 1 := by omega
                          have hl : lv_has ls 14 [(10, .int (zI ((((g + 1) : Nat) : Int) + 1))), (9, .int (zI (stF (cwN al co da mb dd td n) 6))), (8, .int (zI (lgF (llS da mb dd td n) n))), (7, .int (zI (mxF (llS da mb dd td n) n))), (6, .int (zI (smF (llS da mb dd td n) n))), (5, .int (zI (smF al n))), (4, .ref wa), (3, .ref mx), (2, .int (zI (n : Int))), (0, .ref a), (1, .ref (q 0))] := by rw [e_14]; exact hl
                          exact ih_g (g + 1) (by omega) (by omega) _ _ _ hC hS hl 
                        · have c_12 := c_12
                          refine lv_aload_n hx hb dX3_isSame_440 rfl (lv_at hl 11 rfl) ?_
                          refine lv_iload hx hb dX3_isSame_441 (lv_at hl 1 rfl) ?_
                          refine lv_iload hx hb dX3_isSame_443 (lv_at hl 0 rfl) ?_
                          refine zcallV (ci := 2) (q0 := 0) (cq := (RX2, TX2, 9)) (As := [.int (zI ((g : Int) + 1)), .int (zI (s : Int))]) (rest := []) ⟨hx, hb, hml, hown, hts⟩ hK (kX2_stageColourok l D cI cZ q hN pa sp al dg1 co da mb dd ah wl lo n td wn hco ((g : Int) + 1) (s : Int) (by omega) (by omega)) (cwV 2 hts gX3_isSame_X2_stageColour rfl rfl rfl (by decide +kernel) ⟨Nat.le_of_ble_eq_true rfl, Nat.le_of_ble_eq_true rfl⟩) hC hS (fun x h => Or.inl h) rfl rfl rfl hl.1 rfl (Nat.le_of_ble_eq_true rfl) dX3_isSame_445 ⟨show cc ≤ 40 from by omega, show ss ≤ 400 from by omega⟩ (fun H locs hC hS hz9 hk9 => ?_)
                          have hkq := fun (x : Nat) (h1 : x < _) (h2 : s0 ≤ x) => hk9 x h1 (fun h => absurd (hq0 x h) (Nat.not_lt.mpr h2))
                          have hU : s9.heap.size ≤ H.size := hS.1
                          have hkp : ∀ x : Nat, s0 ≤ x → x < s9.heap.size → H[x]? = s9.heap[x]? := fun x h1 h2 => hS.2.1 x h2 (fun h => h.elim (fun h => absurd (hq0 x h) (Nat.not_lt.mpr h1)) (fun h => absurd h (Nat.not_le.mpr h2)))
                          have hL := hL0.keep hkp
                          refine W.eq (g2 := F0 m9 448 ls [.int (zI (co (16 * 12 + (((g : Int) + 1) - 1) * 3 + (s : Int))))]) rfl ?_
                          refine lv_aload_n hx hb dX3_isSame_448 rfl (lv_at hl 10 rfl) ?_
                          refine va_get (D := D) (ci := 3) (v := .ref ac) (C := RX3) (T := TX3) (N := 5) hx hb hts hin3 hown hK hL.obj 0 rfl rfl 3 (by decide) (hts (.fieldLink RX3 17 "MourningRibbonsLaw$Sim" "code" "[[[I") (by decide +kernel)) (fun _ h9 => h9) rfl dX3_isSame_449 ?_
                          refine lv_iload hx hb dX3_isSame_452 (lv_at hl 1 rfl) ?_
                          refine zs_ald2 (v := .ref (rc ((g : Int) + 1))) (i := (g : Int) + 1) hx hb hQ hL.cod (by omega) (by omega) (by decide) rfl dX3_isSame_454 ?_
                          refine lv_iload hx hb dX3_isSame_455 (lv_at hl 0 rfl) ?_
                          refine zs_ald1 (v := .ref (rr ((g : Int) + 1) (s : Int))) (i := (s : Int)) hx hb hQ (hL.cds ((g : Int) + 1) (by omega) (by omega)) (by omega) (by omega) (by decide) rfl dX3_isSame_457 ?_
                          refine zr_iconst hx hb dX3_isSame_458 ?_
                          refine zs_ild (v := co (192 + ((((g : Int) + 1) - 1) * 3 + (s : Int)))) (i := 0) hx hb hQ (hL.stg ((g : Int) + 1) (s : Int) (by omega) (by omega) (by omega) (by omega)) (by decide) (by decide) (by decide) rfl dX3_isSame_459 ?_
                          have b_15 := hco (192 + ((((g : Int) + 1) - 1) * 3 + (s : Int)))
                          refine zr_icmp_neF (tgt := 486) hx hb (congrArg co (by omega)) dX3_isSame_460 (by decide) ?_
                          refine lv_aload_n hx hb dX3_isSame_463 rfl (lv_at hl 11 rfl) ?_
                          refine lv_iload hx hb dX3_isSame_464 (lv_at hl 1 rfl) ?_
                          refine lv_iload hx hb dX3_isSame_466 (lv_at hl 0 rfl) ?_
                          refine zcallV (ci := 2) (q0 := 0) (cq := (RX2, TX2, 9)) (As := [.int (zI ((g : Int) + 1)), .int (zI (s : Int))]) (rest := []) ⟨hx, hb, hml, hown, hts⟩ hK (kX2_stageDaysok l D cI cZ q hN pa sp al dg1 co da mb dd ah wl lo n td wn hda ((g : Int) + 1) (s : Int) (by omega) (by omega)) (cwV 2 hts gX3_isSame_X2_stageDays rfl rfl rfl (by decide +kernel) ⟨Nat.le_of_ble_eq_true rfl, Nat.le_of_ble_eq_true rfl⟩) hC hS (fun x h => Or.inl h) rfl rfl rfl hl.1 rfl (Nat.le_of_ble_eq_true rfl) dX3_isSame_468 ⟨show cc ≤ 40 from by omega, show ss ≤ 400 from by omega⟩ (fun H locs hC hS hz9 hk9 => ?_)
                          have hkq := fun (x : Nat) (h1 : x < _) (h2 : s0 ≤ x) => hk9 x h1 (fun h => absurd (hq0 x h) (Nat.not_lt.mpr h2))
                          have hU : s9.heap.size ≤ H.size := hS.1
                          have hkp : ∀ x : Nat, s0 ≤ x → x < s9.heap.size → H[x]? = s9.heap[x]? := fun x h1 h2 => hS.2.1 x h2 (fun h => h.elim (fun h => absurd (hq0 x h) (Nat.not_lt.mpr h1)) (fun h => absurd h (Nat.not_le.mpr h2)))
                          have hL := hL0.keep hkp
                          refine W.eq (g2 := F0 m9 471 ls [.int (zI (da (16 * 12 + (((g : Int) + 1) - 1) * 3 + (s : Int))))]) rfl ?_
                          refine lv_aload_n hx hb dX3_isSame_471 rfl (lv_at hl 10 rfl) ?_
                          refine va_get (D := D) (ci := 3) (v := .ref ac) (C := RX3) (T := TX3) (N := 5) hx hb hts hin3 hown hK hL.obj 0 rfl rfl 3 (by decide) (hts (.fieldLink RX3 17 "MourningRibbonsLaw$Sim" "code" "[[[I") (by decide +kernel)) (fun _ h9 => h9) rfl dX3_isSame_472 ?_
                          refine lv_iload hx hb dX3_isSame_475 (lv_at hl 1 rfl) ?_
                          refine zs_ald2 (v := .ref (rc ((g : Int) + 1))) (i := (g : Int) + 1) hx hb hQ hL.cod (by omega) (by omega) (by decide) rfl dX3_isSame_477 ?_
                          refine lv_iload hx hb dX3_isSame_478 (lv_at hl 0 rfl) ?_
                          refine zs_ald1 (v := .ref (rr ((g : Int) + 1) (s : Int))) (i := (s : Int)) hx hb hQ (hL.cds ((g : Int) + 1) (by omega) (by omega)) (by omega) (by omega) (by decide) rfl dX3_isSame_480 ?_
                          refine zr_iconst hx hb dX3_isSame_481 ?_
                          refine zs_ild (v := da (192 + ((((g : Int) + 1) - 1) * 3 + (s : Int)))) (i := 1) hx hb hQ (hL.stg ((g : Int) + 1) (s : Int) (by omega) (by omega) (by omega) (by omega)) (by decide) (by decide) (by decide) rfl dX3_isSame_482 ?_
                          have b_16 := hda (192 + ((((g : Int) + 1) - 1) * 3 + (s : Int)))
                          refine zr_icmp_eqT (tgt := 488) hx hb (congrArg da (by omega)) dX3_isSame_483 (by decide) ?_
                          refine zr_iinc (v := (s : Int) + 1) (lv' := [(11, .int (zI ((s : Int) + 1))), (10, .int (zI ((g : Int) + 1))), (9, .int (zI (stF (cwN al co da mb dd td n) 6))), (8, .int (zI (lgF (llS da mb dd td n) n))), (7, .int (zI (mxF (llS da mb dd td n) n))), (6, .int (zI (smF (llS da mb dd td n) n))), (5, .int (zI (smF al n))), (4, .ref wa), (3, .ref mx), (2, .int (zI (n : Int))), (0, .ref a), (1, .ref (q 0))]) hx hb dX3_isSame_488 hl (k := 0) rfl rfl (by decide) rfl (fun ls hl => ?_)
                          refine lv_goto (tgt := 434) hx hb dX3_isSame_491 (by decide) ?_
                          have hl := lv_sub hl (l' := [(11, .int (zI ((s : Int) + 1))), (10, .int (zI ((g : Int) + 1))), (9, .int (zI (stF (cwN al co da mb dd td n) 6))), (8, .int (zI (lgF (llS da mb dd td n) n))), (7, .int (zI (mxF (llS da mb dd td n) n))), (6, .int (zI (smF (llS da mb dd td n) n))), (5, .int (zI (smF al n))), (4, .ref wa), (3, .ref mx), (2, .int (zI (n : Int))), (0, .ref a), (1, .ref (q 0))]) [0, 1, 2, 3, 4, 5, 6, 7, 8, 9, 10, 11] rfl
                          have e_17 : ((((s + 1) : Nat) : Int) : Int) = (s : Int) + 1 := by omega
                          have hl : lv_has ls 14 [(11, .int (zI (((s + 1) : Nat) : Int))), (10, .int (zI ((g : Int) + 1))), (9, .int (zI (stF (cwN al co da mb dd td n) 6))), (8, .int (zI (lgF (llS da mb dd td n) n))), (7, .int (zI (mxF (llS da mb dd td n) n))), (6, .int (zI (smF (llS da mb dd td n) n))), (5, .int (zI (smF al n))), (4, .ref wa), (3, .ref mx), (2, .int (zI (n : Int))), (0, .ref a), (1, .ref (q 0))] := by rw [e_17]; exact hl
                          exact ih_s (s + 1) (by omega) (by omega) _ _ _ hC hS hl 
                    have hl := lv_sub hl (l' := [(11, .int (zI 0)), (10, .int (zI ((g : Int) + 1))), (9, .int (zI (stF (cwN al co da mb dd td n) 6))), (8, .int (zI (lgF (llS da mb dd td n) n))), (7, .int (zI (mxF (llS da mb dd td n) n))), (6, .int (zI (smF (llS da mb dd td n) n))), (5, .int (zI (smF al n))), (4, .ref wa), (3, .ref mx), (2, .int (zI (n : Int))), (0, .ref a), (1, .ref (q 0))]) [0, 1, 2, 3, 4, 5, 6, 7, 8, 9, 10, 11] rfl
                    exact L434_11 (3 + 1) 0 (Nat.zero_le _) (by omega) _ _ _ hC hS hl 
              have hl := lv_sub hl (l' := [(10, .int (zI 1)), (9, .int (zI (stF (cwN al co da mb dd td n) 6))), (8, .int (zI (lgF (llS da mb dd td n) n))), (7, .int (zI (mxF (llS da mb dd td n) n))), (6, .int (zI (smF (llS da mb dd td n) n))), (5, .int (zI (smF al n))), (4, .ref wa), (3, .ref mx), (2, .int (zI (n : Int))), (0, .ref a), (1, .ref (q 0))]) [0, 1, 2, 3, 4, 5, 6, 7, 8, 9, 10] rfl
              exact L425_8 (4 + 1) 0 (Nat.zero_le _) (by omega) _ _ _ hC hS hl 
            · have c_6 := c_6
              refine lv_aload_n hx hb dX3_isSame_383 rfl (lv_at hl 10 rfl) ?_
              refine lv_iload hx hb dX3_isSame_384 (lv_at hl 0 rfl) ?_
              refine zcallV (ci := 2) (q0 := 0) (cq := (RX2, TX2, 9)) (As := [.int (zI (c : Int))]) (rest := []) ⟨hx, hb, hml, hown, hts⟩ hK (kX2_wearingok l D cI cZ q hN pa sp al dg1 co da mb dd ah wl lo n td wn hn hco hda hmb hdd htd hal (c : Int) (by omega)) (cwV 1 hts gX3_isSame_X2_wearing rfl rfl rfl (by decide +kernel) ⟨Nat.le_of_ble_eq_true rfl, Nat.le_of_ble_eq_true rfl⟩) hC hS (fun x h => Or.inl h) rfl rfl rfl hl.1 rfl (Nat.le_of_ble_eq_true rfl) dX3_isSame_386 ⟨show cc ≤ 40 from by omega, show ss ≤ 400 from by omega⟩ (fun H locs hC hS hz9 hk9 => ?_)
              have hkq := fun (x : Nat) (h1 : x < _) (h2 : s0 ≤ x) => hk9 x h1 (fun h => absurd (hq0 x h) (Nat.not_lt.mpr h2))
              have hi_wa := vA.kept hi_wa (hkq _ (vA.lt hi_wa) (by omega))
              have hU : s9.heap.size ≤ H.size := hS.1
              have hkp : ∀ x : Nat, s0 ≤ x → x < s9.heap.size → H[x]? = s9.heap[x]? := fun x h1 h2 => hS.2.1 x h2 (fun h => h.elim (fun h => absurd (hq0 x h) (Nat.not_lt.mpr h1)) (fun h => absurd h (Nat.not_le.mpr h2)))
              have hL := hL0.keep hkp
              refine W.eq (g2 := F0 m9 389 ls [.int (zI (smF (cwF al co da mb dd td n (c : Int)) n))]) rfl ?_
              refine lv_aload hx hb dX3_isSame_389 (lv_at hl 6 rfl) ?_
              refine lv_iload hx hb dX3_isSame_391 (lv_at hl 0 rfl) ?_
              refine zs_ild (v := cwN al co da mb dd td n (c : Int)) (i := (c : Int)) hx hb hQ hi_wa (by omega) (by omega) (by decide) rfl dX3_isSame_393 ?_
              have b_18 := cwN_rg al co da mb dd td n (c : Int)
              refine zr_icmp_eqT (tgt := 399) hx hb rfl dX3_isSame_394 (by decide) ?_
              refine lv_iload hx hb dX3_isSame_399 (lv_at hl 0 rfl) ?_
              refine zr_if_le (tgt := 416) hx hb dX3_isSame_401 (by decide) ⟨by omega, by omega⟩ (fun c_19 => ?_) (fun c_19 => ?_)
              · have c_19 := c_19
                refine zr_iinc (v := (c : Int) + 1) (lv' := [(10, .int (zI ((c : Int) + 1))), (9, .int (zI (stF (cwN al co da mb dd td n) c))), (8, .int (zI (lgF (llS da mb dd td n) n))), (7, .int (zI (mxF (llS da mb dd td n) n))), (6, .int (zI (smF (llS da mb dd td n) n))), (5, .int (zI (smF al n))), (4, .ref wa), (3, .ref mx), (2, .int (zI (n : Int))), (0, .ref a), (1, .ref (q 0))]) hx hb dX3_isSame_416 hl (k := 0) rfl rfl (by decide) rfl (fun ls hl => ?_)
                refine lv_goto (tgt := 376) hx hb dX3_isSame_419 (by decide) ?_
                have hl := lv_sub hl (l' := [(10, .int (zI ((c : Int) + 1))), (9, .int (zI (stF (cwN al co da mb dd td n) c))), (8, .int (zI (lgF (llS da mb dd td n) n))), (7, .int (zI (mxF (llS da mb dd td n) n))), (6, .int (zI (smF (llS da mb dd td n) n))), (5, .int (zI (smF al n))), (4, .ref wa), (3, .ref mx), (2, .int (zI (n : Int))), (0, .ref a), (1, .ref (q 0))]) [0, 1, 2, 3, 4, 5, 6, 7, 8, 9, 10] rfl
                have e_20 : ((((c + 1) : Nat) : Int) : Int) = (c : Int) + 1 := by omega
                have e_21 : (stF (cwN al co da mb dd td n) (c + 1) : Int) = stF (cwN al co da mb dd td n) c := by first | exact stF_y (by omega) | exact stF_n (by omega)
                have hl : lv_has ls 14 [(10, .int (zI (((c + 1) : Nat) : Int))), (9, .int (zI (stF (cwN al co da mb dd td n) (c + 1)))), (8, .int (zI (lgF (llS da mb dd td n) n))), (7, .int (zI (mxF (llS da mb dd td n) n))), (6, .int (zI (smF (llS da mb dd td n) n))), (5, .int (zI (smF al n))), (4, .ref wa), (3, .ref mx), (2, .int (zI (n : Int))), (0, .ref a), (1, .ref (q 0))] := by rw [e_20, e_21]; exact hl
                exact ih_c (c + 1) (by omega) (by omega) _ _ _ hC hi_wa hS hl 
              · have c_19 := c_19
                refine lv_aload hx hb dX3_isSame_404 (lv_at hl 6 rfl) ?_
                refine lv_iload hx hb dX3_isSame_406 (lv_at hl 0 rfl) ?_
                refine zs_ild (v := cwN al co da mb dd td n (c : Int)) (i := (c : Int)) hx hb hQ hi_wa (by omega) (by omega) (by decide) rfl dX3_isSame_408 ?_
                have b_22 := cwN_rg al co da mb dd td n (c : Int)
                refine zr_if_le (tgt := 416) hx hb dX3_isSame_409 (by decide) ⟨by omega, by omega⟩ (fun c_23 => ?_) (fun c_23 => ?_)
                · have c_23 := c_23
                  refine zr_iinc (v := (c : Int) + 1) (lv' := [(10, .int (zI ((c : Int) + 1))), (9, .int (zI (stF (cwN al co da mb dd td n) c))), (8, .int (zI (lgF (llS da mb dd td n) n))), (7, .int (zI (mxF (llS da mb dd td n) n))), (6, .int (zI (smF (llS da mb dd td n) n))), (5, .int (zI (smF al n))), (4, .ref wa), (3, .ref mx), (2, .int (zI (n : Int))), (0, .ref a), (1, .ref (q 0))]) hx hb dX3_isSame_416 hl (k := 0) rfl rfl (by decide) rfl (fun ls hl => ?_)
                  refine lv_goto (tgt := 376) hx hb dX3_isSame_419 (by decide) ?_
                  have hl := lv_sub hl (l' := [(10, .int (zI ((c : Int) + 1))), (9, .int (zI (stF (cwN al co da mb dd td n) c))), (8, .int (zI (lgF (llS da mb dd td n) n))), (7, .int (zI (mxF (llS da mb dd td n) n))), (6, .int (zI (smF (llS da mb dd td n) n))), (5, .int (zI (smF al n))), (4, .ref wa), (3, .ref mx), (2, .int (zI (n : Int))), (0, .ref a), (1, .ref (q 0))]) [0, 1, 2, 3, 4, 5, 6, 7, 8, 9, 10] rfl
                  have e_24 : ((((c + 1) : Nat) : Int) : Int) = (c : Int) + 1 := by omega
                  have e_25 : (stF (cwN al co da mb dd td n) (c + 1) : Int) = stF (cwN al co da mb dd td n) c := by first | exact stF_y (by omega) | exact stF_n (by omega)
                  have hl : lv_has ls 14 [(10, .int (zI (((c + 1) : Nat) : Int))), (9, .int (zI (stF (cwN al co da mb dd td n) (c + 1)))), (8, .int (zI (lgF (llS da mb dd td n) n))), (7, .int (zI (mxF (llS da mb dd td n) n))), (6, .int (zI (smF (llS da mb dd td n) n))), (5, .int (zI (smF al n))), (4, .ref wa), (3, .ref mx), (2, .int (zI (n : Int))), (0, .ref a), (1, .ref (q 0))] := by rw [e_24, e_25]; exact hl
                  exact ih_c (c + 1) (by omega) (by omega) _ _ _ hC hi_wa hS hl 
                · have c_23 := c_23
                  refine lv_iload hx hb dX3_isSame_412 (lv_at hl 0 rfl) ?_
                  refine lv_istore (lv' := [(9, .int (zI (c : Int))), (10, .int (zI (c : Int))), (8, .int (zI (lgF (llS da mb dd td n) n))), (7, .int (zI (mxF (llS da mb dd td n) n))), (6, .int (zI (smF (llS da mb dd td n) n))), (5, .int (zI (smF al n))), (4, .ref wa), (3, .ref mx), (2, .int (zI (n : Int))), (0, .ref a), (1, .ref (q 0))]) hx hb dX3_isSame_414 hl (by decide) rfl (fun ls hl => ?_)
                  refine zr_iinc (v := (c : Int) + 1) (lv' := [(10, .int (zI ((c : Int) + 1))), (9, .int (zI (c : Int))), (8, .int (zI (lgF (llS da mb dd td n) n))), (7, .int (zI (mxF (llS da mb dd td n) n))), (6, .int (zI (smF (llS da mb dd td n) n))), (5, .int (zI (smF al n))), (4, .ref wa), (3, .ref mx), (2, .int (zI (n : Int))), (0, .ref a), (1, .ref (q 0))]) hx hb dX3_isSame_416 hl (k := 1) rfl rfl (by decide) rfl (fun ls hl => ?_)
                  refine lv_goto (tgt := 376) hx hb dX3_isSame_419 (by decide) ?_
                  have hl := lv_sub hl (l' := [(10, .int (zI ((c : Int) + 1))), (9, .int (zI (c : Int))), (8, .int (zI (lgF (llS da mb dd td n) n))), (7, .int (zI (mxF (llS da mb dd td n) n))), (6, .int (zI (smF (llS da mb dd td n) n))), (5, .int (zI (smF al n))), (4, .ref wa), (3, .ref mx), (2, .int (zI (n : Int))), (0, .ref a), (1, .ref (q 0))]) [0, 1, 2, 3, 4, 5, 6, 7, 8, 9, 10] rfl
                  have e_26 : ((((c + 1) : Nat) : Int) : Int) = (c : Int) + 1 := by omega
                  have e_27 : (stF (cwN al co da mb dd td n) (c + 1) : Int) = (c : Int) := by first | exact stF_y (by omega) | exact stF_n (by omega)
                  have hl : lv_has ls 14 [(10, .int (zI (((c + 1) : Nat) : Int))), (9, .int (zI (stF (cwN al co da mb dd td n) (c + 1)))), (8, .int (zI (lgF (llS da mb dd td n) n))), (7, .int (zI (mxF (llS da mb dd td n) n))), (6, .int (zI (smF (llS da mb dd td n) n))), (5, .int (zI (smF al n))), (4, .ref wa), (3, .ref mx), (2, .int (zI (n : Int))), (0, .ref a), (1, .ref (q 0))] := by rw [e_26, e_27]; exact hl
                  exact ih_c (c + 1) (by omega) (by omega) _ _ _ hC hi_wa hS hl 
        have hl := lv_sub hl (l' := [(10, .int (zI 0)), (9, .int (zI 0)), (8, .int (zI (lgF (llS da mb dd td n) n))), (7, .int (zI (mxF (llS da mb dd td n) n))), (6, .int (zI (smF (llS da mb dd td n) n))), (5, .int (zI (smF al n))), (4, .ref wa), (3, .ref mx), (2, .int (zI (n : Int))), (0, .ref a), (1, .ref (q 0))]) [0, 1, 2, 3, 4, 5, 6, 7, 8, 9, 10] rfl
        have e_28 : (stF (cwN al co da mb dd td n) 0 : Int) = 0 := rfl
        have hl : lv_has ls 14 [(10, .int (zI 0)), (9, .int (zI (stF (cwN al co da mb dd td n) 0))), (8, .int (zI (lgF (llS da mb dd td n) n))), (7, .int (zI (mxF (llS da mb dd td n) n))), (6, .int (zI (smF (llS da mb dd td n) n))), (5, .int (zI (smF al n))), (4, .ref wa), (3, .ref mx), (2, .int (zI (n : Int))), (0, .ref a), (1, .ref (q 0))] := by rw [e_28]; exact hl
        exact L376_5 (6 + 1) 0 (Nat.zero_le _) (by omega) _ _ _ hC hi_wa hS hl 
      · have c_3 := c_3
        have hlp := hI.leftAll (p := (p : Int)) (by omega) (by omega)
        have hlq : llS da mb dd td n (p : Int) = mxF (lf da mb dd td (p : Int)) n := rfl
        have hl180 := hI.ll180 (p : Int)
        have hwp : wrF mo M td (p : Int) = ca co da mb dd td n (p : Int) 0 := hI.wears0 (by omega) (by omega)
        have hwr := caZ_rg hI (p : Int)
        have hwz : caZ co da mb dd td n (p : Int) = ca co da mb dd td n (p : Int) 0 := rfl
        have hap := hal (p : Int)
        refine zr_iconst hx hb dX3_isSame_38 ?_
        refine lv_istore (lv' := [(10, .int (zI 0)), (9, .int (zI (p : Int))), (8, .int (zI (lgF (llS da mb dd td n) p))), (7, .int (zI (mxF (llS da mb dd td n) p))), (6, .int (zI (smF (llS da mb dd td n) p))), (5, .int (zI (smF al p))), (4, .ref wa), (3, .ref mx), (2, .int (zI (n : Int))), (0, .ref a), (1, .ref (q 0))]) hx hb dX3_isSame_39 hl (by decide) rfl (fun ls hl => ?_)
        refine lv_aload_n hx hb dX3_isSame_41 rfl (lv_at hl 9 rfl) ?_
        refine lv_iload hx hb dX3_isSame_42 (lv_at hl 1 rfl) ?_
        refine zr_iconst hx hb dX3_isSame_44 ?_
        refine zcallGV (ci := 3) (cq := (RX3, TX3, 5)) (As := [.int (zI (p : Int)), .int (zI (-1))]) (rest := []) ⟨hx, hb, hml, hown, hts⟩ hK hQ (kX3_left l D cI cZ c1 c2 H.size s0 a n pa sp al co da M mo td wn (p : Int) (-1) htd hmo (by omega) (by omega)) (cwV 2 hts gX3_isSame_X3_left rfl rfl rfl (by decide +kernel) ⟨by first | exact Nat.le_of_ble_eq_true rfl | (show _ ≤ _; omega), Nat.le_of_ble_eq_true rfl⟩) (hL.toW hU) hL.obj hS (fun x h => Or.inr (Nat.le_trans hU h)) rfl rfl hl.1 rfl (Nat.le_of_ble_eq_true rfl) dX3_isSame_45 ⟨show cc + 0 ≤ 40 from by omega, show ss + 0 ≤ 400 from by omega⟩ (fun v9 H locs hp9 hz9 hk9 hS => ?_)
        subst hp9
        have hk9 := fun (x : Nat) (h : x < _) => hk9 x h (Nat.not_le.mpr h)
        have hC := zgrowP hC hk9
        have hM := mA.grow hM hk9
        have hi_wa := vA.grow hi_wa hk9
        have hkp : ∀ x : Nat, s0 ≤ x → x < s9.heap.size → H[x]? = s9.heap[x]? := fun x h1 h2 => hS.2.1 x h2 (fun h => h.elim (fun h => absurd (hq0 x h) (Nat.not_lt.mpr h1)) (fun h => absurd h (Nat.not_le.mpr h2)))
        have hL := hL0.keep hkp
        have b_29 := (show 0 ≤ lfS mo M td (p : Int) (-1) ∧ lfS mo M td (p : Int) (-1) ≤ 4000000 from lfT_bd hmo htd (p : Int) (-1) (Nat.le_refl M))
        have hU : s9.heap.size ≤ H.size := hS.1
        refine W.eq (g2 := F0 m9 48 ls [.int (zI (lfS mo M td (p : Int) (-1)))]) rfl ?_
        refine lv_istore (lv' := [(11, .int (zI (lfS mo M td (p : Int) (-1)))), (10, .int (zI 0)), (9, .int (zI (p : Int))), (8, .int (zI (lgF (llS da mb dd td n) p))), (7, .int (zI (mxF (llS da mb dd td n) p))), (6, .int (zI (smF (llS da mb dd td n) p))), (5, .int (zI (smF al p))), (4, .ref wa), (3, .ref mx), (2, .int (zI (n : Int))), (0, .ref a), (1, .ref (q 0))]) hx hb dX3_isSame_48 hl (by decide) rfl (fun ls hl => ?_)
        refine zr_iconst hx hb dX3_isSame_50 ?_
        refine lv_istore (lv' := [(12, .int (zI 0)), (11, .int (zI (lfS mo M td (p : Int) (-1)))), (10, .int (zI 0)), (9, .int (zI (p : Int))), (8, .int (zI (lgF (llS da mb dd td n) p))), (7, .int (zI (mxF (llS da mb dd td n) p))), (6, .int (zI (smF (llS da mb dd td n) p))), (5, .int (zI (smF al p))), (4, .ref wa), (3, .ref mx), (2, .int (zI (n : Int))), (0, .ref a), (1, .ref (q 0))]) hx hb dX3_isSame_51 hl (by decide) rfl (fun ls hl => ?_)
        have L53_30 : ∀ (kf d : Nat), d ≤ n → n - d < kf → ∀ (H : Heap) (locs : List Loc) (ls : Array Slot) (dg2 : Int → Int), (va_P D vwCl (wC cI cZ q pa sp al dg2 co da mb dd ah wl lo n td wn) H) → (mA cI c1 H mx n (dgF pa sp n)) → (iA cI H wa 6 (fun c => smF (cwF al co da mb dd td n c) p)) → va_S (fun x : Nat => x ∈ zLC q ∨ s9.heap.size ≤ x) s9.heap H locs → lv_has ls 14 [(12, .int (zI (d : Int))), (11, .int (zI (lfS mo M td (p : Int) (-1)))), (10, .int (zI (smF (gtF (lf da mb dd td (p : Int))) d))), (9, .int (zI (p : Int))), (8, .int (zI (lgF (llS da mb dd td n) p))), (7, .int (zI (mxF (llS da mb dd td n) p))), (6, .int (zI (smF (llS da mb dd td n) p))), (5, .int (zI (smF al p))), (4, .ref wa), (3, .ref mx), (2, .int (zI (n : Int))), (0, .ref a), (1, .ref (q 0))] → W p0 l e9 (({ frames := 9, cells := 40, slots := 400, locals := 155 } : Room)) s9 m9 ag9 below meth c9 H locs cc ss Q0 (F0 m9 53 ls []) := by
          intro kf
          induction kf with
          | zero => intro d h1 h2; omega
          | succ kf ih =>
            intro d hi_d hk_d H locs ls dg2 hC hM hi_wa hS hl 
            have ih_d := ih
            clear ih
            have hkp : ∀ x : Nat, s0 ≤ x → x < s9.heap.size → H[x]? = s9.heap[x]? := fun x h1 h2 => hS.2.1 x h2 (fun h => h.elim (fun h => absurd (hq0 x h) (Nat.not_lt.mpr h1)) (fun h => absurd h (Nat.not_le.mpr h2)))
            have hL := hL0.keep hkp
            have hU : s9.heap.size ≤ H.size := hS.1
            refine lv_iload hx hb dX3_isSame_53 (lv_at hl 0 rfl) ?_
            refine lv_iload_n hx hb dX3_isSame_55 rfl (lv_at hl 10 rfl) ?_
            refine zr_icmp_ge (tgt := 123) hx hb dX3_isSame_56 (by decide) ⟨by omega, by omega⟩ ⟨by omega, by omega⟩ (fun c_31 => ?_) (fun c_31 => ?_)
            · have c_31 := c_31
              have x_32 : d = n := by omega
              try rw [x_32] at hl
              try rw [x_32] at hC
              try rw [x_32] at hM
              try rw [x_32] at hi_wa
              refine zr_iconst hx hb dX3_isSame_123 ?_
              have hme2 := mA.end hM
              have hwl2 := vA.lt hi_wa
              refine zs_newI (N' := 5) hx hb hQ (hts (.arrayClass .int) (by decide +kernel)) hS (z := 5) (by omega) (by omega) (show cc + 1 ≤ 40 from by omega) (show ss + 5 ≤ 400 from by omega) dX3_isSame_124 (fun H kn hq_kn hi_kn hz9 hk9 hS => ?_)
              have hC := zgrowP hC hk9
              have hM := mA.grow hM hk9
              have hi_wa := vA.grow hi_wa hk9
              have hge_kn : s9.heap.size ≤ kn := by omega
              have hU : s9.heap.size ≤ H.size := hS.1
              have hkp : ∀ x : Nat, s0 ≤ x → x < s9.heap.size → H[x]? = s9.heap[x]? := fun x h1 h2 => hS.2.1 x h2 (fun h => h.elim (fun h => absurd (hq0 x h) (Nat.not_lt.mpr h1)) (fun h => absurd h (Nat.not_le.mpr h2)))
              have hL := hL0.keep hkp
              refine lv_astore (lv' := [(12, .ref kn), (11, .int (zI (lfS mo M td (p : Int) (-1)))), (10, .int (zI (smF (gtF (lf da mb dd td (p : Int))) n))), (9, .int (zI (p : Int))), (8, .int (zI (lgF (llS da mb dd td n) p))), (7, .int (zI (mxF (llS da mb dd td n) p))), (6, .int (zI (smF (llS da mb dd td n) p))), (5, .int (zI (smF al p))), (4, .ref wa), (3, .ref mx), (2, .int (zI (n : Int))), (0, .ref a), (1, .ref (q 0))]) hx hb dX3_isSame_126 hl (by decide) rfl (fun ls hl => ?_)
              refine zr_iconst hx hb dX3_isSame_128 ?_
              refine lv_istore (lv' := [(13, .int (zI 0)), (12, .ref kn), (11, .int (zI (lfS mo M td (p : Int) (-1)))), (10, .int (zI (smF (gtF (lf da mb dd td (p : Int))) n))), (9, .int (zI (p : Int))), (8, .int (zI (lgF (llS da mb dd td n) p))), (7, .int (zI (mxF (llS da mb dd td n) p))), (6, .int (zI (smF (llS da mb dd td n) p))), (5, .int (zI (smF al p))), (4, .ref wa), (3, .ref mx), (2, .int (zI (n : Int))), (0, .ref a), (1, .ref (q 0))]) hx hb dX3_isSame_129 hl (by decide) rfl (fun ls hl => ?_)
              have L131_33 : ∀ (kf o : Nat), o ≤ n → n - o < kf → ∀ (H : Heap) (locs : List Loc) (ls : Array Slot), (va_P D vwCl (wC cI cZ q pa sp al dg2 co da mb dd ah wl lo n td wn) H) → (mA cI c1 H mx n (dgF pa sp n)) → (iA cI H wa 6 (fun c => smF (cwF al co da mb dd td n c) p)) → (iA cI H kn 5 (fun g => smF (kinF al (dgF pa sp n (p : Int)) g) o)) → va_S (fun x : Nat => x ∈ zLC q ∨ s9.heap.size ≤ x) s9.heap H locs → lv_has ls 14 [(13, .int (zI (o : Int))), (12, .ref kn), (11, .int (zI (lfS mo M td (p : Int) (-1)))), (10, .int (zI (smF (gtF (lf da mb dd td (p : Int))) n))), (9, .int (zI (p : Int))), (8, .int (zI (lgF (llS da mb dd td n) p))), (7, .int (zI (mxF (llS da mb dd td n) p))), (6, .int (zI (smF (llS da mb dd td n) p))), (5, .int (zI (smF al p))), (4, .ref wa), (3, .ref mx), (2, .int (zI (n : Int))), (0, .ref a), (1, .ref (q 0))] → W p0 l e9 (({ frames := 9, cells := 40, slots := 400, locals := 155 } : Room)) s9 m9 ag9 below meth c9 H locs (cc + 1) (ss + 5) Q0 (F0 m9 131 ls []) := by
                intro kf
                induction kf with
                | zero => intro o h1 h2; omega
                | succ kf ih =>
                  intro o hi_o hk_o H locs ls  hC hM hi_wa hi_kn hS hl 
                  have ih_o := ih
                  clear ih
                  have hkp : ∀ x : Nat, s0 ≤ x → x < s9.heap.size → H[x]? = s9.heap[x]? := fun x h1 h2 => hS.2.1 x h2 (fun h => h.elim (fun h => absurd (hq0 x h) (Nat.not_lt.mpr h1)) (fun h => absurd h (Nat.not_le.mpr h2)))
                  have hL := hL0.keep hkp
                  have hU : s9.heap.size ≤ H.size := hS.1
                  refine lv_iload hx hb dX3_isSame_131 (lv_at hl 0 rfl) ?_
                  refine lv_iload_n hx hb dX3_isSame_133 rfl (lv_at hl 11 rfl) ?_
                  refine zr_icmp_ge (tgt := 165) hx hb dX3_isSame_134 (by decide) ⟨by omega, by omega⟩ ⟨by omega, by omega⟩ (fun c_34 => ?_) (fun c_34 => ?_)
                  · have c_34 := c_34
                    have x_35 : o = n := by omega
                    try rw [x_35] at hl
                    try rw [x_35] at hC
                    try rw [x_35] at hM
                    try rw [x_35] at hi_wa
                    try rw [x_35] at hi_kn
                    refine zr_iconst hx hb dX3_isSame_165 ?_
                    refine lv_istore (lv' := [(13, .int (zI 1)), (12, .ref kn), (11, .int (zI (lfS mo M td (p : Int) (-1)))), (10, .int (zI (smF (gtF (lf da mb dd td (p : Int))) n))), (9, .int (zI (p : Int))), (8, .int (zI (lgF (llS da mb dd td n) p))), (7, .int (zI (mxF (llS da mb dd td n) p))), (6, .int (zI (smF (llS da mb dd td n) p))), (5, .int (zI (smF al p))), (4, .ref wa), (3, .ref mx), (2, .int (zI (n : Int))), (0, .ref a), (1, .ref (q 0))]) hx hb dX3_isSame_166 hl (by decide) rfl (fun ls hl => ?_)
                    have L168_36 : ∀ (kf g : Nat), g ≤ 4 → 4 - g < kf → ∀ (H : Heap) (locs : List Loc) (ls : Array Slot) (dg3 : Int → Int), (va_P D vwCl (wC cI cZ q pa sp al dg3 co da mb dd ah wl lo n td wn) H) → (mA cI c1 H mx n (dgF pa sp n)) → (iA cI H wa 6 (fun c => smF (cwF al co da mb dd td n c) p)) → (iA cI H kn 5 (fun g => smF (kinF al (dgF pa sp n (p : Int)) g) n)) → va_S (fun x : Nat => x ∈ zLC q ∨ s9.heap.size ≤ x) s9.heap H locs → lv_has ls 14 [(13, .int (zI ((g : Int) + 1))), (12, .ref kn), (11, .int (zI (lfS mo M td (p : Int) (-1)))), (10, .int (zI (smF (gtF (lf da mb dd td (p : Int))) n))), (9, .int (zI (p : Int))), (8, .int (zI (lgF (llS da mb dd td n) p))), (7, .int (zI (mxF (llS da mb dd td n) p))), (6, .int (zI (smF (llS da mb dd td n) p))), (5, .int (zI (smF al p))), (4, .ref wa), (3, .ref mx), (2, .int (zI (n : Int))), (0, .ref a), (1, .ref (q 0))] → W p0 l e9 (({ frames := 9, cells := 40, slots := 400, locals := 155 } : Room)) s9 m9 ag9 below meth c9 H locs (cc + 1) (ss + 5) Q0 (F0 m9 168 ls []) := by
                      intro kf
                      induction kf with
                      | zero => intro g h1 h2; omega
                      | succ kf ih =>
                        intro g hi_g hk_g H locs ls dg3 hC hM hi_wa hi_kn hS hl 
                        have ih_g := ih
                        clear ih
                        have hkp : ∀ x : Nat, s0 ≤ x → x < s9.heap.size → H[x]? = s9.heap[x]? := fun x h1 h2 => hS.2.1 x h2 (fun h => h.elim (fun h => absurd (hq0 x h) (Nat.not_lt.mpr h1)) (fun h => absurd h (Nat.not_le.mpr h2)))
                        have hL := hL0.keep hkp
                        have hU : s9.heap.size ≤ H.size := hS.1
                        refine lv_iload hx hb dX3_isSame_168 (lv_at hl 0 rfl) ?_
                        refine zr_iconst hx hb dX3_isSame_170 ?_
                        refine zr_icmp_ge (tgt := 198) hx hb dX3_isSame_171 (by decide) ⟨by omega, by omega⟩ ⟨by decide, by decide⟩ (fun c_37 => ?_) (fun c_37 => ?_)
                        · have c_37 := c_37
                          have x_38 : g = 4 := by omega
                          try rw [x_38] at hl
                          try rw [x_38] at hC
                          try rw [x_38] at hM
                          try rw [x_38] at hi_wa
                          try rw [x_38] at hi_kn
                          refine lv_aload_n hx hb dX3_isSame_198 rfl (lv_at hl 12 rfl) ?_
                          refine lv_iload hx hb dX3_isSame_199 (lv_at hl 4 rfl) ?_
                          refine lv_aload_n hx hb dX3_isSame_201 rfl (lv_at hl 12 rfl) ?_
                          refine va_get (D := D) (ci := 3) (v := .int (zI td)) (C := RX3) (T := TX3) (N := 5) hx hb hts hin3 hown hK hL.obj 0 rfl rfl 0 (by decide) (hts (.fieldLink RX3 38 "MourningRibbonsLaw$Sim" "day" "I") (by decide +kernel)) (fun _ h9 => h9) rfl dX3_isSame_202 ?_
                          refine zcallGV (ci := 3) (cq := (RX3, TX3, 5)) (As := [.int (zI (p : Int)), .int (zI td)]) (rest := []) ⟨hx, hb, hml, hown, hts⟩ hK hQ (kX3_wears l D cI cZ c1 c2 H.size s0 a n pa sp al co da M mo td wn (p : Int) td hmo (by omega) (by omega)) (cwV 2 hts gX3_isSame_X3_wears rfl rfl rfl (by decide +kernel) ⟨by first | exact Nat.le_of_ble_eq_true rfl | (show _ ≤ _; omega), Nat.le_of_ble_eq_true rfl⟩) (hL.toW hU) hL.obj hS (fun x h => Or.inr (Nat.le_trans hU h)) rfl rfl hl.1 rfl (Nat.le_of_ble_eq_true rfl) dX3_isSame_205 ⟨show cc + 1 + 0 ≤ 40 from by omega, show ss + 5 + 0 ≤ 400 from by omega⟩ (fun v9 H locs hp9 hz9 hk9 hS => ?_)
                          subst hp9
                          have hk9 := fun (x : Nat) (h : x < _) => hk9 x h (Nat.not_le.mpr h)
                          have hC := zgrowP hC hk9
                          have hM := mA.grow hM hk9
                          have hi_wa := vA.grow hi_wa hk9
                          have hi_kn := vA.grow hi_kn hk9
                          have hkp : ∀ x : Nat, s0 ≤ x → x < s9.heap.size → H[x]? = s9.heap[x]? := fun x h1 h2 => hS.2.1 x h2 (fun h => h.elim (fun h => absurd (hq0 x h) (Nat.not_lt.mpr h1)) (fun h => absurd h (Nat.not_le.mpr h2)))
                          have hL := hL0.keep hkp
                          have b_39 := (show 0 ≤ wrF mo M td (p : Int) ∧ wrF mo M td (p : Int) ≤ 1000000 from wrT_bd hmo (p : Int) td (Nat.le_refl M))
                          have hU : s9.heap.size ≤ H.size := hS.1
                          refine W.eq (g2 := F0 m9 208 ls [.int (zI (wrF mo M td (p : Int)))]) rfl ?_
                          refine lv_istore (lv' := [(13, .int (zI (wrF mo M td (p : Int)))), (12, .ref kn), (11, .int (zI (lfS mo M td (p : Int) (-1)))), (10, .int (zI (smF (gtF (lf da mb dd td (p : Int))) n))), (9, .int (zI (p : Int))), (8, .int (zI (lgF (llS da mb dd td n) p))), (7, .int (zI (mxF (llS da mb dd td n) p))), (6, .int (zI (smF (llS da mb dd td n) p))), (5, .int (zI (smF al p))), (4, .ref wa), (3, .ref mx), (2, .int (zI (n : Int))), (0, .ref a), (1, .ref (q 0))]) hx hb dX3_isSame_208 hl (by decide) rfl (fun ls hl => ?_)
                          refine lv_aload_n hx hb dX3_isSame_210 rfl (lv_at hl 13 rfl) ?_
                          refine lv_iload hx hb dX3_isSame_211 (lv_at hl 4 rfl) ?_
                          refine zcallV (ci := 2) (q0 := 0) (cq := (RX2, TX2, 9)) (As := [.int (zI (p : Int))]) (rest := []) ⟨hx, hb, hml, hown, hts⟩ hK (kX2_isAliveok l D cI cZ q hN pa sp al dg3 co da mb dd ah wl lo n td wn hn hal (p : Int) (by omega)) (cwV 1 hts gX3_isSame_X2_isAlive rfl rfl rfl (by decide +kernel) ⟨Nat.le_of_ble_eq_true rfl, Nat.le_of_ble_eq_true rfl⟩) hC hS (fun x h => Or.inl h) rfl rfl rfl hl.1 rfl (Nat.le_of_ble_eq_true rfl) dX3_isSame_213 ⟨show cc + 1 ≤ 40 from by omega, show ss + 5 ≤ 400 from by omega⟩ (fun H locs hC hS hz9 hk9 => ?_)
                          have hkq := fun (x : Nat) (h1 : x < _) (h2 : s0 ≤ x) => hk9 x h1 (fun h => absurd (hq0 x h) (Nat.not_lt.mpr h2))
                          have hM := mA.keepq hM (by omega) hkq
                          have hi_wa := vA.kept hi_wa (hkq _ (vA.lt hi_wa) (by omega))
                          have hi_kn := vA.kept hi_kn (hkq _ (vA.lt hi_kn) (by omega))
                          have hU : s9.heap.size ≤ H.size := hS.1
                          have hkp : ∀ x : Nat, s0 ≤ x → x < s9.heap.size → H[x]? = s9.heap[x]? := fun x h1 h2 => hS.2.1 x h2 (fun h => h.elim (fun h => absurd (hq0 x h) (Nat.not_lt.mpr h1)) (fun h => absurd h (Nat.not_le.mpr h2)))
                          have hL := hL0.keep hkp
                          refine W.eq (g2 := F0 m9 216 ls [.int (zI (al (p : Int)))]) rfl ?_
                          refine lv_aload_n hx hb dX3_isSame_216 rfl (lv_at hl 12 rfl) ?_
                          refine va_get (D := D) (ci := 3) (v := .ref ap) (C := RX3) (T := TX3) (N := 5) hx hb hts hin3 hown hK hL.obj 0 rfl rfl 2 (by decide) (hts (.fieldLink RX3 9 "MourningRibbonsLaw$Sim" "people" "[[I") (by decide +kernel)) (fun _ h9 => h9) rfl dX3_isSame_217 ?_
                          refine lv_iload hx hb dX3_isSame_220 (lv_at hl 4 rfl) ?_
                          refine zs_ald1 (v := .ref (ra (p : Int))) (i := (p : Int)) hx hb hQ hL.ppl (by omega) (by omega) (by have := hL.n16; omega) rfl dX3_isSame_222 ?_
                          refine zr_iconst hx hb dX3_isSame_223 ?_
                          refine zs_ild (v := al (p : Int)) (i := 2) hx hb hQ (hL.row (p : Int) (by omega) (by omega)) (by decide) (by decide) (by decide) rfl dX3_isSame_224 ?_
                          have b_40 := hal (p : Int)
                          refine zr_iconst hx hb dX3_isSame_225 ?_
                          refine zr_icmp_ne (tgt := 233) hx hb dX3_isSame_226 (by decide) ⟨by omega, by omega⟩ ⟨by decide, by decide⟩ (fun c_41 => ?_) (fun c_41 => ?_)
                          · have c_41 := c_41
                            refine zr_iconst hx hb dX3_isSame_233 ?_
                            refine zr_icmp_neF (tgt := 306) hx hb (by omega) dX3_isSame_234 (by decide) ?_
                            refine lv_aload_n hx hb dX3_isSame_237 rfl (lv_at hl 13 rfl) ?_
                            refine lv_iload hx hb dX3_isSame_238 (lv_at hl 4 rfl) ?_
                            refine zcallV (ci := 2) (q0 := 0) (cq := (RX2, TX2, 9)) (As := [.int (zI (p : Int))]) (rest := []) ⟨hx, hb, hml, hown, hts⟩ hK (kX2_parentOfok l D cI cZ q hN pa sp al dg3 co da mb dd ah wl lo n td wn hn hpa (p : Int) (by omega)) (cwV 1 hts gX3_isSame_X2_parentOf rfl rfl rfl (by decide +kernel) ⟨Nat.le_of_ble_eq_true rfl, Nat.le_of_ble_eq_true rfl⟩) hC hS (fun x h => Or.inl h) rfl rfl rfl hl.1 rfl (Nat.le_of_ble_eq_true rfl) dX3_isSame_240 ⟨show cc + 1 ≤ 40 from by omega, show ss + 5 ≤ 400 from by omega⟩ (fun H locs hC hS hz9 hk9 => ?_)
                            have hkq := fun (x : Nat) (h1 : x < _) (h2 : s0 ≤ x) => hk9 x h1 (fun h => absurd (hq0 x h) (Nat.not_lt.mpr h2))
                            have hM := mA.keepq hM (by omega) hkq
                            have hi_wa := vA.kept hi_wa (hkq _ (vA.lt hi_wa) (by omega))
                            have hi_kn := vA.kept hi_kn (hkq _ (vA.lt hi_kn) (by omega))
                            have hU : s9.heap.size ≤ H.size := hS.1
                            have hkp : ∀ x : Nat, s0 ≤ x → x < s9.heap.size → H[x]? = s9.heap[x]? := fun x h1 h2 => hS.2.1 x h2 (fun h => h.elim (fun h => absurd (hq0 x h) (Nat.not_lt.mpr h1)) (fun h => absurd h (Nat.not_le.mpr h2)))
                            have hL := hL0.keep hkp
                            refine W.eq (g2 := F0 m9 243 ls [.int (zI (pa (p : Int)))]) rfl ?_
                            refine lv_aload_n hx hb dX3_isSame_243 rfl (lv_at hl 12 rfl) ?_
                            refine va_get (D := D) (ci := 3) (v := .ref ap) (C := RX3) (T := TX3) (N := 5) hx hb hts hin3 hown hK hL.obj 0 rfl rfl 2 (by decide) (hts (.fieldLink RX3 9 "MourningRibbonsLaw$Sim" "people" "[[I") (by decide +kernel)) (fun _ h9 => h9) rfl dX3_isSame_244 ?_
                            refine lv_iload hx hb dX3_isSame_247 (lv_at hl 4 rfl) ?_
                            refine zs_ald1 (v := .ref (ra (p : Int))) (i := (p : Int)) hx hb hQ hL.ppl (by omega) (by omega) (by have := hL.n16; omega) rfl dX3_isSame_249 ?_
                            refine zr_iconst hx hb dX3_isSame_250 ?_
                            refine zs_ild (v := pa (p : Int)) (i := 0) hx hb hQ (hL.row (p : Int) (by omega) (by omega)) (by decide) (by decide) (by decide) rfl dX3_isSame_251 ?_
                            have b_42 := hpa (p : Int)
                            refine zr_icmp_neF (tgt := 306) hx hb rfl dX3_isSame_252 (by decide) ?_
                            refine lv_aload_n hx hb dX3_isSame_255 rfl (lv_at hl 13 rfl) ?_
                            refine lv_iload hx hb dX3_isSame_256 (lv_at hl 4 rfl) ?_
                            refine zcallV (ci := 2) (q0 := 0) (cq := (RX2, TX2, 9)) (As := [.int (zI (p : Int))]) (rest := []) ⟨hx, hb, hml, hown, hts⟩ hK (kX2_marriedTook l D cI cZ q hN pa sp al dg3 co da mb dd ah wl lo n td wn hn hsp (p : Int) (by omega)) (cwV 1 hts gX3_isSame_X2_marriedTo rfl rfl rfl (by decide +kernel) ⟨Nat.le_of_ble_eq_true rfl, Nat.le_of_ble_eq_true rfl⟩) hC hS (fun x h => Or.inl h) rfl rfl rfl hl.1 rfl (Nat.le_of_ble_eq_true rfl) dX3_isSame_258 ⟨show cc + 1 ≤ 40 from by omega, show ss + 5 ≤ 400 from by omega⟩ (fun H locs hC hS hz9 hk9 => ?_)
                            have hkq := fun (x : Nat) (h1 : x < _) (h2 : s0 ≤ x) => hk9 x h1 (fun h => absurd (hq0 x h) (Nat.not_lt.mpr h2))
                            have hM := mA.keepq hM (by omega) hkq
                            have hi_wa := vA.kept hi_wa (hkq _ (vA.lt hi_wa) (by omega))
                            have hi_kn := vA.kept hi_kn (hkq _ (vA.lt hi_kn) (by omega))
                            have hU : s9.heap.size ≤ H.size := hS.1
                            have hkp : ∀ x : Nat, s0 ≤ x → x < s9.heap.size → H[x]? = s9.heap[x]? := fun x h1 h2 => hS.2.1 x h2 (fun h => h.elim (fun h => absurd (hq0 x h) (Nat.not_lt.mpr h1)) (fun h => absurd h (Nat.not_le.mpr h2)))
                            have hL := hL0.keep hkp
                            refine W.eq (g2 := F0 m9 261 ls [.int (zI (sp (p : Int)))]) rfl ?_
                            refine lv_aload_n hx hb dX3_isSame_261 rfl (lv_at hl 12 rfl) ?_
                            refine va_get (D := D) (ci := 3) (v := .ref ap) (C := RX3) (T := TX3) (N := 5) hx hb hts hin3 hown hK hL.obj 0 rfl rfl 2 (by decide) (hts (.fieldLink RX3 9 "MourningRibbonsLaw$Sim" "people" "[[I") (by decide +kernel)) (fun _ h9 => h9) rfl dX3_isSame_262 ?_
                            refine lv_iload hx hb dX3_isSame_265 (lv_at hl 4 rfl) ?_
                            refine zs_ald1 (v := .ref (ra (p : Int))) (i := (p : Int)) hx hb hQ hL.ppl (by omega) (by omega) (by have := hL.n16; omega) rfl dX3_isSame_267 ?_
                            refine zr_iconst hx hb dX3_isSame_268 ?_
                            refine zs_ild (v := sp (p : Int)) (i := 1) hx hb hQ (hL.row (p : Int) (by omega) (by omega)) (by decide) (by decide) (by decide) rfl dX3_isSame_269 ?_
                            have b_43 := hsp (p : Int)
                            refine zr_icmp_neF (tgt := 306) hx hb rfl dX3_isSame_270 (by decide) ?_
                            refine lv_aload_n hx hb dX3_isSame_273 rfl (lv_at hl 13 rfl) ?_
                            refine lv_iload hx hb dX3_isSame_274 (lv_at hl 4 rfl) ?_
                            refine zcallV (ci := 2) (q0 := 0) (cq := (RX2, TX2, 9)) (As := [.int (zI (p : Int))]) (rest := []) ⟨hx, hb, hml, hown, hts⟩ hK (kX2_colourOfok l D cI cZ q hN pa sp al dg3 co da mb dd ah wl lo n td wn hn hco hda hmb hdd htd (p : Int) (by omega)) (cwV 1 hts gX3_isSame_X2_colourOf rfl rfl rfl (by decide +kernel) ⟨Nat.le_of_ble_eq_true rfl, Nat.le_of_ble_eq_true rfl⟩) hC hS (fun x h => Or.inl h) rfl rfl rfl hl.1 rfl (Nat.le_of_ble_eq_true rfl) dX3_isSame_276 ⟨show cc + 1 ≤ 40 from by omega, show ss + 5 ≤ 400 from by omega⟩ (fun H locs hC hS hz9 hk9 => ?_)
                            have hkq := fun (x : Nat) (h1 : x < _) (h2 : s0 ≤ x) => hk9 x h1 (fun h => absurd (hq0 x h) (Nat.not_lt.mpr h2))
                            have hM := mA.keepq hM (by omega) hkq
                            have hi_wa := vA.kept hi_wa (hkq _ (vA.lt hi_wa) (by omega))
                            have hi_kn := vA.kept hi_kn (hkq _ (vA.lt hi_kn) (by omega))
                            have hU : s9.heap.size ≤ H.size := hS.1
                            have hkp : ∀ x : Nat, s0 ≤ x → x < s9.heap.size → H[x]? = s9.heap[x]? := fun x h1 h2 => hS.2.1 x h2 (fun h => h.elim (fun h => absurd (hq0 x h) (Nat.not_lt.mpr h1)) (fun h => absurd h (Nat.not_le.mpr h2)))
                            have hL := hL0.keep hkp
                            refine W.eq (g2 := F0 m9 279 ls [.int (zI (ca co da mb dd td n (p : Int) 0))]) rfl ?_
                            refine lv_iload hx hb dX3_isSame_279 (lv_at hl 0 rfl) ?_
                            refine zr_icmp_neF (tgt := 306) hx hb hwp.symm dX3_isSame_281 (by decide) ?_
                            refine lv_aload_n hx hb dX3_isSame_284 rfl (lv_at hl 13 rfl) ?_
                            refine lv_iload hx hb dX3_isSame_285 (lv_at hl 4 rfl) ?_
                            refine zcallV (ci := 2) (q0 := 0) (cq := (RX2, TX2, 9)) (As := [.int (zI (p : Int))]) (rest := []) ⟨hx, hb, hml, hown, hts⟩ hK (kX2_mourningsOfok l D cI cZ q hN pa sp al dg3 co da mb dd ah wl lo n td wn hn hda hmb hdd htd (p : Int) (by omega)) (cwV 1 hts gX3_isSame_X2_mourningsOf rfl rfl rfl (by decide +kernel) ⟨Nat.le_of_ble_eq_true rfl, Nat.le_of_ble_eq_true rfl⟩) hC hS (fun x h => Or.inl h) rfl rfl rfl hl.1 rfl (Nat.le_of_ble_eq_true rfl) dX3_isSame_287 ⟨show cc + 1 ≤ 40 from by omega, show ss + 5 ≤ 400 from by omega⟩ (fun H locs hC hS hz9 hk9 => ?_)
                            have hkq := fun (x : Nat) (h1 : x < _) (h2 : s0 ≤ x) => hk9 x h1 (fun h => absurd (hq0 x h) (Nat.not_lt.mpr h2))
                            have hM := mA.keepq hM (by omega) hkq
                            have hi_wa := vA.kept hi_wa (hkq _ (vA.lt hi_wa) (by omega))
                            have hi_kn := vA.kept hi_kn (hkq _ (vA.lt hi_kn) (by omega))
                            have hU : s9.heap.size ≤ H.size := hS.1
                            have hkp : ∀ x : Nat, s0 ≤ x → x < s9.heap.size → H[x]? = s9.heap[x]? := fun x h1 h2 => hS.2.1 x h2 (fun h => h.elim (fun h => absurd (hq0 x h) (Nat.not_lt.mpr h1)) (fun h => absurd h (Nat.not_le.mpr h2)))
                            have hL := hL0.keep hkp
                            refine W.eq (g2 := F0 m9 290 ls [.int (zI (smF (gtF (lf da mb dd td (p : Int))) n))]) rfl ?_
                            refine lv_iload hx hb dX3_isSame_290 (lv_at hl 3 rfl) ?_
                            refine zr_icmp_neF (tgt := 306) hx hb rfl dX3_isSame_292 (by decide) ?_
                            refine lv_aload_n hx hb dX3_isSame_295 rfl (lv_at hl 13 rfl) ?_
                            refine lv_iload hx hb dX3_isSame_296 (lv_at hl 4 rfl) ?_
                            refine zcallV (ci := 2) (q0 := 0) (cq := (RX2, TX2, 9)) (As := [.int (zI (p : Int))]) (rest := []) ⟨hx, hb, hml, hown, hts⟩ hK (kX2_daysLeftok l D cI cZ q hN pa sp al dg3 co da mb dd ah wl lo n td wn hn hda hmb hdd htd (p : Int) (by omega)) (cwV 1 hts gX3_isSame_X2_daysLeft rfl rfl rfl (by decide +kernel) ⟨Nat.le_of_ble_eq_true rfl, Nat.le_of_ble_eq_true rfl⟩) hC hS (fun x h => Or.inl h) rfl rfl rfl hl.1 rfl (Nat.le_of_ble_eq_true rfl) dX3_isSame_298 ⟨show cc + 1 ≤ 40 from by omega, show ss + 5 ≤ 400 from by omega⟩ (fun H locs hC hS hz9 hk9 => ?_)
                            have hkq := fun (x : Nat) (h1 : x < _) (h2 : s0 ≤ x) => hk9 x h1 (fun h => absurd (hq0 x h) (Nat.not_lt.mpr h2))
                            have hM := mA.keepq hM (by omega) hkq
                            have hi_wa := vA.kept hi_wa (hkq _ (vA.lt hi_wa) (by omega))
                            have hi_kn := vA.kept hi_kn (hkq _ (vA.lt hi_kn) (by omega))
                            have hU : s9.heap.size ≤ H.size := hS.1
                            have hkp : ∀ x : Nat, s0 ≤ x → x < s9.heap.size → H[x]? = s9.heap[x]? := fun x h1 h2 => hS.2.1 x h2 (fun h => h.elim (fun h => absurd (hq0 x h) (Nat.not_lt.mpr h1)) (fun h => absurd h (Nat.not_le.mpr h2)))
                            have hL := hL0.keep hkp
                            refine W.eq (g2 := F0 m9 301 ls [.int (zI (mxF (lf da mb dd td (p : Int)) n))]) rfl ?_
                            refine lv_iload hx hb dX3_isSame_301 (lv_at hl 2 rfl) ?_
                            refine zr_icmp_eqT (tgt := 308) hx hb hlp.symm dX3_isSame_303 (by decide) ?_
                            refine lv_aload hx hb dX3_isSame_308 (lv_at hl 9 rfl) ?_
                            refine lv_iload hx hb dX3_isSame_310 (lv_at hl 0 rfl) ?_
                            refine lv_dup2_11 hx hb dX3_isSame_312 rfl rfl ?_
                            refine zs_ild (v := smF (cwF al co da mb dd td n (wrF mo M td (p : Int))) p) (i := wrF mo M td (p : Int)) hx hb hQ hi_wa (by omega) (by omega) (by decide) rfl dX3_isSame_313 ?_
                            refine lv_aload_n hx hb dX3_isSame_314 rfl (lv_at hl 12 rfl) ?_
                            refine va_get (D := D) (ci := 3) (v := .ref ap) (C := RX3) (T := TX3) (N := 5) hx hb hts hin3 hown hK hL.obj 0 rfl rfl 2 (by decide) (hts (.fieldLink RX3 9 "MourningRibbonsLaw$Sim" "people" "[[I") (by decide +kernel)) (fun _ h9 => h9) rfl dX3_isSame_315 ?_
                            refine lv_iload hx hb dX3_isSame_318 (lv_at hl 4 rfl) ?_
                            refine zs_ald1 (v := .ref (ra (p : Int))) (i := (p : Int)) hx hb hQ hL.ppl (by omega) (by omega) (by have := hL.n16; omega) rfl dX3_isSame_320 ?_
                            refine zr_iconst hx hb dX3_isSame_321 ?_
                            refine zs_ild (v := al (p : Int)) (i := 2) hx hb hQ (hL.row (p : Int) (by omega) (by omega)) (by decide) (by decide) (by decide) rfl dX3_isSame_322 ?_
                            have b_44 := hal (p : Int)
                            refine zr_iadd (v := (smF (cwF al co da mb dd td n (wrF mo M td (p : Int))) p) + (al (p : Int))) hx hb rfl dX3_isSame_323 ?_
                            refine zs_ist (i := wrF mo M td (p : Int)) (x := (smF (cwF al co da mb dd td n (wrF mo M td (p : Int))) p) + (al (p : Int))) hx hb hQ hi_wa hS (Or.inr hge_wa) (by omega) (by omega) (by decide) dX3_isSame_324 (fun H locs hv9 hz9 hk9 hS => ?_)
                            have hC := zkeepW hC rfl hk9 (fun h => by have := hq0 _ h; omega)
                            have hM := mA.keepW hM hk9 (by omega)
                            have hi_kn := vA.kept hi_kn (hk9 _ (by omega))
                            rw [hwp] at hv9
                            have hi_wa : iA cI H wa 6 (fun c => smF (cwF al co da mb dd td n c) (p + 1)) := by rw [up_cnt (F := cwF al co da mb dd td n) (if_al (hal (p : Int))) (fun c hc => if_neg (fun q => hc q.2.symm))] at hv9; exact hv9
                            have hU : s9.heap.size ≤ H.size := hS.1
                            have hkp : ∀ x : Nat, s0 ≤ x → x < s9.heap.size → H[x]? = s9.heap[x]? := fun x h1 h2 => hS.2.1 x h2 (fun h => h.elim (fun h => absurd (hq0 x h) (Nat.not_lt.mpr h1)) (fun h => absurd h (Nat.not_le.mpr h2)))
                            have hL := hL0.keep hkp
                            refine lv_iload hx hb dX3_isSame_325 (lv_at hl 8 rfl) ?_
                            refine lv_aload_n hx hb dX3_isSame_327 rfl (lv_at hl 12 rfl) ?_
                            refine va_get (D := D) (ci := 3) (v := .ref ap) (C := RX3) (T := TX3) (N := 5) hx hb hts hin3 hown hK hL.obj 0 rfl rfl 2 (by decide) (hts (.fieldLink RX3 9 "MourningRibbonsLaw$Sim" "people" "[[I") (by decide +kernel)) (fun _ h9 => h9) rfl dX3_isSame_328 ?_
                            refine lv_iload hx hb dX3_isSame_331 (lv_at hl 4 rfl) ?_
                            refine zs_ald1 (v := .ref (ra (p : Int))) (i := (p : Int)) hx hb hQ hL.ppl (by omega) (by omega) (by have := hL.n16; omega) rfl dX3_isSame_333 ?_
                            refine zr_iconst hx hb dX3_isSame_334 ?_
                            refine zs_ild (v := al (p : Int)) (i := 2) hx hb hQ (hL.row (p : Int) (by omega) (by omega)) (by decide) (by decide) (by decide) rfl dX3_isSame_335 ?_
                            have b_45 := hal (p : Int)
                            refine zr_iadd (v := (smF al p) + (al (p : Int))) hx hb rfl dX3_isSame_336 ?_
                            refine lv_istore (lv' := [(5, .int (zI ((smF al p) + (al (p : Int))))), (13, .int (zI (wrF mo M td (p : Int)))), (12, .ref kn), (11, .int (zI (lfS mo M td (p : Int) (-1)))), (10, .int (zI (smF (gtF (lf da mb dd td (p : Int))) n))), (9, .int (zI (p : Int))), (8, .int (zI (lgF (llS da mb dd td n) p))), (7, .int (zI (mxF (llS da mb dd td n) p))), (6, .int (zI (smF (llS da mb dd td n) p))), (4, .ref wa), (3, .ref mx), (2, .int (zI (n : Int))), (0, .ref a), (1, .ref (q 0))]) hx hb dX3_isSame_337 hl (by decide) rfl (fun ls hl => ?_)
                            refine lv_iload hx hb dX3_isSame_339 (lv_at hl 8 rfl) ?_
                            refine lv_iload hx hb dX3_isSame_341 (lv_at hl 3 rfl) ?_
                            refine zr_iadd (v := (smF (llS da mb dd td n) p) + (lfS mo M td (p : Int) (-1))) hx hb rfl dX3_isSame_343 ?_
                            refine lv_istore (lv' := [(6, .int (zI ((smF (llS da mb dd td n) p) + (lfS mo M td (p : Int) (-1))))), (5, .int (zI ((smF al p) + (al (p : Int))))), (13, .int (zI (wrF mo M td (p : Int)))), (12, .ref kn), (11, .int (zI (lfS mo M td (p : Int) (-1)))), (10, .int (zI (smF (gtF (lf da mb dd td (p : Int))) n))), (9, .int (zI (p : Int))), (8, .int (zI (lgF (llS da mb dd td n) p))), (7, .int (zI (mxF (llS da mb dd td n) p))), (4, .ref wa), (3, .ref mx), (2, .int (zI (n : Int))), (0, .ref a), (1, .ref (q 0))]) hx hb dX3_isSame_344 hl (by decide) rfl (fun ls hl => ?_)
                            refine lv_iload hx hb dX3_isSame_346 (lv_at hl 4 rfl) ?_
                            refine lv_iload hx hb dX3_isSame_348 (lv_at hl 8 rfl) ?_
                            refine zr_icmp_gt (tgt := 356) hx hb dX3_isSame_350 (by decide) ⟨by omega, by omega⟩ ⟨by omega, by omega⟩ (fun c_46 => ?_) (fun c_46 => ?_)
                            · have c_46 := c_46
                              refine lv_iload hx hb dX3_isSame_356 (lv_at hl 4 rfl) ?_
                              refine lv_istore (lv' := [(7, .int (zI (lfS mo M td (p : Int) (-1)))), (6, .int (zI ((smF (llS da mb dd td n) p) + (lfS mo M td (p : Int) (-1))))), (5, .int (zI ((smF al p) + (al (p : Int))))), (13, .int (zI (wrF mo M td (p : Int)))), (12, .ref kn), (11, .int (zI (lfS mo M td (p : Int) (-1)))), (10, .int (zI (smF (gtF (lf da mb dd td (p : Int))) n))), (9, .int (zI (p : Int))), (8, .int (zI (lgF (llS da mb dd td n) p))), (4, .ref wa), (3, .ref mx), (2, .int (zI (n : Int))), (0, .ref a), (1, .ref (q 0))]) hx hb dX3_isSame_358 hl (by decide) rfl (fun ls hl => ?_)
                              refine lv_iload hx hb dX3_isSame_360 (lv_at hl 7 rfl) ?_
                              refine lv_istore (lv' := [(8, .int (zI (p : Int))), (7, .int (zI (lfS mo M td (p : Int) (-1)))), (6, .int (zI ((smF (llS da mb dd td n) p) + (lfS mo M td (p : Int) (-1))))), (5, .int (zI ((smF al p) + (al (p : Int))))), (13, .int (zI (wrF mo M td (p : Int)))), (12, .ref kn), (11, .int (zI (lfS mo M td (p : Int) (-1)))), (10, .int (zI (smF (gtF (lf da mb dd td (p : Int))) n))), (9, .int (zI (p : Int))), (4, .ref wa), (3, .ref mx), (2, .int (zI (n : Int))), (0, .ref a), (1, .ref (q 0))]) hx hb dX3_isSame_362 hl (by decide) rfl (fun ls hl => ?_)
                              refine zr_iinc (v := (p : Int) + 1) (lv' := [(9, .int (zI ((p : Int) + 1))), (8, .int (zI (p : Int))), (7, .int (zI (lfS mo M td (p : Int) (-1)))), (6, .int (zI ((smF (llS da mb dd td n) p) + (lfS mo M td (p : Int) (-1))))), (5, .int (zI ((smF al p) + (al (p : Int))))), (13, .int (zI (wrF mo M td (p : Int)))), (12, .ref kn), (11, .int (zI (lfS mo M td (p : Int) (-1)))), (10, .int (zI (smF (gtF (lf da mb dd td (p : Int))) n))), (4, .ref wa), (3, .ref mx), (2, .int (zI (n : Int))), (0, .ref a), (1, .ref (q 0))]) hx hb dX3_isSame_364 hl (k := 8) rfl rfl (by decide) rfl (fun ls hl => ?_)
                              refine lv_goto (tgt := 32) hx hb dX3_isSame_367 (by decide) ?_
                              have hl := lv_sub hl (l' := [(9, .int (zI ((p : Int) + 1))), (8, .int (zI (p : Int))), (7, .int (zI (lfS mo M td (p : Int) (-1)))), (6, .int (zI ((smF (llS da mb dd td n) p) + (lfS mo M td (p : Int) (-1))))), (5, .int (zI ((smF al p) + (al (p : Int))))), (4, .ref wa), (3, .ref mx), (2, .int (zI (n : Int))), (0, .ref a), (1, .ref (q 0))]) [0, 1, 2, 3, 4, 9, 10, 11, 12, 13] rfl
                              have e_47 : ((((p + 1) : Nat) : Int) : Int) = (p : Int) + 1 := by omega
                              have e_48 : (lgF (llS da mb dd td n) (p + 1) : Int) = (p : Int) := by first | exact lgF_y (by omega) | exact lgF_n (by omega)
                              have e_49 : (mxF (llS da mb dd td n) (p + 1) : Int) = lfS mo M td (p : Int) (-1) := by rw [mxF_s]; omega
                              have e_50 : (smF (llS da mb dd td n) (p + 1) : Int) = (smF (llS da mb dd td n) p) + (lfS mo M td (p : Int) (-1)) := by rw [smF_s, hlp]; rfl
                              have e_51 : (smF al (p + 1) : Int) = (smF al p) + (al (p : Int)) := by rw [smF_s]
                              have hl : lv_has ls 14 [(9, .int (zI (((p + 1) : Nat) : Int))), (8, .int (zI (lgF (llS da mb dd td n) (p + 1)))), (7, .int (zI (mxF (llS da mb dd td n) (p + 1)))), (6, .int (zI (smF (llS da mb dd td n) (p + 1)))), (5, .int (zI (smF al (p + 1)))), (4, .ref wa), (3, .ref mx), (2, .int (zI (n : Int))), (0, .ref a), (1, .ref (q 0))] := by rw [e_47, e_48, e_49, e_50, e_51]; exact hl
                              exact ih_p (p + 1) (by omega) (by omega) _ _ _ dg3 _ _ hC hM hi_wa hS hl  (by omega) (by omega)
                            · have c_46 := c_46
                              refine lv_goto (tgt := 364) hx hb dX3_isSame_353 (by decide) ?_
                              refine zr_iinc (v := (p : Int) + 1) (lv' := [(9, .int (zI ((p : Int) + 1))), (6, .int (zI ((smF (llS da mb dd td n) p) + (lfS mo M td (p : Int) (-1))))), (5, .int (zI ((smF al p) + (al (p : Int))))), (13, .int (zI (wrF mo M td (p : Int)))), (12, .ref kn), (11, .int (zI (lfS mo M td (p : Int) (-1)))), (10, .int (zI (smF (gtF (lf da mb dd td (p : Int))) n))), (8, .int (zI (lgF (llS da mb dd td n) p))), (7, .int (zI (mxF (llS da mb dd td n) p))), (4, .ref wa), (3, .ref mx), (2, .int (zI (n : Int))), (0, .ref a), (1, .ref (q 0))]) hx hb dX3_isSame_364 hl (k := 6) rfl rfl (by decide) rfl (fun ls hl => ?_)
                              refine lv_goto (tgt := 32) hx hb dX3_isSame_367 (by decide) ?_
                              have hl := lv_sub hl (l' := [(9, .int (zI ((p : Int) + 1))), (8, .int (zI (lgF (llS da mb dd td n) p))), (7, .int (zI (mxF (llS da mb dd td n) p))), (6, .int (zI ((smF (llS da mb dd td n) p) + (lfS mo M td (p : Int) (-1))))), (5, .int (zI ((smF al p) + (al (p : Int))))), (4, .ref wa), (3, .ref mx), (2, .int (zI (n : Int))), (0, .ref a), (1, .ref (q 0))]) [0, 7, 8, 1, 2, 9, 10, 11, 12, 13] rfl
                              have e_52 : ((((p + 1) : Nat) : Int) : Int) = (p : Int) + 1 := by omega
                              have e_53 : (lgF (llS da mb dd td n) (p + 1) : Int) = lgF (llS da mb dd td n) p := by first | exact lgF_y (by omega) | exact lgF_n (by omega)
                              have e_54 : (mxF (llS da mb dd td n) (p + 1) : Int) = mxF (llS da mb dd td n) p := by rw [mxF_s]; omega
                              have e_55 : (smF (llS da mb dd td n) (p + 1) : Int) = (smF (llS da mb dd td n) p) + (lfS mo M td (p : Int) (-1)) := by rw [smF_s, hlp]; rfl
                              have e_56 : (smF al (p + 1) : Int) = (smF al p) + (al (p : Int)) := by rw [smF_s]
                              have hl : lv_has ls 14 [(9, .int (zI (((p + 1) : Nat) : Int))), (8, .int (zI (lgF (llS da mb dd td n) (p + 1)))), (7, .int (zI (mxF (llS da mb dd td n) (p + 1)))), (6, .int (zI (smF (llS da mb dd td n) (p + 1)))), (5, .int (zI (smF al (p + 1)))), (4, .ref wa), (3, .ref mx), (2, .int (zI (n : Int))), (0, .ref a), (1, .ref (q 0))] := by rw [e_52, e_53, e_54, e_55, e_56]; exact hl
                              exact ih_p (p + 1) (by omega) (by omega) _ _ _ dg3 _ _ hC hM hi_wa hS hl  (by omega) (by omega)
                          · have c_41 := c_41
                            refine zr_iconst hx hb dX3_isSame_229 ?_
                            refine lv_goto (tgt := 234) hx hb dX3_isSame_230 (by decide) ?_
                            refine zr_icmp_neF (tgt := 306) hx hb (by omega) dX3_isSame_234 (by decide) ?_
                            refine lv_aload_n hx hb dX3_isSame_237 rfl (lv_at hl 13 rfl) ?_
                            refine lv_iload hx hb dX3_isSame_238 (lv_at hl 4 rfl) ?_
                            refine zcallV (ci := 2) (q0 := 0) (cq := (RX2, TX2, 9)) (As := [.int (zI (p : Int))]) (rest := []) ⟨hx, hb, hml, hown, hts⟩ hK (kX2_parentOfok l D cI cZ q hN pa sp al dg3 co da mb dd ah wl lo n td wn hn hpa (p : Int) (by omega)) (cwV 1 hts gX3_isSame_X2_parentOf rfl rfl rfl (by decide +kernel) ⟨Nat.le_of_ble_eq_true rfl, Nat.le_of_ble_eq_true rfl⟩) hC hS (fun x h => Or.inl h) rfl rfl rfl hl.1 rfl (Nat.le_of_ble_eq_true rfl) dX3_isSame_240 ⟨show cc + 1 ≤ 40 from by omega, show ss + 5 ≤ 400 from by omega⟩ (fun H locs hC hS hz9 hk9 => ?_)
                            have hkq := fun (x : Nat) (h1 : x < _) (h2 : s0 ≤ x) => hk9 x h1 (fun h => absurd (hq0 x h) (Nat.not_lt.mpr h2))
                            have hM := mA.keepq hM (by omega) hkq
                            have hi_wa := vA.kept hi_wa (hkq _ (vA.lt hi_wa) (by omega))
                            have hi_kn := vA.kept hi_kn (hkq _ (vA.lt hi_kn) (by omega))
                            have hU : s9.heap.size ≤ H.size := hS.1
                            have hkp : ∀ x : Nat, s0 ≤ x → x < s9.heap.size → H[x]? = s9.heap[x]? := fun x h1 h2 => hS.2.1 x h2 (fun h => h.elim (fun h => absurd (hq0 x h) (Nat.not_lt.mpr h1)) (fun h => absurd h (Nat.not_le.mpr h2)))
                            have hL := hL0.keep hkp
                            refine W.eq (g2 := F0 m9 243 ls [.int (zI (pa (p : Int)))]) rfl ?_
                            refine lv_aload_n hx hb dX3_isSame_243 rfl (lv_at hl 12 rfl) ?_
                            refine va_get (D := D) (ci := 3) (v := .ref ap) (C := RX3) (T := TX3) (N := 5) hx hb hts hin3 hown hK hL.obj 0 rfl rfl 2 (by decide) (hts (.fieldLink RX3 9 "MourningRibbonsLaw$Sim" "people" "[[I") (by decide +kernel)) (fun _ h9 => h9) rfl dX3_isSame_244 ?_
                            refine lv_iload hx hb dX3_isSame_247 (lv_at hl 4 rfl) ?_
                            refine zs_ald1 (v := .ref (ra (p : Int))) (i := (p : Int)) hx hb hQ hL.ppl (by omega) (by omega) (by have := hL.n16; omega) rfl dX3_isSame_249 ?_
                            refine zr_iconst hx hb dX3_isSame_250 ?_
                            refine zs_ild (v := pa (p : Int)) (i := 0) hx hb hQ (hL.row (p : Int) (by omega) (by omega)) (by decide) (by decide) (by decide) rfl dX3_isSame_251 ?_
                            have b_57 := hpa (p : Int)
                            refine zr_icmp_neF (tgt := 306) hx hb rfl dX3_isSame_252 (by decide) ?_
                            refine lv_aload_n hx hb dX3_isSame_255 rfl (lv_at hl 13 rfl) ?_
                            refine lv_iload hx hb dX3_isSame_256 (lv_at hl 4 rfl) ?_
                            refine zcallV (ci := 2) (q0 := 0) (cq := (RX2, TX2, 9)) (As := [.int (zI (p : Int))]) (rest := []) ⟨hx, hb, hml, hown, hts⟩ hK (kX2_marriedTook l D cI cZ q hN pa sp al dg3 co da mb dd ah wl lo n td wn hn hsp (p : Int) (by omega)) (cwV 1 hts gX3_isSame_X2_marriedTo rfl rfl rfl (by decide +kernel) ⟨Nat.le_of_ble_eq_true rfl, Nat.le_of_ble_eq_true rfl⟩) hC hS (fun x h => Or.inl h) rfl rfl rfl hl.1 rfl (Nat.le_of_ble_eq_true rfl) dX3_isSame_258 ⟨show cc + 1 ≤ 40 from by omega, show ss + 5 ≤ 400 from by omega⟩ (fun H locs hC hS hz9 hk9 => ?_)
                            have hkq := fun (x : Nat) (h1 : x < _) (h2 : s0 ≤ x) => hk9 x h1 (fun h => absurd (hq0 x h) (Nat.not_lt.mpr h2))
                            have hM := mA.keepq hM (by omega) hkq
                            have hi_wa := vA.kept hi_wa (hkq _ (vA.lt hi_wa) (by omega))
                            have hi_kn := vA.kept hi_kn (hkq _ (vA.lt hi_kn) (by omega))
                            have hU : s9.heap.size ≤ H.size := hS.1
                            have hkp : ∀ x : Nat, s0 ≤ x → x < s9.heap.size → H[x]? = s9.heap[x]? := fun x h1 h2 => hS.2.1 x h2 (fun h => h.elim (fun h => absurd (hq0 x h) (Nat.not_lt.mpr h1)) (fun h => absurd h (Nat.not_le.mpr h2)))
                            have hL := hL0.keep hkp
                            refine W.eq (g2 := F0 m9 261 ls [.int (zI (sp (p : Int)))]) rfl ?_
                            refine lv_aload_n hx hb dX3_isSame_261 rfl (lv_at hl 12 rfl) ?_
                            refine va_get (D := D) (ci := 3) (v := .ref ap) (C := RX3) (T := TX3) (N := 5) hx hb hts hin3 hown hK hL.obj 0 rfl rfl 2 (by decide) (hts (.fieldLink RX3 9 "MourningRibbonsLaw$Sim" "people" "[[I") (by decide +kernel)) (fun _ h9 => h9) rfl dX3_isSame_262 ?_
                            refine lv_iload hx hb dX3_isSame_265 (lv_at hl 4 rfl) ?_
                            refine zs_ald1 (v := .ref (ra (p : Int))) (i := (p : Int)) hx hb hQ hL.ppl (by omega) (by omega) (by have := hL.n16; omega) rfl dX3_isSame_267 ?_
                            refine zr_iconst hx hb dX3_isSame_268 ?_
                            refine zs_ild (v := sp (p : Int)) (i := 1) hx hb hQ (hL.row (p : Int) (by omega) (by omega)) (by decide) (by decide) (by decide) rfl dX3_isSame_269 ?_
                            have b_58 := hsp (p : Int)
                            refine zr_icmp_neF (tgt := 306) hx hb rfl dX3_isSame_270 (by decide) ?_
                            refine lv_aload_n hx hb dX3_isSame_273 rfl (lv_at hl 13 rfl) ?_
                            refine lv_iload hx hb dX3_isSame_274 (lv_at hl 4 rfl) ?_
                            refine zcallV (ci := 2) (q0 := 0) (cq := (RX2, TX2, 9)) (As := [.int (zI (p : Int))]) (rest := []) ⟨hx, hb, hml, hown, hts⟩ hK (kX2_colourOfok l D cI cZ q hN pa sp al dg3 co da mb dd ah wl lo n td wn hn hco hda hmb hdd htd (p : Int) (by omega)) (cwV 1 hts gX3_isSame_X2_colourOf rfl rfl rfl (by decide +kernel) ⟨Nat.le_of_ble_eq_true rfl, Nat.le_of_ble_eq_true rfl⟩) hC hS (fun x h => Or.inl h) rfl rfl rfl hl.1 rfl (Nat.le_of_ble_eq_true rfl) dX3_isSame_276 ⟨show cc + 1 ≤ 40 from by omega, show ss + 5 ≤ 400 from by omega⟩ (fun H locs hC hS hz9 hk9 => ?_)
                            have hkq := fun (x : Nat) (h1 : x < _) (h2 : s0 ≤ x) => hk9 x h1 (fun h => absurd (hq0 x h) (Nat.not_lt.mpr h2))
                            have hM := mA.keepq hM (by omega) hkq
                            have hi_wa := vA.kept hi_wa (hkq _ (vA.lt hi_wa) (by omega))
                            have hi_kn := vA.kept hi_kn (hkq _ (vA.lt hi_kn) (by omega))
                            have hU : s9.heap.size ≤ H.size := hS.1
                            have hkp : ∀ x : Nat, s0 ≤ x → x < s9.heap.size → H[x]? = s9.heap[x]? := fun x h1 h2 => hS.2.1 x h2 (fun h => h.elim (fun h => absurd (hq0 x h) (Nat.not_lt.mpr h1)) (fun h => absurd h (Nat.not_le.mpr h2)))
                            have hL := hL0.keep hkp
                            refine W.eq (g2 := F0 m9 279 ls [.int (zI (ca co da mb dd td n (p : Int) 0))]) rfl ?_
                            refine lv_iload hx hb dX3_isSame_279 (lv_at hl 0 rfl) ?_
                            refine zr_icmp_neF (tgt := 306) hx hb hwp.symm dX3_isSame_281 (by decide) ?_
                            refine lv_aload_n hx hb dX3_isSame_284 rfl (lv_at hl 13 rfl) ?_
                            refine lv_iload hx hb dX3_isSame_285 (lv_at hl 4 rfl) ?_
                            refine zcallV (ci := 2) (q0 := 0) (cq := (RX2, TX2, 9)) (As := [.int (zI (p : Int))]) (rest := []) ⟨hx, hb, hml, hown, hts⟩ hK (kX2_mourningsOfok l D cI cZ q hN pa sp al dg3 co da mb dd ah wl lo n td wn hn hda hmb hdd htd (p : Int) (by omega)) (cwV 1 hts gX3_isSame_X2_mourningsOf rfl rfl rfl (by decide +kernel) ⟨Nat.le_of_ble_eq_true rfl, Nat.le_of_ble_eq_true rfl⟩) hC hS (fun x h => Or.inl h) rfl rfl rfl hl.1 rfl (Nat.le_of_ble_eq_true rfl) dX3_isSame_287 ⟨show cc + 1 ≤ 40 from by omega, show ss + 5 ≤ 400 from by omega⟩ (fun H locs hC hS hz9 hk9 => ?_)
                            have hkq := fun (x : Nat) (h1 : x < _) (h2 : s0 ≤ x) => hk9 x h1 (fun h => absurd (hq0 x h) (Nat.not_lt.mpr h2))
                            have hM := mA.keepq hM (by omega) hkq
                            have hi_wa := vA.kept hi_wa (hkq _ (vA.lt hi_wa) (by omega))
                            have hi_kn := vA.kept hi_kn (hkq _ (vA.lt hi_kn) (by omega))
                            have hU : s9.heap.size ≤ H.size := hS.1
                            have hkp : ∀ x : Nat, s0 ≤ x → x < s9.heap.size → H[x]? = s9.heap[x]? := fun x h1 h2 => hS.2.1 x h2 (fun h => h.elim (fun h => absurd (hq0 x h) (Nat.not_lt.mpr h1)) (fun h => absurd h (Nat.not_le.mpr h2)))
                            have hL := hL0.keep hkp
                            refine W.eq (g2 := F0 m9 290 ls [.int (zI (smF (gtF (lf da mb dd td (p : Int))) n))]) rfl ?_
                            refine lv_iload hx hb dX3_isSame_290 (lv_at hl 3 rfl) ?_
                            refine zr_icmp_neF (tgt := 306) hx hb rfl dX3_isSame_292 (by decide) ?_
                            refine lv_aload_n hx hb dX3_isSame_295 rfl (lv_at hl 13 rfl) ?_
                            refine lv_iload hx hb dX3_isSame_296 (lv_at hl 4 rfl) ?_
                            refine zcallV (ci := 2) (q0 := 0) (cq := (RX2, TX2, 9)) (As := [.int (zI (p : Int))]) (rest := []) ⟨hx, hb, hml, hown, hts⟩ hK (kX2_daysLeftok l D cI cZ q hN pa sp al dg3 co da mb dd ah wl lo n td wn hn hda hmb hdd htd (p : Int) (by omega)) (cwV 1 hts gX3_isSame_X2_daysLeft rfl rfl rfl (by decide +kernel) ⟨Nat.le_of_ble_eq_true rfl, Nat.le_of_ble_eq_true rfl⟩) hC hS (fun x h => Or.inl h) rfl rfl rfl hl.1 rfl (Nat.le_of_ble_eq_true rfl) dX3_isSame_298 ⟨show cc + 1 ≤ 40 from by omega, show ss + 5 ≤ 400 from by omega⟩ (fun H locs hC hS hz9 hk9 => ?_)
                            have hkq := fun (x : Nat) (h1 : x < _) (h2 : s0 ≤ x) => hk9 x h1 (fun h => absurd (hq0 x h) (Nat.not_lt.mpr h2))
                            have hM := mA.keepq hM (by omega) hkq
                            have hi_wa := vA.kept hi_wa (hkq _ (vA.lt hi_wa) (by omega))
                            have hi_kn := vA.kept hi_kn (hkq _ (vA.lt hi_kn) (by omega))
                            have hU : s9.heap.size ≤ H.size := hS.1
                            have hkp : ∀ x : Nat, s0 ≤ x → x < s9.heap.size → H[x]? = s9.heap[x]? := fun x h1 h2 => hS.2.1 x h2 (fun h => h.elim (fun h => absurd (hq0 x h) (Nat.not_lt.mpr h1)) (fun h => absurd h (Nat.not_le.mpr h2)))
                            have hL := hL0.keep hkp
                            refine W.eq (g2 := F0 m9 301 ls [.int (zI (mxF (lf da mb dd td (p : Int)) n))]) rfl ?_
                            refine lv_iload hx hb dX3_isSame_301 (lv_at hl 2 rfl) ?_
                            refine zr_icmp_eqT (tgt := 308) hx hb hlp.symm dX3_isSame_303 (by decide) ?_
                            refine lv_aload hx hb dX3_isSame_308 (lv_at hl 9 rfl) ?_
                            refine lv_iload hx hb dX3_isSame_310 (lv_at hl 0 rfl) ?_
                            refine lv_dup2_11 hx hb dX3_isSame_312 rfl rfl ?_
                            refine zs_ild (v := smF (cwF al co da mb dd td n (wrF mo M td (p : Int))) p) (i := wrF mo M td (p : Int)) hx hb hQ hi_wa (by omega) (by omega) (by decide) rfl dX3_isSame_313 ?_
                            refine lv_aload_n hx hb dX3_isSame_314 rfl (lv_at hl 12 rfl) ?_
                            refine va_get (D := D) (ci := 3) (v := .ref ap) (C := RX3) (T := TX3) (N := 5) hx hb hts hin3 hown hK hL.obj 0 rfl rfl 2 (by decide) (hts (.fieldLink RX3 9 "MourningRibbonsLaw$Sim" "people" "[[I") (by decide +kernel)) (fun _ h9 => h9) rfl dX3_isSame_315 ?_
                            refine lv_iload hx hb dX3_isSame_318 (lv_at hl 4 rfl) ?_
                            refine zs_ald1 (v := .ref (ra (p : Int))) (i := (p : Int)) hx hb hQ hL.ppl (by omega) (by omega) (by have := hL.n16; omega) rfl dX3_isSame_320 ?_
                            refine zr_iconst hx hb dX3_isSame_321 ?_
                            refine zs_ild (v := al (p : Int)) (i := 2) hx hb hQ (hL.row (p : Int) (by omega) (by omega)) (by decide) (by decide) (by decide) rfl dX3_isSame_322 ?_
                            have b_59 := hal (p : Int)
                            refine zr_iadd (v := (smF (cwF al co da mb dd td n (wrF mo M td (p : Int))) p) + (al (p : Int))) hx hb rfl dX3_isSame_323 ?_
                            refine zs_ist (i := wrF mo M td (p : Int)) (x := (smF (cwF al co da mb dd td n (wrF mo M td (p : Int))) p) + (al (p : Int))) hx hb hQ hi_wa hS (Or.inr hge_wa) (by omega) (by omega) (by decide) dX3_isSame_324 (fun H locs hv9 hz9 hk9 hS => ?_)
                            have hC := zkeepW hC rfl hk9 (fun h => by have := hq0 _ h; omega)
                            have hM := mA.keepW hM hk9 (by omega)
                            have hi_kn := vA.kept hi_kn (hk9 _ (by omega))
                            rw [hwp] at hv9
                            have hi_wa : iA cI H wa 6 (fun c => smF (cwF al co da mb dd td n c) (p + 1)) := by rw [up_cnt (F := cwF al co da mb dd td n) (if_al (hal (p : Int))) (fun c hc => if_neg (fun q => hc q.2.symm))] at hv9; exact hv9
                            have hU : s9.heap.size ≤ H.size := hS.1
                            have hkp : ∀ x : Nat, s0 ≤ x → x < s9.heap.size → H[x]? = s9.heap[x]? := fun x h1 h2 => hS.2.1 x h2 (fun h => h.elim (fun h => absurd (hq0 x h) (Nat.not_lt.mpr h1)) (fun h => absurd h (Nat.not_le.mpr h2)))
                            have hL := hL0.keep hkp
                            refine lv_iload hx hb dX3_isSame_325 (lv_at hl 8 rfl) ?_
                            refine lv_aload_n hx hb dX3_isSame_327 rfl (lv_at hl 12 rfl) ?_
                            refine va_get (D := D) (ci := 3) (v := .ref ap) (C := RX3) (T := TX3) (N := 5) hx hb hts hin3 hown hK hL.obj 0 rfl rfl 2 (by decide) (hts (.fieldLink RX3 9 "MourningRibbonsLaw$Sim" "people" "[[I") (by decide +kernel)) (fun _ h9 => h9) rfl dX3_isSame_328 ?_
                            refine lv_iload hx hb dX3_isSame_331 (lv_at hl 4 rfl) ?_
                            refine zs_ald1 (v := .ref (ra (p : Int))) (i := (p : Int)) hx hb hQ hL.ppl (by omega) (by omega) (by have := hL.n16; omega) rfl dX3_isSame_333 ?_
                            refine zr_iconst hx hb dX3_isSame_334 ?_
                            refine zs_ild (v := al (p : Int)) (i := 2) hx hb hQ (hL.row (p : Int) (by omega) (by omega)) (by decide) (by decide) (by decide) rfl dX3_isSame_335 ?_
                            have b_60 := hal (p : Int)
                            refine zr_iadd (v := (smF al p) + (al (p : Int))) hx hb rfl dX3_isSame_336 ?_
                            refine lv_istore (lv' := [(5, .int (zI ((smF al p) + (al (p : Int))))), (13, .int (zI (wrF mo M td (p : Int)))), (12, .ref kn), (11, .int (zI (lfS mo M td (p : Int) (-1)))), (10, .int (zI (smF (gtF (lf da mb dd td (p : Int))) n))), (9, .int (zI (p : Int))), (8, .int (zI (lgF (llS da mb dd td n) p))), (7, .int (zI (mxF (llS da mb dd td n) p))), (6, .int (zI (smF (llS da mb dd td n) p))), (4, .ref wa), (3, .ref mx), (2, .int (zI (n : Int))), (0, .ref a), (1, .ref (q 0))]) hx hb dX3_isSame_337 hl (by decide) rfl (fun ls hl => ?_)
                            refine lv_iload hx hb dX3_isSame_339 (lv_at hl 8 rfl) ?_
                            refine lv_iload hx hb dX3_isSame_341 (lv_at hl 3 rfl) ?_
                            refine zr_iadd (v := (smF (llS da mb dd td n) p) + (lfS mo M td (p : Int) (-1))) hx hb rfl dX3_isSame_343 ?_
                            refine lv_istore (lv' := [(6, .int (zI ((smF (llS da mb dd td n) p) + (lfS mo M td (p : Int) (-1))))), (5, .int (zI ((smF al p) + (al (p : Int))))), (13, .int (zI (wrF mo M td (p : Int)))), (12, .ref kn), (11, .int (zI (lfS mo M td (p : Int) (-1)))), (10, .int (zI (smF (gtF (lf da mb dd td (p : Int))) n))), (9, .int (zI (p : Int))), (8, .int (zI (lgF (llS da mb dd td n) p))), (7, .int (zI (mxF (llS da mb dd td n) p))), (4, .ref wa), (3, .ref mx), (2, .int (zI (n : Int))), (0, .ref a), (1, .ref (q 0))]) hx hb dX3_isSame_344 hl (by decide) rfl (fun ls hl => ?_)
                            refine lv_iload hx hb dX3_isSame_346 (lv_at hl 4 rfl) ?_
                            refine lv_iload hx hb dX3_isSame_348 (lv_at hl 8 rfl) ?_
                            refine zr_icmp_gt (tgt := 356) hx hb dX3_isSame_350 (by decide) ⟨by omega, by omega⟩ ⟨by omega, by omega⟩ (fun c_61 => ?_) (fun c_61 => ?_)
                            · have c_61 := c_61
                              refine lv_iload hx hb dX3_isSame_356 (lv_at hl 4 rfl) ?_
                              refine lv_istore (lv' := [(7, .int (zI (lfS mo M td (p : Int) (-1)))), (6, .int (zI ((smF (llS da mb dd td n) p) + (lfS mo M td (p : Int) (-1))))), (5, .int (zI ((smF al p) + (al (p : Int))))), (13, .int (zI (wrF mo M td (p : Int)))), (12, .ref kn), (11, .int (zI (lfS mo M td (p : Int) (-1)))), (10, .int (zI (smF (gtF (lf da mb dd td (p : Int))) n))), (9, .int (zI (p : Int))), (8, .int (zI (lgF (llS da mb dd td n) p))), (4, .ref wa), (3, .ref mx), (2, .int (zI (n : Int))), (0, .ref a), (1, .ref (q 0))]) hx hb dX3_isSame_358 hl (by decide) rfl (fun ls hl => ?_)
                              refine lv_iload hx hb dX3_isSame_360 (lv_at hl 7 rfl) ?_
                              refine lv_istore (lv' := [(8, .int (zI (p : Int))), (7, .int (zI (lfS mo M td (p : Int) (-1)))), (6, .int (zI ((smF (llS da mb dd td n) p) + (lfS mo M td (p : Int) (-1))))), (5, .int (zI ((smF al p) + (al (p : Int))))), (13, .int (zI (wrF mo M td (p : Int)))), (12, .ref kn), (11, .int (zI (lfS mo M td (p : Int) (-1)))), (10, .int (zI (smF (gtF (lf da mb dd td (p : Int))) n))), (9, .int (zI (p : Int))), (4, .ref wa), (3, .ref mx), (2, .int (zI (n : Int))), (0, .ref a), (1, .ref (q 0))]) hx hb dX3_isSame_362 hl (by decide) rfl (fun ls hl => ?_)
                              refine zr_iinc (v := (p : Int) + 1) (lv' := [(9, .int (zI ((p : Int) + 1))), (8, .int (zI (p : Int))), (7, .int (zI (lfS mo M td (p : Int) (-1)))), (6, .int (zI ((smF (llS da mb dd td n) p) + (lfS mo M td (p : Int) (-1))))), (5, .int (zI ((smF al p) + (al (p : Int))))), (13, .int (zI (wrF mo M td (p : Int)))), (12, .ref kn), (11, .int (zI (lfS mo M td (p : Int) (-1)))), (10, .int (zI (smF (gtF (lf da mb dd td (p : Int))) n))), (4, .ref wa), (3, .ref mx), (2, .int (zI (n : Int))), (0, .ref a), (1, .ref (q 0))]) hx hb dX3_isSame_364 hl (k := 8) rfl rfl (by decide) rfl (fun ls hl => ?_)
                              refine lv_goto (tgt := 32) hx hb dX3_isSame_367 (by decide) ?_
                              have hl := lv_sub hl (l' := [(9, .int (zI ((p : Int) + 1))), (8, .int (zI (p : Int))), (7, .int (zI (lfS mo M td (p : Int) (-1)))), (6, .int (zI ((smF (llS da mb dd td n) p) + (lfS mo M td (p : Int) (-1))))), (5, .int (zI ((smF al p) + (al (p : Int))))), (4, .ref wa), (3, .ref mx), (2, .int (zI (n : Int))), (0, .ref a), (1, .ref (q 0))]) [0, 1, 2, 3, 4, 9, 10, 11, 12, 13] rfl
                              have e_62 : ((((p + 1) : Nat) : Int) : Int) = (p : Int) + 1 := by omega
                              have e_63 : (lgF (llS da mb dd td n) (p + 1) : Int) = (p : Int) := by first | exact lgF_y (by omega) | exact lgF_n (by omega)
                              have e_64 : (mxF (llS da mb dd td n) (p + 1) : Int) = lfS mo M td (p : Int) (-1) := by rw [mxF_s]; omega
                              have e_65 : (smF (llS da mb dd td n) (p + 1) : Int) = (smF (llS da mb dd td n) p) + (lfS mo M td (p : Int) (-1)) := by rw [smF_s, hlp]; rfl
                              have e_66 : (smF al (p + 1) : Int) = (smF al p) + (al (p : Int)) := by rw [smF_s]
                              have hl : lv_has ls 14 [(9, .int (zI (((p + 1) : Nat) : Int))), (8, .int (zI (lgF (llS da mb dd td n) (p + 1)))), (7, .int (zI (mxF (llS da mb dd td n) (p + 1)))), (6, .int (zI (smF (llS da mb dd td n) (p + 1)))), (5, .int (zI (smF al (p + 1)))), (4, .ref wa), (3, .ref mx), (2, .int (zI (n : Int))), (0, .ref a), (1, .ref (q 0))] := by rw [e_62, e_63, e_64, e_65, e_66]; exact hl
                              exact ih_p (p + 1) (by omega) (by omega) _ _ _ dg3 _ _ hC hM hi_wa hS hl  (by omega) (by omega)
                            · have c_61 := c_61
                              refine lv_goto (tgt := 364) hx hb dX3_isSame_353 (by decide) ?_
                              refine zr_iinc (v := (p : Int) + 1) (lv' := [(9, .int (zI ((p : Int) + 1))), (6, .int (zI ((smF (llS da mb dd td n) p) + (lfS mo M td (p : Int) (-1))))), (5, .int (zI ((smF al p) + (al (p : Int))))), (13, .int (zI (wrF mo M td (p : Int)))), (12, .ref kn), (11, .int (zI (lfS mo M td (p : Int) (-1)))), (10, .int (zI (smF (gtF (lf da mb dd td (p : Int))) n))), (8, .int (zI (lgF (llS da mb dd td n) p))), (7, .int (zI (mxF (llS da mb dd td n) p))), (4, .ref wa), (3, .ref mx), (2, .int (zI (n : Int))), (0, .ref a), (1, .ref (q 0))]) hx hb dX3_isSame_364 hl (k := 6) rfl rfl (by decide) rfl (fun ls hl => ?_)
                              refine lv_goto (tgt := 32) hx hb dX3_isSame_367 (by decide) ?_
                              have hl := lv_sub hl (l' := [(9, .int (zI ((p : Int) + 1))), (8, .int (zI (lgF (llS da mb dd td n) p))), (7, .int (zI (mxF (llS da mb dd td n) p))), (6, .int (zI ((smF (llS da mb dd td n) p) + (lfS mo M td (p : Int) (-1))))), (5, .int (zI ((smF al p) + (al (p : Int))))), (4, .ref wa), (3, .ref mx), (2, .int (zI (n : Int))), (0, .ref a), (1, .ref (q 0))]) [0, 7, 8, 1, 2, 9, 10, 11, 12, 13] rfl
                              have e_67 : ((((p + 1) : Nat) : Int) : Int) = (p : Int) + 1 := by omega
                              have e_68 : (lgF (llS da mb dd td n) (p + 1) : Int) = lgF (llS da mb dd td n) p := by first | exact lgF_y (by omega) | exact lgF_n (by omega)
                              have e_69 : (mxF (llS da mb dd td n) (p + 1) : Int) = mxF (llS da mb dd td n) p := by rw [mxF_s]; omega
                              have e_70 : (smF (llS da mb dd td n) (p + 1) : Int) = (smF (llS da mb dd td n) p) + (lfS mo M td (p : Int) (-1)) := by rw [smF_s, hlp]; rfl
                              have e_71 : (smF al (p + 1) : Int) = (smF al p) + (al (p : Int)) := by rw [smF_s]
                              have hl : lv_has ls 14 [(9, .int (zI (((p + 1) : Nat) : Int))), (8, .int (zI (lgF (llS da mb dd td n) (p + 1)))), (7, .int (zI (mxF (llS da mb dd td n) (p + 1)))), (6, .int (zI (smF (llS da mb dd td n) (p + 1)))), (5, .int (zI (smF al (p + 1)))), (4, .ref wa), (3, .ref mx), (2, .int (zI (n : Int))), (0, .ref a), (1, .ref (q 0))] := by rw [e_67, e_68, e_69, e_70, e_71]; exact hl
                              exact ih_p (p + 1) (by omega) (by omega) _ _ _ dg3 _ _ hC hM hi_wa hS hl  (by omega) (by omega)
                        · have c_37 := c_37
                          refine lv_aload_n hx hb dX3_isSame_174 rfl (lv_at hl 13 rfl) ?_
                          refine lv_iload hx hb dX3_isSame_175 (lv_at hl 4 rfl) ?_
                          refine lv_iload hx hb dX3_isSame_177 (lv_at hl 0 rfl) ?_
                          refine zcallV (ci := 2) (q0 := 0) (cq := (RX2, TX2, 9)) (As := [.int (zI (p : Int)), .int (zI ((g : Int) + 1))]) (rest := []) ⟨hx, hb, hml, hown, hts⟩ hK (kX2_kinOfok l D cI cZ q hN pa sp al dg3 co da mb dd ah wl lo n td wn hn hpa hsp hal (p : Int) ((g : Int) + 1) (by omega) (by omega)) (cwV 2 hts gX3_isSame_X2_kinOf rfl rfl rfl (by decide +kernel) ⟨Nat.le_of_ble_eq_true rfl, Nat.le_of_ble_eq_true rfl⟩) hC hS (fun x h => Or.inl h) rfl rfl rfl hl.1 rfl (Nat.le_of_ble_eq_true rfl) dX3_isSame_179 ⟨show cc + 1 ≤ 40 from by omega, show ss + 5 ≤ 400 from by omega⟩ (fun H locs hC hS hz9 hk9 => ?_)
                          have hkq := fun (x : Nat) (h1 : x < _) (h2 : s0 ≤ x) => hk9 x h1 (fun h => absurd (hq0 x h) (Nat.not_lt.mpr h2))
                          have hM := mA.keepq hM (by omega) hkq
                          have hi_wa := vA.kept hi_wa (hkq _ (vA.lt hi_wa) (by omega))
                          have hi_kn := vA.kept hi_kn (hkq _ (vA.lt hi_kn) (by omega))
                          have hU : s9.heap.size ≤ H.size := hS.1
                          have hkp : ∀ x : Nat, s0 ≤ x → x < s9.heap.size → H[x]? = s9.heap[x]? := fun x h1 h2 => hS.2.1 x h2 (fun h => h.elim (fun h => absurd (hq0 x h) (Nat.not_lt.mpr h1)) (fun h => absurd h (Nat.not_le.mpr h2)))
                          have hL := hL0.keep hkp
                          refine W.eq (g2 := F0 m9 182 ls [.int (zI (smF (kinF al (dgF pa sp n (p : Int)) ((g : Int) + 1)) n))]) rfl ?_
                          refine lv_aload hx hb dX3_isSame_182 (lv_at hl 1 rfl) ?_
                          refine lv_iload hx hb dX3_isSame_184 (lv_at hl 0 rfl) ?_
                          refine zs_ild (v := smF (kinF al (dgF pa sp n (p : Int)) ((g : Int) + 1)) n) (i := (g : Int) + 1) hx hb hQ hi_kn (by omega) (by omega) (by decide) rfl dX3_isSame_186 ?_
                          refine zr_icmp_eqT (tgt := 192) hx hb rfl dX3_isSame_187 (by decide) ?_
                          refine zr_iinc (v := ((g : Int) + 1) + 1) (lv' := [(13, .int (zI (((g : Int) + 1) + 1))), (12, .ref kn), (11, .int (zI (lfS mo M td (p : Int) (-1)))), (10, .int (zI (smF (gtF (lf da mb dd td (p : Int))) n))), (9, .int (zI (p : Int))), (8, .int (zI (lgF (llS da mb dd td n) p))), (7, .int (zI (mxF (llS da mb dd td n) p))), (6, .int (zI (smF (llS da mb dd td n) p))), (5, .int (zI (smF al p))), (4, .ref wa), (3, .ref mx), (2, .int (zI (n : Int))), (0, .ref a), (1, .ref (q 0))]) hx hb dX3_isSame_192 hl (k := 0) rfl rfl (by decide) rfl (fun ls hl => ?_)
                          refine lv_goto (tgt := 168) hx hb dX3_isSame_195 (by decide) ?_
                          have hl := lv_sub hl (l' := [(13, .int (zI (((g : Int) + 1) + 1))), (12, .ref kn), (11, .int (zI (lfS mo M td (p : Int) (-1)))), (10, .int (zI (smF (gtF (lf da mb dd td (p : Int))) n))), (9, .int (zI (p : Int))), (8, .int (zI (lgF (llS da mb dd td n) p))), (7, .int (zI (mxF (llS da mb dd td n) p))), (6, .int (zI (smF (llS da mb dd td n) p))), (5, .int (zI (smF al p))), (4, .ref wa), (3, .ref mx), (2, .int (zI (n : Int))), (0, .ref a), (1, .ref (q 0))]) [0, 1, 2, 3, 4, 5, 6, 7, 8, 9, 10, 11, 12, 13] rfl
                          have e_72 : ((((g + 1) : Nat) : Int) + 1 : Int) = ((g : Int) + 1) + 1 := by omega
                          have hl : lv_has ls 14 [(13, .int (zI ((((g + 1) : Nat) : Int) + 1))), (12, .ref kn), (11, .int (zI (lfS mo M td (p : Int) (-1)))), (10, .int (zI (smF (gtF (lf da mb dd td (p : Int))) n))), (9, .int (zI (p : Int))), (8, .int (zI (lgF (llS da mb dd td n) p))), (7, .int (zI (mxF (llS da mb dd td n) p))), (6, .int (zI (smF (llS da mb dd td n) p))), (5, .int (zI (smF al p))), (4, .ref wa), (3, .ref mx), (2, .int (zI (n : Int))), (0, .ref a), (1, .ref (q 0))] := by rw [e_72]; exact hl
                          exact ih_g (g + 1) (by omega) (by omega) _ _ _ (dgF pa sp n (p : Int)) hC hM hi_wa hi_kn hS hl 
                    have hl := lv_sub hl (l' := [(13, .int (zI 1)), (12, .ref kn), (11, .int (zI (lfS mo M td (p : Int) (-1)))), (10, .int (zI (smF (gtF (lf da mb dd td (p : Int))) n))), (9, .int (zI (p : Int))), (8, .int (zI (lgF (llS da mb dd td n) p))), (7, .int (zI (mxF (llS da mb dd td n) p))), (6, .int (zI (smF (llS da mb dd td n) p))), (5, .int (zI (smF al p))), (4, .ref wa), (3, .ref mx), (2, .int (zI (n : Int))), (0, .ref a), (1, .ref (q 0))]) [0, 1, 2, 3, 4, 5, 6, 7, 8, 9, 10, 11, 12, 13] rfl
                    exact L168_36 (4 + 1) 0 (Nat.zero_le _) (by omega) _ _ _ dg2 hC hM hi_wa hi_kn hS hl 
                  · have c_34 := c_34
                    refine lv_aload hx hb dX3_isSame_137 (lv_at hl 1 rfl) ?_
                    refine lv_aload_n hx hb dX3_isSame_139 rfl (lv_at hl 10 rfl) ?_
                    refine lv_iload hx hb dX3_isSame_140 (lv_at hl 4 rfl) ?_
                    refine zs_ald1 (v := .ref (rd mx (p : Int))) (i := (p : Int)) hx hb hQ hM.1 (by omega) (by omega) (by have := hL.n16; omega) rfl dX3_isSame_142 ?_
                    refine lv_iload hx hb dX3_isSame_143 (lv_at hl 0 rfl) ?_
                    refine zs_ild (v := dgF pa sp n (p : Int) (o : Int)) (i := (o : Int)) hx hb hQ (hM.2 (p : Int) (by omega) (by omega)) (by omega) (by omega) (by have := hL.n16; omega) rfl dX3_isSame_145 ?_
                    have b_73 := dgF_bd pa sp n (p : Int) (o : Int)
                    refine lv_dup2_11 hx hb dX3_isSame_146 rfl rfl ?_
                    refine zs_ild (v := smF (kinF al (dgF pa sp n (p : Int)) (dgF pa sp n (p : Int) (o : Int))) o) (i := dgF pa sp n (p : Int) (o : Int)) hx hb hQ hi_kn (by omega) (by omega) (by decide) rfl dX3_isSame_147 ?_
                    refine lv_aload_n hx hb dX3_isSame_148 rfl (lv_at hl 12 rfl) ?_
                    refine va_get (D := D) (ci := 3) (v := .ref ap) (C := RX3) (T := TX3) (N := 5) hx hb hts hin3 hown hK hL.obj 0 rfl rfl 2 (by decide) (hts (.fieldLink RX3 9 "MourningRibbonsLaw$Sim" "people" "[[I") (by decide +kernel)) (fun _ h9 => h9) rfl dX3_isSame_149 ?_
                    refine lv_iload hx hb dX3_isSame_152 (lv_at hl 0 rfl) ?_
                    refine zs_ald1 (v := .ref (ra (o : Int))) (i := (o : Int)) hx hb hQ hL.ppl (by omega) (by omega) (by have := hL.n16; omega) rfl dX3_isSame_154 ?_
                    refine zr_iconst hx hb dX3_isSame_155 ?_
                    refine zs_ild (v := al (o : Int)) (i := 2) hx hb hQ (hL.row (o : Int) (by omega) (by omega)) (by decide) (by decide) (by decide) rfl dX3_isSame_156 ?_
                    have b_74 := hal (o : Int)
                    refine zr_iadd (v := (smF (kinF al (dgF pa sp n (p : Int)) (dgF pa sp n (p : Int) (o : Int))) o) + (al (o : Int))) hx hb rfl dX3_isSame_157 ?_
                    refine zs_ist (i := dgF pa sp n (p : Int) (o : Int)) (x := (smF (kinF al (dgF pa sp n (p : Int)) (dgF pa sp n (p : Int) (o : Int))) o) + (al (o : Int))) hx hb hQ hi_kn hS (Or.inr hge_kn) (by omega) (by omega) (by decide) dX3_isSame_158 (fun H locs hv9 hz9 hk9 hS => ?_)
                    have hC := zkeepW hC rfl hk9 (fun h => by have := hq0 _ h; omega)
                    have hM := mA.keepW hM hk9 (by omega)
                    have hi_wa := vA.kept hi_wa (hk9 _ (by omega))
                    have hi_kn : iA cI H kn 5 (fun g => smF (kinF al (dgF pa sp n (p : Int)) g) (o + 1)) := by rw [up_cnt (F := kinF al (dgF pa sp n (p : Int))) (if_al (hal (o : Int))) (fun c hc => if_neg (fun q => hc q.2.symm))] at hv9; exact hv9
                    have hU : s9.heap.size ≤ H.size := hS.1
                    have hkp : ∀ x : Nat, s0 ≤ x → x < s9.heap.size → H[x]? = s9.heap[x]? := fun x h1 h2 => hS.2.1 x h2 (fun h => h.elim (fun h => absurd (hq0 x h) (Nat.not_lt.mpr h1)) (fun h => absurd h (Nat.not_le.mpr h2)))
                    have hL := hL0.keep hkp
                    refine zr_iinc (v := (o : Int) + 1) (lv' := [(13, .int (zI ((o : Int) + 1))), (12, .ref kn), (11, .int (zI (lfS mo M td (p : Int) (-1)))), (10, .int (zI (smF (gtF (lf da mb dd td (p : Int))) n))), (9, .int (zI (p : Int))), (8, .int (zI (lgF (llS da mb dd td n) p))), (7, .int (zI (mxF (llS da mb dd td n) p))), (6, .int (zI (smF (llS da mb dd td n) p))), (5, .int (zI (smF al p))), (4, .ref wa), (3, .ref mx), (2, .int (zI (n : Int))), (0, .ref a), (1, .ref (q 0))]) hx hb dX3_isSame_159 hl (k := 0) rfl rfl (by decide) rfl (fun ls hl => ?_)
                    refine lv_goto (tgt := 131) hx hb dX3_isSame_162 (by decide) ?_
                    have hl := lv_sub hl (l' := [(13, .int (zI ((o : Int) + 1))), (12, .ref kn), (11, .int (zI (lfS mo M td (p : Int) (-1)))), (10, .int (zI (smF (gtF (lf da mb dd td (p : Int))) n))), (9, .int (zI (p : Int))), (8, .int (zI (lgF (llS da mb dd td n) p))), (7, .int (zI (mxF (llS da mb dd td n) p))), (6, .int (zI (smF (llS da mb dd td n) p))), (5, .int (zI (smF al p))), (4, .ref wa), (3, .ref mx), (2, .int (zI (n : Int))), (0, .ref a), (1, .ref (q 0))]) [0, 1, 2, 3, 4, 5, 6, 7, 8, 9, 10, 11, 12, 13] rfl
                    have e_75 : ((((o + 1) : Nat) : Int) : Int) = (o : Int) + 1 := by omega
                    have hl : lv_has ls 14 [(13, .int (zI (((o + 1) : Nat) : Int))), (12, .ref kn), (11, .int (zI (lfS mo M td (p : Int) (-1)))), (10, .int (zI (smF (gtF (lf da mb dd td (p : Int))) n))), (9, .int (zI (p : Int))), (8, .int (zI (lgF (llS da mb dd td n) p))), (7, .int (zI (mxF (llS da mb dd td n) p))), (6, .int (zI (smF (llS da mb dd td n) p))), (5, .int (zI (smF al p))), (4, .ref wa), (3, .ref mx), (2, .int (zI (n : Int))), (0, .ref a), (1, .ref (q 0))] := by rw [e_75]; exact hl
                    exact ih_o (o + 1) (by omega) (by omega) _ _ _ hC hM hi_wa hi_kn hS hl 
              have hl := lv_sub hl (l' := [(13, .int (zI 0)), (12, .ref kn), (11, .int (zI (lfS mo M td (p : Int) (-1)))), (10, .int (zI (smF (gtF (lf da mb dd td (p : Int))) n))), (9, .int (zI (p : Int))), (8, .int (zI (lgF (llS da mb dd td n) p))), (7, .int (zI (mxF (llS da mb dd td n) p))), (6, .int (zI (smF (llS da mb dd td n) p))), (5, .int (zI (smF al p))), (4, .ref wa), (3, .ref mx), (2, .int (zI (n : Int))), (0, .ref a), (1, .ref (q 0))]) [0, 1, 2, 3, 4, 5, 6, 7, 8, 9, 10, 11, 12, 13] rfl
              exact L131_33 (n + 1) 0 (Nat.zero_le _) (by omega) _ _ _ hC hM hi_wa (hi_kn.cgI (fun j _ _ => rfl)) hS hl 
            · have c_31 := c_31
              have hld := hI.left (p := (p : Int)) (d := (d : Int)) (by omega) (by omega) (by omega) (by omega)
              refine lv_aload_n hx hb dX3_isSame_59 rfl (lv_at hl 11 rfl) ?_
              refine lv_iload hx hb dX3_isSame_60 (lv_at hl 3 rfl) ?_
              refine lv_iload hx hb dX3_isSame_62 (lv_at hl 0 rfl) ?_
              refine zcallGV (ci := 3) (cq := (RX3, TX3, 5)) (As := [.int (zI (p : Int)), .int (zI (d : Int))]) (rest := []) ⟨hx, hb, hml, hown, hts⟩ hK hQ (kX3_left l D cI cZ c1 c2 H.size s0 a n pa sp al co da M mo td wn (p : Int) (d : Int) htd hmo (by omega) (by omega)) (cwV 2 hts gX3_isSame_X3_left rfl rfl rfl (by decide +kernel) ⟨by first | exact Nat.le_of_ble_eq_true rfl | (show _ ≤ _; omega), Nat.le_of_ble_eq_true rfl⟩) (hL.toW hU) hL.obj hS (fun x h => Or.inr (Nat.le_trans hU h)) rfl rfl hl.1 rfl (Nat.le_of_ble_eq_true rfl) dX3_isSame_64 ⟨show cc + 0 ≤ 40 from by omega, show ss + 0 ≤ 400 from by omega⟩ (fun v9 H locs hp9 hz9 hk9 hS => ?_)
              subst hp9
              have hk9 := fun (x : Nat) (h : x < _) => hk9 x h (Nat.not_le.mpr h)
              have hC := zgrowP hC hk9
              have hM := mA.grow hM hk9
              have hi_wa := vA.grow hi_wa hk9
              have hkp : ∀ x : Nat, s0 ≤ x → x < s9.heap.size → H[x]? = s9.heap[x]? := fun x h1 h2 => hS.2.1 x h2 (fun h => h.elim (fun h => absurd (hq0 x h) (Nat.not_lt.mpr h1)) (fun h => absurd h (Nat.not_le.mpr h2)))
              have hL := hL0.keep hkp
              have b_76 := (show 0 ≤ lfS mo M td (p : Int) (d : Int) ∧ lfS mo M td (p : Int) (d : Int) ≤ 4000000 from lfT_bd hmo htd (p : Int) (d : Int) (Nat.le_refl M))
              have hU : s9.heap.size ≤ H.size := hS.1
              refine W.eq (g2 := F0 m9 67 ls [.int (zI (lfS mo M td (p : Int) (d : Int)))]) rfl ?_
              refine lv_istore (lv' := [(13, .int (zI (lfS mo M td (p : Int) (d : Int)))), (12, .int (zI (d : Int))), (11, .int (zI (lfS mo M td (p : Int) (-1)))), (10, .int (zI (smF (gtF (lf da mb dd td (p : Int))) d))), (9, .int (zI (p : Int))), (8, .int (zI (lgF (llS da mb dd td n) p))), (7, .int (zI (mxF (llS da mb dd td n) p))), (6, .int (zI (smF (llS da mb dd td n) p))), (5, .int (zI (smF al p))), (4, .ref wa), (3, .ref mx), (2, .int (zI (n : Int))), (0, .ref a), (1, .ref (q 0))]) hx hb dX3_isSame_67 hl (by decide) rfl (fun ls hl => ?_)
              refine lv_iload hx hb dX3_isSame_69 (lv_at hl 3 rfl) ?_
              refine lv_iload hx hb dX3_isSame_71 (lv_at hl 0 rfl) ?_
              refine zr_if_le (tgt := 80) hx hb dX3_isSame_73 (by decide) ⟨by omega, by omega⟩ (fun c_77 => ?_) (fun c_77 => ?_)
              · have c_77 := c_77
                refine zr_iconst hx hb dX3_isSame_80 ?_
                refine zr_iadd (v := smF (gtF (lf da mb dd td (p : Int))) d) hx hb (by omega) dX3_isSame_81 ?_
                refine lv_istore (lv' := [(10, .int (zI (smF (gtF (lf da mb dd td (p : Int))) d))), (13, .int (zI (lfS mo M td (p : Int) (d : Int)))), (12, .int (zI (d : Int))), (11, .int (zI (lfS mo M td (p : Int) (-1)))), (9, .int (zI (p : Int))), (8, .int (zI (lgF (llS da mb dd td n) p))), (7, .int (zI (mxF (llS da mb dd td n) p))), (6, .int (zI (smF (llS da mb dd td n) p))), (5, .int (zI (smF al p))), (4, .ref wa), (3, .ref mx), (2, .int (zI (n : Int))), (0, .ref a), (1, .ref (q 0))]) hx hb dX3_isSame_82 hl (by decide) rfl (fun ls hl => ?_)
                refine lv_aload_n hx hb dX3_isSame_84 rfl (lv_at hl 13 rfl) ?_
                refine lv_iload hx hb dX3_isSame_85 (lv_at hl 4 rfl) ?_
                refine lv_iload hx hb dX3_isSame_87 (lv_at hl 2 rfl) ?_
                refine zcallV (ci := 2) (q0 := 0) (cq := (RX2, TX2, 9)) (As := [.int (zI (p : Int)), .int (zI (d : Int))]) (rest := []) ⟨hx, hb, hml, hown, hts⟩ hK (kX2_daysLeftForok l D cI cZ q hN pa sp al dg2 co da mb dd ah wl lo n td wn hn hda hmb hdd htd (p : Int) (d : Int) (by omega) (by omega)) (cwV 2 hts gX3_isSame_X2_daysLeftFor rfl rfl rfl (by decide +kernel) ⟨Nat.le_of_ble_eq_true rfl, Nat.le_of_ble_eq_true rfl⟩) hC hS (fun x h => Or.inl h) rfl rfl rfl hl.1 rfl (Nat.le_of_ble_eq_true rfl) dX3_isSame_89 ⟨show cc ≤ 40 from by omega, show ss ≤ 400 from by omega⟩ (fun H locs hC hS hz9 hk9 => ?_)
                have hkq := fun (x : Nat) (h1 : x < _) (h2 : s0 ≤ x) => hk9 x h1 (fun h => absurd (hq0 x h) (Nat.not_lt.mpr h2))
                have hM := mA.keepq hM (by omega) hkq
                have hi_wa := vA.kept hi_wa (hkq _ (vA.lt hi_wa) (by omega))
                have hU : s9.heap.size ≤ H.size := hS.1
                have hkp : ∀ x : Nat, s0 ≤ x → x < s9.heap.size → H[x]? = s9.heap[x]? := fun x h1 h2 => hS.2.1 x h2 (fun h => h.elim (fun h => absurd (hq0 x h) (Nat.not_lt.mpr h1)) (fun h => absurd h (Nat.not_le.mpr h2)))
                have hL := hL0.keep hkp
                refine W.eq (g2 := F0 m9 92 ls [.int (zI (lf da mb dd td (p : Int) (d : Int)))]) rfl ?_
                refine lv_iload hx hb dX3_isSame_92 (lv_at hl 1 rfl) ?_
                refine zr_icmp_neF (tgt := 115) hx hb hld.symm dX3_isSame_94 (by decide) ?_
                refine lv_aload_n hx hb dX3_isSame_97 rfl (lv_at hl 13 rfl) ?_
                refine lv_iload hx hb dX3_isSame_98 (lv_at hl 4 rfl) ?_
                refine lv_iload hx hb dX3_isSame_100 (lv_at hl 2 rfl) ?_
                refine zcallV (ci := 2) (q0 := 0) (cq := (RX2, TX2, 9)) (As := [.int (zI (p : Int)), .int (zI (d : Int))]) (rest := []) ⟨hx, hb, hml, hown, hts⟩ hK (kX2_degreeOfok l D cI cZ q hN pa sp al dg2 co da mb dd ah wl lo n td wn hn hpa hsp (p : Int) (d : Int) (by omega) (by omega)) (cwV 2 hts gX3_isSame_X2_degreeOf rfl rfl rfl (by decide +kernel) ⟨Nat.le_of_ble_eq_true rfl, Nat.le_of_ble_eq_true rfl⟩) hC hS (fun x h => Or.inl h) rfl rfl rfl hl.1 rfl (Nat.le_of_ble_eq_true rfl) dX3_isSame_102 ⟨show cc ≤ 40 from by omega, show ss ≤ 400 from by omega⟩ (fun H locs hC hS hz9 hk9 => ?_)
                have hkq := fun (x : Nat) (h1 : x < _) (h2 : s0 ≤ x) => hk9 x h1 (fun h => absurd (hq0 x h) (Nat.not_lt.mpr h2))
                have hM := mA.keepq hM (by omega) hkq
                have hi_wa := vA.kept hi_wa (hkq _ (vA.lt hi_wa) (by omega))
                have hU : s9.heap.size ≤ H.size := hS.1
                have hkp : ∀ x : Nat, s0 ≤ x → x < s9.heap.size → H[x]? = s9.heap[x]? := fun x h1 h2 => hS.2.1 x h2 (fun h => h.elim (fun h => absurd (hq0 x h) (Nat.not_lt.mpr h1)) (fun h => absurd h (Nat.not_le.mpr h2)))
                have hL := hL0.keep hkp
                refine W.eq (g2 := F0 m9 105 ls [.int (zI (dgF pa sp n (p : Int) (d : Int)))]) rfl ?_
                refine lv_aload_n hx hb dX3_isSame_105 rfl (lv_at hl 10 rfl) ?_
                refine lv_iload hx hb dX3_isSame_106 (lv_at hl 4 rfl) ?_
                refine zs_ald1 (v := .ref (rd mx (p : Int))) (i := (p : Int)) hx hb hQ hM.1 (by omega) (by omega) (by have := hL.n16; omega) rfl dX3_isSame_108 ?_
                refine lv_iload hx hb dX3_isSame_109 (lv_at hl 2 rfl) ?_
                refine zs_ild (v := dgF pa sp n (p : Int) (d : Int)) (i := (d : Int)) hx hb hQ (hM.2 (p : Int) (by omega) (by omega)) (by omega) (by omega) (by have := hL.n16; omega) rfl dX3_isSame_111 ?_
                have b_78 := dgF_bd pa sp n (p : Int) (d : Int)
                refine zr_icmp_eqT (tgt := 117) hx hb rfl dX3_isSame_112 (by decide) ?_
                refine zr_iinc (v := (d : Int) + 1) (lv' := [(12, .int (zI ((d : Int) + 1))), (10, .int (zI (smF (gtF (lf da mb dd td (p : Int))) d))), (13, .int (zI (lfS mo M td (p : Int) (d : Int)))), (11, .int (zI (lfS mo M td (p : Int) (-1)))), (9, .int (zI (p : Int))), (8, .int (zI (lgF (llS da mb dd td n) p))), (7, .int (zI (mxF (llS da mb dd td n) p))), (6, .int (zI (smF (llS da mb dd td n) p))), (5, .int (zI (smF al p))), (4, .ref wa), (3, .ref mx), (2, .int (zI (n : Int))), (0, .ref a), (1, .ref (q 0))]) hx hb dX3_isSame_117 hl (k := 2) rfl rfl (by decide) rfl (fun ls hl => ?_)
                refine lv_goto (tgt := 53) hx hb dX3_isSame_120 (by decide) ?_
                have hl := lv_sub hl (l' := [(12, .int (zI ((d : Int) + 1))), (11, .int (zI (lfS mo M td (p : Int) (-1)))), (10, .int (zI (smF (gtF (lf da mb dd td (p : Int))) d))), (9, .int (zI (p : Int))), (8, .int (zI (lgF (llS da mb dd td n) p))), (7, .int (zI (mxF (llS da mb dd td n) p))), (6, .int (zI (smF (llS da mb dd td n) p))), (5, .int (zI (smF al p))), (4, .ref wa), (3, .ref mx), (2, .int (zI (n : Int))), (0, .ref a), (1, .ref (q 0))]) [0, 3, 1, 4, 5, 6, 7, 8, 9, 10, 11, 12, 13] rfl
                have e_79 : ((((d + 1) : Nat) : Int) : Int) = (d : Int) + 1 := by omega
                have e_80 : (smF (gtF (lf da mb dd td (p : Int))) (d + 1) : Int) = smF (gtF (lf da mb dd td (p : Int))) d := by rw [smF_s]; first | rw [gtF_y (by omega)] | (rw [gtF_n (by omega)]; omega)
                have hl : lv_has ls 14 [(12, .int (zI (((d + 1) : Nat) : Int))), (11, .int (zI (lfS mo M td (p : Int) (-1)))), (10, .int (zI (smF (gtF (lf da mb dd td (p : Int))) (d + 1)))), (9, .int (zI (p : Int))), (8, .int (zI (lgF (llS da mb dd td n) p))), (7, .int (zI (mxF (llS da mb dd td n) p))), (6, .int (zI (smF (llS da mb dd td n) p))), (5, .int (zI (smF al p))), (4, .ref wa), (3, .ref mx), (2, .int (zI (n : Int))), (0, .ref a), (1, .ref (q 0))] := by rw [e_79, e_80]; exact hl
                exact ih_d (d + 1) (by omega) (by omega) _ _ _ (dgF pa sp n (p : Int)) hC hM hi_wa hS hl 
              · have c_77 := c_77
                refine zr_iconst hx hb dX3_isSame_76 ?_
                refine lv_goto (tgt := 81) hx hb dX3_isSame_77 (by decide) ?_
                refine zr_iadd (v := (smF (gtF (lf da mb dd td (p : Int))) d) + 1) hx hb rfl dX3_isSame_81 ?_
                refine lv_istore (lv' := [(10, .int (zI ((smF (gtF (lf da mb dd td (p : Int))) d) + 1))), (13, .int (zI (lfS mo M td (p : Int) (d : Int)))), (12, .int (zI (d : Int))), (11, .int (zI (lfS mo M td (p : Int) (-1)))), (9, .int (zI (p : Int))), (8, .int (zI (lgF (llS da mb dd td n) p))), (7, .int (zI (mxF (llS da mb dd td n) p))), (6, .int (zI (smF (llS da mb dd td n) p))), (5, .int (zI (smF al p))), (4, .ref wa), (3, .ref mx), (2, .int (zI (n : Int))), (0, .ref a), (1, .ref (q 0))]) hx hb dX3_isSame_82 hl (by decide) rfl (fun ls hl => ?_)
                refine lv_aload_n hx hb dX3_isSame_84 rfl (lv_at hl 13 rfl) ?_
                refine lv_iload hx hb dX3_isSame_85 (lv_at hl 4 rfl) ?_
                refine lv_iload hx hb dX3_isSame_87 (lv_at hl 2 rfl) ?_
                refine zcallV (ci := 2) (q0 := 0) (cq := (RX2, TX2, 9)) (As := [.int (zI (p : Int)), .int (zI (d : Int))]) (rest := []) ⟨hx, hb, hml, hown, hts⟩ hK (kX2_daysLeftForok l D cI cZ q hN pa sp al dg2 co da mb dd ah wl lo n td wn hn hda hmb hdd htd (p : Int) (d : Int) (by omega) (by omega)) (cwV 2 hts gX3_isSame_X2_daysLeftFor rfl rfl rfl (by decide +kernel) ⟨Nat.le_of_ble_eq_true rfl, Nat.le_of_ble_eq_true rfl⟩) hC hS (fun x h => Or.inl h) rfl rfl rfl hl.1 rfl (Nat.le_of_ble_eq_true rfl) dX3_isSame_89 ⟨show cc ≤ 40 from by omega, show ss ≤ 400 from by omega⟩ (fun H locs hC hS hz9 hk9 => ?_)
                have hkq := fun (x : Nat) (h1 : x < _) (h2 : s0 ≤ x) => hk9 x h1 (fun h => absurd (hq0 x h) (Nat.not_lt.mpr h2))
                have hM := mA.keepq hM (by omega) hkq
                have hi_wa := vA.kept hi_wa (hkq _ (vA.lt hi_wa) (by omega))
                have hU : s9.heap.size ≤ H.size := hS.1
                have hkp : ∀ x : Nat, s0 ≤ x → x < s9.heap.size → H[x]? = s9.heap[x]? := fun x h1 h2 => hS.2.1 x h2 (fun h => h.elim (fun h => absurd (hq0 x h) (Nat.not_lt.mpr h1)) (fun h => absurd h (Nat.not_le.mpr h2)))
                have hL := hL0.keep hkp
                refine W.eq (g2 := F0 m9 92 ls [.int (zI (lf da mb dd td (p : Int) (d : Int)))]) rfl ?_
                refine lv_iload hx hb dX3_isSame_92 (lv_at hl 1 rfl) ?_
                refine zr_icmp_neF (tgt := 115) hx hb hld.symm dX3_isSame_94 (by decide) ?_
                refine lv_aload_n hx hb dX3_isSame_97 rfl (lv_at hl 13 rfl) ?_
                refine lv_iload hx hb dX3_isSame_98 (lv_at hl 4 rfl) ?_
                refine lv_iload hx hb dX3_isSame_100 (lv_at hl 2 rfl) ?_
                refine zcallV (ci := 2) (q0 := 0) (cq := (RX2, TX2, 9)) (As := [.int (zI (p : Int)), .int (zI (d : Int))]) (rest := []) ⟨hx, hb, hml, hown, hts⟩ hK (kX2_degreeOfok l D cI cZ q hN pa sp al dg2 co da mb dd ah wl lo n td wn hn hpa hsp (p : Int) (d : Int) (by omega) (by omega)) (cwV 2 hts gX3_isSame_X2_degreeOf rfl rfl rfl (by decide +kernel) ⟨Nat.le_of_ble_eq_true rfl, Nat.le_of_ble_eq_true rfl⟩) hC hS (fun x h => Or.inl h) rfl rfl rfl hl.1 rfl (Nat.le_of_ble_eq_true rfl) dX3_isSame_102 ⟨show cc ≤ 40 from by omega, show ss ≤ 400 from by omega⟩ (fun H locs hC hS hz9 hk9 => ?_)
                have hkq := fun (x : Nat) (h1 : x < _) (h2 : s0 ≤ x) => hk9 x h1 (fun h => absurd (hq0 x h) (Nat.not_lt.mpr h2))
                have hM := mA.keepq hM (by omega) hkq
                have hi_wa := vA.kept hi_wa (hkq _ (vA.lt hi_wa) (by omega))
                have hU : s9.heap.size ≤ H.size := hS.1
                have hkp : ∀ x : Nat, s0 ≤ x → x < s9.heap.size → H[x]? = s9.heap[x]? := fun x h1 h2 => hS.2.1 x h2 (fun h => h.elim (fun h => absurd (hq0 x h) (Nat.not_lt.mpr h1)) (fun h => absurd h (Nat.not_le.mpr h2)))
                have hL := hL0.keep hkp
                refine W.eq (g2 := F0 m9 105 ls [.int (zI (dgF pa sp n (p : Int) (d : Int)))]) rfl ?_
                refine lv_aload_n hx hb dX3_isSame_105 rfl (lv_at hl 10 rfl) ?_
                refine lv_iload hx hb dX3_isSame_106 (lv_at hl 4 rfl) ?_
                refine zs_ald1 (v := .ref (rd mx (p : Int))) (i := (p : Int)) hx hb hQ hM.1 (by omega) (by omega) (by have := hL.n16; omega) rfl dX3_isSame_108 ?_
                refine lv_iload hx hb dX3_isSame_109 (lv_at hl 2 rfl) ?_
                refine zs_ild (v := dgF pa sp n (p : Int) (d : Int)) (i := (d : Int)) hx hb hQ (hM.2 (p : Int) (by omega) (by omega)) (by omega) (by omega) (by have := hL.n16; omega) rfl dX3_isSame_111 ?_
                have b_81 := dgF_bd pa sp n (p : Int) (d : Int)
                refine zr_icmp_eqT (tgt := 117) hx hb rfl dX3_isSame_112 (by decide) ?_
                refine zr_iinc (v := (d : Int) + 1) (lv' := [(12, .int (zI ((d : Int) + 1))), (10, .int (zI ((smF (gtF (lf da mb dd td (p : Int))) d) + 1))), (13, .int (zI (lfS mo M td (p : Int) (d : Int)))), (11, .int (zI (lfS mo M td (p : Int) (-1)))), (9, .int (zI (p : Int))), (8, .int (zI (lgF (llS da mb dd td n) p))), (7, .int (zI (mxF (llS da mb dd td n) p))), (6, .int (zI (smF (llS da mb dd td n) p))), (5, .int (zI (smF al p))), (4, .ref wa), (3, .ref mx), (2, .int (zI (n : Int))), (0, .ref a), (1, .ref (q 0))]) hx hb dX3_isSame_117 hl (k := 2) rfl rfl (by decide) rfl (fun ls hl => ?_)
                refine lv_goto (tgt := 53) hx hb dX3_isSame_120 (by decide) ?_
                have hl := lv_sub hl (l' := [(12, .int (zI ((d : Int) + 1))), (11, .int (zI (lfS mo M td (p : Int) (-1)))), (10, .int (zI ((smF (gtF (lf da mb dd td (p : Int))) d) + 1))), (9, .int (zI (p : Int))), (8, .int (zI (lgF (llS da mb dd td n) p))), (7, .int (zI (mxF (llS da mb dd td n) p))), (6, .int (zI (smF (llS da mb dd td n) p))), (5, .int (zI (smF al p))), (4, .ref wa), (3, .ref mx), (2, .int (zI (n : Int))), (0, .ref a), (1, .ref (q 0))]) [0, 3, 1, 4, 5, 6, 7, 8, 9, 10, 11, 12, 13] rfl
                have e_82 : ((((d + 1) : Nat) : Int) : Int) = (d : Int) + 1 := by omega
                have e_83 : (smF (gtF (lf da mb dd td (p : Int))) (d + 1) : Int) = (smF (gtF (lf da mb dd td (p : Int))) d) + 1 := by rw [smF_s]; first | rw [gtF_y (by omega)] | (rw [gtF_n (by omega)]; omega)
                have hl : lv_has ls 14 [(12, .int (zI (((d + 1) : Nat) : Int))), (11, .int (zI (lfS mo M td (p : Int) (-1)))), (10, .int (zI (smF (gtF (lf da mb dd td (p : Int))) (d + 1)))), (9, .int (zI (p : Int))), (8, .int (zI (lgF (llS da mb dd td n) p))), (7, .int (zI (mxF (llS da mb dd td n) p))), (6, .int (zI (smF (llS da mb dd td n) p))), (5, .int (zI (smF al p))), (4, .ref wa), (3, .ref mx), (2, .int (zI (n : Int))), (0, .ref a), (1, .ref (q 0))] := by rw [e_82, e_83]; exact hl
                exact ih_d (d + 1) (by omega) (by omega) _ _ _ (dgF pa sp n (p : Int)) hC hM hi_wa hS hl 
        have hl := lv_sub hl (l' := [(12, .int (zI 0)), (11, .int (zI (lfS mo M td (p : Int) (-1)))), (10, .int (zI 0)), (9, .int (zI (p : Int))), (8, .int (zI (lgF (llS da mb dd td n) p))), (7, .int (zI (mxF (llS da mb dd td n) p))), (6, .int (zI (smF (llS da mb dd td n) p))), (5, .int (zI (smF al p))), (4, .ref wa), (3, .ref mx), (2, .int (zI (n : Int))), (0, .ref a), (1, .ref (q 0))]) [0, 1, 2, 3, 4, 5, 6, 7, 8, 9, 10, 11, 12] rfl
        have e_84 : (smF (gtF (lf da mb dd td (p : Int))) 0 : Int) = 0 := rfl
        have hl : lv_has ls 14 [(12, .int (zI 0)), (11, .int (zI (lfS mo M td (p : Int) (-1)))), (10, .int (zI (smF (gtF (lf da mb dd td (p : Int))) 0))), (9, .int (zI (p : Int))), (8, .int (zI (lgF (llS da mb dd td n) p))), (7, .int (zI (mxF (llS da mb dd td n) p))), (6, .int (zI (smF (llS da mb dd td n) p))), (5, .int (zI (smF al p))), (4, .ref wa), (3, .ref mx), (2, .int (zI (n : Int))), (0, .ref a), (1, .ref (q 0))] := by rw [e_84]; exact hl
        exact L53_30 (n + 1) 0 (Nat.zero_le _) (by omega) _ _ _ dg1 hC hM hi_wa hS hl 
  have hl := lv_sub hl (l' := [(9, .int (zI 0)), (8, .int (zI (-1))), (7, .int (zI 0)), (6, .int (zI 0)), (5, .int (zI 0)), (4, .ref wa), (3, .ref mx), (2, .int (zI (n : Int))), (0, .ref a), (1, .ref (q 0))]) [0, 1, 2, 3, 4, 5, 6, 7, 8, 9] rfl
  have e_85 : (lgF (llS da mb dd td n) 0 : Int) = (-1) := rfl
  have e_86 : (mxF (llS da mb dd td n) 0 : Int) = 0 := rfl
  have e_87 : (smF (llS da mb dd td n) 0 : Int) = 0 := rfl
  have e_88 : (smF al 0 : Int) = 0 := rfl
  have hl : lv_has ls 14 [(9, .int (zI 0)), (8, .int (zI (lgF (llS da mb dd td n) 0))), (7, .int (zI (mxF (llS da mb dd td n) 0))), (6, .int (zI (smF (llS da mb dd td n) 0))), (5, .int (zI (smF al 0))), (4, .ref wa), (3, .ref mx), (2, .int (zI (n : Int))), (0, .ref a), (1, .ref (q 0))] := by rw [e_85, e_86, e_87, e_88]; exact hl
  exact L32_2 (n + 1) 0 (Nat.zero_le _) (by omega) _ _ _ dg _ _ hC hM (hi_wa.cgI (fun j _ _ => rfl)) hS hl  (by omega) (by omega)
