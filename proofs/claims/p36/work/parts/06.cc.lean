set_option maxHeartbeats 4000000 in
set_option maxRecDepth 100000 in
theorem kX2_wouldBegin (l : Launch) (D : va_G) (cI cZ : ClassId) (q : Nat → Nat) (hN : (zLC q).Nodup) (pa : Int → Int) (sp : Int → Int) (al : Int → Int) (dg : Int → Int) (co : Int → Int) (da : Int → Int) (mb : Int → Int) (dd : Int → Int) (ah : Int → Int) (wl : Int → Int) (lo : Int → Int) (n : Nat) (td : Int) (wn : Int) (hal : ∀ j : Int, 0 ≤ al j ∧ al j ≤ 1) (hda : ∀ j : Int, 0 ≤ da j ∧ da j ≤ 60) (hdg : ∀ j : Int, 0 ≤ dg j ∧ dg j ≤ 4) (p : Int) (h1 : 0 ≤ p ∧ p < 16) : zM l yX2_wouldBegin wsX2_wouldBegin ({ frames := 2, cells := 0, slots := 0, locals := 46 }) D [(cI, .int), (cZ, .boolean)] [.ref (q 0), .int (zI p)] (wC cI cZ q pa sp al dg co da mb dd ah wl lo n td wn) (wC cI cZ q pa sp al dg co da mb dd ah wl lo n td wn) (some (.int (zI (bI (al p ≠ 0 ∧ 0 < dAll da 16 (dg p)))))) (zLC q) := by
  refine Met.ofW (cc := cX2_wouldBegin) (maxL := 2) (ret := (some .boolean)) (by decide) rfl ?_
  intro p0 e9 s9 m9 ag9 below meth c9 s₁ B hml hv
  obtain ⟨hav, hP, hK⟩ := hv
  have hx := B.exec
  have hb := B.bytes
  have hr := B.returns
  have hts := atoms_spec (ws := wsX2_wouldBegin) B.pre
  have hown : s9.vm.findClass RX2 = some m9.cls := findClass_of_methodNamed B.named
  have hlocks := B.notSynchronized
  have hA : ∀ a ∈ zLC q, (fun a => a ∈ zLC q) a := fun _ h => h
  have hin1 : ∀ w ∈ u_ws RX1 TX1 5, w ∈ wsX2_wouldBegin := by decide +kernel
  have hin2 : ∀ w ∈ u_ws RX2 TX2 9, w ∈ wsX2_wouldBegin := by decide +kernel
  have hl := lv_entry ([.ref (q 0), .int (zI p)]) (n := 2) (Nat.le_of_ble_eq_true rfl)
  have hE : entryFrame m9 ag9 2 = F0 m9 0 ((lg_sl ([.ref (q 0), .int (zI p)]) ++ List.replicate (2 - (lg_sl ([.ref (q 0), .int (zI p)])).length) Slot.unset).toArray) [] := by rw [hav]; exact lg_entry_eq m9 _ _
  obtain ⟨Q0, hQ0⟩ : ∃ Q0, Q0 = MQ below (zQ D (wC cI cZ q pa sp al dg co da mb dd ah wl lo n td wn) (some (.int (zI (bI (al p ≠ 0 ∧ 0 < dAll da 16 (dg p)))))) (zLC q)) ag9 s9 0 0 (fun a => a ∈ zLC q) := ⟨_, rfl⟩
  show W p0 l e9 ({ frames := 2, cells := 0, slots := 0, locals := 46 }) s9 m9 ag9 below meth c9 s9.heap [] 0 0 (MQ below (zQ D (wC cI cZ q pa sp al dg co da mb dd ah wl lo n td wn) (some (.int (zI (bI (al p ≠ 0 ∧ 0 < dAll da 16 (dg p)))))) (zLC q)) ag9 s9 0 0 (fun a => a ∈ zLC q)) _
  rw [hE, ← hQ0]
  have hS : va_S (fun a => a ∈ zLC q) s9.heap s9.heap [] := va_S.rf
  generalize hH0 : s9.heap = H at hP ⊢
  have hS : va_S (fun a => a ∈ zLC q) s9.heap H [] := by rw [hH0] at hS ⊢; exact hS
  generalize (lg_sl ([.ref (q 0), .int (zI p)]) ++ List.replicate (2 - (lg_sl ([.ref (q 0), .int (zI p)])).length) Slot.unset).toArray = ls at hl ⊢
  have hl : lv_has ls 2 [(0, .ref (q 0)), (1, .int (zI p))] := hl
  refine lv_aload_n hx hb dX2_wouldBegin_0 rfl (lv_at hl 0 rfl) ?_
  refine va_get (D := D) (ci := 2) (v := .ref (q 1)) (C := RX2) (T := TX2) (N := 9) hx hb hts hin2 hown hK hP 0 rfl rfl 0 (by decide) (hts (.fieldLink RX2 12 "MourningRibbons" "family" "LMourningRibbons$Family;") (by decide +kernel)) (fun _ h9 => h9) rfl dX2_wouldBegin_1 ?_
  refine va_get (D := D) (ci := 1) (v := .ref (q 10)) (C := RX1) (T := TX1) (N := 5) hx hb hts hin1 hown hK hP 1 rfl rfl 2 (by decide) (hts (.fieldLink RX2 101 "MourningRibbons$Family" "alive" "[Z") (by decide +kernel)) (fun _ h9 => h9) rfl dX2_wouldBegin_4 ?_
  refine lv_iload_n hx hb dX2_wouldBegin_7 rfl (lv_at hl 1 rfl) ?_
  refine zr_zald (f := al) (n := 16) hx hb hK hP 10 1 rfl rfl (by decide) (i := p) (by omega) (by omega) dX2_wouldBegin_8 ?_
  have b_1 := hal p
  refine zr_if_eq (tgt := 37) hx hb dX2_wouldBegin_9 (by decide) ⟨by omega, by omega⟩ (fun c_2 => ?_) (fun c_2 => ?_)
  · have c_2 := c_2
    refine zr_iconst hx hb dX2_wouldBegin_37 ?_
    rw [hQ0]
    exact zret_z hx hb hr hlocks (rfl) ((bI_f (by omega)).symm) hP hS dX2_wouldBegin_38
  · have c_2 := c_2
    refine lv_aload_n hx hb dX2_wouldBegin_12 rfl (lv_at hl 0 rfl) ?_
    refine va_get (D := D) (ci := 2) (v := .ref (q 2)) (C := RX2) (T := TX2) (N := 9) hx hb hts hin2 hown hK hP 0 rfl rfl 1 (by decide) (hts (.fieldLink RX2 19 "MourningRibbons" "codes" "LMourningRibbons$Codes;") (by decide +kernel)) (fun _ h9 => h9) rfl dX2_wouldBegin_13 ?_
    refine zr_bipush hx hb dX2_wouldBegin_16 (by decide) ?_
    refine lv_aload_n hx hb dX2_wouldBegin_18 rfl (lv_at hl 0 rfl) ?_
    refine va_get (D := D) (ci := 2) (v := .ref (q 1)) (C := RX2) (T := TX2) (N := 9) hx hb hts hin2 hown hK hP 0 rfl rfl 0 (by decide) (hts (.fieldLink RX2 12 "MourningRibbons" "family" "LMourningRibbons$Family;") (by decide +kernel)) (fun _ h9 => h9) rfl dX2_wouldBegin_19 ?_
    refine va_get (D := D) (ci := 1) (v := .ref (q 11)) (C := RX1) (T := TX1) (N := 5) hx hb hts hin1 hown hK hP 1 rfl rfl 4 (by decide) (hts (.fieldLink RX2 71 "MourningRibbons$Family" "degrees" "[I") (by decide +kernel)) (fun _ h9 => h9) rfl dX2_wouldBegin_22 ?_
    refine lv_iload_n hx hb dX2_wouldBegin_25 rfl (lv_at hl 1 rfl) ?_
    refine zr_iald (f := dg) (n := 16) hx hb hK hP 11 0 rfl rfl (by decide) (i := p) (by omega) (by omega) dX2_wouldBegin_26 ?_
    have b_3 := hdg p
    refine zcallV (ci := 0) (q0 := 2) (cq := (RX0, TX0, 2)) (As := [.int (zI 16), .int (zI (dg p))]) (rest := []) ⟨hx, hb, hml, hown, hts⟩ hK (kX0_daysOfAll l D cI cZ q hN pa sp al dg co da mb dd ah wl lo n td wn hda 16 (dg p) (by omega) (by omega)) (cwV 2 hts gX2_wouldBegin_X0_daysOfAll rfl rfl rfl (by decide +kernel) ⟨Nat.le_of_ble_eq_true rfl, Nat.le_of_ble_eq_true rfl⟩) hP hS hA rfl rfl rfl hl.1 rfl (Nat.le_of_ble_eq_true rfl) dX2_wouldBegin_27 ⟨Nat.zero_le _, Nat.zero_le _⟩ (fun H locs hP hS _ _ => ?_)
    refine W.eq (g2 := F0 m9 30 ls [.int (zI (dAll da 16 (dg p)))]) rfl ?_
    have f_4 := dAll_bx da hda 16 (dg p)
    refine zr_if_le (tgt := 37) hx hb dX2_wouldBegin_30 (by decide) ⟨by omega, by omega⟩ (fun c_5 => ?_) (fun c_5 => ?_)
    · have c_5 := c_5
      refine zr_iconst hx hb dX2_wouldBegin_37 ?_
      rw [hQ0]
      exact zret_z hx hb hr hlocks (rfl) ((bI_f (by omega)).symm) hP hS dX2_wouldBegin_38
    · have c_5 := c_5
      refine zr_iconst hx hb dX2_wouldBegin_33 ?_
      refine lv_goto (tgt := 38) hx hb dX2_wouldBegin_34 (by decide) ?_
      rw [hQ0]
      exact zret_z hx hb hr hlocks (rfl) ((bI_t (by omega)).symm) hP hS dX2_wouldBegin_38
set_option maxHeartbeats 4000000 in
set_option maxRecDepth 100000 in
theorem kX2_endMourningsOf (l : Launch) (D : va_G) (cI cZ : ClassId) (q : Nat → Nat) (hN : (zLC q).Nodup) (pa : Int → Int) (sp : Int → Int) (al : Int → Int) (dg : Int → Int) (co : Int → Int) (da : Int → Int) (mb : Int → Int) (dd : Int → Int) (ah : Int → Int) (wl : Int → Int) (lo : Int → Int) (n : Nat) (td : Int) (wn : Int) (p : Int) (h1 : 0 ≤ p ∧ p < 16) : zM l yX2_endMourningsOf wsX2_endMourningsOf ({ frames := 1, cells := 0, slots := 0, locals := 21 }) D [(cI, .int), (cZ, .boolean)] [.ref (q 0), .int (zI p)] (wC cI cZ q pa sp al dg co da mb dd ah wl lo n td wn) (wC cI cZ q pa sp al dg co da (enC mb p 16) dd ah wl lo n td wn) none (zLC q) := by
  refine Met.ofW (cc := cX2_endMourningsOf) (maxL := 3) (ret := none) (by decide) rfl ?_
  intro p0 e9 s9 m9 ag9 below meth c9 s₁ B hml hv
  obtain ⟨hav, hP, hK⟩ := hv
  have hx := B.exec
  have hb := B.bytes
  have hr := B.returns
  have hts := atoms_spec (ws := wsX2_endMourningsOf) B.pre
  have hown : s9.vm.findClass RX2 = some m9.cls := findClass_of_methodNamed B.named
  have hlocks := B.notSynchronized
  have hA : ∀ a ∈ zLC q, (fun a => a ∈ zLC q) a := fun _ h => h
  have hin2 : ∀ w ∈ u_ws RX2 TX2 9, w ∈ wsX2_endMourningsOf := by decide +kernel
  have hl := lv_entry ([.ref (q 0), .int (zI p)]) (n := 3) (Nat.le_of_ble_eq_true rfl)
  have hE : entryFrame m9 ag9 3 = F0 m9 0 ((lg_sl ([.ref (q 0), .int (zI p)]) ++ List.replicate (3 - (lg_sl ([.ref (q 0), .int (zI p)])).length) Slot.unset).toArray) [] := by rw [hav]; exact lg_entry_eq m9 _ _
  obtain ⟨Q0, hQ0⟩ : ∃ Q0, Q0 = MQ below (zQ D (wC cI cZ q pa sp al dg co da (enC mb p 16) dd ah wl lo n td wn) none (zLC q)) ag9 s9 0 0 (fun a => a ∈ zLC q) := ⟨_, rfl⟩
  show W p0 l e9 ({ frames := 1, cells := 0, slots := 0, locals := 21 }) s9 m9 ag9 below meth c9 s9.heap [] 0 0 (MQ below (zQ D (wC cI cZ q pa sp al dg co da (enC mb p 16) dd ah wl lo n td wn) none (zLC q)) ag9 s9 0 0 (fun a => a ∈ zLC q)) _
  rw [hE, ← hQ0]
  have hS : va_S (fun a => a ∈ zLC q) s9.heap s9.heap [] := va_S.rf
  generalize hH0 : s9.heap = H at hP ⊢
  have hS : va_S (fun a => a ∈ zLC q) s9.heap H [] := by rw [hH0] at hS ⊢; exact hS
  generalize (lg_sl ([.ref (q 0), .int (zI p)]) ++ List.replicate (3 - (lg_sl ([.ref (q 0), .int (zI p)])).length) Slot.unset).toArray = ls at hl ⊢
  have hl : lv_has ls 3 [(0, .ref (q 0)), (1, .int (zI p))] := hl
  refine zr_iconst hx hb dX2_endMourningsOf_0 ?_
  refine lv_istore_n (lv' := [(2, .int (zI 0)), (0, .ref (q 0)), (1, .int (zI p))]) hx hb dX2_endMourningsOf_1 rfl hl (by decide) rfl (fun ls hl => ?_)
  have L2_1 : ∀ (kf i : Nat), i ≤ 16 → 16 - i < kf → ∀ (H : Heap) (locs : List Loc) (ls : Array Slot), va_P D vwCl (wC cI cZ q pa sp al dg co da (enC mb p i) dd ah wl lo n td wn) H → va_S (fun a => a ∈ zLC q) s9.heap H locs → lv_has ls 3 [(2, .int (zI (i : Int))), (0, .ref (q 0)), (1, .int (zI p))] → W p0 l e9 ({ frames := 1, cells := 0, slots := 0, locals := 21 }) s9 m9 ag9 below meth c9 H locs 0 0 Q0 (F0 m9 2 ls []) := by
    intro kf
    induction kf with
    | zero => intro i h1 h2; omega
    | succ kf ih =>
      intro i hi_i hk_i H locs ls hP hS hl
      have ih_i := ih
      clear ih
      refine lv_iload_n hx hb dX2_endMourningsOf_2 rfl (lv_at hl 0 rfl) ?_
      refine zr_bipush hx hb dX2_endMourningsOf_3 (by decide) ?_
      refine zr_icmp_ge (tgt := 25) hx hb dX2_endMourningsOf_5 (by decide) ⟨by omega, by omega⟩ ⟨by decide, by decide⟩ (fun c_2 => ?_) (fun c_2 => ?_)
      · have c_2 := c_2
        have x_3 : i = 16 := by omega
        try rw [x_3] at hP
        try rw [x_3] at hl
        rw [hQ0]
        exact zret_v hx hb hr hlocks hP hS dX2_endMourningsOf_25
      · have c_2 := c_2
        refine lv_aload_n hx hb dX2_endMourningsOf_8 rfl (lv_at hl 1 rfl) ?_
        refine va_get (D := D) (ci := 2) (v := .ref (q 3)) (C := RX2) (T := TX2) (N := 9) hx hb hts hin2 hown hK hP 0 rfl rfl 2 (by decide) (hts (.fieldLink RX2 23 "MourningRibbons" "mournedBy" "[I") (by decide +kernel)) (fun _ h9 => h9) rfl dX2_endMourningsOf_9 ?_
        refine lv_iload_n hx hb dX2_endMourningsOf_12 rfl (lv_at hl 2 rfl) ?_
        refine lv_iload_n hx hb dX2_endMourningsOf_13 rfl (lv_at hl 0 rfl) ?_
        refine zcallP (As := [.int (zI p), .int (zI (i : Int))]) (rest := [.ref (q 3)]) ⟨hx, hb, hml, hown, hts⟩ (kX2_pair l D p (i : Int)) hK (va_cwS 2 hts gX2_endMourningsOf_X2_pair rfl rfl rfl (by decide +kernel) ⟨Nat.le_of_ble_eq_true rfl, Nat.le_of_ble_eq_true rfl⟩) hP hS rfl hl.1 rfl (Nat.le_of_ble_eq_true rfl) dX2_endMourningsOf_14 ⟨Nat.zero_le _, Nat.zero_le _⟩ (fun H locs hP hS => ?_)
        refine W.eq (g2 := F0 m9 17 ls [.int (zI (p * 16 + (i : Int))), .ref (q 3)]) rfl ?_
        refine zr_iconst hx hb dX2_endMourningsOf_17 ?_
        refine zr_iast (f := enC mb p i) (n := 256) hx hb hK hP hN rfl hA hS 3 0 rfl rfl (by decide) (i := p * 16 + (i : Int)) (x := 0) (by omega) (by omega) dX2_endMourningsOf_18 (fun H locs hP hS => ?_)
        have hP : va_P D vwCl (wC cI cZ q pa sp al dg co da (up (enC mb p i) (p * 16 + (i : Int)) 0) dd ah wl lo n td wn) H := hP
        refine zr_iinc (v := (i : Int) + 1) (lv' := [(2, .int (zI ((i : Int) + 1))), (0, .ref (q 0)), (1, .int (zI p))]) hx hb dX2_endMourningsOf_19 hl (k := 0) rfl rfl (by decide) rfl (fun ls hl => ?_)
        refine lv_goto (tgt := 2) hx hb dX2_endMourningsOf_22 (by decide) ?_
        have hl := lv_sub hl (l' := [(2, .int (zI ((i : Int) + 1))), (0, .ref (q 0)), (1, .int (zI p))]) [0, 1, 2] rfl
        have e_4 : ((((i + 1) : Nat) : Int) : Int) = (i : Int) + 1 := by omega
        have hl : lv_has ls 3 [(2, .int (zI (((i + 1) : Nat) : Int))), (0, .ref (q 0)), (1, .int (zI p))] := by rw [e_4]; exact hl
        have e_5 : (enC mb p (i + 1) : Int → Int) = up (enC mb p i) (p * 16 + (i : Int)) 0 := rfl
        have hP : va_P D vwCl (wC cI cZ q pa sp al dg co da (enC mb p (i + 1)) dd ah wl lo n td wn) H := by rw [e_5]; exact hP
        exact ih_i (i + 1) (by omega) (by omega) _ _ _ hP hS hl
  have hl := lv_sub hl (l' := [(2, .int (zI 0)), (0, .ref (q 0)), (1, .int (zI p))]) [0, 1, 2] rfl
  have e_6 : (enC mb p 0 : Int → Int) = mb := rfl
  have hP : va_P D vwCl (wC cI cZ q pa sp al dg co da (enC mb p 0) dd ah wl lo n td wn) H := by rw [e_6]; exact hP
  exact L2_1 (16 + 1) 0 (Nat.zero_le _) (by omega) _ _ _ hP hS hl
set_option maxHeartbeats 4000000 in
set_option maxRecDepth 100000 in
theorem kX2_beginMourningsFor (l : Launch) (D : va_G) (cI cZ : ClassId) (q : Nat → Nat) (hN : (zLC q).Nodup) (pa : Int → Int) (sp : Int → Int) (al : Int → Int) (dg : Int → Int) (co : Int → Int) (da : Int → Int) (mb : Int → Int) (dd : Int → Int) (ah : Int → Int) (wl : Int → Int) (lo : Int → Int) (n : Nat) (td : Int) (wn : Int) (hn : n ≤ 16) (hpa : ∀ j : Int, -1 ≤ pa j ∧ pa j ≤ 15) (hsp : ∀ j : Int, -1 ≤ sp j ∧ sp j ≤ 15) (hal : ∀ j : Int, 0 ≤ al j ∧ al j ≤ 1) (hda : ∀ j : Int, 0 ≤ da j ∧ da j ≤ 60) (d : Int) (h1 : 0 ≤ d ∧ d < 16) : zM l yX2_beginMourningsFor wsX2_beginMourningsFor ({ frames := 3, cells := 0, slots := 0, locals := 69 }) D [(cI, .int), (cZ, .boolean)] [.ref (q 0), .int (zI d)] (wC cI cZ q pa sp al dg co da mb dd ah wl lo n td wn) (wC cI cZ q pa sp al (dgF pa sp n d) co da (bgC al da (dgF pa sp n d) mb d n) dd ah wl lo n td wn) (some (.int (zI (smF (wbF al da (dgF pa sp n d)) n)))) (zLC q) := by
  refine Met.ofW (cc := cX2_beginMourningsFor) (maxL := 4) (ret := (some .int)) (by decide) rfl ?_
  intro p0 e9 s9 m9 ag9 below meth c9 s₁ B hml hv
  obtain ⟨hav, hP, hK⟩ := hv
  have hx := B.exec
  have hb := B.bytes
  have hr := B.returns
  have hts := atoms_spec (ws := wsX2_beginMourningsFor) B.pre
  have hown : s9.vm.findClass RX2 = some m9.cls := findClass_of_methodNamed B.named
  have hlocks := B.notSynchronized
  have hA : ∀ a ∈ zLC q, (fun a => a ∈ zLC q) a := fun _ h => h
  have hin1 : ∀ w ∈ u_ws RX1 TX1 5, w ∈ wsX2_beginMourningsFor := by decide +kernel
  have hin2 : ∀ w ∈ u_ws RX2 TX2 9, w ∈ wsX2_beginMourningsFor := by decide +kernel
  have hl := lv_entry ([.ref (q 0), .int (zI d)]) (n := 4) (Nat.le_of_ble_eq_true rfl)
  have hE : entryFrame m9 ag9 4 = F0 m9 0 ((lg_sl ([.ref (q 0), .int (zI d)]) ++ List.replicate (4 - (lg_sl ([.ref (q 0), .int (zI d)])).length) Slot.unset).toArray) [] := by rw [hav]; exact lg_entry_eq m9 _ _
  obtain ⟨Q0, hQ0⟩ : ∃ Q0, Q0 = MQ below (zQ D (wC cI cZ q pa sp al (dgF pa sp n d) co da (bgC al da (dgF pa sp n d) mb d n) dd ah wl lo n td wn) (some (.int (zI (smF (wbF al da (dgF pa sp n d)) n)))) (zLC q)) ag9 s9 0 0 (fun a => a ∈ zLC q) := ⟨_, rfl⟩
  show W p0 l e9 ({ frames := 3, cells := 0, slots := 0, locals := 69 }) s9 m9 ag9 below meth c9 s9.heap [] 0 0 (MQ below (zQ D (wC cI cZ q pa sp al (dgF pa sp n d) co da (bgC al da (dgF pa sp n d) mb d n) dd ah wl lo n td wn) (some (.int (zI (smF (wbF al da (dgF pa sp n d)) n)))) (zLC q)) ag9 s9 0 0 (fun a => a ∈ zLC q)) _
  rw [hE, ← hQ0]
  have hS : va_S (fun a => a ∈ zLC q) s9.heap s9.heap [] := va_S.rf
  generalize hH0 : s9.heap = H at hP ⊢
  have hS : va_S (fun a => a ∈ zLC q) s9.heap H [] := by rw [hH0] at hS ⊢; exact hS
  generalize (lg_sl ([.ref (q 0), .int (zI d)]) ++ List.replicate (4 - (lg_sl ([.ref (q 0), .int (zI d)])).length) Slot.unset).toArray = ls at hl ⊢
  have hl : lv_has ls 4 [(0, .ref (q 0)), (1, .int (zI d))] := hl
  refine lv_aload_n hx hb dX2_beginMourningsFor_0 rfl (lv_at hl 0 rfl) ?_
  refine va_get (D := D) (ci := 2) (v := .ref (q 1)) (C := RX2) (T := TX2) (N := 9) hx hb hts hin2 hown hK hP 0 rfl rfl 0 (by decide) (hts (.fieldLink RX2 12 "MourningRibbons" "family" "LMourningRibbons$Family;") (by decide +kernel)) (fun _ h9 => h9) rfl dX2_beginMourningsFor_1 ?_
  refine lv_iload_n hx hb dX2_beginMourningsFor_4 rfl (lv_at hl 1 rfl) ?_
  refine zcallV (ci := 1) (q0 := 1) (cq := (RX1, TX1, 5)) (As := [.int (zI d)]) (rest := []) ⟨hx, hb, hml, hown, hts⟩ hK (kX1_findDegrees l D cI cZ q hN pa sp al dg co da mb dd ah wl lo n td wn hpa hsp hn d (by omega)) (cwV 1 hts gX2_beginMourningsFor_X1_findDegrees rfl rfl rfl (by decide +kernel) ⟨Nat.le_of_ble_eq_true rfl, Nat.le_of_ble_eq_true rfl⟩) hP hS hA rfl rfl rfl hl.1 rfl (Nat.le_of_ble_eq_true rfl) dX2_beginMourningsFor_5 ⟨Nat.zero_le _, Nat.zero_le _⟩ (fun H locs hP hS _ _ => ?_)
  have g_1 : ∀ j : Int, 0 ≤ (dgF pa sp n d) j ∧ (dgF pa sp n d) j ≤ 4 := dgF_bd pa sp n d
  refine W.eq (g2 := F0 m9 8 ls []) rfl ?_
  refine zr_iconst hx hb dX2_beginMourningsFor_8 ?_
  refine lv_istore_n (lv' := [(2, .int (zI 0)), (0, .ref (q 0)), (1, .int (zI d))]) hx hb dX2_beginMourningsFor_9 rfl hl (by decide) rfl (fun ls hl => ?_)
  refine zr_iconst hx hb dX2_beginMourningsFor_10 ?_
  refine lv_istore_n (lv' := [(3, .int (zI 0)), (2, .int (zI 0)), (0, .ref (q 0)), (1, .int (zI d))]) hx hb dX2_beginMourningsFor_11 rfl hl (by decide) rfl (fun ls hl => ?_)
  have L12_2 : ∀ (kf i : Nat), i ≤ n → n - i < kf → ∀ (H : Heap) (locs : List Loc) (ls : Array Slot), va_P D vwCl (wC cI cZ q pa sp al (dgF pa sp n d) co da (bgC al da (dgF pa sp n d) mb d i) dd ah wl lo n td wn) H → va_S (fun a => a ∈ zLC q) s9.heap H locs → lv_has ls 4 [(3, .int (zI (i : Int))), (2, .int (zI (smF (wbF al da (dgF pa sp n d)) i))), (0, .ref (q 0)), (1, .int (zI d))] → W p0 l e9 ({ frames := 3, cells := 0, slots := 0, locals := 69 }) s9 m9 ag9 below meth c9 H locs 0 0 Q0 (F0 m9 12 ls []) := by
    intro kf
    induction kf with
    | zero => intro i h1 h2; omega
    | succ kf ih =>
      intro i hi_i hk_i H locs ls hP hS hl
      have ih_i := ih
      clear ih
      refine lv_iload_n hx hb dX2_beginMourningsFor_12 rfl (lv_at hl 0 rfl) ?_
      refine lv_aload_n hx hb dX2_beginMourningsFor_13 rfl (lv_at hl 2 rfl) ?_
      refine va_get (D := D) (ci := 2) (v := .ref (q 1)) (C := RX2) (T := TX2) (N := 9) hx hb hts hin2 hown hK hP 0 rfl rfl 0 (by decide) (hts (.fieldLink RX2 12 "MourningRibbons" "family" "LMourningRibbons$Family;") (by decide +kernel)) (fun _ h9 => h9) rfl dX2_beginMourningsFor_14 ?_
      refine va_get (D := D) (ci := 1) (v := .int (zI (n : Int))) (C := RX1) (T := TX1) (N := 5) hx hb hts hin1 hown hK hP 1 rfl rfl 3 (by decide) (hts (.fieldLink RX2 128 "MourningRibbons$Family" "count" "I") (by decide +kernel)) (fun _ h9 => h9) rfl dX2_beginMourningsFor_17 ?_
      refine zr_icmp_ge (tgt := 59) hx hb dX2_beginMourningsFor_20 (by decide) ⟨by omega, by omega⟩ ⟨by omega, by omega⟩ (fun c_3 => ?_) (fun c_3 => ?_)
      · have c_3 := c_3
        have x_4 : i = n := by omega
        try rw [x_4] at hP
        try rw [x_4] at hl
        refine lv_iload_n hx hb dX2_beginMourningsFor_59 rfl (lv_at hl 1 rfl) ?_
        rw [hQ0]
        exact zret_i hx hb hr hlocks (rfl) hP hS dX2_beginMourningsFor_60
      · have c_3 := c_3
        refine lv_aload_n hx hb dX2_beginMourningsFor_23 rfl (lv_at hl 2 rfl) ?_
        refine lv_iload_n hx hb dX2_beginMourningsFor_24 rfl (lv_at hl 0 rfl) ?_
        refine zcallV (ci := 2) (q0 := 0) (cq := (RX2, TX2, 9)) (As := [.int (zI (i : Int))]) (rest := []) ⟨hx, hb, hml, hown, hts⟩ hK (kX2_wouldBegin l D cI cZ q hN pa sp al (dgF pa sp n d) co da (bgC al da (dgF pa sp n d) mb d i) dd ah wl lo n td wn hal hda g_1 (i : Int) (by omega)) (cwV 1 hts gX2_beginMourningsFor_X2_wouldBegin rfl rfl rfl (by decide +kernel) ⟨Nat.le_of_ble_eq_true rfl, Nat.le_of_ble_eq_true rfl⟩) hP hS hA rfl rfl rfl hl.1 rfl (Nat.le_of_ble_eq_true rfl) dX2_beginMourningsFor_25 ⟨Nat.zero_le _, Nat.zero_le _⟩ (fun H locs hP hS _ _ => ?_)
        refine W.eq (g2 := F0 m9 28 ls [.int (zI (bI (al (i : Int) ≠ 0 ∧ 0 < dAll da 16 ((dgF pa sp n d) (i : Int)))))]) rfl ?_
        refine zr_if_eq (tgt := 53) hx hb dX2_beginMourningsFor_28 (by decide) (bI_rg _) (fun c_5 => ?_) (fun c_5 => ?_)
        · have c_5 := bI_z c_5
          refine zr_iinc (v := (i : Int) + 1) (lv' := [(3, .int (zI ((i : Int) + 1))), (2, .int (zI (smF (wbF al da (dgF pa sp n d)) i))), (0, .ref (q 0)), (1, .int (zI d))]) hx hb dX2_beginMourningsFor_53 hl (k := 0) rfl rfl (by decide) rfl (fun ls hl => ?_)
          refine lv_goto (tgt := 12) hx hb dX2_beginMourningsFor_56 (by decide) ?_
          have hl := lv_sub hl (l' := [(3, .int (zI ((i : Int) + 1))), (2, .int (zI (smF (wbF al da (dgF pa sp n d)) i))), (0, .ref (q 0)), (1, .int (zI d))]) [0, 1, 2, 3] rfl
          have e_6 : ((((i + 1) : Nat) : Int) : Int) = (i : Int) + 1 := by omega
          have e_7 : (smF (wbF al da (dgF pa sp n d)) (i + 1) : Int) = smF (wbF al da (dgF pa sp n d)) i := by rw [smF_s]; unfold wbF; first | (rw [if_pos (by assumption)]) | (rw [if_neg (by assumption)]; omega)
          have hl : lv_has ls 4 [(3, .int (zI (((i + 1) : Nat) : Int))), (2, .int (zI (smF (wbF al da (dgF pa sp n d)) (i + 1)))), (0, .ref (q 0)), (1, .int (zI d))] := by rw [e_6, e_7]; exact hl
          have e_8 : (bgC al da (dgF pa sp n d) mb d (i + 1) : Int → Int) = bgC al da (dgF pa sp n d) mb d i := by first | exact bgC_y (by assumption) | exact bgC_n (by assumption)
          have hP : va_P D vwCl (wC cI cZ q pa sp al (dgF pa sp n d) co da (bgC al da (dgF pa sp n d) mb d (i + 1)) dd ah wl lo n td wn) H := by rw [e_8]; exact hP
          exact ih_i (i + 1) (by omega) (by omega) _ _ _ hP hS hl
        · have c_5 := bI_n c_5
          refine lv_aload_n hx hb dX2_beginMourningsFor_31 rfl (lv_at hl 2 rfl) ?_
          refine va_get (D := D) (ci := 2) (v := .ref (q 3)) (C := RX2) (T := TX2) (N := 9) hx hb hts hin2 hown hK hP 0 rfl rfl 2 (by decide) (hts (.fieldLink RX2 23 "MourningRibbons" "mournedBy" "[I") (by decide +kernel)) (fun _ h9 => h9) rfl dX2_beginMourningsFor_32 ?_
          refine lv_iload_n hx hb dX2_beginMourningsFor_35 rfl (lv_at hl 0 rfl) ?_
          refine lv_iload_n hx hb dX2_beginMourningsFor_36 rfl (lv_at hl 3 rfl) ?_
          refine zcallP (As := [.int (zI (i : Int)), .int (zI d)]) (rest := [.ref (q 3)]) ⟨hx, hb, hml, hown, hts⟩ (kX2_pair l D (i : Int) d) hK (va_cwS 2 hts gX2_beginMourningsFor_X2_pair rfl rfl rfl (by decide +kernel) ⟨Nat.le_of_ble_eq_true rfl, Nat.le_of_ble_eq_true rfl⟩) hP hS rfl hl.1 rfl (Nat.le_of_ble_eq_true rfl) dX2_beginMourningsFor_37 ⟨Nat.zero_le _, Nat.zero_le _⟩ (fun H locs hP hS => ?_)
          refine W.eq (g2 := F0 m9 40 ls [.int (zI ((i : Int) * 16 + d)), .ref (q 3)]) rfl ?_
          refine lv_aload_n hx hb dX2_beginMourningsFor_40 rfl (lv_at hl 2 rfl) ?_
          refine va_get (D := D) (ci := 2) (v := .ref (q 1)) (C := RX2) (T := TX2) (N := 9) hx hb hts hin2 hown hK hP 0 rfl rfl 0 (by decide) (hts (.fieldLink RX2 12 "MourningRibbons" "family" "LMourningRibbons$Family;") (by decide +kernel)) (fun _ h9 => h9) rfl dX2_beginMourningsFor_41 ?_
          refine va_get (D := D) (ci := 1) (v := .ref (q 11)) (C := RX1) (T := TX1) (N := 5) hx hb hts hin1 hown hK hP 1 rfl rfl 4 (by decide) (hts (.fieldLink RX2 71 "MourningRibbons$Family" "degrees" "[I") (by decide +kernel)) (fun _ h9 => h9) rfl dX2_beginMourningsFor_44 ?_
          refine lv_iload_n hx hb dX2_beginMourningsFor_47 rfl (lv_at hl 0 rfl) ?_
          refine zr_iald (f := dgF pa sp n d) (n := 16) hx hb hK hP 11 0 rfl rfl (by decide) (i := (i : Int)) (by omega) (by omega) dX2_beginMourningsFor_48 ?_
          have b_9 := g_1 (i : Int)
          refine zr_iast (f := bgC al da (dgF pa sp n d) mb d i) (n := 256) hx hb hK hP hN rfl hA hS 3 0 rfl rfl (by decide) (i := (i : Int) * 16 + d) (x := (dgF pa sp n d) (i : Int)) (by omega) (by omega) dX2_beginMourningsFor_49 (fun H locs hP hS => ?_)
          have hP : va_P D vwCl (wC cI cZ q pa sp al (dgF pa sp n d) co da (up (bgC al da (dgF pa sp n d) mb d i) ((i : Int) * 16 + d) ((dgF pa sp n d) (i : Int))) dd ah wl lo n td wn) H := hP
          refine zr_iinc (v := (smF (wbF al da (dgF pa sp n d)) i) + 1) (lv' := [(2, .int (zI ((smF (wbF al da (dgF pa sp n d)) i) + 1))), (3, .int (zI (i : Int))), (0, .ref (q 0)), (1, .int (zI d))]) hx hb dX2_beginMourningsFor_50 hl (k := 1) rfl rfl (by decide) rfl (fun ls hl => ?_)
          refine zr_iinc (v := (i : Int) + 1) (lv' := [(3, .int (zI ((i : Int) + 1))), (2, .int (zI ((smF (wbF al da (dgF pa sp n d)) i) + 1))), (0, .ref (q 0)), (1, .int (zI d))]) hx hb dX2_beginMourningsFor_53 hl (k := 1) rfl rfl (by decide) rfl (fun ls hl => ?_)
          refine lv_goto (tgt := 12) hx hb dX2_beginMourningsFor_56 (by decide) ?_
          have hl := lv_sub hl (l' := [(3, .int (zI ((i : Int) + 1))), (2, .int (zI ((smF (wbF al da (dgF pa sp n d)) i) + 1))), (0, .ref (q 0)), (1, .int (zI d))]) [0, 1, 2, 3] rfl
          have e_10 : ((((i + 1) : Nat) : Int) : Int) = (i : Int) + 1 := by omega
          have e_11 : (smF (wbF al da (dgF pa sp n d)) (i + 1) : Int) = (smF (wbF al da (dgF pa sp n d)) i) + 1 := by rw [smF_s]; unfold wbF; first | (rw [if_pos (by assumption)]) | (rw [if_neg (by assumption)]; omega)
          have hl : lv_has ls 4 [(3, .int (zI (((i + 1) : Nat) : Int))), (2, .int (zI (smF (wbF al da (dgF pa sp n d)) (i + 1)))), (0, .ref (q 0)), (1, .int (zI d))] := by rw [e_10, e_11]; exact hl
          have e_12 : (bgC al da (dgF pa sp n d) mb d (i + 1) : Int → Int) = up (bgC al da (dgF pa sp n d) mb d i) ((i : Int) * 16 + d) ((dgF pa sp n d) (i : Int)) := by first | exact bgC_y (by assumption) | exact bgC_n (by assumption)
          have hP : va_P D vwCl (wC cI cZ q pa sp al (dgF pa sp n d) co da (bgC al da (dgF pa sp n d) mb d (i + 1)) dd ah wl lo n td wn) H := by rw [e_12]; exact hP
          exact ih_i (i + 1) (by omega) (by omega) _ _ _ hP hS hl
  have hl := lv_sub hl (l' := [(3, .int (zI 0)), (2, .int (zI 0)), (0, .ref (q 0)), (1, .int (zI d))]) [0, 1, 2, 3] rfl
  have e_13 : (smF (wbF al da (dgF pa sp n d)) 0 : Int) = 0 := rfl
  have hl : lv_has ls 4 [(3, .int (zI 0)), (2, .int (zI (smF (wbF al da (dgF pa sp n d)) 0))), (0, .ref (q 0)), (1, .int (zI d))] := by rw [e_13]; exact hl
  have e_14 : (bgC al da (dgF pa sp n d) mb d 0 : Int → Int) = mb := rfl
  have hP : va_P D vwCl (wC cI cZ q pa sp al (dgF pa sp n d) co da (bgC al da (dgF pa sp n d) mb d 0) dd ah wl lo n td wn) H := by rw [e_14]; exact hP
  exact L12_2 (n + 1) 0 (Nat.zero_le _) (by omega) _ _ _ hP hS hl
set_option maxHeartbeats 4000000 in
set_option maxRecDepth 100000 in
theorem kX2_addPersonok (l : Launch) (D : va_G) (cI cZ : ClassId) (q : Nat → Nat) (hN : (zLC q).Nodup) (pa : Int → Int) (sp : Int → Int) (al : Int → Int) (dg : Int → Int) (co : Int → Int) (da : Int → Int) (mb : Int → Int) (dd : Int → Int) (ah : Int → Int) (wl : Int → Int) (lo : Int → Int) (n : Nat) (td : Int) (wn : Int) (hn : n ≤ 16) (h1 : n < 16) : zM l yX2_addPerson wsX2_addPerson ({ frames := 7, cells := 0, slots := 0, locals := 110 }) D [(cI, .int), (cZ, .boolean)] [.ref (q 0)] (wC cI cZ q pa sp al dg co da mb dd ah wl lo n td wn) (wC cI cZ q (up pa (n : Int) (-1)) (up sp (n : Int) (-1)) (up al (n : Int) 1) dg co da mb dd ah wl lo (n + 1) td wn) (some (.int (zI (n : Int)))) (zLC q) := by
  refine Met.ofW (cc := cX2_addPerson) (maxL := 1) (ret := (some .int)) (by decide) rfl ?_
  intro p0 e9 s9 m9 ag9 below meth c9 s₁ B hml hv
  obtain ⟨hav, hP, hK⟩ := hv
  have hx := B.exec
  have hb := B.bytes
  have hr := B.returns
  have hts := atoms_spec (ws := wsX2_addPerson) B.pre
  have hown : s9.vm.findClass RX2 = some m9.cls := findClass_of_methodNamed B.named
  have hlocks := B.notSynchronized
  have hA : ∀ a ∈ zLC q, (fun a => a ∈ zLC q) a := fun _ h => h
  have hin2 : ∀ w ∈ u_ws RX2 TX2 9, w ∈ wsX2_addPerson := by decide +kernel
  have hl := lv_entry ([.ref (q 0)]) (n := 1) (Nat.le_of_ble_eq_true rfl)
  have hE : entryFrame m9 ag9 1 = F0 m9 0 ((lg_sl ([.ref (q 0)]) ++ List.replicate (1 - (lg_sl ([.ref (q 0)])).length) Slot.unset).toArray) [] := by rw [hav]; exact lg_entry_eq m9 _ _
  obtain ⟨Q0, hQ0⟩ : ∃ Q0, Q0 = MQ below (zQ D (wC cI cZ q (up pa (n : Int) (-1)) (up sp (n : Int) (-1)) (up al (n : Int) 1) dg co da mb dd ah wl lo (n + 1) td wn) (some (.int (zI (n : Int)))) (zLC q)) ag9 s9 0 0 (fun a => a ∈ zLC q) := ⟨_, rfl⟩
  show W p0 l e9 ({ frames := 7, cells := 0, slots := 0, locals := 110 }) s9 m9 ag9 below meth c9 s9.heap [] 0 0 (MQ below (zQ D (wC cI cZ q (up pa (n : Int) (-1)) (up sp (n : Int) (-1)) (up al (n : Int) 1) dg co da mb dd ah wl lo (n + 1) td wn) (some (.int (zI (n : Int)))) (zLC q)) ag9 s9 0 0 (fun a => a ∈ zLC q)) _
  rw [hE, ← hQ0]
  have hS : va_S (fun a => a ∈ zLC q) s9.heap s9.heap [] := va_S.rf
  generalize hH0 : s9.heap = H at hP ⊢
  have hS : va_S (fun a => a ∈ zLC q) s9.heap H [] := by rw [hH0] at hS ⊢; exact hS
  generalize (lg_sl ([.ref (q 0)]) ++ List.replicate (1 - (lg_sl ([.ref (q 0)])).length) Slot.unset).toArray = ls at hl ⊢
  have hl : lv_has ls 1 [(0, .ref (q 0))] := hl
  refine lv_aload_n hx hb dX2_addPerson_0 rfl (lv_at hl 0 rfl) ?_
  refine zcallV (ci := 2) (q0 := 0) (cq := (RX2, TX2, 9)) (As := []) (rest := []) ⟨hx, hb, hml, hown, hts⟩ hK (kX2_needRoomok l D cI cZ q hN pa sp al dg co da mb dd ah wl lo n td wn hn (by omega)) (cwV 0 hts gX2_addPerson_X2_needRoom rfl rfl rfl (by decide +kernel) ⟨Nat.le_of_ble_eq_true rfl, Nat.le_of_ble_eq_true rfl⟩) hP hS hA rfl rfl rfl hl.1 rfl (Nat.le_of_ble_eq_true rfl) dX2_addPerson_1 ⟨Nat.zero_le _, Nat.zero_le _⟩ (fun H locs hP hS _ _ => ?_)
  refine W.eq (g2 := F0 m9 4 ls []) rfl ?_
  refine lv_aload_n hx hb dX2_addPerson_4 rfl (lv_at hl 0 rfl) ?_
  refine va_get (D := D) (ci := 2) (v := .ref (q 1)) (C := RX2) (T := TX2) (N := 9) hx hb hts hin2 hown hK hP 0 rfl rfl 0 (by decide) (hts (.fieldLink RX2 12 "MourningRibbons" "family" "LMourningRibbons$Family;") (by decide +kernel)) (fun _ h9 => h9) rfl dX2_addPerson_5 ?_
  refine zr_iconst hx hb dX2_addPerson_8 ?_
  refine zcallV (ci := 1) (q0 := 1) (cq := (RX1, TX1, 5)) (As := [.int (zI (-1))]) (rest := []) ⟨hx, hb, hml, hown, hts⟩ hK (kX1_add l D cI cZ q hN pa sp al dg co da mb dd ah wl lo n td wn (-1) (by omega)) (cwV 1 hts gX2_addPerson_X1_add rfl rfl rfl (by decide +kernel) ⟨Nat.le_of_ble_eq_true rfl, Nat.le_of_ble_eq_true rfl⟩) hP hS hA rfl rfl rfl hl.1 rfl (Nat.le_of_ble_eq_true rfl) dX2_addPerson_9 ⟨Nat.zero_le _, Nat.zero_le _⟩ (fun H locs hP hS _ _ => ?_)
  refine W.eq (g2 := F0 m9 12 ls [.int (zI (n : Int))]) rfl ?_
  rw [hQ0]
  exact zret_i hx hb hr hlocks (rfl) hP hS dX2_addPerson_12
set_option maxHeartbeats 4000000 in
set_option maxRecDepth 100000 in
theorem kX2_addChildok (l : Launch) (D : va_G) (cI cZ : ClassId) (q : Nat → Nat) (hN : (zLC q).Nodup) (pa : Int → Int) (sp : Int → Int) (al : Int → Int) (dg : Int → Int) (co : Int → Int) (da : Int → Int) (mb : Int → Int) (dd : Int → Int) (ah : Int → Int) (wl : Int → Int) (lo : Int → Int) (n : Nat) (td : Int) (wn : Int) (hn : n ≤ 16) (hal : ∀ j : Int, 0 ≤ al j ∧ al j ≤ 1) (p : Int) (h1 : 0 ≤ p ∧ p < (n : Int)) (h2 : al p ≠ 0) (h3 : n < 16) : zM l yX2_addChild wsX2_addChild ({ frames := 7, cells := 0, slots := 0, locals := 111 }) D [(cI, .int), (cZ, .boolean)] [.ref (q 0), .int (zI p)] (wC cI cZ q pa sp al dg co da mb dd ah wl lo n td wn) (wC cI cZ q (up pa (n : Int) p) (up sp (n : Int) (-1)) (up al (n : Int) 1) dg co da mb dd ah wl lo (n + 1) td wn) (some (.int (zI (n : Int)))) (zLC q) := by
  refine Met.ofW (cc := cX2_addChild) (maxL := 2) (ret := (some .int)) (by decide) rfl ?_
  intro p0 e9 s9 m9 ag9 below meth c9 s₁ B hml hv
  obtain ⟨hav, hP, hK⟩ := hv
  have hx := B.exec
  have hb := B.bytes
  have hr := B.returns
  have hts := atoms_spec (ws := wsX2_addChild) B.pre
  have hown : s9.vm.findClass RX2 = some m9.cls := findClass_of_methodNamed B.named
  have hlocks := B.notSynchronized
  have hA : ∀ a ∈ zLC q, (fun a => a ∈ zLC q) a := fun _ h => h
  have hin2 : ∀ w ∈ u_ws RX2 TX2 9, w ∈ wsX2_addChild := by decide +kernel
  have hl := lv_entry ([.ref (q 0), .int (zI p)]) (n := 2) (Nat.le_of_ble_eq_true rfl)
  have hE : entryFrame m9 ag9 2 = F0 m9 0 ((lg_sl ([.ref (q 0), .int (zI p)]) ++ List.replicate (2 - (lg_sl ([.ref (q 0), .int (zI p)])).length) Slot.unset).toArray) [] := by rw [hav]; exact lg_entry_eq m9 _ _
  obtain ⟨Q0, hQ0⟩ : ∃ Q0, Q0 = MQ below (zQ D (wC cI cZ q (up pa (n : Int) p) (up sp (n : Int) (-1)) (up al (n : Int) 1) dg co da mb dd ah wl lo (n + 1) td wn) (some (.int (zI (n : Int)))) (zLC q)) ag9 s9 0 0 (fun a => a ∈ zLC q) := ⟨_, rfl⟩
  show W p0 l e9 ({ frames := 7, cells := 0, slots := 0, locals := 111 }) s9 m9 ag9 below meth c9 s9.heap [] 0 0 (MQ below (zQ D (wC cI cZ q (up pa (n : Int) p) (up sp (n : Int) (-1)) (up al (n : Int) 1) dg co da mb dd ah wl lo (n + 1) td wn) (some (.int (zI (n : Int)))) (zLC q)) ag9 s9 0 0 (fun a => a ∈ zLC q)) _
  rw [hE, ← hQ0]
  have hS : va_S (fun a => a ∈ zLC q) s9.heap s9.heap [] := va_S.rf
  generalize hH0 : s9.heap = H at hP ⊢
  have hS : va_S (fun a => a ∈ zLC q) s9.heap H [] := by rw [hH0] at hS ⊢; exact hS
  generalize (lg_sl ([.ref (q 0), .int (zI p)]) ++ List.replicate (2 - (lg_sl ([.ref (q 0), .int (zI p)])).length) Slot.unset).toArray = ls at hl ⊢
  have hl : lv_has ls 2 [(0, .ref (q 0)), (1, .int (zI p))] := hl
  refine lv_aload_n hx hb dX2_addChild_0 rfl (lv_at hl 0 rfl) ?_
  refine lv_iload_n hx hb dX2_addChild_1 rfl (lv_at hl 1 rfl) ?_
  refine zcallV (ci := 2) (q0 := 0) (cq := (RX2, TX2, 9)) (As := [.int (zI p)]) (rest := []) ⟨hx, hb, hml, hown, hts⟩ hK (kX2_needPersonok l D cI cZ q hN pa sp al dg co da mb dd ah wl lo n td wn hn p (by omega)) (cwV 1 hts gX2_addChild_X2_needPerson rfl rfl rfl (by decide +kernel) ⟨Nat.le_of_ble_eq_true rfl, Nat.le_of_ble_eq_true rfl⟩) hP hS hA rfl rfl rfl hl.1 rfl (Nat.le_of_ble_eq_true rfl) dX2_addChild_2 ⟨Nat.zero_le _, Nat.zero_le _⟩ (fun H locs hP hS _ _ => ?_)
  refine W.eq (g2 := F0 m9 5 ls []) rfl ?_
  refine lv_aload_n hx hb dX2_addChild_5 rfl (lv_at hl 0 rfl) ?_
  refine lv_iload_n hx hb dX2_addChild_6 rfl (lv_at hl 1 rfl) ?_
  refine zcallV (ci := 2) (q0 := 0) (cq := (RX2, TX2, 9)) (As := [.int (zI p)]) (rest := []) ⟨hx, hb, hml, hown, hts⟩ hK (kX2_needAliveok l D cI cZ q hN pa sp al dg co da mb dd ah wl lo n td wn hal p (by omega) (by omega)) (cwV 1 hts gX2_addChild_X2_needAlive rfl rfl rfl (by decide +kernel) ⟨Nat.le_of_ble_eq_true rfl, Nat.le_of_ble_eq_true rfl⟩) hP hS hA rfl rfl rfl hl.1 rfl (Nat.le_of_ble_eq_true rfl) dX2_addChild_7 ⟨Nat.zero_le _, Nat.zero_le _⟩ (fun H locs hP hS _ _ => ?_)
  refine W.eq (g2 := F0 m9 10 ls []) rfl ?_
  refine lv_aload_n hx hb dX2_addChild_10 rfl (lv_at hl 0 rfl) ?_
  refine zcallV (ci := 2) (q0 := 0) (cq := (RX2, TX2, 9)) (As := []) (rest := []) ⟨hx, hb, hml, hown, hts⟩ hK (kX2_needRoomok l D cI cZ q hN pa sp al dg co da mb dd ah wl lo n td wn hn (by omega)) (cwV 0 hts gX2_addChild_X2_needRoom rfl rfl rfl (by decide +kernel) ⟨Nat.le_of_ble_eq_true rfl, Nat.le_of_ble_eq_true rfl⟩) hP hS hA rfl rfl rfl hl.1 rfl (Nat.le_of_ble_eq_true rfl) dX2_addChild_11 ⟨Nat.zero_le _, Nat.zero_le _⟩ (fun H locs hP hS _ _ => ?_)
  refine W.eq (g2 := F0 m9 14 ls []) rfl ?_
  refine lv_aload_n hx hb dX2_addChild_14 rfl (lv_at hl 0 rfl) ?_
  refine va_get (D := D) (ci := 2) (v := .ref (q 1)) (C := RX2) (T := TX2) (N := 9) hx hb hts hin2 hown hK hP 0 rfl rfl 0 (by decide) (hts (.fieldLink RX2 12 "MourningRibbons" "family" "LMourningRibbons$Family;") (by decide +kernel)) (fun _ h9 => h9) rfl dX2_addChild_15 ?_
  refine lv_iload_n hx hb dX2_addChild_18 rfl (lv_at hl 1 rfl) ?_
  refine zcallV (ci := 1) (q0 := 1) (cq := (RX1, TX1, 5)) (As := [.int (zI p)]) (rest := []) ⟨hx, hb, hml, hown, hts⟩ hK (kX1_add l D cI cZ q hN pa sp al dg co da mb dd ah wl lo n td wn p (by omega)) (cwV 1 hts gX2_addChild_X1_add rfl rfl rfl (by decide +kernel) ⟨Nat.le_of_ble_eq_true rfl, Nat.le_of_ble_eq_true rfl⟩) hP hS hA rfl rfl rfl hl.1 rfl (Nat.le_of_ble_eq_true rfl) dX2_addChild_19 ⟨Nat.zero_le _, Nat.zero_le _⟩ (fun H locs hP hS _ _ => ?_)
  refine W.eq (g2 := F0 m9 22 ls [.int (zI (n : Int))]) rfl ?_
  rw [hQ0]
  exact zret_i hx hb hr hlocks (rfl) hP hS dX2_addChild_22
set_option maxHeartbeats 4000000 in
set_option maxRecDepth 100000 in
theorem kX2_marryok (l : Launch) (D : va_G) (cI cZ : ClassId) (q : Nat → Nat) (hN : (zLC q).Nodup) (pa : Int → Int) (sp : Int → Int) (al : Int → Int) (dg : Int → Int) (co : Int → Int) (da : Int → Int) (mb : Int → Int) (dd : Int → Int) (ah : Int → Int) (wl : Int → Int) (lo : Int → Int) (n : Nat) (td : Int) (wn : Int) (hn : n ≤ 16) (hpa : ∀ j : Int, -1 ≤ pa j ∧ pa j ≤ 15) (hsp : ∀ j : Int, -1 ≤ sp j ∧ sp j ≤ 15) (hal : ∀ j : Int, 0 ≤ al j ∧ al j ≤ 1) (a : Int) (b : Int) (h1 : 0 ≤ a ∧ a < (n : Int)) (h2 : 0 ≤ b ∧ b < (n : Int)) (h3 : a ≠ b) (h4 : al a ≠ 0) (h5 : al b ≠ 0) (h6 : ¬ (sp a ≠ -1 ∧ al (sp a) ≠ 0)) (h7 : ¬ (sp b ≠ -1 ∧ al (sp b) ≠ 0)) : zM l yX2_marry wsX2_marry ({ frames := 7, cells := 0, slots := 0, locals := 112 }) D [(cI, .int), (cZ, .boolean)] [.ref (q 0), .int (zI a), .int (zI b)] (wC cI cZ q pa sp al dg co da mb dd ah wl lo n td wn) (wC cI cZ q pa (up (up (lvS (lvS sp a) b) a b) b a) al (dgF pa sp n a) co da mb dd ah wl lo n td wn) (some (.int (zI (dgF pa sp n a b)))) (zLC q) := by
  refine Met.ofW (cc := cX2_marry) (maxL := 4) (ret := (some .int)) (by decide) rfl ?_
  intro p0 e9 s9 m9 ag9 below meth c9 s₁ B hml hv
  obtain ⟨hav, hP, hK⟩ := hv
  have hx := B.exec
  have hb := B.bytes
  have hr := B.returns
  have hts := atoms_spec (ws := wsX2_marry) B.pre
  have hown : s9.vm.findClass RX2 = some m9.cls := findClass_of_methodNamed B.named
  have hlocks := B.notSynchronized
  have hA : ∀ a ∈ zLC q, (fun a => a ∈ zLC q) a := fun _ h => h
  have hin1 : ∀ w ∈ u_ws RX1 TX1 5, w ∈ wsX2_marry := by decide +kernel
  have hin2 : ∀ w ∈ u_ws RX2 TX2 9, w ∈ wsX2_marry := by decide +kernel
  have hl := lv_entry ([.ref (q 0), .int (zI a), .int (zI b)]) (n := 4) (Nat.le_of_ble_eq_true rfl)
  have hE : entryFrame m9 ag9 4 = F0 m9 0 ((lg_sl ([.ref (q 0), .int (zI a), .int (zI b)]) ++ List.replicate (4 - (lg_sl ([.ref (q 0), .int (zI a), .int (zI b)])).length) Slot.unset).toArray) [] := by rw [hav]; exact lg_entry_eq m9 _ _
  obtain ⟨Q0, hQ0⟩ : ∃ Q0, Q0 = MQ below (zQ D (wC cI cZ q pa (up (up (lvS (lvS sp a) b) a b) b a) al (dgF pa sp n a) co da mb dd ah wl lo n td wn) (some (.int (zI (dgF pa sp n a b)))) (zLC q)) ag9 s9 0 0 (fun a => a ∈ zLC q) := ⟨_, rfl⟩
  show W p0 l e9 ({ frames := 7, cells := 0, slots := 0, locals := 112 }) s9 m9 ag9 below meth c9 s9.heap [] 0 0 (MQ below (zQ D (wC cI cZ q pa (up (up (lvS (lvS sp a) b) a b) b a) al (dgF pa sp n a) co da mb dd ah wl lo n td wn) (some (.int (zI (dgF pa sp n a b)))) (zLC q)) ag9 s9 0 0 (fun a => a ∈ zLC q)) _
  rw [hE, ← hQ0]
  have hS : va_S (fun a => a ∈ zLC q) s9.heap s9.heap [] := va_S.rf
  generalize hH0 : s9.heap = H at hP ⊢
  have hS : va_S (fun a => a ∈ zLC q) s9.heap H [] := by rw [hH0] at hS ⊢; exact hS
  generalize (lg_sl ([.ref (q 0), .int (zI a), .int (zI b)]) ++ List.replicate (4 - (lg_sl ([.ref (q 0), .int (zI a), .int (zI b)])).length) Slot.unset).toArray = ls at hl ⊢
  have hl : lv_has ls 4 [(0, .ref (q 0)), (1, .int (zI a)), (2, .int (zI b))] := hl
  refine lv_aload_n hx hb dX2_marry_0 rfl (lv_at hl 0 rfl) ?_
  refine lv_iload_n hx hb dX2_marry_1 rfl (lv_at hl 1 rfl) ?_
  refine zcallV (ci := 2) (q0 := 0) (cq := (RX2, TX2, 9)) (As := [.int (zI a)]) (rest := []) ⟨hx, hb, hml, hown, hts⟩ hK (kX2_needPersonok l D cI cZ q hN pa sp al dg co da mb dd ah wl lo n td wn hn a (by omega)) (cwV 1 hts gX2_marry_X2_needPerson rfl rfl rfl (by decide +kernel) ⟨Nat.le_of_ble_eq_true rfl, Nat.le_of_ble_eq_true rfl⟩) hP hS hA rfl rfl rfl hl.1 rfl (Nat.le_of_ble_eq_true rfl) dX2_marry_2 ⟨Nat.zero_le _, Nat.zero_le _⟩ (fun H locs hP hS _ _ => ?_)
  refine W.eq (g2 := F0 m9 5 ls []) rfl ?_
  refine lv_aload_n hx hb dX2_marry_5 rfl (lv_at hl 0 rfl) ?_
  refine lv_iload_n hx hb dX2_marry_6 rfl (lv_at hl 2 rfl) ?_
  refine zcallV (ci := 2) (q0 := 0) (cq := (RX2, TX2, 9)) (As := [.int (zI b)]) (rest := []) ⟨hx, hb, hml, hown, hts⟩ hK (kX2_needPersonok l D cI cZ q hN pa sp al dg co da mb dd ah wl lo n td wn hn b (by omega)) (cwV 1 hts gX2_marry_X2_needPerson rfl rfl rfl (by decide +kernel) ⟨Nat.le_of_ble_eq_true rfl, Nat.le_of_ble_eq_true rfl⟩) hP hS hA rfl rfl rfl hl.1 rfl (Nat.le_of_ble_eq_true rfl) dX2_marry_7 ⟨Nat.zero_le _, Nat.zero_le _⟩ (fun H locs hP hS _ _ => ?_)
  refine W.eq (g2 := F0 m9 10 ls []) rfl ?_
  refine lv_aload_n hx hb dX2_marry_10 rfl (lv_at hl 0 rfl) ?_
  refine lv_iload_n hx hb dX2_marry_11 rfl (lv_at hl 1 rfl) ?_
  refine lv_iload_n hx hb dX2_marry_12 rfl (lv_at hl 2 rfl) ?_
  refine zcallV (ci := 2) (q0 := 0) (cq := (RX2, TX2, 9)) (As := [.int (zI a), .int (zI b)]) (rest := []) ⟨hx, hb, hml, hown, hts⟩ hK (kX2_needTwook l D cI cZ q hN pa sp al dg co da mb dd ah wl lo n td wn a b (by omega) (by omega) (by omega)) (cwV 2 hts gX2_marry_X2_needTwo rfl rfl rfl (by decide +kernel) ⟨Nat.le_of_ble_eq_true rfl, Nat.le_of_ble_eq_true rfl⟩) hP hS hA rfl rfl rfl hl.1 rfl (Nat.le_of_ble_eq_true rfl) dX2_marry_13 ⟨Nat.zero_le _, Nat.zero_le _⟩ (fun H locs hP hS _ _ => ?_)
  refine W.eq (g2 := F0 m9 16 ls []) rfl ?_
  refine lv_aload_n hx hb dX2_marry_16 rfl (lv_at hl 0 rfl) ?_
  refine lv_iload_n hx hb dX2_marry_17 rfl (lv_at hl 1 rfl) ?_
  refine zcallV (ci := 2) (q0 := 0) (cq := (RX2, TX2, 9)) (As := [.int (zI a)]) (rest := []) ⟨hx, hb, hml, hown, hts⟩ hK (kX2_needAliveok l D cI cZ q hN pa sp al dg co da mb dd ah wl lo n td wn hal a (by omega) (by omega)) (cwV 1 hts gX2_marry_X2_needAlive rfl rfl rfl (by decide +kernel) ⟨Nat.le_of_ble_eq_true rfl, Nat.le_of_ble_eq_true rfl⟩) hP hS hA rfl rfl rfl hl.1 rfl (Nat.le_of_ble_eq_true rfl) dX2_marry_18 ⟨Nat.zero_le _, Nat.zero_le _⟩ (fun H locs hP hS _ _ => ?_)
  refine W.eq (g2 := F0 m9 21 ls []) rfl ?_
  refine lv_aload_n hx hb dX2_marry_21 rfl (lv_at hl 0 rfl) ?_
  refine lv_iload_n hx hb dX2_marry_22 rfl (lv_at hl 2 rfl) ?_
  refine zcallV (ci := 2) (q0 := 0) (cq := (RX2, TX2, 9)) (As := [.int (zI b)]) (rest := []) ⟨hx, hb, hml, hown, hts⟩ hK (kX2_needAliveok l D cI cZ q hN pa sp al dg co da mb dd ah wl lo n td wn hal b (by omega) (by omega)) (cwV 1 hts gX2_marry_X2_needAlive rfl rfl rfl (by decide +kernel) ⟨Nat.le_of_ble_eq_true rfl, Nat.le_of_ble_eq_true rfl⟩) hP hS hA rfl rfl rfl hl.1 rfl (Nat.le_of_ble_eq_true rfl) dX2_marry_23 ⟨Nat.zero_le _, Nat.zero_le _⟩ (fun H locs hP hS _ _ => ?_)
  refine W.eq (g2 := F0 m9 26 ls []) rfl ?_
  refine lv_aload_n hx hb dX2_marry_26 rfl (lv_at hl 0 rfl) ?_
  refine va_get (D := D) (ci := 2) (v := .ref (q 1)) (C := RX2) (T := TX2) (N := 9) hx hb hts hin2 hown hK hP 0 rfl rfl 0 (by decide) (hts (.fieldLink RX2 12 "MourningRibbons" "family" "LMourningRibbons$Family;") (by decide +kernel)) (fun _ h9 => h9) rfl dX2_marry_27 ?_
  refine lv_iload_n hx hb dX2_marry_30 rfl (lv_at hl 1 rfl) ?_
  refine zcallV (ci := 1) (q0 := 1) (cq := (RX1, TX1, 5)) (As := [.int (zI a)]) (rest := []) ⟨hx, hb, hml, hown, hts⟩ hK (kX1_hasLivingSpouse l D cI cZ q hN pa sp al dg co da mb dd ah wl lo n td wn hsp hal a (by omega)) (cwV 1 hts gX2_marry_X1_hasLivingSpouse rfl rfl rfl (by decide +kernel) ⟨Nat.le_of_ble_eq_true rfl, Nat.le_of_ble_eq_true rfl⟩) hP hS hA rfl rfl rfl hl.1 rfl (Nat.le_of_ble_eq_true rfl) dX2_marry_31 ⟨Nat.zero_le _, Nat.zero_le _⟩ (fun H locs hP hS _ _ => ?_)
  refine W.eq (g2 := F0 m9 34 ls [.int (zI (bI (sp a ≠ -1 ∧ al (sp a) ≠ 0)))]) rfl ?_
  refine zr_if_ne (tgt := 48) hx hb dX2_marry_34 (by decide) (bI_rg _) (fun c_1 => ?_) (fun c_1 => ?_)
  · have c_1 := bI_n c_1
    exfalso; omega
  · have c_1 := bI_z c_1
    refine lv_aload_n hx hb dX2_marry_37 rfl (lv_at hl 0 rfl) ?_
    refine va_get (D := D) (ci := 2) (v := .ref (q 1)) (C := RX2) (T := TX2) (N := 9) hx hb hts hin2 hown hK hP 0 rfl rfl 0 (by decide) (hts (.fieldLink RX2 12 "MourningRibbons" "family" "LMourningRibbons$Family;") (by decide +kernel)) (fun _ h9 => h9) rfl dX2_marry_38 ?_
    refine lv_iload_n hx hb dX2_marry_41 rfl (lv_at hl 2 rfl) ?_
    refine zcallV (ci := 1) (q0 := 1) (cq := (RX1, TX1, 5)) (As := [.int (zI b)]) (rest := []) ⟨hx, hb, hml, hown, hts⟩ hK (kX1_hasLivingSpouse l D cI cZ q hN pa sp al dg co da mb dd ah wl lo n td wn hsp hal b (by omega)) (cwV 1 hts gX2_marry_X1_hasLivingSpouse rfl rfl rfl (by decide +kernel) ⟨Nat.le_of_ble_eq_true rfl, Nat.le_of_ble_eq_true rfl⟩) hP hS hA rfl rfl rfl hl.1 rfl (Nat.le_of_ble_eq_true rfl) dX2_marry_42 ⟨Nat.zero_le _, Nat.zero_le _⟩ (fun H locs hP hS _ _ => ?_)
    refine W.eq (g2 := F0 m9 45 ls [.int (zI (bI (sp b ≠ -1 ∧ al (sp b) ≠ 0)))]) rfl ?_
    refine zr_if_eq (tgt := 58) hx hb dX2_marry_45 (by decide) (bI_rg _) (fun c_2 => ?_) (fun c_2 => ?_)
    · have c_2 := bI_z c_2
      refine lv_aload_n hx hb dX2_marry_58 rfl (lv_at hl 0 rfl) ?_
      refine va_get (D := D) (ci := 2) (v := .ref (q 1)) (C := RX2) (T := TX2) (N := 9) hx hb hts hin2 hown hK hP 0 rfl rfl 0 (by decide) (hts (.fieldLink RX2 12 "MourningRibbons" "family" "LMourningRibbons$Family;") (by decide +kernel)) (fun _ h9 => h9) rfl dX2_marry_59 ?_
      refine lv_iload_n hx hb dX2_marry_62 rfl (lv_at hl 1 rfl) ?_
      refine zcallV (ci := 1) (q0 := 1) (cq := (RX1, TX1, 5)) (As := [.int (zI a)]) (rest := []) ⟨hx, hb, hml, hown, hts⟩ hK (kX1_findDegrees l D cI cZ q hN pa sp al dg co da mb dd ah wl lo n td wn hpa hsp hn a (by omega)) (cwV 1 hts gX2_marry_X1_findDegrees rfl rfl rfl (by decide +kernel) ⟨Nat.le_of_ble_eq_true rfl, Nat.le_of_ble_eq_true rfl⟩) hP hS hA rfl rfl rfl hl.1 rfl (Nat.le_of_ble_eq_true rfl) dX2_marry_63 ⟨Nat.zero_le _, Nat.zero_le _⟩ (fun H locs hP hS _ _ => ?_)
      have g_3 : ∀ j : Int, 0 ≤ (dgF pa sp n a) j ∧ (dgF pa sp n a) j ≤ 4 := dgF_bd pa sp n a
      refine W.eq (g2 := F0 m9 66 ls []) rfl ?_
      refine lv_aload_n hx hb dX2_marry_66 rfl (lv_at hl 0 rfl) ?_
      refine va_get (D := D) (ci := 2) (v := .ref (q 1)) (C := RX2) (T := TX2) (N := 9) hx hb hts hin2 hown hK hP 0 rfl rfl 0 (by decide) (hts (.fieldLink RX2 12 "MourningRibbons" "family" "LMourningRibbons$Family;") (by decide +kernel)) (fun _ h9 => h9) rfl dX2_marry_67 ?_
      refine va_get (D := D) (ci := 1) (v := .ref (q 11)) (C := RX1) (T := TX1) (N := 5) hx hb hts hin1 hown hK hP 1 rfl rfl 4 (by decide) (hts (.fieldLink RX2 71 "MourningRibbons$Family" "degrees" "[I") (by decide +kernel)) (fun _ h9 => h9) rfl dX2_marry_70 ?_
      refine lv_iload_n hx hb dX2_marry_73 rfl (lv_at hl 2 rfl) ?_
      refine zr_iald (f := dgF pa sp n a) (n := 16) hx hb hK hP 11 0 rfl rfl (by decide) (i := b) (by omega) (by omega) dX2_marry_74 ?_
      have b_4 := g_3 b
      refine lv_istore_n (lv' := [(3, .int (zI ((dgF pa sp n a) b))), (0, .ref (q 0)), (1, .int (zI a)), (2, .int (zI b))]) hx hb dX2_marry_75 rfl hl (by decide) rfl (fun ls hl => ?_)
      refine lv_aload_n hx hb dX2_marry_76 rfl (lv_at hl 1 rfl) ?_
      refine va_get (D := D) (ci := 2) (v := .ref (q 1)) (C := RX2) (T := TX2) (N := 9) hx hb hts hin2 hown hK hP 0 rfl rfl 0 (by decide) (hts (.fieldLink RX2 12 "MourningRibbons" "family" "LMourningRibbons$Family;") (by decide +kernel)) (fun _ h9 => h9) rfl dX2_marry_77 ?_
      refine lv_iload_n hx hb dX2_marry_80 rfl (lv_at hl 2 rfl) ?_
      refine lv_iload_n hx hb dX2_marry_81 rfl (lv_at hl 3 rfl) ?_
      refine zcallV (ci := 1) (q0 := 1) (cq := (RX1, TX1, 5)) (As := [.int (zI a), .int (zI b)]) (rest := []) ⟨hx, hb, hml, hown, hts⟩ hK (kX1_wed l D cI cZ q hN pa sp al (dgF pa sp n a) co da mb dd ah wl lo n td wn hsp a b (by omega) (by omega)) (cwV 2 hts gX2_marry_X1_wed rfl rfl rfl (by decide +kernel) ⟨Nat.le_of_ble_eq_true rfl, Nat.le_of_ble_eq_true rfl⟩) hP hS hA rfl rfl rfl hl.1 rfl (Nat.le_of_ble_eq_true rfl) dX2_marry_82 ⟨Nat.zero_le _, Nat.zero_le _⟩ (fun H locs hP hS _ _ => ?_)
      refine W.eq (g2 := F0 m9 85 ls []) rfl ?_
      refine lv_iload_n hx hb dX2_marry_85 rfl (lv_at hl 0 rfl) ?_
      rw [hQ0]
      exact zret_i hx hb hr hlocks (rfl) hP hS dX2_marry_86
    · have c_2 := bI_n c_2
      exfalso; omega
set_option maxHeartbeats 4000000 in
set_option maxRecDepth 100000 in
theorem kX2_setStageok (l : Launch) (D : va_G) (cI cZ : ClassId) (q : Nat → Nat) (hN : (zLC q).Nodup) (pa : Int → Int) (sp : Int → Int) (al : Int → Int) (dg : Int → Int) (co : Int → Int) (da : Int → Int) (mb : Int → Int) (dd : Int → Int) (ah : Int → Int) (wl : Int → Int) (lo : Int → Int) (n : Nat) (td : Int) (wn : Int) (hda : ∀ j : Int, 0 ≤ da j ∧ da j ≤ 60) (g : Int) (s : Int) (c : Int) (k : Int) (h1 : 1 ≤ g ∧ g ≤ 4) (h2 : 0 ≤ s ∧ s ≤ 2) (h3 : 0 ≤ c ∧ c ≤ 5) (h4 : 0 ≤ k ∧ k ≤ 60) : zM l yX2_setStage wsX2_setStage ({ frames := 8, cells := 0, slots := 0, locals := 133 }) D [(cI, .int), (cZ, .boolean)] [.ref (q 0), .int (zI g), .int (zI s), .int (zI c), .int (zI k)] (wC cI cZ q pa sp al dg co da mb dd ah wl lo n td wn) (wC cI cZ q pa sp al dg (up co (16 * 12 + (g - 1) * 3 + s) c) (up da (16 * 12 + (g - 1) * 3 + s) k) mb dd ah wl lo n td wn) (some (.int (zI (dAll (up da (16 * 12 + (g - 1) * 3 + s) k) 16 g)))) (zLC q) := by
  refine Met.ofW (cc := cX2_setStage) (maxL := 6) (ret := (some .int)) (by decide) rfl ?_
  intro p0 e9 s9 m9 ag9 below meth c9 s₁ B hml hv
  obtain ⟨hav, hP, hK⟩ := hv
  have hx := B.exec
  have hb := B.bytes
  have hr := B.returns
  have hts := atoms_spec (ws := wsX2_setStage) B.pre
  have hown : s9.vm.findClass RX2 = some m9.cls := findClass_of_methodNamed B.named
  have hlocks := B.notSynchronized
  have hA : ∀ a ∈ zLC q, (fun a => a ∈ zLC q) a := fun _ h => h
  have hin0 : ∀ w ∈ u_ws RX0 TX0 2, w ∈ wsX2_setStage := by decide +kernel
  have hin2 : ∀ w ∈ u_ws RX2 TX2 9, w ∈ wsX2_setStage := by decide +kernel
  have hl := lv_entry ([.ref (q 0), .int (zI g), .int (zI s), .int (zI c), .int (zI k)]) (n := 6) (Nat.le_of_ble_eq_true rfl)
  have hE : entryFrame m9 ag9 6 = F0 m9 0 ((lg_sl ([.ref (q 0), .int (zI g), .int (zI s), .int (zI c), .int (zI k)]) ++ List.replicate (6 - (lg_sl ([.ref (q 0), .int (zI g), .int (zI s), .int (zI c), .int (zI k)])).length) Slot.unset).toArray) [] := by rw [hav]; exact lg_entry_eq m9 _ _
  obtain ⟨Q0, hQ0⟩ : ∃ Q0, Q0 = MQ below (zQ D (wC cI cZ q pa sp al dg (up co (16 * 12 + (g - 1) * 3 + s) c) (up da (16 * 12 + (g - 1) * 3 + s) k) mb dd ah wl lo n td wn) (some (.int (zI (dAll (up da (16 * 12 + (g - 1) * 3 + s) k) 16 g)))) (zLC q)) ag9 s9 0 0 (fun a => a ∈ zLC q) := ⟨_, rfl⟩
  show W p0 l e9 ({ frames := 8, cells := 0, slots := 0, locals := 133 }) s9 m9 ag9 below meth c9 s9.heap [] 0 0 (MQ below (zQ D (wC cI cZ q pa sp al dg (up co (16 * 12 + (g - 1) * 3 + s) c) (up da (16 * 12 + (g - 1) * 3 + s) k) mb dd ah wl lo n td wn) (some (.int (zI (dAll (up da (16 * 12 + (g - 1) * 3 + s) k) 16 g)))) (zLC q)) ag9 s9 0 0 (fun a => a ∈ zLC q)) _
  rw [hE, ← hQ0]
  have hS : va_S (fun a => a ∈ zLC q) s9.heap s9.heap [] := va_S.rf
  generalize hH0 : s9.heap = H at hP ⊢
  have hS : va_S (fun a => a ∈ zLC q) s9.heap H [] := by rw [hH0] at hS ⊢; exact hS
  generalize (lg_sl ([.ref (q 0), .int (zI g), .int (zI s), .int (zI c), .int (zI k)]) ++ List.replicate (6 - (lg_sl ([.ref (q 0), .int (zI g), .int (zI s), .int (zI c), .int (zI k)])).length) Slot.unset).toArray = ls at hl ⊢
  have hl : lv_has ls 6 [(0, .ref (q 0)), (1, .int (zI g)), (2, .int (zI s)), (3, .int (zI c)), (4, .int (zI k))] := hl
  refine lv_aload_n hx hb dX2_setStage_0 rfl (lv_at hl 0 rfl) ?_
  refine lv_iload_n hx hb dX2_setStage_1 rfl (lv_at hl 1 rfl) ?_
  refine lv_iload_n hx hb dX2_setStage_2 rfl (lv_at hl 2 rfl) ?_
  refine zcallV (ci := 2) (q0 := 0) (cq := (RX2, TX2, 9)) (As := [.int (zI g), .int (zI s)]) (rest := []) ⟨hx, hb, hml, hown, hts⟩ hK (kX2_needStageok l D cI cZ q hN pa sp al dg co da mb dd ah wl lo n td wn g s (by omega) (by omega)) (cwV 2 hts gX2_setStage_X2_needStage rfl rfl rfl (by decide +kernel) ⟨Nat.le_of_ble_eq_true rfl, Nat.le_of_ble_eq_true rfl⟩) hP hS hA rfl rfl rfl hl.1 rfl (Nat.le_of_ble_eq_true rfl) dX2_setStage_3 ⟨Nat.zero_le _, Nat.zero_le _⟩ (fun H locs hP hS _ _ => ?_)
  refine W.eq (g2 := F0 m9 6 ls []) rfl ?_
  refine lv_iload_n hx hb dX2_setStage_6 rfl (lv_at hl 3 rfl) ?_
  refine zr_if_lt (tgt := 15) hx hb dX2_setStage_7 (by decide) ⟨by omega, by omega⟩ (fun c_1 => ?_) (fun c_1 => ?_)
  · have c_1 := c_1
    exfalso; omega
  · have c_1 := c_1
    refine lv_iload_n hx hb dX2_setStage_10 rfl (lv_at hl 3 rfl) ?_
    refine zr_iconst hx hb dX2_setStage_11 ?_
    refine zr_icmp_le (tgt := 25) hx hb dX2_setStage_12 (by decide) ⟨by omega, by omega⟩ ⟨by decide, by decide⟩ (fun c_2 => ?_) (fun c_2 => ?_)
    · have c_2 := c_2
      refine lv_iload hx hb dX2_setStage_25 (lv_at hl 4 rfl) ?_
      refine zr_if_lt (tgt := 37) hx hb dX2_setStage_27 (by decide) ⟨by omega, by omega⟩ (fun c_3 => ?_) (fun c_3 => ?_)
      · have c_3 := c_3
        exfalso; omega
      · have c_3 := c_3
        refine lv_iload hx hb dX2_setStage_30 (lv_at hl 4 rfl) ?_
        refine zr_bipush hx hb dX2_setStage_32 (by decide) ?_
        refine zr_icmp_le (tgt := 47) hx hb dX2_setStage_34 (by decide) ⟨by omega, by omega⟩ ⟨by decide, by decide⟩ (fun c_4 => ?_) (fun c_4 => ?_)
        · have c_4 := c_4
          refine zr_bipush hx hb dX2_setStage_47 (by decide) ?_
          refine lv_iload_n hx hb dX2_setStage_49 rfl (lv_at hl 1 rfl) ?_
          refine lv_iload_n hx hb dX2_setStage_50 rfl (lv_at hl 2 rfl) ?_
          refine zcallP (As := [.int (zI 16), .int (zI g), .int (zI s)]) (rest := []) ⟨hx, hb, hml, hown, hts⟩ (kX0_place l D 16 g s) hK (va_cwS 3 hts gX2_setStage_X0_place rfl rfl rfl (by decide +kernel) ⟨Nat.le_of_ble_eq_true rfl, Nat.le_of_ble_eq_true rfl⟩) hP hS rfl hl.1 rfl (Nat.le_of_ble_eq_true rfl) dX2_setStage_51 ⟨Nat.zero_le _, Nat.zero_le _⟩ (fun H locs hP hS => ?_)
          refine W.eq (g2 := F0 m9 54 ls [.int (zI (16 * 12 + (g - 1) * 3 + s))]) rfl ?_
          refine lv_istore (lv' := [(5, .int (zI (16 * 12 + (g - 1) * 3 + s))), (0, .ref (q 0)), (1, .int (zI g)), (2, .int (zI s)), (3, .int (zI c)), (4, .int (zI k))]) hx hb dX2_setStage_54 hl (by decide) rfl (fun ls hl => ?_)
          refine lv_aload_n hx hb dX2_setStage_56 rfl (lv_at hl 1 rfl) ?_
          refine va_get (D := D) (ci := 2) (v := .ref (q 2)) (C := RX2) (T := TX2) (N := 9) hx hb hts hin2 hown hK hP 0 rfl rfl 1 (by decide) (hts (.fieldLink RX2 19 "MourningRibbons" "codes" "LMourningRibbons$Codes;") (by decide +kernel)) (fun _ h9 => h9) rfl dX2_setStage_57 ?_
          refine va_get (D := D) (ci := 0) (v := .ref (q 12)) (C := RX0) (T := TX0) (N := 2) hx hb hts hin0 hown hK hP 2 rfl rfl 0 (by decide) (hts (.fieldLink RX2 91 "MourningRibbons$Codes" "colours" "[I") (by decide +kernel)) (fun _ h9 => h9) rfl dX2_setStage_60 ?_
          refine lv_iload hx hb dX2_setStage_63 (lv_at hl 0 rfl) ?_
          refine lv_iload_n hx hb dX2_setStage_65 rfl (lv_at hl 4 rfl) ?_
          refine zr_iast (f := co) (n := 204) hx hb hK hP hN rfl hA hS 12 0 rfl rfl (by decide) (i := 16 * 12 + (g - 1) * 3 + s) (x := c) (by omega) (by omega) dX2_setStage_66 (fun H locs hP hS => ?_)
          have hP : va_P D vwCl (wC cI cZ q pa sp al dg (up co (16 * 12 + (g - 1) * 3 + s) c) da mb dd ah wl lo n td wn) H := hP
          refine lv_aload_n hx hb dX2_setStage_67 rfl (lv_at hl 1 rfl) ?_
          refine va_get (D := D) (ci := 2) (v := .ref (q 2)) (C := RX2) (T := TX2) (N := 9) hx hb hts hin2 hown hK hP 0 rfl rfl 1 (by decide) (hts (.fieldLink RX2 19 "MourningRibbons" "codes" "LMourningRibbons$Codes;") (by decide +kernel)) (fun _ h9 => h9) rfl dX2_setStage_68 ?_
          refine va_get (D := D) (ci := 0) (v := .ref (q 13)) (C := RX0) (T := TX0) (N := 2) hx hb hts hin0 hown hK hP 2 rfl rfl 1 (by decide) (hts (.fieldLink RX2 94 "MourningRibbons$Codes" "days" "[I") (by decide +kernel)) (fun _ h9 => h9) rfl dX2_setStage_71 ?_
          refine lv_iload hx hb dX2_setStage_74 (lv_at hl 0 rfl) ?_
          refine lv_iload hx hb dX2_setStage_76 (lv_at hl 5 rfl) ?_
          refine zr_iast (f := da) (n := 204) hx hb hK hP hN rfl hA hS 13 0 rfl rfl (by decide) (i := 16 * 12 + (g - 1) * 3 + s) (x := k) (by omega) (by omega) dX2_setStage_78 (fun H locs hP hS => ?_)
          have hP : va_P D vwCl (wC cI cZ q pa sp al dg (up co (16 * 12 + (g - 1) * 3 + s) c) (up da (16 * 12 + (g - 1) * 3 + s) k) mb dd ah wl lo n td wn) H := hP
          refine lv_aload_n hx hb dX2_setStage_79 rfl (lv_at hl 1 rfl) ?_
          refine va_get (D := D) (ci := 2) (v := .ref (q 2)) (C := RX2) (T := TX2) (N := 9) hx hb hts hin2 hown hK hP 0 rfl rfl 1 (by decide) (hts (.fieldLink RX2 19 "MourningRibbons" "codes" "LMourningRibbons$Codes;") (by decide +kernel)) (fun _ h9 => h9) rfl dX2_setStage_80 ?_
          refine zr_bipush hx hb dX2_setStage_83 (by decide) ?_
          refine lv_iload_n hx hb dX2_setStage_85 rfl (lv_at hl 2 rfl) ?_
          refine zcallV (ci := 0) (q0 := 2) (cq := (RX0, TX0, 2)) (As := [.int (zI 16), .int (zI g)]) (rest := []) ⟨hx, hb, hml, hown, hts⟩ hK (kX0_daysOfAll l D cI cZ q hN pa sp al dg (up co (16 * 12 + (g - 1) * 3 + s) c) (up da (16 * 12 + (g - 1) * 3 + s) k) mb dd ah wl lo n td wn (up_bd hda h4) 16 g (by omega) (by omega)) (cwV 2 hts gX2_setStage_X0_daysOfAll rfl rfl rfl (by decide +kernel) ⟨Nat.le_of_ble_eq_true rfl, Nat.le_of_ble_eq_true rfl⟩) hP hS hA rfl rfl rfl hl.1 rfl (Nat.le_of_ble_eq_true rfl) dX2_setStage_86 ⟨Nat.zero_le _, Nat.zero_le _⟩ (fun H locs hP hS _ _ => ?_)
          refine W.eq (g2 := F0 m9 89 ls [.int (zI (dAll (up da (16 * 12 + (g - 1) * 3 + s) k) 16 g))]) rfl ?_
          have f_5 := dAll_bx (up da (16 * 12 + (g - 1) * 3 + s) k) (up_bd hda h4) 16 g
          rw [hQ0]
          exact zret_i hx hb hr hlocks (rfl) hP hS dX2_setStage_89
        · have c_4 := c_4
          exfalso; omega
    · have c_2 := c_2
      exfalso; omega
set_option maxHeartbeats 4000000 in
set_option maxRecDepth 100000 in
theorem kX2_dieok (l : Launch) (D : va_G) (cI cZ : ClassId) (q : Nat → Nat) (hN : (zLC q).Nodup) (pa : Int → Int) (sp : Int → Int) (al : Int → Int) (dg : Int → Int) (co : Int → Int) (da : Int → Int) (mb : Int → Int) (dd : Int → Int) (ah : Int → Int) (wl : Int → Int) (lo : Int → Int) (n : Nat) (td : Int) (wn : Int) (hn : n ≤ 16) (hpa : ∀ j : Int, -1 ≤ pa j ∧ pa j ≤ 15) (hsp : ∀ j : Int, -1 ≤ sp j ∧ sp j ≤ 15) (hal : ∀ j : Int, 0 ≤ al j ∧ al j ≤ 1) (hco : ∀ j : Int, 0 ≤ co j ∧ co j ≤ 5) (hda : ∀ j : Int, 0 ≤ da j ∧ da j ≤ 60) (p : Int) (h1 : 0 ≤ p ∧ p < (n : Int)) (h2 : al p ≠ 0) : zM l yX2_die wsX2_die ({ frames := 7, cells := 0, slots := 0, locals := 111 }) D [(cI, .int), (cZ, .boolean)] [.ref (q 0), .int (zI p)] (wC cI cZ q pa sp al dg co da mb dd ah wl lo n td wn) (wC cI cZ q pa sp (up al p 0) (dgF pa sp n p) (cpZ co co (16 * 12 + (1 - 1) * 3 + 0) (p * 12 + (1 - 1) * 3 + 0) 12) (cpZ da da (16 * 12 + (1 - 1) * 3 + 0) (p * 12 + (1 - 1) * 3 + 0) 12) (bgC (up al p 0) (cpZ da da (16 * 12 + (1 - 1) * 3 + 0) (p * 12 + (1 - 1) * 3 + 0) 12) (dgF pa sp n p) (enC mb p 16) p n) (up dd p td) ah wl lo n td wn) (some (.int (zI (smF (wbF (up al p 0) (cpZ da da (16 * 12 + (1 - 1) * 3 + 0) (p * 12 + (1 - 1) * 3 + 0) 12) (dgF pa sp n p)) n)))) (zLC q) := by
  refine Met.ofW (cc := cX2_die) (maxL := 2) (ret := (some .int)) (by decide) rfl ?_
  intro p0 e9 s9 m9 ag9 below meth c9 s₁ B hml hv
  obtain ⟨hav, hP, hK⟩ := hv
  have hx := B.exec
  have hb := B.bytes
  have hr := B.returns
  have hts := atoms_spec (ws := wsX2_die) B.pre
  have hown : s9.vm.findClass RX2 = some m9.cls := findClass_of_methodNamed B.named
  have hlocks := B.notSynchronized
  have hA : ∀ a ∈ zLC q, (fun a => a ∈ zLC q) a := fun _ h => h
  have hin1 : ∀ w ∈ u_ws RX1 TX1 5, w ∈ wsX2_die := by decide +kernel
  have hin2 : ∀ w ∈ u_ws RX2 TX2 9, w ∈ wsX2_die := by decide +kernel
  have hl := lv_entry ([.ref (q 0), .int (zI p)]) (n := 2) (Nat.le_of_ble_eq_true rfl)
  have hE : entryFrame m9 ag9 2 = F0 m9 0 ((lg_sl ([.ref (q 0), .int (zI p)]) ++ List.replicate (2 - (lg_sl ([.ref (q 0), .int (zI p)])).length) Slot.unset).toArray) [] := by rw [hav]; exact lg_entry_eq m9 _ _
  obtain ⟨Q0, hQ0⟩ : ∃ Q0, Q0 = MQ below (zQ D (wC cI cZ q pa sp (up al p 0) (dgF pa sp n p) (cpZ co co (16 * 12 + (1 - 1) * 3 + 0) (p * 12 + (1 - 1) * 3 + 0) 12) (cpZ da da (16 * 12 + (1 - 1) * 3 + 0) (p * 12 + (1 - 1) * 3 + 0) 12) (bgC (up al p 0) (cpZ da da (16 * 12 + (1 - 1) * 3 + 0) (p * 12 + (1 - 1) * 3 + 0) 12) (dgF pa sp n p) (enC mb p 16) p n) (up dd p td) ah wl lo n td wn) (some (.int (zI (smF (wbF (up al p 0) (cpZ da da (16 * 12 + (1 - 1) * 3 + 0) (p * 12 + (1 - 1) * 3 + 0) 12) (dgF pa sp n p)) n)))) (zLC q)) ag9 s9 0 0 (fun a => a ∈ zLC q) := ⟨_, rfl⟩
  show W p0 l e9 ({ frames := 7, cells := 0, slots := 0, locals := 111 }) s9 m9 ag9 below meth c9 s9.heap [] 0 0 (MQ below (zQ D (wC cI cZ q pa sp (up al p 0) (dgF pa sp n p) (cpZ co co (16 * 12 + (1 - 1) * 3 + 0) (p * 12 + (1 - 1) * 3 + 0) 12) (cpZ da da (16 * 12 + (1 - 1) * 3 + 0) (p * 12 + (1 - 1) * 3 + 0) 12) (bgC (up al p 0) (cpZ da da (16 * 12 + (1 - 1) * 3 + 0) (p * 12 + (1 - 1) * 3 + 0) 12) (dgF pa sp n p) (enC mb p 16) p n) (up dd p td) ah wl lo n td wn) (some (.int (zI (smF (wbF (up al p 0) (cpZ da da (16 * 12 + (1 - 1) * 3 + 0) (p * 12 + (1 - 1) * 3 + 0) 12) (dgF pa sp n p)) n)))) (zLC q)) ag9 s9 0 0 (fun a => a ∈ zLC q)) _
  rw [hE, ← hQ0]
  have hS : va_S (fun a => a ∈ zLC q) s9.heap s9.heap [] := va_S.rf
  generalize hH0 : s9.heap = H at hP ⊢
  have hS : va_S (fun a => a ∈ zLC q) s9.heap H [] := by rw [hH0] at hS ⊢; exact hS
  generalize (lg_sl ([.ref (q 0), .int (zI p)]) ++ List.replicate (2 - (lg_sl ([.ref (q 0), .int (zI p)])).length) Slot.unset).toArray = ls at hl ⊢
  have hl : lv_has ls 2 [(0, .ref (q 0)), (1, .int (zI p))] := hl
  refine lv_aload_n hx hb dX2_die_0 rfl (lv_at hl 0 rfl) ?_
  refine lv_iload_n hx hb dX2_die_1 rfl (lv_at hl 1 rfl) ?_
  refine zcallV (ci := 2) (q0 := 0) (cq := (RX2, TX2, 9)) (As := [.int (zI p)]) (rest := []) ⟨hx, hb, hml, hown, hts⟩ hK (kX2_needPersonok l D cI cZ q hN pa sp al dg co da mb dd ah wl lo n td wn hn p (by omega)) (cwV 1 hts gX2_die_X2_needPerson rfl rfl rfl (by decide +kernel) ⟨Nat.le_of_ble_eq_true rfl, Nat.le_of_ble_eq_true rfl⟩) hP hS hA rfl rfl rfl hl.1 rfl (Nat.le_of_ble_eq_true rfl) dX2_die_2 ⟨Nat.zero_le _, Nat.zero_le _⟩ (fun H locs hP hS _ _ => ?_)
  refine W.eq (g2 := F0 m9 5 ls []) rfl ?_
  refine lv_aload_n hx hb dX2_die_5 rfl (lv_at hl 0 rfl) ?_
  refine lv_iload_n hx hb dX2_die_6 rfl (lv_at hl 1 rfl) ?_
  refine zcallV (ci := 2) (q0 := 0) (cq := (RX2, TX2, 9)) (As := [.int (zI p)]) (rest := []) ⟨hx, hb, hml, hown, hts⟩ hK (kX2_needAliveok l D cI cZ q hN pa sp al dg co da mb dd ah wl lo n td wn hal p (by omega) (by omega)) (cwV 1 hts gX2_die_X2_needAlive rfl rfl rfl (by decide +kernel) ⟨Nat.le_of_ble_eq_true rfl, Nat.le_of_ble_eq_true rfl⟩) hP hS hA rfl rfl rfl hl.1 rfl (Nat.le_of_ble_eq_true rfl) dX2_die_7 ⟨Nat.zero_le _, Nat.zero_le _⟩ (fun H locs hP hS _ _ => ?_)
  refine W.eq (g2 := F0 m9 10 ls []) rfl ?_
  refine lv_aload_n hx hb dX2_die_10 rfl (lv_at hl 0 rfl) ?_
  refine va_get (D := D) (ci := 2) (v := .ref (q 1)) (C := RX2) (T := TX2) (N := 9) hx hb hts hin2 hown hK hP 0 rfl rfl 0 (by decide) (hts (.fieldLink RX2 12 "MourningRibbons" "family" "LMourningRibbons$Family;") (by decide +kernel)) (fun _ h9 => h9) rfl dX2_die_11 ?_
  refine va_get (D := D) (ci := 1) (v := .ref (q 10)) (C := RX1) (T := TX1) (N := 5) hx hb hts hin1 hown hK hP 1 rfl rfl 2 (by decide) (hts (.fieldLink RX2 101 "MourningRibbons$Family" "alive" "[Z") (by decide +kernel)) (fun _ h9 => h9) rfl dX2_die_14 ?_
  refine lv_iload_n hx hb dX2_die_17 rfl (lv_at hl 1 rfl) ?_
  refine zr_iconst hx hb dX2_die_18 ?_
  refine zr_zast (f := al) (n := 16) hx hb hK hP hN rfl hA hS 10 1 rfl rfl (by decide) (i := p) (x := 0) rfl (by omega) (by omega) dX2_die_19 (fun H locs hP hS => ?_)
  have hP : va_P D vwCl (wC cI cZ q pa sp (up al p 0) dg co da mb dd ah wl lo n td wn) H := hP
  refine lv_aload_n hx hb dX2_die_20 rfl (lv_at hl 0 rfl) ?_
  refine va_get (D := D) (ci := 2) (v := .ref (q 4)) (C := RX2) (T := TX2) (N := 9) hx hb hts hin2 hown hK hP 0 rfl rfl 3 (by decide) (hts (.fieldLink RX2 27 "MourningRibbons" "deathDay" "[I") (by decide +kernel)) (fun _ h9 => h9) rfl dX2_die_21 ?_
  refine lv_iload_n hx hb dX2_die_24 rfl (lv_at hl 1 rfl) ?_
  refine lv_aload_n hx hb dX2_die_25 rfl (lv_at hl 0 rfl) ?_
  refine va_get (D := D) (ci := 2) (v := .int (zI td)) (C := RX2) (T := TX2) (N := 9) hx hb hts hin2 hown hK hP 0 rfl rfl 4 (by decide) (hts (.fieldLink RX2 105 "MourningRibbons" "today" "I") (by decide +kernel)) (fun _ h9 => h9) rfl dX2_die_26 ?_
  refine zr_iast (f := dd) (n := 16) hx hb hK hP hN rfl hA hS 4 0 rfl rfl (by decide) (i := p) (x := td) (by omega) (by omega) dX2_die_29 (fun H locs hP hS => ?_)
  have hP : va_P D vwCl (wC cI cZ q pa sp (up al p 0) dg co da mb (up dd p td) ah wl lo n td wn) H := hP
  refine lv_aload_n hx hb dX2_die_30 rfl (lv_at hl 0 rfl) ?_
  refine va_get (D := D) (ci := 2) (v := .ref (q 2)) (C := RX2) (T := TX2) (N := 9) hx hb hts hin2 hown hK hP 0 rfl rfl 1 (by decide) (hts (.fieldLink RX2 19 "MourningRibbons" "codes" "LMourningRibbons$Codes;") (by decide +kernel)) (fun _ h9 => h9) rfl dX2_die_31 ?_
  refine lv_iload_n hx hb dX2_die_34 rfl (lv_at hl 1 rfl) ?_
  refine zcallV (ci := 0) (q0 := 2) (cq := (RX0, TX0, 2)) (As := [.int (zI p)]) (rest := []) ⟨hx, hb, hml, hown, hts⟩ hK (kX0_keepFor l D cI cZ q hN pa sp (up al p 0) dg co da mb (up dd p td) ah wl lo n td wn hco hda p (by omega)) (cwV 1 hts gX2_die_X0_keepFor rfl rfl rfl (by decide +kernel) ⟨Nat.le_of_ble_eq_true rfl, Nat.le_of_ble_eq_true rfl⟩) hP hS hA rfl rfl rfl hl.1 rfl (Nat.le_of_ble_eq_true rfl) dX2_die_35 ⟨Nat.zero_le _, Nat.zero_le _⟩ (fun H locs hP hS _ _ => ?_)
  have g_1 : ∀ j : Int, 0 ≤ (cpZ co co (16 * 12 + (1 - 1) * 3 + 0) (p * 12 + (1 - 1) * 3 + 0) 12) j ∧ (cpZ co co (16 * 12 + (1 - 1) * 3 + 0) (p * 12 + (1 - 1) * 3 + 0) 12) j ≤ 5 := cpZ_bd hco hco _ _ _
  have g_2 : ∀ j : Int, 0 ≤ (cpZ da da (16 * 12 + (1 - 1) * 3 + 0) (p * 12 + (1 - 1) * 3 + 0) 12) j ∧ (cpZ da da (16 * 12 + (1 - 1) * 3 + 0) (p * 12 + (1 - 1) * 3 + 0) 12) j ≤ 60 := cpZ_bd hda hda _ _ _
  refine W.eq (g2 := F0 m9 38 ls []) rfl ?_
  refine lv_aload_n hx hb dX2_die_38 rfl (lv_at hl 0 rfl) ?_
  refine lv_iload_n hx hb dX2_die_39 rfl (lv_at hl 1 rfl) ?_
  refine zcallV (ci := 2) (q0 := 0) (cq := (RX2, TX2, 9)) (As := [.int (zI p)]) (rest := []) ⟨hx, hb, hml, hown, hts⟩ hK (kX2_endMourningsOf l D cI cZ q hN pa sp (up al p 0) dg (cpZ co co (16 * 12 + (1 - 1) * 3 + 0) (p * 12 + (1 - 1) * 3 + 0) 12) (cpZ da da (16 * 12 + (1 - 1) * 3 + 0) (p * 12 + (1 - 1) * 3 + 0) 12) mb (up dd p td) ah wl lo n td wn p (by omega)) (cwV 1 hts gX2_die_X2_endMourningsOf rfl rfl rfl (by decide +kernel) ⟨Nat.le_of_ble_eq_true rfl, Nat.le_of_ble_eq_true rfl⟩) hP hS hA rfl rfl rfl hl.1 rfl (Nat.le_of_ble_eq_true rfl) dX2_die_40 ⟨Nat.zero_le _, Nat.zero_le _⟩ (fun H locs hP hS _ _ => ?_)
  refine W.eq (g2 := F0 m9 43 ls []) rfl ?_
  refine lv_aload_n hx hb dX2_die_43 rfl (lv_at hl 0 rfl) ?_
  refine lv_iload_n hx hb dX2_die_44 rfl (lv_at hl 1 rfl) ?_
  refine zcallV (ci := 2) (q0 := 0) (cq := (RX2, TX2, 9)) (As := [.int (zI p)]) (rest := []) ⟨hx, hb, hml, hown, hts⟩ hK (kX2_beginMourningsFor l D cI cZ q hN pa sp (up al p 0) dg (cpZ co co (16 * 12 + (1 - 1) * 3 + 0) (p * 12 + (1 - 1) * 3 + 0) 12) (cpZ da da (16 * 12 + (1 - 1) * 3 + 0) (p * 12 + (1 - 1) * 3 + 0) 12) (enC mb p 16) (up dd p td) ah wl lo n td wn hn hpa hsp (up_bd hal ⟨by decide, by decide⟩) g_2 p (by omega)) (cwV 1 hts gX2_die_X2_beginMourningsFor rfl rfl rfl (by decide +kernel) ⟨Nat.le_of_ble_eq_true rfl, Nat.le_of_ble_eq_true rfl⟩) hP hS hA rfl rfl rfl hl.1 rfl (Nat.le_of_ble_eq_true rfl) dX2_die_45 ⟨Nat.zero_le _, Nat.zero_le _⟩ (fun H locs hP hS _ _ => ?_)
  refine W.eq (g2 := F0 m9 48 ls [.int (zI (smF (wbF (up al p 0) (cpZ da da (16 * 12 + (1 - 1) * 3 + 0) (p * 12 + (1 - 1) * 3 + 0) 12) (dgF pa sp n p)) n))]) rfl ?_
  rw [hQ0]
  exact zret_i hx hb hr hlocks (rfl) hP hS dX2_die_48
set_option maxHeartbeats 4000000 in
set_option maxRecDepth 100000 in
theorem kX2_releaseok (l : Launch) (D : va_G) (cI cZ : ClassId) (q : Nat → Nat) (hN : (zLC q).Nodup) (pa : Int → Int) (sp : Int → Int) (al : Int → Int) (dg : Int → Int) (co : Int → Int) (da : Int → Int) (mb : Int → Int) (dd : Int → Int) (ah : Int → Int) (wl : Int → Int) (lo : Int → Int) (n : Nat) (td : Int) (wn : Int) (hn : n ≤ 16) (hda : ∀ j : Int, 0 ≤ da j ∧ da j ≤ 60) (hmb : ∀ j : Int, 0 ≤ mb j ∧ mb j ≤ 4) (hdd : ∀ j : Int, 0 ≤ dd j ∧ dd j ≤ 1000000) (htd : 0 ≤ td ∧ td ≤ 1000000) (p : Int) (d : Int) (h1 : 0 ≤ p ∧ p < (n : Int)) (h2 : 0 ≤ d ∧ d < (n : Int)) (h3 : lf da mb dd td p d ≠ 0) : zM l yX2_release wsX2_release ({ frames := 7, cells := 0, slots := 0, locals := 111 }) D [(cI, .int), (cZ, .boolean)] [.ref (q 0), .int (zI p), .int (zI d)] (wC cI cZ q pa sp al dg co da mb dd ah wl lo n td wn) (wC cI cZ q pa sp al dg co da (up mb (p * 16 + d) 0) dd ah wl lo n td wn) (some (.int (zI (lf da mb dd td p d)))) (zLC q) := by
  refine Met.ofW (cc := cX2_release) (maxL := 4) (ret := (some .int)) (by decide) rfl ?_
  intro p0 e9 s9 m9 ag9 below meth c9 s₁ B hml hv
  obtain ⟨hav, hP, hK⟩ := hv
  have hx := B.exec
  have hb := B.bytes
  have hr := B.returns
  have hts := atoms_spec (ws := wsX2_release) B.pre
  have hown : s9.vm.findClass RX2 = some m9.cls := findClass_of_methodNamed B.named
  have hlocks := B.notSynchronized
  have hA : ∀ a ∈ zLC q, (fun a => a ∈ zLC q) a := fun _ h => h
  have hin2 : ∀ w ∈ u_ws RX2 TX2 9, w ∈ wsX2_release := by decide +kernel
  have hl := lv_entry ([.ref (q 0), .int (zI p), .int (zI d)]) (n := 4) (Nat.le_of_ble_eq_true rfl)
  have hE : entryFrame m9 ag9 4 = F0 m9 0 ((lg_sl ([.ref (q 0), .int (zI p), .int (zI d)]) ++ List.replicate (4 - (lg_sl ([.ref (q 0), .int (zI p), .int (zI d)])).length) Slot.unset).toArray) [] := by rw [hav]; exact lg_entry_eq m9 _ _
  obtain ⟨Q0, hQ0⟩ : ∃ Q0, Q0 = MQ below (zQ D (wC cI cZ q pa sp al dg co da (up mb (p * 16 + d) 0) dd ah wl lo n td wn) (some (.int (zI (lf da mb dd td p d)))) (zLC q)) ag9 s9 0 0 (fun a => a ∈ zLC q) := ⟨_, rfl⟩
  show W p0 l e9 ({ frames := 7, cells := 0, slots := 0, locals := 111 }) s9 m9 ag9 below meth c9 s9.heap [] 0 0 (MQ below (zQ D (wC cI cZ q pa sp al dg co da (up mb (p * 16 + d) 0) dd ah wl lo n td wn) (some (.int (zI (lf da mb dd td p d)))) (zLC q)) ag9 s9 0 0 (fun a => a ∈ zLC q)) _
  rw [hE, ← hQ0]
  have hS : va_S (fun a => a ∈ zLC q) s9.heap s9.heap [] := va_S.rf
  generalize hH0 : s9.heap = H at hP ⊢
  have hS : va_S (fun a => a ∈ zLC q) s9.heap H [] := by rw [hH0] at hS ⊢; exact hS
  generalize (lg_sl ([.ref (q 0), .int (zI p), .int (zI d)]) ++ List.replicate (4 - (lg_sl ([.ref (q 0), .int (zI p), .int (zI d)])).length) Slot.unset).toArray = ls at hl ⊢
  have hl : lv_has ls 4 [(0, .ref (q 0)), (1, .int (zI p)), (2, .int (zI d))] := hl
  refine lv_aload_n hx hb dX2_release_0 rfl (lv_at hl 0 rfl) ?_
  refine lv_iload_n hx hb dX2_release_1 rfl (lv_at hl 1 rfl) ?_
  refine zcallV (ci := 2) (q0 := 0) (cq := (RX2, TX2, 9)) (As := [.int (zI p)]) (rest := []) ⟨hx, hb, hml, hown, hts⟩ hK (kX2_needPersonok l D cI cZ q hN pa sp al dg co da mb dd ah wl lo n td wn hn p (by omega)) (cwV 1 hts gX2_release_X2_needPerson rfl rfl rfl (by decide +kernel) ⟨Nat.le_of_ble_eq_true rfl, Nat.le_of_ble_eq_true rfl⟩) hP hS hA rfl rfl rfl hl.1 rfl (Nat.le_of_ble_eq_true rfl) dX2_release_2 ⟨Nat.zero_le _, Nat.zero_le _⟩ (fun H locs hP hS _ _ => ?_)
  refine W.eq (g2 := F0 m9 5 ls []) rfl ?_
  refine lv_aload_n hx hb dX2_release_5 rfl (lv_at hl 0 rfl) ?_
  refine lv_iload_n hx hb dX2_release_6 rfl (lv_at hl 2 rfl) ?_
  refine zcallV (ci := 2) (q0 := 0) (cq := (RX2, TX2, 9)) (As := [.int (zI d)]) (rest := []) ⟨hx, hb, hml, hown, hts⟩ hK (kX2_needPersonok l D cI cZ q hN pa sp al dg co da mb dd ah wl lo n td wn hn d (by omega)) (cwV 1 hts gX2_release_X2_needPerson rfl rfl rfl (by decide +kernel) ⟨Nat.le_of_ble_eq_true rfl, Nat.le_of_ble_eq_true rfl⟩) hP hS hA rfl rfl rfl hl.1 rfl (Nat.le_of_ble_eq_true rfl) dX2_release_7 ⟨Nat.zero_le _, Nat.zero_le _⟩ (fun H locs hP hS _ _ => ?_)
  refine W.eq (g2 := F0 m9 10 ls []) rfl ?_
  refine lv_aload_n hx hb dX2_release_10 rfl (lv_at hl 0 rfl) ?_
  refine lv_iload_n hx hb dX2_release_11 rfl (lv_at hl 1 rfl) ?_
  refine lv_iload_n hx hb dX2_release_12 rfl (lv_at hl 2 rfl) ?_
  refine zcallV (ci := 2) (q0 := 0) (cq := (RX2, TX2, 9)) (As := [.int (zI p), .int (zI d)]) (rest := []) ⟨hx, hb, hml, hown, hts⟩ hK (kX2_leftFor l D cI cZ q hN pa sp al dg co da mb dd ah wl lo n td wn hda hmb hdd htd p d (by omega) (by omega)) (cwV 2 hts gX2_release_X2_leftFor rfl rfl rfl (by decide +kernel) ⟨Nat.le_of_ble_eq_true rfl, Nat.le_of_ble_eq_true rfl⟩) hP hS hA rfl rfl rfl hl.1 rfl (Nat.le_of_ble_eq_true rfl) dX2_release_13 ⟨Nat.zero_le _, Nat.zero_le _⟩ (fun H locs hP hS _ _ => ?_)
  refine W.eq (g2 := F0 m9 16 ls [.int (zI (lf da mb dd td p d))]) rfl ?_
  have f_1 := lf_180 hda hdd htd mb p d
  refine lv_istore_n (lv' := [(3, .int (zI (lf da mb dd td p d))), (0, .ref (q 0)), (1, .int (zI p)), (2, .int (zI d))]) hx hb dX2_release_16 rfl hl (by decide) rfl (fun ls hl => ?_)
  refine lv_iload_n hx hb dX2_release_17 rfl (lv_at hl 0 rfl) ?_
  refine zr_if_ne (tgt := 31) hx hb dX2_release_18 (by decide) ⟨by omega, by omega⟩ (fun c_2 => ?_) (fun c_2 => ?_)
  · have c_2 := c_2
    refine lv_aload_n hx hb dX2_release_31 rfl (lv_at hl 1 rfl) ?_
    refine va_get (D := D) (ci := 2) (v := .ref (q 3)) (C := RX2) (T := TX2) (N := 9) hx hb hts hin2 hown hK hP 0 rfl rfl 2 (by decide) (hts (.fieldLink RX2 23 "MourningRibbons" "mournedBy" "[I") (by decide +kernel)) (fun _ h9 => h9) rfl dX2_release_32 ?_
    refine lv_iload_n hx hb dX2_release_35 rfl (lv_at hl 2 rfl) ?_
    refine lv_iload_n hx hb dX2_release_36 rfl (lv_at hl 3 rfl) ?_
    refine zcallP (As := [.int (zI p), .int (zI d)]) (rest := [.ref (q 3)]) ⟨hx, hb, hml, hown, hts⟩ (kX2_pair l D p d) hK (va_cwS 2 hts gX2_release_X2_pair rfl rfl rfl (by decide +kernel) ⟨Nat.le_of_ble_eq_true rfl, Nat.le_of_ble_eq_true rfl⟩) hP hS rfl hl.1 rfl (Nat.le_of_ble_eq_true rfl) dX2_release_37 ⟨Nat.zero_le _, Nat.zero_le _⟩ (fun H locs hP hS => ?_)
    refine W.eq (g2 := F0 m9 40 ls [.int (zI (p * 16 + d)), .ref (q 3)]) rfl ?_
    refine zr_iconst hx hb dX2_release_40 ?_
    refine zr_iast (f := mb) (n := 256) hx hb hK hP hN rfl hA hS 3 0 rfl rfl (by decide) (i := p * 16 + d) (x := 0) (by omega) (by omega) dX2_release_41 (fun H locs hP hS => ?_)
    have hP : va_P D vwCl (wC cI cZ q pa sp al dg co da (up mb (p * 16 + d) 0) dd ah wl lo n td wn) H := hP
    refine lv_iload_n hx hb dX2_release_42 rfl (lv_at hl 0 rfl) ?_
    rw [hQ0]
    exact zret_i hx hb hr hlocks (rfl) hP hS dX2_release_43
  · have c_2 := c_2
    exfalso; omega
set_option maxHeartbeats 4000000 in
set_option maxRecDepth 100000 in
theorem kX2_passok (l : Launch) (D : va_G) (cI cZ : ClassId) (q : Nat → Nat) (hN : (zLC q).Nodup) (pa : Int → Int) (sp : Int → Int) (al : Int → Int) (dg : Int → Int) (co : Int → Int) (da : Int → Int) (mb : Int → Int) (dd : Int → Int) (ah : Int → Int) (wl : Int → Int) (lo : Int → Int) (n : Nat) (td : Int) (wn : Int) (hn : n ≤ 16) (hal : ∀ j : Int, 0 ≤ al j ∧ al j ≤ 1) (hco : ∀ j : Int, 0 ≤ co j ∧ co j ≤ 5) (hda : ∀ j : Int, 0 ≤ da j ∧ da j ≤ 60) (hmb : ∀ j : Int, 0 ≤ mb j ∧ mb j ≤ 4) (hdd : ∀ j : Int, 0 ≤ dd j ∧ dd j ≤ 1000000) (htd : 0 ≤ td ∧ td ≤ 1000000) (k : Int) (h1 : 1 ≤ k ∧ k ≤ 200) (h2 : td ≤ 900000) : zM l yX2_pass wsX2_pass ({ frames := 4, cells := 0, slots := 0, locals := 96 }) D [(cI, .int), (cZ, .boolean)] [.ref (q 0), .int (zI k)] (wC cI cZ q pa sp al dg co da mb dd ah wl lo n td wn) (wC cI cZ q pa sp al dg co da mb dd (lastF ah (ca co da mb dd td n) n) wl lo n (td + k) (wn + smF (waP co da mb dd td n k) n)) (some (.int (zI (smF al n - smF (cwF al co da mb dd (td + k) n 0) n)))) (zLC q) := by
  refine Met.ofW (cc := cX2_pass) (maxL := 3) (ret := (some .int)) (by decide) rfl ?_
  intro p0 e9 s9 m9 ag9 below meth c9 s₁ B hml hv
  obtain ⟨hav, hP, hK⟩ := hv
  have hx := B.exec
  have hb := B.bytes
  have hr := B.returns
  have hts := atoms_spec (ws := wsX2_pass) B.pre
  have hown : s9.vm.findClass RX2 = some m9.cls := findClass_of_methodNamed B.named
  have hlocks := B.notSynchronized
  have hA : ∀ a ∈ zLC q, (fun a => a ∈ zLC q) a := fun _ h => h
  have hin1 : ∀ w ∈ u_ws RX1 TX1 5, w ∈ wsX2_pass := by decide +kernel
  have hin2 : ∀ w ∈ u_ws RX2 TX2 9, w ∈ wsX2_pass := by decide +kernel
  have hl := lv_entry ([.ref (q 0), .int (zI k)]) (n := 3) (Nat.le_of_ble_eq_true rfl)
  have hE : entryFrame m9 ag9 3 = F0 m9 0 ((lg_sl ([.ref (q 0), .int (zI k)]) ++ List.replicate (3 - (lg_sl ([.ref (q 0), .int (zI k)])).length) Slot.unset).toArray) [] := by rw [hav]; exact lg_entry_eq m9 _ _
  obtain ⟨Q0, hQ0⟩ : ∃ Q0, Q0 = MQ below (zQ D (wC cI cZ q pa sp al dg co da mb dd (lastF ah (ca co da mb dd td n) n) wl lo n (td + k) (wn + smF (waP co da mb dd td n k) n)) (some (.int (zI (smF al n - smF (cwF al co da mb dd (td + k) n 0) n)))) (zLC q)) ag9 s9 0 0 (fun a => a ∈ zLC q) := ⟨_, rfl⟩
  show W p0 l e9 ({ frames := 4, cells := 0, slots := 0, locals := 96 }) s9 m9 ag9 below meth c9 s9.heap [] 0 0 (MQ below (zQ D (wC cI cZ q pa sp al dg co da mb dd (lastF ah (ca co da mb dd td n) n) wl lo n (td + k) (wn + smF (waP co da mb dd td n k) n)) (some (.int (zI (smF al n - smF (cwF al co da mb dd (td + k) n 0) n)))) (zLC q)) ag9 s9 0 0 (fun a => a ∈ zLC q)) _
  rw [hE, ← hQ0]
  have hS : va_S (fun a => a ∈ zLC q) s9.heap s9.heap [] := va_S.rf
  generalize hH0 : s9.heap = H at hP ⊢
  have hS : va_S (fun a => a ∈ zLC q) s9.heap H [] := by rw [hH0] at hS ⊢; exact hS
  generalize (lg_sl ([.ref (q 0), .int (zI k)]) ++ List.replicate (3 - (lg_sl ([.ref (q 0), .int (zI k)])).length) Slot.unset).toArray = ls at hl ⊢
  have hl : lv_has ls 3 [(0, .ref (q 0)), (1, .int (zI k))] := hl
  refine lv_iload_n hx hb dX2_pass_0 rfl (lv_at hl 1 rfl) ?_
  refine zr_iconst hx hb dX2_pass_1 ?_
  refine zr_icmp_lt (tgt := 12) hx hb dX2_pass_2 (by decide) ⟨by omega, by omega⟩ ⟨by decide, by decide⟩ (fun c_1 => ?_) (fun c_1 => ?_)
  · have c_1 := c_1
    exfalso; omega
  · have c_1 := c_1
    refine lv_iload_n hx hb dX2_pass_5 rfl (lv_at hl 1 rfl) ?_
    refine zr_sipush hx hb dX2_pass_6 (by decide) ?_
    refine zr_icmp_le (tgt := 22) hx hb dX2_pass_9 (by decide) ⟨by omega, by omega⟩ ⟨by decide, by decide⟩ (fun c_2 => ?_) (fun c_2 => ?_)
    · have c_2 := c_2
      refine zr_iconst hx hb dX2_pass_22 ?_
      refine lv_istore_n (lv' := [(2, .int (zI 0)), (0, .ref (q 0)), (1, .int (zI k))]) hx hb dX2_pass_23 rfl hl (by decide) rfl (fun ls hl => ?_)
      have L24_3 : ∀ (kf i : Nat), i ≤ n → n - i < kf → ∀ (H : Heap) (locs : List Loc) (ls : Array Slot), va_P D vwCl (wC cI cZ q pa sp al dg co da mb dd (lastF ah (ca co da mb dd td n) i) wl lo n td (wn + smF (waP co da mb dd td n k) i)) H → va_S (fun a => a ∈ zLC q) s9.heap H locs → lv_has ls 3 [(2, .int (zI (i : Int))), (0, .ref (q 0)), (1, .int (zI k))] → W p0 l e9 ({ frames := 4, cells := 0, slots := 0, locals := 96 }) s9 m9 ag9 below meth c9 H locs 0 0 Q0 (F0 m9 24 ls []) := by
        intro kf
        induction kf with
        | zero => intro i h1 h2; omega
        | succ kf ih =>
          intro i hi_i hk_i H locs ls hP hS hl
          have ih_i := ih
          clear ih
          refine lv_iload_n hx hb dX2_pass_24 rfl (lv_at hl 0 rfl) ?_
          refine lv_aload_n hx hb dX2_pass_25 rfl (lv_at hl 1 rfl) ?_
          refine va_get (D := D) (ci := 2) (v := .ref (q 1)) (C := RX2) (T := TX2) (N := 9) hx hb hts hin2 hown hK hP 0 rfl rfl 0 (by decide) (hts (.fieldLink RX2 12 "MourningRibbons" "family" "LMourningRibbons$Family;") (by decide +kernel)) (fun _ h9 => h9) rfl dX2_pass_26 ?_
          refine va_get (D := D) (ci := 1) (v := .int (zI (n : Int))) (C := RX1) (T := TX1) (N := 5) hx hb hts hin1 hown hK hP 1 rfl rfl 3 (by decide) (hts (.fieldLink RX2 128 "MourningRibbons$Family" "count" "I") (by decide +kernel)) (fun _ h9 => h9) rfl dX2_pass_29 ?_
          refine zr_icmp_ge (tgt := 60) hx hb dX2_pass_32 (by decide) ⟨by omega, by omega⟩ ⟨by omega, by omega⟩ (fun c_4 => ?_) (fun c_4 => ?_)
          · have c_4 := c_4
            have x_5 : i = n := by omega
            try rw [x_5] at hP
            try rw [x_5] at hl
            refine lv_aload_n hx hb dX2_pass_60 rfl (lv_at hl 1 rfl) ?_
            refine lv_dup hx hb dX2_pass_61 rfl ?_
            refine va_get (D := D) (ci := 2) (v := .int (zI td)) (C := RX2) (T := TX2) (N := 9) hx hb hts hin2 hown hK hP 0 rfl rfl 4 (by decide) (hts (.fieldLink RX2 105 "MourningRibbons" "today" "I") (by decide +kernel)) (fun _ h9 => h9) rfl dX2_pass_62 ?_
            refine lv_iload_n hx hb dX2_pass_65 rfl (lv_at hl 2 rfl) ?_
            refine zr_iadd (v := td + k) hx hb rfl dX2_pass_66 ?_
            refine va_put (D := D) (ci := 2) (v := .int (zI (td + k))) (ty := .int) (C := RX2) (T := TX2) (N := 9) hx hb hts hin2 tyX2 tyX2_ok nmX2 hown hK hP (zD hN rfl hA) hS 0 rfl rfl 4 (by decide) (hts (.fieldLink RX2 105 "MourningRibbons" "today" "I") (by decide +kernel)) (fun _ h9 => h9) rfl (by decide +kernel) rfl rfl (Nat.le_of_ble_eq_true rfl) dX2_pass_67 (fun H locs hP _ hS => ?_)
            have hP : va_P D vwCl (wC cI cZ q pa sp al dg co da mb dd (lastF ah (ca co da mb dd td n) n) wl lo n (td + k) (wn + smF (waP co da mb dd td n k) n)) H := hP
            refine lv_aload_n hx hb dX2_pass_70 rfl (lv_at hl 1 rfl) ?_
            refine va_get (D := D) (ci := 2) (v := .ref (q 1)) (C := RX2) (T := TX2) (N := 9) hx hb hts hin2 hown hK hP 0 rfl rfl 0 (by decide) (hts (.fieldLink RX2 12 "MourningRibbons" "family" "LMourningRibbons$Family;") (by decide +kernel)) (fun _ h9 => h9) rfl dX2_pass_71 ?_
            refine zcallV (ci := 1) (q0 := 1) (cq := (RX1, TX1, 5)) (As := []) (rest := []) ⟨hx, hb, hml, hown, hts⟩ hK (kX1_livingCount l D cI cZ q hN pa sp al dg co da mb dd (lastF ah (ca co da mb dd td n) n) wl lo n (td + k) (wn + smF (waP co da mb dd td n k) n) hn hal) (cwV 0 hts gX2_pass_X1_livingCount rfl rfl rfl (by decide +kernel) ⟨Nat.le_of_ble_eq_true rfl, Nat.le_of_ble_eq_true rfl⟩) hP hS hA rfl rfl rfl hl.1 rfl (Nat.le_of_ble_eq_true rfl) dX2_pass_74 ⟨Nat.zero_le _, Nat.zero_le _⟩ (fun H locs hP hS _ _ => ?_)
            refine W.eq (g2 := F0 m9 77 ls [.int (zI (smF al n))]) rfl ?_
            refine lv_aload_n hx hb dX2_pass_77 rfl (lv_at hl 1 rfl) ?_
            refine zr_iconst hx hb dX2_pass_78 ?_
            refine zcallV (ci := 2) (q0 := 0) (cq := (RX2, TX2, 9)) (As := [.int (zI 0)]) (rest := [.int (zI (smF al n))]) ⟨hx, hb, hml, hown, hts⟩ hK (kX2_countWearing l D cI cZ q hN pa sp al dg co da mb dd (lastF ah (ca co da mb dd td n) n) wl lo n (td + k) (wn + smF (waP co da mb dd td n k) n) hn hco hda hmb hdd (⟨by omega, by omega⟩) hal 0 (by omega)) (cwV 1 hts gX2_pass_X2_countWearing rfl rfl rfl (by decide +kernel) ⟨Nat.le_of_ble_eq_true rfl, Nat.le_of_ble_eq_true rfl⟩) hP hS hA rfl rfl rfl hl.1 rfl (Nat.le_of_ble_eq_true rfl) dX2_pass_79 ⟨Nat.zero_le _, Nat.zero_le _⟩ (fun H locs hP hS _ _ => ?_)
            refine W.eq (g2 := F0 m9 82 ls [.int (zI (smF (cwF al co da mb dd (td + k) n 0) n)), .int (zI (smF al n))]) rfl ?_
            refine zr_isub (v := (smF al n) - (smF (cwF al co da mb dd (td + k) n 0) n)) hx hb rfl dX2_pass_82 ?_
            rw [hQ0]
            exact zret_i hx hb hr hlocks (rfl) hP hS dX2_pass_83
          · have c_4 := c_4
            refine lv_aload_n hx hb dX2_pass_35 rfl (lv_at hl 1 rfl) ?_
            refine lv_iload_n hx hb dX2_pass_36 rfl (lv_at hl 0 rfl) ?_
            refine zcallV (ci := 2) (q0 := 0) (cq := (RX2, TX2, 9)) (As := [.int (zI (i : Int))]) (rest := []) ⟨hx, hb, hml, hown, hts⟩ hK (kX2_paintAhead l D cI cZ q hN pa sp al dg co da mb dd (lastF ah (ca co da mb dd td n) i) wl lo n td (wn + smF (waP co da mb dd td n k) i) hn hco hda hmb hdd htd (i : Int) (by omega)) (cwV 1 hts gX2_pass_X2_paintAhead rfl rfl rfl (by decide +kernel) ⟨Nat.le_of_ble_eq_true rfl, Nat.le_of_ble_eq_true rfl⟩) hP hS hA rfl rfl rfl hl.1 rfl (Nat.le_of_ble_eq_true rfl) dX2_pass_37 ⟨Nat.zero_le _, Nat.zero_le _⟩ (fun H locs hP hS _ _ => ?_)
            have g_6 : ∀ j : Int, 0 ≤ (ca co da mb dd td n (i : Int)) j ∧ (ca co da mb dd td n (i : Int)) j ≤ 5 := fun j => ca_bd hco da mb dd td n (i : Int) j
            refine W.eq (g2 := F0 m9 40 ls []) rfl ?_
            refine lv_aload_n hx hb dX2_pass_40 rfl (lv_at hl 1 rfl) ?_
            refine lv_dup hx hb dX2_pass_41 rfl ?_
            refine va_get (D := D) (ci := 2) (v := .int (zI (wn + smF (waP co da mb dd td n k) i))) (C := RX2) (T := TX2) (N := 9) hx hb hts hin2 hown hK hP 0 rfl rfl 5 (by decide) (hts (.fieldLink RX2 134 "MourningRibbons" "wornSoFar" "I") (by decide +kernel)) (fun _ h9 => h9) rfl dX2_pass_42 ?_
            refine lv_aload_n hx hb dX2_pass_45 rfl (lv_at hl 1 rfl) ?_
            refine lv_iload_n hx hb dX2_pass_46 rfl (lv_at hl 2 rfl) ?_
            refine zcallV (ci := 2) (q0 := 0) (cq := (RX2, TX2, 9)) (As := [.int (zI k)]) (rest := [.int (zI (wn + smF (waP co da mb dd td n k) i)), .ref (q 0)]) ⟨hx, hb, hml, hown, hts⟩ hK (kX2_wornAhead l D cI cZ q hN pa sp al dg co da mb dd (ca co da mb dd td n (i : Int)) wl lo n td (wn + smF (waP co da mb dd td n k) i) g_6 k (by omega)) (cwV 1 hts gX2_pass_X2_wornAhead rfl rfl rfl (by decide +kernel) ⟨Nat.le_of_ble_eq_true rfl, Nat.le_of_ble_eq_true rfl⟩) hP hS hA rfl rfl rfl hl.1 rfl (Nat.le_of_ble_eq_true rfl) dX2_pass_47 ⟨Nat.zero_le _, Nat.zero_le _⟩ (fun H locs hP hS _ _ => ?_)
            refine W.eq (g2 := F0 m9 50 ls [.int (zI (smF (neF (ca co da mb dd td n (i : Int))) (min k 180).toNat)), .int (zI (wn + smF (waP co da mb dd td n k) i)), .ref (q 0)]) rfl ?_
            refine zr_iadd (v := (wn + smF (waP co da mb dd td n k) i) + (smF (neF (ca co da mb dd td n (i : Int))) (min k 180).toNat)) hx hb rfl dX2_pass_50 ?_
            refine va_put (D := D) (ci := 2) (v := .int (zI ((wn + smF (waP co da mb dd td n k) i) + (smF (neF (ca co da mb dd td n (i : Int))) (min k 180).toNat)))) (ty := .int) (C := RX2) (T := TX2) (N := 9) hx hb hts hin2 tyX2 tyX2_ok nmX2 hown hK hP (zD hN rfl hA) hS 0 rfl rfl 5 (by decide) (hts (.fieldLink RX2 134 "MourningRibbons" "wornSoFar" "I") (by decide +kernel)) (fun _ h9 => h9) rfl (by decide +kernel) rfl rfl (Nat.le_of_ble_eq_true rfl) dX2_pass_51 (fun H locs hP _ hS => ?_)
            have hP : va_P D vwCl (wC cI cZ q pa sp al dg co da mb dd (ca co da mb dd td n (i : Int)) wl lo n td ((wn + smF (waP co da mb dd td n k) i) + (smF (neF (ca co da mb dd td n (i : Int))) (min k 180).toNat))) H := hP
            refine zr_iinc (v := (i : Int) + 1) (lv' := [(2, .int (zI ((i : Int) + 1))), (0, .ref (q 0)), (1, .int (zI k))]) hx hb dX2_pass_54 hl (k := 0) rfl rfl (by decide) rfl (fun ls hl => ?_)
            refine lv_goto (tgt := 24) hx hb dX2_pass_57 (by decide) ?_
            have hl := lv_sub hl (l' := [(2, .int (zI ((i : Int) + 1))), (0, .ref (q 0)), (1, .int (zI k))]) [0, 1, 2] rfl
            have e_7 : ((((i + 1) : Nat) : Int) : Int) = (i : Int) + 1 := by omega
            have hl : lv_has ls 3 [(2, .int (zI (((i + 1) : Nat) : Int))), (0, .ref (q 0)), (1, .int (zI k))] := by rw [e_7]; exact hl
            have e_8 : (lastF ah (ca co da mb dd td n) (i + 1) : Int → Int) = ca co da mb dd td n (i : Int) := rfl
            have hP : va_P D vwCl (wC cI cZ q pa sp al dg co da mb dd (lastF ah (ca co da mb dd td n) (i + 1)) wl lo n td ((wn + smF (waP co da mb dd td n k) i) + (smF (neF (ca co da mb dd td n (i : Int))) (min k 180).toNat))) H := by rw [e_8]; exact hP
            have e_9 : (wn + smF (waP co da mb dd td n k) (i + 1) : Int) = (wn + smF (waP co da mb dd td n k) i) + (smF (neF (ca co da mb dd td n (i : Int))) (min k 180).toNat) := by rw [smF_s]; unfold waP; omega
            have hP : va_P D vwCl (wC cI cZ q pa sp al dg co da mb dd (lastF ah (ca co da mb dd td n) (i + 1)) wl lo n td (wn + smF (waP co da mb dd td n k) (i + 1))) H := by rw [e_9]; exact hP
            exact ih_i (i + 1) (by omega) (by omega) _ _ _ hP hS hl
      have hl := lv_sub hl (l' := [(2, .int (zI 0)), (0, .ref (q 0)), (1, .int (zI k))]) [0, 1, 2] rfl
      have e_10 : (lastF ah (ca co da mb dd td n) 0 : Int → Int) = ah := rfl
      have hP : va_P D vwCl (wC cI cZ q pa sp al dg co da mb dd (lastF ah (ca co da mb dd td n) 0) wl lo n td wn) H := by rw [e_10]; exact hP
      have e_11 : (wn + smF (waP co da mb dd td n k) 0 : Int) = wn := Int.add_zero wn
      have hP : va_P D vwCl (wC cI cZ q pa sp al dg co da mb dd (lastF ah (ca co da mb dd td n) 0) wl lo n td (wn + smF (waP co da mb dd td n k) 0)) H := by rw [e_11]; exact hP
      exact L24_3 (n + 1) 0 (Nat.zero_le _) (by omega) _ _ _ hP hS hl
    · have c_2 := c_2
      exfalso; omega
set_option maxHeartbeats 4000000 in
set_option maxRecDepth 100000 in
theorem kX2_people (l : Launch) (D : va_G) (cI cZ : ClassId) (q : Nat → Nat) (hN : (zLC q).Nodup) (pa : Int → Int) (sp : Int → Int) (al : Int → Int) (dg : Int → Int) (co : Int → Int) (da : Int → Int) (mb : Int → Int) (dd : Int → Int) (ah : Int → Int) (wl : Int → Int) (lo : Int → Int) (n : Nat) (td : Int) (wn : Int) : zM l yX2_people wsX2_people ({ frames := 0, cells := 0, slots := 0, locals := 0 }) D [(cI, .int), (cZ, .boolean)] [.ref (q 0)] (wC cI cZ q pa sp al dg co da mb dd ah wl lo n td wn) (wC cI cZ q pa sp al dg co da mb dd ah wl lo n td wn) (some (.int (zI (n : Int)))) (zLC q) := by
  refine Met.ofW (cc := cX2_people) (maxL := 1) (ret := (some .int)) (by decide) rfl ?_
  intro p0 e9 s9 m9 ag9 below meth c9 s₁ B hml hv
  obtain ⟨hav, hP, hK⟩ := hv
  have hx := B.exec
  have hb := B.bytes
  have hr := B.returns
  have hts := atoms_spec (ws := wsX2_people) B.pre
  have hown : s9.vm.findClass RX2 = some m9.cls := findClass_of_methodNamed B.named
  have hlocks := B.notSynchronized
  have hA : ∀ a ∈ zLC q, (fun a => a ∈ zLC q) a := fun _ h => h
  have hin1 : ∀ w ∈ u_ws RX1 TX1 5, w ∈ wsX2_people := by decide +kernel
  have hin2 : ∀ w ∈ u_ws RX2 TX2 9, w ∈ wsX2_people := by decide +kernel
  have hl := lv_entry ([.ref (q 0)]) (n := 1) (Nat.le_of_ble_eq_true rfl)
  have hE : entryFrame m9 ag9 1 = F0 m9 0 ((lg_sl ([.ref (q 0)]) ++ List.replicate (1 - (lg_sl ([.ref (q 0)])).length) Slot.unset).toArray) [] := by rw [hav]; exact lg_entry_eq m9 _ _
  obtain ⟨Q0, hQ0⟩ : ∃ Q0, Q0 = MQ below (zQ D (wC cI cZ q pa sp al dg co da mb dd ah wl lo n td wn) (some (.int (zI (n : Int)))) (zLC q)) ag9 s9 0 0 (fun a => a ∈ zLC q) := ⟨_, rfl⟩
  show W p0 l e9 ({ frames := 0, cells := 0, slots := 0, locals := 0 }) s9 m9 ag9 below meth c9 s9.heap [] 0 0 (MQ below (zQ D (wC cI cZ q pa sp al dg co da mb dd ah wl lo n td wn) (some (.int (zI (n : Int)))) (zLC q)) ag9 s9 0 0 (fun a => a ∈ zLC q)) _
  rw [hE, ← hQ0]
  have hS : va_S (fun a => a ∈ zLC q) s9.heap s9.heap [] := va_S.rf
  generalize hH0 : s9.heap = H at hP ⊢
  have hS : va_S (fun a => a ∈ zLC q) s9.heap H [] := by rw [hH0] at hS ⊢; exact hS
  generalize (lg_sl ([.ref (q 0)]) ++ List.replicate (1 - (lg_sl ([.ref (q 0)])).length) Slot.unset).toArray = ls at hl ⊢
  have hl : lv_has ls 1 [(0, .ref (q 0))] := hl
  refine lv_aload_n hx hb dX2_people_0 rfl (lv_at hl 0 rfl) ?_
  refine va_get (D := D) (ci := 2) (v := .ref (q 1)) (C := RX2) (T := TX2) (N := 9) hx hb hts hin2 hown hK hP 0 rfl rfl 0 (by decide) (hts (.fieldLink RX2 12 "MourningRibbons" "family" "LMourningRibbons$Family;") (by decide +kernel)) (fun _ h9 => h9) rfl dX2_people_1 ?_
  refine va_get (D := D) (ci := 1) (v := .int (zI (n : Int))) (C := RX1) (T := TX1) (N := 5) hx hb hts hin1 hown hK hP 1 rfl rfl 3 (by decide) (hts (.fieldLink RX2 128 "MourningRibbons$Family" "count" "I") (by decide +kernel)) (fun _ h9 => h9) rfl dX2_people_4 ?_
  rw [hQ0]
  exact zret_i hx hb hr hlocks (rfl) hP hS dX2_people_7
set_option maxHeartbeats 4000000 in
set_option maxRecDepth 100000 in
theorem kX2_living (l : Launch) (D : va_G) (cI cZ : ClassId) (q : Nat → Nat) (hN : (zLC q).Nodup) (pa : Int → Int) (sp : Int → Int) (al : Int → Int) (dg : Int → Int) (co : Int → Int) (da : Int → Int) (mb : Int → Int) (dd : Int → Int) (ah : Int → Int) (wl : Int → Int) (lo : Int → Int) (n : Nat) (td : Int) (wn : Int) (hn : n ≤ 16) (hal : ∀ j : Int, 0 ≤ al j ∧ al j ≤ 1) : zM l yX2_living wsX2_living ({ frames := 1, cells := 0, slots := 0, locals := 22 }) D [(cI, .int), (cZ, .boolean)] [.ref (q 0)] (wC cI cZ q pa sp al dg co da mb dd ah wl lo n td wn) (wC cI cZ q pa sp al dg co da mb dd ah wl lo n td wn) (some (.int (zI (smF al n)))) (zLC q) := by
  refine Met.ofW (cc := cX2_living) (maxL := 1) (ret := (some .int)) (by decide) rfl ?_
  intro p0 e9 s9 m9 ag9 below meth c9 s₁ B hml hv
  obtain ⟨hav, hP, hK⟩ := hv
  have hx := B.exec
  have hb := B.bytes
  have hr := B.returns
  have hts := atoms_spec (ws := wsX2_living) B.pre
  have hown : s9.vm.findClass RX2 = some m9.cls := findClass_of_methodNamed B.named
  have hlocks := B.notSynchronized
  have hA : ∀ a ∈ zLC q, (fun a => a ∈ zLC q) a := fun _ h => h
  have hin2 : ∀ w ∈ u_ws RX2 TX2 9, w ∈ wsX2_living := by decide +kernel
  have hl := lv_entry ([.ref (q 0)]) (n := 1) (Nat.le_of_ble_eq_true rfl)
  have hE : entryFrame m9 ag9 1 = F0 m9 0 ((lg_sl ([.ref (q 0)]) ++ List.replicate (1 - (lg_sl ([.ref (q 0)])).length) Slot.unset).toArray) [] := by rw [hav]; exact lg_entry_eq m9 _ _
  obtain ⟨Q0, hQ0⟩ : ∃ Q0, Q0 = MQ below (zQ D (wC cI cZ q pa sp al dg co da mb dd ah wl lo n td wn) (some (.int (zI (smF al n)))) (zLC q)) ag9 s9 0 0 (fun a => a ∈ zLC q) := ⟨_, rfl⟩
  show W p0 l e9 ({ frames := 1, cells := 0, slots := 0, locals := 22 }) s9 m9 ag9 below meth c9 s9.heap [] 0 0 (MQ below (zQ D (wC cI cZ q pa sp al dg co da mb dd ah wl lo n td wn) (some (.int (zI (smF al n)))) (zLC q)) ag9 s9 0 0 (fun a => a ∈ zLC q)) _
  rw [hE, ← hQ0]
  have hS : va_S (fun a => a ∈ zLC q) s9.heap s9.heap [] := va_S.rf
  generalize hH0 : s9.heap = H at hP ⊢
  have hS : va_S (fun a => a ∈ zLC q) s9.heap H [] := by rw [hH0] at hS ⊢; exact hS
  generalize (lg_sl ([.ref (q 0)]) ++ List.replicate (1 - (lg_sl ([.ref (q 0)])).length) Slot.unset).toArray = ls at hl ⊢
  have hl : lv_has ls 1 [(0, .ref (q 0))] := hl
  refine lv_aload_n hx hb dX2_living_0 rfl (lv_at hl 0 rfl) ?_
  refine va_get (D := D) (ci := 2) (v := .ref (q 1)) (C := RX2) (T := TX2) (N := 9) hx hb hts hin2 hown hK hP 0 rfl rfl 0 (by decide) (hts (.fieldLink RX2 12 "MourningRibbons" "family" "LMourningRibbons$Family;") (by decide +kernel)) (fun _ h9 => h9) rfl dX2_living_1 ?_
  refine zcallV (ci := 1) (q0 := 1) (cq := (RX1, TX1, 5)) (As := []) (rest := []) ⟨hx, hb, hml, hown, hts⟩ hK (kX1_livingCount l D cI cZ q hN pa sp al dg co da mb dd ah wl lo n td wn hn hal) (cwV 0 hts gX2_living_X1_livingCount rfl rfl rfl (by decide +kernel) ⟨Nat.le_of_ble_eq_true rfl, Nat.le_of_ble_eq_true rfl⟩) hP hS hA rfl rfl rfl hl.1 rfl (Nat.le_of_ble_eq_true rfl) dX2_living_4 ⟨Nat.zero_le _, Nat.zero_le _⟩ (fun H locs hP hS _ _ => ?_)
  refine W.eq (g2 := F0 m9 7 ls [.int (zI (smF al n))]) rfl ?_
  rw [hQ0]
  exact zret_i hx hb hr hlocks (rfl) hP hS dX2_living_7
set_option maxHeartbeats 4000000 in
set_option maxRecDepth 100000 in
theorem kX2_isAliveok (l : Launch) (D : va_G) (cI cZ : ClassId) (q : Nat → Nat) (hN : (zLC q).Nodup) (pa : Int → Int) (sp : Int → Int) (al : Int → Int) (dg : Int → Int) (co : Int → Int) (da : Int → Int) (mb : Int → Int) (dd : Int → Int) (ah : Int → Int) (wl : Int → Int) (lo : Int → Int) (n : Nat) (td : Int) (wn : Int) (hn : n ≤ 16) (hal : ∀ j : Int, 0 ≤ al j ∧ al j ≤ 1) (p : Int) (h1 : 0 ≤ p ∧ p < (n : Int)) : zM l yX2_isAlive wsX2_isAlive ({ frames := 7, cells := 0, slots := 0, locals := 111 }) D [(cI, .int), (cZ, .boolean)] [.ref (q 0), .int (zI p)] (wC cI cZ q pa sp al dg co da mb dd ah wl lo n td wn) (wC cI cZ q pa sp al dg co da mb dd ah wl lo n td wn) (some (.int (zI (al p)))) (zLC q) := by
  refine Met.ofW (cc := cX2_isAlive) (maxL := 2) (ret := (some .boolean)) (by decide) rfl ?_
  intro p0 e9 s9 m9 ag9 below meth c9 s₁ B hml hv
  obtain ⟨hav, hP, hK⟩ := hv
  have hx := B.exec
  have hb := B.bytes
  have hr := B.returns
  have hts := atoms_spec (ws := wsX2_isAlive) B.pre
  have hown : s9.vm.findClass RX2 = some m9.cls := findClass_of_methodNamed B.named
  have hlocks := B.notSynchronized
  have hA : ∀ a ∈ zLC q, (fun a => a ∈ zLC q) a := fun _ h => h
  have hin1 : ∀ w ∈ u_ws RX1 TX1 5, w ∈ wsX2_isAlive := by decide +kernel
  have hin2 : ∀ w ∈ u_ws RX2 TX2 9, w ∈ wsX2_isAlive := by decide +kernel
  have hl := lv_entry ([.ref (q 0), .int (zI p)]) (n := 2) (Nat.le_of_ble_eq_true rfl)
  have hE : entryFrame m9 ag9 2 = F0 m9 0 ((lg_sl ([.ref (q 0), .int (zI p)]) ++ List.replicate (2 - (lg_sl ([.ref (q 0), .int (zI p)])).length) Slot.unset).toArray) [] := by rw [hav]; exact lg_entry_eq m9 _ _
  obtain ⟨Q0, hQ0⟩ : ∃ Q0, Q0 = MQ below (zQ D (wC cI cZ q pa sp al dg co da mb dd ah wl lo n td wn) (some (.int (zI (al p)))) (zLC q)) ag9 s9 0 0 (fun a => a ∈ zLC q) := ⟨_, rfl⟩
  show W p0 l e9 ({ frames := 7, cells := 0, slots := 0, locals := 111 }) s9 m9 ag9 below meth c9 s9.heap [] 0 0 (MQ below (zQ D (wC cI cZ q pa sp al dg co da mb dd ah wl lo n td wn) (some (.int (zI (al p)))) (zLC q)) ag9 s9 0 0 (fun a => a ∈ zLC q)) _
  rw [hE, ← hQ0]
  have hS : va_S (fun a => a ∈ zLC q) s9.heap s9.heap [] := va_S.rf
  generalize hH0 : s9.heap = H at hP ⊢
  have hS : va_S (fun a => a ∈ zLC q) s9.heap H [] := by rw [hH0] at hS ⊢; exact hS
  generalize (lg_sl ([.ref (q 0), .int (zI p)]) ++ List.replicate (2 - (lg_sl ([.ref (q 0), .int (zI p)])).length) Slot.unset).toArray = ls at hl ⊢
  have hl : lv_has ls 2 [(0, .ref (q 0)), (1, .int (zI p))] := hl
  refine lv_aload_n hx hb dX2_isAlive_0 rfl (lv_at hl 0 rfl) ?_
  refine lv_iload_n hx hb dX2_isAlive_1 rfl (lv_at hl 1 rfl) ?_
  refine zcallV (ci := 2) (q0 := 0) (cq := (RX2, TX2, 9)) (As := [.int (zI p)]) (rest := []) ⟨hx, hb, hml, hown, hts⟩ hK (kX2_needPersonok l D cI cZ q hN pa sp al dg co da mb dd ah wl lo n td wn hn p (by omega)) (cwV 1 hts gX2_isAlive_X2_needPerson rfl rfl rfl (by decide +kernel) ⟨Nat.le_of_ble_eq_true rfl, Nat.le_of_ble_eq_true rfl⟩) hP hS hA rfl rfl rfl hl.1 rfl (Nat.le_of_ble_eq_true rfl) dX2_isAlive_2 ⟨Nat.zero_le _, Nat.zero_le _⟩ (fun H locs hP hS _ _ => ?_)
  refine W.eq (g2 := F0 m9 5 ls []) rfl ?_
  refine lv_aload_n hx hb dX2_isAlive_5 rfl (lv_at hl 0 rfl) ?_
  refine va_get (D := D) (ci := 2) (v := .ref (q 1)) (C := RX2) (T := TX2) (N := 9) hx hb hts hin2 hown hK hP 0 rfl rfl 0 (by decide) (hts (.fieldLink RX2 12 "MourningRibbons" "family" "LMourningRibbons$Family;") (by decide +kernel)) (fun _ h9 => h9) rfl dX2_isAlive_6 ?_
  refine va_get (D := D) (ci := 1) (v := .ref (q 10)) (C := RX1) (T := TX1) (N := 5) hx hb hts hin1 hown hK hP 1 rfl rfl 2 (by decide) (hts (.fieldLink RX2 101 "MourningRibbons$Family" "alive" "[Z") (by decide +kernel)) (fun _ h9 => h9) rfl dX2_isAlive_9 ?_
  refine lv_iload_n hx hb dX2_isAlive_12 rfl (lv_at hl 1 rfl) ?_
  refine zr_zald (f := al) (n := 16) hx hb hK hP 10 1 rfl rfl (by decide) (i := p) (by omega) (by omega) dX2_isAlive_13 ?_
  have b_1 := hal p
  rw [hQ0]
  exact zret_z hx hb hr hlocks (zn_bool ⟨by omega, by omega⟩) (rfl) hP hS dX2_isAlive_14
set_option maxHeartbeats 4000000 in
set_option maxRecDepth 100000 in
theorem kX2_parentOfok (l : Launch) (D : va_G) (cI cZ : ClassId) (q : Nat → Nat) (hN : (zLC q).Nodup) (pa : Int → Int) (sp : Int → Int) (al : Int → Int) (dg : Int → Int) (co : Int → Int) (da : Int → Int) (mb : Int → Int) (dd : Int → Int) (ah : Int → Int) (wl : Int → Int) (lo : Int → Int) (n : Nat) (td : Int) (wn : Int) (hn : n ≤ 16) (hpa : ∀ j : Int, -1 ≤ pa j ∧ pa j ≤ 15) (p : Int) (h1 : 0 ≤ p ∧ p < (n : Int)) : zM l yX2_parentOf wsX2_parentOf ({ frames := 7, cells := 0, slots := 0, locals := 111 }) D [(cI, .int), (cZ, .boolean)] [.ref (q 0), .int (zI p)] (wC cI cZ q pa sp al dg co da mb dd ah wl lo n td wn) (wC cI cZ q pa sp al dg co da mb dd ah wl lo n td wn) (some (.int (zI (pa p)))) (zLC q) := by
  refine Met.ofW (cc := cX2_parentOf) (maxL := 2) (ret := (some .int)) (by decide) rfl ?_
  intro p0 e9 s9 m9 ag9 below meth c9 s₁ B hml hv
  obtain ⟨hav, hP, hK⟩ := hv
  have hx := B.exec
  have hb := B.bytes
  have hr := B.returns
  have hts := atoms_spec (ws := wsX2_parentOf) B.pre
  have hown : s9.vm.findClass RX2 = some m9.cls := findClass_of_methodNamed B.named
  have hlocks := B.notSynchronized
  have hA : ∀ a ∈ zLC q, (fun a => a ∈ zLC q) a := fun _ h => h
  have hin1 : ∀ w ∈ u_ws RX1 TX1 5, w ∈ wsX2_parentOf := by decide +kernel
  have hin2 : ∀ w ∈ u_ws RX2 TX2 9, w ∈ wsX2_parentOf := by decide +kernel
  have hl := lv_entry ([.ref (q 0), .int (zI p)]) (n := 2) (Nat.le_of_ble_eq_true rfl)
  have hE : entryFrame m9 ag9 2 = F0 m9 0 ((lg_sl ([.ref (q 0), .int (zI p)]) ++ List.replicate (2 - (lg_sl ([.ref (q 0), .int (zI p)])).length) Slot.unset).toArray) [] := by rw [hav]; exact lg_entry_eq m9 _ _
  obtain ⟨Q0, hQ0⟩ : ∃ Q0, Q0 = MQ below (zQ D (wC cI cZ q pa sp al dg co da mb dd ah wl lo n td wn) (some (.int (zI (pa p)))) (zLC q)) ag9 s9 0 0 (fun a => a ∈ zLC q) := ⟨_, rfl⟩
  show W p0 l e9 ({ frames := 7, cells := 0, slots := 0, locals := 111 }) s9 m9 ag9 below meth c9 s9.heap [] 0 0 (MQ below (zQ D (wC cI cZ q pa sp al dg co da mb dd ah wl lo n td wn) (some (.int (zI (pa p)))) (zLC q)) ag9 s9 0 0 (fun a => a ∈ zLC q)) _
  rw [hE, ← hQ0]
  have hS : va_S (fun a => a ∈ zLC q) s9.heap s9.heap [] := va_S.rf
  generalize hH0 : s9.heap = H at hP ⊢
  have hS : va_S (fun a => a ∈ zLC q) s9.heap H [] := by rw [hH0] at hS ⊢; exact hS
  generalize (lg_sl ([.ref (q 0), .int (zI p)]) ++ List.replicate (2 - (lg_sl ([.ref (q 0), .int (zI p)])).length) Slot.unset).toArray = ls at hl ⊢
  have hl : lv_has ls 2 [(0, .ref (q 0)), (1, .int (zI p))] := hl
  refine lv_aload_n hx hb dX2_parentOf_0 rfl (lv_at hl 0 rfl) ?_
  refine lv_iload_n hx hb dX2_parentOf_1 rfl (lv_at hl 1 rfl) ?_
  refine zcallV (ci := 2) (q0 := 0) (cq := (RX2, TX2, 9)) (As := [.int (zI p)]) (rest := []) ⟨hx, hb, hml, hown, hts⟩ hK (kX2_needPersonok l D cI cZ q hN pa sp al dg co da mb dd ah wl lo n td wn hn p (by omega)) (cwV 1 hts gX2_parentOf_X2_needPerson rfl rfl rfl (by decide +kernel) ⟨Nat.le_of_ble_eq_true rfl, Nat.le_of_ble_eq_true rfl⟩) hP hS hA rfl rfl rfl hl.1 rfl (Nat.le_of_ble_eq_true rfl) dX2_parentOf_2 ⟨Nat.zero_le _, Nat.zero_le _⟩ (fun H locs hP hS _ _ => ?_)
  refine W.eq (g2 := F0 m9 5 ls []) rfl ?_
  refine lv_aload_n hx hb dX2_parentOf_5 rfl (lv_at hl 0 rfl) ?_
  refine va_get (D := D) (ci := 2) (v := .ref (q 1)) (C := RX2) (T := TX2) (N := 9) hx hb hts hin2 hown hK hP 0 rfl rfl 0 (by decide) (hts (.fieldLink RX2 12 "MourningRibbons" "family" "LMourningRibbons$Family;") (by decide +kernel)) (fun _ h9 => h9) rfl dX2_parentOf_6 ?_
  refine va_get (D := D) (ci := 1) (v := .ref (q 8)) (C := RX1) (T := TX1) (N := 5) hx hb hts hin1 hown hK hP 1 rfl rfl 0 (by decide) (hts (.fieldLink RX2 147 "MourningRibbons$Family" "parent" "[I") (by decide +kernel)) (fun _ h9 => h9) rfl dX2_parentOf_9 ?_
  refine lv_iload_n hx hb dX2_parentOf_12 rfl (lv_at hl 1 rfl) ?_
  refine zr_iald (f := pa) (n := 16) hx hb hK hP 8 0 rfl rfl (by decide) (i := p) (by omega) (by omega) dX2_parentOf_13 ?_
  have b_1 := hpa p
  rw [hQ0]
  exact zret_i hx hb hr hlocks (rfl) hP hS dX2_parentOf_14
set_option maxHeartbeats 4000000 in
set_option maxRecDepth 100000 in
theorem kX2_marriedTook (l : Launch) (D : va_G) (cI cZ : ClassId) (q : Nat → Nat) (hN : (zLC q).Nodup) (pa : Int → Int) (sp : Int → Int) (al : Int → Int) (dg : Int → Int) (co : Int → Int) (da : Int → Int) (mb : Int → Int) (dd : Int → Int) (ah : Int → Int) (wl : Int → Int) (lo : Int → Int) (n : Nat) (td : Int) (wn : Int) (hn : n ≤ 16) (hsp : ∀ j : Int, -1 ≤ sp j ∧ sp j ≤ 15) (p : Int) (h1 : 0 ≤ p ∧ p < (n : Int)) : zM l yX2_marriedTo wsX2_marriedTo ({ frames := 7, cells := 0, slots := 0, locals := 111 }) D [(cI, .int), (cZ, .boolean)] [.ref (q 0), .int (zI p)] (wC cI cZ q pa sp al dg co da mb dd ah wl lo n td wn) (wC cI cZ q pa sp al dg co da mb dd ah wl lo n td wn) (some (.int (zI (sp p)))) (zLC q) := by
  refine Met.ofW (cc := cX2_marriedTo) (maxL := 2) (ret := (some .int)) (by decide) rfl ?_
  intro p0 e9 s9 m9 ag9 below meth c9 s₁ B hml hv
  obtain ⟨hav, hP, hK⟩ := hv
  have hx := B.exec
  have hb := B.bytes
  have hr := B.returns
  have hts := atoms_spec (ws := wsX2_marriedTo) B.pre
  have hown : s9.vm.findClass RX2 = some m9.cls := findClass_of_methodNamed B.named
  have hlocks := B.notSynchronized
  have hA : ∀ a ∈ zLC q, (fun a => a ∈ zLC q) a := fun _ h => h
  have hin1 : ∀ w ∈ u_ws RX1 TX1 5, w ∈ wsX2_marriedTo := by decide +kernel
  have hin2 : ∀ w ∈ u_ws RX2 TX2 9, w ∈ wsX2_marriedTo := by decide +kernel
  have hl := lv_entry ([.ref (q 0), .int (zI p)]) (n := 2) (Nat.le_of_ble_eq_true rfl)
  have hE : entryFrame m9 ag9 2 = F0 m9 0 ((lg_sl ([.ref (q 0), .int (zI p)]) ++ List.replicate (2 - (lg_sl ([.ref (q 0), .int (zI p)])).length) Slot.unset).toArray) [] := by rw [hav]; exact lg_entry_eq m9 _ _
  obtain ⟨Q0, hQ0⟩ : ∃ Q0, Q0 = MQ below (zQ D (wC cI cZ q pa sp al dg co da mb dd ah wl lo n td wn) (some (.int (zI (sp p)))) (zLC q)) ag9 s9 0 0 (fun a => a ∈ zLC q) := ⟨_, rfl⟩
  show W p0 l e9 ({ frames := 7, cells := 0, slots := 0, locals := 111 }) s9 m9 ag9 below meth c9 s9.heap [] 0 0 (MQ below (zQ D (wC cI cZ q pa sp al dg co da mb dd ah wl lo n td wn) (some (.int (zI (sp p)))) (zLC q)) ag9 s9 0 0 (fun a => a ∈ zLC q)) _
  rw [hE, ← hQ0]
  have hS : va_S (fun a => a ∈ zLC q) s9.heap s9.heap [] := va_S.rf
  generalize hH0 : s9.heap = H at hP ⊢
  have hS : va_S (fun a => a ∈ zLC q) s9.heap H [] := by rw [hH0] at hS ⊢; exact hS
  generalize (lg_sl ([.ref (q 0), .int (zI p)]) ++ List.replicate (2 - (lg_sl ([.ref (q 0), .int (zI p)])).length) Slot.unset).toArray = ls at hl ⊢
  have hl : lv_has ls 2 [(0, .ref (q 0)), (1, .int (zI p))] := hl
  refine lv_aload_n hx hb dX2_marriedTo_0 rfl (lv_at hl 0 rfl) ?_
  refine lv_iload_n hx hb dX2_marriedTo_1 rfl (lv_at hl 1 rfl) ?_
  refine zcallV (ci := 2) (q0 := 0) (cq := (RX2, TX2, 9)) (As := [.int (zI p)]) (rest := []) ⟨hx, hb, hml, hown, hts⟩ hK (kX2_needPersonok l D cI cZ q hN pa sp al dg co da mb dd ah wl lo n td wn hn p (by omega)) (cwV 1 hts gX2_marriedTo_X2_needPerson rfl rfl rfl (by decide +kernel) ⟨Nat.le_of_ble_eq_true rfl, Nat.le_of_ble_eq_true rfl⟩) hP hS hA rfl rfl rfl hl.1 rfl (Nat.le_of_ble_eq_true rfl) dX2_marriedTo_2 ⟨Nat.zero_le _, Nat.zero_le _⟩ (fun H locs hP hS _ _ => ?_)
  refine W.eq (g2 := F0 m9 5 ls []) rfl ?_
  refine lv_aload_n hx hb dX2_marriedTo_5 rfl (lv_at hl 0 rfl) ?_
  refine va_get (D := D) (ci := 2) (v := .ref (q 1)) (C := RX2) (T := TX2) (N := 9) hx hb hts hin2 hown hK hP 0 rfl rfl 0 (by decide) (hts (.fieldLink RX2 12 "MourningRibbons" "family" "LMourningRibbons$Family;") (by decide +kernel)) (fun _ h9 => h9) rfl dX2_marriedTo_6 ?_
  refine va_get (D := D) (ci := 1) (v := .ref (q 9)) (C := RX1) (T := TX1) (N := 5) hx hb hts hin1 hown hK hP 1 rfl rfl 1 (by decide) (hts (.fieldLink RX2 150 "MourningRibbons$Family" "spouse" "[I") (by decide +kernel)) (fun _ h9 => h9) rfl dX2_marriedTo_9 ?_
  refine lv_iload_n hx hb dX2_marriedTo_12 rfl (lv_at hl 1 rfl) ?_
  refine zr_iald (f := sp) (n := 16) hx hb hK hP 9 0 rfl rfl (by decide) (i := p) (by omega) (by omega) dX2_marriedTo_13 ?_
  have b_1 := hsp p
  rw [hQ0]
  exact zret_i hx hb hr hlocks (rfl) hP hS dX2_marriedTo_14
set_option maxHeartbeats 4000000 in
set_option maxRecDepth 100000 in
theorem kX2_degreeOfok (l : Launch) (D : va_G) (cI cZ : ClassId) (q : Nat → Nat) (hN : (zLC q).Nodup) (pa : Int → Int) (sp : Int → Int) (al : Int → Int) (dg : Int → Int) (co : Int → Int) (da : Int → Int) (mb : Int → Int) (dd : Int → Int) (ah : Int → Int) (wl : Int → Int) (lo : Int → Int) (n : Nat) (td : Int) (wn : Int) (hn : n ≤ 16) (hpa : ∀ j : Int, -1 ≤ pa j ∧ pa j ≤ 15) (hsp : ∀ j : Int, -1 ≤ sp j ∧ sp j ≤ 15) (a : Int) (b : Int) (h1 : 0 ≤ a ∧ a < (n : Int)) (h2 : 0 ≤ b ∧ b < (n : Int)) : zM l yX2_degreeOf wsX2_degreeOf ({ frames := 7, cells := 0, slots := 0, locals := 111 }) D [(cI, .int), (cZ, .boolean)] [.ref (q 0), .int (zI a), .int (zI b)] (wC cI cZ q pa sp al dg co da mb dd ah wl lo n td wn) (wC cI cZ q pa sp al (dgF pa sp n a) co da mb dd ah wl lo n td wn) (some (.int (zI (dgF pa sp n a b)))) (zLC q) := by
  refine Met.ofW (cc := cX2_degreeOf) (maxL := 3) (ret := (some .int)) (by decide) rfl ?_
  intro p0 e9 s9 m9 ag9 below meth c9 s₁ B hml hv
  obtain ⟨hav, hP, hK⟩ := hv
  have hx := B.exec
  have hb := B.bytes
  have hr := B.returns
  have hts := atoms_spec (ws := wsX2_degreeOf) B.pre
  have hown : s9.vm.findClass RX2 = some m9.cls := findClass_of_methodNamed B.named
  have hlocks := B.notSynchronized
  have hA : ∀ a ∈ zLC q, (fun a => a ∈ zLC q) a := fun _ h => h
  have hin1 : ∀ w ∈ u_ws RX1 TX1 5, w ∈ wsX2_degreeOf := by decide +kernel
  have hin2 : ∀ w ∈ u_ws RX2 TX2 9, w ∈ wsX2_degreeOf := by decide +kernel
  have hl := lv_entry ([.ref (q 0), .int (zI a), .int (zI b)]) (n := 3) (Nat.le_of_ble_eq_true rfl)
  have hE : entryFrame m9 ag9 3 = F0 m9 0 ((lg_sl ([.ref (q 0), .int (zI a), .int (zI b)]) ++ List.replicate (3 - (lg_sl ([.ref (q 0), .int (zI a), .int (zI b)])).length) Slot.unset).toArray) [] := by rw [hav]; exact lg_entry_eq m9 _ _
  obtain ⟨Q0, hQ0⟩ : ∃ Q0, Q0 = MQ below (zQ D (wC cI cZ q pa sp al (dgF pa sp n a) co da mb dd ah wl lo n td wn) (some (.int (zI (dgF pa sp n a b)))) (zLC q)) ag9 s9 0 0 (fun a => a ∈ zLC q) := ⟨_, rfl⟩
  show W p0 l e9 ({ frames := 7, cells := 0, slots := 0, locals := 111 }) s9 m9 ag9 below meth c9 s9.heap [] 0 0 (MQ below (zQ D (wC cI cZ q pa sp al (dgF pa sp n a) co da mb dd ah wl lo n td wn) (some (.int (zI (dgF pa sp n a b)))) (zLC q)) ag9 s9 0 0 (fun a => a ∈ zLC q)) _
  rw [hE, ← hQ0]
  have hS : va_S (fun a => a ∈ zLC q) s9.heap s9.heap [] := va_S.rf
  generalize hH0 : s9.heap = H at hP ⊢
  have hS : va_S (fun a => a ∈ zLC q) s9.heap H [] := by rw [hH0] at hS ⊢; exact hS
  generalize (lg_sl ([.ref (q 0), .int (zI a), .int (zI b)]) ++ List.replicate (3 - (lg_sl ([.ref (q 0), .int (zI a), .int (zI b)])).length) Slot.unset).toArray = ls at hl ⊢
  have hl : lv_has ls 3 [(0, .ref (q 0)), (1, .int (zI a)), (2, .int (zI b))] := hl
  refine lv_aload_n hx hb dX2_degreeOf_0 rfl (lv_at hl 0 rfl) ?_
  refine lv_iload_n hx hb dX2_degreeOf_1 rfl (lv_at hl 1 rfl) ?_
  refine zcallV (ci := 2) (q0 := 0) (cq := (RX2, TX2, 9)) (As := [.int (zI a)]) (rest := []) ⟨hx, hb, hml, hown, hts⟩ hK (kX2_needPersonok l D cI cZ q hN pa sp al dg co da mb dd ah wl lo n td wn hn a (by omega)) (cwV 1 hts gX2_degreeOf_X2_needPerson rfl rfl rfl (by decide +kernel) ⟨Nat.le_of_ble_eq_true rfl, Nat.le_of_ble_eq_true rfl⟩) hP hS hA rfl rfl rfl hl.1 rfl (Nat.le_of_ble_eq_true rfl) dX2_degreeOf_2 ⟨Nat.zero_le _, Nat.zero_le _⟩ (fun H locs hP hS _ _ => ?_)
  refine W.eq (g2 := F0 m9 5 ls []) rfl ?_
  refine lv_aload_n hx hb dX2_degreeOf_5 rfl (lv_at hl 0 rfl) ?_
  refine lv_iload_n hx hb dX2_degreeOf_6 rfl (lv_at hl 2 rfl) ?_
  refine zcallV (ci := 2) (q0 := 0) (cq := (RX2, TX2, 9)) (As := [.int (zI b)]) (rest := []) ⟨hx, hb, hml, hown, hts⟩ hK (kX2_needPersonok l D cI cZ q hN pa sp al dg co da mb dd ah wl lo n td wn hn b (by omega)) (cwV 1 hts gX2_degreeOf_X2_needPerson rfl rfl rfl (by decide +kernel) ⟨Nat.le_of_ble_eq_true rfl, Nat.le_of_ble_eq_true rfl⟩) hP hS hA rfl rfl rfl hl.1 rfl (Nat.le_of_ble_eq_true rfl) dX2_degreeOf_7 ⟨Nat.zero_le _, Nat.zero_le _⟩ (fun H locs hP hS _ _ => ?_)
  refine W.eq (g2 := F0 m9 10 ls []) rfl ?_
  refine lv_aload_n hx hb dX2_degreeOf_10 rfl (lv_at hl 0 rfl) ?_
  refine va_get (D := D) (ci := 2) (v := .ref (q 1)) (C := RX2) (T := TX2) (N := 9) hx hb hts hin2 hown hK hP 0 rfl rfl 0 (by decide) (hts (.fieldLink RX2 12 "MourningRibbons" "family" "LMourningRibbons$Family;") (by decide +kernel)) (fun _ h9 => h9) rfl dX2_degreeOf_11 ?_
  refine lv_iload_n hx hb dX2_degreeOf_14 rfl (lv_at hl 1 rfl) ?_
  refine zcallV (ci := 1) (q0 := 1) (cq := (RX1, TX1, 5)) (As := [.int (zI a)]) (rest := []) ⟨hx, hb, hml, hown, hts⟩ hK (kX1_findDegrees l D cI cZ q hN pa sp al dg co da mb dd ah wl lo n td wn hpa hsp hn a (by omega)) (cwV 1 hts gX2_degreeOf_X1_findDegrees rfl rfl rfl (by decide +kernel) ⟨Nat.le_of_ble_eq_true rfl, Nat.le_of_ble_eq_true rfl⟩) hP hS hA rfl rfl rfl hl.1 rfl (Nat.le_of_ble_eq_true rfl) dX2_degreeOf_15 ⟨Nat.zero_le _, Nat.zero_le _⟩ (fun H locs hP hS _ _ => ?_)
  have g_1 : ∀ j : Int, 0 ≤ (dgF pa sp n a) j ∧ (dgF pa sp n a) j ≤ 4 := dgF_bd pa sp n a
  refine W.eq (g2 := F0 m9 18 ls []) rfl ?_
  refine lv_aload_n hx hb dX2_degreeOf_18 rfl (lv_at hl 0 rfl) ?_
  refine va_get (D := D) (ci := 2) (v := .ref (q 1)) (C := RX2) (T := TX2) (N := 9) hx hb hts hin2 hown hK hP 0 rfl rfl 0 (by decide) (hts (.fieldLink RX2 12 "MourningRibbons" "family" "LMourningRibbons$Family;") (by decide +kernel)) (fun _ h9 => h9) rfl dX2_degreeOf_19 ?_
  refine va_get (D := D) (ci := 1) (v := .ref (q 11)) (C := RX1) (T := TX1) (N := 5) hx hb hts hin1 hown hK hP 1 rfl rfl 4 (by decide) (hts (.fieldLink RX2 71 "MourningRibbons$Family" "degrees" "[I") (by decide +kernel)) (fun _ h9 => h9) rfl dX2_degreeOf_22 ?_
  refine lv_iload_n hx hb dX2_degreeOf_25 rfl (lv_at hl 2 rfl) ?_
  refine zr_iald (f := dgF pa sp n a) (n := 16) hx hb hK hP 11 0 rfl rfl (by decide) (i := b) (by omega) (by omega) dX2_degreeOf_26 ?_
  have b_2 := g_1 b
  rw [hQ0]
  exact zret_i hx hb hr hlocks (by omega) hP hS dX2_degreeOf_27
set_option maxHeartbeats 4000000 in
set_option maxRecDepth 100000 in
theorem kX2_kinOfok (l : Launch) (D : va_G) (cI cZ : ClassId) (q : Nat → Nat) (hN : (zLC q).Nodup) (pa : Int → Int) (sp : Int → Int) (al : Int → Int) (dg : Int → Int) (co : Int → Int) (da : Int → Int) (mb : Int → Int) (dd : Int → Int) (ah : Int → Int) (wl : Int → Int) (lo : Int → Int) (n : Nat) (td : Int) (wn : Int) (hn : n ≤ 16) (hpa : ∀ j : Int, -1 ≤ pa j ∧ pa j ≤ 15) (hsp : ∀ j : Int, -1 ≤ sp j ∧ sp j ≤ 15) (hal : ∀ j : Int, 0 ≤ al j ∧ al j ≤ 1) (p : Int) (g : Int) (h1 : 0 ≤ p ∧ p < (n : Int)) (h2 : 1 ≤ g ∧ g ≤ 4) : zM l yX2_kinOf wsX2_kinOf ({ frames := 7, cells := 0, slots := 0, locals := 111 }) D [(cI, .int), (cZ, .boolean)] [.ref (q 0), .int (zI p), .int (zI g)] (wC cI cZ q pa sp al dg co da mb dd ah wl lo n td wn) (wC cI cZ q pa sp al (dgF pa sp n p) co da mb dd ah wl lo n td wn) (some (.int (zI (smF (kinF al (dgF pa sp n p) g) n)))) (zLC q) := by
  refine Met.ofW (cc := cX2_kinOf) (maxL := 3) (ret := (some .int)) (by decide) rfl ?_
  intro p0 e9 s9 m9 ag9 below meth c9 s₁ B hml hv
  obtain ⟨hav, hP, hK⟩ := hv
  have hx := B.exec
  have hb := B.bytes
  have hr := B.returns
  have hts := atoms_spec (ws := wsX2_kinOf) B.pre
  have hown : s9.vm.findClass RX2 = some m9.cls := findClass_of_methodNamed B.named
  have hlocks := B.notSynchronized
  have hA : ∀ a ∈ zLC q, (fun a => a ∈ zLC q) a := fun _ h => h
  have hin2 : ∀ w ∈ u_ws RX2 TX2 9, w ∈ wsX2_kinOf := by decide +kernel
  have hl := lv_entry ([.ref (q 0), .int (zI p), .int (zI g)]) (n := 3) (Nat.le_of_ble_eq_true rfl)
  have hE : entryFrame m9 ag9 3 = F0 m9 0 ((lg_sl ([.ref (q 0), .int (zI p), .int (zI g)]) ++ List.replicate (3 - (lg_sl ([.ref (q 0), .int (zI p), .int (zI g)])).length) Slot.unset).toArray) [] := by rw [hav]; exact lg_entry_eq m9 _ _
  obtain ⟨Q0, hQ0⟩ : ∃ Q0, Q0 = MQ below (zQ D (wC cI cZ q pa sp al (dgF pa sp n p) co da mb dd ah wl lo n td wn) (some (.int (zI (smF (kinF al (dgF pa sp n p) g) n)))) (zLC q)) ag9 s9 0 0 (fun a => a ∈ zLC q) := ⟨_, rfl⟩
  show W p0 l e9 ({ frames := 7, cells := 0, slots := 0, locals := 111 }) s9 m9 ag9 below meth c9 s9.heap [] 0 0 (MQ below (zQ D (wC cI cZ q pa sp al (dgF pa sp n p) co da mb dd ah wl lo n td wn) (some (.int (zI (smF (kinF al (dgF pa sp n p) g) n)))) (zLC q)) ag9 s9 0 0 (fun a => a ∈ zLC q)) _
  rw [hE, ← hQ0]
  have hS : va_S (fun a => a ∈ zLC q) s9.heap s9.heap [] := va_S.rf
  generalize hH0 : s9.heap = H at hP ⊢
  have hS : va_S (fun a => a ∈ zLC q) s9.heap H [] := by rw [hH0] at hS ⊢; exact hS
  generalize (lg_sl ([.ref (q 0), .int (zI p), .int (zI g)]) ++ List.replicate (3 - (lg_sl ([.ref (q 0), .int (zI p), .int (zI g)])).length) Slot.unset).toArray = ls at hl ⊢
  have hl : lv_has ls 3 [(0, .ref (q 0)), (1, .int (zI p)), (2, .int (zI g))] := hl
  refine lv_aload_n hx hb dX2_kinOf_0 rfl (lv_at hl 0 rfl) ?_
  refine lv_iload_n hx hb dX2_kinOf_1 rfl (lv_at hl 1 rfl) ?_
  refine zcallV (ci := 2) (q0 := 0) (cq := (RX2, TX2, 9)) (As := [.int (zI p)]) (rest := []) ⟨hx, hb, hml, hown, hts⟩ hK (kX2_needPersonok l D cI cZ q hN pa sp al dg co da mb dd ah wl lo n td wn hn p (by omega)) (cwV 1 hts gX2_kinOf_X2_needPerson rfl rfl rfl (by decide +kernel) ⟨Nat.le_of_ble_eq_true rfl, Nat.le_of_ble_eq_true rfl⟩) hP hS hA rfl rfl rfl hl.1 rfl (Nat.le_of_ble_eq_true rfl) dX2_kinOf_2 ⟨Nat.zero_le _, Nat.zero_le _⟩ (fun H locs hP hS _ _ => ?_)
  refine W.eq (g2 := F0 m9 5 ls []) rfl ?_
  refine lv_aload_n hx hb dX2_kinOf_5 rfl (lv_at hl 0 rfl) ?_
  refine lv_iload_n hx hb dX2_kinOf_6 rfl (lv_at hl 2 rfl) ?_
  refine zcallV (ci := 2) (q0 := 0) (cq := (RX2, TX2, 9)) (As := [.int (zI g)]) (rest := []) ⟨hx, hb, hml, hown, hts⟩ hK (kX2_needDegreeok l D cI cZ q hN pa sp al dg co da mb dd ah wl lo n td wn g (by omega)) (cwV 1 hts gX2_kinOf_X2_needDegree rfl rfl rfl (by decide +kernel) ⟨Nat.le_of_ble_eq_true rfl, Nat.le_of_ble_eq_true rfl⟩) hP hS hA rfl rfl rfl hl.1 rfl (Nat.le_of_ble_eq_true rfl) dX2_kinOf_7 ⟨Nat.zero_le _, Nat.zero_le _⟩ (fun H locs hP hS _ _ => ?_)
  refine W.eq (g2 := F0 m9 10 ls []) rfl ?_
  refine lv_aload_n hx hb dX2_kinOf_10 rfl (lv_at hl 0 rfl) ?_
  refine va_get (D := D) (ci := 2) (v := .ref (q 1)) (C := RX2) (T := TX2) (N := 9) hx hb hts hin2 hown hK hP 0 rfl rfl 0 (by decide) (hts (.fieldLink RX2 12 "MourningRibbons" "family" "LMourningRibbons$Family;") (by decide +kernel)) (fun _ h9 => h9) rfl dX2_kinOf_11 ?_
  refine lv_iload_n hx hb dX2_kinOf_14 rfl (lv_at hl 1 rfl) ?_
  refine zcallV (ci := 1) (q0 := 1) (cq := (RX1, TX1, 5)) (As := [.int (zI p)]) (rest := []) ⟨hx, hb, hml, hown, hts⟩ hK (kX1_findDegrees l D cI cZ q hN pa sp al dg co da mb dd ah wl lo n td wn hpa hsp hn p (by omega)) (cwV 1 hts gX2_kinOf_X1_findDegrees rfl rfl rfl (by decide +kernel) ⟨Nat.le_of_ble_eq_true rfl, Nat.le_of_ble_eq_true rfl⟩) hP hS hA rfl rfl rfl hl.1 rfl (Nat.le_of_ble_eq_true rfl) dX2_kinOf_15 ⟨Nat.zero_le _, Nat.zero_le _⟩ (fun H locs hP hS _ _ => ?_)
  have g_1 : ∀ j : Int, 0 ≤ (dgF pa sp n p) j ∧ (dgF pa sp n p) j ≤ 4 := dgF_bd pa sp n p
  refine W.eq (g2 := F0 m9 18 ls []) rfl ?_
  refine lv_aload_n hx hb dX2_kinOf_18 rfl (lv_at hl 0 rfl) ?_
  refine va_get (D := D) (ci := 2) (v := .ref (q 1)) (C := RX2) (T := TX2) (N := 9) hx hb hts hin2 hown hK hP 0 rfl rfl 0 (by decide) (hts (.fieldLink RX2 12 "MourningRibbons" "family" "LMourningRibbons$Family;") (by decide +kernel)) (fun _ h9 => h9) rfl dX2_kinOf_19 ?_
  refine lv_iload_n hx hb dX2_kinOf_22 rfl (lv_at hl 2 rfl) ?_
  refine zcallV (ci := 1) (q0 := 1) (cq := (RX1, TX1, 5)) (As := [.int (zI g)]) (rest := []) ⟨hx, hb, hml, hown, hts⟩ hK (kX1_countKin l D cI cZ q hN pa sp al (dgF pa sp n p) co da mb dd ah wl lo n td wn hn hal g_1 g (by omega)) (cwV 1 hts gX2_kinOf_X1_countKin rfl rfl rfl (by decide +kernel) ⟨Nat.le_of_ble_eq_true rfl, Nat.le_of_ble_eq_true rfl⟩) hP hS hA rfl rfl rfl hl.1 rfl (Nat.le_of_ble_eq_true rfl) dX2_kinOf_23 ⟨Nat.zero_le _, Nat.zero_le _⟩ (fun H locs hP hS _ _ => ?_)
  refine W.eq (g2 := F0 m9 26 ls [.int (zI (smF (kinF al (dgF pa sp n p) g) n))]) rfl ?_
  rw [hQ0]
  exact zret_i hx hb hr hlocks (rfl) hP hS dX2_kinOf_26
set_option maxHeartbeats 4000000 in
set_option maxRecDepth 100000 in
theorem kX2_stageColourok (l : Launch) (D : va_G) (cI cZ : ClassId) (q : Nat → Nat) (hN : (zLC q).Nodup) (pa : Int → Int) (sp : Int → Int) (al : Int → Int) (dg : Int → Int) (co : Int → Int) (da : Int → Int) (mb : Int → Int) (dd : Int → Int) (ah : Int → Int) (wl : Int → Int) (lo : Int → Int) (n : Nat) (td : Int) (wn : Int) (hco : ∀ j : Int, 0 ≤ co j ∧ co j ≤ 5) (g : Int) (s : Int) (h1 : 1 ≤ g ∧ g ≤ 4) (h2 : 0 ≤ s ∧ s ≤ 2) : zM l yX2_stageColour wsX2_stageColour ({ frames := 8, cells := 0, slots := 0, locals := 133 }) D [(cI, .int), (cZ, .boolean)] [.ref (q 0), .int (zI g), .int (zI s)] (wC cI cZ q pa sp al dg co da mb dd ah wl lo n td wn) (wC cI cZ q pa sp al dg co da mb dd ah wl lo n td wn) (some (.int (zI (co (16 * 12 + (g - 1) * 3 + s))))) (zLC q) := by
  refine Met.ofW (cc := cX2_stageColour) (maxL := 3) (ret := (some .int)) (by decide) rfl ?_
  intro p0 e9 s9 m9 ag9 below meth c9 s₁ B hml hv
  obtain ⟨hav, hP, hK⟩ := hv
  have hx := B.exec
  have hb := B.bytes
  have hr := B.returns
  have hts := atoms_spec (ws := wsX2_stageColour) B.pre
  have hown : s9.vm.findClass RX2 = some m9.cls := findClass_of_methodNamed B.named
  have hlocks := B.notSynchronized
  have hA : ∀ a ∈ zLC q, (fun a => a ∈ zLC q) a := fun _ h => h
  have hin0 : ∀ w ∈ u_ws RX0 TX0 2, w ∈ wsX2_stageColour := by decide +kernel
  have hin2 : ∀ w ∈ u_ws RX2 TX2 9, w ∈ wsX2_stageColour := by decide +kernel
  have hl := lv_entry ([.ref (q 0), .int (zI g), .int (zI s)]) (n := 3) (Nat.le_of_ble_eq_true rfl)
  have hE : entryFrame m9 ag9 3 = F0 m9 0 ((lg_sl ([.ref (q 0), .int (zI g), .int (zI s)]) ++ List.replicate (3 - (lg_sl ([.ref (q 0), .int (zI g), .int (zI s)])).length) Slot.unset).toArray) [] := by rw [hav]; exact lg_entry_eq m9 _ _
  obtain ⟨Q0, hQ0⟩ : ∃ Q0, Q0 = MQ below (zQ D (wC cI cZ q pa sp al dg co da mb dd ah wl lo n td wn) (some (.int (zI (co (16 * 12 + (g - 1) * 3 + s))))) (zLC q)) ag9 s9 0 0 (fun a => a ∈ zLC q) := ⟨_, rfl⟩
  show W p0 l e9 ({ frames := 8, cells := 0, slots := 0, locals := 133 }) s9 m9 ag9 below meth c9 s9.heap [] 0 0 (MQ below (zQ D (wC cI cZ q pa sp al dg co da mb dd ah wl lo n td wn) (some (.int (zI (co (16 * 12 + (g - 1) * 3 + s))))) (zLC q)) ag9 s9 0 0 (fun a => a ∈ zLC q)) _
  rw [hE, ← hQ0]
  have hS : va_S (fun a => a ∈ zLC q) s9.heap s9.heap [] := va_S.rf
  generalize hH0 : s9.heap = H at hP ⊢
  have hS : va_S (fun a => a ∈ zLC q) s9.heap H [] := by rw [hH0] at hS ⊢; exact hS
  generalize (lg_sl ([.ref (q 0), .int (zI g), .int (zI s)]) ++ List.replicate (3 - (lg_sl ([.ref (q 0), .int (zI g), .int (zI s)])).length) Slot.unset).toArray = ls at hl ⊢
  have hl : lv_has ls 3 [(0, .ref (q 0)), (1, .int (zI g)), (2, .int (zI s))] := hl
  refine lv_aload_n hx hb dX2_stageColour_0 rfl (lv_at hl 0 rfl) ?_
  refine lv_iload_n hx hb dX2_stageColour_1 rfl (lv_at hl 1 rfl) ?_
  refine lv_iload_n hx hb dX2_stageColour_2 rfl (lv_at hl 2 rfl) ?_
  refine zcallV (ci := 2) (q0 := 0) (cq := (RX2, TX2, 9)) (As := [.int (zI g), .int (zI s)]) (rest := []) ⟨hx, hb, hml, hown, hts⟩ hK (kX2_needStageok l D cI cZ q hN pa sp al dg co da mb dd ah wl lo n td wn g s (by omega) (by omega)) (cwV 2 hts gX2_stageColour_X2_needStage rfl rfl rfl (by decide +kernel) ⟨Nat.le_of_ble_eq_true rfl, Nat.le_of_ble_eq_true rfl⟩) hP hS hA rfl rfl rfl hl.1 rfl (Nat.le_of_ble_eq_true rfl) dX2_stageColour_3 ⟨Nat.zero_le _, Nat.zero_le _⟩ (fun H locs hP hS _ _ => ?_)
  refine W.eq (g2 := F0 m9 6 ls []) rfl ?_
  refine lv_aload_n hx hb dX2_stageColour_6 rfl (lv_at hl 0 rfl) ?_
  refine va_get (D := D) (ci := 2) (v := .ref (q 2)) (C := RX2) (T := TX2) (N := 9) hx hb hts hin2 hown hK hP 0 rfl rfl 1 (by decide) (hts (.fieldLink RX2 19 "MourningRibbons" "codes" "LMourningRibbons$Codes;") (by decide +kernel)) (fun _ h9 => h9) rfl dX2_stageColour_7 ?_
  refine va_get (D := D) (ci := 0) (v := .ref (q 12)) (C := RX0) (T := TX0) (N := 2) hx hb hts hin0 hown hK hP 2 rfl rfl 0 (by decide) (hts (.fieldLink RX2 91 "MourningRibbons$Codes" "colours" "[I") (by decide +kernel)) (fun _ h9 => h9) rfl dX2_stageColour_10 ?_
  refine zr_bipush hx hb dX2_stageColour_13 (by decide) ?_
  refine lv_iload_n hx hb dX2_stageColour_15 rfl (lv_at hl 1 rfl) ?_
  refine lv_iload_n hx hb dX2_stageColour_16 rfl (lv_at hl 2 rfl) ?_
  refine zcallP (As := [.int (zI 16), .int (zI g), .int (zI s)]) (rest := [.ref (q 12)]) ⟨hx, hb, hml, hown, hts⟩ (kX0_place l D 16 g s) hK (va_cwS 3 hts gX2_stageColour_X0_place rfl rfl rfl (by decide +kernel) ⟨Nat.le_of_ble_eq_true rfl, Nat.le_of_ble_eq_true rfl⟩) hP hS rfl hl.1 rfl (Nat.le_of_ble_eq_true rfl) dX2_stageColour_17 ⟨Nat.zero_le _, Nat.zero_le _⟩ (fun H locs hP hS => ?_)
  refine W.eq (g2 := F0 m9 20 ls [.int (zI (16 * 12 + (g - 1) * 3 + s)), .ref (q 12)]) rfl ?_
  refine zr_iald (f := co) (n := 204) hx hb hK hP 12 0 rfl rfl (by decide) (i := 16 * 12 + (g - 1) * 3 + s) (by omega) (by omega) dX2_stageColour_20 ?_
  have b_1 := hco (16 * 12 + (g - 1) * 3 + s)
  rw [hQ0]
  exact zret_i hx hb hr hlocks (rfl) hP hS dX2_stageColour_21
set_option maxHeartbeats 4000000 in
set_option maxRecDepth 100000 in
theorem kX2_stageDaysok (l : Launch) (D : va_G) (cI cZ : ClassId) (q : Nat → Nat) (hN : (zLC q).Nodup) (pa : Int → Int) (sp : Int → Int) (al : Int → Int) (dg : Int → Int) (co : Int → Int) (da : Int → Int) (mb : Int → Int) (dd : Int → Int) (ah : Int → Int) (wl : Int → Int) (lo : Int → Int) (n : Nat) (td : Int) (wn : Int) (hda : ∀ j : Int, 0 ≤ da j ∧ da j ≤ 60) (g : Int) (s : Int) (h1 : 1 ≤ g ∧ g ≤ 4) (h2 : 0 ≤ s ∧ s ≤ 2) : zM l yX2_stageDays wsX2_stageDays ({ frames := 8, cells := 0, slots := 0, locals := 133 }) D [(cI, .int), (cZ, .boolean)] [.ref (q 0), .int (zI g), .int (zI s)] (wC cI cZ q pa sp al dg co da mb dd ah wl lo n td wn) (wC cI cZ q pa sp al dg co da mb dd ah wl lo n td wn) (some (.int (zI (da (16 * 12 + (g - 1) * 3 + s))))) (zLC q) := by
  refine Met.ofW (cc := cX2_stageDays) (maxL := 3) (ret := (some .int)) (by decide) rfl ?_
  intro p0 e9 s9 m9 ag9 below meth c9 s₁ B hml hv
  obtain ⟨hav, hP, hK⟩ := hv
  have hx := B.exec
  have hb := B.bytes
  have hr := B.returns
  have hts := atoms_spec (ws := wsX2_stageDays) B.pre
  have hown : s9.vm.findClass RX2 = some m9.cls := findClass_of_methodNamed B.named
  have hlocks := B.notSynchronized
  have hA : ∀ a ∈ zLC q, (fun a => a ∈ zLC q) a := fun _ h => h
  have hin0 : ∀ w ∈ u_ws RX0 TX0 2, w ∈ wsX2_stageDays := by decide +kernel
  have hin2 : ∀ w ∈ u_ws RX2 TX2 9, w ∈ wsX2_stageDays := by decide +kernel
  have hl := lv_entry ([.ref (q 0), .int (zI g), .int (zI s)]) (n := 3) (Nat.le_of_ble_eq_true rfl)
  have hE : entryFrame m9 ag9 3 = F0 m9 0 ((lg_sl ([.ref (q 0), .int (zI g), .int (zI s)]) ++ List.replicate (3 - (lg_sl ([.ref (q 0), .int (zI g), .int (zI s)])).length) Slot.unset).toArray) [] := by rw [hav]; exact lg_entry_eq m9 _ _
  obtain ⟨Q0, hQ0⟩ : ∃ Q0, Q0 = MQ below (zQ D (wC cI cZ q pa sp al dg co da mb dd ah wl lo n td wn) (some (.int (zI (da (16 * 12 + (g - 1) * 3 + s))))) (zLC q)) ag9 s9 0 0 (fun a => a ∈ zLC q) := ⟨_, rfl⟩
  show W p0 l e9 ({ frames := 8, cells := 0, slots := 0, locals := 133 }) s9 m9 ag9 below meth c9 s9.heap [] 0 0 (MQ below (zQ D (wC cI cZ q pa sp al dg co da mb dd ah wl lo n td wn) (some (.int (zI (da (16 * 12 + (g - 1) * 3 + s))))) (zLC q)) ag9 s9 0 0 (fun a => a ∈ zLC q)) _
  rw [hE, ← hQ0]
  have hS : va_S (fun a => a ∈ zLC q) s9.heap s9.heap [] := va_S.rf
  generalize hH0 : s9.heap = H at hP ⊢
  have hS : va_S (fun a => a ∈ zLC q) s9.heap H [] := by rw [hH0] at hS ⊢; exact hS
  generalize (lg_sl ([.ref (q 0), .int (zI g), .int (zI s)]) ++ List.replicate (3 - (lg_sl ([.ref (q 0), .int (zI g), .int (zI s)])).length) Slot.unset).toArray = ls at hl ⊢
  have hl : lv_has ls 3 [(0, .ref (q 0)), (1, .int (zI g)), (2, .int (zI s))] := hl
  refine lv_aload_n hx hb dX2_stageDays_0 rfl (lv_at hl 0 rfl) ?_
  refine lv_iload_n hx hb dX2_stageDays_1 rfl (lv_at hl 1 rfl) ?_
  refine lv_iload_n hx hb dX2_stageDays_2 rfl (lv_at hl 2 rfl) ?_
  refine zcallV (ci := 2) (q0 := 0) (cq := (RX2, TX2, 9)) (As := [.int (zI g), .int (zI s)]) (rest := []) ⟨hx, hb, hml, hown, hts⟩ hK (kX2_needStageok l D cI cZ q hN pa sp al dg co da mb dd ah wl lo n td wn g s (by omega) (by omega)) (cwV 2 hts gX2_stageDays_X2_needStage rfl rfl rfl (by decide +kernel) ⟨Nat.le_of_ble_eq_true rfl, Nat.le_of_ble_eq_true rfl⟩) hP hS hA rfl rfl rfl hl.1 rfl (Nat.le_of_ble_eq_true rfl) dX2_stageDays_3 ⟨Nat.zero_le _, Nat.zero_le _⟩ (fun H locs hP hS _ _ => ?_)
  refine W.eq (g2 := F0 m9 6 ls []) rfl ?_
  refine lv_aload_n hx hb dX2_stageDays_6 rfl (lv_at hl 0 rfl) ?_
  refine va_get (D := D) (ci := 2) (v := .ref (q 2)) (C := RX2) (T := TX2) (N := 9) hx hb hts hin2 hown hK hP 0 rfl rfl 1 (by decide) (hts (.fieldLink RX2 19 "MourningRibbons" "codes" "LMourningRibbons$Codes;") (by decide +kernel)) (fun _ h9 => h9) rfl dX2_stageDays_7 ?_
  refine va_get (D := D) (ci := 0) (v := .ref (q 13)) (C := RX0) (T := TX0) (N := 2) hx hb hts hin0 hown hK hP 2 rfl rfl 1 (by decide) (hts (.fieldLink RX2 94 "MourningRibbons$Codes" "days" "[I") (by decide +kernel)) (fun _ h9 => h9) rfl dX2_stageDays_10 ?_
  refine zr_bipush hx hb dX2_stageDays_13 (by decide) ?_
  refine lv_iload_n hx hb dX2_stageDays_15 rfl (lv_at hl 1 rfl) ?_
  refine lv_iload_n hx hb dX2_stageDays_16 rfl (lv_at hl 2 rfl) ?_
  refine zcallP (As := [.int (zI 16), .int (zI g), .int (zI s)]) (rest := [.ref (q 13)]) ⟨hx, hb, hml, hown, hts⟩ (kX0_place l D 16 g s) hK (va_cwS 3 hts gX2_stageDays_X0_place rfl rfl rfl (by decide +kernel) ⟨Nat.le_of_ble_eq_true rfl, Nat.le_of_ble_eq_true rfl⟩) hP hS rfl hl.1 rfl (Nat.le_of_ble_eq_true rfl) dX2_stageDays_17 ⟨Nat.zero_le _, Nat.zero_le _⟩ (fun H locs hP hS => ?_)
  refine W.eq (g2 := F0 m9 20 ls [.int (zI (16 * 12 + (g - 1) * 3 + s)), .ref (q 13)]) rfl ?_
  refine zr_iald (f := da) (n := 204) hx hb hK hP 13 0 rfl rfl (by decide) (i := 16 * 12 + (g - 1) * 3 + s) (by omega) (by omega) dX2_stageDays_20 ?_
  have b_1 := hda (16 * 12 + (g - 1) * 3 + s)
  rw [hQ0]
  exact zret_i hx hb hr hlocks (rfl) hP hS dX2_stageDays_21
set_option maxHeartbeats 4000000 in
set_option maxRecDepth 100000 in
theorem kX2_day (l : Launch) (D : va_G) (cI cZ : ClassId) (q : Nat → Nat) (hN : (zLC q).Nodup) (pa : Int → Int) (sp : Int → Int) (al : Int → Int) (dg : Int → Int) (co : Int → Int) (da : Int → Int) (mb : Int → Int) (dd : Int → Int) (ah : Int → Int) (wl : Int → Int) (lo : Int → Int) (n : Nat) (td : Int) (wn : Int) : zM l yX2_day wsX2_day ({ frames := 0, cells := 0, slots := 0, locals := 0 }) D [(cI, .int), (cZ, .boolean)] [.ref (q 0)] (wC cI cZ q pa sp al dg co da mb dd ah wl lo n td wn) (wC cI cZ q pa sp al dg co da mb dd ah wl lo n td wn) (some (.int (zI td))) (zLC q) := by
  refine Met.ofW (cc := cX2_day) (maxL := 1) (ret := (some .int)) (by decide) rfl ?_
  intro p0 e9 s9 m9 ag9 below meth c9 s₁ B hml hv
  obtain ⟨hav, hP, hK⟩ := hv
  have hx := B.exec
  have hb := B.bytes
  have hr := B.returns
  have hts := atoms_spec (ws := wsX2_day) B.pre
  have hown : s9.vm.findClass RX2 = some m9.cls := findClass_of_methodNamed B.named
  have hlocks := B.notSynchronized
  have hA : ∀ a ∈ zLC q, (fun a => a ∈ zLC q) a := fun _ h => h
  have hin2 : ∀ w ∈ u_ws RX2 TX2 9, w ∈ wsX2_day := by decide +kernel
  have hl := lv_entry ([.ref (q 0)]) (n := 1) (Nat.le_of_ble_eq_true rfl)
  have hE : entryFrame m9 ag9 1 = F0 m9 0 ((lg_sl ([.ref (q 0)]) ++ List.replicate (1 - (lg_sl ([.ref (q 0)])).length) Slot.unset).toArray) [] := by rw [hav]; exact lg_entry_eq m9 _ _
  obtain ⟨Q0, hQ0⟩ : ∃ Q0, Q0 = MQ below (zQ D (wC cI cZ q pa sp al dg co da mb dd ah wl lo n td wn) (some (.int (zI td))) (zLC q)) ag9 s9 0 0 (fun a => a ∈ zLC q) := ⟨_, rfl⟩
  show W p0 l e9 ({ frames := 0, cells := 0, slots := 0, locals := 0 }) s9 m9 ag9 below meth c9 s9.heap [] 0 0 (MQ below (zQ D (wC cI cZ q pa sp al dg co da mb dd ah wl lo n td wn) (some (.int (zI td))) (zLC q)) ag9 s9 0 0 (fun a => a ∈ zLC q)) _
  rw [hE, ← hQ0]
  have hS : va_S (fun a => a ∈ zLC q) s9.heap s9.heap [] := va_S.rf
  generalize hH0 : s9.heap = H at hP ⊢
  have hS : va_S (fun a => a ∈ zLC q) s9.heap H [] := by rw [hH0] at hS ⊢; exact hS
  generalize (lg_sl ([.ref (q 0)]) ++ List.replicate (1 - (lg_sl ([.ref (q 0)])).length) Slot.unset).toArray = ls at hl ⊢
  have hl : lv_has ls 1 [(0, .ref (q 0))] := hl
  refine lv_aload_n hx hb dX2_day_0 rfl (lv_at hl 0 rfl) ?_
  refine va_get (D := D) (ci := 2) (v := .int (zI td)) (C := RX2) (T := TX2) (N := 9) hx hb hts hin2 hown hK hP 0 rfl rfl 4 (by decide) (hts (.fieldLink RX2 105 "MourningRibbons" "today" "I") (by decide +kernel)) (fun _ h9 => h9) rfl dX2_day_1 ?_
  rw [hQ0]
  exact zret_i hx hb hr hlocks (rfl) hP hS dX2_day_4
set_option maxHeartbeats 4000000 in
set_option maxRecDepth 100000 in
theorem kX2_colourOfok (l : Launch) (D : va_G) (cI cZ : ClassId) (q : Nat → Nat) (hN : (zLC q).Nodup) (pa : Int → Int) (sp : Int → Int) (al : Int → Int) (dg : Int → Int) (co : Int → Int) (da : Int → Int) (mb : Int → Int) (dd : Int → Int) (ah : Int → Int) (wl : Int → Int) (lo : Int → Int) (n : Nat) (td : Int) (wn : Int) (hn : n ≤ 16) (hco : ∀ j : Int, 0 ≤ co j ∧ co j ≤ 5) (hda : ∀ j : Int, 0 ≤ da j ∧ da j ≤ 60) (hmb : ∀ j : Int, 0 ≤ mb j ∧ mb j ≤ 4) (hdd : ∀ j : Int, 0 ≤ dd j ∧ dd j ≤ 1000000) (htd : 0 ≤ td ∧ td ≤ 1000000) (p : Int) (h1 : 0 ≤ p ∧ p < (n : Int)) : zM l yX2_colourOf wsX2_colourOf ({ frames := 7, cells := 0, slots := 0, locals := 111 }) D [(cI, .int), (cZ, .boolean)] [.ref (q 0), .int (zI p)] (wC cI cZ q pa sp al dg co da mb dd ah wl lo n td wn) (wC cI cZ q pa sp al dg co da mb dd ah wl lo n td wn) (some (.int (zI (ca co da mb dd td n p 0)))) (zLC q) := by
  refine Met.ofW (cc := cX2_colourOf) (maxL := 2) (ret := (some .int)) (by decide) rfl ?_
  intro p0 e9 s9 m9 ag9 below meth c9 s₁ B hml hv
  obtain ⟨hav, hP, hK⟩ := hv
  have hx := B.exec
  have hb := B.bytes
  have hr := B.returns
  have hts := atoms_spec (ws := wsX2_colourOf) B.pre
  have hown : s9.vm.findClass RX2 = some m9.cls := findClass_of_methodNamed B.named
  have hlocks := B.notSynchronized
  have hA : ∀ a ∈ zLC q, (fun a => a ∈ zLC q) a := fun _ h => h
  have hl := lv_entry ([.ref (q 0), .int (zI p)]) (n := 2) (Nat.le_of_ble_eq_true rfl)
  have hE : entryFrame m9 ag9 2 = F0 m9 0 ((lg_sl ([.ref (q 0), .int (zI p)]) ++ List.replicate (2 - (lg_sl ([.ref (q 0), .int (zI p)])).length) Slot.unset).toArray) [] := by rw [hav]; exact lg_entry_eq m9 _ _
  obtain ⟨Q0, hQ0⟩ : ∃ Q0, Q0 = MQ below (zQ D (wC cI cZ q pa sp al dg co da mb dd ah wl lo n td wn) (some (.int (zI (ca co da mb dd td n p 0)))) (zLC q)) ag9 s9 0 0 (fun a => a ∈ zLC q) := ⟨_, rfl⟩
  show W p0 l e9 ({ frames := 7, cells := 0, slots := 0, locals := 111 }) s9 m9 ag9 below meth c9 s9.heap [] 0 0 (MQ below (zQ D (wC cI cZ q pa sp al dg co da mb dd ah wl lo n td wn) (some (.int (zI (ca co da mb dd td n p 0)))) (zLC q)) ag9 s9 0 0 (fun a => a ∈ zLC q)) _
  rw [hE, ← hQ0]
  have hS : va_S (fun a => a ∈ zLC q) s9.heap s9.heap [] := va_S.rf
  generalize hH0 : s9.heap = H at hP ⊢
  have hS : va_S (fun a => a ∈ zLC q) s9.heap H [] := by rw [hH0] at hS ⊢; exact hS
  generalize (lg_sl ([.ref (q 0), .int (zI p)]) ++ List.replicate (2 - (lg_sl ([.ref (q 0), .int (zI p)])).length) Slot.unset).toArray = ls at hl ⊢
  have hl : lv_has ls 2 [(0, .ref (q 0)), (1, .int (zI p))] := hl
  refine lv_aload_n hx hb dX2_colourOf_0 rfl (lv_at hl 0 rfl) ?_
  refine lv_iload_n hx hb dX2_colourOf_1 rfl (lv_at hl 1 rfl) ?_
  refine zcallV (ci := 2) (q0 := 0) (cq := (RX2, TX2, 9)) (As := [.int (zI p)]) (rest := []) ⟨hx, hb, hml, hown, hts⟩ hK (kX2_needPersonok l D cI cZ q hN pa sp al dg co da mb dd ah wl lo n td wn hn p (by omega)) (cwV 1 hts gX2_colourOf_X2_needPerson rfl rfl rfl (by decide +kernel) ⟨Nat.le_of_ble_eq_true rfl, Nat.le_of_ble_eq_true rfl⟩) hP hS hA rfl rfl rfl hl.1 rfl (Nat.le_of_ble_eq_true rfl) dX2_colourOf_2 ⟨Nat.zero_le _, Nat.zero_le _⟩ (fun H locs hP hS _ _ => ?_)
  refine W.eq (g2 := F0 m9 5 ls []) rfl ?_
  refine lv_aload_n hx hb dX2_colourOf_5 rfl (lv_at hl 0 rfl) ?_
  refine lv_iload_n hx hb dX2_colourOf_6 rfl (lv_at hl 1 rfl) ?_
  refine zr_iconst hx hb dX2_colourOf_7 ?_
  refine zcallV (ci := 2) (q0 := 0) (cq := (RX2, TX2, 9)) (As := [.int (zI p), .int (zI 0)]) (rest := []) ⟨hx, hb, hml, hown, hts⟩ hK (kX2_colourAfter l D cI cZ q hN pa sp al dg co da mb dd ah wl lo n td wn hn hco hda hmb hdd htd p 0 (by omega) (by omega)) (cwV 2 hts gX2_colourOf_X2_colourAfter rfl rfl rfl (by decide +kernel) ⟨Nat.le_of_ble_eq_true rfl, Nat.le_of_ble_eq_true rfl⟩) hP hS hA rfl rfl rfl hl.1 rfl (Nat.le_of_ble_eq_true rfl) dX2_colourOf_8 ⟨Nat.zero_le _, Nat.zero_le _⟩ (fun H locs hP hS _ _ => ?_)
  refine W.eq (g2 := F0 m9 11 ls [.int (zI (ca co da mb dd td n p 0))]) rfl ?_
  have f_1 := ca_bd hco da mb dd td n p 0
  rw [hQ0]
  exact zret_i hx hb hr hlocks (rfl) hP hS dX2_colourOf_11
set_option maxHeartbeats 4000000 in
set_option maxRecDepth 100000 in
theorem kX2_colourInok (l : Launch) (D : va_G) (cI cZ : ClassId) (q : Nat → Nat) (hN : (zLC q).Nodup) (pa : Int → Int) (sp : Int → Int) (al : Int → Int) (dg : Int → Int) (co : Int → Int) (da : Int → Int) (mb : Int → Int) (dd : Int → Int) (ah : Int → Int) (wl : Int → Int) (lo : Int → Int) (n : Nat) (td : Int) (wn : Int) (hn : n ≤ 16) (hco : ∀ j : Int, 0 ≤ co j ∧ co j ≤ 5) (hda : ∀ j : Int, 0 ≤ da j ∧ da j ≤ 60) (hmb : ∀ j : Int, 0 ≤ mb j ∧ mb j ≤ 4) (hdd : ∀ j : Int, 0 ≤ dd j ∧ dd j ≤ 1000000) (htd : 0 ≤ td ∧ td ≤ 1000000) (p : Int) (k : Int) (h1 : 0 ≤ p ∧ p < (n : Int)) (h2 : 0 ≤ k ∧ k ≤ 200) : zM l yX2_colourIn wsX2_colourIn ({ frames := 7, cells := 0, slots := 0, locals := 111 }) D [(cI, .int), (cZ, .boolean)] [.ref (q 0), .int (zI p), .int (zI k)] (wC cI cZ q pa sp al dg co da mb dd ah wl lo n td wn) (wC cI cZ q pa sp al dg co da mb dd ah wl lo n td wn) (some (.int (zI (ca co da mb dd td n p k)))) (zLC q) := by
  refine Met.ofW (cc := cX2_colourIn) (maxL := 3) (ret := (some .int)) (by decide) rfl ?_
  intro p0 e9 s9 m9 ag9 below meth c9 s₁ B hml hv
  obtain ⟨hav, hP, hK⟩ := hv
  have hx := B.exec
  have hb := B.bytes
  have hr := B.returns
  have hts := atoms_spec (ws := wsX2_colourIn) B.pre
  have hown : s9.vm.findClass RX2 = some m9.cls := findClass_of_methodNamed B.named
  have hlocks := B.notSynchronized
  have hA : ∀ a ∈ zLC q, (fun a => a ∈ zLC q) a := fun _ h => h
  have hl := lv_entry ([.ref (q 0), .int (zI p), .int (zI k)]) (n := 3) (Nat.le_of_ble_eq_true rfl)
  have hE : entryFrame m9 ag9 3 = F0 m9 0 ((lg_sl ([.ref (q 0), .int (zI p), .int (zI k)]) ++ List.replicate (3 - (lg_sl ([.ref (q 0), .int (zI p), .int (zI k)])).length) Slot.unset).toArray) [] := by rw [hav]; exact lg_entry_eq m9 _ _
  obtain ⟨Q0, hQ0⟩ : ∃ Q0, Q0 = MQ below (zQ D (wC cI cZ q pa sp al dg co da mb dd ah wl lo n td wn) (some (.int (zI (ca co da mb dd td n p k)))) (zLC q)) ag9 s9 0 0 (fun a => a ∈ zLC q) := ⟨_, rfl⟩
  show W p0 l e9 ({ frames := 7, cells := 0, slots := 0, locals := 111 }) s9 m9 ag9 below meth c9 s9.heap [] 0 0 (MQ below (zQ D (wC cI cZ q pa sp al dg co da mb dd ah wl lo n td wn) (some (.int (zI (ca co da mb dd td n p k)))) (zLC q)) ag9 s9 0 0 (fun a => a ∈ zLC q)) _
  rw [hE, ← hQ0]
  have hS : va_S (fun a => a ∈ zLC q) s9.heap s9.heap [] := va_S.rf
  generalize hH0 : s9.heap = H at hP ⊢
  have hS : va_S (fun a => a ∈ zLC q) s9.heap H [] := by rw [hH0] at hS ⊢; exact hS
  generalize (lg_sl ([.ref (q 0), .int (zI p), .int (zI k)]) ++ List.replicate (3 - (lg_sl ([.ref (q 0), .int (zI p), .int (zI k)])).length) Slot.unset).toArray = ls at hl ⊢
  have hl : lv_has ls 3 [(0, .ref (q 0)), (1, .int (zI p)), (2, .int (zI k))] := hl
  refine lv_aload_n hx hb dX2_colourIn_0 rfl (lv_at hl 0 rfl) ?_
  refine lv_iload_n hx hb dX2_colourIn_1 rfl (lv_at hl 1 rfl) ?_
  refine zcallV (ci := 2) (q0 := 0) (cq := (RX2, TX2, 9)) (As := [.int (zI p)]) (rest := []) ⟨hx, hb, hml, hown, hts⟩ hK (kX2_needPersonok l D cI cZ q hN pa sp al dg co da mb dd ah wl lo n td wn hn p (by omega)) (cwV 1 hts gX2_colourIn_X2_needPerson rfl rfl rfl (by decide +kernel) ⟨Nat.le_of_ble_eq_true rfl, Nat.le_of_ble_eq_true rfl⟩) hP hS hA rfl rfl rfl hl.1 rfl (Nat.le_of_ble_eq_true rfl) dX2_colourIn_2 ⟨Nat.zero_le _, Nat.zero_le _⟩ (fun H locs hP hS _ _ => ?_)
  refine W.eq (g2 := F0 m9 5 ls []) rfl ?_
  refine lv_iload_n hx hb dX2_colourIn_5 rfl (lv_at hl 2 rfl) ?_
  refine zr_if_lt (tgt := 16) hx hb dX2_colourIn_6 (by decide) ⟨by omega, by omega⟩ (fun c_1 => ?_) (fun c_1 => ?_)
  · have c_1 := c_1
    exfalso; omega
  · have c_1 := c_1
    refine lv_iload_n hx hb dX2_colourIn_9 rfl (lv_at hl 2 rfl) ?_
    refine zr_sipush hx hb dX2_colourIn_10 (by decide) ?_
    refine zr_icmp_le (tgt := 26) hx hb dX2_colourIn_13 (by decide) ⟨by omega, by omega⟩ ⟨by decide, by decide⟩ (fun c_2 => ?_) (fun c_2 => ?_)
    · have c_2 := c_2
      refine lv_aload_n hx hb dX2_colourIn_26 rfl (lv_at hl 0 rfl) ?_
      refine lv_iload_n hx hb dX2_colourIn_27 rfl (lv_at hl 1 rfl) ?_
      refine lv_iload_n hx hb dX2_colourIn_28 rfl (lv_at hl 2 rfl) ?_
      refine zcallV (ci := 2) (q0 := 0) (cq := (RX2, TX2, 9)) (As := [.int (zI p), .int (zI k)]) (rest := []) ⟨hx, hb, hml, hown, hts⟩ hK (kX2_colourAfter l D cI cZ q hN pa sp al dg co da mb dd ah wl lo n td wn hn hco hda hmb hdd htd p k (by omega) (by omega)) (cwV 2 hts gX2_colourIn_X2_colourAfter rfl rfl rfl (by decide +kernel) ⟨Nat.le_of_ble_eq_true rfl, Nat.le_of_ble_eq_true rfl⟩) hP hS hA rfl rfl rfl hl.1 rfl (Nat.le_of_ble_eq_true rfl) dX2_colourIn_29 ⟨Nat.zero_le _, Nat.zero_le _⟩ (fun H locs hP hS _ _ => ?_)
      refine W.eq (g2 := F0 m9 32 ls [.int (zI (ca co da mb dd td n p k))]) rfl ?_
      have f_3 := ca_bd hco da mb dd td n p k
      rw [hQ0]
      exact zret_i hx hb hr hlocks (rfl) hP hS dX2_colourIn_32
    · have c_2 := c_2
      exfalso; omega
set_option maxHeartbeats 4000000 in
set_option maxRecDepth 100000 in
theorem kX2_mourningsOfok (l : Launch) (D : va_G) (cI cZ : ClassId) (q : Nat → Nat) (hN : (zLC q).Nodup) (pa : Int → Int) (sp : Int → Int) (al : Int → Int) (dg : Int → Int) (co : Int → Int) (da : Int → Int) (mb : Int → Int) (dd : Int → Int) (ah : Int → Int) (wl : Int → Int) (lo : Int → Int) (n : Nat) (td : Int) (wn : Int) (hn : n ≤ 16) (hda : ∀ j : Int, 0 ≤ da j ∧ da j ≤ 60) (hmb : ∀ j : Int, 0 ≤ mb j ∧ mb j ≤ 4) (hdd : ∀ j : Int, 0 ≤ dd j ∧ dd j ≤ 1000000) (htd : 0 ≤ td ∧ td ≤ 1000000) (p : Int) (h1 : 0 ≤ p ∧ p < (n : Int)) : zM l yX2_mourningsOf wsX2_mourningsOf ({ frames := 7, cells := 0, slots := 0, locals := 111 }) D [(cI, .int), (cZ, .boolean)] [.ref (q 0), .int (zI p)] (wC cI cZ q pa sp al dg co da mb dd ah wl lo n td wn) (wC cI cZ q pa sp al dg co da mb dd ah wl lo n td wn) (some (.int (zI (smF (gtF (lf da mb dd td p)) n)))) (zLC q) := by
  refine Met.ofW (cc := cX2_mourningsOf) (maxL := 2) (ret := (some .int)) (by decide) rfl ?_
  intro p0 e9 s9 m9 ag9 below meth c9 s₁ B hml hv
  obtain ⟨hav, hP, hK⟩ := hv
  have hx := B.exec
  have hb := B.bytes
  have hr := B.returns
  have hts := atoms_spec (ws := wsX2_mourningsOf) B.pre
  have hown : s9.vm.findClass RX2 = some m9.cls := findClass_of_methodNamed B.named
  have hlocks := B.notSynchronized
  have hA : ∀ a ∈ zLC q, (fun a => a ∈ zLC q) a := fun _ h => h
  have hl := lv_entry ([.ref (q 0), .int (zI p)]) (n := 2) (Nat.le_of_ble_eq_true rfl)
  have hE : entryFrame m9 ag9 2 = F0 m9 0 ((lg_sl ([.ref (q 0), .int (zI p)]) ++ List.replicate (2 - (lg_sl ([.ref (q 0), .int (zI p)])).length) Slot.unset).toArray) [] := by rw [hav]; exact lg_entry_eq m9 _ _
  obtain ⟨Q0, hQ0⟩ : ∃ Q0, Q0 = MQ below (zQ D (wC cI cZ q pa sp al dg co da mb dd ah wl lo n td wn) (some (.int (zI (smF (gtF (lf da mb dd td p)) n)))) (zLC q)) ag9 s9 0 0 (fun a => a ∈ zLC q) := ⟨_, rfl⟩
  show W p0 l e9 ({ frames := 7, cells := 0, slots := 0, locals := 111 }) s9 m9 ag9 below meth c9 s9.heap [] 0 0 (MQ below (zQ D (wC cI cZ q pa sp al dg co da mb dd ah wl lo n td wn) (some (.int (zI (smF (gtF (lf da mb dd td p)) n)))) (zLC q)) ag9 s9 0 0 (fun a => a ∈ zLC q)) _
  rw [hE, ← hQ0]
  have hS : va_S (fun a => a ∈ zLC q) s9.heap s9.heap [] := va_S.rf
  generalize hH0 : s9.heap = H at hP ⊢
  have hS : va_S (fun a => a ∈ zLC q) s9.heap H [] := by rw [hH0] at hS ⊢; exact hS
  generalize (lg_sl ([.ref (q 0), .int (zI p)]) ++ List.replicate (2 - (lg_sl ([.ref (q 0), .int (zI p)])).length) Slot.unset).toArray = ls at hl ⊢
  have hl : lv_has ls 2 [(0, .ref (q 0)), (1, .int (zI p))] := hl
  refine lv_aload_n hx hb dX2_mourningsOf_0 rfl (lv_at hl 0 rfl) ?_
  refine lv_iload_n hx hb dX2_mourningsOf_1 rfl (lv_at hl 1 rfl) ?_
  refine zcallV (ci := 2) (q0 := 0) (cq := (RX2, TX2, 9)) (As := [.int (zI p)]) (rest := []) ⟨hx, hb, hml, hown, hts⟩ hK (kX2_needPersonok l D cI cZ q hN pa sp al dg co da mb dd ah wl lo n td wn hn p (by omega)) (cwV 1 hts gX2_mourningsOf_X2_needPerson rfl rfl rfl (by decide +kernel) ⟨Nat.le_of_ble_eq_true rfl, Nat.le_of_ble_eq_true rfl⟩) hP hS hA rfl rfl rfl hl.1 rfl (Nat.le_of_ble_eq_true rfl) dX2_mourningsOf_2 ⟨Nat.zero_le _, Nat.zero_le _⟩ (fun H locs hP hS _ _ => ?_)
  refine W.eq (g2 := F0 m9 5 ls []) rfl ?_
  refine lv_aload_n hx hb dX2_mourningsOf_5 rfl (lv_at hl 0 rfl) ?_
  refine lv_iload_n hx hb dX2_mourningsOf_6 rfl (lv_at hl 1 rfl) ?_
  refine zcallV (ci := 2) (q0 := 0) (cq := (RX2, TX2, 9)) (As := [.int (zI p)]) (rest := []) ⟨hx, hb, hml, hown, hts⟩ hK (kX2_countMournings l D cI cZ q hN pa sp al dg co da mb dd ah wl lo n td wn hn hda hmb hdd htd p (by omega)) (cwV 1 hts gX2_mourningsOf_X2_countMournings rfl rfl rfl (by decide +kernel) ⟨Nat.le_of_ble_eq_true rfl, Nat.le_of_ble_eq_true rfl⟩) hP hS hA rfl rfl rfl hl.1 rfl (Nat.le_of_ble_eq_true rfl) dX2_mourningsOf_7 ⟨Nat.zero_le _, Nat.zero_le _⟩ (fun H locs hP hS _ _ => ?_)
  refine W.eq (g2 := F0 m9 10 ls [.int (zI (smF (gtF (lf da mb dd td p)) n))]) rfl ?_
  rw [hQ0]
  exact zret_i hx hb hr hlocks (rfl) hP hS dX2_mourningsOf_10
set_option maxHeartbeats 4000000 in
set_option maxRecDepth 100000 in
theorem kX2_daysLeftForok (l : Launch) (D : va_G) (cI cZ : ClassId) (q : Nat → Nat) (hN : (zLC q).Nodup) (pa : Int → Int) (sp : Int → Int) (al : Int → Int) (dg : Int → Int) (co : Int → Int) (da : Int → Int) (mb : Int → Int) (dd : Int → Int) (ah : Int → Int) (wl : Int → Int) (lo : Int → Int) (n : Nat) (td : Int) (wn : Int) (hn : n ≤ 16) (hda : ∀ j : Int, 0 ≤ da j ∧ da j ≤ 60) (hmb : ∀ j : Int, 0 ≤ mb j ∧ mb j ≤ 4) (hdd : ∀ j : Int, 0 ≤ dd j ∧ dd j ≤ 1000000) (htd : 0 ≤ td ∧ td ≤ 1000000) (p : Int) (d : Int) (h1 : 0 ≤ p ∧ p < (n : Int)) (h2 : 0 ≤ d ∧ d < (n : Int)) : zM l yX2_daysLeftFor wsX2_daysLeftFor ({ frames := 7, cells := 0, slots := 0, locals := 111 }) D [(cI, .int), (cZ, .boolean)] [.ref (q 0), .int (zI p), .int (zI d)] (wC cI cZ q pa sp al dg co da mb dd ah wl lo n td wn) (wC cI cZ q pa sp al dg co da mb dd ah wl lo n td wn) (some (.int (zI (lf da mb dd td p d)))) (zLC q) := by
  refine Met.ofW (cc := cX2_daysLeftFor) (maxL := 3) (ret := (some .int)) (by decide) rfl ?_
  intro p0 e9 s9 m9 ag9 below meth c9 s₁ B hml hv
  obtain ⟨hav, hP, hK⟩ := hv
  have hx := B.exec
  have hb := B.bytes
  have hr := B.returns
  have hts := atoms_spec (ws := wsX2_daysLeftFor) B.pre
  have hown : s9.vm.findClass RX2 = some m9.cls := findClass_of_methodNamed B.named
  have hlocks := B.notSynchronized
  have hA : ∀ a ∈ zLC q, (fun a => a ∈ zLC q) a := fun _ h => h
  have hl := lv_entry ([.ref (q 0), .int (zI p), .int (zI d)]) (n := 3) (Nat.le_of_ble_eq_true rfl)
  have hE : entryFrame m9 ag9 3 = F0 m9 0 ((lg_sl ([.ref (q 0), .int (zI p), .int (zI d)]) ++ List.replicate (3 - (lg_sl ([.ref (q 0), .int (zI p), .int (zI d)])).length) Slot.unset).toArray) [] := by rw [hav]; exact lg_entry_eq m9 _ _
  obtain ⟨Q0, hQ0⟩ : ∃ Q0, Q0 = MQ below (zQ D (wC cI cZ q pa sp al dg co da mb dd ah wl lo n td wn) (some (.int (zI (lf da mb dd td p d)))) (zLC q)) ag9 s9 0 0 (fun a => a ∈ zLC q) := ⟨_, rfl⟩
  show W p0 l e9 ({ frames := 7, cells := 0, slots := 0, locals := 111 }) s9 m9 ag9 below meth c9 s9.heap [] 0 0 (MQ below (zQ D (wC cI cZ q pa sp al dg co da mb dd ah wl lo n td wn) (some (.int (zI (lf da mb dd td p d)))) (zLC q)) ag9 s9 0 0 (fun a => a ∈ zLC q)) _
  rw [hE, ← hQ0]
  have hS : va_S (fun a => a ∈ zLC q) s9.heap s9.heap [] := va_S.rf
  generalize hH0 : s9.heap = H at hP ⊢
  have hS : va_S (fun a => a ∈ zLC q) s9.heap H [] := by rw [hH0] at hS ⊢; exact hS
  generalize (lg_sl ([.ref (q 0), .int (zI p), .int (zI d)]) ++ List.replicate (3 - (lg_sl ([.ref (q 0), .int (zI p), .int (zI d)])).length) Slot.unset).toArray = ls at hl ⊢
  have hl : lv_has ls 3 [(0, .ref (q 0)), (1, .int (zI p)), (2, .int (zI d))] := hl
  refine lv_aload_n hx hb dX2_daysLeftFor_0 rfl (lv_at hl 0 rfl) ?_
  refine lv_iload_n hx hb dX2_daysLeftFor_1 rfl (lv_at hl 1 rfl) ?_
  refine zcallV (ci := 2) (q0 := 0) (cq := (RX2, TX2, 9)) (As := [.int (zI p)]) (rest := []) ⟨hx, hb, hml, hown, hts⟩ hK (kX2_needPersonok l D cI cZ q hN pa sp al dg co da mb dd ah wl lo n td wn hn p (by omega)) (cwV 1 hts gX2_daysLeftFor_X2_needPerson rfl rfl rfl (by decide +kernel) ⟨Nat.le_of_ble_eq_true rfl, Nat.le_of_ble_eq_true rfl⟩) hP hS hA rfl rfl rfl hl.1 rfl (Nat.le_of_ble_eq_true rfl) dX2_daysLeftFor_2 ⟨Nat.zero_le _, Nat.zero_le _⟩ (fun H locs hP hS _ _ => ?_)
  refine W.eq (g2 := F0 m9 5 ls []) rfl ?_
  refine lv_aload_n hx hb dX2_daysLeftFor_5 rfl (lv_at hl 0 rfl) ?_
  refine lv_iload_n hx hb dX2_daysLeftFor_6 rfl (lv_at hl 2 rfl) ?_
  refine zcallV (ci := 2) (q0 := 0) (cq := (RX2, TX2, 9)) (As := [.int (zI d)]) (rest := []) ⟨hx, hb, hml, hown, hts⟩ hK (kX2_needPersonok l D cI cZ q hN pa sp al dg co da mb dd ah wl lo n td wn hn d (by omega)) (cwV 1 hts gX2_daysLeftFor_X2_needPerson rfl rfl rfl (by decide +kernel) ⟨Nat.le_of_ble_eq_true rfl, Nat.le_of_ble_eq_true rfl⟩) hP hS hA rfl rfl rfl hl.1 rfl (Nat.le_of_ble_eq_true rfl) dX2_daysLeftFor_7 ⟨Nat.zero_le _, Nat.zero_le _⟩ (fun H locs hP hS _ _ => ?_)
  refine W.eq (g2 := F0 m9 10 ls []) rfl ?_
  refine lv_aload_n hx hb dX2_daysLeftFor_10 rfl (lv_at hl 0 rfl) ?_
  refine lv_iload_n hx hb dX2_daysLeftFor_11 rfl (lv_at hl 1 rfl) ?_
  refine lv_iload_n hx hb dX2_daysLeftFor_12 rfl (lv_at hl 2 rfl) ?_
  refine zcallV (ci := 2) (q0 := 0) (cq := (RX2, TX2, 9)) (As := [.int (zI p), .int (zI d)]) (rest := []) ⟨hx, hb, hml, hown, hts⟩ hK (kX2_leftFor l D cI cZ q hN pa sp al dg co da mb dd ah wl lo n td wn hda hmb hdd htd p d (by omega) (by omega)) (cwV 2 hts gX2_daysLeftFor_X2_leftFor rfl rfl rfl (by decide +kernel) ⟨Nat.le_of_ble_eq_true rfl, Nat.le_of_ble_eq_true rfl⟩) hP hS hA rfl rfl rfl hl.1 rfl (Nat.le_of_ble_eq_true rfl) dX2_daysLeftFor_13 ⟨Nat.zero_le _, Nat.zero_le _⟩ (fun H locs hP hS _ _ => ?_)
  refine W.eq (g2 := F0 m9 16 ls [.int (zI (lf da mb dd td p d))]) rfl ?_
  have f_1 := lf_180 hda hdd htd mb p d
  rw [hQ0]
  exact zret_i hx hb hr hlocks (rfl) hP hS dX2_daysLeftFor_16
set_option maxHeartbeats 4000000 in
set_option maxRecDepth 100000 in
theorem kX2_daysLeftok (l : Launch) (D : va_G) (cI cZ : ClassId) (q : Nat → Nat) (hN : (zLC q).Nodup) (pa : Int → Int) (sp : Int → Int) (al : Int → Int) (dg : Int → Int) (co : Int → Int) (da : Int → Int) (mb : Int → Int) (dd : Int → Int) (ah : Int → Int) (wl : Int → Int) (lo : Int → Int) (n : Nat) (td : Int) (wn : Int) (hn : n ≤ 16) (hda : ∀ j : Int, 0 ≤ da j ∧ da j ≤ 60) (hmb : ∀ j : Int, 0 ≤ mb j ∧ mb j ≤ 4) (hdd : ∀ j : Int, 0 ≤ dd j ∧ dd j ≤ 1000000) (htd : 0 ≤ td ∧ td ≤ 1000000) (p : Int) (h1 : 0 ≤ p ∧ p < (n : Int)) : zM l yX2_daysLeft wsX2_daysLeft ({ frames := 7, cells := 0, slots := 0, locals := 111 }) D [(cI, .int), (cZ, .boolean)] [.ref (q 0), .int (zI p)] (wC cI cZ q pa sp al dg co da mb dd ah wl lo n td wn) (wC cI cZ q pa sp al dg co da mb dd ah wl lo n td wn) (some (.int (zI (mxF (lf da mb dd td p) n)))) (zLC q) := by
  refine Met.ofW (cc := cX2_daysLeft) (maxL := 2) (ret := (some .int)) (by decide) rfl ?_
  intro p0 e9 s9 m9 ag9 below meth c9 s₁ B hml hv
  obtain ⟨hav, hP, hK⟩ := hv
  have hx := B.exec
  have hb := B.bytes
  have hr := B.returns
  have hts := atoms_spec (ws := wsX2_daysLeft) B.pre
  have hown : s9.vm.findClass RX2 = some m9.cls := findClass_of_methodNamed B.named
  have hlocks := B.notSynchronized
  have hA : ∀ a ∈ zLC q, (fun a => a ∈ zLC q) a := fun _ h => h
  have hl := lv_entry ([.ref (q 0), .int (zI p)]) (n := 2) (Nat.le_of_ble_eq_true rfl)
  have hE : entryFrame m9 ag9 2 = F0 m9 0 ((lg_sl ([.ref (q 0), .int (zI p)]) ++ List.replicate (2 - (lg_sl ([.ref (q 0), .int (zI p)])).length) Slot.unset).toArray) [] := by rw [hav]; exact lg_entry_eq m9 _ _
  obtain ⟨Q0, hQ0⟩ : ∃ Q0, Q0 = MQ below (zQ D (wC cI cZ q pa sp al dg co da mb dd ah wl lo n td wn) (some (.int (zI (mxF (lf da mb dd td p) n)))) (zLC q)) ag9 s9 0 0 (fun a => a ∈ zLC q) := ⟨_, rfl⟩
  show W p0 l e9 ({ frames := 7, cells := 0, slots := 0, locals := 111 }) s9 m9 ag9 below meth c9 s9.heap [] 0 0 (MQ below (zQ D (wC cI cZ q pa sp al dg co da mb dd ah wl lo n td wn) (some (.int (zI (mxF (lf da mb dd td p) n)))) (zLC q)) ag9 s9 0 0 (fun a => a ∈ zLC q)) _
  rw [hE, ← hQ0]
  have hS : va_S (fun a => a ∈ zLC q) s9.heap s9.heap [] := va_S.rf
  generalize hH0 : s9.heap = H at hP ⊢
  have hS : va_S (fun a => a ∈ zLC q) s9.heap H [] := by rw [hH0] at hS ⊢; exact hS
  generalize (lg_sl ([.ref (q 0), .int (zI p)]) ++ List.replicate (2 - (lg_sl ([.ref (q 0), .int (zI p)])).length) Slot.unset).toArray = ls at hl ⊢
  have hl : lv_has ls 2 [(0, .ref (q 0)), (1, .int (zI p))] := hl
  refine lv_aload_n hx hb dX2_daysLeft_0 rfl (lv_at hl 0 rfl) ?_
  refine lv_iload_n hx hb dX2_daysLeft_1 rfl (lv_at hl 1 rfl) ?_
  refine zcallV (ci := 2) (q0 := 0) (cq := (RX2, TX2, 9)) (As := [.int (zI p)]) (rest := []) ⟨hx, hb, hml, hown, hts⟩ hK (kX2_needPersonok l D cI cZ q hN pa sp al dg co da mb dd ah wl lo n td wn hn p (by omega)) (cwV 1 hts gX2_daysLeft_X2_needPerson rfl rfl rfl (by decide +kernel) ⟨Nat.le_of_ble_eq_true rfl, Nat.le_of_ble_eq_true rfl⟩) hP hS hA rfl rfl rfl hl.1 rfl (Nat.le_of_ble_eq_true rfl) dX2_daysLeft_2 ⟨Nat.zero_le _, Nat.zero_le _⟩ (fun H locs hP hS _ _ => ?_)
  refine W.eq (g2 := F0 m9 5 ls []) rfl ?_
  refine lv_aload_n hx hb dX2_daysLeft_5 rfl (lv_at hl 0 rfl) ?_
  refine lv_iload_n hx hb dX2_daysLeft_6 rfl (lv_at hl 1 rfl) ?_
  refine zcallV (ci := 2) (q0 := 0) (cq := (RX2, TX2, 9)) (As := [.int (zI p)]) (rest := []) ⟨hx, hb, hml, hown, hts⟩ hK (kX2_longestLeft l D cI cZ q hN pa sp al dg co da mb dd ah wl lo n td wn hn hda hmb hdd htd p (by omega)) (cwV 1 hts gX2_daysLeft_X2_longestLeft rfl rfl rfl (by decide +kernel) ⟨Nat.le_of_ble_eq_true rfl, Nat.le_of_ble_eq_true rfl⟩) hP hS hA rfl rfl rfl hl.1 rfl (Nat.le_of_ble_eq_true rfl) dX2_daysLeft_7 ⟨Nat.zero_le _, Nat.zero_le _⟩ (fun H locs hP hS _ _ => ?_)
  refine W.eq (g2 := F0 m9 10 ls [.int (zI (mxF (lf da mb dd td p) n))]) rfl ?_
  have f_1 := mxF_bd (f := lf da mb dd td p) (k := n) (B := 1000180) (by decide) (fun j => (lf_180 hda hdd htd mb p j).2)
  rw [hQ0]
  exact zret_i hx hb hr hlocks (rfl) hP hS dX2_daysLeft_10
set_option maxHeartbeats 4000000 in
set_option maxRecDepth 100000 in
theorem kX2_daysUntilLighterok (l : Launch) (D : va_G) (cI cZ : ClassId) (q : Nat → Nat) (hN : (zLC q).Nodup) (pa : Int → Int) (sp : Int → Int) (al : Int → Int) (dg : Int → Int) (co : Int → Int) (da : Int → Int) (mb : Int → Int) (dd : Int → Int) (ah : Int → Int) (wl : Int → Int) (lo : Int → Int) (n : Nat) (td : Int) (wn : Int) (hn : n ≤ 16) (hco : ∀ j : Int, 0 ≤ co j ∧ co j ≤ 5) (hda : ∀ j : Int, 0 ≤ da j ∧ da j ≤ 60) (hmb : ∀ j : Int, 0 ≤ mb j ∧ mb j ≤ 4) (hdd : ∀ j : Int, 0 ≤ dd j ∧ dd j ≤ 1000000) (htd : 0 ≤ td ∧ td ≤ 1000000) (p : Int) (h1 : 0 ≤ p ∧ p < (n : Int)) : zM l yX2_daysUntilLighter wsX2_daysUntilLighter ({ frames := 7, cells := 0, slots := 0, locals := 111 }) D [(cI, .int), (cZ, .boolean)] [.ref (q 0), .int (zI p)] (wC cI cZ q pa sp al dg co da mb dd ah wl lo n td wn) (wC cI cZ q pa sp al dg co da mb dd (ca co da mb dd td n p) wl lo n td wn) (some (.int (zI (flD (ca co da mb dd td n p))))) (zLC q) := by
  refine Met.ofW (cc := cX2_daysUntilLighter) (maxL := 2) (ret := (some .int)) (by decide) rfl ?_
  intro p0 e9 s9 m9 ag9 below meth c9 s₁ B hml hv
  obtain ⟨hav, hP, hK⟩ := hv
  have hx := B.exec
  have hb := B.bytes
  have hr := B.returns
  have hts := atoms_spec (ws := wsX2_daysUntilLighter) B.pre
  have hown : s9.vm.findClass RX2 = some m9.cls := findClass_of_methodNamed B.named
  have hlocks := B.notSynchronized
  have hA : ∀ a ∈ zLC q, (fun a => a ∈ zLC q) a := fun _ h => h
  have hl := lv_entry ([.ref (q 0), .int (zI p)]) (n := 2) (Nat.le_of_ble_eq_true rfl)
  have hE : entryFrame m9 ag9 2 = F0 m9 0 ((lg_sl ([.ref (q 0), .int (zI p)]) ++ List.replicate (2 - (lg_sl ([.ref (q 0), .int (zI p)])).length) Slot.unset).toArray) [] := by rw [hav]; exact lg_entry_eq m9 _ _
  obtain ⟨Q0, hQ0⟩ : ∃ Q0, Q0 = MQ below (zQ D (wC cI cZ q pa sp al dg co da mb dd (ca co da mb dd td n p) wl lo n td wn) (some (.int (zI (flD (ca co da mb dd td n p))))) (zLC q)) ag9 s9 0 0 (fun a => a ∈ zLC q) := ⟨_, rfl⟩
  show W p0 l e9 ({ frames := 7, cells := 0, slots := 0, locals := 111 }) s9 m9 ag9 below meth c9 s9.heap [] 0 0 (MQ below (zQ D (wC cI cZ q pa sp al dg co da mb dd (ca co da mb dd td n p) wl lo n td wn) (some (.int (zI (flD (ca co da mb dd td n p))))) (zLC q)) ag9 s9 0 0 (fun a => a ∈ zLC q)) _
  rw [hE, ← hQ0]
  have hS : va_S (fun a => a ∈ zLC q) s9.heap s9.heap [] := va_S.rf
  generalize hH0 : s9.heap = H at hP ⊢
  have hS : va_S (fun a => a ∈ zLC q) s9.heap H [] := by rw [hH0] at hS ⊢; exact hS
  generalize (lg_sl ([.ref (q 0), .int (zI p)]) ++ List.replicate (2 - (lg_sl ([.ref (q 0), .int (zI p)])).length) Slot.unset).toArray = ls at hl ⊢
  have hl : lv_has ls 2 [(0, .ref (q 0)), (1, .int (zI p))] := hl
  refine lv_aload_n hx hb dX2_daysUntilLighter_0 rfl (lv_at hl 0 rfl) ?_
  refine lv_iload_n hx hb dX2_daysUntilLighter_1 rfl (lv_at hl 1 rfl) ?_
  refine zcallV (ci := 2) (q0 := 0) (cq := (RX2, TX2, 9)) (As := [.int (zI p)]) (rest := []) ⟨hx, hb, hml, hown, hts⟩ hK (kX2_needPersonok l D cI cZ q hN pa sp al dg co da mb dd ah wl lo n td wn hn p (by omega)) (cwV 1 hts gX2_daysUntilLighter_X2_needPerson rfl rfl rfl (by decide +kernel) ⟨Nat.le_of_ble_eq_true rfl, Nat.le_of_ble_eq_true rfl⟩) hP hS hA rfl rfl rfl hl.1 rfl (Nat.le_of_ble_eq_true rfl) dX2_daysUntilLighter_2 ⟨Nat.zero_le _, Nat.zero_le _⟩ (fun H locs hP hS _ _ => ?_)
  refine W.eq (g2 := F0 m9 5 ls []) rfl ?_
  refine lv_aload_n hx hb dX2_daysUntilLighter_5 rfl (lv_at hl 0 rfl) ?_
  refine lv_iload_n hx hb dX2_daysUntilLighter_6 rfl (lv_at hl 1 rfl) ?_
  refine zcallV (ci := 2) (q0 := 0) (cq := (RX2, TX2, 9)) (As := [.int (zI p)]) (rest := []) ⟨hx, hb, hml, hown, hts⟩ hK (kX2_paintAhead l D cI cZ q hN pa sp al dg co da mb dd ah wl lo n td wn hn hco hda hmb hdd htd p (by omega)) (cwV 1 hts gX2_daysUntilLighter_X2_paintAhead rfl rfl rfl (by decide +kernel) ⟨Nat.le_of_ble_eq_true rfl, Nat.le_of_ble_eq_true rfl⟩) hP hS hA rfl rfl rfl hl.1 rfl (Nat.le_of_ble_eq_true rfl) dX2_daysUntilLighter_7 ⟨Nat.zero_le _, Nat.zero_le _⟩ (fun H locs hP hS _ _ => ?_)
  have g_1 : ∀ j : Int, 0 ≤ (ca co da mb dd td n p) j ∧ (ca co da mb dd td n p) j ≤ 5 := fun j => ca_bd hco da mb dd td n p j
  refine W.eq (g2 := F0 m9 10 ls []) rfl ?_
  refine lv_aload_n hx hb dX2_daysUntilLighter_10 rfl (lv_at hl 0 rfl) ?_
  refine zcallV (ci := 2) (q0 := 0) (cq := (RX2, TX2, 9)) (As := []) (rest := []) ⟨hx, hb, hml, hown, hts⟩ hK (kX2_firstLighterDay l D cI cZ q hN pa sp al dg co da mb dd (ca co da mb dd td n p) wl lo n td wn g_1) (cwV 0 hts gX2_daysUntilLighter_X2_firstLighterDay rfl rfl rfl (by decide +kernel) ⟨Nat.le_of_ble_eq_true rfl, Nat.le_of_ble_eq_true rfl⟩) hP hS hA rfl rfl rfl hl.1 rfl (Nat.le_of_ble_eq_true rfl) dX2_daysUntilLighter_11 ⟨Nat.zero_le _, Nat.zero_le _⟩ (fun H locs hP hS _ _ => ?_)
  refine W.eq (g2 := F0 m9 14 ls [.int (zI (flD (ca co da mb dd td n p)))]) rfl ?_
  rw [hQ0]
  exact zret_i hx hb hr hlocks (rfl) hP hS dX2_daysUntilLighter_14
set_option maxHeartbeats 4000000 in
set_option maxRecDepth 100000 in
theorem kX2_daysInok (l : Launch) (D : va_G) (cI cZ : ClassId) (q : Nat → Nat) (hN : (zLC q).Nodup) (pa : Int → Int) (sp : Int → Int) (al : Int → Int) (dg : Int → Int) (co : Int → Int) (da : Int → Int) (mb : Int → Int) (dd : Int → Int) (ah : Int → Int) (wl : Int → Int) (lo : Int → Int) (n : Nat) (td : Int) (wn : Int) (hn : n ≤ 16) (hco : ∀ j : Int, 0 ≤ co j ∧ co j ≤ 5) (hda : ∀ j : Int, 0 ≤ da j ∧ da j ≤ 60) (hmb : ∀ j : Int, 0 ≤ mb j ∧ mb j ≤ 4) (hdd : ∀ j : Int, 0 ≤ dd j ∧ dd j ≤ 1000000) (htd : 0 ≤ td ∧ td ≤ 1000000) (p : Int) (c : Int) (h1 : 0 ≤ p ∧ p < (n : Int)) (h2 : 1 ≤ c ∧ c ≤ 5) : zM l yX2_daysIn wsX2_daysIn ({ frames := 7, cells := 0, slots := 0, locals := 111 }) D [(cI, .int), (cZ, .boolean)] [.ref (q 0), .int (zI p), .int (zI c)] (wC cI cZ q pa sp al dg co da mb dd ah wl lo n td wn) (wC cI cZ q pa sp al dg co da mb dd (ca co da mb dd td n p) wl lo n td wn) (some (.int (zI (smF (eqF (ca co da mb dd td n p) c) 180)))) (zLC q) := by
  refine Met.ofW (cc := cX2_daysIn) (maxL := 3) (ret := (some .int)) (by decide) rfl ?_
  intro p0 e9 s9 m9 ag9 below meth c9 s₁ B hml hv
  obtain ⟨hav, hP, hK⟩ := hv
  have hx := B.exec
  have hb := B.bytes
  have hr := B.returns
  have hts := atoms_spec (ws := wsX2_daysIn) B.pre
  have hown : s9.vm.findClass RX2 = some m9.cls := findClass_of_methodNamed B.named
  have hlocks := B.notSynchronized
  have hA : ∀ a ∈ zLC q, (fun a => a ∈ zLC q) a := fun _ h => h
  have hl := lv_entry ([.ref (q 0), .int (zI p), .int (zI c)]) (n := 3) (Nat.le_of_ble_eq_true rfl)
  have hE : entryFrame m9 ag9 3 = F0 m9 0 ((lg_sl ([.ref (q 0), .int (zI p), .int (zI c)]) ++ List.replicate (3 - (lg_sl ([.ref (q 0), .int (zI p), .int (zI c)])).length) Slot.unset).toArray) [] := by rw [hav]; exact lg_entry_eq m9 _ _
  obtain ⟨Q0, hQ0⟩ : ∃ Q0, Q0 = MQ below (zQ D (wC cI cZ q pa sp al dg co da mb dd (ca co da mb dd td n p) wl lo n td wn) (some (.int (zI (smF (eqF (ca co da mb dd td n p) c) 180)))) (zLC q)) ag9 s9 0 0 (fun a => a ∈ zLC q) := ⟨_, rfl⟩
  show W p0 l e9 ({ frames := 7, cells := 0, slots := 0, locals := 111 }) s9 m9 ag9 below meth c9 s9.heap [] 0 0 (MQ below (zQ D (wC cI cZ q pa sp al dg co da mb dd (ca co da mb dd td n p) wl lo n td wn) (some (.int (zI (smF (eqF (ca co da mb dd td n p) c) 180)))) (zLC q)) ag9 s9 0 0 (fun a => a ∈ zLC q)) _
  rw [hE, ← hQ0]
  have hS : va_S (fun a => a ∈ zLC q) s9.heap s9.heap [] := va_S.rf
  generalize hH0 : s9.heap = H at hP ⊢
  have hS : va_S (fun a => a ∈ zLC q) s9.heap H [] := by rw [hH0] at hS ⊢; exact hS
  generalize (lg_sl ([.ref (q 0), .int (zI p), .int (zI c)]) ++ List.replicate (3 - (lg_sl ([.ref (q 0), .int (zI p), .int (zI c)])).length) Slot.unset).toArray = ls at hl ⊢
  have hl : lv_has ls 3 [(0, .ref (q 0)), (1, .int (zI p)), (2, .int (zI c))] := hl
  refine lv_aload_n hx hb dX2_daysIn_0 rfl (lv_at hl 0 rfl) ?_
  refine lv_iload_n hx hb dX2_daysIn_1 rfl (lv_at hl 1 rfl) ?_
  refine zcallV (ci := 2) (q0 := 0) (cq := (RX2, TX2, 9)) (As := [.int (zI p)]) (rest := []) ⟨hx, hb, hml, hown, hts⟩ hK (kX2_needPersonok l D cI cZ q hN pa sp al dg co da mb dd ah wl lo n td wn hn p (by omega)) (cwV 1 hts gX2_daysIn_X2_needPerson rfl rfl rfl (by decide +kernel) ⟨Nat.le_of_ble_eq_true rfl, Nat.le_of_ble_eq_true rfl⟩) hP hS hA rfl rfl rfl hl.1 rfl (Nat.le_of_ble_eq_true rfl) dX2_daysIn_2 ⟨Nat.zero_le _, Nat.zero_le _⟩ (fun H locs hP hS _ _ => ?_)
  refine W.eq (g2 := F0 m9 5 ls []) rfl ?_
  refine lv_iload_n hx hb dX2_daysIn_5 rfl (lv_at hl 2 rfl) ?_
  refine zr_if_le (tgt := 14) hx hb dX2_daysIn_6 (by decide) ⟨by omega, by omega⟩ (fun c_1 => ?_) (fun c_1 => ?_)
  · have c_1 := c_1
    exfalso; omega
  · have c_1 := c_1
    refine lv_iload_n hx hb dX2_daysIn_9 rfl (lv_at hl 2 rfl) ?_
    refine zr_iconst hx hb dX2_daysIn_10 ?_
    refine zr_icmp_le (tgt := 24) hx hb dX2_daysIn_11 (by decide) ⟨by omega, by omega⟩ ⟨by decide, by decide⟩ (fun c_2 => ?_) (fun c_2 => ?_)
    · have c_2 := c_2
      refine lv_aload_n hx hb dX2_daysIn_24 rfl (lv_at hl 0 rfl) ?_
      refine lv_iload_n hx hb dX2_daysIn_25 rfl (lv_at hl 1 rfl) ?_
      refine zcallV (ci := 2) (q0 := 0) (cq := (RX2, TX2, 9)) (As := [.int (zI p)]) (rest := []) ⟨hx, hb, hml, hown, hts⟩ hK (kX2_paintAhead l D cI cZ q hN pa sp al dg co da mb dd ah wl lo n td wn hn hco hda hmb hdd htd p (by omega)) (cwV 1 hts gX2_daysIn_X2_paintAhead rfl rfl rfl (by decide +kernel) ⟨Nat.le_of_ble_eq_true rfl, Nat.le_of_ble_eq_true rfl⟩) hP hS hA rfl rfl rfl hl.1 rfl (Nat.le_of_ble_eq_true rfl) dX2_daysIn_26 ⟨Nat.zero_le _, Nat.zero_le _⟩ (fun H locs hP hS _ _ => ?_)
      have g_3 : ∀ j : Int, 0 ≤ (ca co da mb dd td n p) j ∧ (ca co da mb dd td n p) j ≤ 5 := fun j => ca_bd hco da mb dd td n p j
      refine W.eq (g2 := F0 m9 29 ls []) rfl ?_
      refine lv_aload_n hx hb dX2_daysIn_29 rfl (lv_at hl 0 rfl) ?_
      refine lv_iload_n hx hb dX2_daysIn_30 rfl (lv_at hl 2 rfl) ?_
      refine zcallV (ci := 2) (q0 := 0) (cq := (RX2, TX2, 9)) (As := [.int (zI c)]) (rest := []) ⟨hx, hb, hml, hown, hts⟩ hK (kX2_countAhead l D cI cZ q hN pa sp al dg co da mb dd (ca co da mb dd td n p) wl lo n td wn g_3 c (by omega)) (cwV 1 hts gX2_daysIn_X2_countAhead rfl rfl rfl (by decide +kernel) ⟨Nat.le_of_ble_eq_true rfl, Nat.le_of_ble_eq_true rfl⟩) hP hS hA rfl rfl rfl hl.1 rfl (Nat.le_of_ble_eq_true rfl) dX2_daysIn_31 ⟨Nat.zero_le _, Nat.zero_le _⟩ (fun H locs hP hS _ _ => ?_)
      refine W.eq (g2 := F0 m9 34 ls [.int (zI (smF (eqF (ca co da mb dd td n p) c) 180))]) rfl ?_
      rw [hQ0]
      exact zret_i hx hb hr hlocks (rfl) hP hS dX2_daysIn_34
    · have c_2 := c_2
      exfalso; omega
set_option maxHeartbeats 4000000 in
set_option maxRecDepth 100000 in
theorem kX2_wearingok (l : Launch) (D : va_G) (cI cZ : ClassId) (q : Nat → Nat) (hN : (zLC q).Nodup) (pa : Int → Int) (sp : Int → Int) (al : Int → Int) (dg : Int → Int) (co : Int → Int) (da : Int → Int) (mb : Int → Int) (dd : Int → Int) (ah : Int → Int) (wl : Int → Int) (lo : Int → Int) (n : Nat) (td : Int) (wn : Int) (hn : n ≤ 16) (hco : ∀ j : Int, 0 ≤ co j ∧ co j ≤ 5) (hda : ∀ j : Int, 0 ≤ da j ∧ da j ≤ 60) (hmb : ∀ j : Int, 0 ≤ mb j ∧ mb j ≤ 4) (hdd : ∀ j : Int, 0 ≤ dd j ∧ dd j ≤ 1000000) (htd : 0 ≤ td ∧ td ≤ 1000000) (hal : ∀ j : Int, 0 ≤ al j ∧ al j ≤ 1) (c : Int) (h1 : 0 ≤ c ∧ c ≤ 5) : zM l yX2_wearing wsX2_wearing ({ frames := 4, cells := 0, slots := 0, locals := 96 }) D [(cI, .int), (cZ, .boolean)] [.ref (q 0), .int (zI c)] (wC cI cZ q pa sp al dg co da mb dd ah wl lo n td wn) (wC cI cZ q pa sp al dg co da mb dd ah wl lo n td wn) (some (.int (zI (smF (cwF al co da mb dd td n c) n)))) (zLC q) := by
  refine Met.ofW (cc := cX2_wearing) (maxL := 2) (ret := (some .int)) (by decide) rfl ?_
  intro p0 e9 s9 m9 ag9 below meth c9 s₁ B hml hv
  obtain ⟨hav, hP, hK⟩ := hv
  have hx := B.exec
  have hb := B.bytes
  have hr := B.returns
  have hts := atoms_spec (ws := wsX2_wearing) B.pre
  have hown : s9.vm.findClass RX2 = some m9.cls := findClass_of_methodNamed B.named
  have hlocks := B.notSynchronized
  have hA : ∀ a ∈ zLC q, (fun a => a ∈ zLC q) a := fun _ h => h
  have hl := lv_entry ([.ref (q 0), .int (zI c)]) (n := 2) (Nat.le_of_ble_eq_true rfl)
  have hE : entryFrame m9 ag9 2 = F0 m9 0 ((lg_sl ([.ref (q 0), .int (zI c)]) ++ List.replicate (2 - (lg_sl ([.ref (q 0), .int (zI c)])).length) Slot.unset).toArray) [] := by rw [hav]; exact lg_entry_eq m9 _ _
  obtain ⟨Q0, hQ0⟩ : ∃ Q0, Q0 = MQ below (zQ D (wC cI cZ q pa sp al dg co da mb dd ah wl lo n td wn) (some (.int (zI (smF (cwF al co da mb dd td n c) n)))) (zLC q)) ag9 s9 0 0 (fun a => a ∈ zLC q) := ⟨_, rfl⟩
  show W p0 l e9 ({ frames := 4, cells := 0, slots := 0, locals := 96 }) s9 m9 ag9 below meth c9 s9.heap [] 0 0 (MQ below (zQ D (wC cI cZ q pa sp al dg co da mb dd ah wl lo n td wn) (some (.int (zI (smF (cwF al co da mb dd td n c) n)))) (zLC q)) ag9 s9 0 0 (fun a => a ∈ zLC q)) _
  rw [hE, ← hQ0]
  have hS : va_S (fun a => a ∈ zLC q) s9.heap s9.heap [] := va_S.rf
  generalize hH0 : s9.heap = H at hP ⊢
  have hS : va_S (fun a => a ∈ zLC q) s9.heap H [] := by rw [hH0] at hS ⊢; exact hS
  generalize (lg_sl ([.ref (q 0), .int (zI c)]) ++ List.replicate (2 - (lg_sl ([.ref (q 0), .int (zI c)])).length) Slot.unset).toArray = ls at hl ⊢
  have hl : lv_has ls 2 [(0, .ref (q 0)), (1, .int (zI c))] := hl
  refine lv_iload_n hx hb dX2_wearing_0 rfl (lv_at hl 1 rfl) ?_
  refine zr_if_lt (tgt := 9) hx hb dX2_wearing_1 (by decide) ⟨by omega, by omega⟩ (fun c_1 => ?_) (fun c_1 => ?_)
  · have c_1 := c_1
    exfalso; omega
  · have c_1 := c_1
    refine lv_iload_n hx hb dX2_wearing_4 rfl (lv_at hl 1 rfl) ?_
    refine zr_iconst hx hb dX2_wearing_5 ?_
    refine zr_icmp_le (tgt := 19) hx hb dX2_wearing_6 (by decide) ⟨by omega, by omega⟩ ⟨by decide, by decide⟩ (fun c_2 => ?_) (fun c_2 => ?_)
    · have c_2 := c_2
      refine lv_aload_n hx hb dX2_wearing_19 rfl (lv_at hl 0 rfl) ?_
      refine lv_iload_n hx hb dX2_wearing_20 rfl (lv_at hl 1 rfl) ?_
      refine zcallV (ci := 2) (q0 := 0) (cq := (RX2, TX2, 9)) (As := [.int (zI c)]) (rest := []) ⟨hx, hb, hml, hown, hts⟩ hK (kX2_countWearing l D cI cZ q hN pa sp al dg co da mb dd ah wl lo n td wn hn hco hda hmb hdd htd hal c (by omega)) (cwV 1 hts gX2_wearing_X2_countWearing rfl rfl rfl (by decide +kernel) ⟨Nat.le_of_ble_eq_true rfl, Nat.le_of_ble_eq_true rfl⟩) hP hS hA rfl rfl rfl hl.1 rfl (Nat.le_of_ble_eq_true rfl) dX2_wearing_21 ⟨Nat.zero_le _, Nat.zero_le _⟩ (fun H locs hP hS _ _ => ?_)
      refine W.eq (g2 := F0 m9 24 ls [.int (zI (smF (cwF al co da mb dd td n c) n))]) rfl ?_
      rw [hQ0]
      exact zret_i hx hb hr hlocks (rfl) hP hS dX2_wearing_24
    · have c_2 := c_2
      exfalso; omega
set_option maxHeartbeats 4000000 in
set_option maxRecDepth 100000 in
theorem kX2_strictest (l : Launch) (D : va_G) (cI cZ : ClassId) (q : Nat → Nat) (hN : (zLC q).Nodup) (pa : Int → Int) (sp : Int → Int) (al : Int → Int) (dg : Int → Int) (co : Int → Int) (da : Int → Int) (mb : Int → Int) (dd : Int → Int) (ah : Int → Int) (wl : Int → Int) (lo : Int → Int) (n : Nat) (td : Int) (wn : Int) (hn : n ≤ 16) (hco : ∀ j : Int, 0 ≤ co j ∧ co j ≤ 5) (hda : ∀ j : Int, 0 ≤ da j ∧ da j ≤ 60) (hmb : ∀ j : Int, 0 ≤ mb j ∧ mb j ≤ 4) (hdd : ∀ j : Int, 0 ≤ dd j ∧ dd j ≤ 1000000) (htd : 0 ≤ td ∧ td ≤ 1000000) : zM l yX2_strictest wsX2_strictest ({ frames := 3, cells := 0, slots := 0, locals := 73 }) D [(cI, .int), (cZ, .boolean)] [.ref (q 0)] (wC cI cZ q pa sp al dg co da mb dd ah wl lo n td wn) (wC cI cZ q pa sp al dg co da mb dd ah wl lo n td wn) (some (.int (zI (mxF (caZ co da mb dd td n) n)))) (zLC q) := by
  refine Met.ofW (cc := cX2_strictest) (maxL := 3) (ret := (some .int)) (by decide) rfl ?_
  intro p0 e9 s9 m9 ag9 below meth c9 s₁ B hml hv
  obtain ⟨hav, hP, hK⟩ := hv
  have hx := B.exec
  have hb := B.bytes
  have hr := B.returns
  have hts := atoms_spec (ws := wsX2_strictest) B.pre
  have hown : s9.vm.findClass RX2 = some m9.cls := findClass_of_methodNamed B.named
  have hlocks := B.notSynchronized
  have hA : ∀ a ∈ zLC q, (fun a => a ∈ zLC q) a := fun _ h => h
  have hin1 : ∀ w ∈ u_ws RX1 TX1 5, w ∈ wsX2_strictest := by decide +kernel
  have hin2 : ∀ w ∈ u_ws RX2 TX2 9, w ∈ wsX2_strictest := by decide +kernel
  have hl := lv_entry ([.ref (q 0)]) (n := 3) (Nat.le_of_ble_eq_true rfl)
  have hE : entryFrame m9 ag9 3 = F0 m9 0 ((lg_sl ([.ref (q 0)]) ++ List.replicate (3 - (lg_sl ([.ref (q 0)])).length) Slot.unset).toArray) [] := by rw [hav]; exact lg_entry_eq m9 _ _
  obtain ⟨Q0, hQ0⟩ : ∃ Q0, Q0 = MQ below (zQ D (wC cI cZ q pa sp al dg co da mb dd ah wl lo n td wn) (some (.int (zI (mxF (caZ co da mb dd td n) n)))) (zLC q)) ag9 s9 0 0 (fun a => a ∈ zLC q) := ⟨_, rfl⟩
  show W p0 l e9 ({ frames := 3, cells := 0, slots := 0, locals := 73 }) s9 m9 ag9 below meth c9 s9.heap [] 0 0 (MQ below (zQ D (wC cI cZ q pa sp al dg co da mb dd ah wl lo n td wn) (some (.int (zI (mxF (caZ co da mb dd td n) n)))) (zLC q)) ag9 s9 0 0 (fun a => a ∈ zLC q)) _
  rw [hE, ← hQ0]
  have hS : va_S (fun a => a ∈ zLC q) s9.heap s9.heap [] := va_S.rf
  generalize hH0 : s9.heap = H at hP ⊢
  have hS : va_S (fun a => a ∈ zLC q) s9.heap H [] := by rw [hH0] at hS ⊢; exact hS
  generalize (lg_sl ([.ref (q 0)]) ++ List.replicate (3 - (lg_sl ([.ref (q 0)])).length) Slot.unset).toArray = ls at hl ⊢
  have hl : lv_has ls 3 [(0, .ref (q 0))] := hl
  refine zr_iconst hx hb dX2_strictest_0 ?_
  refine lv_istore_n (lv' := [(1, .int (zI 0)), (0, .ref (q 0))]) hx hb dX2_strictest_1 rfl hl (by decide) rfl (fun ls hl => ?_)
  refine zr_iconst hx hb dX2_strictest_2 ?_
  refine lv_istore_n (lv' := [(2, .int (zI 0)), (1, .int (zI 0)), (0, .ref (q 0))]) hx hb dX2_strictest_3 rfl hl (by decide) rfl (fun ls hl => ?_)
  have L4_1 : ∀ (kf i : Nat), i ≤ n → n - i < kf → ∀ (H : Heap) (locs : List Loc) (ls : Array Slot), va_P D vwCl (wC cI cZ q pa sp al dg co da mb dd ah wl lo n td wn) H → va_S (fun a => a ∈ zLC q) s9.heap H locs → lv_has ls 3 [(2, .int (zI (i : Int))), (1, .int (zI (mxF (caZ co da mb dd td n) i))), (0, .ref (q 0))] → W p0 l e9 ({ frames := 3, cells := 0, slots := 0, locals := 73 }) s9 m9 ag9 below meth c9 H locs 0 0 Q0 (F0 m9 4 ls []) := by
    intro kf
    induction kf with
    | zero => intro i h1 h2; omega
    | succ kf ih =>
      intro i hi_i hk_i H locs ls hP hS hl
      have ih_i := ih
      clear ih
      have hm := mxF_bd (f := caZ co da mb dd td n) (k := i) (B := 5) (by decide) (fun j => (ca_bd hco da mb dd td n j 0).2)
      refine lv_iload_n hx hb dX2_strictest_4 rfl (lv_at hl 0 rfl) ?_
      refine lv_aload_n hx hb dX2_strictest_5 rfl (lv_at hl 2 rfl) ?_
      refine va_get (D := D) (ci := 2) (v := .ref (q 1)) (C := RX2) (T := TX2) (N := 9) hx hb hts hin2 hown hK hP 0 rfl rfl 0 (by decide) (hts (.fieldLink RX2 12 "MourningRibbons" "family" "LMourningRibbons$Family;") (by decide +kernel)) (fun _ h9 => h9) rfl dX2_strictest_6 ?_
      refine va_get (D := D) (ci := 1) (v := .int (zI (n : Int))) (C := RX1) (T := TX1) (N := 5) hx hb hts hin1 hown hK hP 1 rfl rfl 3 (by decide) (hts (.fieldLink RX2 128 "MourningRibbons$Family" "count" "I") (by decide +kernel)) (fun _ h9 => h9) rfl dX2_strictest_9 ?_
      refine zr_icmp_ge (tgt := 32) hx hb dX2_strictest_12 (by decide) ⟨by omega, by omega⟩ ⟨by omega, by omega⟩ (fun c_2 => ?_) (fun c_2 => ?_)
      · have c_2 := c_2
        have x_3 : i = n := by omega
        try rw [x_3] at hP
        try rw [x_3] at hl
        refine lv_iload_n hx hb dX2_strictest_32 rfl (lv_at hl 1 rfl) ?_
        rw [hQ0]
        exact zret_i hx hb hr hlocks (rfl) hP hS dX2_strictest_33
      · have c_2 := c_2
        refine lv_iload_n hx hb dX2_strictest_15 rfl (lv_at hl 1 rfl) ?_
        refine lv_aload_n hx hb dX2_strictest_16 rfl (lv_at hl 2 rfl) ?_
        refine lv_iload_n hx hb dX2_strictest_17 rfl (lv_at hl 0 rfl) ?_
        refine zr_iconst hx hb dX2_strictest_18 ?_
        refine zcallV (ci := 2) (q0 := 0) (cq := (RX2, TX2, 9)) (As := [.int (zI (i : Int)), .int (zI 0)]) (rest := [.int (zI (mxF (caZ co da mb dd td n) i))]) ⟨hx, hb, hml, hown, hts⟩ hK (kX2_colourAfter l D cI cZ q hN pa sp al dg co da mb dd ah wl lo n td wn hn hco hda hmb hdd htd (i : Int) 0 (by omega) (by omega)) (cwV 2 hts gX2_strictest_X2_colourAfter rfl rfl rfl (by decide +kernel) ⟨Nat.le_of_ble_eq_true rfl, Nat.le_of_ble_eq_true rfl⟩) hP hS hA rfl rfl rfl hl.1 rfl (Nat.le_of_ble_eq_true rfl) dX2_strictest_19 ⟨Nat.zero_le _, Nat.zero_le _⟩ (fun H locs hP hS _ _ => ?_)
        refine W.eq (g2 := F0 m9 22 ls [.int (zI (ca co da mb dd td n (i : Int) 0)), .int (zI (mxF (caZ co da mb dd td n) i))]) rfl ?_
        have f_4 := ca_bd hco da mb dd td n (i : Int) 0
        refine zr_mmax hx hb (by rw [hml, hl.1]) hown (hts (.methodLink RX2 181 Lib.Math.max.name) (by decide +kernel)) (hts (.static Lib.Math.max.name) (by decide +kernel)) (hts (.initialized "java/lang/Math") (by decide +kernel)) (hts (.code Lib.Math.max.name Lib.Math.max.code 2 (some .int)) (by decide +kernel)) (Nat.le_of_ble_eq_true rfl) (Nat.le_of_ble_eq_true rfl) (Nat.zero_le _) (Nat.zero_le _) ⟨by omega, by omega⟩ ⟨by omega, by omega⟩ dX2_strictest_22 ?_
        refine lv_istore_n (lv' := [(1, .int (zI (max (mxF (caZ co da mb dd td n) i) (ca co da mb dd td n (i : Int) 0)))), (2, .int (zI (i : Int))), (0, .ref (q 0))]) hx hb dX2_strictest_25 rfl hl (by decide) rfl (fun ls hl => ?_)
        refine zr_iinc (v := (i : Int) + 1) (lv' := [(2, .int (zI ((i : Int) + 1))), (1, .int (zI (max (mxF (caZ co da mb dd td n) i) (ca co da mb dd td n (i : Int) 0)))), (0, .ref (q 0))]) hx hb dX2_strictest_26 hl (k := 1) rfl rfl (by decide) rfl (fun ls hl => ?_)
        refine lv_goto (tgt := 4) hx hb dX2_strictest_29 (by decide) ?_
        have hl := lv_sub hl (l' := [(2, .int (zI ((i : Int) + 1))), (1, .int (zI (max (mxF (caZ co da mb dd td n) i) (ca co da mb dd td n (i : Int) 0)))), (0, .ref (q 0))]) [0, 1, 2] rfl
        have e_5 : ((((i + 1) : Nat) : Int) : Int) = (i : Int) + 1 := by omega
        have e_6 : (mxF (caZ co da mb dd td n) (i + 1) : Int) = max (mxF (caZ co da mb dd td n) i) (ca co da mb dd td n (i : Int) 0) := rfl
        have hl : lv_has ls 3 [(2, .int (zI (((i + 1) : Nat) : Int))), (1, .int (zI (mxF (caZ co da mb dd td n) (i + 1)))), (0, .ref (q 0))] := by rw [e_5, e_6]; exact hl
        exact ih_i (i + 1) (by omega) (by omega) _ _ _ hP hS hl
  have hl := lv_sub hl (l' := [(2, .int (zI 0)), (1, .int (zI 0)), (0, .ref (q 0))]) [0, 1, 2] rfl
  have e_7 : (mxF (caZ co da mb dd td n) 0 : Int) = 0 := rfl
  have hl : lv_has ls 3 [(2, .int (zI 0)), (1, .int (zI (mxF (caZ co da mb dd td n) 0))), (0, .ref (q 0))] := by rw [e_7]; exact hl
  exact L4_1 (n + 1) 0 (Nat.zero_le _) (by omega) _ _ _ hP hS hl
set_option maxHeartbeats 4000000 in
set_option maxRecDepth 100000 in
theorem kX2_longestMourner (l : Launch) (D : va_G) (cI cZ : ClassId) (q : Nat → Nat) (hN : (zLC q).Nodup) (pa : Int → Int) (sp : Int → Int) (al : Int → Int) (dg : Int → Int) (co : Int → Int) (da : Int → Int) (mb : Int → Int) (dd : Int → Int) (ah : Int → Int) (wl : Int → Int) (lo : Int → Int) (n : Nat) (td : Int) (wn : Int) (hn : n ≤ 16) (hda : ∀ j : Int, 0 ≤ da j ∧ da j ≤ 60) (hmb : ∀ j : Int, 0 ≤ mb j ∧ mb j ≤ 4) (hdd : ∀ j : Int, 0 ≤ dd j ∧ dd j ≤ 1000000) (htd : 0 ≤ td ∧ td ≤ 1000000) : zM l yX2_longestMourner wsX2_longestMourner ({ frames := 4, cells := 0, slots := 0, locals := 92 }) D [(cI, .int), (cZ, .boolean)] [.ref (q 0)] (wC cI cZ q pa sp al dg co da mb dd ah wl lo n td wn) (wC cI cZ q pa sp al dg co da mb dd ah wl lo n td wn) (some (.int (zI (lgF (llS da mb dd td n) n)))) (zLC q) := by
  refine Met.ofW (cc := cX2_longestMourner) (maxL := 5) (ret := (some .int)) (by decide) rfl ?_
  intro p0 e9 s9 m9 ag9 below meth c9 s₁ B hml hv
  obtain ⟨hav, hP, hK⟩ := hv
  have hx := B.exec
  have hb := B.bytes
  have hr := B.returns
  have hts := atoms_spec (ws := wsX2_longestMourner) B.pre
  have hown : s9.vm.findClass RX2 = some m9.cls := findClass_of_methodNamed B.named
  have hlocks := B.notSynchronized
  have hA : ∀ a ∈ zLC q, (fun a => a ∈ zLC q) a := fun _ h => h
  have hin1 : ∀ w ∈ u_ws RX1 TX1 5, w ∈ wsX2_longestMourner := by decide +kernel
  have hin2 : ∀ w ∈ u_ws RX2 TX2 9, w ∈ wsX2_longestMourner := by decide +kernel
  have hl := lv_entry ([.ref (q 0)]) (n := 5) (Nat.le_of_ble_eq_true rfl)
  have hE : entryFrame m9 ag9 5 = F0 m9 0 ((lg_sl ([.ref (q 0)]) ++ List.replicate (5 - (lg_sl ([.ref (q 0)])).length) Slot.unset).toArray) [] := by rw [hav]; exact lg_entry_eq m9 _ _
  obtain ⟨Q0, hQ0⟩ : ∃ Q0, Q0 = MQ below (zQ D (wC cI cZ q pa sp al dg co da mb dd ah wl lo n td wn) (some (.int (zI (lgF (llS da mb dd td n) n)))) (zLC q)) ag9 s9 0 0 (fun a => a ∈ zLC q) := ⟨_, rfl⟩
  show W p0 l e9 ({ frames := 4, cells := 0, slots := 0, locals := 92 }) s9 m9 ag9 below meth c9 s9.heap [] 0 0 (MQ below (zQ D (wC cI cZ q pa sp al dg co da mb dd ah wl lo n td wn) (some (.int (zI (lgF (llS da mb dd td n) n)))) (zLC q)) ag9 s9 0 0 (fun a => a ∈ zLC q)) _
  rw [hE, ← hQ0]
  have hS : va_S (fun a => a ∈ zLC q) s9.heap s9.heap [] := va_S.rf
  generalize hH0 : s9.heap = H at hP ⊢
  have hS : va_S (fun a => a ∈ zLC q) s9.heap H [] := by rw [hH0] at hS ⊢; exact hS
  generalize (lg_sl ([.ref (q 0)]) ++ List.replicate (5 - (lg_sl ([.ref (q 0)])).length) Slot.unset).toArray = ls at hl ⊢
  have hl : lv_has ls 5 [(0, .ref (q 0))] := hl
  refine zr_iconst hx hb dX2_longestMourner_0 ?_
  refine lv_istore_n (lv' := [(1, .int (zI (-1))), (0, .ref (q 0))]) hx hb dX2_longestMourner_1 rfl hl (by decide) rfl (fun ls hl => ?_)
  refine zr_iconst hx hb dX2_longestMourner_2 ?_
  refine lv_istore_n (lv' := [(2, .int (zI 0)), (1, .int (zI (-1))), (0, .ref (q 0))]) hx hb dX2_longestMourner_3 rfl hl (by decide) rfl (fun ls hl => ?_)
  refine zr_iconst hx hb dX2_longestMourner_4 ?_
  refine lv_istore_n (lv' := [(3, .int (zI 0)), (2, .int (zI 0)), (1, .int (zI (-1))), (0, .ref (q 0))]) hx hb dX2_longestMourner_5 rfl hl (by decide) rfl (fun ls hl => ?_)
  have L6_1 : ∀ (kf i : Nat), i ≤ n → n - i < kf → ∀ (H : Heap) (locs : List Loc) (ls : Array Slot), va_P D vwCl (wC cI cZ q pa sp al dg co da mb dd ah wl lo n td wn) H → va_S (fun a => a ∈ zLC q) s9.heap H locs → lv_has ls 5 [(3, .int (zI (i : Int))), (2, .int (zI (mxF (llS da mb dd td n) i))), (1, .int (zI (lgF (llS da mb dd td n) i))), (0, .ref (q 0))] → W p0 l e9 ({ frames := 4, cells := 0, slots := 0, locals := 92 }) s9 m9 ag9 below meth c9 H locs 0 0 Q0 (F0 m9 6 ls []) := by
    intro kf
    induction kf with
    | zero => intro i h1 h2; omega
    | succ kf ih =>
      intro i hi_i hk_i H locs ls hP hS hl
      have ih_i := ih
      clear ih
      have hm := mxF_bd (f := llS da mb dd td n) (k := i) (B := 1000180) (by decide) (fun j2 => (mxF_bd (f := lf da mb dd td j2) (k := n) (B := 1000180) (by decide) (fun j => (lf_180 hda hdd htd mb j2 j).2)).2)
      have hs9 : llS da mb dd td n (i : Int) = mxF (lf da mb dd td (i : Int)) n := rfl
      refine lv_iload_n hx hb dX2_longestMourner_6 rfl (lv_at hl 0 rfl) ?_
      refine lv_aload_n hx hb dX2_longestMourner_7 rfl (lv_at hl 3 rfl) ?_
      refine va_get (D := D) (ci := 2) (v := .ref (q 1)) (C := RX2) (T := TX2) (N := 9) hx hb hts hin2 hown hK hP 0 rfl rfl 0 (by decide) (hts (.fieldLink RX2 12 "MourningRibbons" "family" "LMourningRibbons$Family;") (by decide +kernel)) (fun _ h9 => h9) rfl dX2_longestMourner_8 ?_
      refine va_get (D := D) (ci := 1) (v := .int (zI (n : Int))) (C := RX1) (T := TX1) (N := 5) hx hb hts hin1 hown hK hP 1 rfl rfl 3 (by decide) (hts (.fieldLink RX2 128 "MourningRibbons$Family" "count" "I") (by decide +kernel)) (fun _ h9 => h9) rfl dX2_longestMourner_11 ?_
      refine zr_icmp_ge (tgt := 41) hx hb dX2_longestMourner_14 (by decide) ⟨by omega, by omega⟩ ⟨by omega, by omega⟩ (fun c_2 => ?_) (fun c_2 => ?_)
      · have c_2 := c_2
        have x_3 : i = n := by omega
        try rw [x_3] at hP
        try rw [x_3] at hl
        refine lv_iload_n hx hb dX2_longestMourner_41 rfl (lv_at hl 2 rfl) ?_
        rw [hQ0]
        exact zret_i hx hb hr hlocks (rfl) hP hS dX2_longestMourner_42
      · have c_2 := c_2
        refine lv_aload_n hx hb dX2_longestMourner_17 rfl (lv_at hl 3 rfl) ?_
        refine lv_iload_n hx hb dX2_longestMourner_18 rfl (lv_at hl 0 rfl) ?_
        refine zcallV (ci := 2) (q0 := 0) (cq := (RX2, TX2, 9)) (As := [.int (zI (i : Int))]) (rest := []) ⟨hx, hb, hml, hown, hts⟩ hK (kX2_longestLeft l D cI cZ q hN pa sp al dg co da mb dd ah wl lo n td wn hn hda hmb hdd htd (i : Int) (by omega)) (cwV 1 hts gX2_longestMourner_X2_longestLeft rfl rfl rfl (by decide +kernel) ⟨Nat.le_of_ble_eq_true rfl, Nat.le_of_ble_eq_true rfl⟩) hP hS hA rfl rfl rfl hl.1 rfl (Nat.le_of_ble_eq_true rfl) dX2_longestMourner_19 ⟨Nat.zero_le _, Nat.zero_le _⟩ (fun H locs hP hS _ _ => ?_)
        refine W.eq (g2 := F0 m9 22 ls [.int (zI (mxF (lf da mb dd td (i : Int)) n))]) rfl ?_
        have f_4 := mxF_bd (f := lf da mb dd td (i : Int)) (k := n) (B := 1000180) (by decide) (fun j => (lf_180 hda hdd htd mb (i : Int) j).2)
        refine lv_istore (lv' := [(4, .int (zI (mxF (lf da mb dd td (i : Int)) n))), (3, .int (zI (i : Int))), (2, .int (zI (mxF (llS da mb dd td n) i))), (1, .int (zI (lgF (llS da mb dd td n) i))), (0, .ref (q 0))]) hx hb dX2_longestMourner_22 hl (by decide) rfl (fun ls hl => ?_)
        refine lv_iload hx hb dX2_longestMourner_24 (lv_at hl 0 rfl) ?_
        refine lv_iload_n hx hb dX2_longestMourner_26 rfl (lv_at hl 2 rfl) ?_
        refine zr_icmp_le (tgt := 35) hx hb dX2_longestMourner_27 (by decide) ⟨by omega, by omega⟩ ⟨by omega, by omega⟩ (fun c_5 => ?_) (fun c_5 => ?_)
        · have c_5 := c_5
          refine zr_iinc (v := (i : Int) + 1) (lv' := [(3, .int (zI ((i : Int) + 1))), (4, .int (zI (mxF (lf da mb dd td (i : Int)) n))), (2, .int (zI (mxF (llS da mb dd td n) i))), (1, .int (zI (lgF (llS da mb dd td n) i))), (0, .ref (q 0))]) hx hb dX2_longestMourner_35 hl (k := 1) rfl rfl (by decide) rfl (fun ls hl => ?_)
          refine lv_goto (tgt := 6) hx hb dX2_longestMourner_38 (by decide) ?_
          have hl := lv_sub hl (l' := [(3, .int (zI ((i : Int) + 1))), (2, .int (zI (mxF (llS da mb dd td n) i))), (1, .int (zI (lgF (llS da mb dd td n) i))), (0, .ref (q 0))]) [0, 2, 3, 4] rfl
          have e_6 : ((((i + 1) : Nat) : Int) : Int) = (i : Int) + 1 := by omega
          have e_7 : (mxF (llS da mb dd td n) (i + 1) : Int) = mxF (llS da mb dd td n) i := by rw [mxF_s]; omega
          have e_8 : (lgF (llS da mb dd td n) (i + 1) : Int) = lgF (llS da mb dd td n) i := by first | exact lgF_y (by omega) | exact lgF_n (by omega)
          have hl : lv_has ls 5 [(3, .int (zI (((i + 1) : Nat) : Int))), (2, .int (zI (mxF (llS da mb dd td n) (i + 1)))), (1, .int (zI (lgF (llS da mb dd td n) (i + 1)))), (0, .ref (q 0))] := by rw [e_6, e_7, e_8]; exact hl
          exact ih_i (i + 1) (by omega) (by omega) _ _ _ hP hS hl
        · have c_5 := c_5
          refine lv_iload hx hb dX2_longestMourner_30 (lv_at hl 0 rfl) ?_
          refine lv_istore_n (lv' := [(2, .int (zI (mxF (lf da mb dd td (i : Int)) n))), (4, .int (zI (mxF (lf da mb dd td (i : Int)) n))), (3, .int (zI (i : Int))), (1, .int (zI (lgF (llS da mb dd td n) i))), (0, .ref (q 0))]) hx hb dX2_longestMourner_32 rfl hl (by decide) rfl (fun ls hl => ?_)
          refine lv_iload_n hx hb dX2_longestMourner_33 rfl (lv_at hl 2 rfl) ?_
          refine lv_istore_n (lv' := [(1, .int (zI (i : Int))), (2, .int (zI (mxF (lf da mb dd td (i : Int)) n))), (4, .int (zI (mxF (lf da mb dd td (i : Int)) n))), (3, .int (zI (i : Int))), (0, .ref (q 0))]) hx hb dX2_longestMourner_34 rfl hl (by decide) rfl (fun ls hl => ?_)
          refine zr_iinc (v := (i : Int) + 1) (lv' := [(3, .int (zI ((i : Int) + 1))), (1, .int (zI (i : Int))), (2, .int (zI (mxF (lf da mb dd td (i : Int)) n))), (4, .int (zI (mxF (lf da mb dd td (i : Int)) n))), (0, .ref (q 0))]) hx hb dX2_longestMourner_35 hl (k := 3) rfl rfl (by decide) rfl (fun ls hl => ?_)
          refine lv_goto (tgt := 6) hx hb dX2_longestMourner_38 (by decide) ?_
          have hl := lv_sub hl (l' := [(3, .int (zI ((i : Int) + 1))), (2, .int (zI (mxF (lf da mb dd td (i : Int)) n))), (1, .int (zI (i : Int))), (0, .ref (q 0))]) [0, 2, 1, 4] rfl
          have e_9 : ((((i + 1) : Nat) : Int) : Int) = (i : Int) + 1 := by omega
          have e_10 : (mxF (llS da mb dd td n) (i + 1) : Int) = mxF (lf da mb dd td (i : Int)) n := by rw [mxF_s]; omega
          have e_11 : (lgF (llS da mb dd td n) (i + 1) : Int) = (i : Int) := by first | exact lgF_y (by omega) | exact lgF_n (by omega)
          have hl : lv_has ls 5 [(3, .int (zI (((i + 1) : Nat) : Int))), (2, .int (zI (mxF (llS da mb dd td n) (i + 1)))), (1, .int (zI (lgF (llS da mb dd td n) (i + 1)))), (0, .ref (q 0))] := by rw [e_9, e_10, e_11]; exact hl
          exact ih_i (i + 1) (by omega) (by omega) _ _ _ hP hS hl
  have hl := lv_sub hl (l' := [(3, .int (zI 0)), (2, .int (zI 0)), (1, .int (zI (-1))), (0, .ref (q 0))]) [0, 1, 2, 3] rfl
  have e_12 : (mxF (llS da mb dd td n) 0 : Int) = 0 := rfl
  have e_13 : (lgF (llS da mb dd td n) 0 : Int) = (-1) := rfl
  have hl : lv_has ls 5 [(3, .int (zI 0)), (2, .int (zI (mxF (llS da mb dd td n) 0))), (1, .int (zI (lgF (llS da mb dd td n) 0))), (0, .ref (q 0))] := by rw [e_12, e_13]; exact hl
  exact L6_1 (n + 1) 0 (Nat.zero_le _) (by omega) _ _ _ hP hS hl
set_option maxHeartbeats 4000000 in
set_option maxRecDepth 100000 in
theorem kX2_daysWorn (l : Launch) (D : va_G) (cI cZ : ClassId) (q : Nat → Nat) (hN : (zLC q).Nodup) (pa : Int → Int) (sp : Int → Int) (al : Int → Int) (dg : Int → Int) (co : Int → Int) (da : Int → Int) (mb : Int → Int) (dd : Int → Int) (ah : Int → Int) (wl : Int → Int) (lo : Int → Int) (n : Nat) (td : Int) (wn : Int) : zM l yX2_daysWorn wsX2_daysWorn ({ frames := 0, cells := 0, slots := 0, locals := 0 }) D [(cI, .int), (cZ, .boolean)] [.ref (q 0)] (wC cI cZ q pa sp al dg co da mb dd ah wl lo n td wn) (wC cI cZ q pa sp al dg co da mb dd ah wl lo n td wn) (some (.int (zI wn))) (zLC q) := by
  refine Met.ofW (cc := cX2_daysWorn) (maxL := 1) (ret := (some .int)) (by decide) rfl ?_
  intro p0 e9 s9 m9 ag9 below meth c9 s₁ B hml hv
  obtain ⟨hav, hP, hK⟩ := hv
  have hx := B.exec
  have hb := B.bytes
  have hr := B.returns
  have hts := atoms_spec (ws := wsX2_daysWorn) B.pre
  have hown : s9.vm.findClass RX2 = some m9.cls := findClass_of_methodNamed B.named
  have hlocks := B.notSynchronized
  have hA : ∀ a ∈ zLC q, (fun a => a ∈ zLC q) a := fun _ h => h
  have hin2 : ∀ w ∈ u_ws RX2 TX2 9, w ∈ wsX2_daysWorn := by decide +kernel
  have hl := lv_entry ([.ref (q 0)]) (n := 1) (Nat.le_of_ble_eq_true rfl)
  have hE : entryFrame m9 ag9 1 = F0 m9 0 ((lg_sl ([.ref (q 0)]) ++ List.replicate (1 - (lg_sl ([.ref (q 0)])).length) Slot.unset).toArray) [] := by rw [hav]; exact lg_entry_eq m9 _ _
  obtain ⟨Q0, hQ0⟩ : ∃ Q0, Q0 = MQ below (zQ D (wC cI cZ q pa sp al dg co da mb dd ah wl lo n td wn) (some (.int (zI wn))) (zLC q)) ag9 s9 0 0 (fun a => a ∈ zLC q) := ⟨_, rfl⟩
  show W p0 l e9 ({ frames := 0, cells := 0, slots := 0, locals := 0 }) s9 m9 ag9 below meth c9 s9.heap [] 0 0 (MQ below (zQ D (wC cI cZ q pa sp al dg co da mb dd ah wl lo n td wn) (some (.int (zI wn))) (zLC q)) ag9 s9 0 0 (fun a => a ∈ zLC q)) _
  rw [hE, ← hQ0]
  have hS : va_S (fun a => a ∈ zLC q) s9.heap s9.heap [] := va_S.rf
  generalize hH0 : s9.heap = H at hP ⊢
  have hS : va_S (fun a => a ∈ zLC q) s9.heap H [] := by rw [hH0] at hS ⊢; exact hS
  generalize (lg_sl ([.ref (q 0)]) ++ List.replicate (1 - (lg_sl ([.ref (q 0)])).length) Slot.unset).toArray = ls at hl ⊢
  have hl : lv_has ls 1 [(0, .ref (q 0))] := hl
  refine lv_aload_n hx hb dX2_daysWorn_0 rfl (lv_at hl 0 rfl) ?_
  refine va_get (D := D) (ci := 2) (v := .int (zI wn)) (C := RX2) (T := TX2) (N := 9) hx hb hts hin2 hown hK hP 0 rfl rfl 5 (by decide) (hts (.fieldLink RX2 134 "MourningRibbons" "wornSoFar" "I") (by decide +kernel)) (fun _ h9 => h9) rfl dX2_daysWorn_1 ?_
  rw [hQ0]
  exact zret_i hx hb hr hlocks (rfl) hP hS dX2_daysWorn_4
set_option maxHeartbeats 4000000 in
set_option maxRecDepth 100000 in
theorem kX2_wouldMournok (l : Launch) (D : va_G) (cI cZ : ClassId) (q : Nat → Nat) (hN : (zLC q).Nodup) (pa : Int → Int) (sp : Int → Int) (al : Int → Int) (dg : Int → Int) (co : Int → Int) (da : Int → Int) (mb : Int → Int) (dd : Int → Int) (ah : Int → Int) (wl : Int → Int) (lo : Int → Int) (n : Nat) (td : Int) (wn : Int) (hn : n ≤ 16) (hpa : ∀ j : Int, -1 ≤ pa j ∧ pa j ≤ 15) (hsp : ∀ j : Int, -1 ≤ sp j ∧ sp j ≤ 15) (hal : ∀ j : Int, 0 ≤ al j ∧ al j ≤ 1) (hda : ∀ j : Int, 0 ≤ da j ∧ da j ≤ 60) (p : Int) (h1 : 0 ≤ p ∧ p < (n : Int)) (h2 : al p ≠ 0) : zM l yX2_wouldMourn wsX2_wouldMourn ({ frames := 7, cells := 0, slots := 0, locals := 111 }) D [(cI, .int), (cZ, .boolean)] [.ref (q 0), .int (zI p)] (wC cI cZ q pa sp al dg co da mb dd ah wl lo n td wn) (wC cI cZ q pa sp al (dgF pa sp n p) co da mb dd ah wl lo n td wn) (some (.int (zI (smF (wbF al da (dgF pa sp n p)) n)))) (zLC q) := by
  refine Met.ofW (cc := cX2_wouldMourn) (maxL := 4) (ret := (some .int)) (by decide) rfl ?_
  intro p0 e9 s9 m9 ag9 below meth c9 s₁ B hml hv
  obtain ⟨hav, hP, hK⟩ := hv
  have hx := B.exec
  have hb := B.bytes
  have hr := B.returns
  have hts := atoms_spec (ws := wsX2_wouldMourn) B.pre
  have hown : s9.vm.findClass RX2 = some m9.cls := findClass_of_methodNamed B.named
  have hlocks := B.notSynchronized
  have hA : ∀ a ∈ zLC q, (fun a => a ∈ zLC q) a := fun _ h => h
  have hin1 : ∀ w ∈ u_ws RX1 TX1 5, w ∈ wsX2_wouldMourn := by decide +kernel
  have hin2 : ∀ w ∈ u_ws RX2 TX2 9, w ∈ wsX2_wouldMourn := by decide +kernel
  have hl := lv_entry ([.ref (q 0), .int (zI p)]) (n := 4) (Nat.le_of_ble_eq_true rfl)
  have hE : entryFrame m9 ag9 4 = F0 m9 0 ((lg_sl ([.ref (q 0), .int (zI p)]) ++ List.replicate (4 - (lg_sl ([.ref (q 0), .int (zI p)])).length) Slot.unset).toArray) [] := by rw [hav]; exact lg_entry_eq m9 _ _
  obtain ⟨Q0, hQ0⟩ : ∃ Q0, Q0 = MQ below (zQ D (wC cI cZ q pa sp al (dgF pa sp n p) co da mb dd ah wl lo n td wn) (some (.int (zI (smF (wbF al da (dgF pa sp n p)) n)))) (zLC q)) ag9 s9 0 0 (fun a => a ∈ zLC q) := ⟨_, rfl⟩
  show W p0 l e9 ({ frames := 7, cells := 0, slots := 0, locals := 111 }) s9 m9 ag9 below meth c9 s9.heap [] 0 0 (MQ below (zQ D (wC cI cZ q pa sp al (dgF pa sp n p) co da mb dd ah wl lo n td wn) (some (.int (zI (smF (wbF al da (dgF pa sp n p)) n)))) (zLC q)) ag9 s9 0 0 (fun a => a ∈ zLC q)) _
  rw [hE, ← hQ0]
  have hS : va_S (fun a => a ∈ zLC q) s9.heap s9.heap [] := va_S.rf
  generalize hH0 : s9.heap = H at hP ⊢
  have hS : va_S (fun a => a ∈ zLC q) s9.heap H [] := by rw [hH0] at hS ⊢; exact hS
  generalize (lg_sl ([.ref (q 0), .int (zI p)]) ++ List.replicate (4 - (lg_sl ([.ref (q 0), .int (zI p)])).length) Slot.unset).toArray = ls at hl ⊢
  have hl : lv_has ls 4 [(0, .ref (q 0)), (1, .int (zI p))] := hl
  refine lv_aload_n hx hb dX2_wouldMourn_0 rfl (lv_at hl 0 rfl) ?_
  refine lv_iload_n hx hb dX2_wouldMourn_1 rfl (lv_at hl 1 rfl) ?_
  refine zcallV (ci := 2) (q0 := 0) (cq := (RX2, TX2, 9)) (As := [.int (zI p)]) (rest := []) ⟨hx, hb, hml, hown, hts⟩ hK (kX2_needPersonok l D cI cZ q hN pa sp al dg co da mb dd ah wl lo n td wn hn p (by omega)) (cwV 1 hts gX2_wouldMourn_X2_needPerson rfl rfl rfl (by decide +kernel) ⟨Nat.le_of_ble_eq_true rfl, Nat.le_of_ble_eq_true rfl⟩) hP hS hA rfl rfl rfl hl.1 rfl (Nat.le_of_ble_eq_true rfl) dX2_wouldMourn_2 ⟨Nat.zero_le _, Nat.zero_le _⟩ (fun H locs hP hS _ _ => ?_)
  refine W.eq (g2 := F0 m9 5 ls []) rfl ?_
  refine lv_aload_n hx hb dX2_wouldMourn_5 rfl (lv_at hl 0 rfl) ?_
  refine lv_iload_n hx hb dX2_wouldMourn_6 rfl (lv_at hl 1 rfl) ?_
  refine zcallV (ci := 2) (q0 := 0) (cq := (RX2, TX2, 9)) (As := [.int (zI p)]) (rest := []) ⟨hx, hb, hml, hown, hts⟩ hK (kX2_needAliveok l D cI cZ q hN pa sp al dg co da mb dd ah wl lo n td wn hal p (by omega) (by omega)) (cwV 1 hts gX2_wouldMourn_X2_needAlive rfl rfl rfl (by decide +kernel) ⟨Nat.le_of_ble_eq_true rfl, Nat.le_of_ble_eq_true rfl⟩) hP hS hA rfl rfl rfl hl.1 rfl (Nat.le_of_ble_eq_true rfl) dX2_wouldMourn_7 ⟨Nat.zero_le _, Nat.zero_le _⟩ (fun H locs hP hS _ _ => ?_)
  refine W.eq (g2 := F0 m9 10 ls []) rfl ?_
  refine lv_aload_n hx hb dX2_wouldMourn_10 rfl (lv_at hl 0 rfl) ?_
  refine va_get (D := D) (ci := 2) (v := .ref (q 1)) (C := RX2) (T := TX2) (N := 9) hx hb hts hin2 hown hK hP 0 rfl rfl 0 (by decide) (hts (.fieldLink RX2 12 "MourningRibbons" "family" "LMourningRibbons$Family;") (by decide +kernel)) (fun _ h9 => h9) rfl dX2_wouldMourn_11 ?_
  refine lv_iload_n hx hb dX2_wouldMourn_14 rfl (lv_at hl 1 rfl) ?_
  refine zcallV (ci := 1) (q0 := 1) (cq := (RX1, TX1, 5)) (As := [.int (zI p)]) (rest := []) ⟨hx, hb, hml, hown, hts⟩ hK (kX1_findDegrees l D cI cZ q hN pa sp al dg co da mb dd ah wl lo n td wn hpa hsp hn p (by omega)) (cwV 1 hts gX2_wouldMourn_X1_findDegrees rfl rfl rfl (by decide +kernel) ⟨Nat.le_of_ble_eq_true rfl, Nat.le_of_ble_eq_true rfl⟩) hP hS hA rfl rfl rfl hl.1 rfl (Nat.le_of_ble_eq_true rfl) dX2_wouldMourn_15 ⟨Nat.zero_le _, Nat.zero_le _⟩ (fun H locs hP hS _ _ => ?_)
  have g_1 : ∀ j : Int, 0 ≤ (dgF pa sp n p) j ∧ (dgF pa sp n p) j ≤ 4 := dgF_bd pa sp n p
  refine W.eq (g2 := F0 m9 18 ls []) rfl ?_
  refine zr_iconst hx hb dX2_wouldMourn_18 ?_
  refine lv_istore_n (lv' := [(2, .int (zI 0)), (0, .ref (q 0)), (1, .int (zI p))]) hx hb dX2_wouldMourn_19 rfl hl (by decide) rfl (fun ls hl => ?_)
  refine zr_iconst hx hb dX2_wouldMourn_20 ?_
  refine lv_istore_n (lv' := [(3, .int (zI 0)), (2, .int (zI 0)), (0, .ref (q 0)), (1, .int (zI p))]) hx hb dX2_wouldMourn_21 rfl hl (by decide) rfl (fun ls hl => ?_)
  have L22_2 : ∀ (kf i : Nat), i ≤ n → n - i < kf → ∀ (H : Heap) (locs : List Loc) (ls : Array Slot), va_P D vwCl (wC cI cZ q pa sp al (dgF pa sp n p) co da mb dd ah wl lo n td wn) H → va_S (fun a => a ∈ zLC q) s9.heap H locs → lv_has ls 4 [(3, .int (zI (i : Int))), (2, .int (zI (smF (wbF al da (dgF pa sp n p)) i))), (0, .ref (q 0)), (1, .int (zI p))] → W p0 l e9 ({ frames := 7, cells := 0, slots := 0, locals := 111 }) s9 m9 ag9 below meth c9 H locs 0 0 Q0 (F0 m9 22 ls []) := by
    intro kf
    induction kf with
    | zero => intro i h1 h2; omega
    | succ kf ih =>
      intro i hi_i hk_i H locs ls hP hS hl
      have ih_i := ih
      clear ih
      refine lv_iload_n hx hb dX2_wouldMourn_22 rfl (lv_at hl 0 rfl) ?_
      refine lv_aload_n hx hb dX2_wouldMourn_23 rfl (lv_at hl 2 rfl) ?_
      refine va_get (D := D) (ci := 2) (v := .ref (q 1)) (C := RX2) (T := TX2) (N := 9) hx hb hts hin2 hown hK hP 0 rfl rfl 0 (by decide) (hts (.fieldLink RX2 12 "MourningRibbons" "family" "LMourningRibbons$Family;") (by decide +kernel)) (fun _ h9 => h9) rfl dX2_wouldMourn_24 ?_
      refine va_get (D := D) (ci := 1) (v := .int (zI (n : Int))) (C := RX1) (T := TX1) (N := 5) hx hb hts hin1 hown hK hP 1 rfl rfl 3 (by decide) (hts (.fieldLink RX2 128 "MourningRibbons$Family" "count" "I") (by decide +kernel)) (fun _ h9 => h9) rfl dX2_wouldMourn_27 ?_
      refine zr_icmp_ge (tgt := 50) hx hb dX2_wouldMourn_30 (by decide) ⟨by omega, by omega⟩ ⟨by omega, by omega⟩ (fun c_3 => ?_) (fun c_3 => ?_)
      · have c_3 := c_3
        have x_4 : i = n := by omega
        try rw [x_4] at hP
        try rw [x_4] at hl
        refine lv_iload_n hx hb dX2_wouldMourn_50 rfl (lv_at hl 1 rfl) ?_
        rw [hQ0]
        exact zret_i hx hb hr hlocks (rfl) hP hS dX2_wouldMourn_51
      · have c_3 := c_3
        refine lv_aload_n hx hb dX2_wouldMourn_33 rfl (lv_at hl 2 rfl) ?_
        refine lv_iload_n hx hb dX2_wouldMourn_34 rfl (lv_at hl 0 rfl) ?_
        refine zcallV (ci := 2) (q0 := 0) (cq := (RX2, TX2, 9)) (As := [.int (zI (i : Int))]) (rest := []) ⟨hx, hb, hml, hown, hts⟩ hK (kX2_wouldBegin l D cI cZ q hN pa sp al (dgF pa sp n p) co da mb dd ah wl lo n td wn hal hda g_1 (i : Int) (by omega)) (cwV 1 hts gX2_wouldMourn_X2_wouldBegin rfl rfl rfl (by decide +kernel) ⟨Nat.le_of_ble_eq_true rfl, Nat.le_of_ble_eq_true rfl⟩) hP hS hA rfl rfl rfl hl.1 rfl (Nat.le_of_ble_eq_true rfl) dX2_wouldMourn_35 ⟨Nat.zero_le _, Nat.zero_le _⟩ (fun H locs hP hS _ _ => ?_)
        refine W.eq (g2 := F0 m9 38 ls [.int (zI (bI (al (i : Int) ≠ 0 ∧ 0 < dAll da 16 ((dgF pa sp n p) (i : Int)))))]) rfl ?_
        refine zr_if_eq (tgt := 44) hx hb dX2_wouldMourn_38 (by decide) (bI_rg _) (fun c_5 => ?_) (fun c_5 => ?_)
        · have c_5 := bI_z c_5
          refine zr_iinc (v := (i : Int) + 1) (lv' := [(3, .int (zI ((i : Int) + 1))), (2, .int (zI (smF (wbF al da (dgF pa sp n p)) i))), (0, .ref (q 0)), (1, .int (zI p))]) hx hb dX2_wouldMourn_44 hl (k := 0) rfl rfl (by decide) rfl (fun ls hl => ?_)
          refine lv_goto (tgt := 22) hx hb dX2_wouldMourn_47 (by decide) ?_
          have hl := lv_sub hl (l' := [(3, .int (zI ((i : Int) + 1))), (2, .int (zI (smF (wbF al da (dgF pa sp n p)) i))), (0, .ref (q 0)), (1, .int (zI p))]) [0, 1, 2, 3] rfl
          have e_6 : ((((i + 1) : Nat) : Int) : Int) = (i : Int) + 1 := by omega
          have e_7 : (smF (wbF al da (dgF pa sp n p)) (i + 1) : Int) = smF (wbF al da (dgF pa sp n p)) i := by rw [smF_s]; unfold wbF; first | (rw [if_pos (by assumption)]) | (rw [if_neg (by assumption)]; omega)
          have hl : lv_has ls 4 [(3, .int (zI (((i + 1) : Nat) : Int))), (2, .int (zI (smF (wbF al da (dgF pa sp n p)) (i + 1)))), (0, .ref (q 0)), (1, .int (zI p))] := by rw [e_6, e_7]; exact hl
          exact ih_i (i + 1) (by omega) (by omega) _ _ _ hP hS hl
        · have c_5 := bI_n c_5
          refine zr_iinc (v := (smF (wbF al da (dgF pa sp n p)) i) + 1) (lv' := [(2, .int (zI ((smF (wbF al da (dgF pa sp n p)) i) + 1))), (3, .int (zI (i : Int))), (0, .ref (q 0)), (1, .int (zI p))]) hx hb dX2_wouldMourn_41 hl (k := 1) rfl rfl (by decide) rfl (fun ls hl => ?_)
          refine zr_iinc (v := (i : Int) + 1) (lv' := [(3, .int (zI ((i : Int) + 1))), (2, .int (zI ((smF (wbF al da (dgF pa sp n p)) i) + 1))), (0, .ref (q 0)), (1, .int (zI p))]) hx hb dX2_wouldMourn_44 hl (k := 1) rfl rfl (by decide) rfl (fun ls hl => ?_)
          refine lv_goto (tgt := 22) hx hb dX2_wouldMourn_47 (by decide) ?_
          have hl := lv_sub hl (l' := [(3, .int (zI ((i : Int) + 1))), (2, .int (zI ((smF (wbF al da (dgF pa sp n p)) i) + 1))), (0, .ref (q 0)), (1, .int (zI p))]) [0, 1, 2, 3] rfl
          have e_8 : ((((i + 1) : Nat) : Int) : Int) = (i : Int) + 1 := by omega
          have e_9 : (smF (wbF al da (dgF pa sp n p)) (i + 1) : Int) = (smF (wbF al da (dgF pa sp n p)) i) + 1 := by rw [smF_s]; unfold wbF; first | (rw [if_pos (by assumption)]) | (rw [if_neg (by assumption)]; omega)
          have hl : lv_has ls 4 [(3, .int (zI (((i + 1) : Nat) : Int))), (2, .int (zI (smF (wbF al da (dgF pa sp n p)) (i + 1)))), (0, .ref (q 0)), (1, .int (zI p))] := by rw [e_8, e_9]; exact hl
          exact ih_i (i + 1) (by omega) (by omega) _ _ _ hP hS hl
  have hl := lv_sub hl (l' := [(3, .int (zI 0)), (2, .int (zI 0)), (0, .ref (q 0)), (1, .int (zI p))]) [0, 1, 2, 3] rfl
  have e_10 : (smF (wbF al da (dgF pa sp n p)) 0 : Int) = 0 := rfl
  have hl : lv_has ls 4 [(3, .int (zI 0)), (2, .int (zI (smF (wbF al da (dgF pa sp n p)) 0))), (0, .ref (q 0)), (1, .int (zI p))] := by rw [e_10]; exact hl
  exact L22_2 (n + 1) 0 (Nat.zero_le _) (by omega) _ _ _ hP hS hl
set_option maxHeartbeats 4000000 in
set_option maxRecDepth 100000 in
theorem kX2_wouldWearok (l : Launch) (D : va_G) (cI cZ : ClassId) (q : Nat → Nat) (hN : (zLC q).Nodup) (pa : Int → Int) (sp : Int → Int) (al : Int → Int) (dg : Int → Int) (co : Int → Int) (da : Int → Int) (mb : Int → Int) (dd : Int → Int) (ah : Int → Int) (wl : Int → Int) (lo : Int → Int) (n : Nat) (td : Int) (wn : Int) (hn : n ≤ 16) (hco : ∀ j : Int, 0 ≤ co j ∧ co j ≤ 5) (hda : ∀ j : Int, 0 ≤ da j ∧ da j ≤ 60) (hmb : ∀ j : Int, 0 ≤ mb j ∧ mb j ≤ 4) (hdd : ∀ j : Int, 0 ≤ dd j ∧ dd j ≤ 1000000) (htd : 0 ≤ td ∧ td ≤ 1000000) (hpa : ∀ j : Int, -1 ≤ pa j ∧ pa j ≤ 15) (hsp : ∀ j : Int, -1 ≤ sp j ∧ sp j ≤ 15) (hal : ∀ j : Int, 0 ≤ al j ∧ al j ≤ 1) (p : Int) (d : Int) (h1 : 0 ≤ p ∧ p < (n : Int)) (h2 : 0 ≤ d ∧ d < (n : Int)) (h3 : p ≠ d) (h4 : al p ≠ 0) (h5 : al d ≠ 0) : zM l yX2_wouldWear wsX2_wouldWear ({ frames := 7, cells := 0, slots := 0, locals := 112 }) D [(cI, .int), (cZ, .boolean)] [.ref (q 0), .int (zI p), .int (zI d)] (wC cI cZ q pa sp al dg co da mb dd ah wl lo n td wn) (wC cI cZ q pa sp al (dgF pa sp n d) co da mb dd ah wl lo n td wn) (some (.int (zI (max (ca co da mb dd td n p 0) (cOn co da 16 (dgF pa sp n d p) 0))))) (zLC q) := by
  refine Met.ofW (cc := cX2_wouldWear) (maxL := 4) (ret := (some .int)) (by decide) rfl ?_
  intro p0 e9 s9 m9 ag9 below meth c9 s₁ B hml hv
  obtain ⟨hav, hP, hK⟩ := hv
  have hx := B.exec
  have hb := B.bytes
  have hr := B.returns
  have hts := atoms_spec (ws := wsX2_wouldWear) B.pre
  have hown : s9.vm.findClass RX2 = some m9.cls := findClass_of_methodNamed B.named
  have hlocks := B.notSynchronized
  have hA : ∀ a ∈ zLC q, (fun a => a ∈ zLC q) a := fun _ h => h
  have hin1 : ∀ w ∈ u_ws RX1 TX1 5, w ∈ wsX2_wouldWear := by decide +kernel
  have hin2 : ∀ w ∈ u_ws RX2 TX2 9, w ∈ wsX2_wouldWear := by decide +kernel
  have hl := lv_entry ([.ref (q 0), .int (zI p), .int (zI d)]) (n := 4) (Nat.le_of_ble_eq_true rfl)
  have hE : entryFrame m9 ag9 4 = F0 m9 0 ((lg_sl ([.ref (q 0), .int (zI p), .int (zI d)]) ++ List.replicate (4 - (lg_sl ([.ref (q 0), .int (zI p), .int (zI d)])).length) Slot.unset).toArray) [] := by rw [hav]; exact lg_entry_eq m9 _ _
  obtain ⟨Q0, hQ0⟩ : ∃ Q0, Q0 = MQ below (zQ D (wC cI cZ q pa sp al (dgF pa sp n d) co da mb dd ah wl lo n td wn) (some (.int (zI (max (ca co da mb dd td n p 0) (cOn co da 16 (dgF pa sp n d p) 0))))) (zLC q)) ag9 s9 0 0 (fun a => a ∈ zLC q) := ⟨_, rfl⟩
  show W p0 l e9 ({ frames := 7, cells := 0, slots := 0, locals := 112 }) s9 m9 ag9 below meth c9 s9.heap [] 0 0 (MQ below (zQ D (wC cI cZ q pa sp al (dgF pa sp n d) co da mb dd ah wl lo n td wn) (some (.int (zI (max (ca co da mb dd td n p 0) (cOn co da 16 (dgF pa sp n d p) 0))))) (zLC q)) ag9 s9 0 0 (fun a => a ∈ zLC q)) _
  rw [hE, ← hQ0]
  have hS : va_S (fun a => a ∈ zLC q) s9.heap s9.heap [] := va_S.rf
  generalize hH0 : s9.heap = H at hP ⊢
  have hS : va_S (fun a => a ∈ zLC q) s9.heap H [] := by rw [hH0] at hS ⊢; exact hS
  generalize (lg_sl ([.ref (q 0), .int (zI p), .int (zI d)]) ++ List.replicate (4 - (lg_sl ([.ref (q 0), .int (zI p), .int (zI d)])).length) Slot.unset).toArray = ls at hl ⊢
  have hl : lv_has ls 4 [(0, .ref (q 0)), (1, .int (zI p)), (2, .int (zI d))] := hl
  refine lv_aload_n hx hb dX2_wouldWear_0 rfl (lv_at hl 0 rfl) ?_
  refine lv_iload_n hx hb dX2_wouldWear_1 rfl (lv_at hl 1 rfl) ?_
  refine zcallV (ci := 2) (q0 := 0) (cq := (RX2, TX2, 9)) (As := [.int (zI p)]) (rest := []) ⟨hx, hb, hml, hown, hts⟩ hK (kX2_needPersonok l D cI cZ q hN pa sp al dg co da mb dd ah wl lo n td wn hn p (by omega)) (cwV 1 hts gX2_wouldWear_X2_needPerson rfl rfl rfl (by decide +kernel) ⟨Nat.le_of_ble_eq_true rfl, Nat.le_of_ble_eq_true rfl⟩) hP hS hA rfl rfl rfl hl.1 rfl (Nat.le_of_ble_eq_true rfl) dX2_wouldWear_2 ⟨Nat.zero_le _, Nat.zero_le _⟩ (fun H locs hP hS _ _ => ?_)
  refine W.eq (g2 := F0 m9 5 ls []) rfl ?_
  refine lv_aload_n hx hb dX2_wouldWear_5 rfl (lv_at hl 0 rfl) ?_
  refine lv_iload_n hx hb dX2_wouldWear_6 rfl (lv_at hl 2 rfl) ?_
  refine zcallV (ci := 2) (q0 := 0) (cq := (RX2, TX2, 9)) (As := [.int (zI d)]) (rest := []) ⟨hx, hb, hml, hown, hts⟩ hK (kX2_needPersonok l D cI cZ q hN pa sp al dg co da mb dd ah wl lo n td wn hn d (by omega)) (cwV 1 hts gX2_wouldWear_X2_needPerson rfl rfl rfl (by decide +kernel) ⟨Nat.le_of_ble_eq_true rfl, Nat.le_of_ble_eq_true rfl⟩) hP hS hA rfl rfl rfl hl.1 rfl (Nat.le_of_ble_eq_true rfl) dX2_wouldWear_7 ⟨Nat.zero_le _, Nat.zero_le _⟩ (fun H locs hP hS _ _ => ?_)
  refine W.eq (g2 := F0 m9 10 ls []) rfl ?_
  refine lv_aload_n hx hb dX2_wouldWear_10 rfl (lv_at hl 0 rfl) ?_
  refine lv_iload_n hx hb dX2_wouldWear_11 rfl (lv_at hl 1 rfl) ?_
  refine lv_iload_n hx hb dX2_wouldWear_12 rfl (lv_at hl 2 rfl) ?_
  refine zcallV (ci := 2) (q0 := 0) (cq := (RX2, TX2, 9)) (As := [.int (zI p), .int (zI d)]) (rest := []) ⟨hx, hb, hml, hown, hts⟩ hK (kX2_needTwook l D cI cZ q hN pa sp al dg co da mb dd ah wl lo n td wn p d (by omega) (by omega) (by omega)) (cwV 2 hts gX2_wouldWear_X2_needTwo rfl rfl rfl (by decide +kernel) ⟨Nat.le_of_ble_eq_true rfl, Nat.le_of_ble_eq_true rfl⟩) hP hS hA rfl rfl rfl hl.1 rfl (Nat.le_of_ble_eq_true rfl) dX2_wouldWear_13 ⟨Nat.zero_le _, Nat.zero_le _⟩ (fun H locs hP hS _ _ => ?_)
  refine W.eq (g2 := F0 m9 16 ls []) rfl ?_
  refine lv_aload_n hx hb dX2_wouldWear_16 rfl (lv_at hl 0 rfl) ?_
  refine lv_iload_n hx hb dX2_wouldWear_17 rfl (lv_at hl 1 rfl) ?_
  refine zcallV (ci := 2) (q0 := 0) (cq := (RX2, TX2, 9)) (As := [.int (zI p)]) (rest := []) ⟨hx, hb, hml, hown, hts⟩ hK (kX2_needAliveok l D cI cZ q hN pa sp al dg co da mb dd ah wl lo n td wn hal p (by omega) (by omega)) (cwV 1 hts gX2_wouldWear_X2_needAlive rfl rfl rfl (by decide +kernel) ⟨Nat.le_of_ble_eq_true rfl, Nat.le_of_ble_eq_true rfl⟩) hP hS hA rfl rfl rfl hl.1 rfl (Nat.le_of_ble_eq_true rfl) dX2_wouldWear_18 ⟨Nat.zero_le _, Nat.zero_le _⟩ (fun H locs hP hS _ _ => ?_)
  refine W.eq (g2 := F0 m9 21 ls []) rfl ?_
  refine lv_aload_n hx hb dX2_wouldWear_21 rfl (lv_at hl 0 rfl) ?_
  refine lv_iload_n hx hb dX2_wouldWear_22 rfl (lv_at hl 2 rfl) ?_
  refine zcallV (ci := 2) (q0 := 0) (cq := (RX2, TX2, 9)) (As := [.int (zI d)]) (rest := []) ⟨hx, hb, hml, hown, hts⟩ hK (kX2_needAliveok l D cI cZ q hN pa sp al dg co da mb dd ah wl lo n td wn hal d (by omega) (by omega)) (cwV 1 hts gX2_wouldWear_X2_needAlive rfl rfl rfl (by decide +kernel) ⟨Nat.le_of_ble_eq_true rfl, Nat.le_of_ble_eq_true rfl⟩) hP hS hA rfl rfl rfl hl.1 rfl (Nat.le_of_ble_eq_true rfl) dX2_wouldWear_23 ⟨Nat.zero_le _, Nat.zero_le _⟩ (fun H locs hP hS _ _ => ?_)
  refine W.eq (g2 := F0 m9 26 ls []) rfl ?_
  refine lv_aload_n hx hb dX2_wouldWear_26 rfl (lv_at hl 0 rfl) ?_
  refine va_get (D := D) (ci := 2) (v := .ref (q 1)) (C := RX2) (T := TX2) (N := 9) hx hb hts hin2 hown hK hP 0 rfl rfl 0 (by decide) (hts (.fieldLink RX2 12 "MourningRibbons" "family" "LMourningRibbons$Family;") (by decide +kernel)) (fun _ h9 => h9) rfl dX2_wouldWear_27 ?_
  refine lv_iload_n hx hb dX2_wouldWear_30 rfl (lv_at hl 2 rfl) ?_
  refine zcallV (ci := 1) (q0 := 1) (cq := (RX1, TX1, 5)) (As := [.int (zI d)]) (rest := []) ⟨hx, hb, hml, hown, hts⟩ hK (kX1_findDegrees l D cI cZ q hN pa sp al dg co da mb dd ah wl lo n td wn hpa hsp hn d (by omega)) (cwV 1 hts gX2_wouldWear_X1_findDegrees rfl rfl rfl (by decide +kernel) ⟨Nat.le_of_ble_eq_true rfl, Nat.le_of_ble_eq_true rfl⟩) hP hS hA rfl rfl rfl hl.1 rfl (Nat.le_of_ble_eq_true rfl) dX2_wouldWear_31 ⟨Nat.zero_le _, Nat.zero_le _⟩ (fun H locs hP hS _ _ => ?_)
  have g_1 : ∀ j : Int, 0 ≤ (dgF pa sp n d) j ∧ (dgF pa sp n d) j ≤ 4 := dgF_bd pa sp n d
  refine W.eq (g2 := F0 m9 34 ls []) rfl ?_
  refine lv_aload_n hx hb dX2_wouldWear_34 rfl (lv_at hl 0 rfl) ?_
  refine va_get (D := D) (ci := 2) (v := .ref (q 2)) (C := RX2) (T := TX2) (N := 9) hx hb hts hin2 hown hK hP 0 rfl rfl 1 (by decide) (hts (.fieldLink RX2 19 "MourningRibbons" "codes" "LMourningRibbons$Codes;") (by decide +kernel)) (fun _ h9 => h9) rfl dX2_wouldWear_35 ?_
  refine zr_bipush hx hb dX2_wouldWear_38 (by decide) ?_
  refine lv_aload_n hx hb dX2_wouldWear_40 rfl (lv_at hl 0 rfl) ?_
  refine va_get (D := D) (ci := 2) (v := .ref (q 1)) (C := RX2) (T := TX2) (N := 9) hx hb hts hin2 hown hK hP 0 rfl rfl 0 (by decide) (hts (.fieldLink RX2 12 "MourningRibbons" "family" "LMourningRibbons$Family;") (by decide +kernel)) (fun _ h9 => h9) rfl dX2_wouldWear_41 ?_
  refine va_get (D := D) (ci := 1) (v := .ref (q 11)) (C := RX1) (T := TX1) (N := 5) hx hb hts hin1 hown hK hP 1 rfl rfl 4 (by decide) (hts (.fieldLink RX2 71 "MourningRibbons$Family" "degrees" "[I") (by decide +kernel)) (fun _ h9 => h9) rfl dX2_wouldWear_44 ?_
  refine lv_iload_n hx hb dX2_wouldWear_47 rfl (lv_at hl 1 rfl) ?_
  refine zr_iald (f := dgF pa sp n d) (n := 16) hx hb hK hP 11 0 rfl rfl (by decide) (i := p) (by omega) (by omega) dX2_wouldWear_48 ?_
  have b_2 := g_1 p
  refine zr_iconst hx hb dX2_wouldWear_49 ?_
  refine zcallV (ci := 0) (q0 := 2) (cq := (RX0, TX0, 2)) (As := [.int (zI 16), .int (zI ((dgF pa sp n d) p)), .int (zI 0)]) (rest := []) ⟨hx, hb, hml, hown, hts⟩ hK (kX0_colourOn l D cI cZ q hN pa sp al (dgF pa sp n d) co da mb dd ah wl lo n td wn hco hda 16 ((dgF pa sp n d) p) 0 (by omega) (by omega) (by omega)) (cwV 3 hts gX2_wouldWear_X0_colourOn rfl rfl rfl (by decide +kernel) ⟨Nat.le_of_ble_eq_true rfl, Nat.le_of_ble_eq_true rfl⟩) hP hS hA rfl rfl rfl hl.1 rfl (Nat.le_of_ble_eq_true rfl) dX2_wouldWear_50 ⟨Nat.zero_le _, Nat.zero_le _⟩ (fun H locs hP hS _ _ => ?_)
  refine W.eq (g2 := F0 m9 53 ls [.int (zI (cOn co da 16 ((dgF pa sp n d) p) 0))]) rfl ?_
  have f_3 := cOn_bd hco da 16 ((dgF pa sp n d) p) 0
  refine lv_istore_n (lv' := [(3, .int (zI (cOn co da 16 ((dgF pa sp n d) p) 0))), (0, .ref (q 0)), (1, .int (zI p)), (2, .int (zI d))]) hx hb dX2_wouldWear_53 rfl hl (by decide) rfl (fun ls hl => ?_)
  refine lv_aload_n hx hb dX2_wouldWear_54 rfl (lv_at hl 1 rfl) ?_
  refine lv_iload_n hx hb dX2_wouldWear_55 rfl (lv_at hl 2 rfl) ?_
  refine zr_iconst hx hb dX2_wouldWear_56 ?_
  refine zcallV (ci := 2) (q0 := 0) (cq := (RX2, TX2, 9)) (As := [.int (zI p), .int (zI 0)]) (rest := []) ⟨hx, hb, hml, hown, hts⟩ hK (kX2_colourAfter l D cI cZ q hN pa sp al (dgF pa sp n d) co da mb dd ah wl lo n td wn hn hco hda hmb hdd htd p 0 (by omega) (by omega)) (cwV 2 hts gX2_wouldWear_X2_colourAfter rfl rfl rfl (by decide +kernel) ⟨Nat.le_of_ble_eq_true rfl, Nat.le_of_ble_eq_true rfl⟩) hP hS hA rfl rfl rfl hl.1 rfl (Nat.le_of_ble_eq_true rfl) dX2_wouldWear_57 ⟨Nat.zero_le _, Nat.zero_le _⟩ (fun H locs hP hS _ _ => ?_)
  refine W.eq (g2 := F0 m9 60 ls [.int (zI (ca co da mb dd td n p 0))]) rfl ?_
  have f_4 := ca_bd hco da mb dd td n p 0
  refine lv_iload_n hx hb dX2_wouldWear_60 rfl (lv_at hl 0 rfl) ?_
  refine zr_mmax hx hb (by rw [hml, hl.1]) hown (hts (.methodLink RX2 181 Lib.Math.max.name) (by decide +kernel)) (hts (.static Lib.Math.max.name) (by decide +kernel)) (hts (.initialized "java/lang/Math") (by decide +kernel)) (hts (.code Lib.Math.max.name Lib.Math.max.code 2 (some .int)) (by decide +kernel)) (Nat.le_of_ble_eq_true rfl) (Nat.le_of_ble_eq_true rfl) (Nat.zero_le _) (Nat.zero_le _) ⟨by omega, by omega⟩ ⟨by omega, by omega⟩ dX2_wouldWear_61 ?_
  rw [hQ0]
  exact zret_i hx hb hr hlocks (rfl) hP hS dX2_wouldWear_64
set_option maxHeartbeats 4000000 in
set_option maxRecDepth 100000 in
theorem kX2_heaviestLoss (l : Launch) (D : va_G) (cI cZ : ClassId) (q : Nat → Nat) (hN : (zLC q).Nodup) (pa : Int → Int) (sp : Int → Int) (al : Int → Int) (dg : Int → Int) (co : Int → Int) (da : Int → Int) (mb : Int → Int) (dd : Int → Int) (ah : Int → Int) (wl : Int → Int) (lo : Int → Int) (n : Nat) (td : Int) (wn : Int) (hn : n ≤ 16) (hco : ∀ j : Int, 0 ≤ co j ∧ co j ≤ 5) (hda : ∀ j : Int, 0 ≤ da j ∧ da j ≤ 60) (hmb : ∀ j : Int, 0 ≤ mb j ∧ mb j ≤ 4) (hdd : ∀ j : Int, 0 ≤ dd j ∧ dd j ≤ 1000000) (htd : 0 ≤ td ∧ td ≤ 1000000) (hpa : ∀ j : Int, -1 ≤ pa j ∧ pa j ≤ 15) (hsp : ∀ j : Int, -1 ≤ sp j ∧ sp j ≤ 15) (hal : ∀ j : Int, 0 ≤ al j ∧ al j ≤ 1) : zM l yX2_heaviestLoss wsX2_heaviestLoss ({ frames := 5, cells := 0, slots := 0, locals := 117 }) D [(cI, .int), (cZ, .boolean)] [.ref (q 0)] (wC cI cZ q pa sp al dg co da mb dd ah wl lo n td wn) (wC cI cZ q pa sp al (lsF al dg (dgF pa sp n) n) co da mb dd (lsF al ah (ca co da mb dd td n) n) (lsF al wl (wwP co da mb dd td n) n) (hlF pa sp al co da mb dd td n n) n td wn) (some (.int (zI (hvF al (hlF pa sp al co da mb dd td n n) n)))) (zLC q) := by
  refine Met.ofW (cc := cX2_heaviestLoss) (maxL := 3) (ret := (some .int)) (by decide) rfl ?_
  intro p0 e9 s9 m9 ag9 below meth c9 s₁ B hml hv
  obtain ⟨hav, hP, hK⟩ := hv
  have hx := B.exec
  have hb := B.bytes
  have hr := B.returns
  have hts := atoms_spec (ws := wsX2_heaviestLoss) B.pre
  have hown : s9.vm.findClass RX2 = some m9.cls := findClass_of_methodNamed B.named
  have hlocks := B.notSynchronized
  have hA : ∀ a ∈ zLC q, (fun a => a ∈ zLC q) a := fun _ h => h
  have hin1 : ∀ w ∈ u_ws RX1 TX1 5, w ∈ wsX2_heaviestLoss := by decide +kernel
  have hin2 : ∀ w ∈ u_ws RX2 TX2 9, w ∈ wsX2_heaviestLoss := by decide +kernel
  have hl := lv_entry ([.ref (q 0)]) (n := 3) (Nat.le_of_ble_eq_true rfl)
  have hE : entryFrame m9 ag9 3 = F0 m9 0 ((lg_sl ([.ref (q 0)]) ++ List.replicate (3 - (lg_sl ([.ref (q 0)])).length) Slot.unset).toArray) [] := by rw [hav]; exact lg_entry_eq m9 _ _
  obtain ⟨Q0, hQ0⟩ : ∃ Q0, Q0 = MQ below (zQ D (wC cI cZ q pa sp al (lsF al dg (dgF pa sp n) n) co da mb dd (lsF al ah (ca co da mb dd td n) n) (lsF al wl (wwP co da mb dd td n) n) (hlF pa sp al co da mb dd td n n) n td wn) (some (.int (zI (hvF al (hlF pa sp al co da mb dd td n n) n)))) (zLC q)) ag9 s9 0 0 (fun a => a ∈ zLC q) := ⟨_, rfl⟩
  show W p0 l e9 ({ frames := 5, cells := 0, slots := 0, locals := 117 }) s9 m9 ag9 below meth c9 s9.heap [] 0 0 (MQ below (zQ D (wC cI cZ q pa sp al (lsF al dg (dgF pa sp n) n) co da mb dd (lsF al ah (ca co da mb dd td n) n) (lsF al wl (wwP co da mb dd td n) n) (hlF pa sp al co da mb dd td n n) n td wn) (some (.int (zI (hvF al (hlF pa sp al co da mb dd td n n) n)))) (zLC q)) ag9 s9 0 0 (fun a => a ∈ zLC q)) _
  rw [hE, ← hQ0]
  have hS : va_S (fun a => a ∈ zLC q) s9.heap s9.heap [] := va_S.rf
  generalize hH0 : s9.heap = H at hP ⊢
  have hS : va_S (fun a => a ∈ zLC q) s9.heap H [] := by rw [hH0] at hS ⊢; exact hS
  generalize (lg_sl ([.ref (q 0)]) ++ List.replicate (3 - (lg_sl ([.ref (q 0)])).length) Slot.unset).toArray = ls at hl ⊢
  have hl : lv_has ls 3 [(0, .ref (q 0))] := hl
  refine lv_aload_n hx hb dX2_heaviestLoss_0 rfl (lv_at hl 0 rfl) ?_
  refine va_get (D := D) (ci := 2) (v := .ref (q 7)) (C := RX2) (T := TX2) (N := 9) hx hb hts hin2 hown hK hP 0 rfl rfl 8 (by decide) (hts (.fieldLink RX2 36 "MourningRibbons" "loss" "[I") (by decide +kernel)) (fun _ h9 => h9) rfl dX2_heaviestLoss_1 ?_
  refine zr_iconst hx hb dX2_heaviestLoss_4 ?_
  refine zcallS (As := [.ref (q 7), .int (zI 0)]) (rest := []) ⟨hx, hb, hml, hown, hts⟩ hK (kJ7_fill l D (tys := [(cI, .int), (cZ, .boolean)]) (w := (wC cI cZ q pa sp al dg co da mb dd ah wl lo n td wn)) (L := zLC q) 7 0 (a := q 7) (cA := cI) (n := 16) (f := lo) 0 rfl rfl hN rfl (by decide)) (va_cwS 2 hts gX2_heaviestLoss_J7_fill_53178 rfl rfl rfl (by decide +kernel) ⟨Nat.le_of_ble_eq_true rfl, Nat.le_of_ble_eq_true rfl⟩) hP hS hA rfl hl.1 rfl (Nat.le_of_ble_eq_true rfl) dX2_heaviestLoss_5 ⟨Nat.zero_le _, Nat.zero_le _⟩ (fun H locs hP hS _ _ => ?_)
  have hP : va_P D vwCl (wC cI cZ q pa sp al dg co da mb dd ah wl (cst 0) n td wn) H := zcg (f := fun j => if 0 ≤ j ∧ j < 16 then 0 else lo j) (g := cst 0) hP 7 rfl (fun j h0 h1 => if_pos ⟨h0, h1⟩)
  refine W.eq (g2 := F0 m9 8 ls []) rfl ?_
  refine zr_iconst hx hb dX2_heaviestLoss_8 ?_
  refine lv_istore_n (lv' := [(1, .int (zI 0)), (0, .ref (q 0))]) hx hb dX2_heaviestLoss_9 rfl hl (by decide) rfl (fun ls hl => ?_)
  have L10_1 : ∀ (kf i : Nat), i ≤ n → n - i < kf → ∀ (H : Heap) (locs : List Loc) (ls : Array Slot), va_P D vwCl (wC cI cZ q pa sp al (lsF al dg (dgF pa sp n) i) co da mb dd (lsF al ah (ca co da mb dd td n) i) (lsF al wl (wwP co da mb dd td n) i) (hlF pa sp al co da mb dd td n i) n td wn) H → va_S (fun a => a ∈ zLC q) s9.heap H locs → lv_has ls 3 [(1, .int (zI (i : Int))), (0, .ref (q 0))] → W p0 l e9 ({ frames := 5, cells := 0, slots := 0, locals := 117 }) s9 m9 ag9 below meth c9 H locs 0 0 Q0 (F0 m9 10 ls []) := by
    intro kf
    induction kf with
    | zero => intro i h1 h2; omega
    | succ kf ih =>
      intro i hi_i hk_i H locs ls hP hS hl
      have ih_i := ih
      clear ih
      refine lv_iload_n hx hb dX2_heaviestLoss_10 rfl (lv_at hl 0 rfl) ?_
      refine lv_aload_n hx hb dX2_heaviestLoss_11 rfl (lv_at hl 1 rfl) ?_
      refine va_get (D := D) (ci := 2) (v := .ref (q 1)) (C := RX2) (T := TX2) (N := 9) hx hb hts hin2 hown hK hP 0 rfl rfl 0 (by decide) (hts (.fieldLink RX2 12 "MourningRibbons" "family" "LMourningRibbons$Family;") (by decide +kernel)) (fun _ h9 => h9) rfl dX2_heaviestLoss_12 ?_
      refine va_get (D := D) (ci := 1) (v := .int (zI (n : Int))) (C := RX1) (T := TX1) (N := 5) hx hb hts hin1 hown hK hP 1 rfl rfl 3 (by decide) (hts (.fieldLink RX2 128 "MourningRibbons$Family" "count" "I") (by decide +kernel)) (fun _ h9 => h9) rfl dX2_heaviestLoss_15 ?_
      refine zr_icmp_ge (tgt := 44) hx hb dX2_heaviestLoss_18 (by decide) ⟨by omega, by omega⟩ ⟨by omega, by omega⟩ (fun c_2 => ?_) (fun c_2 => ?_)
      · have c_2 := c_2
        have x_3 : i = n := by omega
        try rw [x_3] at hP
        try rw [x_3] at hl
        refine zr_iconst hx hb dX2_heaviestLoss_44 ?_
        refine lv_istore_n (lv' := [(1, .int (zI (-1))), (0, .ref (q 0))]) hx hb dX2_heaviestLoss_45 rfl hl (by decide) rfl (fun ls hl => ?_)
        refine zr_iconst hx hb dX2_heaviestLoss_46 ?_
        refine lv_istore_n (lv' := [(2, .int (zI 0)), (1, .int (zI (-1))), (0, .ref (q 0))]) hx hb dX2_heaviestLoss_47 rfl hl (by decide) rfl (fun ls hl => ?_)
        have L48_4 : ∀ (kf j : Nat), j ≤ n → n - j < kf → ∀ (H : Heap) (locs : List Loc) (ls : Array Slot), va_P D vwCl (wC cI cZ q pa sp al (lsF al dg (dgF pa sp n) n) co da mb dd (lsF al ah (ca co da mb dd td n) n) (lsF al wl (wwP co da mb dd td n) n) (hlF pa sp al co da mb dd td n n) n td wn) H → va_S (fun a => a ∈ zLC q) s9.heap H locs → lv_has ls 3 [(2, .int (zI (j : Int))), (1, .int (zI (hvF al (hlF pa sp al co da mb dd td n n) j))), (0, .ref (q 0))] → W p0 l e9 ({ frames := 5, cells := 0, slots := 0, locals := 117 }) s9 m9 ag9 below meth c9 H locs 0 0 Q0 (F0 m9 48 ls []) := by
          intro kf
          induction kf with
          | zero => intro j h1 h2; omega
          | succ kf ih =>
            intro j hi_j hk_j H locs ls hP hS hl
            have ih_j := ih
            clear ih
            have hr9 := hvF_rg al (hlF pa sp al co da mb dd td n n) j
            have hb8 := hlF_bd pa sp al co da mb dd td n n (j : Int)
            have hb9 := hlF_bd pa sp al co da mb dd td n n (hvF al (hlF pa sp al co da mb dd td n n) j)
            refine lv_iload_n hx hb dX2_heaviestLoss_48 rfl (lv_at hl 0 rfl) ?_
            refine lv_aload_n hx hb dX2_heaviestLoss_49 rfl (lv_at hl 2 rfl) ?_
            refine va_get (D := D) (ci := 2) (v := .ref (q 1)) (C := RX2) (T := TX2) (N := 9) hx hb hts hin2 hown hK hP 0 rfl rfl 0 (by decide) (hts (.fieldLink RX2 12 "MourningRibbons" "family" "LMourningRibbons$Family;") (by decide +kernel)) (fun _ h9 => h9) rfl dX2_heaviestLoss_50 ?_
            refine va_get (D := D) (ci := 1) (v := .int (zI (n : Int))) (C := RX1) (T := TX1) (N := 5) hx hb hts hin1 hown hK hP 1 rfl rfl 3 (by decide) (hts (.fieldLink RX2 128 "MourningRibbons$Family" "count" "I") (by decide +kernel)) (fun _ h9 => h9) rfl dX2_heaviestLoss_53 ?_
            refine zr_icmp_ge (tgt := 99) hx hb dX2_heaviestLoss_56 (by decide) ⟨by omega, by omega⟩ ⟨by omega, by omega⟩ (fun c_5 => ?_) (fun c_5 => ?_)
            · have c_5 := c_5
              have x_6 : j = n := by omega
              try rw [x_6] at hP
              try rw [x_6] at hl
              refine lv_iload_n hx hb dX2_heaviestLoss_99 rfl (lv_at hl 1 rfl) ?_
              rw [hQ0]
              exact zret_i hx hb hr hlocks (rfl) hP hS dX2_heaviestLoss_100
            · have c_5 := c_5
              refine lv_aload_n hx hb dX2_heaviestLoss_59 rfl (lv_at hl 2 rfl) ?_
              refine va_get (D := D) (ci := 2) (v := .ref (q 1)) (C := RX2) (T := TX2) (N := 9) hx hb hts hin2 hown hK hP 0 rfl rfl 0 (by decide) (hts (.fieldLink RX2 12 "MourningRibbons" "family" "LMourningRibbons$Family;") (by decide +kernel)) (fun _ h9 => h9) rfl dX2_heaviestLoss_60 ?_
              refine va_get (D := D) (ci := 1) (v := .ref (q 10)) (C := RX1) (T := TX1) (N := 5) hx hb hts hin1 hown hK hP 1 rfl rfl 2 (by decide) (hts (.fieldLink RX2 101 "MourningRibbons$Family" "alive" "[Z") (by decide +kernel)) (fun _ h9 => h9) rfl dX2_heaviestLoss_63 ?_
              refine lv_iload_n hx hb dX2_heaviestLoss_66 rfl (lv_at hl 0 rfl) ?_
              refine zr_zald (f := al) (n := 16) hx hb hK hP 10 1 rfl rfl (by decide) (i := (j : Int)) (by omega) (by omega) dX2_heaviestLoss_67 ?_
              have b_7 := hal (j : Int)
              refine zr_if_eq (tgt := 93) hx hb dX2_heaviestLoss_68 (by decide) ⟨by omega, by omega⟩ (fun c_8 => ?_) (fun c_8 => ?_)
              · have c_8 := c_8
                refine zr_iinc (v := (j : Int) + 1) (lv' := [(2, .int (zI ((j : Int) + 1))), (1, .int (zI (hvF al (hlF pa sp al co da mb dd td n n) j))), (0, .ref (q 0))]) hx hb dX2_heaviestLoss_93 hl (k := 0) rfl rfl (by decide) rfl (fun ls hl => ?_)
                refine lv_goto (tgt := 48) hx hb dX2_heaviestLoss_96 (by decide) ?_
                have hl := lv_sub hl (l' := [(2, .int (zI ((j : Int) + 1))), (1, .int (zI (hvF al (hlF pa sp al co da mb dd td n n) j))), (0, .ref (q 0))]) [0, 1, 2] rfl
                have e_9 : ((((j + 1) : Nat) : Int) : Int) = (j : Int) + 1 := by omega
                have e_10 : (hvF al (hlF pa sp al co da mb dd td n n) (j + 1) : Int) = hvF al (hlF pa sp al co da mb dd td n n) j := by first | exact hvF_y (by omega) | exact hvF_n (by omega)
                have hl : lv_has ls 3 [(2, .int (zI (((j + 1) : Nat) : Int))), (1, .int (zI (hvF al (hlF pa sp al co da mb dd td n n) (j + 1)))), (0, .ref (q 0))] := by rw [e_9, e_10]; exact hl
                exact ih_j (j + 1) (by omega) (by omega) _ _ _ hP hS hl
              · have c_8 := c_8
                refine lv_iload_n hx hb dX2_heaviestLoss_71 rfl (lv_at hl 1 rfl) ?_
                refine zr_iconst hx hb dX2_heaviestLoss_72 ?_
                refine zr_icmp_eq (tgt := 91) hx hb dX2_heaviestLoss_73 (by decide) ⟨by omega, by omega⟩ ⟨by decide, by decide⟩ (fun c_11 => ?_) (fun c_11 => ?_)
                · have c_11 := c_11
                  refine lv_iload_n hx hb dX2_heaviestLoss_91 rfl (lv_at hl 0 rfl) ?_
                  refine lv_istore_n (lv' := [(1, .int (zI (j : Int))), (2, .int (zI (j : Int))), (0, .ref (q 0))]) hx hb dX2_heaviestLoss_92 rfl hl (by decide) rfl (fun ls hl => ?_)
                  refine zr_iinc (v := (j : Int) + 1) (lv' := [(2, .int (zI ((j : Int) + 1))), (1, .int (zI (j : Int))), (0, .ref (q 0))]) hx hb dX2_heaviestLoss_93 hl (k := 1) rfl rfl (by decide) rfl (fun ls hl => ?_)
                  refine lv_goto (tgt := 48) hx hb dX2_heaviestLoss_96 (by decide) ?_
                  have hl := lv_sub hl (l' := [(2, .int (zI ((j : Int) + 1))), (1, .int (zI (j : Int))), (0, .ref (q 0))]) [0, 1, 2] rfl
                  have e_12 : ((((j + 1) : Nat) : Int) : Int) = (j : Int) + 1 := by omega
                  have e_13 : (hvF al (hlF pa sp al co da mb dd td n n) (j + 1) : Int) = (j : Int) := by first | exact hvF_y (by omega) | exact hvF_n (by omega)
                  have hl : lv_has ls 3 [(2, .int (zI (((j + 1) : Nat) : Int))), (1, .int (zI (hvF al (hlF pa sp al co da mb dd td n n) (j + 1)))), (0, .ref (q 0))] := by rw [e_12, e_13]; exact hl
                  exact ih_j (j + 1) (by omega) (by omega) _ _ _ hP hS hl
                · have c_11 := c_11
                  refine lv_aload_n hx hb dX2_heaviestLoss_76 rfl (lv_at hl 2 rfl) ?_
                  refine va_get (D := D) (ci := 2) (v := .ref (q 7)) (C := RX2) (T := TX2) (N := 9) hx hb hts hin2 hown hK hP 0 rfl rfl 8 (by decide) (hts (.fieldLink RX2 36 "MourningRibbons" "loss" "[I") (by decide +kernel)) (fun _ h9 => h9) rfl dX2_heaviestLoss_77 ?_
                  refine lv_iload_n hx hb dX2_heaviestLoss_80 rfl (lv_at hl 0 rfl) ?_
                  refine zr_iald (f := hlF pa sp al co da mb dd td n n) (n := 16) hx hb hK hP 7 0 rfl rfl (by decide) (i := (j : Int)) (by omega) (by omega) dX2_heaviestLoss_81 ?_
                  refine lv_aload_n hx hb dX2_heaviestLoss_82 rfl (lv_at hl 2 rfl) ?_
                  refine va_get (D := D) (ci := 2) (v := .ref (q 7)) (C := RX2) (T := TX2) (N := 9) hx hb hts hin2 hown hK hP 0 rfl rfl 8 (by decide) (hts (.fieldLink RX2 36 "MourningRibbons" "loss" "[I") (by decide +kernel)) (fun _ h9 => h9) rfl dX2_heaviestLoss_83 ?_
                  refine lv_iload_n hx hb dX2_heaviestLoss_86 rfl (lv_at hl 1 rfl) ?_
                  refine zr_iald (f := hlF pa sp al co da mb dd td n n) (n := 16) hx hb hK hP 7 0 rfl rfl (by decide) (i := hvF al (hlF pa sp al co da mb dd td n n) j) (by omega) (by omega) dX2_heaviestLoss_87 ?_
                  refine zr_icmp_le (tgt := 93) hx hb dX2_heaviestLoss_88 (by decide) ⟨by omega, by omega⟩ ⟨by omega, by omega⟩ (fun c_14 => ?_) (fun c_14 => ?_)
                  · have c_14 := c_14
                    refine zr_iinc (v := (j : Int) + 1) (lv' := [(2, .int (zI ((j : Int) + 1))), (1, .int (zI (hvF al (hlF pa sp al co da mb dd td n n) j))), (0, .ref (q 0))]) hx hb dX2_heaviestLoss_93 hl (k := 0) rfl rfl (by decide) rfl (fun ls hl => ?_)
                    refine lv_goto (tgt := 48) hx hb dX2_heaviestLoss_96 (by decide) ?_
                    have hl := lv_sub hl (l' := [(2, .int (zI ((j : Int) + 1))), (1, .int (zI (hvF al (hlF pa sp al co da mb dd td n n) j))), (0, .ref (q 0))]) [0, 1, 2] rfl
                    have e_15 : ((((j + 1) : Nat) : Int) : Int) = (j : Int) + 1 := by omega
                    have e_16 : (hvF al (hlF pa sp al co da mb dd td n n) (j + 1) : Int) = hvF al (hlF pa sp al co da mb dd td n n) j := by first | exact hvF_y (by omega) | exact hvF_n (by omega)
                    have hl : lv_has ls 3 [(2, .int (zI (((j + 1) : Nat) : Int))), (1, .int (zI (hvF al (hlF pa sp al co da mb dd td n n) (j + 1)))), (0, .ref (q 0))] := by rw [e_15, e_16]; exact hl
                    exact ih_j (j + 1) (by omega) (by omega) _ _ _ hP hS hl
                  · have c_14 := c_14
                    refine lv_iload_n hx hb dX2_heaviestLoss_91 rfl (lv_at hl 0 rfl) ?_
                    refine lv_istore_n (lv' := [(1, .int (zI (j : Int))), (2, .int (zI (j : Int))), (0, .ref (q 0))]) hx hb dX2_heaviestLoss_92 rfl hl (by decide) rfl (fun ls hl => ?_)
                    refine zr_iinc (v := (j : Int) + 1) (lv' := [(2, .int (zI ((j : Int) + 1))), (1, .int (zI (j : Int))), (0, .ref (q 0))]) hx hb dX2_heaviestLoss_93 hl (k := 1) rfl rfl (by decide) rfl (fun ls hl => ?_)
                    refine lv_goto (tgt := 48) hx hb dX2_heaviestLoss_96 (by decide) ?_
                    have hl := lv_sub hl (l' := [(2, .int (zI ((j : Int) + 1))), (1, .int (zI (j : Int))), (0, .ref (q 0))]) [0, 1, 2] rfl
                    have e_17 : ((((j + 1) : Nat) : Int) : Int) = (j : Int) + 1 := by omega
                    have e_18 : (hvF al (hlF pa sp al co da mb dd td n n) (j + 1) : Int) = (j : Int) := by first | exact hvF_y (by omega) | exact hvF_n (by omega)
                    have hl : lv_has ls 3 [(2, .int (zI (((j + 1) : Nat) : Int))), (1, .int (zI (hvF al (hlF pa sp al co da mb dd td n n) (j + 1)))), (0, .ref (q 0))] := by rw [e_17, e_18]; exact hl
                    exact ih_j (j + 1) (by omega) (by omega) _ _ _ hP hS hl
        have hl := lv_sub hl (l' := [(2, .int (zI 0)), (1, .int (zI (-1))), (0, .ref (q 0))]) [0, 1, 2] rfl
        have e_19 : (hvF al (hlF pa sp al co da mb dd td n n) 0 : Int) = (-1) := rfl
        have hl : lv_has ls 3 [(2, .int (zI 0)), (1, .int (zI (hvF al (hlF pa sp al co da mb dd td n n) 0))), (0, .ref (q 0))] := by rw [e_19]; exact hl
        exact L48_4 (n + 1) 0 (Nat.zero_le _) (by omega) _ _ _ hP hS hl
      · have c_2 := c_2
        refine lv_aload_n hx hb dX2_heaviestLoss_21 rfl (lv_at hl 1 rfl) ?_
        refine va_get (D := D) (ci := 2) (v := .ref (q 1)) (C := RX2) (T := TX2) (N := 9) hx hb hts hin2 hown hK hP 0 rfl rfl 0 (by decide) (hts (.fieldLink RX2 12 "MourningRibbons" "family" "LMourningRibbons$Family;") (by decide +kernel)) (fun _ h9 => h9) rfl dX2_heaviestLoss_22 ?_
        refine va_get (D := D) (ci := 1) (v := .ref (q 10)) (C := RX1) (T := TX1) (N := 5) hx hb hts hin1 hown hK hP 1 rfl rfl 2 (by decide) (hts (.fieldLink RX2 101 "MourningRibbons$Family" "alive" "[Z") (by decide +kernel)) (fun _ h9 => h9) rfl dX2_heaviestLoss_25 ?_
        refine lv_iload_n hx hb dX2_heaviestLoss_28 rfl (lv_at hl 0 rfl) ?_
        refine zr_zald (f := al) (n := 16) hx hb hK hP 10 1 rfl rfl (by decide) (i := (i : Int)) (by omega) (by omega) dX2_heaviestLoss_29 ?_
        have b_20 := hal (i : Int)
        refine zr_if_eq (tgt := 38) hx hb dX2_heaviestLoss_30 (by decide) ⟨by omega, by omega⟩ (fun c_21 => ?_) (fun c_21 => ?_)
        · have c_21 := c_21
          refine zr_iinc (v := (i : Int) + 1) (lv' := [(1, .int (zI ((i : Int) + 1))), (0, .ref (q 0))]) hx hb dX2_heaviestLoss_38 hl (k := 0) rfl rfl (by decide) rfl (fun ls hl => ?_)
          refine lv_goto (tgt := 10) hx hb dX2_heaviestLoss_41 (by decide) ?_
          have hl := lv_sub hl (l' := [(1, .int (zI ((i : Int) + 1))), (0, .ref (q 0))]) [0, 1] rfl
          have e_22 : ((((i + 1) : Nat) : Int) : Int) = (i : Int) + 1 := by omega
          have hl : lv_has ls 3 [(1, .int (zI (((i + 1) : Nat) : Int))), (0, .ref (q 0))] := by rw [e_22]; exact hl
          have e_23 : (lsF al ah (ca co da mb dd td n) (i + 1) : Int → Int) = lsF al ah (ca co da mb dd td n) i := by first | exact lsF_y (by omega) | exact lsF_n (by omega)
          have hP : va_P D vwCl (wC cI cZ q pa sp al (lsF al dg (dgF pa sp n) i) co da mb dd (lsF al ah (ca co da mb dd td n) (i + 1)) (lsF al wl (wwP co da mb dd td n) i) (hlF pa sp al co da mb dd td n i) n td wn) H := by rw [e_23]; exact hP
          have e_24 : (lsF al wl (wwP co da mb dd td n) (i + 1) : Int → Int) = lsF al wl (wwP co da mb dd td n) i := by first | exact lsF_y (by omega) | exact lsF_n (by omega)
          have hP : va_P D vwCl (wC cI cZ q pa sp al (lsF al dg (dgF pa sp n) i) co da mb dd (lsF al ah (ca co da mb dd td n) (i + 1)) (lsF al wl (wwP co da mb dd td n) (i + 1)) (hlF pa sp al co da mb dd td n i) n td wn) H := by rw [e_24]; exact hP
          have e_25 : (lsF al dg (dgF pa sp n) (i + 1) : Int → Int) = lsF al dg (dgF pa sp n) i := by first | exact lsF_y (by omega) | exact lsF_n (by omega)
          have hP : va_P D vwCl (wC cI cZ q pa sp al (lsF al dg (dgF pa sp n) (i + 1)) co da mb dd (lsF al ah (ca co da mb dd td n) (i + 1)) (lsF al wl (wwP co da mb dd td n) (i + 1)) (hlF pa sp al co da mb dd td n i) n td wn) H := by rw [e_25]; exact hP
          have e_26 : (hlF pa sp al co da mb dd td n (i + 1) : Int → Int) = hlF pa sp al co da mb dd td n i := by first | exact hlF_y (by omega) | exact hlF_n (by omega)
          have hP : va_P D vwCl (wC cI cZ q pa sp al (lsF al dg (dgF pa sp n) (i + 1)) co da mb dd (lsF al ah (ca co da mb dd td n) (i + 1)) (lsF al wl (wwP co da mb dd td n) (i + 1)) (hlF pa sp al co da mb dd td n (i + 1)) n td wn) H := by rw [e_26]; exact hP
          exact ih_i (i + 1) (by omega) (by omega) _ _ _ hP hS hl
        · have c_21 := c_21
          refine lv_aload_n hx hb dX2_heaviestLoss_33 rfl (lv_at hl 1 rfl) ?_
          refine lv_iload_n hx hb dX2_heaviestLoss_34 rfl (lv_at hl 0 rfl) ?_
          refine zcallV (ci := 2) (q0 := 0) (cq := (RX2, TX2, 9)) (As := [.int (zI (i : Int))]) (rest := []) ⟨hx, hb, hml, hown, hts⟩ hK (kX2_addLossesOf l D cI cZ q hN pa sp al (lsF al dg (dgF pa sp n) i) co da mb dd (lsF al ah (ca co da mb dd td n) i) (lsF al wl (wwP co da mb dd td n) i) (hlF pa sp al co da mb dd td n i) n td wn hn hco hda hmb hdd htd hpa hsp (i : Int) (by omega)) (cwV 1 hts gX2_heaviestLoss_X2_addLossesOf rfl rfl rfl (by decide +kernel) ⟨Nat.le_of_ble_eq_true rfl, Nat.le_of_ble_eq_true rfl⟩) hP hS hA rfl rfl rfl hl.1 rfl (Nat.le_of_ble_eq_true rfl) dX2_heaviestLoss_35 ⟨Nat.zero_le _, Nat.zero_le _⟩ (fun H locs hP hS _ _ => ?_)
          have g_27 : ∀ j : Int, 0 ≤ (ca co da mb dd td n (i : Int)) j ∧ (ca co da mb dd td n (i : Int)) j ≤ 5 := fun j => ca_bd hco da mb dd td n (i : Int) j
          have g_28 : ∀ j : Int, 0 ≤ (dgF pa sp n (i : Int)) j ∧ (dgF pa sp n (i : Int)) j ≤ 4 := dgF_bd pa sp n (i : Int)
          refine W.eq (g2 := F0 m9 38 ls []) rfl ?_
          refine zr_iinc (v := (i : Int) + 1) (lv' := [(1, .int (zI ((i : Int) + 1))), (0, .ref (q 0))]) hx hb dX2_heaviestLoss_38 hl (k := 0) rfl rfl (by decide) rfl (fun ls hl => ?_)
          refine lv_goto (tgt := 10) hx hb dX2_heaviestLoss_41 (by decide) ?_
          have hl := lv_sub hl (l' := [(1, .int (zI ((i : Int) + 1))), (0, .ref (q 0))]) [0, 1] rfl
          have e_29 : ((((i + 1) : Nat) : Int) : Int) = (i : Int) + 1 := by omega
          have hl : lv_has ls 3 [(1, .int (zI (((i + 1) : Nat) : Int))), (0, .ref (q 0))] := by rw [e_29]; exact hl
          have e_30 : (lsF al ah (ca co da mb dd td n) (i + 1) : Int → Int) = ca co da mb dd td n (i : Int) := by first | exact lsF_y (by omega) | exact lsF_n (by omega)
          have hP : va_P D vwCl (wC cI cZ q pa sp al (dgF pa sp n (i : Int)) co da mb dd (lsF al ah (ca co da mb dd td n) (i + 1)) (wwA co da (ca co da mb dd td n (i : Int))) (loF (hlF pa sp al co da mb dd td n i) (i : Int) (wwA co da (ca co da mb dd td n (i : Int))) (dgF pa sp n (i : Int)) n) n td wn) H := by rw [e_30]; exact hP
          have e_31 : (lsF al wl (wwP co da mb dd td n) (i + 1) : Int → Int) = wwA co da (ca co da mb dd td n (i : Int)) := by first | exact lsF_y (by omega) | exact lsF_n (by omega)
          have hP : va_P D vwCl (wC cI cZ q pa sp al (dgF pa sp n (i : Int)) co da mb dd (lsF al ah (ca co da mb dd td n) (i + 1)) (lsF al wl (wwP co da mb dd td n) (i + 1)) (loF (hlF pa sp al co da mb dd td n i) (i : Int) (wwA co da (ca co da mb dd td n (i : Int))) (dgF pa sp n (i : Int)) n) n td wn) H := by rw [e_31]; exact hP
          have e_32 : (lsF al dg (dgF pa sp n) (i + 1) : Int → Int) = dgF pa sp n (i : Int) := by first | exact lsF_y (by omega) | exact lsF_n (by omega)
          have hP : va_P D vwCl (wC cI cZ q pa sp al (lsF al dg (dgF pa sp n) (i + 1)) co da mb dd (lsF al ah (ca co da mb dd td n) (i + 1)) (lsF al wl (wwP co da mb dd td n) (i + 1)) (loF (hlF pa sp al co da mb dd td n i) (i : Int) (wwA co da (ca co da mb dd td n (i : Int))) (dgF pa sp n (i : Int)) n) n td wn) H := by rw [e_32]; exact hP
          have e_33 : (hlF pa sp al co da mb dd td n (i + 1) : Int → Int) = loF (hlF pa sp al co da mb dd td n i) (i : Int) (wwA co da (ca co da mb dd td n (i : Int))) (dgF pa sp n (i : Int)) n := by first | exact hlF_y (by omega) | exact hlF_n (by omega)
          have hP : va_P D vwCl (wC cI cZ q pa sp al (lsF al dg (dgF pa sp n) (i + 1)) co da mb dd (lsF al ah (ca co da mb dd td n) (i + 1)) (lsF al wl (wwP co da mb dd td n) (i + 1)) (hlF pa sp al co da mb dd td n (i + 1)) n td wn) H := by rw [e_33]; exact hP
          exact ih_i (i + 1) (by omega) (by omega) _ _ _ hP hS hl
  have hl := lv_sub hl (l' := [(1, .int (zI 0)), (0, .ref (q 0))]) [0, 1] rfl
  have e_34 : (lsF al ah (ca co da mb dd td n) 0 : Int → Int) = ah := rfl
  have hP : va_P D vwCl (wC cI cZ q pa sp al dg co da mb dd (lsF al ah (ca co da mb dd td n) 0) wl (cst 0) n td wn) H := by rw [e_34]; exact hP
  have e_35 : (lsF al wl (wwP co da mb dd td n) 0 : Int → Int) = wl := rfl
  have hP : va_P D vwCl (wC cI cZ q pa sp al dg co da mb dd (lsF al ah (ca co da mb dd td n) 0) (lsF al wl (wwP co da mb dd td n) 0) (cst 0) n td wn) H := by rw [e_35]; exact hP
  have e_36 : (lsF al dg (dgF pa sp n) 0 : Int → Int) = dg := rfl
  have hP : va_P D vwCl (wC cI cZ q pa sp al (lsF al dg (dgF pa sp n) 0) co da mb dd (lsF al ah (ca co da mb dd td n) 0) (lsF al wl (wwP co da mb dd td n) 0) (cst 0) n td wn) H := by rw [e_36]; exact hP
  have e_37 : (hlF pa sp al co da mb dd td n 0 : Int → Int) = cst 0 := rfl
  have hP : va_P D vwCl (wC cI cZ q pa sp al (lsF al dg (dgF pa sp n) 0) co da mb dd (lsF al ah (ca co da mb dd td n) 0) (lsF al wl (wwP co da mb dd td n) 0) (hlF pa sp al co da mb dd td n 0) n td wn) H := by rw [e_37]; exact hP
  exact L10_1 (n + 1) 0 (Nat.zero_le _) (by omega) _ _ _ hP hS hl
set_option maxHeartbeats 4000000 in
set_option maxRecDepth 100000 in
theorem kX2_digestCode (l : Launch) (D : va_G) (cI cZ : ClassId) (q : Nat → Nat) (hN : (zLC q).Nodup) (pa : Int → Int) (sp : Int → Int) (al : Int → Int) (dg : Int → Int) (co : Int → Int) (da : Int → Int) (mb : Int → Int) (dd : Int → Int) (ah : Int → Int) (wl : Int → Int) (lo : Int → Int) (n : Nat) (td : Int) (wn : Int) (hco : ∀ j : Int, 0 ≤ co j ∧ co j ≤ 5) (hda : ∀ j : Int, 0 ≤ da j ∧ da j ≤ 60) (d0 : Int64) : zM l yX2_digestCode wsX2_digestCode ({ frames := 9, cells := 0, slots := 0, locals := 155 }) D [(cI, .int), (cZ, .boolean)] [.ref (q 0), .long d0] (wC cI cZ q pa sp al dg co da mb dd ah wl lo n td wn) (wC cI cZ q pa sp al dg co da mb dd ah wl lo n td wn) (some (.long (dcF co da 192 d0 12))) (zLC q) := by
  refine Met.ofW (cc := cX2_digestCode) (maxL := 7) (ret := (some .long)) (by decide) rfl ?_
  intro p0 e9 s9 m9 ag9 below meth c9 s₁ B hml hv
  obtain ⟨hav, hP, hK⟩ := hv
  have hx := B.exec
  have hb := B.bytes
  have hr := B.returns
  have hts := atoms_spec (ws := wsX2_digestCode) B.pre
  have hown : s9.vm.findClass RX2 = some m9.cls := findClass_of_methodNamed B.named
  have hlocks := B.notSynchronized
  have hA : ∀ a ∈ zLC q, (fun a => a ∈ zLC q) a := fun _ h => h
  have hl := lv_entry ([.ref (q 0), .long d0]) (n := 7) (Nat.le_of_ble_eq_true rfl)
  have hE : entryFrame m9 ag9 7 = F0 m9 0 ((lg_sl ([.ref (q 0), .long d0]) ++ List.replicate (7 - (lg_sl ([.ref (q 0), .long d0])).length) Slot.unset).toArray) [] := by rw [hav]; exact lg_entry_eq m9 _ _
  obtain ⟨Q0, hQ0⟩ : ∃ Q0, Q0 = MQ below (zQ D (wC cI cZ q pa sp al dg co da mb dd ah wl lo n td wn) (some (.long (dcF co da 192 d0 12))) (zLC q)) ag9 s9 0 0 (fun a => a ∈ zLC q) := ⟨_, rfl⟩
  show W p0 l e9 ({ frames := 9, cells := 0, slots := 0, locals := 155 }) s9 m9 ag9 below meth c9 s9.heap [] 0 0 (MQ below (zQ D (wC cI cZ q pa sp al dg co da mb dd ah wl lo n td wn) (some (.long (dcF co da 192 d0 12))) (zLC q)) ag9 s9 0 0 (fun a => a ∈ zLC q)) _
  rw [hE, ← hQ0]
  have hS : va_S (fun a => a ∈ zLC q) s9.heap s9.heap [] := va_S.rf
  generalize hH0 : s9.heap = H at hP ⊢
  have hS : va_S (fun a => a ∈ zLC q) s9.heap H [] := by rw [hH0] at hS ⊢; exact hS
  generalize (lg_sl ([.ref (q 0), .long d0]) ++ List.replicate (7 - (lg_sl ([.ref (q 0), .long d0])).length) Slot.unset).toArray = ls at hl ⊢
  have hl : lv_has ls 7 [(0, .ref (q 0)), (1, .long d0)] := hl
  refine lv_lload_n hx hb dX2_digestCode_0 rfl (lv_at hl 1 rfl) ?_
  refine lv_lstore_n (lv' := [(3, .long d0), (0, .ref (q 0)), (1, .long d0)]) hx hb dX2_digestCode_1 rfl hl (by decide) rfl (fun ls hl => ?_)
  refine zr_iconst hx hb dX2_digestCode_2 ?_
  refine lv_istore (lv' := [(5, .int (zI 1)), (3, .long d0), (0, .ref (q 0)), (1, .long d0)]) hx hb dX2_digestCode_3 hl (by decide) rfl (fun ls hl => ?_)
  have L5_1 : ∀ (kf i : Nat), i ≤ 4 → 4 - i < kf → ∀ (H : Heap) (locs : List Loc) (ls : Array Slot), va_P D vwCl (wC cI cZ q pa sp al dg co da mb dd ah wl lo n td wn) H → va_S (fun a => a ∈ zLC q) s9.heap H locs → lv_has ls 7 [(5, .int (zI ((i : Int) + 1))), (3, .long (dcF co da 192 d0 (3 * i))), (0, .ref (q 0)), (1, .long d0)] → W p0 l e9 ({ frames := 9, cells := 0, slots := 0, locals := 155 }) s9 m9 ag9 below meth c9 H locs 0 0 Q0 (F0 m9 5 ls []) := by
    intro kf
    induction kf with
    | zero => intro i h1 h2; omega
    | succ kf ih =>
      intro i hi_i hk_i H locs ls hP hS hl
      have ih_i := ih
      clear ih
      refine lv_iload hx hb dX2_digestCode_5 (lv_at hl 0 rfl) ?_
      refine zr_iconst hx hb dX2_digestCode_7 ?_
      refine zr_icmp_gt (tgt := 64) hx hb dX2_digestCode_8 (by decide) ⟨by omega, by omega⟩ ⟨by decide, by decide⟩ (fun c_2 => ?_) (fun c_2 => ?_)
      · have c_2 := c_2
        have x_3 : i = 4 := by omega
        try rw [x_3] at hP
        try rw [x_3] at hl
        refine lv_lload_n hx hb dX2_digestCode_64 rfl (lv_at hl 1 rfl) ?_
        rw [hQ0]
        exact zret_l hx hb hr hlocks (rfl) hP hS dX2_digestCode_65
      · have c_2 := c_2
        refine zr_iconst hx hb dX2_digestCode_11 ?_
        refine lv_istore (lv' := [(6, .int (zI 0)), (5, .int (zI ((i : Int) + 1))), (3, .long (dcF co da 192 d0 (3 * i))), (0, .ref (q 0)), (1, .long d0)]) hx hb dX2_digestCode_12 hl (by decide) rfl (fun ls hl => ?_)
        have L14_4 : ∀ (kf j : Nat), j ≤ 3 → 3 - j < kf → ∀ (H : Heap) (locs : List Loc) (ls : Array Slot), va_P D vwCl (wC cI cZ q pa sp al dg co da mb dd ah wl lo n td wn) H → va_S (fun a => a ∈ zLC q) s9.heap H locs → lv_has ls 7 [(6, .int (zI (j : Int))), (5, .int (zI ((i : Int) + 1))), (3, .long (dcF co da 192 d0 (3 * i + j))), (0, .ref (q 0)), (1, .long d0)] → W p0 l e9 ({ frames := 9, cells := 0, slots := 0, locals := 155 }) s9 m9 ag9 below meth c9 H locs 0 0 Q0 (F0 m9 14 ls []) := by
          intro kf
          induction kf with
          | zero => intro j h1 h2; omega
          | succ kf ih =>
            intro j hi_j hk_j H locs ls hP hS hl
            have ih_j := ih
            clear ih
            refine lv_iload hx hb dX2_digestCode_14 (lv_at hl 0 rfl) ?_
            refine zr_iconst hx hb dX2_digestCode_16 ?_
            refine zr_icmp_ge (tgt := 58) hx hb dX2_digestCode_17 (by decide) ⟨by omega, by omega⟩ ⟨by decide, by decide⟩ (fun c_5 => ?_) (fun c_5 => ?_)
            · have c_5 := c_5
              have x_6 : j = 3 := by omega
              try rw [x_6] at hP
              try rw [x_6] at hl
              refine zr_iinc (v := ((i : Int) + 1) + 1) (lv' := [(5, .int (zI (((i : Int) + 1) + 1))), (6, .int (zI 3)), (3, .long (dcF co da 192 d0 (3 * i + 3))), (0, .ref (q 0)), (1, .long d0)]) hx hb dX2_digestCode_58 hl (k := 1) rfl rfl (by decide) rfl (fun ls hl => ?_)
              refine lv_goto (tgt := 5) hx hb dX2_digestCode_61 (by decide) ?_
              have hl := lv_sub hl (l' := [(5, .int (zI (((i : Int) + 1) + 1))), (3, .long (dcF co da 192 d0 (3 * i + 3))), (0, .ref (q 0)), (1, .long d0)]) [0, 2, 3, 4] rfl
              have e_7 : ((((i + 1) : Nat) : Int) + 1 : Int) = ((i : Int) + 1) + 1 := by omega
              have e_8 : (dcF co da 192 d0 (3 * (i + 1)) : Int64) = dcF co da 192 d0 (3 * i + 3) := rfl
              have hl : lv_has ls 7 [(5, .int (zI ((((i + 1) : Nat) : Int) + 1))), (3, .long (dcF co da 192 d0 (3 * (i + 1)))), (0, .ref (q 0)), (1, .long d0)] := by rw [e_7, e_8]; exact hl
              exact ih_i (i + 1) (by omega) (by omega) _ _ _ hP hS hl
            · have c_5 := c_5
              refine lv_lload_n hx hb dX2_digestCode_20 rfl (lv_at hl 2 rfl) ?_
              refine lv_ldc2 (v := 31) hx hb hown (hts (.constantLong RX2 203 (31)) (by decide +kernel)) dX2_digestCode_21 ?_
              refine lv_lmul hx hb dX2_digestCode_24 ?_
              refine lv_aload_n hx hb dX2_digestCode_25 rfl (lv_at hl 3 rfl) ?_
              refine lv_iload hx hb dX2_digestCode_26 (lv_at hl 1 rfl) ?_
              refine lv_iload hx hb dX2_digestCode_28 (lv_at hl 0 rfl) ?_
              refine zcallV (ci := 2) (q0 := 0) (cq := (RX2, TX2, 9)) (As := [.int (zI ((i : Int) + 1)), .int (zI (j : Int))]) (rest := [.long ((dcF co da 192 d0 (3 * i + j)) * (31 : Int64))]) ⟨hx, hb, hml, hown, hts⟩ hK (kX2_stageColourok l D cI cZ q hN pa sp al dg co da mb dd ah wl lo n td wn hco ((i : Int) + 1) (j : Int) (by omega) (by omega)) (cwV 2 hts gX2_digestCode_X2_stageColour rfl rfl rfl (by decide +kernel) ⟨Nat.le_of_ble_eq_true rfl, Nat.le_of_ble_eq_true rfl⟩) hP hS hA rfl rfl rfl hl.1 rfl (Nat.le_of_ble_eq_true rfl) dX2_digestCode_30 ⟨Nat.zero_le _, Nat.zero_le _⟩ (fun H locs hP hS _ _ => ?_)
              refine W.eq (g2 := F0 m9 33 ls [.int (zI (co (16 * 12 + (((i : Int) + 1) - 1) * 3 + (j : Int)))), .long ((dcF co da 192 d0 (3 * i + j)) * (31 : Int64))]) rfl ?_
              refine lv_i2l hx hb dX2_digestCode_33 rfl ?_
              refine lv_ladd hx hb dX2_digestCode_34 ?_
              refine lv_lstore_n (lv' := [(3, .long (((dcF co da 192 d0 (3 * i + j)) * (31 : Int64)) + ((zI (co (16 * 12 + (((i : Int) + 1) - 1) * 3 + (j : Int)))).toInt64))), (6, .int (zI (j : Int))), (5, .int (zI ((i : Int) + 1))), (0, .ref (q 0)), (1, .long d0)]) hx hb dX2_digestCode_35 rfl hl (by decide) rfl (fun ls hl => ?_)
              refine lv_lload_n hx hb dX2_digestCode_36 rfl (lv_at hl 0 rfl) ?_
              refine lv_ldc2 (v := 31) hx hb hown (hts (.constantLong RX2 203 (31)) (by decide +kernel)) dX2_digestCode_37 ?_
              refine lv_lmul hx hb dX2_digestCode_40 ?_
              refine lv_aload_n hx hb dX2_digestCode_41 rfl (lv_at hl 3 rfl) ?_
              refine lv_iload hx hb dX2_digestCode_42 (lv_at hl 2 rfl) ?_
              refine lv_iload hx hb dX2_digestCode_44 (lv_at hl 1 rfl) ?_
              refine zcallV (ci := 2) (q0 := 0) (cq := (RX2, TX2, 9)) (As := [.int (zI ((i : Int) + 1)), .int (zI (j : Int))]) (rest := [.long ((((dcF co da 192 d0 (3 * i + j)) * (31 : Int64)) + ((zI (co (16 * 12 + (((i : Int) + 1) - 1) * 3 + (j : Int)))).toInt64)) * (31 : Int64))]) ⟨hx, hb, hml, hown, hts⟩ hK (kX2_stageDaysok l D cI cZ q hN pa sp al dg co da mb dd ah wl lo n td wn hda ((i : Int) + 1) (j : Int) (by omega) (by omega)) (cwV 2 hts gX2_digestCode_X2_stageDays rfl rfl rfl (by decide +kernel) ⟨Nat.le_of_ble_eq_true rfl, Nat.le_of_ble_eq_true rfl⟩) hP hS hA rfl rfl rfl hl.1 rfl (Nat.le_of_ble_eq_true rfl) dX2_digestCode_46 ⟨Nat.zero_le _, Nat.zero_le _⟩ (fun H locs hP hS _ _ => ?_)
              refine W.eq (g2 := F0 m9 49 ls [.int (zI (da (16 * 12 + (((i : Int) + 1) - 1) * 3 + (j : Int)))), .long ((((dcF co da 192 d0 (3 * i + j)) * (31 : Int64)) + ((zI (co (16 * 12 + (((i : Int) + 1) - 1) * 3 + (j : Int)))).toInt64)) * (31 : Int64))]) rfl ?_
              refine lv_i2l hx hb dX2_digestCode_49 rfl ?_
              refine lv_ladd hx hb dX2_digestCode_50 ?_
              refine lv_lstore_n (lv' := [(3, .long (((((dcF co da 192 d0 (3 * i + j)) * (31 : Int64)) + ((zI (co (16 * 12 + (((i : Int) + 1) - 1) * 3 + (j : Int)))).toInt64)) * (31 : Int64)) + ((zI (da (16 * 12 + (((i : Int) + 1) - 1) * 3 + (j : Int)))).toInt64))), (6, .int (zI (j : Int))), (5, .int (zI ((i : Int) + 1))), (0, .ref (q 0)), (1, .long d0)]) hx hb dX2_digestCode_51 rfl hl (by decide) rfl (fun ls hl => ?_)
              refine zr_iinc (v := (j : Int) + 1) (lv' := [(6, .int (zI ((j : Int) + 1))), (3, .long (((((dcF co da 192 d0 (3 * i + j)) * (31 : Int64)) + ((zI (co (16 * 12 + (((i : Int) + 1) - 1) * 3 + (j : Int)))).toInt64)) * (31 : Int64)) + ((zI (da (16 * 12 + (((i : Int) + 1) - 1) * 3 + (j : Int)))).toInt64))), (5, .int (zI ((i : Int) + 1))), (0, .ref (q 0)), (1, .long d0)]) hx hb dX2_digestCode_52 hl (k := 1) rfl rfl (by decide) rfl (fun ls hl => ?_)
              refine lv_goto (tgt := 14) hx hb dX2_digestCode_55 (by decide) ?_
              have hl := lv_sub hl (l' := [(6, .int (zI ((j : Int) + 1))), (5, .int (zI ((i : Int) + 1))), (3, .long (((((dcF co da 192 d0 (3 * i + j)) * (31 : Int64)) + ((zI (co (16 * 12 + (((i : Int) + 1) - 1) * 3 + (j : Int)))).toInt64)) * (31 : Int64)) + ((zI (da (16 * 12 + (((i : Int) + 1) - 1) * 3 + (j : Int)))).toInt64))), (0, .ref (q 0)), (1, .long d0)]) [0, 2, 1, 3, 4] rfl
              have e_9 : ((((j + 1) : Nat) : Int) : Int) = (j : Int) + 1 := by omega
              have e_10 : (dcF co da 192 d0 (3 * i + (j + 1)) : Int64) = ((((dcF co da 192 d0 (3 * i + j)) * (31 : Int64)) + ((zI (co (16 * 12 + (((i : Int) + 1) - 1) * 3 + (j : Int)))).toInt64)) * (31 : Int64)) + ((zI (da (16 * 12 + (((i : Int) + 1) - 1) * 3 + (j : Int)))).toInt64) := dcF_st
              have hl : lv_has ls 7 [(6, .int (zI (((j + 1) : Nat) : Int))), (5, .int (zI ((i : Int) + 1))), (3, .long (dcF co da 192 d0 (3 * i + (j + 1)))), (0, .ref (q 0)), (1, .long d0)] := by rw [e_9, e_10]; exact hl
              exact ih_j (j + 1) (by omega) (by omega) _ _ _ hP hS hl
        have hl := lv_sub hl (l' := [(6, .int (zI 0)), (5, .int (zI ((i : Int) + 1))), (3, .long (dcF co da 192 d0 (3 * i))), (0, .ref (q 0)), (1, .long d0)]) [0, 1, 2, 3, 4] rfl
        have e_11 : (dcF co da 192 d0 (3 * i + 0) : Int64) = dcF co da 192 d0 (3 * i) := rfl
        have hl : lv_has ls 7 [(6, .int (zI 0)), (5, .int (zI ((i : Int) + 1))), (3, .long (dcF co da 192 d0 (3 * i + 0))), (0, .ref (q 0)), (1, .long d0)] := by rw [e_11]; exact hl
        exact L14_4 (3 + 1) 0 (Nat.zero_le _) (by omega) _ _ _ hP hS hl
  have hl := lv_sub hl (l' := [(5, .int (zI 1)), (3, .long d0), (0, .ref (q 0)), (1, .long d0)]) [0, 1, 2, 3] rfl
  have e_12 : (((0 : Nat) : Int) + 1 : Int) = 1 := rfl
  have e_13 : (dcF co da 192 d0 (3 * 0) : Int64) = d0 := rfl
  have hl : lv_has ls 7 [(5, .int (zI (((0 : Nat) : Int) + 1))), (3, .long (dcF co da 192 d0 (3 * 0))), (0, .ref (q 0)), (1, .long d0)] := by rw [e_12, e_13]; exact hl
  exact L5_1 (4 + 1) 0 (Nat.zero_le _) (by omega) _ _ _ hP hS hl
set_option maxHeartbeats 4000000 in
set_option maxRecDepth 100000 in
theorem kX2_digestPerson (l : Launch) (D : va_G) (cI cZ : ClassId) (q : Nat → Nat) (hN : (zLC q).Nodup) (pa : Int → Int) (sp : Int → Int) (al : Int → Int) (dg : Int → Int) (co : Int → Int) (da : Int → Int) (mb : Int → Int) (dd : Int → Int) (ah : Int → Int) (wl : Int → Int) (lo : Int → Int) (n : Nat) (td : Int) (wn : Int) (hn : n ≤ 16) (hco : ∀ j : Int, 0 ≤ co j ∧ co j ≤ 5) (hda : ∀ j : Int, 0 ≤ da j ∧ da j ≤ 60) (hmb : ∀ j : Int, 0 ≤ mb j ∧ mb j ≤ 4) (hdd : ∀ j : Int, 0 ≤ dd j ∧ dd j ≤ 1000000) (htd : 0 ≤ td ∧ td ≤ 1000000) (hpa : ∀ j : Int, -1 ≤ pa j ∧ pa j ≤ 15) (hsp : ∀ j : Int, -1 ≤ sp j ∧ sp j ≤ 15) (hal : ∀ j : Int, 0 ≤ al j ∧ al j ≤ 1) (d0 : Int64) (p : Int) (h1 : 0 ≤ p ∧ p < (n : Int)) : zM l yX2_digestPerson wsX2_digestPerson ({ frames := 8, cells := 0, slots := 0, locals := 132 }) D [(cI, .int), (cZ, .boolean)] [.ref (q 0), .long d0, .int (zI p)] (wC cI cZ q pa sp al dg co da mb dd ah wl lo n td wn) (wC cI cZ q pa sp al (dgF pa sp n p) co da mb dd (ca co da mb dd td n p) wl lo n td wn) (some (.long (dpC pa sp al co da mb dd n td d0 p))) (zLC q) := by
  refine Met.ofW (cc := cX2_digestPerson) (maxL := 7) (ret := (some .long)) (by decide) rfl ?_
  intro p0 e9 s9 m9 ag9 below meth c9 s₁ B hml hv
  obtain ⟨hav, hP, hK⟩ := hv
  have hx := B.exec
  have hb := B.bytes
  have hr := B.returns
  have hts := atoms_spec (ws := wsX2_digestPerson) B.pre
  have hown : s9.vm.findClass RX2 = some m9.cls := findClass_of_methodNamed B.named
  have hlocks := B.notSynchronized
  have hA : ∀ a ∈ zLC q, (fun a => a ∈ zLC q) a := fun _ h => h
  have hin2 : ∀ w ∈ u_ws RX2 TX2 9, w ∈ wsX2_digestPerson := by decide +kernel
  have hl := lv_entry ([.ref (q 0), .long d0, .int (zI p)]) (n := 7) (Nat.le_of_ble_eq_true rfl)
  have hE : entryFrame m9 ag9 7 = F0 m9 0 ((lg_sl ([.ref (q 0), .long d0, .int (zI p)]) ++ List.replicate (7 - (lg_sl ([.ref (q 0), .long d0, .int (zI p)])).length) Slot.unset).toArray) [] := by rw [hav]; exact lg_entry_eq m9 _ _
  obtain ⟨Q0, hQ0⟩ : ∃ Q0, Q0 = MQ below (zQ D (wC cI cZ q pa sp al (dgF pa sp n p) co da mb dd (ca co da mb dd td n p) wl lo n td wn) (some (.long (dpC pa sp al co da mb dd n td d0 p))) (zLC q)) ag9 s9 0 0 (fun a => a ∈ zLC q) := ⟨_, rfl⟩
  show W p0 l e9 ({ frames := 8, cells := 0, slots := 0, locals := 132 }) s9 m9 ag9 below meth c9 s9.heap [] 0 0 (MQ below (zQ D (wC cI cZ q pa sp al (dgF pa sp n p) co da mb dd (ca co da mb dd td n p) wl lo n td wn) (some (.long (dpC pa sp al co da mb dd n td d0 p))) (zLC q)) ag9 s9 0 0 (fun a => a ∈ zLC q)) _
  rw [hE, ← hQ0]
  have hS : va_S (fun a => a ∈ zLC q) s9.heap s9.heap [] := va_S.rf
  generalize hH0 : s9.heap = H at hP ⊢
  have hS : va_S (fun a => a ∈ zLC q) s9.heap H [] := by rw [hH0] at hS ⊢; exact hS
  generalize (lg_sl ([.ref (q 0), .long d0, .int (zI p)]) ++ List.replicate (7 - (lg_sl ([.ref (q 0), .long d0, .int (zI p)])).length) Slot.unset).toArray = ls at hl ⊢
  have hl : lv_has ls 7 [(0, .ref (q 0)), (1, .long d0), (3, .int (zI p))] := hl
  refine lv_lload_n hx hb dX2_digestPerson_0 rfl (lv_at hl 1 rfl) ?_
  refine lv_lstore (lv' := [(4, .long d0), (0, .ref (q 0)), (1, .long d0), (3, .int (zI p))]) hx hb dX2_digestPerson_1 hl (by decide) rfl (fun ls hl => ?_)
  have hb9 := hal p
  refine lv_lload hx hb dX2_digestPerson_3 (lv_at hl 0 rfl) ?_
  refine lv_ldc2 (v := 31) hx hb hown (hts (.constantLong RX2 203 (31)) (by decide +kernel)) dX2_digestPerson_5 ?_
  refine lv_lmul hx hb dX2_digestPerson_8 ?_
  refine lv_aload_n hx hb dX2_digestPerson_9 rfl (lv_at hl 1 rfl) ?_
  refine lv_iload_n hx hb dX2_digestPerson_10 rfl (lv_at hl 3 rfl) ?_
  refine zcallV (ci := 2) (q0 := 0) (cq := (RX2, TX2, 9)) (As := [.int (zI p)]) (rest := [.long (d0 * (31 : Int64))]) ⟨hx, hb, hml, hown, hts⟩ hK (kX2_isAliveok l D cI cZ q hN pa sp al dg co da mb dd ah wl lo n td wn hn hal p (by omega)) (cwV 1 hts gX2_digestPerson_X2_isAlive rfl rfl rfl (by decide +kernel) ⟨Nat.le_of_ble_eq_true rfl, Nat.le_of_ble_eq_true rfl⟩) hP hS hA rfl rfl rfl hl.1 rfl (Nat.le_of_ble_eq_true rfl) dX2_digestPerson_11 ⟨Nat.zero_le _, Nat.zero_le _⟩ (fun H locs hP hS _ _ => ?_)
  refine W.eq (g2 := F0 m9 14 ls [.int (zI (al p)), .long (d0 * (31 : Int64))]) rfl ?_
  refine zr_if_eq (tgt := 21) hx hb dX2_digestPerson_14 (by decide) ⟨by omega, by omega⟩ (fun c_1 => ?_) (fun c_1 => ?_)
  · have c_1 := c_1
    refine zr_iconst hx hb dX2_digestPerson_21 ?_
    refine lv_i2l hx hb dX2_digestPerson_22 rfl ?_
    refine lv_ladd hx hb dX2_digestPerson_23 ?_
    refine lv_lstore (lv' := [(4, .long ((d0 * (31 : Int64)) + ((zI 0).toInt64))), (0, .ref (q 0)), (1, .long d0), (3, .int (zI p))]) hx hb dX2_digestPerson_24 hl (by decide) rfl (fun ls hl => ?_)
    refine lv_lload hx hb dX2_digestPerson_26 (lv_at hl 0 rfl) ?_
    refine lv_ldc2 (v := 31) hx hb hown (hts (.constantLong RX2 203 (31)) (by decide +kernel)) dX2_digestPerson_28 ?_
    refine lv_lmul hx hb dX2_digestPerson_31 ?_
    refine lv_aload_n hx hb dX2_digestPerson_32 rfl (lv_at hl 1 rfl) ?_
    refine lv_iload_n hx hb dX2_digestPerson_33 rfl (lv_at hl 3 rfl) ?_
    refine zcallV (ci := 2) (q0 := 0) (cq := (RX2, TX2, 9)) (As := [.int (zI p)]) (rest := [.long (((d0 * (31 : Int64)) + ((zI 0).toInt64)) * (31 : Int64))]) ⟨hx, hb, hml, hown, hts⟩ hK (kX2_parentOfok l D cI cZ q hN pa sp al dg co da mb dd ah wl lo n td wn hn hpa p (by omega)) (cwV 1 hts gX2_digestPerson_X2_parentOf rfl rfl rfl (by decide +kernel) ⟨Nat.le_of_ble_eq_true rfl, Nat.le_of_ble_eq_true rfl⟩) hP hS hA rfl rfl rfl hl.1 rfl (Nat.le_of_ble_eq_true rfl) dX2_digestPerson_34 ⟨Nat.zero_le _, Nat.zero_le _⟩ (fun H locs hP hS _ _ => ?_)
    refine W.eq (g2 := F0 m9 37 ls [.int (zI (pa p)), .long (((d0 * (31 : Int64)) + ((zI 0).toInt64)) * (31 : Int64))]) rfl ?_
    refine lv_i2l hx hb dX2_digestPerson_37 rfl ?_
    refine lv_ladd hx hb dX2_digestPerson_38 ?_
    refine lv_lstore (lv' := [(4, .long ((((d0 * (31 : Int64)) + ((zI 0).toInt64)) * (31 : Int64)) + ((zI (pa p)).toInt64))), (0, .ref (q 0)), (1, .long d0), (3, .int (zI p))]) hx hb dX2_digestPerson_39 hl (by decide) rfl (fun ls hl => ?_)
    refine lv_lload hx hb dX2_digestPerson_41 (lv_at hl 0 rfl) ?_
    refine lv_ldc2 (v := 31) hx hb hown (hts (.constantLong RX2 203 (31)) (by decide +kernel)) dX2_digestPerson_43 ?_
    refine lv_lmul hx hb dX2_digestPerson_46 ?_
    refine lv_aload_n hx hb dX2_digestPerson_47 rfl (lv_at hl 1 rfl) ?_
    refine lv_iload_n hx hb dX2_digestPerson_48 rfl (lv_at hl 3 rfl) ?_
    refine zcallV (ci := 2) (q0 := 0) (cq := (RX2, TX2, 9)) (As := [.int (zI p)]) (rest := [.long (((((d0 * (31 : Int64)) + ((zI 0).toInt64)) * (31 : Int64)) + ((zI (pa p)).toInt64)) * (31 : Int64))]) ⟨hx, hb, hml, hown, hts⟩ hK (kX2_marriedTook l D cI cZ q hN pa sp al dg co da mb dd ah wl lo n td wn hn hsp p (by omega)) (cwV 1 hts gX2_digestPerson_X2_marriedTo rfl rfl rfl (by decide +kernel) ⟨Nat.le_of_ble_eq_true rfl, Nat.le_of_ble_eq_true rfl⟩) hP hS hA rfl rfl rfl hl.1 rfl (Nat.le_of_ble_eq_true rfl) dX2_digestPerson_49 ⟨Nat.zero_le _, Nat.zero_le _⟩ (fun H locs hP hS _ _ => ?_)
    refine W.eq (g2 := F0 m9 52 ls [.int (zI (sp p)), .long (((((d0 * (31 : Int64)) + ((zI 0).toInt64)) * (31 : Int64)) + ((zI (pa p)).toInt64)) * (31 : Int64))]) rfl ?_
    refine lv_i2l hx hb dX2_digestPerson_52 rfl ?_
    refine lv_ladd hx hb dX2_digestPerson_53 ?_
    refine lv_lstore (lv' := [(4, .long ((((((d0 * (31 : Int64)) + ((zI 0).toInt64)) * (31 : Int64)) + ((zI (pa p)).toInt64)) * (31 : Int64)) + ((zI (sp p)).toInt64))), (0, .ref (q 0)), (1, .long d0), (3, .int (zI p))]) hx hb dX2_digestPerson_54 hl (by decide) rfl (fun ls hl => ?_)
    refine lv_lload hx hb dX2_digestPerson_56 (lv_at hl 0 rfl) ?_
    refine lv_ldc2 (v := 31) hx hb hown (hts (.constantLong RX2 203 (31)) (by decide +kernel)) dX2_digestPerson_58 ?_
    refine lv_lmul hx hb dX2_digestPerson_61 ?_
    refine lv_aload_n hx hb dX2_digestPerson_62 rfl (lv_at hl 1 rfl) ?_
    refine lv_iload_n hx hb dX2_digestPerson_63 rfl (lv_at hl 3 rfl) ?_
    refine zcallV (ci := 2) (q0 := 0) (cq := (RX2, TX2, 9)) (As := [.int (zI p)]) (rest := [.long (((((((d0 * (31 : Int64)) + ((zI 0).toInt64)) * (31 : Int64)) + ((zI (pa p)).toInt64)) * (31 : Int64)) + ((zI (sp p)).toInt64)) * (31 : Int64))]) ⟨hx, hb, hml, hown, hts⟩ hK (kX2_colourOfok l D cI cZ q hN pa sp al dg co da mb dd ah wl lo n td wn hn hco hda hmb hdd htd p (by omega)) (cwV 1 hts gX2_digestPerson_X2_colourOf rfl rfl rfl (by decide +kernel) ⟨Nat.le_of_ble_eq_true rfl, Nat.le_of_ble_eq_true rfl⟩) hP hS hA rfl rfl rfl hl.1 rfl (Nat.le_of_ble_eq_true rfl) dX2_digestPerson_64 ⟨Nat.zero_le _, Nat.zero_le _⟩ (fun H locs hP hS _ _ => ?_)
    refine W.eq (g2 := F0 m9 67 ls [.int (zI (ca co da mb dd td n p 0)), .long (((((((d0 * (31 : Int64)) + ((zI 0).toInt64)) * (31 : Int64)) + ((zI (pa p)).toInt64)) * (31 : Int64)) + ((zI (sp p)).toInt64)) * (31 : Int64))]) rfl ?_
    refine lv_i2l hx hb dX2_digestPerson_67 rfl ?_
    refine lv_ladd hx hb dX2_digestPerson_68 ?_
    refine lv_lstore (lv' := [(4, .long ((((((((d0 * (31 : Int64)) + ((zI 0).toInt64)) * (31 : Int64)) + ((zI (pa p)).toInt64)) * (31 : Int64)) + ((zI (sp p)).toInt64)) * (31 : Int64)) + ((zI (ca co da mb dd td n p 0)).toInt64))), (0, .ref (q 0)), (1, .long d0), (3, .int (zI p))]) hx hb dX2_digestPerson_69 hl (by decide) rfl (fun ls hl => ?_)
    refine lv_lload hx hb dX2_digestPerson_71 (lv_at hl 0 rfl) ?_
    refine lv_ldc2 (v := 31) hx hb hown (hts (.constantLong RX2 203 (31)) (by decide +kernel)) dX2_digestPerson_73 ?_
    refine lv_lmul hx hb dX2_digestPerson_76 ?_
    refine lv_aload_n hx hb dX2_digestPerson_77 rfl (lv_at hl 1 rfl) ?_
    refine lv_iload_n hx hb dX2_digestPerson_78 rfl (lv_at hl 3 rfl) ?_
    refine zcallV (ci := 2) (q0 := 0) (cq := (RX2, TX2, 9)) (As := [.int (zI p)]) (rest := [.long (((((((((d0 * (31 : Int64)) + ((zI 0).toInt64)) * (31 : Int64)) + ((zI (pa p)).toInt64)) * (31 : Int64)) + ((zI (sp p)).toInt64)) * (31 : Int64)) + ((zI (ca co da mb dd td n p 0)).toInt64)) * (31 : Int64))]) ⟨hx, hb, hml, hown, hts⟩ hK (kX2_mourningsOfok l D cI cZ q hN pa sp al dg co da mb dd ah wl lo n td wn hn hda hmb hdd htd p (by omega)) (cwV 1 hts gX2_digestPerson_X2_mourningsOf rfl rfl rfl (by decide +kernel) ⟨Nat.le_of_ble_eq_true rfl, Nat.le_of_ble_eq_true rfl⟩) hP hS hA rfl rfl rfl hl.1 rfl (Nat.le_of_ble_eq_true rfl) dX2_digestPerson_79 ⟨Nat.zero_le _, Nat.zero_le _⟩ (fun H locs hP hS _ _ => ?_)
    refine W.eq (g2 := F0 m9 82 ls [.int (zI (smF (gtF (lf da mb dd td p)) n)), .long (((((((((d0 * (31 : Int64)) + ((zI 0).toInt64)) * (31 : Int64)) + ((zI (pa p)).toInt64)) * (31 : Int64)) + ((zI (sp p)).toInt64)) * (31 : Int64)) + ((zI (ca co da mb dd td n p 0)).toInt64)) * (31 : Int64))]) rfl ?_
    refine lv_i2l hx hb dX2_digestPerson_82 rfl ?_
    refine lv_ladd hx hb dX2_digestPerson_83 ?_
    refine lv_lstore (lv' := [(4, .long ((((((((((d0 * (31 : Int64)) + ((zI 0).toInt64)) * (31 : Int64)) + ((zI (pa p)).toInt64)) * (31 : Int64)) + ((zI (sp p)).toInt64)) * (31 : Int64)) + ((zI (ca co da mb dd td n p 0)).toInt64)) * (31 : Int64)) + ((zI (smF (gtF (lf da mb dd td p)) n)).toInt64))), (0, .ref (q 0)), (1, .long d0), (3, .int (zI p))]) hx hb dX2_digestPerson_84 hl (by decide) rfl (fun ls hl => ?_)
    refine lv_lload hx hb dX2_digestPerson_86 (lv_at hl 0 rfl) ?_
    refine lv_ldc2 (v := 31) hx hb hown (hts (.constantLong RX2 203 (31)) (by decide +kernel)) dX2_digestPerson_88 ?_
    refine lv_lmul hx hb dX2_digestPerson_91 ?_
    refine lv_aload_n hx hb dX2_digestPerson_92 rfl (lv_at hl 1 rfl) ?_
    refine lv_iload_n hx hb dX2_digestPerson_93 rfl (lv_at hl 3 rfl) ?_
    refine zcallV (ci := 2) (q0 := 0) (cq := (RX2, TX2, 9)) (As := [.int (zI p)]) (rest := [.long (((((((((((d0 * (31 : Int64)) + ((zI 0).toInt64)) * (31 : Int64)) + ((zI (pa p)).toInt64)) * (31 : Int64)) + ((zI (sp p)).toInt64)) * (31 : Int64)) + ((zI (ca co da mb dd td n p 0)).toInt64)) * (31 : Int64)) + ((zI (smF (gtF (lf da mb dd td p)) n)).toInt64)) * (31 : Int64))]) ⟨hx, hb, hml, hown, hts⟩ hK (kX2_daysLeftok l D cI cZ q hN pa sp al dg co da mb dd ah wl lo n td wn hn hda hmb hdd htd p (by omega)) (cwV 1 hts gX2_digestPerson_X2_daysLeft rfl rfl rfl (by decide +kernel) ⟨Nat.le_of_ble_eq_true rfl, Nat.le_of_ble_eq_true rfl⟩) hP hS hA rfl rfl rfl hl.1 rfl (Nat.le_of_ble_eq_true rfl) dX2_digestPerson_94 ⟨Nat.zero_le _, Nat.zero_le _⟩ (fun H locs hP hS _ _ => ?_)
    refine W.eq (g2 := F0 m9 97 ls [.int (zI (mxF (lf da mb dd td p) n)), .long (((((((((((d0 * (31 : Int64)) + ((zI 0).toInt64)) * (31 : Int64)) + ((zI (pa p)).toInt64)) * (31 : Int64)) + ((zI (sp p)).toInt64)) * (31 : Int64)) + ((zI (ca co da mb dd td n p 0)).toInt64)) * (31 : Int64)) + ((zI (smF (gtF (lf da mb dd td p)) n)).toInt64)) * (31 : Int64))]) rfl ?_
    refine lv_i2l hx hb dX2_digestPerson_97 rfl ?_
    refine lv_ladd hx hb dX2_digestPerson_98 ?_
    refine lv_lstore (lv' := [(4, .long ((((((((((((d0 * (31 : Int64)) + ((zI 0).toInt64)) * (31 : Int64)) + ((zI (pa p)).toInt64)) * (31 : Int64)) + ((zI (sp p)).toInt64)) * (31 : Int64)) + ((zI (ca co da mb dd td n p 0)).toInt64)) * (31 : Int64)) + ((zI (smF (gtF (lf da mb dd td p)) n)).toInt64)) * (31 : Int64)) + ((zI (mxF (lf da mb dd td p) n)).toInt64))), (0, .ref (q 0)), (1, .long d0), (3, .int (zI p))]) hx hb dX2_digestPerson_99 hl (by decide) rfl (fun ls hl => ?_)
    refine lv_lload hx hb dX2_digestPerson_101 (lv_at hl 0 rfl) ?_
    refine lv_ldc2 (v := 31) hx hb hown (hts (.constantLong RX2 203 (31)) (by decide +kernel)) dX2_digestPerson_103 ?_
    refine lv_lmul hx hb dX2_digestPerson_106 ?_
    refine lv_aload_n hx hb dX2_digestPerson_107 rfl (lv_at hl 1 rfl) ?_
    refine lv_iload_n hx hb dX2_digestPerson_108 rfl (lv_at hl 3 rfl) ?_
    refine zcallV (ci := 2) (q0 := 0) (cq := (RX2, TX2, 9)) (As := [.int (zI p)]) (rest := [.long (((((((((((((d0 * (31 : Int64)) + ((zI 0).toInt64)) * (31 : Int64)) + ((zI (pa p)).toInt64)) * (31 : Int64)) + ((zI (sp p)).toInt64)) * (31 : Int64)) + ((zI (ca co da mb dd td n p 0)).toInt64)) * (31 : Int64)) + ((zI (smF (gtF (lf da mb dd td p)) n)).toInt64)) * (31 : Int64)) + ((zI (mxF (lf da mb dd td p) n)).toInt64)) * (31 : Int64))]) ⟨hx, hb, hml, hown, hts⟩ hK (kX2_daysUntilLighterok l D cI cZ q hN pa sp al dg co da mb dd ah wl lo n td wn hn hco hda hmb hdd htd p (by omega)) (cwV 1 hts gX2_digestPerson_X2_daysUntilLighter rfl rfl rfl (by decide +kernel) ⟨Nat.le_of_ble_eq_true rfl, Nat.le_of_ble_eq_true rfl⟩) hP hS hA rfl rfl rfl hl.1 rfl (Nat.le_of_ble_eq_true rfl) dX2_digestPerson_109 ⟨Nat.zero_le _, Nat.zero_le _⟩ (fun H locs hP hS _ _ => ?_)
    refine W.eq (g2 := F0 m9 112 ls [.int (zI (flD (ca co da mb dd td n p))), .long (((((((((((((d0 * (31 : Int64)) + ((zI 0).toInt64)) * (31 : Int64)) + ((zI (pa p)).toInt64)) * (31 : Int64)) + ((zI (sp p)).toInt64)) * (31 : Int64)) + ((zI (ca co da mb dd td n p 0)).toInt64)) * (31 : Int64)) + ((zI (smF (gtF (lf da mb dd td p)) n)).toInt64)) * (31 : Int64)) + ((zI (mxF (lf da mb dd td p) n)).toInt64)) * (31 : Int64))]) rfl ?_
    refine lv_i2l hx hb dX2_digestPerson_112 rfl ?_
    refine lv_ladd hx hb dX2_digestPerson_113 ?_
    refine lv_lstore (lv' := [(4, .long ((((((((((((((d0 * (31 : Int64)) + ((zI 0).toInt64)) * (31 : Int64)) + ((zI (pa p)).toInt64)) * (31 : Int64)) + ((zI (sp p)).toInt64)) * (31 : Int64)) + ((zI (ca co da mb dd td n p 0)).toInt64)) * (31 : Int64)) + ((zI (smF (gtF (lf da mb dd td p)) n)).toInt64)) * (31 : Int64)) + ((zI (mxF (lf da mb dd td p) n)).toInt64)) * (31 : Int64)) + ((zI (flD (ca co da mb dd td n p))).toInt64))), (0, .ref (q 0)), (1, .long d0), (3, .int (zI p))]) hx hb dX2_digestPerson_114 hl (by decide) rfl (fun ls hl => ?_)
    refine lv_aload_n hx hb dX2_digestPerson_116 rfl (lv_at hl 1 rfl) ?_
    refine va_get (D := D) (ci := 2) (v := .ref (q 1)) (C := RX2) (T := TX2) (N := 9) hx hb hts hin2 hown hK hP 0 rfl rfl 0 (by decide) (hts (.fieldLink RX2 12 "MourningRibbons" "family" "LMourningRibbons$Family;") (by decide +kernel)) (fun _ h9 => h9) rfl dX2_digestPerson_117 ?_
    refine lv_iload_n hx hb dX2_digestPerson_120 rfl (lv_at hl 3 rfl) ?_
    refine zcallV (ci := 1) (q0 := 1) (cq := (RX1, TX1, 5)) (As := [.int (zI p)]) (rest := []) ⟨hx, hb, hml, hown, hts⟩ hK (kX1_findDegrees l D cI cZ q hN pa sp al dg co da mb dd (ca co da mb dd td n p) wl lo n td wn hpa hsp hn p (by omega)) (cwV 1 hts gX2_digestPerson_X1_findDegrees rfl rfl rfl (by decide +kernel) ⟨Nat.le_of_ble_eq_true rfl, Nat.le_of_ble_eq_true rfl⟩) hP hS hA rfl rfl rfl hl.1 rfl (Nat.le_of_ble_eq_true rfl) dX2_digestPerson_121 ⟨Nat.zero_le _, Nat.zero_le _⟩ (fun H locs hP hS _ _ => ?_)
    have g_2 : ∀ j : Int, 0 ≤ (dgF pa sp n p) j ∧ (dgF pa sp n p) j ≤ 4 := dgF_bd pa sp n p
    refine W.eq (g2 := F0 m9 124 ls []) rfl ?_
    refine zr_iconst hx hb dX2_digestPerson_124 ?_
    refine lv_istore (lv' := [(6, .int (zI 1)), (4, .long ((((((((((((((d0 * (31 : Int64)) + ((zI 0).toInt64)) * (31 : Int64)) + ((zI (pa p)).toInt64)) * (31 : Int64)) + ((zI (sp p)).toInt64)) * (31 : Int64)) + ((zI (ca co da mb dd td n p 0)).toInt64)) * (31 : Int64)) + ((zI (smF (gtF (lf da mb dd td p)) n)).toInt64)) * (31 : Int64)) + ((zI (mxF (lf da mb dd td p) n)).toInt64)) * (31 : Int64)) + ((zI (flD (ca co da mb dd td n p))).toInt64))), (0, .ref (q 0)), (1, .long d0), (3, .int (zI p))]) hx hb dX2_digestPerson_125 hl (by decide) rfl (fun ls hl => ?_)
    refine lv_iload hx hb dX2_digestPerson_127 (lv_at hl 0 rfl) ?_
    refine zr_iconst hx hb dX2_digestPerson_129 ?_
    refine zr_icmp_gt (tgt := 158) hx hb dX2_digestPerson_130 (by decide) ⟨by decide, by decide⟩ ⟨by decide, by decide⟩ (fun c_3 => by exfalso; revert c_3; decide) (fun c_3 => ?_)
    refine lv_lload hx hb dX2_digestPerson_133 (lv_at hl 1 rfl) ?_
    refine lv_ldc2 (v := 31) hx hb hown (hts (.constantLong RX2 203 (31)) (by decide +kernel)) dX2_digestPerson_135 ?_
    refine lv_lmul hx hb dX2_digestPerson_138 ?_
    refine lv_aload_n hx hb dX2_digestPerson_139 rfl (lv_at hl 2 rfl) ?_
    refine va_get (D := D) (ci := 2) (v := .ref (q 1)) (C := RX2) (T := TX2) (N := 9) hx hb hts hin2 hown hK hP 0 rfl rfl 0 (by decide) (hts (.fieldLink RX2 12 "MourningRibbons" "family" "LMourningRibbons$Family;") (by decide +kernel)) (fun _ h9 => h9) rfl dX2_digestPerson_140 ?_
    refine lv_iload hx hb dX2_digestPerson_143 (lv_at hl 0 rfl) ?_
    refine zcallV (ci := 1) (q0 := 1) (cq := (RX1, TX1, 5)) (As := [.int (zI 1)]) (rest := [.long (((((((((((((((d0 * (31 : Int64)) + ((zI 0).toInt64)) * (31 : Int64)) + ((zI (pa p)).toInt64)) * (31 : Int64)) + ((zI (sp p)).toInt64)) * (31 : Int64)) + ((zI (ca co da mb dd td n p 0)).toInt64)) * (31 : Int64)) + ((zI (smF (gtF (lf da mb dd td p)) n)).toInt64)) * (31 : Int64)) + ((zI (mxF (lf da mb dd td p) n)).toInt64)) * (31 : Int64)) + ((zI (flD (ca co da mb dd td n p))).toInt64)) * (31 : Int64))]) ⟨hx, hb, hml, hown, hts⟩ hK (kX1_countKin l D cI cZ q hN pa sp al (dgF pa sp n p) co da mb dd (ca co da mb dd td n p) wl lo n td wn hn hal g_2 1 (by omega)) (cwV 1 hts gX2_digestPerson_X1_countKin rfl rfl rfl (by decide +kernel) ⟨Nat.le_of_ble_eq_true rfl, Nat.le_of_ble_eq_true rfl⟩) hP hS hA rfl rfl rfl hl.1 rfl (Nat.le_of_ble_eq_true rfl) dX2_digestPerson_145 ⟨Nat.zero_le _, Nat.zero_le _⟩ (fun H locs hP hS _ _ => ?_)
    refine W.eq (g2 := F0 m9 148 ls [.int (zI (smF (kinF al (dgF pa sp n p) 1) n)), .long (((((((((((((((d0 * (31 : Int64)) + ((zI 0).toInt64)) * (31 : Int64)) + ((zI (pa p)).toInt64)) * (31 : Int64)) + ((zI (sp p)).toInt64)) * (31 : Int64)) + ((zI (ca co da mb dd td n p 0)).toInt64)) * (31 : Int64)) + ((zI (smF (gtF (lf da mb dd td p)) n)).toInt64)) * (31 : Int64)) + ((zI (mxF (lf da mb dd td p) n)).toInt64)) * (31 : Int64)) + ((zI (flD (ca co da mb dd td n p))).toInt64)) * (31 : Int64))]) rfl ?_
    refine lv_i2l hx hb dX2_digestPerson_148 rfl ?_
    refine lv_ladd hx hb dX2_digestPerson_149 ?_
    refine lv_lstore (lv' := [(4, .long ((((((((((((((((d0 * (31 : Int64)) + ((zI 0).toInt64)) * (31 : Int64)) + ((zI (pa p)).toInt64)) * (31 : Int64)) + ((zI (sp p)).toInt64)) * (31 : Int64)) + ((zI (ca co da mb dd td n p 0)).toInt64)) * (31 : Int64)) + ((zI (smF (gtF (lf da mb dd td p)) n)).toInt64)) * (31 : Int64)) + ((zI (mxF (lf da mb dd td p) n)).toInt64)) * (31 : Int64)) + ((zI (flD (ca co da mb dd td n p))).toInt64)) * (31 : Int64)) + ((zI (smF (kinF al (dgF pa sp n p) 1) n)).toInt64))), (6, .int (zI 1)), (0, .ref (q 0)), (1, .long d0), (3, .int (zI p))]) hx hb dX2_digestPerson_150 hl (by decide) rfl (fun ls hl => ?_)
    refine zr_iinc (v := 2) (lv' := [(6, .int (zI 2)), (4, .long ((((((((((((((((d0 * (31 : Int64)) + ((zI 0).toInt64)) * (31 : Int64)) + ((zI (pa p)).toInt64)) * (31 : Int64)) + ((zI (sp p)).toInt64)) * (31 : Int64)) + ((zI (ca co da mb dd td n p 0)).toInt64)) * (31 : Int64)) + ((zI (smF (gtF (lf da mb dd td p)) n)).toInt64)) * (31 : Int64)) + ((zI (mxF (lf da mb dd td p) n)).toInt64)) * (31 : Int64)) + ((zI (flD (ca co da mb dd td n p))).toInt64)) * (31 : Int64)) + ((zI (smF (kinF al (dgF pa sp n p) 1) n)).toInt64))), (0, .ref (q 0)), (1, .long d0), (3, .int (zI p))]) hx hb dX2_digestPerson_152 hl (k := 1) rfl (by decide) (by decide) rfl (fun ls hl => ?_)
    refine lv_goto (tgt := 127) hx hb dX2_digestPerson_155 (by decide) ?_
    refine lv_iload hx hb dX2_digestPerson_127 (lv_at hl 0 rfl) ?_
    refine zr_iconst hx hb dX2_digestPerson_129 ?_
    refine zr_icmp_gt (tgt := 158) hx hb dX2_digestPerson_130 (by decide) ⟨by decide, by decide⟩ ⟨by decide, by decide⟩ (fun c_4 => by exfalso; revert c_4; decide) (fun c_4 => ?_)
    refine lv_lload hx hb dX2_digestPerson_133 (lv_at hl 1 rfl) ?_
    refine lv_ldc2 (v := 31) hx hb hown (hts (.constantLong RX2 203 (31)) (by decide +kernel)) dX2_digestPerson_135 ?_
    refine lv_lmul hx hb dX2_digestPerson_138 ?_
    refine lv_aload_n hx hb dX2_digestPerson_139 rfl (lv_at hl 2 rfl) ?_
    refine va_get (D := D) (ci := 2) (v := .ref (q 1)) (C := RX2) (T := TX2) (N := 9) hx hb hts hin2 hown hK hP 0 rfl rfl 0 (by decide) (hts (.fieldLink RX2 12 "MourningRibbons" "family" "LMourningRibbons$Family;") (by decide +kernel)) (fun _ h9 => h9) rfl dX2_digestPerson_140 ?_
    refine lv_iload hx hb dX2_digestPerson_143 (lv_at hl 0 rfl) ?_
    refine zcallV (ci := 1) (q0 := 1) (cq := (RX1, TX1, 5)) (As := [.int (zI 2)]) (rest := [.long (((((((((((((((((d0 * (31 : Int64)) + ((zI 0).toInt64)) * (31 : Int64)) + ((zI (pa p)).toInt64)) * (31 : Int64)) + ((zI (sp p)).toInt64)) * (31 : Int64)) + ((zI (ca co da mb dd td n p 0)).toInt64)) * (31 : Int64)) + ((zI (smF (gtF (lf da mb dd td p)) n)).toInt64)) * (31 : Int64)) + ((zI (mxF (lf da mb dd td p) n)).toInt64)) * (31 : Int64)) + ((zI (flD (ca co da mb dd td n p))).toInt64)) * (31 : Int64)) + ((zI (smF (kinF al (dgF pa sp n p) 1) n)).toInt64)) * (31 : Int64))]) ⟨hx, hb, hml, hown, hts⟩ hK (kX1_countKin l D cI cZ q hN pa sp al (dgF pa sp n p) co da mb dd (ca co da mb dd td n p) wl lo n td wn hn hal g_2 2 (by omega)) (cwV 1 hts gX2_digestPerson_X1_countKin rfl rfl rfl (by decide +kernel) ⟨Nat.le_of_ble_eq_true rfl, Nat.le_of_ble_eq_true rfl⟩) hP hS hA rfl rfl rfl hl.1 rfl (Nat.le_of_ble_eq_true rfl) dX2_digestPerson_145 ⟨Nat.zero_le _, Nat.zero_le _⟩ (fun H locs hP hS _ _ => ?_)
    refine W.eq (g2 := F0 m9 148 ls [.int (zI (smF (kinF al (dgF pa sp n p) 2) n)), .long (((((((((((((((((d0 * (31 : Int64)) + ((zI 0).toInt64)) * (31 : Int64)) + ((zI (pa p)).toInt64)) * (31 : Int64)) + ((zI (sp p)).toInt64)) * (31 : Int64)) + ((zI (ca co da mb dd td n p 0)).toInt64)) * (31 : Int64)) + ((zI (smF (gtF (lf da mb dd td p)) n)).toInt64)) * (31 : Int64)) + ((zI (mxF (lf da mb dd td p) n)).toInt64)) * (31 : Int64)) + ((zI (flD (ca co da mb dd td n p))).toInt64)) * (31 : Int64)) + ((zI (smF (kinF al (dgF pa sp n p) 1) n)).toInt64)) * (31 : Int64))]) rfl ?_
    refine lv_i2l hx hb dX2_digestPerson_148 rfl ?_
    refine lv_ladd hx hb dX2_digestPerson_149 ?_
    refine lv_lstore (lv' := [(4, .long ((((((((((((((((((d0 * (31 : Int64)) + ((zI 0).toInt64)) * (31 : Int64)) + ((zI (pa p)).toInt64)) * (31 : Int64)) + ((zI (sp p)).toInt64)) * (31 : Int64)) + ((zI (ca co da mb dd td n p 0)).toInt64)) * (31 : Int64)) + ((zI (smF (gtF (lf da mb dd td p)) n)).toInt64)) * (31 : Int64)) + ((zI (mxF (lf da mb dd td p) n)).toInt64)) * (31 : Int64)) + ((zI (flD (ca co da mb dd td n p))).toInt64)) * (31 : Int64)) + ((zI (smF (kinF al (dgF pa sp n p) 1) n)).toInt64)) * (31 : Int64)) + ((zI (smF (kinF al (dgF pa sp n p) 2) n)).toInt64))), (6, .int (zI 2)), (0, .ref (q 0)), (1, .long d0), (3, .int (zI p))]) hx hb dX2_digestPerson_150 hl (by decide) rfl (fun ls hl => ?_)
    refine zr_iinc (v := 3) (lv' := [(6, .int (zI 3)), (4, .long ((((((((((((((((((d0 * (31 : Int64)) + ((zI 0).toInt64)) * (31 : Int64)) + ((zI (pa p)).toInt64)) * (31 : Int64)) + ((zI (sp p)).toInt64)) * (31 : Int64)) + ((zI (ca co da mb dd td n p 0)).toInt64)) * (31 : Int64)) + ((zI (smF (gtF (lf da mb dd td p)) n)).toInt64)) * (31 : Int64)) + ((zI (mxF (lf da mb dd td p) n)).toInt64)) * (31 : Int64)) + ((zI (flD (ca co da mb dd td n p))).toInt64)) * (31 : Int64)) + ((zI (smF (kinF al (dgF pa sp n p) 1) n)).toInt64)) * (31 : Int64)) + ((zI (smF (kinF al (dgF pa sp n p) 2) n)).toInt64))), (0, .ref (q 0)), (1, .long d0), (3, .int (zI p))]) hx hb dX2_digestPerson_152 hl (k := 1) rfl (by decide) (by decide) rfl (fun ls hl => ?_)
    refine lv_goto (tgt := 127) hx hb dX2_digestPerson_155 (by decide) ?_
    refine lv_iload hx hb dX2_digestPerson_127 (lv_at hl 0 rfl) ?_
    refine zr_iconst hx hb dX2_digestPerson_129 ?_
    refine zr_icmp_gt (tgt := 158) hx hb dX2_digestPerson_130 (by decide) ⟨by decide, by decide⟩ ⟨by decide, by decide⟩ (fun c_5 => by exfalso; revert c_5; decide) (fun c_5 => ?_)
    refine lv_lload hx hb dX2_digestPerson_133 (lv_at hl 1 rfl) ?_
    refine lv_ldc2 (v := 31) hx hb hown (hts (.constantLong RX2 203 (31)) (by decide +kernel)) dX2_digestPerson_135 ?_
    refine lv_lmul hx hb dX2_digestPerson_138 ?_
    refine lv_aload_n hx hb dX2_digestPerson_139 rfl (lv_at hl 2 rfl) ?_
    refine va_get (D := D) (ci := 2) (v := .ref (q 1)) (C := RX2) (T := TX2) (N := 9) hx hb hts hin2 hown hK hP 0 rfl rfl 0 (by decide) (hts (.fieldLink RX2 12 "MourningRibbons" "family" "LMourningRibbons$Family;") (by decide +kernel)) (fun _ h9 => h9) rfl dX2_digestPerson_140 ?_
    refine lv_iload hx hb dX2_digestPerson_143 (lv_at hl 0 rfl) ?_
    refine zcallV (ci := 1) (q0 := 1) (cq := (RX1, TX1, 5)) (As := [.int (zI 3)]) (rest := [.long (((((((((((((((((((d0 * (31 : Int64)) + ((zI 0).toInt64)) * (31 : Int64)) + ((zI (pa p)).toInt64)) * (31 : Int64)) + ((zI (sp p)).toInt64)) * (31 : Int64)) + ((zI (ca co da mb dd td n p 0)).toInt64)) * (31 : Int64)) + ((zI (smF (gtF (lf da mb dd td p)) n)).toInt64)) * (31 : Int64)) + ((zI (mxF (lf da mb dd td p) n)).toInt64)) * (31 : Int64)) + ((zI (flD (ca co da mb dd td n p))).toInt64)) * (31 : Int64)) + ((zI (smF (kinF al (dgF pa sp n p) 1) n)).toInt64)) * (31 : Int64)) + ((zI (smF (kinF al (dgF pa sp n p) 2) n)).toInt64)) * (31 : Int64))]) ⟨hx, hb, hml, hown, hts⟩ hK (kX1_countKin l D cI cZ q hN pa sp al (dgF pa sp n p) co da mb dd (ca co da mb dd td n p) wl lo n td wn hn hal g_2 3 (by omega)) (cwV 1 hts gX2_digestPerson_X1_countKin rfl rfl rfl (by decide +kernel) ⟨Nat.le_of_ble_eq_true rfl, Nat.le_of_ble_eq_true rfl⟩) hP hS hA rfl rfl rfl hl.1 rfl (Nat.le_of_ble_eq_true rfl) dX2_digestPerson_145 ⟨Nat.zero_le _, Nat.zero_le _⟩ (fun H locs hP hS _ _ => ?_)
    refine W.eq (g2 := F0 m9 148 ls [.int (zI (smF (kinF al (dgF pa sp n p) 3) n)), .long (((((((((((((((((((d0 * (31 : Int64)) + ((zI 0).toInt64)) * (31 : Int64)) + ((zI (pa p)).toInt64)) * (31 : Int64)) + ((zI (sp p)).toInt64)) * (31 : Int64)) + ((zI (ca co da mb dd td n p 0)).toInt64)) * (31 : Int64)) + ((zI (smF (gtF (lf da mb dd td p)) n)).toInt64)) * (31 : Int64)) + ((zI (mxF (lf da mb dd td p) n)).toInt64)) * (31 : Int64)) + ((zI (flD (ca co da mb dd td n p))).toInt64)) * (31 : Int64)) + ((zI (smF (kinF al (dgF pa sp n p) 1) n)).toInt64)) * (31 : Int64)) + ((zI (smF (kinF al (dgF pa sp n p) 2) n)).toInt64)) * (31 : Int64))]) rfl ?_
    refine lv_i2l hx hb dX2_digestPerson_148 rfl ?_
    refine lv_ladd hx hb dX2_digestPerson_149 ?_
    refine lv_lstore (lv' := [(4, .long ((((((((((((((((((((d0 * (31 : Int64)) + ((zI 0).toInt64)) * (31 : Int64)) + ((zI (pa p)).toInt64)) * (31 : Int64)) + ((zI (sp p)).toInt64)) * (31 : Int64)) + ((zI (ca co da mb dd td n p 0)).toInt64)) * (31 : Int64)) + ((zI (smF (gtF (lf da mb dd td p)) n)).toInt64)) * (31 : Int64)) + ((zI (mxF (lf da mb dd td p) n)).toInt64)) * (31 : Int64)) + ((zI (flD (ca co da mb dd td n p))).toInt64)) * (31 : Int64)) + ((zI (smF (kinF al (dgF pa sp n p) 1) n)).toInt64)) * (31 : Int64)) + ((zI (smF (kinF al (dgF pa sp n p) 2) n)).toInt64)) * (31 : Int64)) + ((zI (smF (kinF al (dgF pa sp n p) 3) n)).toInt64))), (6, .int (zI 3)), (0, .ref (q 0)), (1, .long d0), (3, .int (zI p))]) hx hb dX2_digestPerson_150 hl (by decide) rfl (fun ls hl => ?_)
    refine zr_iinc (v := 4) (lv' := [(6, .int (zI 4)), (4, .long ((((((((((((((((((((d0 * (31 : Int64)) + ((zI 0).toInt64)) * (31 : Int64)) + ((zI (pa p)).toInt64)) * (31 : Int64)) + ((zI (sp p)).toInt64)) * (31 : Int64)) + ((zI (ca co da mb dd td n p 0)).toInt64)) * (31 : Int64)) + ((zI (smF (gtF (lf da mb dd td p)) n)).toInt64)) * (31 : Int64)) + ((zI (mxF (lf da mb dd td p) n)).toInt64)) * (31 : Int64)) + ((zI (flD (ca co da mb dd td n p))).toInt64)) * (31 : Int64)) + ((zI (smF (kinF al (dgF pa sp n p) 1) n)).toInt64)) * (31 : Int64)) + ((zI (smF (kinF al (dgF pa sp n p) 2) n)).toInt64)) * (31 : Int64)) + ((zI (smF (kinF al (dgF pa sp n p) 3) n)).toInt64))), (0, .ref (q 0)), (1, .long d0), (3, .int (zI p))]) hx hb dX2_digestPerson_152 hl (k := 1) rfl (by decide) (by decide) rfl (fun ls hl => ?_)
    refine lv_goto (tgt := 127) hx hb dX2_digestPerson_155 (by decide) ?_
    refine lv_iload hx hb dX2_digestPerson_127 (lv_at hl 0 rfl) ?_
    refine zr_iconst hx hb dX2_digestPerson_129 ?_
    refine zr_icmp_gt (tgt := 158) hx hb dX2_digestPerson_130 (by decide) ⟨by decide, by decide⟩ ⟨by decide, by decide⟩ (fun c_6 => by exfalso; revert c_6; decide) (fun c_6 => ?_)
    refine lv_lload hx hb dX2_digestPerson_133 (lv_at hl 1 rfl) ?_
    refine lv_ldc2 (v := 31) hx hb hown (hts (.constantLong RX2 203 (31)) (by decide +kernel)) dX2_digestPerson_135 ?_
    refine lv_lmul hx hb dX2_digestPerson_138 ?_
    refine lv_aload_n hx hb dX2_digestPerson_139 rfl (lv_at hl 2 rfl) ?_
    refine va_get (D := D) (ci := 2) (v := .ref (q 1)) (C := RX2) (T := TX2) (N := 9) hx hb hts hin2 hown hK hP 0 rfl rfl 0 (by decide) (hts (.fieldLink RX2 12 "MourningRibbons" "family" "LMourningRibbons$Family;") (by decide +kernel)) (fun _ h9 => h9) rfl dX2_digestPerson_140 ?_
    refine lv_iload hx hb dX2_digestPerson_143 (lv_at hl 0 rfl) ?_
    refine zcallV (ci := 1) (q0 := 1) (cq := (RX1, TX1, 5)) (As := [.int (zI 4)]) (rest := [.long (((((((((((((((((((((d0 * (31 : Int64)) + ((zI 0).toInt64)) * (31 : Int64)) + ((zI (pa p)).toInt64)) * (31 : Int64)) + ((zI (sp p)).toInt64)) * (31 : Int64)) + ((zI (ca co da mb dd td n p 0)).toInt64)) * (31 : Int64)) + ((zI (smF (gtF (lf da mb dd td p)) n)).toInt64)) * (31 : Int64)) + ((zI (mxF (lf da mb dd td p) n)).toInt64)) * (31 : Int64)) + ((zI (flD (ca co da mb dd td n p))).toInt64)) * (31 : Int64)) + ((zI (smF (kinF al (dgF pa sp n p) 1) n)).toInt64)) * (31 : Int64)) + ((zI (smF (kinF al (dgF pa sp n p) 2) n)).toInt64)) * (31 : Int64)) + ((zI (smF (kinF al (dgF pa sp n p) 3) n)).toInt64)) * (31 : Int64))]) ⟨hx, hb, hml, hown, hts⟩ hK (kX1_countKin l D cI cZ q hN pa sp al (dgF pa sp n p) co da mb dd (ca co da mb dd td n p) wl lo n td wn hn hal g_2 4 (by omega)) (cwV 1 hts gX2_digestPerson_X1_countKin rfl rfl rfl (by decide +kernel) ⟨Nat.le_of_ble_eq_true rfl, Nat.le_of_ble_eq_true rfl⟩) hP hS hA rfl rfl rfl hl.1 rfl (Nat.le_of_ble_eq_true rfl) dX2_digestPerson_145 ⟨Nat.zero_le _, Nat.zero_le _⟩ (fun H locs hP hS _ _ => ?_)
    refine W.eq (g2 := F0 m9 148 ls [.int (zI (smF (kinF al (dgF pa sp n p) 4) n)), .long (((((((((((((((((((((d0 * (31 : Int64)) + ((zI 0).toInt64)) * (31 : Int64)) + ((zI (pa p)).toInt64)) * (31 : Int64)) + ((zI (sp p)).toInt64)) * (31 : Int64)) + ((zI (ca co da mb dd td n p 0)).toInt64)) * (31 : Int64)) + ((zI (smF (gtF (lf da mb dd td p)) n)).toInt64)) * (31 : Int64)) + ((zI (mxF (lf da mb dd td p) n)).toInt64)) * (31 : Int64)) + ((zI (flD (ca co da mb dd td n p))).toInt64)) * (31 : Int64)) + ((zI (smF (kinF al (dgF pa sp n p) 1) n)).toInt64)) * (31 : Int64)) + ((zI (smF (kinF al (dgF pa sp n p) 2) n)).toInt64)) * (31 : Int64)) + ((zI (smF (kinF al (dgF pa sp n p) 3) n)).toInt64)) * (31 : Int64))]) rfl ?_
    refine lv_i2l hx hb dX2_digestPerson_148 rfl ?_
    refine lv_ladd hx hb dX2_digestPerson_149 ?_
    refine lv_lstore (lv' := [(4, .long ((((((((((((((((((((((d0 * (31 : Int64)) + ((zI 0).toInt64)) * (31 : Int64)) + ((zI (pa p)).toInt64)) * (31 : Int64)) + ((zI (sp p)).toInt64)) * (31 : Int64)) + ((zI (ca co da mb dd td n p 0)).toInt64)) * (31 : Int64)) + ((zI (smF (gtF (lf da mb dd td p)) n)).toInt64)) * (31 : Int64)) + ((zI (mxF (lf da mb dd td p) n)).toInt64)) * (31 : Int64)) + ((zI (flD (ca co da mb dd td n p))).toInt64)) * (31 : Int64)) + ((zI (smF (kinF al (dgF pa sp n p) 1) n)).toInt64)) * (31 : Int64)) + ((zI (smF (kinF al (dgF pa sp n p) 2) n)).toInt64)) * (31 : Int64)) + ((zI (smF (kinF al (dgF pa sp n p) 3) n)).toInt64)) * (31 : Int64)) + ((zI (smF (kinF al (dgF pa sp n p) 4) n)).toInt64))), (6, .int (zI 4)), (0, .ref (q 0)), (1, .long d0), (3, .int (zI p))]) hx hb dX2_digestPerson_150 hl (by decide) rfl (fun ls hl => ?_)
    refine zr_iinc (v := 5) (lv' := [(6, .int (zI 5)), (4, .long ((((((((((((((((((((((d0 * (31 : Int64)) + ((zI 0).toInt64)) * (31 : Int64)) + ((zI (pa p)).toInt64)) * (31 : Int64)) + ((zI (sp p)).toInt64)) * (31 : Int64)) + ((zI (ca co da mb dd td n p 0)).toInt64)) * (31 : Int64)) + ((zI (smF (gtF (lf da mb dd td p)) n)).toInt64)) * (31 : Int64)) + ((zI (mxF (lf da mb dd td p) n)).toInt64)) * (31 : Int64)) + ((zI (flD (ca co da mb dd td n p))).toInt64)) * (31 : Int64)) + ((zI (smF (kinF al (dgF pa sp n p) 1) n)).toInt64)) * (31 : Int64)) + ((zI (smF (kinF al (dgF pa sp n p) 2) n)).toInt64)) * (31 : Int64)) + ((zI (smF (kinF al (dgF pa sp n p) 3) n)).toInt64)) * (31 : Int64)) + ((zI (smF (kinF al (dgF pa sp n p) 4) n)).toInt64))), (0, .ref (q 0)), (1, .long d0), (3, .int (zI p))]) hx hb dX2_digestPerson_152 hl (k := 1) rfl (by decide) (by decide) rfl (fun ls hl => ?_)
    refine lv_goto (tgt := 127) hx hb dX2_digestPerson_155 (by decide) ?_
    refine lv_iload hx hb dX2_digestPerson_127 (lv_at hl 0 rfl) ?_
    refine zr_iconst hx hb dX2_digestPerson_129 ?_
    refine zr_icmp_gt (tgt := 158) hx hb dX2_digestPerson_130 (by decide) ⟨by decide, by decide⟩ ⟨by decide, by decide⟩ (fun c_7 => ?_) (fun c_7 => by exfalso; revert c_7; decide)
    refine lv_lload hx hb dX2_digestPerson_158 (lv_at hl 1 rfl) ?_
    rw [hQ0]
    exact zret_l hx hb hr hlocks (by unfold dpC; first | (rw [show al p = 1 by omega]; rfl) | (rw [show al p = 0 by omega]; rfl)) hP hS dX2_digestPerson_160
  · have c_1 := c_1
    refine zr_iconst hx hb dX2_digestPerson_17 ?_
    refine lv_goto (tgt := 22) hx hb dX2_digestPerson_18 (by decide) ?_
    refine lv_i2l hx hb dX2_digestPerson_22 rfl ?_
    refine lv_ladd hx hb dX2_digestPerson_23 ?_
    refine lv_lstore (lv' := [(4, .long ((d0 * (31 : Int64)) + ((zI 1).toInt64))), (0, .ref (q 0)), (1, .long d0), (3, .int (zI p))]) hx hb dX2_digestPerson_24 hl (by decide) rfl (fun ls hl => ?_)
    refine lv_lload hx hb dX2_digestPerson_26 (lv_at hl 0 rfl) ?_
    refine lv_ldc2 (v := 31) hx hb hown (hts (.constantLong RX2 203 (31)) (by decide +kernel)) dX2_digestPerson_28 ?_
    refine lv_lmul hx hb dX2_digestPerson_31 ?_
    refine lv_aload_n hx hb dX2_digestPerson_32 rfl (lv_at hl 1 rfl) ?_
    refine lv_iload_n hx hb dX2_digestPerson_33 rfl (lv_at hl 3 rfl) ?_
    refine zcallV (ci := 2) (q0 := 0) (cq := (RX2, TX2, 9)) (As := [.int (zI p)]) (rest := [.long (((d0 * (31 : Int64)) + ((zI 1).toInt64)) * (31 : Int64))]) ⟨hx, hb, hml, hown, hts⟩ hK (kX2_parentOfok l D cI cZ q hN pa sp al dg co da mb dd ah wl lo n td wn hn hpa p (by omega)) (cwV 1 hts gX2_digestPerson_X2_parentOf rfl rfl rfl (by decide +kernel) ⟨Nat.le_of_ble_eq_true rfl, Nat.le_of_ble_eq_true rfl⟩) hP hS hA rfl rfl rfl hl.1 rfl (Nat.le_of_ble_eq_true rfl) dX2_digestPerson_34 ⟨Nat.zero_le _, Nat.zero_le _⟩ (fun H locs hP hS _ _ => ?_)
    refine W.eq (g2 := F0 m9 37 ls [.int (zI (pa p)), .long (((d0 * (31 : Int64)) + ((zI 1).toInt64)) * (31 : Int64))]) rfl ?_
    refine lv_i2l hx hb dX2_digestPerson_37 rfl ?_
    refine lv_ladd hx hb dX2_digestPerson_38 ?_
    refine lv_lstore (lv' := [(4, .long ((((d0 * (31 : Int64)) + ((zI 1).toInt64)) * (31 : Int64)) + ((zI (pa p)).toInt64))), (0, .ref (q 0)), (1, .long d0), (3, .int (zI p))]) hx hb dX2_digestPerson_39 hl (by decide) rfl (fun ls hl => ?_)
    refine lv_lload hx hb dX2_digestPerson_41 (lv_at hl 0 rfl) ?_
    refine lv_ldc2 (v := 31) hx hb hown (hts (.constantLong RX2 203 (31)) (by decide +kernel)) dX2_digestPerson_43 ?_
    refine lv_lmul hx hb dX2_digestPerson_46 ?_
    refine lv_aload_n hx hb dX2_digestPerson_47 rfl (lv_at hl 1 rfl) ?_
    refine lv_iload_n hx hb dX2_digestPerson_48 rfl (lv_at hl 3 rfl) ?_
    refine zcallV (ci := 2) (q0 := 0) (cq := (RX2, TX2, 9)) (As := [.int (zI p)]) (rest := [.long (((((d0 * (31 : Int64)) + ((zI 1).toInt64)) * (31 : Int64)) + ((zI (pa p)).toInt64)) * (31 : Int64))]) ⟨hx, hb, hml, hown, hts⟩ hK (kX2_marriedTook l D cI cZ q hN pa sp al dg co da mb dd ah wl lo n td wn hn hsp p (by omega)) (cwV 1 hts gX2_digestPerson_X2_marriedTo rfl rfl rfl (by decide +kernel) ⟨Nat.le_of_ble_eq_true rfl, Nat.le_of_ble_eq_true rfl⟩) hP hS hA rfl rfl rfl hl.1 rfl (Nat.le_of_ble_eq_true rfl) dX2_digestPerson_49 ⟨Nat.zero_le _, Nat.zero_le _⟩ (fun H locs hP hS _ _ => ?_)
    refine W.eq (g2 := F0 m9 52 ls [.int (zI (sp p)), .long (((((d0 * (31 : Int64)) + ((zI 1).toInt64)) * (31 : Int64)) + ((zI (pa p)).toInt64)) * (31 : Int64))]) rfl ?_
    refine lv_i2l hx hb dX2_digestPerson_52 rfl ?_
    refine lv_ladd hx hb dX2_digestPerson_53 ?_
    refine lv_lstore (lv' := [(4, .long ((((((d0 * (31 : Int64)) + ((zI 1).toInt64)) * (31 : Int64)) + ((zI (pa p)).toInt64)) * (31 : Int64)) + ((zI (sp p)).toInt64))), (0, .ref (q 0)), (1, .long d0), (3, .int (zI p))]) hx hb dX2_digestPerson_54 hl (by decide) rfl (fun ls hl => ?_)
    refine lv_lload hx hb dX2_digestPerson_56 (lv_at hl 0 rfl) ?_
    refine lv_ldc2 (v := 31) hx hb hown (hts (.constantLong RX2 203 (31)) (by decide +kernel)) dX2_digestPerson_58 ?_
    refine lv_lmul hx hb dX2_digestPerson_61 ?_
    refine lv_aload_n hx hb dX2_digestPerson_62 rfl (lv_at hl 1 rfl) ?_
    refine lv_iload_n hx hb dX2_digestPerson_63 rfl (lv_at hl 3 rfl) ?_
    refine zcallV (ci := 2) (q0 := 0) (cq := (RX2, TX2, 9)) (As := [.int (zI p)]) (rest := [.long (((((((d0 * (31 : Int64)) + ((zI 1).toInt64)) * (31 : Int64)) + ((zI (pa p)).toInt64)) * (31 : Int64)) + ((zI (sp p)).toInt64)) * (31 : Int64))]) ⟨hx, hb, hml, hown, hts⟩ hK (kX2_colourOfok l D cI cZ q hN pa sp al dg co da mb dd ah wl lo n td wn hn hco hda hmb hdd htd p (by omega)) (cwV 1 hts gX2_digestPerson_X2_colourOf rfl rfl rfl (by decide +kernel) ⟨Nat.le_of_ble_eq_true rfl, Nat.le_of_ble_eq_true rfl⟩) hP hS hA rfl rfl rfl hl.1 rfl (Nat.le_of_ble_eq_true rfl) dX2_digestPerson_64 ⟨Nat.zero_le _, Nat.zero_le _⟩ (fun H locs hP hS _ _ => ?_)
    refine W.eq (g2 := F0 m9 67 ls [.int (zI (ca co da mb dd td n p 0)), .long (((((((d0 * (31 : Int64)) + ((zI 1).toInt64)) * (31 : Int64)) + ((zI (pa p)).toInt64)) * (31 : Int64)) + ((zI (sp p)).toInt64)) * (31 : Int64))]) rfl ?_
    refine lv_i2l hx hb dX2_digestPerson_67 rfl ?_
    refine lv_ladd hx hb dX2_digestPerson_68 ?_
    refine lv_lstore (lv' := [(4, .long ((((((((d0 * (31 : Int64)) + ((zI 1).toInt64)) * (31 : Int64)) + ((zI (pa p)).toInt64)) * (31 : Int64)) + ((zI (sp p)).toInt64)) * (31 : Int64)) + ((zI (ca co da mb dd td n p 0)).toInt64))), (0, .ref (q 0)), (1, .long d0), (3, .int (zI p))]) hx hb dX2_digestPerson_69 hl (by decide) rfl (fun ls hl => ?_)
    refine lv_lload hx hb dX2_digestPerson_71 (lv_at hl 0 rfl) ?_
    refine lv_ldc2 (v := 31) hx hb hown (hts (.constantLong RX2 203 (31)) (by decide +kernel)) dX2_digestPerson_73 ?_
    refine lv_lmul hx hb dX2_digestPerson_76 ?_
    refine lv_aload_n hx hb dX2_digestPerson_77 rfl (lv_at hl 1 rfl) ?_
    refine lv_iload_n hx hb dX2_digestPerson_78 rfl (lv_at hl 3 rfl) ?_
    refine zcallV (ci := 2) (q0 := 0) (cq := (RX2, TX2, 9)) (As := [.int (zI p)]) (rest := [.long (((((((((d0 * (31 : Int64)) + ((zI 1).toInt64)) * (31 : Int64)) + ((zI (pa p)).toInt64)) * (31 : Int64)) + ((zI (sp p)).toInt64)) * (31 : Int64)) + ((zI (ca co da mb dd td n p 0)).toInt64)) * (31 : Int64))]) ⟨hx, hb, hml, hown, hts⟩ hK (kX2_mourningsOfok l D cI cZ q hN pa sp al dg co da mb dd ah wl lo n td wn hn hda hmb hdd htd p (by omega)) (cwV 1 hts gX2_digestPerson_X2_mourningsOf rfl rfl rfl (by decide +kernel) ⟨Nat.le_of_ble_eq_true rfl, Nat.le_of_ble_eq_true rfl⟩) hP hS hA rfl rfl rfl hl.1 rfl (Nat.le_of_ble_eq_true rfl) dX2_digestPerson_79 ⟨Nat.zero_le _, Nat.zero_le _⟩ (fun H locs hP hS _ _ => ?_)
    refine W.eq (g2 := F0 m9 82 ls [.int (zI (smF (gtF (lf da mb dd td p)) n)), .long (((((((((d0 * (31 : Int64)) + ((zI 1).toInt64)) * (31 : Int64)) + ((zI (pa p)).toInt64)) * (31 : Int64)) + ((zI (sp p)).toInt64)) * (31 : Int64)) + ((zI (ca co da mb dd td n p 0)).toInt64)) * (31 : Int64))]) rfl ?_
    refine lv_i2l hx hb dX2_digestPerson_82 rfl ?_
    refine lv_ladd hx hb dX2_digestPerson_83 ?_
    refine lv_lstore (lv' := [(4, .long ((((((((((d0 * (31 : Int64)) + ((zI 1).toInt64)) * (31 : Int64)) + ((zI (pa p)).toInt64)) * (31 : Int64)) + ((zI (sp p)).toInt64)) * (31 : Int64)) + ((zI (ca co da mb dd td n p 0)).toInt64)) * (31 : Int64)) + ((zI (smF (gtF (lf da mb dd td p)) n)).toInt64))), (0, .ref (q 0)), (1, .long d0), (3, .int (zI p))]) hx hb dX2_digestPerson_84 hl (by decide) rfl (fun ls hl => ?_)
    refine lv_lload hx hb dX2_digestPerson_86 (lv_at hl 0 rfl) ?_
    refine lv_ldc2 (v := 31) hx hb hown (hts (.constantLong RX2 203 (31)) (by decide +kernel)) dX2_digestPerson_88 ?_
    refine lv_lmul hx hb dX2_digestPerson_91 ?_
    refine lv_aload_n hx hb dX2_digestPerson_92 rfl (lv_at hl 1 rfl) ?_
    refine lv_iload_n hx hb dX2_digestPerson_93 rfl (lv_at hl 3 rfl) ?_
    refine zcallV (ci := 2) (q0 := 0) (cq := (RX2, TX2, 9)) (As := [.int (zI p)]) (rest := [.long (((((((((((d0 * (31 : Int64)) + ((zI 1).toInt64)) * (31 : Int64)) + ((zI (pa p)).toInt64)) * (31 : Int64)) + ((zI (sp p)).toInt64)) * (31 : Int64)) + ((zI (ca co da mb dd td n p 0)).toInt64)) * (31 : Int64)) + ((zI (smF (gtF (lf da mb dd td p)) n)).toInt64)) * (31 : Int64))]) ⟨hx, hb, hml, hown, hts⟩ hK (kX2_daysLeftok l D cI cZ q hN pa sp al dg co da mb dd ah wl lo n td wn hn hda hmb hdd htd p (by omega)) (cwV 1 hts gX2_digestPerson_X2_daysLeft rfl rfl rfl (by decide +kernel) ⟨Nat.le_of_ble_eq_true rfl, Nat.le_of_ble_eq_true rfl⟩) hP hS hA rfl rfl rfl hl.1 rfl (Nat.le_of_ble_eq_true rfl) dX2_digestPerson_94 ⟨Nat.zero_le _, Nat.zero_le _⟩ (fun H locs hP hS _ _ => ?_)
    refine W.eq (g2 := F0 m9 97 ls [.int (zI (mxF (lf da mb dd td p) n)), .long (((((((((((d0 * (31 : Int64)) + ((zI 1).toInt64)) * (31 : Int64)) + ((zI (pa p)).toInt64)) * (31 : Int64)) + ((zI (sp p)).toInt64)) * (31 : Int64)) + ((zI (ca co da mb dd td n p 0)).toInt64)) * (31 : Int64)) + ((zI (smF (gtF (lf da mb dd td p)) n)).toInt64)) * (31 : Int64))]) rfl ?_
    refine lv_i2l hx hb dX2_digestPerson_97 rfl ?_
    refine lv_ladd hx hb dX2_digestPerson_98 ?_
    refine lv_lstore (lv' := [(4, .long ((((((((((((d0 * (31 : Int64)) + ((zI 1).toInt64)) * (31 : Int64)) + ((zI (pa p)).toInt64)) * (31 : Int64)) + ((zI (sp p)).toInt64)) * (31 : Int64)) + ((zI (ca co da mb dd td n p 0)).toInt64)) * (31 : Int64)) + ((zI (smF (gtF (lf da mb dd td p)) n)).toInt64)) * (31 : Int64)) + ((zI (mxF (lf da mb dd td p) n)).toInt64))), (0, .ref (q 0)), (1, .long d0), (3, .int (zI p))]) hx hb dX2_digestPerson_99 hl (by decide) rfl (fun ls hl => ?_)
    refine lv_lload hx hb dX2_digestPerson_101 (lv_at hl 0 rfl) ?_
    refine lv_ldc2 (v := 31) hx hb hown (hts (.constantLong RX2 203 (31)) (by decide +kernel)) dX2_digestPerson_103 ?_
    refine lv_lmul hx hb dX2_digestPerson_106 ?_
    refine lv_aload_n hx hb dX2_digestPerson_107 rfl (lv_at hl 1 rfl) ?_
    refine lv_iload_n hx hb dX2_digestPerson_108 rfl (lv_at hl 3 rfl) ?_
    refine zcallV (ci := 2) (q0 := 0) (cq := (RX2, TX2, 9)) (As := [.int (zI p)]) (rest := [.long (((((((((((((d0 * (31 : Int64)) + ((zI 1).toInt64)) * (31 : Int64)) + ((zI (pa p)).toInt64)) * (31 : Int64)) + ((zI (sp p)).toInt64)) * (31 : Int64)) + ((zI (ca co da mb dd td n p 0)).toInt64)) * (31 : Int64)) + ((zI (smF (gtF (lf da mb dd td p)) n)).toInt64)) * (31 : Int64)) + ((zI (mxF (lf da mb dd td p) n)).toInt64)) * (31 : Int64))]) ⟨hx, hb, hml, hown, hts⟩ hK (kX2_daysUntilLighterok l D cI cZ q hN pa sp al dg co da mb dd ah wl lo n td wn hn hco hda hmb hdd htd p (by omega)) (cwV 1 hts gX2_digestPerson_X2_daysUntilLighter rfl rfl rfl (by decide +kernel) ⟨Nat.le_of_ble_eq_true rfl, Nat.le_of_ble_eq_true rfl⟩) hP hS hA rfl rfl rfl hl.1 rfl (Nat.le_of_ble_eq_true rfl) dX2_digestPerson_109 ⟨Nat.zero_le _, Nat.zero_le _⟩ (fun H locs hP hS _ _ => ?_)
    refine W.eq (g2 := F0 m9 112 ls [.int (zI (flD (ca co da mb dd td n p))), .long (((((((((((((d0 * (31 : Int64)) + ((zI 1).toInt64)) * (31 : Int64)) + ((zI (pa p)).toInt64)) * (31 : Int64)) + ((zI (sp p)).toInt64)) * (31 : Int64)) + ((zI (ca co da mb dd td n p 0)).toInt64)) * (31 : Int64)) + ((zI (smF (gtF (lf da mb dd td p)) n)).toInt64)) * (31 : Int64)) + ((zI (mxF (lf da mb dd td p) n)).toInt64)) * (31 : Int64))]) rfl ?_
    refine lv_i2l hx hb dX2_digestPerson_112 rfl ?_
    refine lv_ladd hx hb dX2_digestPerson_113 ?_
    refine lv_lstore (lv' := [(4, .long ((((((((((((((d0 * (31 : Int64)) + ((zI 1).toInt64)) * (31 : Int64)) + ((zI (pa p)).toInt64)) * (31 : Int64)) + ((zI (sp p)).toInt64)) * (31 : Int64)) + ((zI (ca co da mb dd td n p 0)).toInt64)) * (31 : Int64)) + ((zI (smF (gtF (lf da mb dd td p)) n)).toInt64)) * (31 : Int64)) + ((zI (mxF (lf da mb dd td p) n)).toInt64)) * (31 : Int64)) + ((zI (flD (ca co da mb dd td n p))).toInt64))), (0, .ref (q 0)), (1, .long d0), (3, .int (zI p))]) hx hb dX2_digestPerson_114 hl (by decide) rfl (fun ls hl => ?_)
    refine lv_aload_n hx hb dX2_digestPerson_116 rfl (lv_at hl 1 rfl) ?_
    refine va_get (D := D) (ci := 2) (v := .ref (q 1)) (C := RX2) (T := TX2) (N := 9) hx hb hts hin2 hown hK hP 0 rfl rfl 0 (by decide) (hts (.fieldLink RX2 12 "MourningRibbons" "family" "LMourningRibbons$Family;") (by decide +kernel)) (fun _ h9 => h9) rfl dX2_digestPerson_117 ?_
    refine lv_iload_n hx hb dX2_digestPerson_120 rfl (lv_at hl 3 rfl) ?_
    refine zcallV (ci := 1) (q0 := 1) (cq := (RX1, TX1, 5)) (As := [.int (zI p)]) (rest := []) ⟨hx, hb, hml, hown, hts⟩ hK (kX1_findDegrees l D cI cZ q hN pa sp al dg co da mb dd (ca co da mb dd td n p) wl lo n td wn hpa hsp hn p (by omega)) (cwV 1 hts gX2_digestPerson_X1_findDegrees rfl rfl rfl (by decide +kernel) ⟨Nat.le_of_ble_eq_true rfl, Nat.le_of_ble_eq_true rfl⟩) hP hS hA rfl rfl rfl hl.1 rfl (Nat.le_of_ble_eq_true rfl) dX2_digestPerson_121 ⟨Nat.zero_le _, Nat.zero_le _⟩ (fun H locs hP hS _ _ => ?_)
    have g_8 : ∀ j : Int, 0 ≤ (dgF pa sp n p) j ∧ (dgF pa sp n p) j ≤ 4 := dgF_bd pa sp n p
    refine W.eq (g2 := F0 m9 124 ls []) rfl ?_
    refine zr_iconst hx hb dX2_digestPerson_124 ?_
    refine lv_istore (lv' := [(6, .int (zI 1)), (4, .long ((((((((((((((d0 * (31 : Int64)) + ((zI 1).toInt64)) * (31 : Int64)) + ((zI (pa p)).toInt64)) * (31 : Int64)) + ((zI (sp p)).toInt64)) * (31 : Int64)) + ((zI (ca co da mb dd td n p 0)).toInt64)) * (31 : Int64)) + ((zI (smF (gtF (lf da mb dd td p)) n)).toInt64)) * (31 : Int64)) + ((zI (mxF (lf da mb dd td p) n)).toInt64)) * (31 : Int64)) + ((zI (flD (ca co da mb dd td n p))).toInt64))), (0, .ref (q 0)), (1, .long d0), (3, .int (zI p))]) hx hb dX2_digestPerson_125 hl (by decide) rfl (fun ls hl => ?_)
    refine lv_iload hx hb dX2_digestPerson_127 (lv_at hl 0 rfl) ?_
    refine zr_iconst hx hb dX2_digestPerson_129 ?_
    refine zr_icmp_gt (tgt := 158) hx hb dX2_digestPerson_130 (by decide) ⟨by decide, by decide⟩ ⟨by decide, by decide⟩ (fun c_9 => by exfalso; revert c_9; decide) (fun c_9 => ?_)
    refine lv_lload hx hb dX2_digestPerson_133 (lv_at hl 1 rfl) ?_
    refine lv_ldc2 (v := 31) hx hb hown (hts (.constantLong RX2 203 (31)) (by decide +kernel)) dX2_digestPerson_135 ?_
    refine lv_lmul hx hb dX2_digestPerson_138 ?_
    refine lv_aload_n hx hb dX2_digestPerson_139 rfl (lv_at hl 2 rfl) ?_
    refine va_get (D := D) (ci := 2) (v := .ref (q 1)) (C := RX2) (T := TX2) (N := 9) hx hb hts hin2 hown hK hP 0 rfl rfl 0 (by decide) (hts (.fieldLink RX2 12 "MourningRibbons" "family" "LMourningRibbons$Family;") (by decide +kernel)) (fun _ h9 => h9) rfl dX2_digestPerson_140 ?_
    refine lv_iload hx hb dX2_digestPerson_143 (lv_at hl 0 rfl) ?_
    refine zcallV (ci := 1) (q0 := 1) (cq := (RX1, TX1, 5)) (As := [.int (zI 1)]) (rest := [.long (((((((((((((((d0 * (31 : Int64)) + ((zI 1).toInt64)) * (31 : Int64)) + ((zI (pa p)).toInt64)) * (31 : Int64)) + ((zI (sp p)).toInt64)) * (31 : Int64)) + ((zI (ca co da mb dd td n p 0)).toInt64)) * (31 : Int64)) + ((zI (smF (gtF (lf da mb dd td p)) n)).toInt64)) * (31 : Int64)) + ((zI (mxF (lf da mb dd td p) n)).toInt64)) * (31 : Int64)) + ((zI (flD (ca co da mb dd td n p))).toInt64)) * (31 : Int64))]) ⟨hx, hb, hml, hown, hts⟩ hK (kX1_countKin l D cI cZ q hN pa sp al (dgF pa sp n p) co da mb dd (ca co da mb dd td n p) wl lo n td wn hn hal g_8 1 (by omega)) (cwV 1 hts gX2_digestPerson_X1_countKin rfl rfl rfl (by decide +kernel) ⟨Nat.le_of_ble_eq_true rfl, Nat.le_of_ble_eq_true rfl⟩) hP hS hA rfl rfl rfl hl.1 rfl (Nat.le_of_ble_eq_true rfl) dX2_digestPerson_145 ⟨Nat.zero_le _, Nat.zero_le _⟩ (fun H locs hP hS _ _ => ?_)
    refine W.eq (g2 := F0 m9 148 ls [.int (zI (smF (kinF al (dgF pa sp n p) 1) n)), .long (((((((((((((((d0 * (31 : Int64)) + ((zI 1).toInt64)) * (31 : Int64)) + ((zI (pa p)).toInt64)) * (31 : Int64)) + ((zI (sp p)).toInt64)) * (31 : Int64)) + ((zI (ca co da mb dd td n p 0)).toInt64)) * (31 : Int64)) + ((zI (smF (gtF (lf da mb dd td p)) n)).toInt64)) * (31 : Int64)) + ((zI (mxF (lf da mb dd td p) n)).toInt64)) * (31 : Int64)) + ((zI (flD (ca co da mb dd td n p))).toInt64)) * (31 : Int64))]) rfl ?_
    refine lv_i2l hx hb dX2_digestPerson_148 rfl ?_
    refine lv_ladd hx hb dX2_digestPerson_149 ?_
    refine lv_lstore (lv' := [(4, .long ((((((((((((((((d0 * (31 : Int64)) + ((zI 1).toInt64)) * (31 : Int64)) + ((zI (pa p)).toInt64)) * (31 : Int64)) + ((zI (sp p)).toInt64)) * (31 : Int64)) + ((zI (ca co da mb dd td n p 0)).toInt64)) * (31 : Int64)) + ((zI (smF (gtF (lf da mb dd td p)) n)).toInt64)) * (31 : Int64)) + ((zI (mxF (lf da mb dd td p) n)).toInt64)) * (31 : Int64)) + ((zI (flD (ca co da mb dd td n p))).toInt64)) * (31 : Int64)) + ((zI (smF (kinF al (dgF pa sp n p) 1) n)).toInt64))), (6, .int (zI 1)), (0, .ref (q 0)), (1, .long d0), (3, .int (zI p))]) hx hb dX2_digestPerson_150 hl (by decide) rfl (fun ls hl => ?_)
    refine zr_iinc (v := 2) (lv' := [(6, .int (zI 2)), (4, .long ((((((((((((((((d0 * (31 : Int64)) + ((zI 1).toInt64)) * (31 : Int64)) + ((zI (pa p)).toInt64)) * (31 : Int64)) + ((zI (sp p)).toInt64)) * (31 : Int64)) + ((zI (ca co da mb dd td n p 0)).toInt64)) * (31 : Int64)) + ((zI (smF (gtF (lf da mb dd td p)) n)).toInt64)) * (31 : Int64)) + ((zI (mxF (lf da mb dd td p) n)).toInt64)) * (31 : Int64)) + ((zI (flD (ca co da mb dd td n p))).toInt64)) * (31 : Int64)) + ((zI (smF (kinF al (dgF pa sp n p) 1) n)).toInt64))), (0, .ref (q 0)), (1, .long d0), (3, .int (zI p))]) hx hb dX2_digestPerson_152 hl (k := 1) rfl (by decide) (by decide) rfl (fun ls hl => ?_)
    refine lv_goto (tgt := 127) hx hb dX2_digestPerson_155 (by decide) ?_
    refine lv_iload hx hb dX2_digestPerson_127 (lv_at hl 0 rfl) ?_
    refine zr_iconst hx hb dX2_digestPerson_129 ?_
    refine zr_icmp_gt (tgt := 158) hx hb dX2_digestPerson_130 (by decide) ⟨by decide, by decide⟩ ⟨by decide, by decide⟩ (fun c_10 => by exfalso; revert c_10; decide) (fun c_10 => ?_)
    refine lv_lload hx hb dX2_digestPerson_133 (lv_at hl 1 rfl) ?_
    refine lv_ldc2 (v := 31) hx hb hown (hts (.constantLong RX2 203 (31)) (by decide +kernel)) dX2_digestPerson_135 ?_
    refine lv_lmul hx hb dX2_digestPerson_138 ?_
    refine lv_aload_n hx hb dX2_digestPerson_139 rfl (lv_at hl 2 rfl) ?_
    refine va_get (D := D) (ci := 2) (v := .ref (q 1)) (C := RX2) (T := TX2) (N := 9) hx hb hts hin2 hown hK hP 0 rfl rfl 0 (by decide) (hts (.fieldLink RX2 12 "MourningRibbons" "family" "LMourningRibbons$Family;") (by decide +kernel)) (fun _ h9 => h9) rfl dX2_digestPerson_140 ?_
    refine lv_iload hx hb dX2_digestPerson_143 (lv_at hl 0 rfl) ?_
    refine zcallV (ci := 1) (q0 := 1) (cq := (RX1, TX1, 5)) (As := [.int (zI 2)]) (rest := [.long (((((((((((((((((d0 * (31 : Int64)) + ((zI 1).toInt64)) * (31 : Int64)) + ((zI (pa p)).toInt64)) * (31 : Int64)) + ((zI (sp p)).toInt64)) * (31 : Int64)) + ((zI (ca co da mb dd td n p 0)).toInt64)) * (31 : Int64)) + ((zI (smF (gtF (lf da mb dd td p)) n)).toInt64)) * (31 : Int64)) + ((zI (mxF (lf da mb dd td p) n)).toInt64)) * (31 : Int64)) + ((zI (flD (ca co da mb dd td n p))).toInt64)) * (31 : Int64)) + ((zI (smF (kinF al (dgF pa sp n p) 1) n)).toInt64)) * (31 : Int64))]) ⟨hx, hb, hml, hown, hts⟩ hK (kX1_countKin l D cI cZ q hN pa sp al (dgF pa sp n p) co da mb dd (ca co da mb dd td n p) wl lo n td wn hn hal g_8 2 (by omega)) (cwV 1 hts gX2_digestPerson_X1_countKin rfl rfl rfl (by decide +kernel) ⟨Nat.le_of_ble_eq_true rfl, Nat.le_of_ble_eq_true rfl⟩) hP hS hA rfl rfl rfl hl.1 rfl (Nat.le_of_ble_eq_true rfl) dX2_digestPerson_145 ⟨Nat.zero_le _, Nat.zero_le _⟩ (fun H locs hP hS _ _ => ?_)
    refine W.eq (g2 := F0 m9 148 ls [.int (zI (smF (kinF al (dgF pa sp n p) 2) n)), .long (((((((((((((((((d0 * (31 : Int64)) + ((zI 1).toInt64)) * (31 : Int64)) + ((zI (pa p)).toInt64)) * (31 : Int64)) + ((zI (sp p)).toInt64)) * (31 : Int64)) + ((zI (ca co da mb dd td n p 0)).toInt64)) * (31 : Int64)) + ((zI (smF (gtF (lf da mb dd td p)) n)).toInt64)) * (31 : Int64)) + ((zI (mxF (lf da mb dd td p) n)).toInt64)) * (31 : Int64)) + ((zI (flD (ca co da mb dd td n p))).toInt64)) * (31 : Int64)) + ((zI (smF (kinF al (dgF pa sp n p) 1) n)).toInt64)) * (31 : Int64))]) rfl ?_
    refine lv_i2l hx hb dX2_digestPerson_148 rfl ?_
    refine lv_ladd hx hb dX2_digestPerson_149 ?_
    refine lv_lstore (lv' := [(4, .long ((((((((((((((((((d0 * (31 : Int64)) + ((zI 1).toInt64)) * (31 : Int64)) + ((zI (pa p)).toInt64)) * (31 : Int64)) + ((zI (sp p)).toInt64)) * (31 : Int64)) + ((zI (ca co da mb dd td n p 0)).toInt64)) * (31 : Int64)) + ((zI (smF (gtF (lf da mb dd td p)) n)).toInt64)) * (31 : Int64)) + ((zI (mxF (lf da mb dd td p) n)).toInt64)) * (31 : Int64)) + ((zI (flD (ca co da mb dd td n p))).toInt64)) * (31 : Int64)) + ((zI (smF (kinF al (dgF pa sp n p) 1) n)).toInt64)) * (31 : Int64)) + ((zI (smF (kinF al (dgF pa sp n p) 2) n)).toInt64))), (6, .int (zI 2)), (0, .ref (q 0)), (1, .long d0), (3, .int (zI p))]) hx hb dX2_digestPerson_150 hl (by decide) rfl (fun ls hl => ?_)
    refine zr_iinc (v := 3) (lv' := [(6, .int (zI 3)), (4, .long ((((((((((((((((((d0 * (31 : Int64)) + ((zI 1).toInt64)) * (31 : Int64)) + ((zI (pa p)).toInt64)) * (31 : Int64)) + ((zI (sp p)).toInt64)) * (31 : Int64)) + ((zI (ca co da mb dd td n p 0)).toInt64)) * (31 : Int64)) + ((zI (smF (gtF (lf da mb dd td p)) n)).toInt64)) * (31 : Int64)) + ((zI (mxF (lf da mb dd td p) n)).toInt64)) * (31 : Int64)) + ((zI (flD (ca co da mb dd td n p))).toInt64)) * (31 : Int64)) + ((zI (smF (kinF al (dgF pa sp n p) 1) n)).toInt64)) * (31 : Int64)) + ((zI (smF (kinF al (dgF pa sp n p) 2) n)).toInt64))), (0, .ref (q 0)), (1, .long d0), (3, .int (zI p))]) hx hb dX2_digestPerson_152 hl (k := 1) rfl (by decide) (by decide) rfl (fun ls hl => ?_)
    refine lv_goto (tgt := 127) hx hb dX2_digestPerson_155 (by decide) ?_
    refine lv_iload hx hb dX2_digestPerson_127 (lv_at hl 0 rfl) ?_
    refine zr_iconst hx hb dX2_digestPerson_129 ?_
    refine zr_icmp_gt (tgt := 158) hx hb dX2_digestPerson_130 (by decide) ⟨by decide, by decide⟩ ⟨by decide, by decide⟩ (fun c_11 => by exfalso; revert c_11; decide) (fun c_11 => ?_)
    refine lv_lload hx hb dX2_digestPerson_133 (lv_at hl 1 rfl) ?_
    refine lv_ldc2 (v := 31) hx hb hown (hts (.constantLong RX2 203 (31)) (by decide +kernel)) dX2_digestPerson_135 ?_
    refine lv_lmul hx hb dX2_digestPerson_138 ?_
    refine lv_aload_n hx hb dX2_digestPerson_139 rfl (lv_at hl 2 rfl) ?_
    refine va_get (D := D) (ci := 2) (v := .ref (q 1)) (C := RX2) (T := TX2) (N := 9) hx hb hts hin2 hown hK hP 0 rfl rfl 0 (by decide) (hts (.fieldLink RX2 12 "MourningRibbons" "family" "LMourningRibbons$Family;") (by decide +kernel)) (fun _ h9 => h9) rfl dX2_digestPerson_140 ?_
    refine lv_iload hx hb dX2_digestPerson_143 (lv_at hl 0 rfl) ?_
    refine zcallV (ci := 1) (q0 := 1) (cq := (RX1, TX1, 5)) (As := [.int (zI 3)]) (rest := [.long (((((((((((((((((((d0 * (31 : Int64)) + ((zI 1).toInt64)) * (31 : Int64)) + ((zI (pa p)).toInt64)) * (31 : Int64)) + ((zI (sp p)).toInt64)) * (31 : Int64)) + ((zI (ca co da mb dd td n p 0)).toInt64)) * (31 : Int64)) + ((zI (smF (gtF (lf da mb dd td p)) n)).toInt64)) * (31 : Int64)) + ((zI (mxF (lf da mb dd td p) n)).toInt64)) * (31 : Int64)) + ((zI (flD (ca co da mb dd td n p))).toInt64)) * (31 : Int64)) + ((zI (smF (kinF al (dgF pa sp n p) 1) n)).toInt64)) * (31 : Int64)) + ((zI (smF (kinF al (dgF pa sp n p) 2) n)).toInt64)) * (31 : Int64))]) ⟨hx, hb, hml, hown, hts⟩ hK (kX1_countKin l D cI cZ q hN pa sp al (dgF pa sp n p) co da mb dd (ca co da mb dd td n p) wl lo n td wn hn hal g_8 3 (by omega)) (cwV 1 hts gX2_digestPerson_X1_countKin rfl rfl rfl (by decide +kernel) ⟨Nat.le_of_ble_eq_true rfl, Nat.le_of_ble_eq_true rfl⟩) hP hS hA rfl rfl rfl hl.1 rfl (Nat.le_of_ble_eq_true rfl) dX2_digestPerson_145 ⟨Nat.zero_le _, Nat.zero_le _⟩ (fun H locs hP hS _ _ => ?_)
    refine W.eq (g2 := F0 m9 148 ls [.int (zI (smF (kinF al (dgF pa sp n p) 3) n)), .long (((((((((((((((((((d0 * (31 : Int64)) + ((zI 1).toInt64)) * (31 : Int64)) + ((zI (pa p)).toInt64)) * (31 : Int64)) + ((zI (sp p)).toInt64)) * (31 : Int64)) + ((zI (ca co da mb dd td n p 0)).toInt64)) * (31 : Int64)) + ((zI (smF (gtF (lf da mb dd td p)) n)).toInt64)) * (31 : Int64)) + ((zI (mxF (lf da mb dd td p) n)).toInt64)) * (31 : Int64)) + ((zI (flD (ca co da mb dd td n p))).toInt64)) * (31 : Int64)) + ((zI (smF (kinF al (dgF pa sp n p) 1) n)).toInt64)) * (31 : Int64)) + ((zI (smF (kinF al (dgF pa sp n p) 2) n)).toInt64)) * (31 : Int64))]) rfl ?_
    refine lv_i2l hx hb dX2_digestPerson_148 rfl ?_
    refine lv_ladd hx hb dX2_digestPerson_149 ?_
    refine lv_lstore (lv' := [(4, .long ((((((((((((((((((((d0 * (31 : Int64)) + ((zI 1).toInt64)) * (31 : Int64)) + ((zI (pa p)).toInt64)) * (31 : Int64)) + ((zI (sp p)).toInt64)) * (31 : Int64)) + ((zI (ca co da mb dd td n p 0)).toInt64)) * (31 : Int64)) + ((zI (smF (gtF (lf da mb dd td p)) n)).toInt64)) * (31 : Int64)) + ((zI (mxF (lf da mb dd td p) n)).toInt64)) * (31 : Int64)) + ((zI (flD (ca co da mb dd td n p))).toInt64)) * (31 : Int64)) + ((zI (smF (kinF al (dgF pa sp n p) 1) n)).toInt64)) * (31 : Int64)) + ((zI (smF (kinF al (dgF pa sp n p) 2) n)).toInt64)) * (31 : Int64)) + ((zI (smF (kinF al (dgF pa sp n p) 3) n)).toInt64))), (6, .int (zI 3)), (0, .ref (q 0)), (1, .long d0), (3, .int (zI p))]) hx hb dX2_digestPerson_150 hl (by decide) rfl (fun ls hl => ?_)
    refine zr_iinc (v := 4) (lv' := [(6, .int (zI 4)), (4, .long ((((((((((((((((((((d0 * (31 : Int64)) + ((zI 1).toInt64)) * (31 : Int64)) + ((zI (pa p)).toInt64)) * (31 : Int64)) + ((zI (sp p)).toInt64)) * (31 : Int64)) + ((zI (ca co da mb dd td n p 0)).toInt64)) * (31 : Int64)) + ((zI (smF (gtF (lf da mb dd td p)) n)).toInt64)) * (31 : Int64)) + ((zI (mxF (lf da mb dd td p) n)).toInt64)) * (31 : Int64)) + ((zI (flD (ca co da mb dd td n p))).toInt64)) * (31 : Int64)) + ((zI (smF (kinF al (dgF pa sp n p) 1) n)).toInt64)) * (31 : Int64)) + ((zI (smF (kinF al (dgF pa sp n p) 2) n)).toInt64)) * (31 : Int64)) + ((zI (smF (kinF al (dgF pa sp n p) 3) n)).toInt64))), (0, .ref (q 0)), (1, .long d0), (3, .int (zI p))]) hx hb dX2_digestPerson_152 hl (k := 1) rfl (by decide) (by decide) rfl (fun ls hl => ?_)
    refine lv_goto (tgt := 127) hx hb dX2_digestPerson_155 (by decide) ?_
    refine lv_iload hx hb dX2_digestPerson_127 (lv_at hl 0 rfl) ?_
    refine zr_iconst hx hb dX2_digestPerson_129 ?_
    refine zr_icmp_gt (tgt := 158) hx hb dX2_digestPerson_130 (by decide) ⟨by decide, by decide⟩ ⟨by decide, by decide⟩ (fun c_12 => by exfalso; revert c_12; decide) (fun c_12 => ?_)
    refine lv_lload hx hb dX2_digestPerson_133 (lv_at hl 1 rfl) ?_
    refine lv_ldc2 (v := 31) hx hb hown (hts (.constantLong RX2 203 (31)) (by decide +kernel)) dX2_digestPerson_135 ?_
    refine lv_lmul hx hb dX2_digestPerson_138 ?_
    refine lv_aload_n hx hb dX2_digestPerson_139 rfl (lv_at hl 2 rfl) ?_
    refine va_get (D := D) (ci := 2) (v := .ref (q 1)) (C := RX2) (T := TX2) (N := 9) hx hb hts hin2 hown hK hP 0 rfl rfl 0 (by decide) (hts (.fieldLink RX2 12 "MourningRibbons" "family" "LMourningRibbons$Family;") (by decide +kernel)) (fun _ h9 => h9) rfl dX2_digestPerson_140 ?_
    refine lv_iload hx hb dX2_digestPerson_143 (lv_at hl 0 rfl) ?_
    refine zcallV (ci := 1) (q0 := 1) (cq := (RX1, TX1, 5)) (As := [.int (zI 4)]) (rest := [.long (((((((((((((((((((((d0 * (31 : Int64)) + ((zI 1).toInt64)) * (31 : Int64)) + ((zI (pa p)).toInt64)) * (31 : Int64)) + ((zI (sp p)).toInt64)) * (31 : Int64)) + ((zI (ca co da mb dd td n p 0)).toInt64)) * (31 : Int64)) + ((zI (smF (gtF (lf da mb dd td p)) n)).toInt64)) * (31 : Int64)) + ((zI (mxF (lf da mb dd td p) n)).toInt64)) * (31 : Int64)) + ((zI (flD (ca co da mb dd td n p))).toInt64)) * (31 : Int64)) + ((zI (smF (kinF al (dgF pa sp n p) 1) n)).toInt64)) * (31 : Int64)) + ((zI (smF (kinF al (dgF pa sp n p) 2) n)).toInt64)) * (31 : Int64)) + ((zI (smF (kinF al (dgF pa sp n p) 3) n)).toInt64)) * (31 : Int64))]) ⟨hx, hb, hml, hown, hts⟩ hK (kX1_countKin l D cI cZ q hN pa sp al (dgF pa sp n p) co da mb dd (ca co da mb dd td n p) wl lo n td wn hn hal g_8 4 (by omega)) (cwV 1 hts gX2_digestPerson_X1_countKin rfl rfl rfl (by decide +kernel) ⟨Nat.le_of_ble_eq_true rfl, Nat.le_of_ble_eq_true rfl⟩) hP hS hA rfl rfl rfl hl.1 rfl (Nat.le_of_ble_eq_true rfl) dX2_digestPerson_145 ⟨Nat.zero_le _, Nat.zero_le _⟩ (fun H locs hP hS _ _ => ?_)
    refine W.eq (g2 := F0 m9 148 ls [.int (zI (smF (kinF al (dgF pa sp n p) 4) n)), .long (((((((((((((((((((((d0 * (31 : Int64)) + ((zI 1).toInt64)) * (31 : Int64)) + ((zI (pa p)).toInt64)) * (31 : Int64)) + ((zI (sp p)).toInt64)) * (31 : Int64)) + ((zI (ca co da mb dd td n p 0)).toInt64)) * (31 : Int64)) + ((zI (smF (gtF (lf da mb dd td p)) n)).toInt64)) * (31 : Int64)) + ((zI (mxF (lf da mb dd td p) n)).toInt64)) * (31 : Int64)) + ((zI (flD (ca co da mb dd td n p))).toInt64)) * (31 : Int64)) + ((zI (smF (kinF al (dgF pa sp n p) 1) n)).toInt64)) * (31 : Int64)) + ((zI (smF (kinF al (dgF pa sp n p) 2) n)).toInt64)) * (31 : Int64)) + ((zI (smF (kinF al (dgF pa sp n p) 3) n)).toInt64)) * (31 : Int64))]) rfl ?_
    refine lv_i2l hx hb dX2_digestPerson_148 rfl ?_
    refine lv_ladd hx hb dX2_digestPerson_149 ?_
    refine lv_lstore (lv' := [(4, .long ((((((((((((((((((((((d0 * (31 : Int64)) + ((zI 1).toInt64)) * (31 : Int64)) + ((zI (pa p)).toInt64)) * (31 : Int64)) + ((zI (sp p)).toInt64)) * (31 : Int64)) + ((zI (ca co da mb dd td n p 0)).toInt64)) * (31 : Int64)) + ((zI (smF (gtF (lf da mb dd td p)) n)).toInt64)) * (31 : Int64)) + ((zI (mxF (lf da mb dd td p) n)).toInt64)) * (31 : Int64)) + ((zI (flD (ca co da mb dd td n p))).toInt64)) * (31 : Int64)) + ((zI (smF (kinF al (dgF pa sp n p) 1) n)).toInt64)) * (31 : Int64)) + ((zI (smF (kinF al (dgF pa sp n p) 2) n)).toInt64)) * (31 : Int64)) + ((zI (smF (kinF al (dgF pa sp n p) 3) n)).toInt64)) * (31 : Int64)) + ((zI (smF (kinF al (dgF pa sp n p) 4) n)).toInt64))), (6, .int (zI 4)), (0, .ref (q 0)), (1, .long d0), (3, .int (zI p))]) hx hb dX2_digestPerson_150 hl (by decide) rfl (fun ls hl => ?_)
    refine zr_iinc (v := 5) (lv' := [(6, .int (zI 5)), (4, .long ((((((((((((((((((((((d0 * (31 : Int64)) + ((zI 1).toInt64)) * (31 : Int64)) + ((zI (pa p)).toInt64)) * (31 : Int64)) + ((zI (sp p)).toInt64)) * (31 : Int64)) + ((zI (ca co da mb dd td n p 0)).toInt64)) * (31 : Int64)) + ((zI (smF (gtF (lf da mb dd td p)) n)).toInt64)) * (31 : Int64)) + ((zI (mxF (lf da mb dd td p) n)).toInt64)) * (31 : Int64)) + ((zI (flD (ca co da mb dd td n p))).toInt64)) * (31 : Int64)) + ((zI (smF (kinF al (dgF pa sp n p) 1) n)).toInt64)) * (31 : Int64)) + ((zI (smF (kinF al (dgF pa sp n p) 2) n)).toInt64)) * (31 : Int64)) + ((zI (smF (kinF al (dgF pa sp n p) 3) n)).toInt64)) * (31 : Int64)) + ((zI (smF (kinF al (dgF pa sp n p) 4) n)).toInt64))), (0, .ref (q 0)), (1, .long d0), (3, .int (zI p))]) hx hb dX2_digestPerson_152 hl (k := 1) rfl (by decide) (by decide) rfl (fun ls hl => ?_)
    refine lv_goto (tgt := 127) hx hb dX2_digestPerson_155 (by decide) ?_
    refine lv_iload hx hb dX2_digestPerson_127 (lv_at hl 0 rfl) ?_
    refine zr_iconst hx hb dX2_digestPerson_129 ?_
    refine zr_icmp_gt (tgt := 158) hx hb dX2_digestPerson_130 (by decide) ⟨by decide, by decide⟩ ⟨by decide, by decide⟩ (fun c_13 => ?_) (fun c_13 => by exfalso; revert c_13; decide)
    refine lv_lload hx hb dX2_digestPerson_158 (lv_at hl 1 rfl) ?_
    rw [hQ0]
    exact zret_l hx hb hr hlocks (by unfold dpC; first | (rw [show al p = 1 by omega]; rfl) | (rw [show al p = 0 by omega]; rfl)) hP hS dX2_digestPerson_160
set_option maxHeartbeats 4000000 in
set_option maxRecDepth 100000 in
theorem kX2_digest (l : Launch) (D : va_G) (cI cZ : ClassId) (q : Nat → Nat) (hN : (zLC q).Nodup) (pa : Int → Int) (sp : Int → Int) (al : Int → Int) (dg : Int → Int) (co : Int → Int) (da : Int → Int) (mb : Int → Int) (dd : Int → Int) (ah : Int → Int) (wl : Int → Int) (lo : Int → Int) (n : Nat) (td : Int) (wn : Int) (hn : n ≤ 16) (hco : ∀ j : Int, 0 ≤ co j ∧ co j ≤ 5) (hda : ∀ j : Int, 0 ≤ da j ∧ da j ≤ 60) (hmb : ∀ j : Int, 0 ≤ mb j ∧ mb j ≤ 4) (hdd : ∀ j : Int, 0 ≤ dd j ∧ dd j ≤ 1000000) (htd : 0 ≤ td ∧ td ≤ 1000000) (hpa : ∀ j : Int, -1 ≤ pa j ∧ pa j ≤ 15) (hsp : ∀ j : Int, -1 ≤ sp j ∧ sp j ≤ 15) (hal : ∀ j : Int, 0 ≤ al j ∧ al j ≤ 1) : zM l yX2_digest wsX2_digest ({ frames := 10, cells := 0, slots := 0, locals := 181 }) D [(cI, .int), (cZ, .boolean)] [.ref (q 0)] (wC cI cZ q pa sp al dg co da mb dd ah wl lo n td wn) (wC cI cZ q pa sp al (lastF dg (dgF pa sp n) n) co da mb dd (lastF ah (ca co da mb dd td n) n) wl lo n td wn) (some (.long (dgC pa sp al co da mb dd n td wn))) (zLC q) := by
  refine Met.ofW (cc := cX2_digest) (maxL := 4) (ret := (some .long)) (by decide) rfl ?_
  intro p0 e9 s9 m9 ag9 below meth c9 s₁ B hml hv
  obtain ⟨hav, hP, hK⟩ := hv
  have hx := B.exec
  have hb := B.bytes
  have hr := B.returns
  have hts := atoms_spec (ws := wsX2_digest) B.pre
  have hown : s9.vm.findClass RX2 = some m9.cls := findClass_of_methodNamed B.named
  have hlocks := B.notSynchronized
  have hA : ∀ a ∈ zLC q, (fun a => a ∈ zLC q) a := fun _ h => h
  have hin1 : ∀ w ∈ u_ws RX1 TX1 5, w ∈ wsX2_digest := by decide +kernel
  have hin2 : ∀ w ∈ u_ws RX2 TX2 9, w ∈ wsX2_digest := by decide +kernel
  have hl := lv_entry ([.ref (q 0)]) (n := 4) (Nat.le_of_ble_eq_true rfl)
  have hE : entryFrame m9 ag9 4 = F0 m9 0 ((lg_sl ([.ref (q 0)]) ++ List.replicate (4 - (lg_sl ([.ref (q 0)])).length) Slot.unset).toArray) [] := by rw [hav]; exact lg_entry_eq m9 _ _
  obtain ⟨Q0, hQ0⟩ : ∃ Q0, Q0 = MQ below (zQ D (wC cI cZ q pa sp al (lastF dg (dgF pa sp n) n) co da mb dd (lastF ah (ca co da mb dd td n) n) wl lo n td wn) (some (.long (dgC pa sp al co da mb dd n td wn))) (zLC q)) ag9 s9 0 0 (fun a => a ∈ zLC q) := ⟨_, rfl⟩
  show W p0 l e9 ({ frames := 10, cells := 0, slots := 0, locals := 181 }) s9 m9 ag9 below meth c9 s9.heap [] 0 0 (MQ below (zQ D (wC cI cZ q pa sp al (lastF dg (dgF pa sp n) n) co da mb dd (lastF ah (ca co da mb dd td n) n) wl lo n td wn) (some (.long (dgC pa sp al co da mb dd n td wn))) (zLC q)) ag9 s9 0 0 (fun a => a ∈ zLC q)) _
  rw [hE, ← hQ0]
  have hS : va_S (fun a => a ∈ zLC q) s9.heap s9.heap [] := va_S.rf
  generalize hH0 : s9.heap = H at hP ⊢
  have hS : va_S (fun a => a ∈ zLC q) s9.heap H [] := by rw [hH0] at hS ⊢; exact hS
  generalize (lg_sl ([.ref (q 0)]) ++ List.replicate (4 - (lg_sl ([.ref (q 0)])).length) Slot.unset).toArray = ls at hl ⊢
  have hl : lv_has ls 4 [(0, .ref (q 0))] := hl
  refine lv_ldc2 (v := 1931) hx hb hown (hts (.constantLong RX2 201 (1931)) (by decide +kernel)) dX2_digest_0 ?_
  refine lv_lstore_n (lv' := [(1, .long (1931 : Int64)), (0, .ref (q 0))]) hx hb dX2_digest_3 rfl hl (by decide) rfl (fun ls hl => ?_)
  refine lv_lload_n hx hb dX2_digest_4 rfl (lv_at hl 0 rfl) ?_
  refine lv_ldc2 (v := 31) hx hb hown (hts (.constantLong RX2 203 (31)) (by decide +kernel)) dX2_digest_5 ?_
  refine lv_lmul hx hb dX2_digest_8 ?_
  refine lv_aload_n hx hb dX2_digest_9 rfl (lv_at hl 1 rfl) ?_
  refine zcallV (ci := 2) (q0 := 0) (cq := (RX2, TX2, 9)) (As := []) (rest := [.long ((1931 : Int64) * (31 : Int64))]) ⟨hx, hb, hml, hown, hts⟩ hK (kX2_people l D cI cZ q hN pa sp al dg co da mb dd ah wl lo n td wn) (cwV 0 hts gX2_digest_X2_people rfl rfl rfl (by decide +kernel) ⟨Nat.le_of_ble_eq_true rfl, Nat.le_of_ble_eq_true rfl⟩) hP hS hA rfl rfl rfl hl.1 rfl (Nat.le_of_ble_eq_true rfl) dX2_digest_10 ⟨Nat.zero_le _, Nat.zero_le _⟩ (fun H locs hP hS _ _ => ?_)
  refine W.eq (g2 := F0 m9 13 ls [.int (zI (n : Int)), .long ((1931 : Int64) * (31 : Int64))]) rfl ?_
  refine lv_i2l hx hb dX2_digest_13 rfl ?_
  refine lv_ladd hx hb dX2_digest_14 ?_
  refine lv_lstore_n (lv' := [(1, .long (((1931 : Int64) * (31 : Int64)) + ((zI (n : Int)).toInt64))), (0, .ref (q 0))]) hx hb dX2_digest_15 rfl hl (by decide) rfl (fun ls hl => ?_)
  refine lv_lload_n hx hb dX2_digest_16 rfl (lv_at hl 0 rfl) ?_
  refine lv_ldc2 (v := 31) hx hb hown (hts (.constantLong RX2 203 (31)) (by decide +kernel)) dX2_digest_17 ?_
  refine lv_lmul hx hb dX2_digest_20 ?_
  refine lv_aload_n hx hb dX2_digest_21 rfl (lv_at hl 1 rfl) ?_
  refine zcallV (ci := 2) (q0 := 0) (cq := (RX2, TX2, 9)) (As := []) (rest := [.long ((((1931 : Int64) * (31 : Int64)) + ((zI (n : Int)).toInt64)) * (31 : Int64))]) ⟨hx, hb, hml, hown, hts⟩ hK (kX2_living l D cI cZ q hN pa sp al dg co da mb dd ah wl lo n td wn hn hal) (cwV 0 hts gX2_digest_X2_living rfl rfl rfl (by decide +kernel) ⟨Nat.le_of_ble_eq_true rfl, Nat.le_of_ble_eq_true rfl⟩) hP hS hA rfl rfl rfl hl.1 rfl (Nat.le_of_ble_eq_true rfl) dX2_digest_22 ⟨Nat.zero_le _, Nat.zero_le _⟩ (fun H locs hP hS _ _ => ?_)
  refine W.eq (g2 := F0 m9 25 ls [.int (zI (smF al n)), .long ((((1931 : Int64) * (31 : Int64)) + ((zI (n : Int)).toInt64)) * (31 : Int64))]) rfl ?_
  refine lv_i2l hx hb dX2_digest_25 rfl ?_
  refine lv_ladd hx hb dX2_digest_26 ?_
  refine lv_lstore_n (lv' := [(1, .long (((((1931 : Int64) * (31 : Int64)) + ((zI (n : Int)).toInt64)) * (31 : Int64)) + ((zI (smF al n)).toInt64))), (0, .ref (q 0))]) hx hb dX2_digest_27 rfl hl (by decide) rfl (fun ls hl => ?_)
  refine lv_lload_n hx hb dX2_digest_28 rfl (lv_at hl 0 rfl) ?_
  refine lv_ldc2 (v := 31) hx hb hown (hts (.constantLong RX2 203 (31)) (by decide +kernel)) dX2_digest_29 ?_
  refine lv_lmul hx hb dX2_digest_32 ?_
  refine lv_aload_n hx hb dX2_digest_33 rfl (lv_at hl 1 rfl) ?_
  refine zcallV (ci := 2) (q0 := 0) (cq := (RX2, TX2, 9)) (As := []) (rest := [.long ((((((1931 : Int64) * (31 : Int64)) + ((zI (n : Int)).toInt64)) * (31 : Int64)) + ((zI (smF al n)).toInt64)) * (31 : Int64))]) ⟨hx, hb, hml, hown, hts⟩ hK (kX2_day l D cI cZ q hN pa sp al dg co da mb dd ah wl lo n td wn) (cwV 0 hts gX2_digest_X2_day rfl rfl rfl (by decide +kernel) ⟨Nat.le_of_ble_eq_true rfl, Nat.le_of_ble_eq_true rfl⟩) hP hS hA rfl rfl rfl hl.1 rfl (Nat.le_of_ble_eq_true rfl) dX2_digest_34 ⟨Nat.zero_le _, Nat.zero_le _⟩ (fun H locs hP hS _ _ => ?_)
  refine W.eq (g2 := F0 m9 37 ls [.int (zI td), .long ((((((1931 : Int64) * (31 : Int64)) + ((zI (n : Int)).toInt64)) * (31 : Int64)) + ((zI (smF al n)).toInt64)) * (31 : Int64))]) rfl ?_
  refine lv_i2l hx hb dX2_digest_37 rfl ?_
  refine lv_ladd hx hb dX2_digest_38 ?_
  refine lv_lstore_n (lv' := [(1, .long (((((((1931 : Int64) * (31 : Int64)) + ((zI (n : Int)).toInt64)) * (31 : Int64)) + ((zI (smF al n)).toInt64)) * (31 : Int64)) + ((zI td).toInt64))), (0, .ref (q 0))]) hx hb dX2_digest_39 rfl hl (by decide) rfl (fun ls hl => ?_)
  refine lv_lload_n hx hb dX2_digest_40 rfl (lv_at hl 0 rfl) ?_
  refine lv_ldc2 (v := 31) hx hb hown (hts (.constantLong RX2 203 (31)) (by decide +kernel)) dX2_digest_41 ?_
  refine lv_lmul hx hb dX2_digest_44 ?_
  refine lv_aload_n hx hb dX2_digest_45 rfl (lv_at hl 1 rfl) ?_
  refine zcallV (ci := 2) (q0 := 0) (cq := (RX2, TX2, 9)) (As := []) (rest := [.long ((((((((1931 : Int64) * (31 : Int64)) + ((zI (n : Int)).toInt64)) * (31 : Int64)) + ((zI (smF al n)).toInt64)) * (31 : Int64)) + ((zI td).toInt64)) * (31 : Int64))]) ⟨hx, hb, hml, hown, hts⟩ hK (kX2_strictest l D cI cZ q hN pa sp al dg co da mb dd ah wl lo n td wn hn hco hda hmb hdd htd) (cwV 0 hts gX2_digest_X2_strictest rfl rfl rfl (by decide +kernel) ⟨Nat.le_of_ble_eq_true rfl, Nat.le_of_ble_eq_true rfl⟩) hP hS hA rfl rfl rfl hl.1 rfl (Nat.le_of_ble_eq_true rfl) dX2_digest_46 ⟨Nat.zero_le _, Nat.zero_le _⟩ (fun H locs hP hS _ _ => ?_)
  refine W.eq (g2 := F0 m9 49 ls [.int (zI (mxF (caZ co da mb dd td n) n)), .long ((((((((1931 : Int64) * (31 : Int64)) + ((zI (n : Int)).toInt64)) * (31 : Int64)) + ((zI (smF al n)).toInt64)) * (31 : Int64)) + ((zI td).toInt64)) * (31 : Int64))]) rfl ?_
  refine lv_i2l hx hb dX2_digest_49 rfl ?_
  refine lv_ladd hx hb dX2_digest_50 ?_
  refine lv_lstore_n (lv' := [(1, .long (((((((((1931 : Int64) * (31 : Int64)) + ((zI (n : Int)).toInt64)) * (31 : Int64)) + ((zI (smF al n)).toInt64)) * (31 : Int64)) + ((zI td).toInt64)) * (31 : Int64)) + ((zI (mxF (caZ co da mb dd td n) n)).toInt64))), (0, .ref (q 0))]) hx hb dX2_digest_51 rfl hl (by decide) rfl (fun ls hl => ?_)
  refine lv_lload_n hx hb dX2_digest_52 rfl (lv_at hl 0 rfl) ?_
  refine lv_ldc2 (v := 31) hx hb hown (hts (.constantLong RX2 203 (31)) (by decide +kernel)) dX2_digest_53 ?_
  refine lv_lmul hx hb dX2_digest_56 ?_
  refine lv_aload_n hx hb dX2_digest_57 rfl (lv_at hl 1 rfl) ?_
  refine zcallV (ci := 2) (q0 := 0) (cq := (RX2, TX2, 9)) (As := []) (rest := [.long ((((((((((1931 : Int64) * (31 : Int64)) + ((zI (n : Int)).toInt64)) * (31 : Int64)) + ((zI (smF al n)).toInt64)) * (31 : Int64)) + ((zI td).toInt64)) * (31 : Int64)) + ((zI (mxF (caZ co da mb dd td n) n)).toInt64)) * (31 : Int64))]) ⟨hx, hb, hml, hown, hts⟩ hK (kX2_longestMourner l D cI cZ q hN pa sp al dg co da mb dd ah wl lo n td wn hn hda hmb hdd htd) (cwV 0 hts gX2_digest_X2_longestMourner rfl rfl rfl (by decide +kernel) ⟨Nat.le_of_ble_eq_true rfl, Nat.le_of_ble_eq_true rfl⟩) hP hS hA rfl rfl rfl hl.1 rfl (Nat.le_of_ble_eq_true rfl) dX2_digest_58 ⟨Nat.zero_le _, Nat.zero_le _⟩ (fun H locs hP hS _ _ => ?_)
  refine W.eq (g2 := F0 m9 61 ls [.int (zI (lgF (llS da mb dd td n) n)), .long ((((((((((1931 : Int64) * (31 : Int64)) + ((zI (n : Int)).toInt64)) * (31 : Int64)) + ((zI (smF al n)).toInt64)) * (31 : Int64)) + ((zI td).toInt64)) * (31 : Int64)) + ((zI (mxF (caZ co da mb dd td n) n)).toInt64)) * (31 : Int64))]) rfl ?_
  refine lv_i2l hx hb dX2_digest_61 rfl ?_
  refine lv_ladd hx hb dX2_digest_62 ?_
  refine lv_lstore_n (lv' := [(1, .long (((((((((((1931 : Int64) * (31 : Int64)) + ((zI (n : Int)).toInt64)) * (31 : Int64)) + ((zI (smF al n)).toInt64)) * (31 : Int64)) + ((zI td).toInt64)) * (31 : Int64)) + ((zI (mxF (caZ co da mb dd td n) n)).toInt64)) * (31 : Int64)) + ((zI (lgF (llS da mb dd td n) n)).toInt64))), (0, .ref (q 0))]) hx hb dX2_digest_63 rfl hl (by decide) rfl (fun ls hl => ?_)
  refine lv_lload_n hx hb dX2_digest_64 rfl (lv_at hl 0 rfl) ?_
  refine lv_ldc2 (v := 31) hx hb hown (hts (.constantLong RX2 203 (31)) (by decide +kernel)) dX2_digest_65 ?_
  refine lv_lmul hx hb dX2_digest_68 ?_
  refine lv_aload_n hx hb dX2_digest_69 rfl (lv_at hl 1 rfl) ?_
  refine zcallV (ci := 2) (q0 := 0) (cq := (RX2, TX2, 9)) (As := []) (rest := [.long ((((((((((((1931 : Int64) * (31 : Int64)) + ((zI (n : Int)).toInt64)) * (31 : Int64)) + ((zI (smF al n)).toInt64)) * (31 : Int64)) + ((zI td).toInt64)) * (31 : Int64)) + ((zI (mxF (caZ co da mb dd td n) n)).toInt64)) * (31 : Int64)) + ((zI (lgF (llS da mb dd td n) n)).toInt64)) * (31 : Int64))]) ⟨hx, hb, hml, hown, hts⟩ hK (kX2_daysWorn l D cI cZ q hN pa sp al dg co da mb dd ah wl lo n td wn) (cwV 0 hts gX2_digest_X2_daysWorn rfl rfl rfl (by decide +kernel) ⟨Nat.le_of_ble_eq_true rfl, Nat.le_of_ble_eq_true rfl⟩) hP hS hA rfl rfl rfl hl.1 rfl (Nat.le_of_ble_eq_true rfl) dX2_digest_70 ⟨Nat.zero_le _, Nat.zero_le _⟩ (fun H locs hP hS _ _ => ?_)
  refine W.eq (g2 := F0 m9 73 ls [.int (zI wn), .long ((((((((((((1931 : Int64) * (31 : Int64)) + ((zI (n : Int)).toInt64)) * (31 : Int64)) + ((zI (smF al n)).toInt64)) * (31 : Int64)) + ((zI td).toInt64)) * (31 : Int64)) + ((zI (mxF (caZ co da mb dd td n) n)).toInt64)) * (31 : Int64)) + ((zI (lgF (llS da mb dd td n) n)).toInt64)) * (31 : Int64))]) rfl ?_
  refine lv_i2l hx hb dX2_digest_73 rfl ?_
  refine lv_ladd hx hb dX2_digest_74 ?_
  refine lv_lstore_n (lv' := [(1, .long (((((((((((((1931 : Int64) * (31 : Int64)) + ((zI (n : Int)).toInt64)) * (31 : Int64)) + ((zI (smF al n)).toInt64)) * (31 : Int64)) + ((zI td).toInt64)) * (31 : Int64)) + ((zI (mxF (caZ co da mb dd td n) n)).toInt64)) * (31 : Int64)) + ((zI (lgF (llS da mb dd td n) n)).toInt64)) * (31 : Int64)) + ((zI wn).toInt64))), (0, .ref (q 0))]) hx hb dX2_digest_75 rfl hl (by decide) rfl (fun ls hl => ?_)
  refine lv_aload_n hx hb dX2_digest_76 rfl (lv_at hl 1 rfl) ?_
  refine lv_lload_n hx hb dX2_digest_77 rfl (lv_at hl 0 rfl) ?_
  refine zcallV (ci := 2) (q0 := 0) (cq := (RX2, TX2, 9)) (As := [.long (((((((((((((1931 : Int64) * (31 : Int64)) + ((zI (n : Int)).toInt64)) * (31 : Int64)) + ((zI (smF al n)).toInt64)) * (31 : Int64)) + ((zI td).toInt64)) * (31 : Int64)) + ((zI (mxF (caZ co da mb dd td n) n)).toInt64)) * (31 : Int64)) + ((zI (lgF (llS da mb dd td n) n)).toInt64)) * (31 : Int64)) + ((zI wn).toInt64))]) (rest := []) ⟨hx, hb, hml, hown, hts⟩ hK (kX2_digestCode l D cI cZ q hN pa sp al dg co da mb dd ah wl lo n td wn hco hda (((((((((((((1931 : Int64) * (31 : Int64)) + ((zI (n : Int)).toInt64)) * (31 : Int64)) + ((zI (smF al n)).toInt64)) * (31 : Int64)) + ((zI td).toInt64)) * (31 : Int64)) + ((zI (mxF (caZ co da mb dd td n) n)).toInt64)) * (31 : Int64)) + ((zI (lgF (llS da mb dd td n) n)).toInt64)) * (31 : Int64)) + ((zI wn).toInt64))) (cwV 1 hts gX2_digest_X2_digestCode rfl rfl rfl (by decide +kernel) ⟨Nat.le_of_ble_eq_true rfl, Nat.le_of_ble_eq_true rfl⟩) hP hS hA rfl rfl rfl hl.1 rfl (Nat.le_of_ble_eq_true rfl) dX2_digest_78 ⟨Nat.zero_le _, Nat.zero_le _⟩ (fun H locs hP hS _ _ => ?_)
  refine W.eq (g2 := F0 m9 81 ls [.long (dcF co da 192 (((((((((((((1931 : Int64) * (31 : Int64)) + ((zI (n : Int)).toInt64)) * (31 : Int64)) + ((zI (smF al n)).toInt64)) * (31 : Int64)) + ((zI td).toInt64)) * (31 : Int64)) + ((zI (mxF (caZ co da mb dd td n) n)).toInt64)) * (31 : Int64)) + ((zI (lgF (llS da mb dd td n) n)).toInt64)) * (31 : Int64)) + ((zI wn).toInt64)) 12)]) rfl ?_
  refine lv_lstore_n (lv' := [(1, .long (dcF co da 192 (((((((((((((1931 : Int64) * (31 : Int64)) + ((zI (n : Int)).toInt64)) * (31 : Int64)) + ((zI (smF al n)).toInt64)) * (31 : Int64)) + ((zI td).toInt64)) * (31 : Int64)) + ((zI (mxF (caZ co da mb dd td n) n)).toInt64)) * (31 : Int64)) + ((zI (lgF (llS da mb dd td n) n)).toInt64)) * (31 : Int64)) + ((zI wn).toInt64)) 12)), (0, .ref (q 0))]) hx hb dX2_digest_81 rfl hl (by decide) rfl (fun ls hl => ?_)
  refine zr_iconst hx hb dX2_digest_82 ?_
  refine lv_istore_n (lv' := [(3, .int (zI 0)), (1, .long (dcF co da 192 (((((((((((((1931 : Int64) * (31 : Int64)) + ((zI (n : Int)).toInt64)) * (31 : Int64)) + ((zI (smF al n)).toInt64)) * (31 : Int64)) + ((zI td).toInt64)) * (31 : Int64)) + ((zI (mxF (caZ co da mb dd td n) n)).toInt64)) * (31 : Int64)) + ((zI (lgF (llS da mb dd td n) n)).toInt64)) * (31 : Int64)) + ((zI wn).toInt64)) 12)), (0, .ref (q 0))]) hx hb dX2_digest_83 rfl hl (by decide) rfl (fun ls hl => ?_)
  have L84_1 : ∀ (kf i : Nat), i ≤ n → n - i < kf → ∀ (H : Heap) (locs : List Loc) (ls : Array Slot), va_P D vwCl (wC cI cZ q pa sp al (lastF dg (dgF pa sp n) i) co da mb dd (lastF ah (ca co da mb dd td n) i) wl lo n td wn) H → va_S (fun a => a ∈ zLC q) s9.heap H locs → lv_has ls 4 [(3, .int (zI (i : Int))), (1, .long (dpL (dpC pa sp al co da mb dd n td) (dcF co da 192 (h31 (h31 (h31 (h31 (h31 (h31 1931 n) (smF al n)) td) (mxF (caZ co da mb dd td n) n)) (lgF (llS da mb dd td n) n)) wn) 12) i)), (0, .ref (q 0))] → W p0 l e9 ({ frames := 10, cells := 0, slots := 0, locals := 181 }) s9 m9 ag9 below meth c9 H locs 0 0 Q0 (F0 m9 84 ls []) := by
    intro kf
    induction kf with
    | zero => intro i h1 h2; omega
    | succ kf ih =>
      intro i hi_i hk_i H locs ls hP hS hl
      have ih_i := ih
      clear ih
      refine lv_iload_n hx hb dX2_digest_84 rfl (lv_at hl 0 rfl) ?_
      refine lv_aload_n hx hb dX2_digest_85 rfl (lv_at hl 2 rfl) ?_
      refine va_get (D := D) (ci := 2) (v := .ref (q 1)) (C := RX2) (T := TX2) (N := 9) hx hb hts hin2 hown hK hP 0 rfl rfl 0 (by decide) (hts (.fieldLink RX2 12 "MourningRibbons" "family" "LMourningRibbons$Family;") (by decide +kernel)) (fun _ h9 => h9) rfl dX2_digest_86 ?_
      refine va_get (D := D) (ci := 1) (v := .int (zI (n : Int))) (C := RX1) (T := TX1) (N := 5) hx hb hts hin1 hown hK hP 1 rfl rfl 3 (by decide) (hts (.fieldLink RX2 128 "MourningRibbons$Family" "count" "I") (by decide +kernel)) (fun _ h9 => h9) rfl dX2_digest_89 ?_
      refine zr_icmp_ge (tgt := 108) hx hb dX2_digest_92 (by decide) ⟨by omega, by omega⟩ ⟨by omega, by omega⟩ (fun c_2 => ?_) (fun c_2 => ?_)
      · have c_2 := c_2
        have x_3 : i = n := by omega
        try rw [x_3] at hP
        try rw [x_3] at hl
        refine lv_lload_n hx hb dX2_digest_108 rfl (lv_at hl 1 rfl) ?_
        rw [hQ0]
        exact zret_l hx hb hr hlocks (rfl) hP hS dX2_digest_109
      · have c_2 := c_2
        refine lv_aload_n hx hb dX2_digest_95 rfl (lv_at hl 2 rfl) ?_
        refine lv_lload_n hx hb dX2_digest_96 rfl (lv_at hl 1 rfl) ?_
        refine lv_iload_n hx hb dX2_digest_97 rfl (lv_at hl 0 rfl) ?_
        refine zcallV (ci := 2) (q0 := 0) (cq := (RX2, TX2, 9)) (As := [.long (dpL (dpC pa sp al co da mb dd n td) (dcF co da 192 (h31 (h31 (h31 (h31 (h31 (h31 1931 n) (smF al n)) td) (mxF (caZ co da mb dd td n) n)) (lgF (llS da mb dd td n) n)) wn) 12) i), .int (zI (i : Int))]) (rest := []) ⟨hx, hb, hml, hown, hts⟩ hK (kX2_digestPerson l D cI cZ q hN pa sp al (lastF dg (dgF pa sp n) i) co da mb dd (lastF ah (ca co da mb dd td n) i) wl lo n td wn hn hco hda hmb hdd htd hpa hsp hal (dpL (dpC pa sp al co da mb dd n td) (dcF co da 192 (h31 (h31 (h31 (h31 (h31 (h31 1931 n) (smF al n)) td) (mxF (caZ co da mb dd td n) n)) (lgF (llS da mb dd td n) n)) wn) 12) i) (i : Int) (by omega)) (cwV 2 hts gX2_digest_X2_digestPerson rfl rfl rfl (by decide +kernel) ⟨Nat.le_of_ble_eq_true rfl, Nat.le_of_ble_eq_true rfl⟩) hP hS hA rfl rfl rfl hl.1 rfl (Nat.le_of_ble_eq_true rfl) dX2_digest_98 ⟨Nat.zero_le _, Nat.zero_le _⟩ (fun H locs hP hS _ _ => ?_)
        refine W.eq (g2 := F0 m9 101 ls [.long (dpC pa sp al co da mb dd n td (dpL (dpC pa sp al co da mb dd n td) (dcF co da 192 (h31 (h31 (h31 (h31 (h31 (h31 1931 n) (smF al n)) td) (mxF (caZ co da mb dd td n) n)) (lgF (llS da mb dd td n) n)) wn) 12) i) (i : Int))]) rfl ?_
        refine lv_lstore_n (lv' := [(1, .long (dpC pa sp al co da mb dd n td (dpL (dpC pa sp al co da mb dd n td) (dcF co da 192 (h31 (h31 (h31 (h31 (h31 (h31 1931 n) (smF al n)) td) (mxF (caZ co da mb dd td n) n)) (lgF (llS da mb dd td n) n)) wn) 12) i) (i : Int))), (3, .int (zI (i : Int))), (0, .ref (q 0))]) hx hb dX2_digest_101 rfl hl (by decide) rfl (fun ls hl => ?_)
        refine zr_iinc (v := (i : Int) + 1) (lv' := [(3, .int (zI ((i : Int) + 1))), (1, .long (dpC pa sp al co da mb dd n td (dpL (dpC pa sp al co da mb dd n td) (dcF co da 192 (h31 (h31 (h31 (h31 (h31 (h31 1931 n) (smF al n)) td) (mxF (caZ co da mb dd td n) n)) (lgF (llS da mb dd td n) n)) wn) 12) i) (i : Int))), (0, .ref (q 0))]) hx hb dX2_digest_102 hl (k := 1) rfl rfl (by decide) rfl (fun ls hl => ?_)
        refine lv_goto (tgt := 84) hx hb dX2_digest_105 (by decide) ?_
        have hl := lv_sub hl (l' := [(3, .int (zI ((i : Int) + 1))), (1, .long (dpC pa sp al co da mb dd n td (dpL (dpC pa sp al co da mb dd n td) (dcF co da 192 (h31 (h31 (h31 (h31 (h31 (h31 1931 n) (smF al n)) td) (mxF (caZ co da mb dd td n) n)) (lgF (llS da mb dd td n) n)) wn) 12) i) (i : Int))), (0, .ref (q 0))]) [0, 1, 2] rfl
        have e_4 : ((((i + 1) : Nat) : Int) : Int) = (i : Int) + 1 := by omega
        have e_5 : (dpL (dpC pa sp al co da mb dd n td) (dcF co da 192 (h31 (h31 (h31 (h31 (h31 (h31 1931 n) (smF al n)) td) (mxF (caZ co da mb dd td n) n)) (lgF (llS da mb dd td n) n)) wn) 12) (i + 1) : Int64) = dpC pa sp al co da mb dd n td (dpL (dpC pa sp al co da mb dd n td) (dcF co da 192 (h31 (h31 (h31 (h31 (h31 (h31 1931 n) (smF al n)) td) (mxF (caZ co da mb dd td n) n)) (lgF (llS da mb dd td n) n)) wn) 12) i) (i : Int) := rfl
        have hl : lv_has ls 4 [(3, .int (zI (((i + 1) : Nat) : Int))), (1, .long (dpL (dpC pa sp al co da mb dd n td) (dcF co da 192 (h31 (h31 (h31 (h31 (h31 (h31 1931 n) (smF al n)) td) (mxF (caZ co da mb dd td n) n)) (lgF (llS da mb dd td n) n)) wn) 12) (i + 1))), (0, .ref (q 0))] := by rw [e_4, e_5]; exact hl
        have e_6 : (lastF ah (ca co da mb dd td n) (i + 1) : Int → Int) = ca co da mb dd td n (i : Int) := rfl
        have hP : va_P D vwCl (wC cI cZ q pa sp al (dgF pa sp n (i : Int)) co da mb dd (lastF ah (ca co da mb dd td n) (i + 1)) wl lo n td wn) H := by rw [e_6]; exact hP
        have e_7 : (lastF dg (dgF pa sp n) (i + 1) : Int → Int) = dgF pa sp n (i : Int) := rfl
        have hP : va_P D vwCl (wC cI cZ q pa sp al (lastF dg (dgF pa sp n) (i + 1)) co da mb dd (lastF ah (ca co da mb dd td n) (i + 1)) wl lo n td wn) H := by rw [e_7]; exact hP
        exact ih_i (i + 1) (by omega) (by omega) _ _ _ hP hS hl
  have hl := lv_sub hl (l' := [(3, .int (zI 0)), (1, .long (dcF co da 192 (((((((((((((1931 : Int64) * (31 : Int64)) + ((zI (n : Int)).toInt64)) * (31 : Int64)) + ((zI (smF al n)).toInt64)) * (31 : Int64)) + ((zI td).toInt64)) * (31 : Int64)) + ((zI (mxF (caZ co da mb dd td n) n)).toInt64)) * (31 : Int64)) + ((zI (lgF (llS da mb dd td n) n)).toInt64)) * (31 : Int64)) + ((zI wn).toInt64)) 12)), (0, .ref (q 0))]) [0, 1, 2] rfl
  have e_8 : (dpL (dpC pa sp al co da mb dd n td) (dcF co da 192 (h31 (h31 (h31 (h31 (h31 (h31 1931 n) (smF al n)) td) (mxF (caZ co da mb dd td n) n)) (lgF (llS da mb dd td n) n)) wn) 12) 0 : Int64) = dcF co da 192 (((((((((((((1931 : Int64) * (31 : Int64)) + ((zI (n : Int)).toInt64)) * (31 : Int64)) + ((zI (smF al n)).toInt64)) * (31 : Int64)) + ((zI td).toInt64)) * (31 : Int64)) + ((zI (mxF (caZ co da mb dd td n) n)).toInt64)) * (31 : Int64)) + ((zI (lgF (llS da mb dd td n) n)).toInt64)) * (31 : Int64)) + ((zI wn).toInt64)) 12 := rfl
  have hl : lv_has ls 4 [(3, .int (zI 0)), (1, .long (dpL (dpC pa sp al co da mb dd n td) (dcF co da 192 (h31 (h31 (h31 (h31 (h31 (h31 1931 n) (smF al n)) td) (mxF (caZ co da mb dd td n) n)) (lgF (llS da mb dd td n) n)) wn) 12) 0)), (0, .ref (q 0))] := by rw [e_8]; exact hl
  have e_9 : (lastF ah (ca co da mb dd td n) 0 : Int → Int) = ah := rfl
  have hP : va_P D vwCl (wC cI cZ q pa sp al dg co da mb dd (lastF ah (ca co da mb dd td n) 0) wl lo n td wn) H := by rw [e_9]; exact hP
  have e_10 : (lastF dg (dgF pa sp n) 0 : Int → Int) = dg := rfl
  have hP : va_P D vwCl (wC cI cZ q pa sp al (lastF dg (dgF pa sp n) 0) co da mb dd (lastF ah (ca co da mb dd td n) 0) wl lo n td wn) H := by rw [e_10]; exact hP
  exact L84_1 (n + 1) 0 (Nat.zero_le _) (by omega) _ _ _ hP hS hl
