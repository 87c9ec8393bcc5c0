set_option maxHeartbeats 4000000 in
set_option maxRecDepth 100000 in
theorem kX0_place (l : Launch) (D : va_G) (c : Int) (g : Int) (s : Int) : ∀ tys, zM l yX0_place wsX0_place ({ frames := 0, cells := 0, slots := 0, locals := 0 }) D tys [.int (zI c), .int (zI g), .int (zI s)] [] [] (some (.int (zI (c * 12 + (g - 1) * 3 + s)))) (([] : List Nat)) := by
  intro tys
  refine Met.ofW (cc := cX0_place) (maxL := 3) (ret := (some .int)) (by decide) rfl ?_
  intro p0 e9 s9 m9 ag9 below meth c9 s₁ B hml hv
  obtain ⟨hav, hP, hK⟩ := hv
  have hx := B.exec
  have hb := B.bytes
  have hr := B.returns
  have hts := atoms_spec (ws := wsX0_place) B.pre
  have hown : s9.vm.findClass RX0 = some m9.cls := findClass_of_methodNamed B.named
  have hlocks := B.notSynchronized
  have hA : ∀ a ∈ ([] : List Nat), (fun a => a ∈ ([] : List Nat)) a := fun _ h => h
  have hl := lv_entry ([.int (zI c), .int (zI g), .int (zI s)]) (n := 3) (Nat.le_of_ble_eq_true rfl)
  have hE : entryFrame m9 ag9 3 = F0 m9 0 ((lg_sl ([.int (zI c), .int (zI g), .int (zI s)]) ++ List.replicate (3 - (lg_sl ([.int (zI c), .int (zI g), .int (zI s)])).length) Slot.unset).toArray) [] := by rw [hav]; exact lg_entry_eq m9 _ _
  obtain ⟨Q0, hQ0⟩ : ∃ Q0, Q0 = MQ below (zQ D [] (some (.int (zI (c * 12 + (g - 1) * 3 + s)))) (([] : List Nat))) ag9 s9 0 0 (fun a => a ∈ ([] : List Nat)) := ⟨_, rfl⟩
  show W p0 l e9 ({ frames := 0, cells := 0, slots := 0, locals := 0 }) s9 m9 ag9 below meth c9 s9.heap [] 0 0 (MQ below (zQ D [] (some (.int (zI (c * 12 + (g - 1) * 3 + s)))) (([] : List Nat))) ag9 s9 0 0 (fun a => a ∈ ([] : List Nat))) _
  rw [hE, ← hQ0]
  have hS : va_S (fun a => a ∈ ([] : List Nat)) s9.heap s9.heap [] := va_S.rf
  generalize hH0 : s9.heap = H at hP ⊢
  have hS : va_S (fun a => a ∈ ([] : List Nat)) s9.heap H [] := by rw [hH0] at hS ⊢; exact hS
  generalize (lg_sl ([.int (zI c), .int (zI g), .int (zI s)]) ++ List.replicate (3 - (lg_sl ([.int (zI c), .int (zI g), .int (zI s)])).length) Slot.unset).toArray = ls at hl ⊢
  have hl : lv_has ls 3 [(0, .int (zI c)), (1, .int (zI g)), (2, .int (zI s))] := hl
  refine lv_iload_n hx hb dX0_place_0 rfl (lv_at hl 0 rfl) ?_
  refine zr_bipush hx hb dX0_place_1 (by decide) ?_
  refine zr_imul (v := c * 12) hx hb rfl dX0_place_3 ?_
  refine lv_iload_n hx hb dX0_place_4 rfl (lv_at hl 1 rfl) ?_
  refine zr_iconst hx hb dX0_place_5 ?_
  refine zr_isub (v := g - 1) hx hb rfl dX0_place_6 ?_
  refine zr_iconst hx hb dX0_place_7 ?_
  refine zr_imul (v := (g - 1) * 3) hx hb rfl dX0_place_8 ?_
  refine zr_iadd (v := (c * 12) + ((g - 1) * 3)) hx hb rfl dX0_place_9 ?_
  refine lv_iload_n hx hb dX0_place_10 rfl (lv_at hl 2 rfl) ?_
  refine zr_iadd (v := ((c * 12) + ((g - 1) * 3)) + s) hx hb rfl dX0_place_11 ?_
  rw [hQ0]
  exact zret_i hx hb hr hlocks (by omega) hP hS dX0_place_12
set_option maxHeartbeats 4000000 in
set_option maxRecDepth 100000 in
theorem kX2_pair (l : Launch) (D : va_G) (p : Int) (d : Int) : ∀ tys, zM l yX2_pair wsX2_pair ({ frames := 0, cells := 0, slots := 0, locals := 0 }) D tys [.int (zI p), .int (zI d)] [] [] (some (.int (zI (p * 16 + d)))) (([] : List Nat)) := by
  intro tys
  refine Met.ofW (cc := cX2_pair) (maxL := 2) (ret := (some .int)) (by decide) rfl ?_
  intro p0 e9 s9 m9 ag9 below meth c9 s₁ B hml hv
  obtain ⟨hav, hP, hK⟩ := hv
  have hx := B.exec
  have hb := B.bytes
  have hr := B.returns
  have hts := atoms_spec (ws := wsX2_pair) B.pre
  have hown : s9.vm.findClass RX2 = some m9.cls := findClass_of_methodNamed B.named
  have hlocks := B.notSynchronized
  have hA : ∀ a ∈ ([] : List Nat), (fun a => a ∈ ([] : List Nat)) a := fun _ h => h
  have hl := lv_entry ([.int (zI p), .int (zI d)]) (n := 2) (Nat.le_of_ble_eq_true rfl)
  have hE : entryFrame m9 ag9 2 = F0 m9 0 ((lg_sl ([.int (zI p), .int (zI d)]) ++ List.replicate (2 - (lg_sl ([.int (zI p), .int (zI d)])).length) Slot.unset).toArray) [] := by rw [hav]; exact lg_entry_eq m9 _ _
  obtain ⟨Q0, hQ0⟩ : ∃ Q0, Q0 = MQ below (zQ D [] (some (.int (zI (p * 16 + d)))) (([] : List Nat))) ag9 s9 0 0 (fun a => a ∈ ([] : List Nat)) := ⟨_, rfl⟩
  show W p0 l e9 ({ frames := 0, cells := 0, slots := 0, locals := 0 }) s9 m9 ag9 below meth c9 s9.heap [] 0 0 (MQ below (zQ D [] (some (.int (zI (p * 16 + d)))) (([] : List Nat))) ag9 s9 0 0 (fun a => a ∈ ([] : List Nat))) _
  rw [hE, ← hQ0]
  have hS : va_S (fun a => a ∈ ([] : List Nat)) s9.heap s9.heap [] := va_S.rf
  generalize hH0 : s9.heap = H at hP ⊢
  have hS : va_S (fun a => a ∈ ([] : List Nat)) s9.heap H [] := by rw [hH0] at hS ⊢; exact hS
  generalize (lg_sl ([.int (zI p), .int (zI d)]) ++ List.replicate (2 - (lg_sl ([.int (zI p), .int (zI d)])).length) Slot.unset).toArray = ls at hl ⊢
  have hl : lv_has ls 2 [(0, .int (zI p)), (1, .int (zI d))] := hl
  refine lv_iload_n hx hb dX2_pair_0 rfl (lv_at hl 0 rfl) ?_
  refine zr_bipush hx hb dX2_pair_1 (by decide) ?_
  refine zr_imul (v := p * 16) hx hb rfl dX2_pair_3 ?_
  refine lv_iload_n hx hb dX2_pair_4 rfl (lv_at hl 1 rfl) ?_
  refine zr_iadd (v := (p * 16) + d) hx hb rfl dX2_pair_5 ?_
  rw [hQ0]
  exact zret_i hx hb hr hlocks (by omega) hP hS dX2_pair_6
set_option maxHeartbeats 4000000 in
set_option maxRecDepth 100000 in
theorem kX0_daysOfAll (l : Launch) (D : va_G) (cI cZ : ClassId) (q : Nat → Nat) (hN : (zLC q).Nodup) (pa : Int → Int) (sp : Int → Int) (al : Int → Int) (dg : Int → Int) (co : Int → Int) (da : Int → Int) (mb : Int → Int) (dd : Int → Int) (ah : Int → Int) (wl : Int → Int) (lo : Int → Int) (n : Nat) (td : Int) (wn : Int) (hda : ∀ j : Int, 0 ≤ da j ∧ da j ≤ 60) (k : Int) (g : Int) (h1 : 0 ≤ k ∧ k ≤ 16) (h2 : -2147483648 ≤ g ∧ g ≤ 2147483647) : zM l yX0_daysOfAll wsX0_daysOfAll ({ frames := 1, cells := 0, slots := 0, locals := 22 }) D [(cI, .int), (cZ, .boolean)] [.ref (q 2), .int (zI k), .int (zI g)] (wC cI cZ q pa sp al dg co da mb dd ah wl lo n td wn) (wC cI cZ q pa sp al dg co da mb dd ah wl lo n td wn) (some (.int (zI (dAll da k g)))) (zLC q) := by
  refine Met.ofW (cc := cX0_daysOfAll) (maxL := 5) (ret := (some .int)) (by decide) rfl ?_
  intro p0 e9 s9 m9 ag9 below meth c9 s₁ B hml hv
  obtain ⟨hav, hP, hK⟩ := hv
  have hx := B.exec
  have hb := B.bytes
  have hr := B.returns
  have hts := atoms_spec (ws := wsX0_daysOfAll) B.pre
  have hown : s9.vm.findClass RX0 = some m9.cls := findClass_of_methodNamed B.named
  have hlocks := B.notSynchronized
  have hA : ∀ a ∈ zLC q, (fun a => a ∈ zLC q) a := fun _ h => h
  have hin0 : ∀ w ∈ u_ws RX0 TX0 2, w ∈ wsX0_daysOfAll := by decide +kernel
  have hl := lv_entry ([.ref (q 2), .int (zI k), .int (zI g)]) (n := 5) (Nat.le_of_ble_eq_true rfl)
  have hE : entryFrame m9 ag9 5 = F0 m9 0 ((lg_sl ([.ref (q 2), .int (zI k), .int (zI g)]) ++ List.replicate (5 - (lg_sl ([.ref (q 2), .int (zI k), .int (zI g)])).length) Slot.unset).toArray) [] := by rw [hav]; exact lg_entry_eq m9 _ _
  obtain ⟨Q0, hQ0⟩ : ∃ Q0, Q0 = MQ below (zQ D (wC cI cZ q pa sp al dg co da mb dd ah wl lo n td wn) (some (.int (zI (dAll da k g)))) (zLC q)) ag9 s9 0 0 (fun a => a ∈ zLC q) := ⟨_, rfl⟩
  show W p0 l e9 ({ frames := 1, cells := 0, slots := 0, locals := 22 }) s9 m9 ag9 below meth c9 s9.heap [] 0 0 (MQ below (zQ D (wC cI cZ q pa sp al dg co da mb dd ah wl lo n td wn) (some (.int (zI (dAll da k g)))) (zLC q)) ag9 s9 0 0 (fun a => a ∈ zLC q)) _
  rw [hE, ← hQ0]
  have hS : va_S (fun a => a ∈ zLC q) s9.heap s9.heap [] := va_S.rf
  generalize hH0 : s9.heap = H at hP ⊢
  have hS : va_S (fun a => a ∈ zLC q) s9.heap H [] := by rw [hH0] at hS ⊢; exact hS
  generalize (lg_sl ([.ref (q 2), .int (zI k), .int (zI g)]) ++ List.replicate (5 - (lg_sl ([.ref (q 2), .int (zI k), .int (zI g)])).length) Slot.unset).toArray = ls at hl ⊢
  have hl : lv_has ls 5 [(0, .ref (q 2)), (1, .int (zI k)), (2, .int (zI g))] := hl
  refine lv_iload_n hx hb dX0_daysOfAll_0 rfl (lv_at hl 2 rfl) ?_
  refine zr_iconst hx hb dX0_daysOfAll_1 ?_
  refine zr_icmp_lt (tgt := 10) hx hb dX0_daysOfAll_2 (by decide) ⟨by omega, by omega⟩ ⟨by decide, by decide⟩ (fun c_1 => ?_) (fun c_1 => ?_)
  · have c_1 := c_1
    refine zr_iconst hx hb dX0_daysOfAll_10 ?_
    rw [hQ0]
    exact zret_i hx hb hr hlocks (by unfold dAll; (repeat first | rw [if_pos (by omega)] | rw [if_neg (by omega)]) <;> omega) hP hS dX0_daysOfAll_11
  · have c_1 := c_1
    refine lv_iload_n hx hb dX0_daysOfAll_5 rfl (lv_at hl 2 rfl) ?_
    refine zr_iconst hx hb dX0_daysOfAll_6 ?_
    refine zr_icmp_le (tgt := 12) hx hb dX0_daysOfAll_7 (by decide) ⟨by omega, by omega⟩ ⟨by decide, by decide⟩ (fun c_2 => ?_) (fun c_2 => ?_)
    · have c_2 := c_2
      refine zr_iconst hx hb dX0_daysOfAll_12 ?_
      refine lv_istore_n (lv' := [(3, .int (zI 0)), (0, .ref (q 2)), (1, .int (zI k)), (2, .int (zI g))]) hx hb dX0_daysOfAll_13 rfl hl (by decide) rfl (fun ls hl => ?_)
      refine zr_iconst hx hb dX0_daysOfAll_14 ?_
      refine lv_istore (lv' := [(4, .int (zI 0)), (3, .int (zI 0)), (0, .ref (q 2)), (1, .int (zI k)), (2, .int (zI g))]) hx hb dX0_daysOfAll_15 hl (by decide) rfl (fun ls hl => ?_)
      refine lv_iload hx hb dX0_daysOfAll_17 (lv_at hl 0 rfl) ?_
      refine zr_iconst hx hb dX0_daysOfAll_19 ?_
      refine zr_icmp_ge (tgt := 44) hx hb dX0_daysOfAll_20 (by decide) ⟨by decide, by decide⟩ ⟨by decide, by decide⟩ (fun c_3 => by exfalso; revert c_3; decide) (fun c_3 => ?_)
      refine lv_iload_n hx hb dX0_daysOfAll_23 rfl (lv_at hl 1 rfl) ?_
      refine lv_aload_n hx hb dX0_daysOfAll_24 rfl (lv_at hl 2 rfl) ?_
      refine va_get (D := D) (ci := 0) (v := .ref (q 13)) (C := RX0) (T := TX0) (N := 2) hx hb hts hin0 hown hK hP 2 rfl rfl 1 (by decide) (hts (.fieldLink RX0 15 "MourningRibbons$Codes" "days" "[I") (by decide +kernel)) (fun _ h9 => h9) rfl dX0_daysOfAll_25 ?_
      refine lv_iload_n hx hb dX0_daysOfAll_28 rfl (lv_at hl 3 rfl) ?_
      refine lv_iload_n hx hb dX0_daysOfAll_29 rfl (lv_at hl 4 rfl) ?_
      refine lv_iload hx hb dX0_daysOfAll_30 (lv_at hl 0 rfl) ?_
      refine zcallP (As := [.int (zI k), .int (zI g), .int (zI 0)]) (rest := [.ref (q 13), .int (zI 0)]) ⟨hx, hb, hml, hown, hts⟩ (kX0_place l D k g 0) hK (va_cwS 3 hts gX0_daysOfAll_X0_place rfl rfl rfl (by decide +kernel) ⟨Nat.le_of_ble_eq_true rfl, Nat.le_of_ble_eq_true rfl⟩) hP hS rfl hl.1 rfl (Nat.le_of_ble_eq_true rfl) dX0_daysOfAll_32 ⟨Nat.zero_le _, Nat.zero_le _⟩ (fun H locs hP hS => ?_)
      refine W.eq (g2 := F0 m9 35 ls [.int (zI (k * 12 + (g - 1) * 3 + 0)), .ref (q 13), .int (zI 0)]) rfl ?_
      refine zr_iald (f := da) (n := 204) hx hb hK hP 13 0 rfl rfl (by decide) (i := k * 12 + (g - 1) * 3 + 0) (by omega) (by omega) dX0_daysOfAll_35 ?_
      have b_4 := hda (k * 12 + (g - 1) * 3 + 0)
      refine zr_iadd (v := da (k * 12 + (g - 1) * 3 + 0)) hx hb (by omega) dX0_daysOfAll_36 ?_
      refine lv_istore_n (lv' := [(3, .int (zI (da (k * 12 + (g - 1) * 3 + 0)))), (4, .int (zI 0)), (0, .ref (q 2)), (1, .int (zI k)), (2, .int (zI g))]) hx hb dX0_daysOfAll_37 rfl hl (by decide) rfl (fun ls hl => ?_)
      refine zr_iinc (v := 1) (lv' := [(4, .int (zI 1)), (3, .int (zI (da (k * 12 + (g - 1) * 3 + 0)))), (0, .ref (q 2)), (1, .int (zI k)), (2, .int (zI g))]) hx hb dX0_daysOfAll_38 hl (k := 1) rfl (by decide) (by decide) rfl (fun ls hl => ?_)
      refine lv_goto (tgt := 17) hx hb dX0_daysOfAll_41 (by decide) ?_
      refine lv_iload hx hb dX0_daysOfAll_17 (lv_at hl 0 rfl) ?_
      refine zr_iconst hx hb dX0_daysOfAll_19 ?_
      refine zr_icmp_ge (tgt := 44) hx hb dX0_daysOfAll_20 (by decide) ⟨by decide, by decide⟩ ⟨by decide, by decide⟩ (fun c_5 => by exfalso; revert c_5; decide) (fun c_5 => ?_)
      refine lv_iload_n hx hb dX0_daysOfAll_23 rfl (lv_at hl 1 rfl) ?_
      refine lv_aload_n hx hb dX0_daysOfAll_24 rfl (lv_at hl 2 rfl) ?_
      refine va_get (D := D) (ci := 0) (v := .ref (q 13)) (C := RX0) (T := TX0) (N := 2) hx hb hts hin0 hown hK hP 2 rfl rfl 1 (by decide) (hts (.fieldLink RX0 15 "MourningRibbons$Codes" "days" "[I") (by decide +kernel)) (fun _ h9 => h9) rfl dX0_daysOfAll_25 ?_
      refine lv_iload_n hx hb dX0_daysOfAll_28 rfl (lv_at hl 3 rfl) ?_
      refine lv_iload_n hx hb dX0_daysOfAll_29 rfl (lv_at hl 4 rfl) ?_
      refine lv_iload hx hb dX0_daysOfAll_30 (lv_at hl 0 rfl) ?_
      refine zcallP (As := [.int (zI k), .int (zI g), .int (zI 1)]) (rest := [.ref (q 13), .int (zI (da (k * 12 + (g - 1) * 3 + 0)))]) ⟨hx, hb, hml, hown, hts⟩ (kX0_place l D k g 1) hK (va_cwS 3 hts gX0_daysOfAll_X0_place rfl rfl rfl (by decide +kernel) ⟨Nat.le_of_ble_eq_true rfl, Nat.le_of_ble_eq_true rfl⟩) hP hS rfl hl.1 rfl (Nat.le_of_ble_eq_true rfl) dX0_daysOfAll_32 ⟨Nat.zero_le _, Nat.zero_le _⟩ (fun H locs hP hS => ?_)
      refine W.eq (g2 := F0 m9 35 ls [.int (zI (k * 12 + (g - 1) * 3 + 1)), .ref (q 13), .int (zI (da (k * 12 + (g - 1) * 3 + 0)))]) rfl ?_
      refine zr_iald (f := da) (n := 204) hx hb hK hP 13 0 rfl rfl (by decide) (i := k * 12 + (g - 1) * 3 + 1) (by omega) (by omega) dX0_daysOfAll_35 ?_
      have b_6 := hda (k * 12 + (g - 1) * 3 + 1)
      refine zr_iadd (v := (da (k * 12 + (g - 1) * 3 + 0)) + (da (k * 12 + (g - 1) * 3 + 1))) hx hb rfl dX0_daysOfAll_36 ?_
      refine lv_istore_n (lv' := [(3, .int (zI ((da (k * 12 + (g - 1) * 3 + 0)) + (da (k * 12 + (g - 1) * 3 + 1))))), (4, .int (zI 1)), (0, .ref (q 2)), (1, .int (zI k)), (2, .int (zI g))]) hx hb dX0_daysOfAll_37 rfl hl (by decide) rfl (fun ls hl => ?_)
      refine zr_iinc (v := 2) (lv' := [(4, .int (zI 2)), (3, .int (zI ((da (k * 12 + (g - 1) * 3 + 0)) + (da (k * 12 + (g - 1) * 3 + 1))))), (0, .ref (q 2)), (1, .int (zI k)), (2, .int (zI g))]) hx hb dX0_daysOfAll_38 hl (k := 1) rfl (by decide) (by decide) rfl (fun ls hl => ?_)
      refine lv_goto (tgt := 17) hx hb dX0_daysOfAll_41 (by decide) ?_
      refine lv_iload hx hb dX0_daysOfAll_17 (lv_at hl 0 rfl) ?_
      refine zr_iconst hx hb dX0_daysOfAll_19 ?_
      refine zr_icmp_ge (tgt := 44) hx hb dX0_daysOfAll_20 (by decide) ⟨by decide, by decide⟩ ⟨by decide, by decide⟩ (fun c_7 => by exfalso; revert c_7; decide) (fun c_7 => ?_)
      refine lv_iload_n hx hb dX0_daysOfAll_23 rfl (lv_at hl 1 rfl) ?_
      refine lv_aload_n hx hb dX0_daysOfAll_24 rfl (lv_at hl 2 rfl) ?_
      refine va_get (D := D) (ci := 0) (v := .ref (q 13)) (C := RX0) (T := TX0) (N := 2) hx hb hts hin0 hown hK hP 2 rfl rfl 1 (by decide) (hts (.fieldLink RX0 15 "MourningRibbons$Codes" "days" "[I") (by decide +kernel)) (fun _ h9 => h9) rfl dX0_daysOfAll_25 ?_
      refine lv_iload_n hx hb dX0_daysOfAll_28 rfl (lv_at hl 3 rfl) ?_
      refine lv_iload_n hx hb dX0_daysOfAll_29 rfl (lv_at hl 4 rfl) ?_
      refine lv_iload hx hb dX0_daysOfAll_30 (lv_at hl 0 rfl) ?_
      refine zcallP (As := [.int (zI k), .int (zI g), .int (zI 2)]) (rest := [.ref (q 13), .int (zI ((da (k * 12 + (g - 1) * 3 + 0)) + (da (k * 12 + (g - 1) * 3 + 1))))]) ⟨hx, hb, hml, hown, hts⟩ (kX0_place l D k g 2) hK (va_cwS 3 hts gX0_daysOfAll_X0_place rfl rfl rfl (by decide +kernel) ⟨Nat.le_of_ble_eq_true rfl, Nat.le_of_ble_eq_true rfl⟩) hP hS rfl hl.1 rfl (Nat.le_of_ble_eq_true rfl) dX0_daysOfAll_32 ⟨Nat.zero_le _, Nat.zero_le _⟩ (fun H locs hP hS => ?_)
      refine W.eq (g2 := F0 m9 35 ls [.int (zI (k * 12 + (g - 1) * 3 + 2)), .ref (q 13), .int (zI ((da (k * 12 + (g - 1) * 3 + 0)) + (da (k * 12 + (g - 1) * 3 + 1))))]) rfl ?_
      refine zr_iald (f := da) (n := 204) hx hb hK hP 13 0 rfl rfl (by decide) (i := k * 12 + (g - 1) * 3 + 2) (by omega) (by omega) dX0_daysOfAll_35 ?_
      have b_8 := hda (k * 12 + (g - 1) * 3 + 2)
      refine zr_iadd (v := ((da (k * 12 + (g - 1) * 3 + 0)) + (da (k * 12 + (g - 1) * 3 + 1))) + (da (k * 12 + (g - 1) * 3 + 2))) hx hb rfl dX0_daysOfAll_36 ?_
      refine lv_istore_n (lv' := [(3, .int (zI (((da (k * 12 + (g - 1) * 3 + 0)) + (da (k * 12 + (g - 1) * 3 + 1))) + (da (k * 12 + (g - 1) * 3 + 2))))), (4, .int (zI 2)), (0, .ref (q 2)), (1, .int (zI k)), (2, .int (zI g))]) hx hb dX0_daysOfAll_37 rfl hl (by decide) rfl (fun ls hl => ?_)
      refine zr_iinc (v := 3) (lv' := [(4, .int (zI 3)), (3, .int (zI (((da (k * 12 + (g - 1) * 3 + 0)) + (da (k * 12 + (g - 1) * 3 + 1))) + (da (k * 12 + (g - 1) * 3 + 2))))), (0, .ref (q 2)), (1, .int (zI k)), (2, .int (zI g))]) hx hb dX0_daysOfAll_38 hl (k := 1) rfl (by decide) (by decide) rfl (fun ls hl => ?_)
      refine lv_goto (tgt := 17) hx hb dX0_daysOfAll_41 (by decide) ?_
      refine lv_iload hx hb dX0_daysOfAll_17 (lv_at hl 0 rfl) ?_
      refine zr_iconst hx hb dX0_daysOfAll_19 ?_
      refine zr_icmp_ge (tgt := 44) hx hb dX0_daysOfAll_20 (by decide) ⟨by decide, by decide⟩ ⟨by decide, by decide⟩ (fun c_9 => ?_) (fun c_9 => by exfalso; revert c_9; decide)
      refine lv_iload_n hx hb dX0_daysOfAll_44 rfl (lv_at hl 1 rfl) ?_
      rw [hQ0]
      exact zret_i hx hb hr hlocks (by unfold dAll; (repeat first | rw [if_pos (by omega)] | rw [if_neg (by omega)]) <;> omega) hP hS dX0_daysOfAll_45
    · have c_2 := c_2
      refine zr_iconst hx hb dX0_daysOfAll_10 ?_
      rw [hQ0]
      exact zret_i hx hb hr hlocks (by unfold dAll; (repeat first | rw [if_pos (by omega)] | rw [if_neg (by omega)]) <;> omega) hP hS dX0_daysOfAll_11
set_option maxHeartbeats 4000000 in
set_option maxRecDepth 100000 in
theorem kX0_colourOn (l : Launch) (D : va_G) (cI cZ : ClassId) (q : Nat → Nat) (hN : (zLC q).Nodup) (pa : Int → Int) (sp : Int → Int) (al : Int → Int) (dg : Int → Int) (co : Int → Int) (da : Int → Int) (mb : Int → Int) (dd : Int → Int) (ah : Int → Int) (wl : Int → Int) (lo : Int → Int) (n : Nat) (td : Int) (wn : Int) (hco : ∀ j : Int, 0 ≤ co j ∧ co j ≤ 5) (hda : ∀ j : Int, 0 ≤ da j ∧ da j ≤ 60) (k : Int) (g : Int) (t : Int) (h1 : 0 ≤ k ∧ k ≤ 16) (h2 : -2147483648 ≤ g ∧ g ≤ 2147483647) (h3 : -2147483648 ≤ t ∧ t ≤ 2147483647) : zM l yX0_colourOn wsX0_colourOn ({ frames := 1, cells := 0, slots := 0, locals := 22 }) D [(cI, .int), (cZ, .boolean)] [.ref (q 2), .int (zI k), .int (zI g), .int (zI t)] (wC cI cZ q pa sp al dg co da mb dd ah wl lo n td wn) (wC cI cZ q pa sp al dg co da mb dd ah wl lo n td wn) (some (.int (zI (cOn co da k g t)))) (zLC q) := by
  refine Met.ofW (cc := cX0_colourOn) (maxL := 7) (ret := (some .int)) (by decide) rfl ?_
  intro p0 e9 s9 m9 ag9 below meth c9 s₁ B hml hv
  obtain ⟨hav, hP, hK⟩ := hv
  have hx := B.exec
  have hb := B.bytes
  have hr := B.returns
  have hts := atoms_spec (ws := wsX0_colourOn) B.pre
  have hown : s9.vm.findClass RX0 = some m9.cls := findClass_of_methodNamed B.named
  have hlocks := B.notSynchronized
  have hA : ∀ a ∈ zLC q, (fun a => a ∈ zLC q) a := fun _ h => h
  have hin0 : ∀ w ∈ u_ws RX0 TX0 2, w ∈ wsX0_colourOn := by decide +kernel
  have hl := lv_entry ([.ref (q 2), .int (zI k), .int (zI g), .int (zI t)]) (n := 7) (Nat.le_of_ble_eq_true rfl)
  have hE : entryFrame m9 ag9 7 = F0 m9 0 ((lg_sl ([.ref (q 2), .int (zI k), .int (zI g), .int (zI t)]) ++ List.replicate (7 - (lg_sl ([.ref (q 2), .int (zI k), .int (zI g), .int (zI t)])).length) Slot.unset).toArray) [] := by rw [hav]; exact lg_entry_eq m9 _ _
  obtain ⟨Q0, hQ0⟩ : ∃ Q0, Q0 = MQ below (zQ D (wC cI cZ q pa sp al dg co da mb dd ah wl lo n td wn) (some (.int (zI (cOn co da k g t)))) (zLC q)) ag9 s9 0 0 (fun a => a ∈ zLC q) := ⟨_, rfl⟩
  show W p0 l e9 ({ frames := 1, cells := 0, slots := 0, locals := 22 }) s9 m9 ag9 below meth c9 s9.heap [] 0 0 (MQ below (zQ D (wC cI cZ q pa sp al dg co da mb dd ah wl lo n td wn) (some (.int (zI (cOn co da k g t)))) (zLC q)) ag9 s9 0 0 (fun a => a ∈ zLC q)) _
  rw [hE, ← hQ0]
  have hS : va_S (fun a => a ∈ zLC q) s9.heap s9.heap [] := va_S.rf
  generalize hH0 : s9.heap = H at hP ⊢
  have hS : va_S (fun a => a ∈ zLC q) s9.heap H [] := by rw [hH0] at hS ⊢; exact hS
  generalize (lg_sl ([.ref (q 2), .int (zI k), .int (zI g), .int (zI t)]) ++ List.replicate (7 - (lg_sl ([.ref (q 2), .int (zI k), .int (zI g), .int (zI t)])).length) Slot.unset).toArray = ls at hl ⊢
  have hl : lv_has ls 7 [(0, .ref (q 2)), (1, .int (zI k)), (2, .int (zI g)), (3, .int (zI t))] := hl
  refine lv_iload_n hx hb dX0_colourOn_0 rfl (lv_at hl 2 rfl) ?_
  refine zr_iconst hx hb dX0_colourOn_1 ?_
  refine zr_icmp_lt (tgt := 14) hx hb dX0_colourOn_2 (by decide) ⟨by omega, by omega⟩ ⟨by decide, by decide⟩ (fun c_1 => ?_) (fun c_1 => ?_)
  · have c_1 := c_1
    refine zr_iconst hx hb dX0_colourOn_14 ?_
    rw [hQ0]
    exact zret_i hx hb hr hlocks (by unfold cOn; (repeat first | rw [if_pos (by omega)] | rw [if_neg (by omega)]) <;> omega) hP hS dX0_colourOn_15
  · have c_1 := c_1
    refine lv_iload_n hx hb dX0_colourOn_5 rfl (lv_at hl 2 rfl) ?_
    refine zr_iconst hx hb dX0_colourOn_6 ?_
    refine zr_icmp_gt (tgt := 14) hx hb dX0_colourOn_7 (by decide) ⟨by omega, by omega⟩ ⟨by decide, by decide⟩ (fun c_2 => ?_) (fun c_2 => ?_)
    · have c_2 := c_2
      refine zr_iconst hx hb dX0_colourOn_14 ?_
      rw [hQ0]
      exact zret_i hx hb hr hlocks (by unfold cOn; (repeat first | rw [if_pos (by omega)] | rw [if_neg (by omega)]) <;> omega) hP hS dX0_colourOn_15
    · have c_2 := c_2
      refine lv_iload_n hx hb dX0_colourOn_10 rfl (lv_at hl 3 rfl) ?_
      refine zr_if_ge (tgt := 16) hx hb dX0_colourOn_11 (by decide) ⟨by omega, by omega⟩ (fun c_3 => ?_) (fun c_3 => ?_)
      · have c_3 := c_3
        refine zr_iconst hx hb dX0_colourOn_16 ?_
        refine lv_istore (lv' := [(4, .int (zI 0)), (0, .ref (q 2)), (1, .int (zI k)), (2, .int (zI g)), (3, .int (zI t))]) hx hb dX0_colourOn_17 hl (by decide) rfl (fun ls hl => ?_)
        refine zr_iconst hx hb dX0_colourOn_19 ?_
        refine lv_istore (lv' := [(5, .int (zI 0)), (4, .int (zI 0)), (0, .ref (q 2)), (1, .int (zI k)), (2, .int (zI g)), (3, .int (zI t))]) hx hb dX0_colourOn_20 hl (by decide) rfl (fun ls hl => ?_)
        refine lv_iload hx hb dX0_colourOn_22 (lv_at hl 0 rfl) ?_
        refine zr_iconst hx hb dX0_colourOn_24 ?_
        refine zr_icmp_ge (tgt := 69) hx hb dX0_colourOn_25 (by decide) ⟨by decide, by decide⟩ ⟨by decide, by decide⟩ (fun c_4 => by exfalso; revert c_4; decide) (fun c_4 => ?_)
        refine lv_iload_n hx hb dX0_colourOn_28 rfl (lv_at hl 3 rfl) ?_
        refine lv_iload_n hx hb dX0_colourOn_29 rfl (lv_at hl 4 rfl) ?_
        refine lv_iload hx hb dX0_colourOn_30 (lv_at hl 0 rfl) ?_
        refine zcallP (As := [.int (zI k), .int (zI g), .int (zI 0)]) (rest := []) ⟨hx, hb, hml, hown, hts⟩ (kX0_place l D k g 0) hK (va_cwS 3 hts gX0_colourOn_X0_place rfl rfl rfl (by decide +kernel) ⟨Nat.le_of_ble_eq_true rfl, Nat.le_of_ble_eq_true rfl⟩) hP hS rfl hl.1 rfl (Nat.le_of_ble_eq_true rfl) dX0_colourOn_32 ⟨Nat.zero_le _, Nat.zero_le _⟩ (fun H locs hP hS => ?_)
        refine W.eq (g2 := F0 m9 35 ls [.int (zI (k * 12 + (g - 1) * 3 + 0))]) rfl ?_
        refine lv_istore (lv' := [(6, .int (zI (k * 12 + (g - 1) * 3 + 0))), (5, .int (zI 0)), (4, .int (zI 0)), (0, .ref (q 2)), (1, .int (zI k)), (2, .int (zI g)), (3, .int (zI t))]) hx hb dX0_colourOn_35 hl (by decide) rfl (fun ls hl => ?_)
        refine lv_iload hx hb dX0_colourOn_37 (lv_at hl 2 rfl) ?_
        refine lv_aload_n hx hb dX0_colourOn_39 rfl (lv_at hl 3 rfl) ?_
        refine va_get (D := D) (ci := 0) (v := .ref (q 13)) (C := RX0) (T := TX0) (N := 2) hx hb hts hin0 hown hK hP 2 rfl rfl 1 (by decide) (hts (.fieldLink RX0 15 "MourningRibbons$Codes" "days" "[I") (by decide +kernel)) (fun _ h9 => h9) rfl dX0_colourOn_40 ?_
        refine lv_iload hx hb dX0_colourOn_43 (lv_at hl 0 rfl) ?_
        refine zr_iald (f := da) (n := 204) hx hb hK hP 13 0 rfl rfl (by decide) (i := k * 12 + (g - 1) * 3 + 0) (by omega) (by omega) dX0_colourOn_45 ?_
        have b_5 := hda (k * 12 + (g - 1) * 3 + 0)
        refine zr_iadd (v := da (k * 12 + (g - 1) * 3 + 0)) hx hb (by omega) dX0_colourOn_46 ?_
        refine lv_istore (lv' := [(4, .int (zI (da (k * 12 + (g - 1) * 3 + 0)))), (6, .int (zI (k * 12 + (g - 1) * 3 + 0))), (5, .int (zI 0)), (0, .ref (q 2)), (1, .int (zI k)), (2, .int (zI g)), (3, .int (zI t))]) hx hb dX0_colourOn_47 hl (by decide) rfl (fun ls hl => ?_)
        refine lv_iload_n hx hb dX0_colourOn_49 rfl (lv_at hl 6 rfl) ?_
        refine lv_iload hx hb dX0_colourOn_50 (lv_at hl 0 rfl) ?_
        refine zr_icmp_ge (tgt := 63) hx hb dX0_colourOn_52 (by decide) ⟨by omega, by omega⟩ ⟨by omega, by omega⟩ (fun c_6 => ?_) (fun c_6 => ?_)
        · have c_6 := c_6
          refine zr_iinc (v := 1) (lv' := [(5, .int (zI 1)), (4, .int (zI (da (k * 12 + (g - 1) * 3 + 0)))), (6, .int (zI (k * 12 + (g - 1) * 3 + 0))), (0, .ref (q 2)), (1, .int (zI k)), (2, .int (zI g)), (3, .int (zI t))]) hx hb dX0_colourOn_63 hl (k := 2) rfl (by decide) (by decide) rfl (fun ls hl => ?_)
          refine lv_goto (tgt := 22) hx hb dX0_colourOn_66 (by decide) ?_
          refine lv_iload hx hb dX0_colourOn_22 (lv_at hl 0 rfl) ?_
          refine zr_iconst hx hb dX0_colourOn_24 ?_
          refine zr_icmp_ge (tgt := 69) hx hb dX0_colourOn_25 (by decide) ⟨by decide, by decide⟩ ⟨by decide, by decide⟩ (fun c_7 => by exfalso; revert c_7; decide) (fun c_7 => ?_)
          refine lv_iload_n hx hb dX0_colourOn_28 rfl (lv_at hl 4 rfl) ?_
          refine lv_iload_n hx hb dX0_colourOn_29 rfl (lv_at hl 5 rfl) ?_
          refine lv_iload hx hb dX0_colourOn_30 (lv_at hl 0 rfl) ?_
          refine zcallP (As := [.int (zI k), .int (zI g), .int (zI 1)]) (rest := []) ⟨hx, hb, hml, hown, hts⟩ (kX0_place l D k g 1) hK (va_cwS 3 hts gX0_colourOn_X0_place rfl rfl rfl (by decide +kernel) ⟨Nat.le_of_ble_eq_true rfl, Nat.le_of_ble_eq_true rfl⟩) hP hS rfl hl.1 rfl (Nat.le_of_ble_eq_true rfl) dX0_colourOn_32 ⟨Nat.zero_le _, Nat.zero_le _⟩ (fun H locs hP hS => ?_)
          refine W.eq (g2 := F0 m9 35 ls [.int (zI (k * 12 + (g - 1) * 3 + 1))]) rfl ?_
          refine lv_istore (lv' := [(6, .int (zI (k * 12 + (g - 1) * 3 + 1))), (5, .int (zI 1)), (4, .int (zI (da (k * 12 + (g - 1) * 3 + 0)))), (0, .ref (q 2)), (1, .int (zI k)), (2, .int (zI g)), (3, .int (zI t))]) hx hb dX0_colourOn_35 hl (by decide) rfl (fun ls hl => ?_)
          refine lv_iload hx hb dX0_colourOn_37 (lv_at hl 2 rfl) ?_
          refine lv_aload_n hx hb dX0_colourOn_39 rfl (lv_at hl 3 rfl) ?_
          refine va_get (D := D) (ci := 0) (v := .ref (q 13)) (C := RX0) (T := TX0) (N := 2) hx hb hts hin0 hown hK hP 2 rfl rfl 1 (by decide) (hts (.fieldLink RX0 15 "MourningRibbons$Codes" "days" "[I") (by decide +kernel)) (fun _ h9 => h9) rfl dX0_colourOn_40 ?_
          refine lv_iload hx hb dX0_colourOn_43 (lv_at hl 0 rfl) ?_
          refine zr_iald (f := da) (n := 204) hx hb hK hP 13 0 rfl rfl (by decide) (i := k * 12 + (g - 1) * 3 + 1) (by omega) (by omega) dX0_colourOn_45 ?_
          have b_8 := hda (k * 12 + (g - 1) * 3 + 1)
          refine zr_iadd (v := (da (k * 12 + (g - 1) * 3 + 0)) + (da (k * 12 + (g - 1) * 3 + 1))) hx hb rfl dX0_colourOn_46 ?_
          refine lv_istore (lv' := [(4, .int (zI ((da (k * 12 + (g - 1) * 3 + 0)) + (da (k * 12 + (g - 1) * 3 + 1))))), (6, .int (zI (k * 12 + (g - 1) * 3 + 1))), (5, .int (zI 1)), (0, .ref (q 2)), (1, .int (zI k)), (2, .int (zI g)), (3, .int (zI t))]) hx hb dX0_colourOn_47 hl (by decide) rfl (fun ls hl => ?_)
          refine lv_iload_n hx hb dX0_colourOn_49 rfl (lv_at hl 6 rfl) ?_
          refine lv_iload hx hb dX0_colourOn_50 (lv_at hl 0 rfl) ?_
          refine zr_icmp_ge (tgt := 63) hx hb dX0_colourOn_52 (by decide) ⟨by omega, by omega⟩ ⟨by omega, by omega⟩ (fun c_9 => ?_) (fun c_9 => ?_)
          · have c_9 := c_9
            refine zr_iinc (v := 2) (lv' := [(5, .int (zI 2)), (4, .int (zI ((da (k * 12 + (g - 1) * 3 + 0)) + (da (k * 12 + (g - 1) * 3 + 1))))), (6, .int (zI (k * 12 + (g - 1) * 3 + 1))), (0, .ref (q 2)), (1, .int (zI k)), (2, .int (zI g)), (3, .int (zI t))]) hx hb dX0_colourOn_63 hl (k := 2) rfl (by decide) (by decide) rfl (fun ls hl => ?_)
            refine lv_goto (tgt := 22) hx hb dX0_colourOn_66 (by decide) ?_
            refine lv_iload hx hb dX0_colourOn_22 (lv_at hl 0 rfl) ?_
            refine zr_iconst hx hb dX0_colourOn_24 ?_
            refine zr_icmp_ge (tgt := 69) hx hb dX0_colourOn_25 (by decide) ⟨by decide, by decide⟩ ⟨by decide, by decide⟩ (fun c_10 => by exfalso; revert c_10; decide) (fun c_10 => ?_)
            refine lv_iload_n hx hb dX0_colourOn_28 rfl (lv_at hl 4 rfl) ?_
            refine lv_iload_n hx hb dX0_colourOn_29 rfl (lv_at hl 5 rfl) ?_
            refine lv_iload hx hb dX0_colourOn_30 (lv_at hl 0 rfl) ?_
            refine zcallP (As := [.int (zI k), .int (zI g), .int (zI 2)]) (rest := []) ⟨hx, hb, hml, hown, hts⟩ (kX0_place l D k g 2) hK (va_cwS 3 hts gX0_colourOn_X0_place rfl rfl rfl (by decide +kernel) ⟨Nat.le_of_ble_eq_true rfl, Nat.le_of_ble_eq_true rfl⟩) hP hS rfl hl.1 rfl (Nat.le_of_ble_eq_true rfl) dX0_colourOn_32 ⟨Nat.zero_le _, Nat.zero_le _⟩ (fun H locs hP hS => ?_)
            refine W.eq (g2 := F0 m9 35 ls [.int (zI (k * 12 + (g - 1) * 3 + 2))]) rfl ?_
            refine lv_istore (lv' := [(6, .int (zI (k * 12 + (g - 1) * 3 + 2))), (5, .int (zI 2)), (4, .int (zI ((da (k * 12 + (g - 1) * 3 + 0)) + (da (k * 12 + (g - 1) * 3 + 1))))), (0, .ref (q 2)), (1, .int (zI k)), (2, .int (zI g)), (3, .int (zI t))]) hx hb dX0_colourOn_35 hl (by decide) rfl (fun ls hl => ?_)
            refine lv_iload hx hb dX0_colourOn_37 (lv_at hl 2 rfl) ?_
            refine lv_aload_n hx hb dX0_colourOn_39 rfl (lv_at hl 3 rfl) ?_
            refine va_get (D := D) (ci := 0) (v := .ref (q 13)) (C := RX0) (T := TX0) (N := 2) hx hb hts hin0 hown hK hP 2 rfl rfl 1 (by decide) (hts (.fieldLink RX0 15 "MourningRibbons$Codes" "days" "[I") (by decide +kernel)) (fun _ h9 => h9) rfl dX0_colourOn_40 ?_
            refine lv_iload hx hb dX0_colourOn_43 (lv_at hl 0 rfl) ?_
            refine zr_iald (f := da) (n := 204) hx hb hK hP 13 0 rfl rfl (by decide) (i := k * 12 + (g - 1) * 3 + 2) (by omega) (by omega) dX0_colourOn_45 ?_
            have b_11 := hda (k * 12 + (g - 1) * 3 + 2)
            refine zr_iadd (v := ((da (k * 12 + (g - 1) * 3 + 0)) + (da (k * 12 + (g - 1) * 3 + 1))) + (da (k * 12 + (g - 1) * 3 + 2))) hx hb rfl dX0_colourOn_46 ?_
            refine lv_istore (lv' := [(4, .int (zI (((da (k * 12 + (g - 1) * 3 + 0)) + (da (k * 12 + (g - 1) * 3 + 1))) + (da (k * 12 + (g - 1) * 3 + 2))))), (6, .int (zI (k * 12 + (g - 1) * 3 + 2))), (5, .int (zI 2)), (0, .ref (q 2)), (1, .int (zI k)), (2, .int (zI g)), (3, .int (zI t))]) hx hb dX0_colourOn_47 hl (by decide) rfl (fun ls hl => ?_)
            refine lv_iload_n hx hb dX0_colourOn_49 rfl (lv_at hl 6 rfl) ?_
            refine lv_iload hx hb dX0_colourOn_50 (lv_at hl 0 rfl) ?_
            refine zr_icmp_ge (tgt := 63) hx hb dX0_colourOn_52 (by decide) ⟨by omega, by omega⟩ ⟨by omega, by omega⟩ (fun c_12 => ?_) (fun c_12 => ?_)
            · have c_12 := c_12
              refine zr_iinc (v := 3) (lv' := [(5, .int (zI 3)), (4, .int (zI (((da (k * 12 + (g - 1) * 3 + 0)) + (da (k * 12 + (g - 1) * 3 + 1))) + (da (k * 12 + (g - 1) * 3 + 2))))), (6, .int (zI (k * 12 + (g - 1) * 3 + 2))), (0, .ref (q 2)), (1, .int (zI k)), (2, .int (zI g)), (3, .int (zI t))]) hx hb dX0_colourOn_63 hl (k := 2) rfl (by decide) (by decide) rfl (fun ls hl => ?_)
              refine lv_goto (tgt := 22) hx hb dX0_colourOn_66 (by decide) ?_
              refine lv_iload hx hb dX0_colourOn_22 (lv_at hl 0 rfl) ?_
              refine zr_iconst hx hb dX0_colourOn_24 ?_
              refine zr_icmp_ge (tgt := 69) hx hb dX0_colourOn_25 (by decide) ⟨by decide, by decide⟩ ⟨by decide, by decide⟩ (fun c_13 => ?_) (fun c_13 => by exfalso; revert c_13; decide)
              refine zr_iconst hx hb dX0_colourOn_69 ?_
              rw [hQ0]
              exact zret_i hx hb hr hlocks (by unfold cOn; (repeat first | rw [if_pos (by omega)] | rw [if_neg (by omega)]) <;> omega) hP hS dX0_colourOn_70
            · have c_12 := c_12
              refine lv_aload_n hx hb dX0_colourOn_55 rfl (lv_at hl 3 rfl) ?_
              refine va_get (D := D) (ci := 0) (v := .ref (q 12)) (C := RX0) (T := TX0) (N := 2) hx hb hts hin0 hown hK hP 2 rfl rfl 0 (by decide) (hts (.fieldLink RX0 11 "MourningRibbons$Codes" "colours" "[I") (by decide +kernel)) (fun _ h9 => h9) rfl dX0_colourOn_56 ?_
              refine lv_iload hx hb dX0_colourOn_59 (lv_at hl 1 rfl) ?_
              refine zr_iald (f := co) (n := 204) hx hb hK hP 12 0 rfl rfl (by decide) (i := k * 12 + (g - 1) * 3 + 2) (by omega) (by omega) dX0_colourOn_61 ?_
              have b_14 := hco (k * 12 + (g - 1) * 3 + 2)
              rw [hQ0]
              exact zret_i hx hb hr hlocks (by unfold cOn; (repeat first | rw [if_pos (by omega)] | rw [if_neg (by omega)]) <;> omega) hP hS dX0_colourOn_62
          · have c_9 := c_9
            refine lv_aload_n hx hb dX0_colourOn_55 rfl (lv_at hl 3 rfl) ?_
            refine va_get (D := D) (ci := 0) (v := .ref (q 12)) (C := RX0) (T := TX0) (N := 2) hx hb hts hin0 hown hK hP 2 rfl rfl 0 (by decide) (hts (.fieldLink RX0 11 "MourningRibbons$Codes" "colours" "[I") (by decide +kernel)) (fun _ h9 => h9) rfl dX0_colourOn_56 ?_
            refine lv_iload hx hb dX0_colourOn_59 (lv_at hl 1 rfl) ?_
            refine zr_iald (f := co) (n := 204) hx hb hK hP 12 0 rfl rfl (by decide) (i := k * 12 + (g - 1) * 3 + 1) (by omega) (by omega) dX0_colourOn_61 ?_
            have b_15 := hco (k * 12 + (g - 1) * 3 + 1)
            rw [hQ0]
            exact zret_i hx hb hr hlocks (by unfold cOn; (repeat first | rw [if_pos (by omega)] | rw [if_neg (by omega)]) <;> omega) hP hS dX0_colourOn_62
        · have c_6 := c_6
          refine lv_aload_n hx hb dX0_colourOn_55 rfl (lv_at hl 3 rfl) ?_
          refine va_get (D := D) (ci := 0) (v := .ref (q 12)) (C := RX0) (T := TX0) (N := 2) hx hb hts hin0 hown hK hP 2 rfl rfl 0 (by decide) (hts (.fieldLink RX0 11 "MourningRibbons$Codes" "colours" "[I") (by decide +kernel)) (fun _ h9 => h9) rfl dX0_colourOn_56 ?_
          refine lv_iload hx hb dX0_colourOn_59 (lv_at hl 1 rfl) ?_
          refine zr_iald (f := co) (n := 204) hx hb hK hP 12 0 rfl rfl (by decide) (i := k * 12 + (g - 1) * 3 + 0) (by omega) (by omega) dX0_colourOn_61 ?_
          have b_16 := hco (k * 12 + (g - 1) * 3 + 0)
          rw [hQ0]
          exact zret_i hx hb hr hlocks (by unfold cOn; (repeat first | rw [if_pos (by omega)] | rw [if_neg (by omega)]) <;> omega) hP hS dX0_colourOn_62
      · have c_3 := c_3
        refine zr_iconst hx hb dX0_colourOn_14 ?_
        rw [hQ0]
        exact zret_i hx hb hr hlocks (by unfold cOn; (repeat first | rw [if_pos (by omega)] | rw [if_neg (by omega)]) <;> omega) hP hS dX0_colourOn_15
set_option maxHeartbeats 4000000 in
set_option maxRecDepth 100000 in
theorem kX0_keepFor (l : Launch) (D : va_G) (cI cZ : ClassId) (q : Nat → Nat) (hN : (zLC q).Nodup) (pa : Int → Int) (sp : Int → Int) (al : Int → Int) (dg : Int → Int) (co : Int → Int) (da : Int → Int) (mb : Int → Int) (dd : Int → Int) (ah : Int → Int) (wl : Int → Int) (lo : Int → Int) (n : Nat) (td : Int) (wn : Int) (hco : ∀ j : Int, 0 ≤ co j ∧ co j ≤ 5) (hda : ∀ j : Int, 0 ≤ da j ∧ da j ≤ 60) (d : Int) (h1 : 0 ≤ d ∧ d < 16) : zM l yX0_keepFor wsX0_keepFor ({ frames := 1, cells := 0, slots := 0, locals := 60 }) D [(cI, .int), (cZ, .boolean)] [.ref (q 2), .int (zI d)] (wC cI cZ q pa sp al dg co da mb dd ah wl lo n td wn) (wC cI cZ q pa sp al dg (cpZ co co (16 * 12 + (1 - 1) * 3 + 0) (d * 12 + (1 - 1) * 3 + 0) 12) (cpZ da da (16 * 12 + (1 - 1) * 3 + 0) (d * 12 + (1 - 1) * 3 + 0) 12) mb dd ah wl lo n td wn) none (zLC q) := by
  refine Met.ofW (cc := cX0_keepFor) (maxL := 4) (ret := none) (by decide) rfl ?_
  intro p0 e9 s9 m9 ag9 below meth c9 s₁ B hml hv
  obtain ⟨hav, hP, hK⟩ := hv
  have hx := B.exec
  have hb := B.bytes
  have hr := B.returns
  have hts := atoms_spec (ws := wsX0_keepFor) B.pre
  have hown : s9.vm.findClass RX0 = some m9.cls := findClass_of_methodNamed B.named
  have hlocks := B.notSynchronized
  have hA : ∀ a ∈ zLC q, (fun a => a ∈ zLC q) a := fun _ h => h
  have hin0 : ∀ w ∈ u_ws RX0 TX0 2, w ∈ wsX0_keepFor := by decide +kernel
  have hl := lv_entry ([.ref (q 2), .int (zI d)]) (n := 4) (Nat.le_of_ble_eq_true rfl)
  have hE : entryFrame m9 ag9 4 = F0 m9 0 ((lg_sl ([.ref (q 2), .int (zI d)]) ++ List.replicate (4 - (lg_sl ([.ref (q 2), .int (zI d)])).length) Slot.unset).toArray) [] := by rw [hav]; exact lg_entry_eq m9 _ _
  obtain ⟨Q0, hQ0⟩ : ∃ Q0, Q0 = MQ below (zQ D (wC cI cZ q pa sp al dg (cpZ co co (16 * 12 + (1 - 1) * 3 + 0) (d * 12 + (1 - 1) * 3 + 0) 12) (cpZ da da (16 * 12 + (1 - 1) * 3 + 0) (d * 12 + (1 - 1) * 3 + 0) 12) mb dd ah wl lo n td wn) none (zLC q)) ag9 s9 0 0 (fun a => a ∈ zLC q) := ⟨_, rfl⟩
  show W p0 l e9 ({ frames := 1, cells := 0, slots := 0, locals := 60 }) s9 m9 ag9 below meth c9 s9.heap [] 0 0 (MQ below (zQ D (wC cI cZ q pa sp al dg (cpZ co co (16 * 12 + (1 - 1) * 3 + 0) (d * 12 + (1 - 1) * 3 + 0) 12) (cpZ da da (16 * 12 + (1 - 1) * 3 + 0) (d * 12 + (1 - 1) * 3 + 0) 12) mb dd ah wl lo n td wn) none (zLC q)) ag9 s9 0 0 (fun a => a ∈ zLC q)) _
  rw [hE, ← hQ0]
  have hS : va_S (fun a => a ∈ zLC q) s9.heap s9.heap [] := va_S.rf
  generalize hH0 : s9.heap = H at hP ⊢
  have hS : va_S (fun a => a ∈ zLC q) s9.heap H [] := by rw [hH0] at hS ⊢; exact hS
  generalize (lg_sl ([.ref (q 2), .int (zI d)]) ++ List.replicate (4 - (lg_sl ([.ref (q 2), .int (zI d)])).length) Slot.unset).toArray = ls at hl ⊢
  have hl : lv_has ls 4 [(0, .ref (q 2)), (1, .int (zI d))] := hl
  refine zr_bipush hx hb dX0_keepFor_0 (by decide) ?_
  refine zr_iconst hx hb dX0_keepFor_2 ?_
  refine zr_iconst hx hb dX0_keepFor_3 ?_
  refine zcallP (As := [.int (zI 16), .int (zI 1), .int (zI 0)]) (rest := []) ⟨hx, hb, hml, hown, hts⟩ (kX0_place l D 16 1 0) hK (va_cwS 3 hts gX0_keepFor_X0_place rfl rfl rfl (by decide +kernel) ⟨Nat.le_of_ble_eq_true rfl, Nat.le_of_ble_eq_true rfl⟩) hP hS rfl hl.1 rfl (Nat.le_of_ble_eq_true rfl) dX0_keepFor_4 ⟨Nat.zero_le _, Nat.zero_le _⟩ (fun H locs hP hS => ?_)
  refine W.eq (g2 := F0 m9 7 ls [.int (zI (16 * 12 + (1 - 1) * 3 + 0))]) rfl ?_
  refine lv_istore_n (lv' := [(2, .int (zI (16 * 12 + (1 - 1) * 3 + 0))), (0, .ref (q 2)), (1, .int (zI d))]) hx hb dX0_keepFor_7 rfl hl (by decide) rfl (fun ls hl => ?_)
  refine lv_iload_n hx hb dX0_keepFor_8 rfl (lv_at hl 2 rfl) ?_
  refine zr_iconst hx hb dX0_keepFor_9 ?_
  refine zr_iconst hx hb dX0_keepFor_10 ?_
  refine zcallP (As := [.int (zI d), .int (zI 1), .int (zI 0)]) (rest := []) ⟨hx, hb, hml, hown, hts⟩ (kX0_place l D d 1 0) hK (va_cwS 3 hts gX0_keepFor_X0_place rfl rfl rfl (by decide +kernel) ⟨Nat.le_of_ble_eq_true rfl, Nat.le_of_ble_eq_true rfl⟩) hP hS rfl hl.1 rfl (Nat.le_of_ble_eq_true rfl) dX0_keepFor_11 ⟨Nat.zero_le _, Nat.zero_le _⟩ (fun H locs hP hS => ?_)
  refine W.eq (g2 := F0 m9 14 ls [.int (zI (d * 12 + (1 - 1) * 3 + 0))]) rfl ?_
  refine lv_istore_n (lv' := [(3, .int (zI (d * 12 + (1 - 1) * 3 + 0))), (2, .int (zI (16 * 12 + (1 - 1) * 3 + 0))), (0, .ref (q 2)), (1, .int (zI d))]) hx hb dX0_keepFor_14 rfl hl (by decide) rfl (fun ls hl => ?_)
  refine lv_aload_n hx hb dX0_keepFor_15 rfl (lv_at hl 2 rfl) ?_
  refine va_get (D := D) (ci := 0) (v := .ref (q 12)) (C := RX0) (T := TX0) (N := 2) hx hb hts hin0 hown hK hP 2 rfl rfl 0 (by decide) (hts (.fieldLink RX0 11 "MourningRibbons$Codes" "colours" "[I") (by decide +kernel)) (fun _ h9 => h9) rfl dX0_keepFor_16 ?_
  refine lv_iload_n hx hb dX0_keepFor_19 rfl (lv_at hl 1 rfl) ?_
  refine lv_aload_n hx hb dX0_keepFor_20 rfl (lv_at hl 2 rfl) ?_
  refine va_get (D := D) (ci := 0) (v := .ref (q 12)) (C := RX0) (T := TX0) (N := 2) hx hb hts hin0 hown hK hP 2 rfl rfl 0 (by decide) (hts (.fieldLink RX0 11 "MourningRibbons$Codes" "colours" "[I") (by decide +kernel)) (fun _ h9 => h9) rfl dX0_keepFor_21 ?_
  refine lv_iload_n hx hb dX0_keepFor_24 rfl (lv_at hl 0 rfl) ?_
  refine zr_bipush hx hb dX0_keepFor_25 (by decide) ?_
  refine zr_copyi hx hb (by rw [hml, hl.1]) hown (hts (.methodLink RX0 22 arraycopyName) (by decide +kernel)) (hts (.native arraycopyName) (by decide +kernel)) (hts (.static arraycopyName) (by decide +kernel)) (hts (.initialized "java/lang/System") (by decide +kernel)) hK hP hN rfl hA hS 12 0 (f := co) (n := 204) rfl rfl (by decide) (sp := 16 * 12 + (1 - 1) * 3 + 0) (dp := d * 12 + (1 - 1) * 3 + 0) (k := 12) (by omega) (by omega) (by omega) (by omega) (by omega) (Nat.le_of_ble_eq_true rfl) (Nat.le_of_ble_eq_true rfl) dX0_keepFor_27 (fun H locs hP hS => ?_)
  have hP : va_P D vwCl (wC cI cZ q pa sp al dg (cpZ co co (16 * 12 + (1 - 1) * 3 + 0) (d * 12 + (1 - 1) * 3 + 0) 12) da mb dd ah wl lo n td wn) H := hP
  refine lv_aload_n hx hb dX0_keepFor_30 rfl (lv_at hl 2 rfl) ?_
  refine va_get (D := D) (ci := 0) (v := .ref (q 13)) (C := RX0) (T := TX0) (N := 2) hx hb hts hin0 hown hK hP 2 rfl rfl 1 (by decide) (hts (.fieldLink RX0 15 "MourningRibbons$Codes" "days" "[I") (by decide +kernel)) (fun _ h9 => h9) rfl dX0_keepFor_31 ?_
  refine lv_iload_n hx hb dX0_keepFor_34 rfl (lv_at hl 1 rfl) ?_
  refine lv_aload_n hx hb dX0_keepFor_35 rfl (lv_at hl 2 rfl) ?_
  refine va_get (D := D) (ci := 0) (v := .ref (q 13)) (C := RX0) (T := TX0) (N := 2) hx hb hts hin0 hown hK hP 2 rfl rfl 1 (by decide) (hts (.fieldLink RX0 15 "MourningRibbons$Codes" "days" "[I") (by decide +kernel)) (fun _ h9 => h9) rfl dX0_keepFor_36 ?_
  refine lv_iload_n hx hb dX0_keepFor_39 rfl (lv_at hl 0 rfl) ?_
  refine zr_bipush hx hb dX0_keepFor_40 (by decide) ?_
  refine zr_copyi hx hb (by rw [hml, hl.1]) hown (hts (.methodLink RX0 22 arraycopyName) (by decide +kernel)) (hts (.native arraycopyName) (by decide +kernel)) (hts (.static arraycopyName) (by decide +kernel)) (hts (.initialized "java/lang/System") (by decide +kernel)) hK hP hN rfl hA hS 13 0 (f := da) (n := 204) rfl rfl (by decide) (sp := 16 * 12 + (1 - 1) * 3 + 0) (dp := d * 12 + (1 - 1) * 3 + 0) (k := 12) (by omega) (by omega) (by omega) (by omega) (by omega) (Nat.le_of_ble_eq_true rfl) (Nat.le_of_ble_eq_true rfl) dX0_keepFor_42 (fun H locs hP hS => ?_)
  have hP : va_P D vwCl (wC cI cZ q pa sp al dg (cpZ co co (16 * 12 + (1 - 1) * 3 + 0) (d * 12 + (1 - 1) * 3 + 0) 12) (cpZ da da (16 * 12 + (1 - 1) * 3 + 0) (d * 12 + (1 - 1) * 3 + 0) 12) mb dd ah wl lo n td wn) H := hP
  rw [hQ0]
  exact zret_v hx hb hr hlocks hP hS dX0_keepFor_45
set_option maxHeartbeats 4000000 in
set_option maxRecDepth 100000 in
theorem kX1_isFull (l : Launch) (D : va_G) (cI cZ : ClassId) (q : Nat → Nat) (hN : (zLC q).Nodup) (pa : Int → Int) (sp : Int → Int) (al : Int → Int) (dg : Int → Int) (co : Int → Int) (da : Int → Int) (mb : Int → Int) (dd : Int → Int) (ah : Int → Int) (wl : Int → Int) (lo : Int → Int) (n : Nat) (td : Int) (wn : Int) (hn : n ≤ 16) : zM l yX1_isFull wsX1_isFull ({ frames := 0, cells := 0, slots := 0, locals := 0 }) D [(cI, .int), (cZ, .boolean)] [.ref (q 1)] (wC cI cZ q pa sp al dg co da mb dd ah wl lo n td wn) (wC cI cZ q pa sp al dg co da mb dd ah wl lo n td wn) (some (.int (zI (bI (16 ≤ (n : Int)))))) (zLC q) := by
  refine Met.ofW (cc := cX1_isFull) (maxL := 1) (ret := (some .boolean)) (by decide) rfl ?_
  intro p0 e9 s9 m9 ag9 below meth c9 s₁ B hml hv
  obtain ⟨hav, hP, hK⟩ := hv
  have hx := B.exec
  have hb := B.bytes
  have hr := B.returns
  have hts := atoms_spec (ws := wsX1_isFull) B.pre
  have hown : s9.vm.findClass RX1 = some m9.cls := findClass_of_methodNamed B.named
  have hlocks := B.notSynchronized
  have hA : ∀ a ∈ zLC q, (fun a => a ∈ zLC q) a := fun _ h => h
  have hin1 : ∀ w ∈ u_ws RX1 TX1 5, w ∈ wsX1_isFull := by decide +kernel
  have hl := lv_entry ([.ref (q 1)]) (n := 1) (Nat.le_of_ble_eq_true rfl)
  have hE : entryFrame m9 ag9 1 = F0 m9 0 ((lg_sl ([.ref (q 1)]) ++ List.replicate (1 - (lg_sl ([.ref (q 1)])).length) Slot.unset).toArray) [] := by rw [hav]; exact lg_entry_eq m9 _ _
  obtain ⟨Q0, hQ0⟩ : ∃ Q0, Q0 = MQ below (zQ D (wC cI cZ q pa sp al dg co da mb dd ah wl lo n td wn) (some (.int (zI (bI (16 ≤ (n : Int)))))) (zLC q)) ag9 s9 0 0 (fun a => a ∈ zLC q) := ⟨_, rfl⟩
  show W p0 l e9 ({ frames := 0, cells := 0, slots := 0, locals := 0 }) s9 m9 ag9 below meth c9 s9.heap [] 0 0 (MQ below (zQ D (wC cI cZ q pa sp al dg co da mb dd ah wl lo n td wn) (some (.int (zI (bI (16 ≤ (n : Int)))))) (zLC q)) ag9 s9 0 0 (fun a => a ∈ zLC q)) _
  rw [hE, ← hQ0]
  have hS : va_S (fun a => a ∈ zLC q) s9.heap s9.heap [] := va_S.rf
  generalize hH0 : s9.heap = H at hP ⊢
  have hS : va_S (fun a => a ∈ zLC q) s9.heap H [] := by rw [hH0] at hS ⊢; exact hS
  generalize (lg_sl ([.ref (q 1)]) ++ List.replicate (1 - (lg_sl ([.ref (q 1)])).length) Slot.unset).toArray = ls at hl ⊢
  have hl : lv_has ls 1 [(0, .ref (q 1))] := hl
  refine lv_aload_n hx hb dX1_isFull_0 rfl (lv_at hl 0 rfl) ?_
  refine va_get (D := D) (ci := 1) (v := .int (zI (n : Int))) (C := RX1) (T := TX1) (N := 5) hx hb hts hin1 hown hK hP 1 rfl rfl 3 (by decide) (hts (.fieldLink RX1 25 "MourningRibbons$Family" "count" "I") (by decide +kernel)) (fun _ h9 => h9) rfl dX1_isFull_1 ?_
  refine zr_bipush hx hb dX1_isFull_4 (by decide) ?_
  refine zr_icmp_lt (tgt := 13) hx hb dX1_isFull_6 (by decide) ⟨by omega, by omega⟩ ⟨by decide, by decide⟩ (fun c_1 => ?_) (fun c_1 => ?_)
  · have c_1 := c_1
    refine zr_iconst hx hb dX1_isFull_13 ?_
    rw [hQ0]
    exact zret_z hx hb hr hlocks (rfl) ((bI_f (by omega)).symm) hP hS dX1_isFull_14
  · have c_1 := c_1
    refine zr_iconst hx hb dX1_isFull_9 ?_
    refine lv_goto (tgt := 14) hx hb dX1_isFull_10 (by decide) ?_
    rw [hQ0]
    exact zret_z hx hb hr hlocks (rfl) ((bI_t (by omega)).symm) hP hS dX1_isFull_14
set_option maxHeartbeats 4000000 in
set_option maxRecDepth 100000 in
theorem kX1_add (l : Launch) (D : va_G) (cI cZ : ClassId) (q : Nat → Nat) (hN : (zLC q).Nodup) (pa : Int → Int) (sp : Int → Int) (al : Int → Int) (dg : Int → Int) (co : Int → Int) (da : Int → Int) (mb : Int → Int) (dd : Int → Int) (ah : Int → Int) (wl : Int → Int) (lo : Int → Int) (n : Nat) (td : Int) (wn : Int) (f : Int) (h1 : n < 16) : zM l yX1_add wsX1_add ({ frames := 0, cells := 0, slots := 0, locals := 0 }) D [(cI, .int), (cZ, .boolean)] [.ref (q 1), .int (zI f)] (wC cI cZ q pa sp al dg co da mb dd ah wl lo n td wn) (wC cI cZ q (up pa (n : Int) f) (up sp (n : Int) (-1)) (up al (n : Int) 1) dg co da mb dd ah wl lo (n + 1) td wn) (some (.int (zI (n : Int)))) (zLC q) := by
  refine Met.ofW (cc := cX1_add) (maxL := 3) (ret := (some .int)) (by decide) rfl ?_
  intro p0 e9 s9 m9 ag9 below meth c9 s₁ B hml hv
  obtain ⟨hav, hP, hK⟩ := hv
  have hx := B.exec
  have hb := B.bytes
  have hr := B.returns
  have hts := atoms_spec (ws := wsX1_add) B.pre
  have hown : s9.vm.findClass RX1 = some m9.cls := findClass_of_methodNamed B.named
  have hlocks := B.notSynchronized
  have hA : ∀ a ∈ zLC q, (fun a => a ∈ zLC q) a := fun _ h => h
  have hin1 : ∀ w ∈ u_ws RX1 TX1 5, w ∈ wsX1_add := by decide +kernel
  have hl := lv_entry ([.ref (q 1), .int (zI f)]) (n := 3) (Nat.le_of_ble_eq_true rfl)
  have hE : entryFrame m9 ag9 3 = F0 m9 0 ((lg_sl ([.ref (q 1), .int (zI f)]) ++ List.replicate (3 - (lg_sl ([.ref (q 1), .int (zI f)])).length) Slot.unset).toArray) [] := by rw [hav]; exact lg_entry_eq m9 _ _
  obtain ⟨Q0, hQ0⟩ : ∃ Q0, Q0 = MQ below (zQ D (wC cI cZ q (up pa (n : Int) f) (up sp (n : Int) (-1)) (up al (n : Int) 1) dg co da mb dd ah wl lo (n + 1) td wn) (some (.int (zI (n : Int)))) (zLC q)) ag9 s9 0 0 (fun a => a ∈ zLC q) := ⟨_, rfl⟩
  show W p0 l e9 ({ frames := 0, cells := 0, slots := 0, locals := 0 }) s9 m9 ag9 below meth c9 s9.heap [] 0 0 (MQ below (zQ D (wC cI cZ q (up pa (n : Int) f) (up sp (n : Int) (-1)) (up al (n : Int) 1) dg co da mb dd ah wl lo (n + 1) td wn) (some (.int (zI (n : Int)))) (zLC q)) ag9 s9 0 0 (fun a => a ∈ zLC q)) _
  rw [hE, ← hQ0]
  have hS : va_S (fun a => a ∈ zLC q) s9.heap s9.heap [] := va_S.rf
  generalize hH0 : s9.heap = H at hP ⊢
  have hS : va_S (fun a => a ∈ zLC q) s9.heap H [] := by rw [hH0] at hS ⊢; exact hS
  generalize (lg_sl ([.ref (q 1), .int (zI f)]) ++ List.replicate (3 - (lg_sl ([.ref (q 1), .int (zI f)])).length) Slot.unset).toArray = ls at hl ⊢
  have hl : lv_has ls 3 [(0, .ref (q 1)), (1, .int (zI f))] := hl
  refine lv_aload_n hx hb dX1_add_0 rfl (lv_at hl 0 rfl) ?_
  refine va_get (D := D) (ci := 1) (v := .int (zI (n : Int))) (C := RX1) (T := TX1) (N := 5) hx hb hts hin1 hown hK hP 1 rfl rfl 3 (by decide) (hts (.fieldLink RX1 25 "MourningRibbons$Family" "count" "I") (by decide +kernel)) (fun _ h9 => h9) rfl dX1_add_1 ?_
  refine lv_istore_n (lv' := [(2, .int (zI (n : Int))), (0, .ref (q 1)), (1, .int (zI f))]) hx hb dX1_add_4 rfl hl (by decide) rfl (fun ls hl => ?_)
  refine lv_aload_n hx hb dX1_add_5 rfl (lv_at hl 1 rfl) ?_
  refine va_get (D := D) (ci := 1) (v := .ref (q 8)) (C := RX1) (T := TX1) (N := 5) hx hb hts hin1 hown hK hP 1 rfl rfl 0 (by decide) (hts (.fieldLink RX1 9 "MourningRibbons$Family" "parent" "[I") (by decide +kernel)) (fun _ h9 => h9) rfl dX1_add_6 ?_
  refine lv_iload_n hx hb dX1_add_9 rfl (lv_at hl 0 rfl) ?_
  refine lv_iload_n hx hb dX1_add_10 rfl (lv_at hl 2 rfl) ?_
  refine zr_iast (f := pa) (n := 16) hx hb hK hP hN rfl hA hS 8 0 rfl rfl (by decide) (i := (n : Int)) (x := f) (by omega) (by omega) dX1_add_11 (fun H locs hP hS => ?_)
  have hP : va_P D vwCl (wC cI cZ q (up pa (n : Int) f) sp al dg co da mb dd ah wl lo n td wn) H := hP
  refine lv_aload_n hx hb dX1_add_12 rfl (lv_at hl 1 rfl) ?_
  refine va_get (D := D) (ci := 1) (v := .ref (q 9)) (C := RX1) (T := TX1) (N := 5) hx hb hts hin1 hown hK hP 1 rfl rfl 1 (by decide) (hts (.fieldLink RX1 15 "MourningRibbons$Family" "spouse" "[I") (by decide +kernel)) (fun _ h9 => h9) rfl dX1_add_13 ?_
  refine lv_iload_n hx hb dX1_add_16 rfl (lv_at hl 0 rfl) ?_
  refine zr_iconst hx hb dX1_add_17 ?_
  refine zr_iast (f := sp) (n := 16) hx hb hK hP hN rfl hA hS 9 0 rfl rfl (by decide) (i := (n : Int)) (x := (-1)) (by omega) (by omega) dX1_add_18 (fun H locs hP hS => ?_)
  have hP : va_P D vwCl (wC cI cZ q (up pa (n : Int) f) (up sp (n : Int) (-1)) al dg co da mb dd ah wl lo n td wn) H := hP
  refine lv_aload_n hx hb dX1_add_19 rfl (lv_at hl 1 rfl) ?_
  refine va_get (D := D) (ci := 1) (v := .ref (q 10)) (C := RX1) (T := TX1) (N := 5) hx hb hts hin1 hown hK hP 1 rfl rfl 2 (by decide) (hts (.fieldLink RX1 18 "MourningRibbons$Family" "alive" "[Z") (by decide +kernel)) (fun _ h9 => h9) rfl dX1_add_20 ?_
  refine lv_iload_n hx hb dX1_add_23 rfl (lv_at hl 0 rfl) ?_
  refine zr_iconst hx hb dX1_add_24 ?_
  refine zr_zast (f := al) (n := 16) hx hb hK hP hN rfl hA hS 10 1 rfl rfl (by decide) (i := (n : Int)) (x := 1) rfl (by omega) (by omega) dX1_add_25 (fun H locs hP hS => ?_)
  have hP : va_P D vwCl (wC cI cZ q (up pa (n : Int) f) (up sp (n : Int) (-1)) (up al (n : Int) 1) dg co da mb dd ah wl lo n td wn) H := hP
  refine lv_aload_n hx hb dX1_add_26 rfl (lv_at hl 1 rfl) ?_
  refine lv_dup hx hb dX1_add_27 rfl ?_
  refine va_get (D := D) (ci := 1) (v := .int (zI (n : Int))) (C := RX1) (T := TX1) (N := 5) hx hb hts hin1 hown hK hP 1 rfl rfl 3 (by decide) (hts (.fieldLink RX1 25 "MourningRibbons$Family" "count" "I") (by decide +kernel)) (fun _ h9 => h9) rfl dX1_add_28 ?_
  refine zr_iconst hx hb dX1_add_31 ?_
  refine zr_iadd (v := (n : Int) + 1) hx hb rfl dX1_add_32 ?_
  refine va_put (D := D) (ci := 1) (v := .int (zI ((n : Int) + 1))) (ty := .int) (C := RX1) (T := TX1) (N := 5) hx hb hts hin1 tyX1 tyX1_ok nmX1 hown hK hP (zD hN rfl hA) hS 1 rfl rfl 3 (by decide) (hts (.fieldLink RX1 25 "MourningRibbons$Family" "count" "I") (by decide +kernel)) (fun _ h9 => h9) rfl (by decide +kernel) rfl rfl (Nat.le_of_ble_eq_true rfl) dX1_add_33 (fun H locs hP _ hS => ?_)
  have hP : va_P D vwCl (wC cI cZ q (up pa (n : Int) f) (up sp (n : Int) (-1)) (up al (n : Int) 1) dg co da mb dd ah wl lo (n + 1) td wn) H := hP
  refine lv_iload_n hx hb dX1_add_36 rfl (lv_at hl 0 rfl) ?_
  rw [hQ0]
  exact zret_i hx hb hr hlocks (rfl) hP hS dX1_add_37
set_option maxHeartbeats 4000000 in
set_option maxRecDepth 100000 in
theorem kX1_livingCount (l : Launch) (D : va_G) (cI cZ : ClassId) (q : Nat → Nat) (hN : (zLC q).Nodup) (pa : Int → Int) (sp : Int → Int) (al : Int → Int) (dg : Int → Int) (co : Int → Int) (da : Int → Int) (mb : Int → Int) (dd : Int → Int) (ah : Int → Int) (wl : Int → Int) (lo : Int → Int) (n : Nat) (td : Int) (wn : Int) (hn : n ≤ 16) (hal : ∀ j : Int, 0 ≤ al j ∧ al j ≤ 1) : zM l yX1_livingCount wsX1_livingCount ({ frames := 0, cells := 0, slots := 0, locals := 0 }) D [(cI, .int), (cZ, .boolean)] [.ref (q 1)] (wC cI cZ q pa sp al dg co da mb dd ah wl lo n td wn) (wC cI cZ q pa sp al dg co da mb dd ah wl lo n td wn) (some (.int (zI (smF al n)))) (zLC q) := by
  refine Met.ofW (cc := cX1_livingCount) (maxL := 3) (ret := (some .int)) (by decide) rfl ?_
  intro p0 e9 s9 m9 ag9 below meth c9 s₁ B hml hv
  obtain ⟨hav, hP, hK⟩ := hv
  have hx := B.exec
  have hb := B.bytes
  have hr := B.returns
  have hts := atoms_spec (ws := wsX1_livingCount) B.pre
  have hown : s9.vm.findClass RX1 = some m9.cls := findClass_of_methodNamed B.named
  have hlocks := B.notSynchronized
  have hA : ∀ a ∈ zLC q, (fun a => a ∈ zLC q) a := fun _ h => h
  have hin1 : ∀ w ∈ u_ws RX1 TX1 5, w ∈ wsX1_livingCount := by decide +kernel
  have hl := lv_entry ([.ref (q 1)]) (n := 3) (Nat.le_of_ble_eq_true rfl)
  have hE : entryFrame m9 ag9 3 = F0 m9 0 ((lg_sl ([.ref (q 1)]) ++ List.replicate (3 - (lg_sl ([.ref (q 1)])).length) Slot.unset).toArray) [] := by rw [hav]; exact lg_entry_eq m9 _ _
  obtain ⟨Q0, hQ0⟩ : ∃ Q0, Q0 = MQ below (zQ D (wC cI cZ q pa sp al dg co da mb dd ah wl lo n td wn) (some (.int (zI (smF al n)))) (zLC q)) ag9 s9 0 0 (fun a => a ∈ zLC q) := ⟨_, rfl⟩
  show W p0 l e9 ({ frames := 0, cells := 0, slots := 0, locals := 0 }) s9 m9 ag9 below meth c9 s9.heap [] 0 0 (MQ below (zQ D (wC cI cZ q pa sp al dg co da mb dd ah wl lo n td wn) (some (.int (zI (smF al n)))) (zLC q)) ag9 s9 0 0 (fun a => a ∈ zLC q)) _
  rw [hE, ← hQ0]
  have hS : va_S (fun a => a ∈ zLC q) s9.heap s9.heap [] := va_S.rf
  generalize hH0 : s9.heap = H at hP ⊢
  have hS : va_S (fun a => a ∈ zLC q) s9.heap H [] := by rw [hH0] at hS ⊢; exact hS
  generalize (lg_sl ([.ref (q 1)]) ++ List.replicate (3 - (lg_sl ([.ref (q 1)])).length) Slot.unset).toArray = ls at hl ⊢
  have hl : lv_has ls 3 [(0, .ref (q 1))] := hl
  refine zr_iconst hx hb dX1_livingCount_0 ?_
  refine lv_istore_n (lv' := [(1, .int (zI 0)), (0, .ref (q 1))]) hx hb dX1_livingCount_1 rfl hl (by decide) rfl (fun ls hl => ?_)
  refine zr_iconst hx hb dX1_livingCount_2 ?_
  refine lv_istore_n (lv' := [(2, .int (zI 0)), (1, .int (zI 0)), (0, .ref (q 1))]) hx hb dX1_livingCount_3 rfl hl (by decide) rfl (fun ls hl => ?_)
  have L4_1 : ∀ (kf i : Nat), i ≤ n → n - i < kf → ∀ (H : Heap) (locs : List Loc) (ls : Array Slot), va_P D vwCl (wC cI cZ q pa sp al dg co da mb dd ah wl lo n td wn) H → va_S (fun a => a ∈ zLC q) s9.heap H locs → lv_has ls 3 [(2, .int (zI (i : Int))), (1, .int (zI (smF al i))), (0, .ref (q 1))] → W p0 l e9 ({ frames := 0, cells := 0, slots := 0, locals := 0 }) s9 m9 ag9 below meth c9 H locs 0 0 Q0 (F0 m9 4 ls []) := by
    intro kf
    induction kf with
    | zero => intro i h1 h2; omega
    | succ kf ih =>
      intro i hi_i hk_i H locs ls hP hS hl
      have ih_i := ih
      clear ih
      refine lv_iload_n hx hb dX1_livingCount_4 rfl (lv_at hl 0 rfl) ?_
      refine lv_aload_n hx hb dX1_livingCount_5 rfl (lv_at hl 2 rfl) ?_
      refine va_get (D := D) (ci := 1) (v := .int (zI (n : Int))) (C := RX1) (T := TX1) (N := 5) hx hb hts hin1 hown hK hP 1 rfl rfl 3 (by decide) (hts (.fieldLink RX1 25 "MourningRibbons$Family" "count" "I") (by decide +kernel)) (fun _ h9 => h9) rfl dX1_livingCount_6 ?_
      refine zr_icmp_ge (tgt := 30) hx hb dX1_livingCount_9 (by decide) ⟨by omega, by omega⟩ ⟨by omega, by omega⟩ (fun c_2 => ?_) (fun c_2 => ?_)
      · have c_2 := c_2
        have x_3 : i = n := by omega
        try rw [x_3] at hP
        try rw [x_3] at hl
        refine lv_iload_n hx hb dX1_livingCount_30 rfl (lv_at hl 1 rfl) ?_
        rw [hQ0]
        exact zret_i hx hb hr hlocks (rfl) hP hS dX1_livingCount_31
      · have c_2 := c_2
        refine lv_aload_n hx hb dX1_livingCount_12 rfl (lv_at hl 2 rfl) ?_
        refine va_get (D := D) (ci := 1) (v := .ref (q 10)) (C := RX1) (T := TX1) (N := 5) hx hb hts hin1 hown hK hP 1 rfl rfl 2 (by decide) (hts (.fieldLink RX1 18 "MourningRibbons$Family" "alive" "[Z") (by decide +kernel)) (fun _ h9 => h9) rfl dX1_livingCount_13 ?_
        refine lv_iload_n hx hb dX1_livingCount_16 rfl (lv_at hl 0 rfl) ?_
        refine zr_zald (f := al) (n := 16) hx hb hK hP 10 1 rfl rfl (by decide) (i := (i : Int)) (by omega) (by omega) dX1_livingCount_17 ?_
        have b_4 := hal (i : Int)
        refine zr_if_eq (tgt := 24) hx hb dX1_livingCount_18 (by decide) ⟨by omega, by omega⟩ (fun c_5 => ?_) (fun c_5 => ?_)
        · have c_5 := c_5
          refine zr_iinc (v := (i : Int) + 1) (lv' := [(2, .int (zI ((i : Int) + 1))), (1, .int (zI (smF al i))), (0, .ref (q 1))]) hx hb dX1_livingCount_24 hl (k := 0) rfl rfl (by decide) rfl (fun ls hl => ?_)
          refine lv_goto (tgt := 4) hx hb dX1_livingCount_27 (by decide) ?_
          have hl := lv_sub hl (l' := [(2, .int (zI ((i : Int) + 1))), (1, .int (zI (smF al i))), (0, .ref (q 1))]) [0, 1, 2] rfl
          have e_6 : ((((i + 1) : Nat) : Int) : Int) = (i : Int) + 1 := by omega
          have e_7 : (smF al (i + 1) : Int) = smF al i := by rw [smF_s]; omega
          have hl : lv_has ls 3 [(2, .int (zI (((i + 1) : Nat) : Int))), (1, .int (zI (smF al (i + 1)))), (0, .ref (q 1))] := by rw [e_6, e_7]; exact hl
          exact ih_i (i + 1) (by omega) (by omega) _ _ _ hP hS hl
        · have c_5 := c_5
          refine zr_iinc (v := (smF al i) + 1) (lv' := [(1, .int (zI ((smF al i) + 1))), (2, .int (zI (i : Int))), (0, .ref (q 1))]) hx hb dX1_livingCount_21 hl (k := 1) rfl rfl (by decide) rfl (fun ls hl => ?_)
          refine zr_iinc (v := (i : Int) + 1) (lv' := [(2, .int (zI ((i : Int) + 1))), (1, .int (zI ((smF al i) + 1))), (0, .ref (q 1))]) hx hb dX1_livingCount_24 hl (k := 1) rfl rfl (by decide) rfl (fun ls hl => ?_)
          refine lv_goto (tgt := 4) hx hb dX1_livingCount_27 (by decide) ?_
          have hl := lv_sub hl (l' := [(2, .int (zI ((i : Int) + 1))), (1, .int (zI ((smF al i) + 1))), (0, .ref (q 1))]) [0, 1, 2] rfl
          have e_8 : ((((i + 1) : Nat) : Int) : Int) = (i : Int) + 1 := by omega
          have e_9 : (smF al (i + 1) : Int) = (smF al i) + 1 := by rw [smF_s]; omega
          have hl : lv_has ls 3 [(2, .int (zI (((i + 1) : Nat) : Int))), (1, .int (zI (smF al (i + 1)))), (0, .ref (q 1))] := by rw [e_8, e_9]; exact hl
          exact ih_i (i + 1) (by omega) (by omega) _ _ _ hP hS hl
  have hl := lv_sub hl (l' := [(2, .int (zI 0)), (1, .int (zI 0)), (0, .ref (q 1))]) [0, 1, 2] rfl
  have e_10 : (smF al 0 : Int) = 0 := rfl
  have hl : lv_has ls 3 [(2, .int (zI 0)), (1, .int (zI (smF al 0))), (0, .ref (q 1))] := by rw [e_10]; exact hl
  exact L4_1 (n + 1) 0 (Nat.zero_le _) (by omega) _ _ _ hP hS hl
set_option maxHeartbeats 4000000 in
set_option maxRecDepth 100000 in
theorem kX1_hasLivingSpouse (l : Launch) (D : va_G) (cI cZ : ClassId) (q : Nat → Nat) (hN : (zLC q).Nodup) (pa : Int → Int) (sp : Int → Int) (al : Int → Int) (dg : Int → Int) (co : Int → Int) (da : Int → Int) (mb : Int → Int) (dd : Int → Int) (ah : Int → Int) (wl : Int → Int) (lo : Int → Int) (n : Nat) (td : Int) (wn : Int) (hsp : ∀ j : Int, -1 ≤ sp j ∧ sp j ≤ 15) (hal : ∀ j : Int, 0 ≤ al j ∧ al j ≤ 1) (p : Int) (h1 : 0 ≤ p ∧ p < 16) : zM l yX1_hasLivingSpouse wsX1_hasLivingSpouse ({ frames := 0, cells := 0, slots := 0, locals := 0 }) D [(cI, .int), (cZ, .boolean)] [.ref (q 1), .int (zI p)] (wC cI cZ q pa sp al dg co da mb dd ah wl lo n td wn) (wC cI cZ q pa sp al dg co da mb dd ah wl lo n td wn) (some (.int (zI (bI (sp p ≠ -1 ∧ al (sp p) ≠ 0))))) (zLC q) := by
  refine Met.ofW (cc := cX1_hasLivingSpouse) (maxL := 2) (ret := (some .boolean)) (by decide) rfl ?_
  intro p0 e9 s9 m9 ag9 below meth c9 s₁ B hml hv
  obtain ⟨hav, hP, hK⟩ := hv
  have hx := B.exec
  have hb := B.bytes
  have hr := B.returns
  have hts := atoms_spec (ws := wsX1_hasLivingSpouse) B.pre
  have hown : s9.vm.findClass RX1 = some m9.cls := findClass_of_methodNamed B.named
  have hlocks := B.notSynchronized
  have hA : ∀ a ∈ zLC q, (fun a => a ∈ zLC q) a := fun _ h => h
  have hin1 : ∀ w ∈ u_ws RX1 TX1 5, w ∈ wsX1_hasLivingSpouse := by decide +kernel
  have hl := lv_entry ([.ref (q 1), .int (zI p)]) (n := 2) (Nat.le_of_ble_eq_true rfl)
  have hE : entryFrame m9 ag9 2 = F0 m9 0 ((lg_sl ([.ref (q 1), .int (zI p)]) ++ List.replicate (2 - (lg_sl ([.ref (q 1), .int (zI p)])).length) Slot.unset).toArray) [] := by rw [hav]; exact lg_entry_eq m9 _ _
  obtain ⟨Q0, hQ0⟩ : ∃ Q0, Q0 = MQ below (zQ D (wC cI cZ q pa sp al dg co da mb dd ah wl lo n td wn) (some (.int (zI (bI (sp p ≠ -1 ∧ al (sp p) ≠ 0))))) (zLC q)) ag9 s9 0 0 (fun a => a ∈ zLC q) := ⟨_, rfl⟩
  show W p0 l e9 ({ frames := 0, cells := 0, slots := 0, locals := 0 }) s9 m9 ag9 below meth c9 s9.heap [] 0 0 (MQ below (zQ D (wC cI cZ q pa sp al dg co da mb dd ah wl lo n td wn) (some (.int (zI (bI (sp p ≠ -1 ∧ al (sp p) ≠ 0))))) (zLC q)) ag9 s9 0 0 (fun a => a ∈ zLC q)) _
  rw [hE, ← hQ0]
  have hS : va_S (fun a => a ∈ zLC q) s9.heap s9.heap [] := va_S.rf
  generalize hH0 : s9.heap = H at hP ⊢
  have hS : va_S (fun a => a ∈ zLC q) s9.heap H [] := by rw [hH0] at hS ⊢; exact hS
  generalize (lg_sl ([.ref (q 1), .int (zI p)]) ++ List.replicate (2 - (lg_sl ([.ref (q 1), .int (zI p)])).length) Slot.unset).toArray = ls at hl ⊢
  have hl : lv_has ls 2 [(0, .ref (q 1)), (1, .int (zI p))] := hl
  refine lv_aload_n hx hb dX1_hasLivingSpouse_0 rfl (lv_at hl 0 rfl) ?_
  refine va_get (D := D) (ci := 1) (v := .ref (q 9)) (C := RX1) (T := TX1) (N := 5) hx hb hts hin1 hown hK hP 1 rfl rfl 1 (by decide) (hts (.fieldLink RX1 15 "MourningRibbons$Family" "spouse" "[I") (by decide +kernel)) (fun _ h9 => h9) rfl dX1_hasLivingSpouse_1 ?_
  refine lv_iload_n hx hb dX1_hasLivingSpouse_4 rfl (lv_at hl 1 rfl) ?_
  refine zr_iald (f := sp) (n := 16) hx hb hK hP 9 0 rfl rfl (by decide) (i := p) (by omega) (by omega) dX1_hasLivingSpouse_5 ?_
  have b_1 := hsp p
  refine zr_iconst hx hb dX1_hasLivingSpouse_6 ?_
  refine zr_icmp_eq (tgt := 28) hx hb dX1_hasLivingSpouse_7 (by decide) ⟨by omega, by omega⟩ ⟨by decide, by decide⟩ (fun c_2 => ?_) (fun c_2 => ?_)
  · have c_2 := c_2
    refine zr_iconst hx hb dX1_hasLivingSpouse_28 ?_
    rw [hQ0]
    exact zret_z hx hb hr hlocks (rfl) ((bI_f (by omega)).symm) hP hS dX1_hasLivingSpouse_29
  · have c_2 := c_2
    refine lv_aload_n hx hb dX1_hasLivingSpouse_10 rfl (lv_at hl 0 rfl) ?_
    refine va_get (D := D) (ci := 1) (v := .ref (q 10)) (C := RX1) (T := TX1) (N := 5) hx hb hts hin1 hown hK hP 1 rfl rfl 2 (by decide) (hts (.fieldLink RX1 18 "MourningRibbons$Family" "alive" "[Z") (by decide +kernel)) (fun _ h9 => h9) rfl dX1_hasLivingSpouse_11 ?_
    refine lv_aload_n hx hb dX1_hasLivingSpouse_14 rfl (lv_at hl 0 rfl) ?_
    refine va_get (D := D) (ci := 1) (v := .ref (q 9)) (C := RX1) (T := TX1) (N := 5) hx hb hts hin1 hown hK hP 1 rfl rfl 1 (by decide) (hts (.fieldLink RX1 15 "MourningRibbons$Family" "spouse" "[I") (by decide +kernel)) (fun _ h9 => h9) rfl dX1_hasLivingSpouse_15 ?_
    refine lv_iload_n hx hb dX1_hasLivingSpouse_18 rfl (lv_at hl 1 rfl) ?_
    refine zr_iald (f := sp) (n := 16) hx hb hK hP 9 0 rfl rfl (by decide) (i := p) (by omega) (by omega) dX1_hasLivingSpouse_19 ?_
    have b_3 := hsp p
    refine zr_zald (f := al) (n := 16) hx hb hK hP 10 1 rfl rfl (by decide) (i := sp p) (by omega) (by omega) dX1_hasLivingSpouse_20 ?_
    have b_4 := hal (sp p)
    refine zr_if_eq (tgt := 28) hx hb dX1_hasLivingSpouse_21 (by decide) ⟨by omega, by omega⟩ (fun c_5 => ?_) (fun c_5 => ?_)
    · have c_5 := c_5
      refine zr_iconst hx hb dX1_hasLivingSpouse_28 ?_
      rw [hQ0]
      exact zret_z hx hb hr hlocks (rfl) ((bI_f (by omega)).symm) hP hS dX1_hasLivingSpouse_29
    · have c_5 := c_5
      refine zr_iconst hx hb dX1_hasLivingSpouse_24 ?_
      refine lv_goto (tgt := 29) hx hb dX1_hasLivingSpouse_25 (by decide) ?_
      rw [hQ0]
      exact zret_z hx hb hr hlocks (rfl) ((bI_t (by omega)).symm) hP hS dX1_hasLivingSpouse_29
set_option maxHeartbeats 4000000 in
set_option maxRecDepth 100000 in
theorem kX1_leaveSpouse (l : Launch) (D : va_G) (cI cZ : ClassId) (q : Nat → Nat) (hN : (zLC q).Nodup) (pa : Int → Int) (sp : Int → Int) (al : Int → Int) (dg : Int → Int) (co : Int → Int) (da : Int → Int) (mb : Int → Int) (dd : Int → Int) (ah : Int → Int) (wl : Int → Int) (lo : Int → Int) (n : Nat) (td : Int) (wn : Int) (hsp : ∀ j : Int, -1 ≤ sp j ∧ sp j ≤ 15) (p : Int) (h1 : 0 ≤ p ∧ p < 16) : zM l yX1_leaveSpouse wsX1_leaveSpouse ({ frames := 0, cells := 0, slots := 0, locals := 0 }) D [(cI, .int), (cZ, .boolean)] [.ref (q 1), .int (zI p)] (wC cI cZ q pa sp al dg co da mb dd ah wl lo n td wn) (wC cI cZ q pa (lvS sp p) al dg co da mb dd ah wl lo n td wn) none (zLC q) := by
  refine Met.ofW (cc := cX1_leaveSpouse) (maxL := 2) (ret := none) (by decide) rfl ?_
  intro p0 e9 s9 m9 ag9 below meth c9 s₁ B hml hv
  obtain ⟨hav, hP, hK⟩ := hv
  have hx := B.exec
  have hb := B.bytes
  have hr := B.returns
  have hts := atoms_spec (ws := wsX1_leaveSpouse) B.pre
  have hown : s9.vm.findClass RX1 = some m9.cls := findClass_of_methodNamed B.named
  have hlocks := B.notSynchronized
  have hA : ∀ a ∈ zLC q, (fun a => a ∈ zLC q) a := fun _ h => h
  have hin1 : ∀ w ∈ u_ws RX1 TX1 5, w ∈ wsX1_leaveSpouse := by decide +kernel
  have hl := lv_entry ([.ref (q 1), .int (zI p)]) (n := 2) (Nat.le_of_ble_eq_true rfl)
  have hE : entryFrame m9 ag9 2 = F0 m9 0 ((lg_sl ([.ref (q 1), .int (zI p)]) ++ List.replicate (2 - (lg_sl ([.ref (q 1), .int (zI p)])).length) Slot.unset).toArray) [] := by rw [hav]; exact lg_entry_eq m9 _ _
  obtain ⟨Q0, hQ0⟩ : ∃ Q0, Q0 = MQ below (zQ D (wC cI cZ q pa (lvS sp p) al dg co da mb dd ah wl lo n td wn) none (zLC q)) ag9 s9 0 0 (fun a => a ∈ zLC q) := ⟨_, rfl⟩
  show W p0 l e9 ({ frames := 0, cells := 0, slots := 0, locals := 0 }) s9 m9 ag9 below meth c9 s9.heap [] 0 0 (MQ below (zQ D (wC cI cZ q pa (lvS sp p) al dg co da mb dd ah wl lo n td wn) none (zLC q)) ag9 s9 0 0 (fun a => a ∈ zLC q)) _
  rw [hE, ← hQ0]
  have hS : va_S (fun a => a ∈ zLC q) s9.heap s9.heap [] := va_S.rf
  generalize hH0 : s9.heap = H at hP ⊢
  have hS : va_S (fun a => a ∈ zLC q) s9.heap H [] := by rw [hH0] at hS ⊢; exact hS
  generalize (lg_sl ([.ref (q 1), .int (zI p)]) ++ List.replicate (2 - (lg_sl ([.ref (q 1), .int (zI p)])).length) Slot.unset).toArray = ls at hl ⊢
  have hl : lv_has ls 2 [(0, .ref (q 1)), (1, .int (zI p))] := hl
  refine lv_aload_n hx hb dX1_leaveSpouse_0 rfl (lv_at hl 0 rfl) ?_
  refine va_get (D := D) (ci := 1) (v := .ref (q 9)) (C := RX1) (T := TX1) (N := 5) hx hb hts hin1 hown hK hP 1 rfl rfl 1 (by decide) (hts (.fieldLink RX1 15 "MourningRibbons$Family" "spouse" "[I") (by decide +kernel)) (fun _ h9 => h9) rfl dX1_leaveSpouse_1 ?_
  refine lv_iload_n hx hb dX1_leaveSpouse_4 rfl (lv_at hl 1 rfl) ?_
  refine zr_iald (f := sp) (n := 16) hx hb hK hP 9 0 rfl rfl (by decide) (i := p) (by omega) (by omega) dX1_leaveSpouse_5 ?_
  have b_1 := hsp p
  refine zr_iconst hx hb dX1_leaveSpouse_6 ?_
  refine zr_icmp_eq (tgt := 22) hx hb dX1_leaveSpouse_7 (by decide) ⟨by omega, by omega⟩ ⟨by decide, by decide⟩ (fun c_2 => ?_) (fun c_2 => ?_)
  · have c_2 := c_2
    have e_3 : (lvS sp p : Int → Int) = sp := by unfold lvS; first | exact if_pos (by omega) | exact if_neg (by omega)
    have hP : va_P D vwCl (wC cI cZ q pa (lvS sp p) al dg co da mb dd ah wl lo n td wn) H := by rw [e_3]; exact hP
    rw [hQ0]
    exact zret_v hx hb hr hlocks hP hS dX1_leaveSpouse_22
  · have c_2 := c_2
    refine lv_aload_n hx hb dX1_leaveSpouse_10 rfl (lv_at hl 0 rfl) ?_
    refine va_get (D := D) (ci := 1) (v := .ref (q 9)) (C := RX1) (T := TX1) (N := 5) hx hb hts hin1 hown hK hP 1 rfl rfl 1 (by decide) (hts (.fieldLink RX1 15 "MourningRibbons$Family" "spouse" "[I") (by decide +kernel)) (fun _ h9 => h9) rfl dX1_leaveSpouse_11 ?_
    refine lv_aload_n hx hb dX1_leaveSpouse_14 rfl (lv_at hl 0 rfl) ?_
    refine va_get (D := D) (ci := 1) (v := .ref (q 9)) (C := RX1) (T := TX1) (N := 5) hx hb hts hin1 hown hK hP 1 rfl rfl 1 (by decide) (hts (.fieldLink RX1 15 "MourningRibbons$Family" "spouse" "[I") (by decide +kernel)) (fun _ h9 => h9) rfl dX1_leaveSpouse_15 ?_
    refine lv_iload_n hx hb dX1_leaveSpouse_18 rfl (lv_at hl 1 rfl) ?_
    refine zr_iald (f := sp) (n := 16) hx hb hK hP 9 0 rfl rfl (by decide) (i := p) (by omega) (by omega) dX1_leaveSpouse_19 ?_
    have b_4 := hsp p
    refine zr_iconst hx hb dX1_leaveSpouse_20 ?_
    refine zr_iast (f := sp) (n := 16) hx hb hK hP hN rfl hA hS 9 0 rfl rfl (by decide) (i := sp p) (x := (-1)) (by omega) (by omega) dX1_leaveSpouse_21 (fun H locs hP hS => ?_)
    have hP : va_P D vwCl (wC cI cZ q pa (up sp (sp p) (-1)) al dg co da mb dd ah wl lo n td wn) H := hP
    have e_5 : (lvS sp p : Int → Int) = up sp (sp p) (-1) := by unfold lvS; first | exact if_pos (by omega) | exact if_neg (by omega)
    have hP : va_P D vwCl (wC cI cZ q pa (lvS sp p) al dg co da mb dd ah wl lo n td wn) H := by rw [e_5]; exact hP
    rw [hQ0]
    exact zret_v hx hb hr hlocks hP hS dX1_leaveSpouse_22
set_option maxHeartbeats 4000000 in
set_option maxRecDepth 100000 in
theorem kX1_wed (l : Launch) (D : va_G) (cI cZ : ClassId) (q : Nat → Nat) (hN : (zLC q).Nodup) (pa : Int → Int) (sp : Int → Int) (al : Int → Int) (dg : Int → Int) (co : Int → Int) (da : Int → Int) (mb : Int → Int) (dd : Int → Int) (ah : Int → Int) (wl : Int → Int) (lo : Int → Int) (n : Nat) (td : Int) (wn : Int) (hsp : ∀ j : Int, -1 ≤ sp j ∧ sp j ≤ 15) (a : Int) (b : Int) (h1 : 0 ≤ a ∧ a < 16) (h2 : 0 ≤ b ∧ b < 16) : zM l yX1_wed wsX1_wed ({ frames := 1, cells := 0, slots := 0, locals := 21 }) D [(cI, .int), (cZ, .boolean)] [.ref (q 1), .int (zI a), .int (zI b)] (wC cI cZ q pa sp al dg co da mb dd ah wl lo n td wn) (wC cI cZ q pa (up (up (lvS (lvS sp a) b) a b) b a) al dg co da mb dd ah wl lo n td wn) none (zLC q) := by
  refine Met.ofW (cc := cX1_wed) (maxL := 3) (ret := none) (by decide) rfl ?_
  intro p0 e9 s9 m9 ag9 below meth c9 s₁ B hml hv
  obtain ⟨hav, hP, hK⟩ := hv
  have hx := B.exec
  have hb := B.bytes
  have hr := B.returns
  have hts := atoms_spec (ws := wsX1_wed) B.pre
  have hown : s9.vm.findClass RX1 = some m9.cls := findClass_of_methodNamed B.named
  have hlocks := B.notSynchronized
  have hA : ∀ a ∈ zLC q, (fun a => a ∈ zLC q) a := fun _ h => h
  have hin1 : ∀ w ∈ u_ws RX1 TX1 5, w ∈ wsX1_wed := by decide +kernel
  have hl := lv_entry ([.ref (q 1), .int (zI a), .int (zI b)]) (n := 3) (Nat.le_of_ble_eq_true rfl)
  have hE : entryFrame m9 ag9 3 = F0 m9 0 ((lg_sl ([.ref (q 1), .int (zI a), .int (zI b)]) ++ List.replicate (3 - (lg_sl ([.ref (q 1), .int (zI a), .int (zI b)])).length) Slot.unset).toArray) [] := by rw [hav]; exact lg_entry_eq m9 _ _
  obtain ⟨Q0, hQ0⟩ : ∃ Q0, Q0 = MQ below (zQ D (wC cI cZ q pa (up (up (lvS (lvS sp a) b) a b) b a) al dg co da mb dd ah wl lo n td wn) none (zLC q)) ag9 s9 0 0 (fun a => a ∈ zLC q) := ⟨_, rfl⟩
  show W p0 l e9 ({ frames := 1, cells := 0, slots := 0, locals := 21 }) s9 m9 ag9 below meth c9 s9.heap [] 0 0 (MQ below (zQ D (wC cI cZ q pa (up (up (lvS (lvS sp a) b) a b) b a) al dg co da mb dd ah wl lo n td wn) none (zLC q)) ag9 s9 0 0 (fun a => a ∈ zLC q)) _
  rw [hE, ← hQ0]
  have hS : va_S (fun a => a ∈ zLC q) s9.heap s9.heap [] := va_S.rf
  generalize hH0 : s9.heap = H at hP ⊢
  have hS : va_S (fun a => a ∈ zLC q) s9.heap H [] := by rw [hH0] at hS ⊢; exact hS
  generalize (lg_sl ([.ref (q 1), .int (zI a), .int (zI b)]) ++ List.replicate (3 - (lg_sl ([.ref (q 1), .int (zI a), .int (zI b)])).length) Slot.unset).toArray = ls at hl ⊢
  have hl : lv_has ls 3 [(0, .ref (q 1)), (1, .int (zI a)), (2, .int (zI b))] := hl
  refine lv_aload_n hx hb dX1_wed_0 rfl (lv_at hl 0 rfl) ?_
  refine lv_iload_n hx hb dX1_wed_1 rfl (lv_at hl 1 rfl) ?_
  refine zcallV (ci := 1) (q0 := 1) (cq := (RX1, TX1, 5)) (As := [.int (zI a)]) (rest := []) ⟨hx, hb, hml, hown, hts⟩ hK (kX1_leaveSpouse l D cI cZ q hN pa sp al dg co da mb dd ah wl lo n td wn hsp a (by omega)) (cwV 1 hts gX1_wed_X1_leaveSpouse rfl rfl rfl (by decide +kernel) ⟨Nat.le_of_ble_eq_true rfl, Nat.le_of_ble_eq_true rfl⟩) hP hS hA rfl rfl rfl hl.1 rfl (Nat.le_of_ble_eq_true rfl) dX1_wed_2 ⟨Nat.zero_le _, Nat.zero_le _⟩ (fun H locs hP hS _ _ => ?_)
  have g_1 : ∀ j : Int, -1 ≤ (lvS sp a) j ∧ (lvS sp a) j ≤ 15 := lvS_bd hsp a
  refine W.eq (g2 := F0 m9 5 ls []) rfl ?_
  refine lv_aload_n hx hb dX1_wed_5 rfl (lv_at hl 0 rfl) ?_
  refine lv_iload_n hx hb dX1_wed_6 rfl (lv_at hl 2 rfl) ?_
  refine zcallV (ci := 1) (q0 := 1) (cq := (RX1, TX1, 5)) (As := [.int (zI b)]) (rest := []) ⟨hx, hb, hml, hown, hts⟩ hK (kX1_leaveSpouse l D cI cZ q hN pa (lvS sp a) al dg co da mb dd ah wl lo n td wn g_1 b (by omega)) (cwV 1 hts gX1_wed_X1_leaveSpouse rfl rfl rfl (by decide +kernel) ⟨Nat.le_of_ble_eq_true rfl, Nat.le_of_ble_eq_true rfl⟩) hP hS hA rfl rfl rfl hl.1 rfl (Nat.le_of_ble_eq_true rfl) dX1_wed_7 ⟨Nat.zero_le _, Nat.zero_le _⟩ (fun H locs hP hS _ _ => ?_)
  have g_2 : ∀ j : Int, -1 ≤ (lvS (lvS sp a) b) j ∧ (lvS (lvS sp a) b) j ≤ 15 := lvS_bd g_1 b
  refine W.eq (g2 := F0 m9 10 ls []) rfl ?_
  refine lv_aload_n hx hb dX1_wed_10 rfl (lv_at hl 0 rfl) ?_
  refine va_get (D := D) (ci := 1) (v := .ref (q 9)) (C := RX1) (T := TX1) (N := 5) hx hb hts hin1 hown hK hP 1 rfl rfl 1 (by decide) (hts (.fieldLink RX1 15 "MourningRibbons$Family" "spouse" "[I") (by decide +kernel)) (fun _ h9 => h9) rfl dX1_wed_11 ?_
  refine lv_iload_n hx hb dX1_wed_14 rfl (lv_at hl 1 rfl) ?_
  refine lv_iload_n hx hb dX1_wed_15 rfl (lv_at hl 2 rfl) ?_
  refine zr_iast (f := lvS (lvS sp a) b) (n := 16) hx hb hK hP hN rfl hA hS 9 0 rfl rfl (by decide) (i := a) (x := b) (by omega) (by omega) dX1_wed_16 (fun H locs hP hS => ?_)
  have hP : va_P D vwCl (wC cI cZ q pa (up (lvS (lvS sp a) b) a b) al dg co da mb dd ah wl lo n td wn) H := hP
  refine lv_aload_n hx hb dX1_wed_17 rfl (lv_at hl 0 rfl) ?_
  refine va_get (D := D) (ci := 1) (v := .ref (q 9)) (C := RX1) (T := TX1) (N := 5) hx hb hts hin1 hown hK hP 1 rfl rfl 1 (by decide) (hts (.fieldLink RX1 15 "MourningRibbons$Family" "spouse" "[I") (by decide +kernel)) (fun _ h9 => h9) rfl dX1_wed_18 ?_
  refine lv_iload_n hx hb dX1_wed_21 rfl (lv_at hl 2 rfl) ?_
  refine lv_iload_n hx hb dX1_wed_22 rfl (lv_at hl 1 rfl) ?_
  refine zr_iast (f := up (lvS (lvS sp a) b) a b) (n := 16) hx hb hK hP hN rfl hA hS 9 0 rfl rfl (by decide) (i := b) (x := a) (by omega) (by omega) dX1_wed_23 (fun H locs hP hS => ?_)
  have hP : va_P D vwCl (wC cI cZ q pa (up (up (lvS (lvS sp a) b) a b) b a) al dg co da mb dd ah wl lo n td wn) H := hP
  rw [hQ0]
  exact zret_v hx hb hr hlocks hP hS dX1_wed_24
set_option maxHeartbeats 4000000 in
set_option maxRecDepth 100000 in
theorem kX1_isStep (l : Launch) (D : va_G) (cI cZ : ClassId) (q : Nat → Nat) (hN : (zLC q).Nodup) (pa : Int → Int) (sp : Int → Int) (al : Int → Int) (dg : Int → Int) (co : Int → Int) (da : Int → Int) (mb : Int → Int) (dd : Int → Int) (ah : Int → Int) (wl : Int → Int) (lo : Int → Int) (n : Nat) (td : Int) (wn : Int) (hpa : ∀ j : Int, -1 ≤ pa j ∧ pa j ≤ 15) (hsp : ∀ j : Int, -1 ≤ sp j ∧ sp j ≤ 15) (a : Int) (b : Int) (h1 : 0 ≤ a ∧ a < 16) (h2 : 0 ≤ b ∧ b < 16) : zM l yX1_isStep wsX1_isStep ({ frames := 0, cells := 0, slots := 0, locals := 0 }) D [(cI, .int), (cZ, .boolean)] [.ref (q 1), .int (zI a), .int (zI b)] (wC cI cZ q pa sp al dg co da mb dd ah wl lo n td wn) (wC cI cZ q pa sp al dg co da mb dd ah wl lo n td wn) (some (.int (zI (bI (stp pa sp a b))))) (zLC q) := by
  refine Met.ofW (cc := cX1_isStep) (maxL := 3) (ret := (some .boolean)) (by decide) rfl ?_
  intro p0 e9 s9 m9 ag9 below meth c9 s₁ B hml hv
  obtain ⟨hav, hP, hK⟩ := hv
  have hx := B.exec
  have hb := B.bytes
  have hr := B.returns
  have hts := atoms_spec (ws := wsX1_isStep) B.pre
  have hown : s9.vm.findClass RX1 = some m9.cls := findClass_of_methodNamed B.named
  have hlocks := B.notSynchronized
  have hA : ∀ a ∈ zLC q, (fun a => a ∈ zLC q) a := fun _ h => h
  have hin1 : ∀ w ∈ u_ws RX1 TX1 5, w ∈ wsX1_isStep := by decide +kernel
  have hl := lv_entry ([.ref (q 1), .int (zI a), .int (zI b)]) (n := 3) (Nat.le_of_ble_eq_true rfl)
  have hE : entryFrame m9 ag9 3 = F0 m9 0 ((lg_sl ([.ref (q 1), .int (zI a), .int (zI b)]) ++ List.replicate (3 - (lg_sl ([.ref (q 1), .int (zI a), .int (zI b)])).length) Slot.unset).toArray) [] := by rw [hav]; exact lg_entry_eq m9 _ _
  obtain ⟨Q0, hQ0⟩ : ∃ Q0, Q0 = MQ below (zQ D (wC cI cZ q pa sp al dg co da mb dd ah wl lo n td wn) (some (.int (zI (bI (stp pa sp a b))))) (zLC q)) ag9 s9 0 0 (fun a => a ∈ zLC q) := ⟨_, rfl⟩
  show W p0 l e9 ({ frames := 0, cells := 0, slots := 0, locals := 0 }) s9 m9 ag9 below meth c9 s9.heap [] 0 0 (MQ below (zQ D (wC cI cZ q pa sp al dg co da mb dd ah wl lo n td wn) (some (.int (zI (bI (stp pa sp a b))))) (zLC q)) ag9 s9 0 0 (fun a => a ∈ zLC q)) _
  rw [hE, ← hQ0]
  have hS : va_S (fun a => a ∈ zLC q) s9.heap s9.heap [] := va_S.rf
  generalize hH0 : s9.heap = H at hP ⊢
  have hS : va_S (fun a => a ∈ zLC q) s9.heap H [] := by rw [hH0] at hS ⊢; exact hS
  generalize (lg_sl ([.ref (q 1), .int (zI a), .int (zI b)]) ++ List.replicate (3 - (lg_sl ([.ref (q 1), .int (zI a), .int (zI b)])).length) Slot.unset).toArray = ls at hl ⊢
  have hl : lv_has ls 3 [(0, .ref (q 1)), (1, .int (zI a)), (2, .int (zI b))] := hl
  refine lv_aload_n hx hb dX1_isStep_0 rfl (lv_at hl 0 rfl) ?_
  refine va_get (D := D) (ci := 1) (v := .ref (q 8)) (C := RX1) (T := TX1) (N := 5) hx hb hts hin1 hown hK hP 1 rfl rfl 0 (by decide) (hts (.fieldLink RX1 9 "MourningRibbons$Family" "parent" "[I") (by decide +kernel)) (fun _ h9 => h9) rfl dX1_isStep_1 ?_
  refine lv_iload_n hx hb dX1_isStep_4 rfl (lv_at hl 1 rfl) ?_
  refine zr_iald (f := pa) (n := 16) hx hb hK hP 8 0 rfl rfl (by decide) (i := a) (by omega) (by omega) dX1_isStep_5 ?_
  have b_1 := hpa a
  refine lv_iload_n hx hb dX1_isStep_6 rfl (lv_at hl 2 rfl) ?_
  refine zr_icmp_eq (tgt := 30) hx hb dX1_isStep_7 (by decide) ⟨by omega, by omega⟩ ⟨by omega, by omega⟩ (fun c_2 => ?_) (fun c_2 => ?_)
  · have c_2 := c_2
    refine zr_iconst hx hb dX1_isStep_30 ?_
    refine lv_goto (tgt := 35) hx hb dX1_isStep_31 (by decide) ?_
    rw [hQ0]
    exact zret_z hx hb hr hlocks (rfl) ((bI_t (show stp pa sp a b from by unfold stp; omega)).symm) hP hS dX1_isStep_35
  · have c_2 := c_2
    refine lv_aload_n hx hb dX1_isStep_10 rfl (lv_at hl 0 rfl) ?_
    refine va_get (D := D) (ci := 1) (v := .ref (q 8)) (C := RX1) (T := TX1) (N := 5) hx hb hts hin1 hown hK hP 1 rfl rfl 0 (by decide) (hts (.fieldLink RX1 9 "MourningRibbons$Family" "parent" "[I") (by decide +kernel)) (fun _ h9 => h9) rfl dX1_isStep_11 ?_
    refine lv_iload_n hx hb dX1_isStep_14 rfl (lv_at hl 2 rfl) ?_
    refine zr_iald (f := pa) (n := 16) hx hb hK hP 8 0 rfl rfl (by decide) (i := b) (by omega) (by omega) dX1_isStep_15 ?_
    have b_3 := hpa b
    refine lv_iload_n hx hb dX1_isStep_16 rfl (lv_at hl 1 rfl) ?_
    refine zr_icmp_eq (tgt := 30) hx hb dX1_isStep_17 (by decide) ⟨by omega, by omega⟩ ⟨by omega, by omega⟩ (fun c_4 => ?_) (fun c_4 => ?_)
    · have c_4 := c_4
      refine zr_iconst hx hb dX1_isStep_30 ?_
      refine lv_goto (tgt := 35) hx hb dX1_isStep_31 (by decide) ?_
      rw [hQ0]
      exact zret_z hx hb hr hlocks (rfl) ((bI_t (show stp pa sp a b from by unfold stp; omega)).symm) hP hS dX1_isStep_35
    · have c_4 := c_4
      refine lv_aload_n hx hb dX1_isStep_20 rfl (lv_at hl 0 rfl) ?_
      refine va_get (D := D) (ci := 1) (v := .ref (q 9)) (C := RX1) (T := TX1) (N := 5) hx hb hts hin1 hown hK hP 1 rfl rfl 1 (by decide) (hts (.fieldLink RX1 15 "MourningRibbons$Family" "spouse" "[I") (by decide +kernel)) (fun _ h9 => h9) rfl dX1_isStep_21 ?_
      refine lv_iload_n hx hb dX1_isStep_24 rfl (lv_at hl 1 rfl) ?_
      refine zr_iald (f := sp) (n := 16) hx hb hK hP 9 0 rfl rfl (by decide) (i := a) (by omega) (by omega) dX1_isStep_25 ?_
      have b_5 := hsp a
      refine lv_iload_n hx hb dX1_isStep_26 rfl (lv_at hl 2 rfl) ?_
      refine zr_icmp_ne (tgt := 34) hx hb dX1_isStep_27 (by decide) ⟨by omega, by omega⟩ ⟨by omega, by omega⟩ (fun c_6 => ?_) (fun c_6 => ?_)
      · have c_6 := c_6
        refine zr_iconst hx hb dX1_isStep_34 ?_
        rw [hQ0]
        exact zret_z hx hb hr hlocks (rfl) ((bI_f (show ¬ stp pa sp a b from by unfold stp; omega)).symm) hP hS dX1_isStep_35
      · have c_6 := c_6
        refine zr_iconst hx hb dX1_isStep_30 ?_
        refine lv_goto (tgt := 35) hx hb dX1_isStep_31 (by decide) ?_
        rw [hQ0]
        exact zret_z hx hb hr hlocks (rfl) ((bI_t (show stp pa sp a b from by unfold stp; omega)).symm) hP hS dX1_isStep_35
set_option maxHeartbeats 4000000 in
set_option maxRecDepth 100000 in
theorem kX1_reachFrom (l : Launch) (D : va_G) (cI cZ : ClassId) (q : Nat → Nat) (hN : (zLC q).Nodup) (pa : Int → Int) (sp : Int → Int) (al : Int → Int) (dg : Int → Int) (co : Int → Int) (da : Int → Int) (mb : Int → Int) (dd : Int → Int) (ah : Int → Int) (wl : Int → Int) (lo : Int → Int) (n : Nat) (td : Int) (wn : Int) (hpa : ∀ j : Int, -1 ≤ pa j ∧ pa j ≤ 15) (hsp : ∀ j : Int, -1 ≤ sp j ∧ sp j ≤ 15) (hdg : ∀ j : Int, 0 ≤ dg j ∧ dg j ≤ 4) (hn : n ≤ 16) (s : Int) (f : Int) (g : Int) (h1 : 0 ≤ s ∧ s < 16) (h2 : 0 ≤ f ∧ f < 16) (h3 : 0 ≤ g ∧ g ≤ 4) : zM l yX1_reachFrom wsX1_reachFrom ({ frames := 1, cells := 0, slots := 0, locals := 22 }) D [(cI, .int), (cZ, .boolean)] [.ref (q 1), .int (zI s), .int (zI f), .int (zI g)] (wC cI cZ q pa sp al dg co da mb dd ah wl lo n td wn) (wC cI cZ q pa sp al (rchF pa sp dg s f g n) co da mb dd ah wl lo n td wn) none (zLC q) := by
  refine Met.ofW (cc := cX1_reachFrom) (maxL := 5) (ret := none) (by decide) rfl ?_
  intro p0 e9 s9 m9 ag9 below meth c9 s₁ B hml hv
  obtain ⟨hav, hP, hK⟩ := hv
  have hx := B.exec
  have hb := B.bytes
  have hr := B.returns
  have hts := atoms_spec (ws := wsX1_reachFrom) B.pre
  have hown : s9.vm.findClass RX1 = some m9.cls := findClass_of_methodNamed B.named
  have hlocks := B.notSynchronized
  have hA : ∀ a ∈ zLC q, (fun a => a ∈ zLC q) a := fun _ h => h
  have hin1 : ∀ w ∈ u_ws RX1 TX1 5, w ∈ wsX1_reachFrom := by decide +kernel
  have hl := lv_entry ([.ref (q 1), .int (zI s), .int (zI f), .int (zI g)]) (n := 5) (Nat.le_of_ble_eq_true rfl)
  have hE : entryFrame m9 ag9 5 = F0 m9 0 ((lg_sl ([.ref (q 1), .int (zI s), .int (zI f), .int (zI g)]) ++ List.replicate (5 - (lg_sl ([.ref (q 1), .int (zI s), .int (zI f), .int (zI g)])).length) Slot.unset).toArray) [] := by rw [hav]; exact lg_entry_eq m9 _ _
  obtain ⟨Q0, hQ0⟩ : ∃ Q0, Q0 = MQ below (zQ D (wC cI cZ q pa sp al (rchF pa sp dg s f g n) co da mb dd ah wl lo n td wn) none (zLC q)) ag9 s9 0 0 (fun a => a ∈ zLC q) := ⟨_, rfl⟩
  show W p0 l e9 ({ frames := 1, cells := 0, slots := 0, locals := 22 }) s9 m9 ag9 below meth c9 s9.heap [] 0 0 (MQ below (zQ D (wC cI cZ q pa sp al (rchF pa sp dg s f g n) co da mb dd ah wl lo n td wn) none (zLC q)) ag9 s9 0 0 (fun a => a ∈ zLC q)) _
  rw [hE, ← hQ0]
  have hS : va_S (fun a => a ∈ zLC q) s9.heap s9.heap [] := va_S.rf
  generalize hH0 : s9.heap = H at hP ⊢
  have hS : va_S (fun a => a ∈ zLC q) s9.heap H [] := by rw [hH0] at hS ⊢; exact hS
  generalize (lg_sl ([.ref (q 1), .int (zI s), .int (zI f), .int (zI g)]) ++ List.replicate (5 - (lg_sl ([.ref (q 1), .int (zI s), .int (zI f), .int (zI g)])).length) Slot.unset).toArray = ls at hl ⊢
  have hl : lv_has ls 5 [(0, .ref (q 1)), (1, .int (zI s)), (2, .int (zI f)), (3, .int (zI g))] := hl
  refine zr_iconst hx hb dX1_reachFrom_0 ?_
  refine lv_istore (lv' := [(4, .int (zI 0)), (0, .ref (q 1)), (1, .int (zI s)), (2, .int (zI f)), (3, .int (zI g))]) hx hb dX1_reachFrom_1 hl (by decide) rfl (fun ls hl => ?_)
  have L3_1 : ∀ (kf i : Nat), i ≤ n → n - i < kf → ∀ (H : Heap) (locs : List Loc) (ls : Array Slot), va_P D vwCl (wC cI cZ q pa sp al (rchF pa sp dg s f g i) co da mb dd ah wl lo n td wn) H → va_S (fun a => a ∈ zLC q) s9.heap H locs → lv_has ls 5 [(4, .int (zI (i : Int))), (0, .ref (q 1)), (1, .int (zI s)), (2, .int (zI f)), (3, .int (zI g))] → W p0 l e9 ({ frames := 1, cells := 0, slots := 0, locals := 22 }) s9 m9 ag9 below meth c9 H locs 0 0 Q0 (F0 m9 3 ls []) := by
    intro kf
    induction kf with
    | zero => intro i h1 h2; omega
    | succ kf ih =>
      intro i hi_i hk_i H locs ls hP hS hl
      have ih_i := ih
      clear ih
      refine lv_iload hx hb dX1_reachFrom_3 (lv_at hl 0 rfl) ?_
      refine lv_aload_n hx hb dX1_reachFrom_5 rfl (lv_at hl 1 rfl) ?_
      refine va_get (D := D) (ci := 1) (v := .int (zI (n : Int))) (C := RX1) (T := TX1) (N := 5) hx hb hts hin1 hown hK hP 1 rfl rfl 3 (by decide) (hts (.fieldLink RX1 25 "MourningRibbons$Family" "count" "I") (by decide +kernel)) (fun _ h9 => h9) rfl dX1_reachFrom_6 ?_
      refine zr_icmp_ge (tgt := 52) hx hb dX1_reachFrom_9 (by decide) ⟨by omega, by omega⟩ ⟨by omega, by omega⟩ (fun c_2 => ?_) (fun c_2 => ?_)
      · have c_2 := c_2
        have x_3 : i = n := by omega
        try rw [x_3] at hP
        try rw [x_3] at hl
        rw [hQ0]
        exact zret_v hx hb hr hlocks hP hS dX1_reachFrom_52
      · have c_2 := c_2
        refine lv_iload hx hb dX1_reachFrom_12 (lv_at hl 0 rfl) ?_
        refine lv_iload_n hx hb dX1_reachFrom_14 rfl (lv_at hl 2 rfl) ?_
        refine zr_icmp_eq (tgt := 46) hx hb dX1_reachFrom_15 (by decide) ⟨by omega, by omega⟩ ⟨by omega, by omega⟩ (fun c_4 => ?_) (fun c_4 => ?_)
        · have c_4 := c_4
          refine zr_iinc (v := (i : Int) + 1) (lv' := [(4, .int (zI ((i : Int) + 1))), (0, .ref (q 1)), (1, .int (zI s)), (2, .int (zI f)), (3, .int (zI g))]) hx hb dX1_reachFrom_46 hl (k := 0) rfl rfl (by decide) rfl (fun ls hl => ?_)
          refine lv_goto (tgt := 3) hx hb dX1_reachFrom_49 (by decide) ?_
          have hl := lv_sub hl (l' := [(4, .int (zI ((i : Int) + 1))), (0, .ref (q 1)), (1, .int (zI s)), (2, .int (zI f)), (3, .int (zI g))]) [0, 1, 2, 3, 4] rfl
          have e_5 : ((((i + 1) : Nat) : Int) : Int) = (i : Int) + 1 := by omega
          have hl : lv_has ls 5 [(4, .int (zI (((i + 1) : Nat) : Int))), (0, .ref (q 1)), (1, .int (zI s)), (2, .int (zI f)), (3, .int (zI g))] := by rw [e_5]; exact hl
          have e_6 : (rchF pa sp dg s f g (i + 1) : Int → Int) = rchF pa sp dg s f g i := by first | exact rchF_y (by omega) (by have := rchF_k (pa := pa) (sp := sp) (dg := dg) (s := s) (f := f) (g := g) (k := i); omega) (by assumption) | (refine rchF_n (fun hh => ?_); have hk9 := rchF_k (pa := pa) (sp := sp) (dg := dg) (s := s) (f := f) (g := g) (k := i); first | exact absurd hh.2.2 (by assumption) | omega)
          have hP : va_P D vwCl (wC cI cZ q pa sp al (rchF pa sp dg s f g (i + 1)) co da mb dd ah wl lo n td wn) H := by rw [e_6]; exact hP
          exact ih_i (i + 1) (by omega) (by omega) _ _ _ hP hS hl
        · have c_4 := c_4
          refine lv_aload_n hx hb dX1_reachFrom_18 rfl (lv_at hl 1 rfl) ?_
          refine va_get (D := D) (ci := 1) (v := .ref (q 11)) (C := RX1) (T := TX1) (N := 5) hx hb hts hin1 hown hK hP 1 rfl rfl 4 (by decide) (hts (.fieldLink RX1 22 "MourningRibbons$Family" "degrees" "[I") (by decide +kernel)) (fun _ h9 => h9) rfl dX1_reachFrom_19 ?_
          refine lv_iload hx hb dX1_reachFrom_22 (lv_at hl 0 rfl) ?_
          refine zr_iald (f := rchF pa sp dg s f g i) (n := 16) hx hb hK hP 11 0 rfl rfl (by decide) (i := (i : Int)) (by omega) (by omega) dX1_reachFrom_24 ?_
          have b_7 := (rchF_bd (pa := pa) (sp := sp) (s := s) (f := f) (k := i) hdg h3) (i : Int)
          refine zr_if_ne (tgt := 46) hx hb dX1_reachFrom_25 (by decide) ⟨by omega, by omega⟩ (fun c_8 => ?_) (fun c_8 => ?_)
          · have c_8 := c_8
            refine zr_iinc (v := (i : Int) + 1) (lv' := [(4, .int (zI ((i : Int) + 1))), (0, .ref (q 1)), (1, .int (zI s)), (2, .int (zI f)), (3, .int (zI g))]) hx hb dX1_reachFrom_46 hl (k := 0) rfl rfl (by decide) rfl (fun ls hl => ?_)
            refine lv_goto (tgt := 3) hx hb dX1_reachFrom_49 (by decide) ?_
            have hl := lv_sub hl (l' := [(4, .int (zI ((i : Int) + 1))), (0, .ref (q 1)), (1, .int (zI s)), (2, .int (zI f)), (3, .int (zI g))]) [0, 1, 2, 3, 4] rfl
            have e_9 : ((((i + 1) : Nat) : Int) : Int) = (i : Int) + 1 := by omega
            have hl : lv_has ls 5 [(4, .int (zI (((i + 1) : Nat) : Int))), (0, .ref (q 1)), (1, .int (zI s)), (2, .int (zI f)), (3, .int (zI g))] := by rw [e_9]; exact hl
            have e_10 : (rchF pa sp dg s f g (i + 1) : Int → Int) = rchF pa sp dg s f g i := by first | exact rchF_y (by omega) (by have := rchF_k (pa := pa) (sp := sp) (dg := dg) (s := s) (f := f) (g := g) (k := i); omega) (by assumption) | (refine rchF_n (fun hh => ?_); have hk9 := rchF_k (pa := pa) (sp := sp) (dg := dg) (s := s) (f := f) (g := g) (k := i); first | exact absurd hh.2.2 (by assumption) | omega)
            have hP : va_P D vwCl (wC cI cZ q pa sp al (rchF pa sp dg s f g (i + 1)) co da mb dd ah wl lo n td wn) H := by rw [e_10]; exact hP
            exact ih_i (i + 1) (by omega) (by omega) _ _ _ hP hS hl
          · have c_8 := c_8
            refine lv_aload_n hx hb dX1_reachFrom_28 rfl (lv_at hl 1 rfl) ?_
            refine lv_iload_n hx hb dX1_reachFrom_29 rfl (lv_at hl 3 rfl) ?_
            refine lv_iload hx hb dX1_reachFrom_30 (lv_at hl 0 rfl) ?_
            refine zcallV (ci := 1) (q0 := 1) (cq := (RX1, TX1, 5)) (As := [.int (zI f), .int (zI (i : Int))]) (rest := []) ⟨hx, hb, hml, hown, hts⟩ hK (kX1_isStep l D cI cZ q hN pa sp al (rchF pa sp dg s f g i) co da mb dd ah wl lo n td wn hpa hsp f (i : Int) (by omega) (by omega)) (cwV 2 hts gX1_reachFrom_X1_isStep rfl rfl rfl (by decide +kernel) ⟨Nat.le_of_ble_eq_true rfl, Nat.le_of_ble_eq_true rfl⟩) hP hS hA rfl rfl rfl hl.1 rfl (Nat.le_of_ble_eq_true rfl) dX1_reachFrom_32 ⟨Nat.zero_le _, Nat.zero_le _⟩ (fun H locs hP hS _ _ => ?_)
            refine W.eq (g2 := F0 m9 35 ls [.int (zI (bI (stp pa sp f (i : Int))))]) rfl ?_
            refine zr_if_eq (tgt := 46) hx hb dX1_reachFrom_35 (by decide) (bI_rg _) (fun c_11 => ?_) (fun c_11 => ?_)
            · have c_11 := bI_z c_11
              refine zr_iinc (v := (i : Int) + 1) (lv' := [(4, .int (zI ((i : Int) + 1))), (0, .ref (q 1)), (1, .int (zI s)), (2, .int (zI f)), (3, .int (zI g))]) hx hb dX1_reachFrom_46 hl (k := 0) rfl rfl (by decide) rfl (fun ls hl => ?_)
              refine lv_goto (tgt := 3) hx hb dX1_reachFrom_49 (by decide) ?_
              have hl := lv_sub hl (l' := [(4, .int (zI ((i : Int) + 1))), (0, .ref (q 1)), (1, .int (zI s)), (2, .int (zI f)), (3, .int (zI g))]) [0, 1, 2, 3, 4] rfl
              have e_12 : ((((i + 1) : Nat) : Int) : Int) = (i : Int) + 1 := by omega
              have hl : lv_has ls 5 [(4, .int (zI (((i + 1) : Nat) : Int))), (0, .ref (q 1)), (1, .int (zI s)), (2, .int (zI f)), (3, .int (zI g))] := by rw [e_12]; exact hl
              have e_13 : (rchF pa sp dg s f g (i + 1) : Int → Int) = rchF pa sp dg s f g i := by first | exact rchF_y (by omega) (by have := rchF_k (pa := pa) (sp := sp) (dg := dg) (s := s) (f := f) (g := g) (k := i); omega) (by assumption) | (refine rchF_n (fun hh => ?_); have hk9 := rchF_k (pa := pa) (sp := sp) (dg := dg) (s := s) (f := f) (g := g) (k := i); first | exact absurd hh.2.2 (by assumption) | omega)
              have hP : va_P D vwCl (wC cI cZ q pa sp al (rchF pa sp dg s f g (i + 1)) co da mb dd ah wl lo n td wn) H := by rw [e_13]; exact hP
              exact ih_i (i + 1) (by omega) (by omega) _ _ _ hP hS hl
            · have c_11 := bI_n c_11
              refine lv_aload_n hx hb dX1_reachFrom_38 rfl (lv_at hl 1 rfl) ?_
              refine va_get (D := D) (ci := 1) (v := .ref (q 11)) (C := RX1) (T := TX1) (N := 5) hx hb hts hin1 hown hK hP 1 rfl rfl 4 (by decide) (hts (.fieldLink RX1 22 "MourningRibbons$Family" "degrees" "[I") (by decide +kernel)) (fun _ h9 => h9) rfl dX1_reachFrom_39 ?_
              refine lv_iload hx hb dX1_reachFrom_42 (lv_at hl 0 rfl) ?_
              refine lv_iload_n hx hb dX1_reachFrom_44 rfl (lv_at hl 4 rfl) ?_
              refine zr_iast (f := rchF pa sp dg s f g i) (n := 16) hx hb hK hP hN rfl hA hS 11 0 rfl rfl (by decide) (i := (i : Int)) (x := g) (by omega) (by omega) dX1_reachFrom_45 (fun H locs hP hS => ?_)
              have hP : va_P D vwCl (wC cI cZ q pa sp al (up (rchF pa sp dg s f g i) (i : Int) g) co da mb dd ah wl lo n td wn) H := hP
              refine zr_iinc (v := (i : Int) + 1) (lv' := [(4, .int (zI ((i : Int) + 1))), (0, .ref (q 1)), (1, .int (zI s)), (2, .int (zI f)), (3, .int (zI g))]) hx hb dX1_reachFrom_46 hl (k := 0) rfl rfl (by decide) rfl (fun ls hl => ?_)
              refine lv_goto (tgt := 3) hx hb dX1_reachFrom_49 (by decide) ?_
              have hl := lv_sub hl (l' := [(4, .int (zI ((i : Int) + 1))), (0, .ref (q 1)), (1, .int (zI s)), (2, .int (zI f)), (3, .int (zI g))]) [0, 1, 2, 3, 4] rfl
              have e_14 : ((((i + 1) : Nat) : Int) : Int) = (i : Int) + 1 := by omega
              have hl : lv_has ls 5 [(4, .int (zI (((i + 1) : Nat) : Int))), (0, .ref (q 1)), (1, .int (zI s)), (2, .int (zI f)), (3, .int (zI g))] := by rw [e_14]; exact hl
              have e_15 : (rchF pa sp dg s f g (i + 1) : Int → Int) = up (rchF pa sp dg s f g i) (i : Int) g := by first | exact rchF_y (by omega) (by have := rchF_k (pa := pa) (sp := sp) (dg := dg) (s := s) (f := f) (g := g) (k := i); omega) (by assumption) | (refine rchF_n (fun hh => ?_); have hk9 := rchF_k (pa := pa) (sp := sp) (dg := dg) (s := s) (f := f) (g := g) (k := i); first | exact absurd hh.2.2 (by assumption) | omega)
              have hP : va_P D vwCl (wC cI cZ q pa sp al (rchF pa sp dg s f g (i + 1)) co da mb dd ah wl lo n td wn) H := by rw [e_15]; exact hP
              exact ih_i (i + 1) (by omega) (by omega) _ _ _ hP hS hl
  have hl := lv_sub hl (l' := [(4, .int (zI 0)), (0, .ref (q 1)), (1, .int (zI s)), (2, .int (zI f)), (3, .int (zI g))]) [0, 1, 2, 3, 4] rfl
  have e_16 : (rchF pa sp dg s f g 0 : Int → Int) = dg := rchF_0 pa sp dg s f g
  have hP : va_P D vwCl (wC cI cZ q pa sp al (rchF pa sp dg s f g 0) co da mb dd ah wl lo n td wn) H := by rw [e_16]; exact hP
  exact L3_1 (n + 1) 0 (Nat.zero_le _) (by omega) _ _ _ hP hS hl
set_option maxHeartbeats 4000000 in
set_option maxRecDepth 100000 in
theorem kX1_findDegrees (l : Launch) (D : va_G) (cI cZ : ClassId) (q : Nat → Nat) (hN : (zLC q).Nodup) (pa : Int → Int) (sp : Int → Int) (al : Int → Int) (dg : Int → Int) (co : Int → Int) (da : Int → Int) (mb : Int → Int) (dd : Int → Int) (ah : Int → Int) (wl : Int → Int) (lo : Int → Int) (n : Nat) (td : Int) (wn : Int) (hpa : ∀ j : Int, -1 ≤ pa j ∧ pa j ≤ 15) (hsp : ∀ j : Int, -1 ≤ sp j ∧ sp j ≤ 15) (hn : n ≤ 16) (s : Int) (h1 : 0 ≤ s ∧ s < 16) : zM l yX1_findDegrees wsX1_findDegrees ({ frames := 2, cells := 0, slots := 0, locals := 46 }) D [(cI, .int), (cZ, .boolean)] [.ref (q 1), .int (zI s)] (wC cI cZ q pa sp al dg co da mb dd ah wl lo n td wn) (wC cI cZ q pa sp al (dgF pa sp n s) co da mb dd ah wl lo n td wn) none (zLC q) := by
  refine Met.ofW (cc := cX1_findDegrees) (maxL := 4) (ret := none) (by decide) rfl ?_
  intro p0 e9 s9 m9 ag9 below meth c9 s₁ B hml hv
  obtain ⟨hav, hP, hK⟩ := hv
  have hx := B.exec
  have hb := B.bytes
  have hr := B.returns
  have hts := atoms_spec (ws := wsX1_findDegrees) B.pre
  have hown : s9.vm.findClass RX1 = some m9.cls := findClass_of_methodNamed B.named
  have hlocks := B.notSynchronized
  have hA : ∀ a ∈ zLC q, (fun a => a ∈ zLC q) a := fun _ h => h
  have hin1 : ∀ w ∈ u_ws RX1 TX1 5, w ∈ wsX1_findDegrees := by decide +kernel
  have hl := lv_entry ([.ref (q 1), .int (zI s)]) (n := 4) (Nat.le_of_ble_eq_true rfl)
  have hE : entryFrame m9 ag9 4 = F0 m9 0 ((lg_sl ([.ref (q 1), .int (zI s)]) ++ List.replicate (4 - (lg_sl ([.ref (q 1), .int (zI s)])).length) Slot.unset).toArray) [] := by rw [hav]; exact lg_entry_eq m9 _ _
  obtain ⟨Q0, hQ0⟩ : ∃ Q0, Q0 = MQ below (zQ D (wC cI cZ q pa sp al (dgF pa sp n s) co da mb dd ah wl lo n td wn) none (zLC q)) ag9 s9 0 0 (fun a => a ∈ zLC q) := ⟨_, rfl⟩
  show W p0 l e9 ({ frames := 2, cells := 0, slots := 0, locals := 46 }) s9 m9 ag9 below meth c9 s9.heap [] 0 0 (MQ below (zQ D (wC cI cZ q pa sp al (dgF pa sp n s) co da mb dd ah wl lo n td wn) none (zLC q)) ag9 s9 0 0 (fun a => a ∈ zLC q)) _
  rw [hE, ← hQ0]
  have hS : va_S (fun a => a ∈ zLC q) s9.heap s9.heap [] := va_S.rf
  generalize hH0 : s9.heap = H at hP ⊢
  have hS : va_S (fun a => a ∈ zLC q) s9.heap H [] := by rw [hH0] at hS ⊢; exact hS
  generalize (lg_sl ([.ref (q 1), .int (zI s)]) ++ List.replicate (4 - (lg_sl ([.ref (q 1), .int (zI s)])).length) Slot.unset).toArray = ls at hl ⊢
  have hl : lv_has ls 4 [(0, .ref (q 1)), (1, .int (zI s))] := hl
  refine lv_aload_n hx hb dX1_findDegrees_0 rfl (lv_at hl 0 rfl) ?_
  refine va_get (D := D) (ci := 1) (v := .ref (q 11)) (C := RX1) (T := TX1) (N := 5) hx hb hts hin1 hown hK hP 1 rfl rfl 4 (by decide) (hts (.fieldLink RX1 22 "MourningRibbons$Family" "degrees" "[I") (by decide +kernel)) (fun _ h9 => h9) rfl dX1_findDegrees_1 ?_
  refine zr_iconst hx hb dX1_findDegrees_4 ?_
  refine zcallS (As := [.ref (q 11), .int (zI 0)]) (rest := []) ⟨hx, hb, hml, hown, hts⟩ hK (kJ7_fill l D (tys := [(cI, .int), (cZ, .boolean)]) (w := (wC cI cZ q pa sp al dg co da mb dd ah wl lo n td wn)) (L := zLC q) 11 0 (a := q 11) (cA := cI) (n := 16) (f := dg) 0 rfl rfl hN rfl (by decide)) (va_cwS 2 hts gX1_findDegrees_J7_fill_53178 rfl rfl rfl (by decide +kernel) ⟨Nat.le_of_ble_eq_true rfl, Nat.le_of_ble_eq_true rfl⟩) hP hS hA rfl hl.1 rfl (Nat.le_of_ble_eq_true rfl) dX1_findDegrees_5 ⟨Nat.zero_le _, Nat.zero_le _⟩ (fun H locs hP hS _ _ => ?_)
  have hP : va_P D vwCl (wC cI cZ q pa sp al (cst 0) co da mb dd ah wl lo n td wn) H := zcg (f := fun j => if 0 ≤ j ∧ j < 16 then 0 else dg j) (g := cst 0) hP 11 rfl (fun j h0 h1 => if_pos ⟨h0, h1⟩)
  refine W.eq (g2 := F0 m9 8 ls []) rfl ?_
  refine lv_aload_n hx hb dX1_findDegrees_8 rfl (lv_at hl 0 rfl) ?_
  refine lv_iload_n hx hb dX1_findDegrees_9 rfl (lv_at hl 1 rfl) ?_
  refine lv_iload_n hx hb dX1_findDegrees_10 rfl (lv_at hl 1 rfl) ?_
  refine zr_iconst hx hb dX1_findDegrees_11 ?_
  refine zcallV (ci := 1) (q0 := 1) (cq := (RX1, TX1, 5)) (As := [.int (zI s), .int (zI s), .int (zI 1)]) (rest := []) ⟨hx, hb, hml, hown, hts⟩ hK (kX1_reachFrom l D cI cZ q hN pa sp al (cst 0) co da mb dd ah wl lo n td wn hpa hsp (cst_bd ⟨by decide, by decide⟩) hn s s 1 (by omega) (by omega) (by omega)) (cwV 3 hts gX1_findDegrees_X1_reachFrom rfl rfl rfl (by decide +kernel) ⟨Nat.le_of_ble_eq_true rfl, Nat.le_of_ble_eq_true rfl⟩) hP hS hA rfl rfl rfl hl.1 rfl (Nat.le_of_ble_eq_true rfl) dX1_findDegrees_12 ⟨Nat.zero_le _, Nat.zero_le _⟩ (fun H locs hP hS _ _ => ?_)
  have g_1 : ∀ j : Int, 0 ≤ (rchF pa sp (cst 0) s s 1 n) j ∧ (rchF pa sp (cst 0) s s 1 n) j ≤ 4 := rchF_bd (cst_bd ⟨by decide, by decide⟩) (by omega)
  refine W.eq (g2 := F0 m9 15 ls []) rfl ?_
  refine zr_iconst hx hb dX1_findDegrees_15 ?_
  refine lv_istore_n (lv' := [(2, .int (zI 2)), (0, .ref (q 1)), (1, .int (zI s))]) hx hb dX1_findDegrees_16 rfl hl (by decide) rfl (fun ls hl => ?_)
  refine lv_iload_n hx hb dX1_findDegrees_17 rfl (lv_at hl 0 rfl) ?_
  refine zr_iconst hx hb dX1_findDegrees_18 ?_
  refine zr_icmp_gt (tgt := 63) hx hb dX1_findDegrees_19 (by decide) ⟨by decide, by decide⟩ ⟨by decide, by decide⟩ (fun c_2 => by exfalso; revert c_2; decide) (fun c_2 => ?_)
  have hdg9 : ∀ j : Int, 0 ≤ (rchF pa sp (cst 0) s s 1 n) j ∧ (rchF pa sp (cst 0) s s 1 n) j ≤ 4 := dg1_bd pa sp n s
  refine zr_iconst hx hb dX1_findDegrees_22 ?_
  refine lv_istore_n (lv' := [(3, .int (zI 0)), (2, .int (zI 2)), (0, .ref (q 1)), (1, .int (zI s))]) hx hb dX1_findDegrees_23 rfl hl (by decide) rfl (fun ls hl => ?_)
  have L24_3 : ∀ (kf i : Nat), i ≤ n → n - i < kf → ∀ (H : Heap) (locs : List Loc) (ls : Array Slot), va_P D vwCl (wC cI cZ q pa sp al (rdF pa sp n s 2 (rchF pa sp (cst 0) s s 1 n) i) co da mb dd ah wl lo n td wn) H → va_S (fun a => a ∈ zLC q) s9.heap H locs → lv_has ls 4 [(3, .int (zI (i : Int))), (2, .int (zI 2)), (0, .ref (q 1)), (1, .int (zI s))] → W p0 l e9 ({ frames := 2, cells := 0, slots := 0, locals := 46 }) s9 m9 ag9 below meth c9 H locs 0 0 Q0 (F0 m9 24 ls []) := by
    intro kf
    induction kf with
    | zero => intro i h1 h2; omega
    | succ kf ih =>
      intro i hi_i hk_i H locs ls hP hS hl
      have ih_i := ih
      clear ih
      refine lv_iload_n hx hb dX1_findDegrees_24 rfl (lv_at hl 0 rfl) ?_
      refine lv_aload_n hx hb dX1_findDegrees_25 rfl (lv_at hl 2 rfl) ?_
      refine va_get (D := D) (ci := 1) (v := .int (zI (n : Int))) (C := RX1) (T := TX1) (N := 5) hx hb hts hin1 hown hK hP 1 rfl rfl 3 (by decide) (hts (.fieldLink RX1 25 "MourningRibbons$Family" "count" "I") (by decide +kernel)) (fun _ h9 => h9) rfl dX1_findDegrees_26 ?_
      refine zr_icmp_ge (tgt := 57) hx hb dX1_findDegrees_29 (by decide) ⟨by omega, by omega⟩ ⟨by omega, by omega⟩ (fun c_4 => ?_) (fun c_4 => ?_)
      · have c_4 := c_4
        have x_5 : i = n := by omega
        try rw [x_5] at hP
        try rw [x_5] at hl
        refine zr_iinc (v := 3) (lv' := [(2, .int (zI 3)), (3, .int (zI (n : Int))), (0, .ref (q 1)), (1, .int (zI s))]) hx hb dX1_findDegrees_57 hl (k := 1) rfl (by decide) (by decide) rfl (fun ls hl => ?_)
        refine lv_goto (tgt := 17) hx hb dX1_findDegrees_60 (by decide) ?_
        refine lv_iload_n hx hb dX1_findDegrees_17 rfl (lv_at hl 0 rfl) ?_
        refine zr_iconst hx hb dX1_findDegrees_18 ?_
        refine zr_icmp_gt (tgt := 63) hx hb dX1_findDegrees_19 (by decide) ⟨by decide, by decide⟩ ⟨by decide, by decide⟩ (fun c_6 => by exfalso; revert c_6; decide) (fun c_6 => ?_)
        have hdg9 : ∀ j : Int, 0 ≤ (rdF pa sp n s 2 (rchF pa sp (cst 0) s s 1 n) n) j ∧ (rdF pa sp n s 2 (rchF pa sp (cst 0) s s 1 n) n) j ≤ 4 := dg2_bd pa sp n s
        refine zr_iconst hx hb dX1_findDegrees_22 ?_
        refine lv_istore_n (lv' := [(3, .int (zI 0)), (2, .int (zI 3)), (0, .ref (q 1)), (1, .int (zI s))]) hx hb dX1_findDegrees_23 rfl hl (by decide) rfl (fun ls hl => ?_)
        have L24_7 : ∀ (kf i : Nat), i ≤ n → n - i < kf → ∀ (H : Heap) (locs : List Loc) (ls : Array Slot), va_P D vwCl (wC cI cZ q pa sp al (rdF pa sp n s 3 (rdF pa sp n s 2 (rchF pa sp (cst 0) s s 1 n) n) i) co da mb dd ah wl lo n td wn) H → va_S (fun a => a ∈ zLC q) s9.heap H locs → lv_has ls 4 [(3, .int (zI (i : Int))), (2, .int (zI 3)), (0, .ref (q 1)), (1, .int (zI s))] → W p0 l e9 ({ frames := 2, cells := 0, slots := 0, locals := 46 }) s9 m9 ag9 below meth c9 H locs 0 0 Q0 (F0 m9 24 ls []) := by
          intro kf
          induction kf with
          | zero => intro i h1 h2; omega
          | succ kf ih =>
            intro i hi_i hk_i H locs ls hP hS hl
            have ih_i := ih
            clear ih
            refine lv_iload_n hx hb dX1_findDegrees_24 rfl (lv_at hl 0 rfl) ?_
            refine lv_aload_n hx hb dX1_findDegrees_25 rfl (lv_at hl 2 rfl) ?_
            refine va_get (D := D) (ci := 1) (v := .int (zI (n : Int))) (C := RX1) (T := TX1) (N := 5) hx hb hts hin1 hown hK hP 1 rfl rfl 3 (by decide) (hts (.fieldLink RX1 25 "MourningRibbons$Family" "count" "I") (by decide +kernel)) (fun _ h9 => h9) rfl dX1_findDegrees_26 ?_
            refine zr_icmp_ge (tgt := 57) hx hb dX1_findDegrees_29 (by decide) ⟨by omega, by omega⟩ ⟨by omega, by omega⟩ (fun c_8 => ?_) (fun c_8 => ?_)
            · have c_8 := c_8
              have x_9 : i = n := by omega
              try rw [x_9] at hP
              try rw [x_9] at hl
              refine zr_iinc (v := 4) (lv' := [(2, .int (zI 4)), (3, .int (zI (n : Int))), (0, .ref (q 1)), (1, .int (zI s))]) hx hb dX1_findDegrees_57 hl (k := 1) rfl (by decide) (by decide) rfl (fun ls hl => ?_)
              refine lv_goto (tgt := 17) hx hb dX1_findDegrees_60 (by decide) ?_
              refine lv_iload_n hx hb dX1_findDegrees_17 rfl (lv_at hl 0 rfl) ?_
              refine zr_iconst hx hb dX1_findDegrees_18 ?_
              refine zr_icmp_gt (tgt := 63) hx hb dX1_findDegrees_19 (by decide) ⟨by decide, by decide⟩ ⟨by decide, by decide⟩ (fun c_10 => by exfalso; revert c_10; decide) (fun c_10 => ?_)
              have hdg9 : ∀ j : Int, 0 ≤ (rdF pa sp n s 3 (rdF pa sp n s 2 (rchF pa sp (cst 0) s s 1 n) n) n) j ∧ (rdF pa sp n s 3 (rdF pa sp n s 2 (rchF pa sp (cst 0) s s 1 n) n) n) j ≤ 4 := dg3_bd pa sp n s
              refine zr_iconst hx hb dX1_findDegrees_22 ?_
              refine lv_istore_n (lv' := [(3, .int (zI 0)), (2, .int (zI 4)), (0, .ref (q 1)), (1, .int (zI s))]) hx hb dX1_findDegrees_23 rfl hl (by decide) rfl (fun ls hl => ?_)
              have L24_11 : ∀ (kf i : Nat), i ≤ n → n - i < kf → ∀ (H : Heap) (locs : List Loc) (ls : Array Slot), va_P D vwCl (wC cI cZ q pa sp al (rdF pa sp n s 4 (rdF pa sp n s 3 (rdF pa sp n s 2 (rchF pa sp (cst 0) s s 1 n) n) n) i) co da mb dd ah wl lo n td wn) H → va_S (fun a => a ∈ zLC q) s9.heap H locs → lv_has ls 4 [(3, .int (zI (i : Int))), (2, .int (zI 4)), (0, .ref (q 1)), (1, .int (zI s))] → W p0 l e9 ({ frames := 2, cells := 0, slots := 0, locals := 46 }) s9 m9 ag9 below meth c9 H locs 0 0 Q0 (F0 m9 24 ls []) := by
                intro kf
                induction kf with
                | zero => intro i h1 h2; omega
                | succ kf ih =>
                  intro i hi_i hk_i H locs ls hP hS hl
                  have ih_i := ih
                  clear ih
                  refine lv_iload_n hx hb dX1_findDegrees_24 rfl (lv_at hl 0 rfl) ?_
                  refine lv_aload_n hx hb dX1_findDegrees_25 rfl (lv_at hl 2 rfl) ?_
                  refine va_get (D := D) (ci := 1) (v := .int (zI (n : Int))) (C := RX1) (T := TX1) (N := 5) hx hb hts hin1 hown hK hP 1 rfl rfl 3 (by decide) (hts (.fieldLink RX1 25 "MourningRibbons$Family" "count" "I") (by decide +kernel)) (fun _ h9 => h9) rfl dX1_findDegrees_26 ?_
                  refine zr_icmp_ge (tgt := 57) hx hb dX1_findDegrees_29 (by decide) ⟨by omega, by omega⟩ ⟨by omega, by omega⟩ (fun c_12 => ?_) (fun c_12 => ?_)
                  · have c_12 := c_12
                    have x_13 : i = n := by omega
                    try rw [x_13] at hP
                    try rw [x_13] at hl
                    refine zr_iinc (v := 5) (lv' := [(2, .int (zI 5)), (3, .int (zI (n : Int))), (0, .ref (q 1)), (1, .int (zI s))]) hx hb dX1_findDegrees_57 hl (k := 1) rfl (by decide) (by decide) rfl (fun ls hl => ?_)
                    refine lv_goto (tgt := 17) hx hb dX1_findDegrees_60 (by decide) ?_
                    refine lv_iload_n hx hb dX1_findDegrees_17 rfl (lv_at hl 0 rfl) ?_
                    refine zr_iconst hx hb dX1_findDegrees_18 ?_
                    refine zr_icmp_gt (tgt := 63) hx hb dX1_findDegrees_19 (by decide) ⟨by decide, by decide⟩ ⟨by decide, by decide⟩ (fun c_14 => ?_) (fun c_14 => by exfalso; revert c_14; decide)
                    have e_15 : (dgF pa sp n s : Int → Int) = rdF pa sp n s 4 (rdF pa sp n s 3 (rdF pa sp n s 2 (rchF pa sp (cst 0) s s 1 n) n) n) n := rfl
                    have hP : va_P D vwCl (wC cI cZ q pa sp al (dgF pa sp n s) co da mb dd ah wl lo n td wn) H := by rw [e_15]; exact hP
                    rw [hQ0]
                    exact zret_v hx hb hr hlocks hP hS dX1_findDegrees_63
                  · have c_12 := c_12
                    refine lv_aload_n hx hb dX1_findDegrees_32 rfl (lv_at hl 2 rfl) ?_
                    refine va_get (D := D) (ci := 1) (v := .ref (q 11)) (C := RX1) (T := TX1) (N := 5) hx hb hts hin1 hown hK hP 1 rfl rfl 4 (by decide) (hts (.fieldLink RX1 22 "MourningRibbons$Family" "degrees" "[I") (by decide +kernel)) (fun _ h9 => h9) rfl dX1_findDegrees_33 ?_
                    refine lv_iload_n hx hb dX1_findDegrees_36 rfl (lv_at hl 0 rfl) ?_
                    refine zr_iald (f := rdF pa sp n s 4 (rdF pa sp n s 3 (rdF pa sp n s 2 (rchF pa sp (cst 0) s s 1 n) n) n) i) (n := 16) hx hb hK hP 11 0 rfl rfl (by decide) (i := (i : Int)) (by omega) (by omega) dX1_findDegrees_37 ?_
                    have b_16 := (rdF_bd (pa := pa) (sp := sp) (n := n) (s := s) (g := 4) hdg9 ⟨by decide, by decide⟩ i) (i : Int)
                    refine lv_iload_n hx hb dX1_findDegrees_38 rfl (lv_at hl 1 rfl) ?_
                    refine zr_iconst hx hb dX1_findDegrees_39 ?_
                    refine zr_isub (v := 3) hx hb (by decide) dX1_findDegrees_40 ?_
                    refine zr_icmp_ne (tgt := 51) hx hb dX1_findDegrees_41 (by decide) ⟨by omega, by omega⟩ ⟨by decide, by decide⟩ (fun c_17 => ?_) (fun c_17 => ?_)
                    · have c_17 := c_17
                      refine zr_iinc (v := (i : Int) + 1) (lv' := [(3, .int (zI ((i : Int) + 1))), (2, .int (zI 4)), (0, .ref (q 1)), (1, .int (zI s))]) hx hb dX1_findDegrees_51 hl (k := 0) rfl rfl (by decide) rfl (fun ls hl => ?_)
                      refine lv_goto (tgt := 24) hx hb dX1_findDegrees_54 (by decide) ?_
                      have hl := lv_sub hl (l' := [(3, .int (zI ((i : Int) + 1))), (2, .int (zI 4)), (0, .ref (q 1)), (1, .int (zI s))]) [0, 1, 2, 3] rfl
                      have e_18 : ((((i + 1) : Nat) : Int) : Int) = (i : Int) + 1 := by omega
                      have hl : lv_has ls 4 [(3, .int (zI (((i + 1) : Nat) : Int))), (2, .int (zI 4)), (0, .ref (q 1)), (1, .int (zI s))] := by rw [e_18]; exact hl
                      have e_19 : (rdF pa sp n s 4 (rdF pa sp n s 3 (rdF pa sp n s 2 (rchF pa sp (cst 0) s s 1 n) n) n) (i + 1) : Int → Int) = rdF pa sp n s 4 (rdF pa sp n s 3 (rdF pa sp n s 2 (rchF pa sp (cst 0) s s 1 n) n) n) i := by first | exact rdF_y (by omega) | exact rdF_n (by omega)
                      have hP : va_P D vwCl (wC cI cZ q pa sp al (rdF pa sp n s 4 (rdF pa sp n s 3 (rdF pa sp n s 2 (rchF pa sp (cst 0) s s 1 n) n) n) (i + 1)) co da mb dd ah wl lo n td wn) H := by rw [e_19]; exact hP
                      exact ih_i (i + 1) (by omega) (by omega) _ _ _ hP hS hl
                    · have c_17 := c_17
                      refine lv_aload_n hx hb dX1_findDegrees_44 rfl (lv_at hl 2 rfl) ?_
                      refine lv_iload_n hx hb dX1_findDegrees_45 rfl (lv_at hl 3 rfl) ?_
                      refine lv_iload_n hx hb dX1_findDegrees_46 rfl (lv_at hl 0 rfl) ?_
                      refine lv_iload_n hx hb dX1_findDegrees_47 rfl (lv_at hl 1 rfl) ?_
                      refine zcallV (ci := 1) (q0 := 1) (cq := (RX1, TX1, 5)) (As := [.int (zI s), .int (zI (i : Int)), .int (zI 4)]) (rest := []) ⟨hx, hb, hml, hown, hts⟩ hK (kX1_reachFrom l D cI cZ q hN pa sp al (rdF pa sp n s 4 (rdF pa sp n s 3 (rdF pa sp n s 2 (rchF pa sp (cst 0) s s 1 n) n) n) i) co da mb dd ah wl lo n td wn hpa hsp (rdF_bd (pa := pa) (sp := sp) (n := n) (s := s) (g := 4) hdg9 ⟨by decide, by decide⟩ i) hn s (i : Int) 4 (by omega) (by omega) (by omega)) (cwV 3 hts gX1_findDegrees_X1_reachFrom rfl rfl rfl (by decide +kernel) ⟨Nat.le_of_ble_eq_true rfl, Nat.le_of_ble_eq_true rfl⟩) hP hS hA rfl rfl rfl hl.1 rfl (Nat.le_of_ble_eq_true rfl) dX1_findDegrees_48 ⟨Nat.zero_le _, Nat.zero_le _⟩ (fun H locs hP hS _ _ => ?_)
                      have g_20 : ∀ j : Int, 0 ≤ (rchF pa sp (rdF pa sp n s 4 (rdF pa sp n s 3 (rdF pa sp n s 2 (rchF pa sp (cst 0) s s 1 n) n) n) i) s (i : Int) 4 n) j ∧ (rchF pa sp (rdF pa sp n s 4 (rdF pa sp n s 3 (rdF pa sp n s 2 (rchF pa sp (cst 0) s s 1 n) n) n) i) s (i : Int) 4 n) j ≤ 4 := rchF_bd (rdF_bd (pa := pa) (sp := sp) (n := n) (s := s) (g := 4) hdg9 ⟨by decide, by decide⟩ i) (by omega)
                      refine W.eq (g2 := F0 m9 51 ls []) rfl ?_
                      refine zr_iinc (v := (i : Int) + 1) (lv' := [(3, .int (zI ((i : Int) + 1))), (2, .int (zI 4)), (0, .ref (q 1)), (1, .int (zI s))]) hx hb dX1_findDegrees_51 hl (k := 0) rfl rfl (by decide) rfl (fun ls hl => ?_)
                      refine lv_goto (tgt := 24) hx hb dX1_findDegrees_54 (by decide) ?_
                      have hl := lv_sub hl (l' := [(3, .int (zI ((i : Int) + 1))), (2, .int (zI 4)), (0, .ref (q 1)), (1, .int (zI s))]) [0, 1, 2, 3] rfl
                      have e_21 : ((((i + 1) : Nat) : Int) : Int) = (i : Int) + 1 := by omega
                      have hl : lv_has ls 4 [(3, .int (zI (((i + 1) : Nat) : Int))), (2, .int (zI 4)), (0, .ref (q 1)), (1, .int (zI s))] := by rw [e_21]; exact hl
                      have e_22 : (rdF pa sp n s 4 (rdF pa sp n s 3 (rdF pa sp n s 2 (rchF pa sp (cst 0) s s 1 n) n) n) (i + 1) : Int → Int) = rchF pa sp (rdF pa sp n s 4 (rdF pa sp n s 3 (rdF pa sp n s 2 (rchF pa sp (cst 0) s s 1 n) n) n) i) s (i : Int) 4 n := by first | exact rdF_y (by omega) | exact rdF_n (by omega)
                      have hP : va_P D vwCl (wC cI cZ q pa sp al (rdF pa sp n s 4 (rdF pa sp n s 3 (rdF pa sp n s 2 (rchF pa sp (cst 0) s s 1 n) n) n) (i + 1)) co da mb dd ah wl lo n td wn) H := by rw [e_22]; exact hP
                      exact ih_i (i + 1) (by omega) (by omega) _ _ _ hP hS hl
              have hl := lv_sub hl (l' := [(3, .int (zI 0)), (2, .int (zI 4)), (0, .ref (q 1)), (1, .int (zI s))]) [0, 1, 2, 3] rfl
              have e_23 : (rdF pa sp n s 4 (rdF pa sp n s 3 (rdF pa sp n s 2 (rchF pa sp (cst 0) s s 1 n) n) n) 0 : Int → Int) = rdF pa sp n s 3 (rdF pa sp n s 2 (rchF pa sp (cst 0) s s 1 n) n) n := rfl
              have hP : va_P D vwCl (wC cI cZ q pa sp al (rdF pa sp n s 4 (rdF pa sp n s 3 (rdF pa sp n s 2 (rchF pa sp (cst 0) s s 1 n) n) n) 0) co da mb dd ah wl lo n td wn) H := by rw [e_23]; exact hP
              exact L24_11 (n + 1) 0 (Nat.zero_le _) (by omega) _ _ _ hP hS hl
            · have c_8 := c_8
              refine lv_aload_n hx hb dX1_findDegrees_32 rfl (lv_at hl 2 rfl) ?_
              refine va_get (D := D) (ci := 1) (v := .ref (q 11)) (C := RX1) (T := TX1) (N := 5) hx hb hts hin1 hown hK hP 1 rfl rfl 4 (by decide) (hts (.fieldLink RX1 22 "MourningRibbons$Family" "degrees" "[I") (by decide +kernel)) (fun _ h9 => h9) rfl dX1_findDegrees_33 ?_
              refine lv_iload_n hx hb dX1_findDegrees_36 rfl (lv_at hl 0 rfl) ?_
              refine zr_iald (f := rdF pa sp n s 3 (rdF pa sp n s 2 (rchF pa sp (cst 0) s s 1 n) n) i) (n := 16) hx hb hK hP 11 0 rfl rfl (by decide) (i := (i : Int)) (by omega) (by omega) dX1_findDegrees_37 ?_
              have b_24 := (rdF_bd (pa := pa) (sp := sp) (n := n) (s := s) (g := 3) hdg9 ⟨by decide, by decide⟩ i) (i : Int)
              refine lv_iload_n hx hb dX1_findDegrees_38 rfl (lv_at hl 1 rfl) ?_
              refine zr_iconst hx hb dX1_findDegrees_39 ?_
              refine zr_isub (v := 2) hx hb (by decide) dX1_findDegrees_40 ?_
              refine zr_icmp_ne (tgt := 51) hx hb dX1_findDegrees_41 (by decide) ⟨by omega, by omega⟩ ⟨by decide, by decide⟩ (fun c_25 => ?_) (fun c_25 => ?_)
              · have c_25 := c_25
                refine zr_iinc (v := (i : Int) + 1) (lv' := [(3, .int (zI ((i : Int) + 1))), (2, .int (zI 3)), (0, .ref (q 1)), (1, .int (zI s))]) hx hb dX1_findDegrees_51 hl (k := 0) rfl rfl (by decide) rfl (fun ls hl => ?_)
                refine lv_goto (tgt := 24) hx hb dX1_findDegrees_54 (by decide) ?_
                have hl := lv_sub hl (l' := [(3, .int (zI ((i : Int) + 1))), (2, .int (zI 3)), (0, .ref (q 1)), (1, .int (zI s))]) [0, 1, 2, 3] rfl
                have e_26 : ((((i + 1) : Nat) : Int) : Int) = (i : Int) + 1 := by omega
                have hl : lv_has ls 4 [(3, .int (zI (((i + 1) : Nat) : Int))), (2, .int (zI 3)), (0, .ref (q 1)), (1, .int (zI s))] := by rw [e_26]; exact hl
                have e_27 : (rdF pa sp n s 3 (rdF pa sp n s 2 (rchF pa sp (cst 0) s s 1 n) n) (i + 1) : Int → Int) = rdF pa sp n s 3 (rdF pa sp n s 2 (rchF pa sp (cst 0) s s 1 n) n) i := by first | exact rdF_y (by omega) | exact rdF_n (by omega)
                have hP : va_P D vwCl (wC cI cZ q pa sp al (rdF pa sp n s 3 (rdF pa sp n s 2 (rchF pa sp (cst 0) s s 1 n) n) (i + 1)) co da mb dd ah wl lo n td wn) H := by rw [e_27]; exact hP
                exact ih_i (i + 1) (by omega) (by omega) _ _ _ hP hS hl
              · have c_25 := c_25
                refine lv_aload_n hx hb dX1_findDegrees_44 rfl (lv_at hl 2 rfl) ?_
                refine lv_iload_n hx hb dX1_findDegrees_45 rfl (lv_at hl 3 rfl) ?_
                refine lv_iload_n hx hb dX1_findDegrees_46 rfl (lv_at hl 0 rfl) ?_
                refine lv_iload_n hx hb dX1_findDegrees_47 rfl (lv_at hl 1 rfl) ?_
                refine zcallV (ci := 1) (q0 := 1) (cq := (RX1, TX1, 5)) (As := [.int (zI s), .int (zI (i : Int)), .int (zI 3)]) (rest := []) ⟨hx, hb, hml, hown, hts⟩ hK (kX1_reachFrom l D cI cZ q hN pa sp al (rdF pa sp n s 3 (rdF pa sp n s 2 (rchF pa sp (cst 0) s s 1 n) n) i) co da mb dd ah wl lo n td wn hpa hsp (rdF_bd (pa := pa) (sp := sp) (n := n) (s := s) (g := 3) hdg9 ⟨by decide, by decide⟩ i) hn s (i : Int) 3 (by omega) (by omega) (by omega)) (cwV 3 hts gX1_findDegrees_X1_reachFrom rfl rfl rfl (by decide +kernel) ⟨Nat.le_of_ble_eq_true rfl, Nat.le_of_ble_eq_true rfl⟩) hP hS hA rfl rfl rfl hl.1 rfl (Nat.le_of_ble_eq_true rfl) dX1_findDegrees_48 ⟨Nat.zero_le _, Nat.zero_le _⟩ (fun H locs hP hS _ _ => ?_)
                have g_28 : ∀ j : Int, 0 ≤ (rchF pa sp (rdF pa sp n s 3 (rdF pa sp n s 2 (rchF pa sp (cst 0) s s 1 n) n) i) s (i : Int) 3 n) j ∧ (rchF pa sp (rdF pa sp n s 3 (rdF pa sp n s 2 (rchF pa sp (cst 0) s s 1 n) n) i) s (i : Int) 3 n) j ≤ 4 := rchF_bd (rdF_bd (pa := pa) (sp := sp) (n := n) (s := s) (g := 3) hdg9 ⟨by decide, by decide⟩ i) (by omega)
                refine W.eq (g2 := F0 m9 51 ls []) rfl ?_
                refine zr_iinc (v := (i : Int) + 1) (lv' := [(3, .int (zI ((i : Int) + 1))), (2, .int (zI 3)), (0, .ref (q 1)), (1, .int (zI s))]) hx hb dX1_findDegrees_51 hl (k := 0) rfl rfl (by decide) rfl (fun ls hl => ?_)
                refine lv_goto (tgt := 24) hx hb dX1_findDegrees_54 (by decide) ?_
                have hl := lv_sub hl (l' := [(3, .int (zI ((i : Int) + 1))), (2, .int (zI 3)), (0, .ref (q 1)), (1, .int (zI s))]) [0, 1, 2, 3] rfl
                have e_29 : ((((i + 1) : Nat) : Int) : Int) = (i : Int) + 1 := by omega
                have hl : lv_has ls 4 [(3, .int (zI (((i + 1) : Nat) : Int))), (2, .int (zI 3)), (0, .ref (q 1)), (1, .int (zI s))] := by rw [e_29]; exact hl
                have e_30 : (rdF pa sp n s 3 (rdF pa sp n s 2 (rchF pa sp (cst 0) s s 1 n) n) (i + 1) : Int → Int) = rchF pa sp (rdF pa sp n s 3 (rdF pa sp n s 2 (rchF pa sp (cst 0) s s 1 n) n) i) s (i : Int) 3 n := by first | exact rdF_y (by omega) | exact rdF_n (by omega)
                have hP : va_P D vwCl (wC cI cZ q pa sp al (rdF pa sp n s 3 (rdF pa sp n s 2 (rchF pa sp (cst 0) s s 1 n) n) (i + 1)) co da mb dd ah wl lo n td wn) H := by rw [e_30]; exact hP
                exact ih_i (i + 1) (by omega) (by omega) _ _ _ hP hS hl
        have hl := lv_sub hl (l' := [(3, .int (zI 0)), (2, .int (zI 3)), (0, .ref (q 1)), (1, .int (zI s))]) [0, 1, 2, 3] rfl
        have e_31 : (rdF pa sp n s 3 (rdF pa sp n s 2 (rchF pa sp (cst 0) s s 1 n) n) 0 : Int → Int) = rdF pa sp n s 2 (rchF pa sp (cst 0) s s 1 n) n := rfl
        have hP : va_P D vwCl (wC cI cZ q pa sp al (rdF pa sp n s 3 (rdF pa sp n s 2 (rchF pa sp (cst 0) s s 1 n) n) 0) co da mb dd ah wl lo n td wn) H := by rw [e_31]; exact hP
        exact L24_7 (n + 1) 0 (Nat.zero_le _) (by omega) _ _ _ hP hS hl
      · have c_4 := c_4
        refine lv_aload_n hx hb dX1_findDegrees_32 rfl (lv_at hl 2 rfl) ?_
        refine va_get (D := D) (ci := 1) (v := .ref (q 11)) (C := RX1) (T := TX1) (N := 5) hx hb hts hin1 hown hK hP 1 rfl rfl 4 (by decide) (hts (.fieldLink RX1 22 "MourningRibbons$Family" "degrees" "[I") (by decide +kernel)) (fun _ h9 => h9) rfl dX1_findDegrees_33 ?_
        refine lv_iload_n hx hb dX1_findDegrees_36 rfl (lv_at hl 0 rfl) ?_
        refine zr_iald (f := rdF pa sp n s 2 (rchF pa sp (cst 0) s s 1 n) i) (n := 16) hx hb hK hP 11 0 rfl rfl (by decide) (i := (i : Int)) (by omega) (by omega) dX1_findDegrees_37 ?_
        have b_32 := (rdF_bd (pa := pa) (sp := sp) (n := n) (s := s) (g := 2) hdg9 ⟨by decide, by decide⟩ i) (i : Int)
        refine lv_iload_n hx hb dX1_findDegrees_38 rfl (lv_at hl 1 rfl) ?_
        refine zr_iconst hx hb dX1_findDegrees_39 ?_
        refine zr_isub (v := 1) hx hb (by decide) dX1_findDegrees_40 ?_
        refine zr_icmp_ne (tgt := 51) hx hb dX1_findDegrees_41 (by decide) ⟨by omega, by omega⟩ ⟨by decide, by decide⟩ (fun c_33 => ?_) (fun c_33 => ?_)
        · have c_33 := c_33
          refine zr_iinc (v := (i : Int) + 1) (lv' := [(3, .int (zI ((i : Int) + 1))), (2, .int (zI 2)), (0, .ref (q 1)), (1, .int (zI s))]) hx hb dX1_findDegrees_51 hl (k := 0) rfl rfl (by decide) rfl (fun ls hl => ?_)
          refine lv_goto (tgt := 24) hx hb dX1_findDegrees_54 (by decide) ?_
          have hl := lv_sub hl (l' := [(3, .int (zI ((i : Int) + 1))), (2, .int (zI 2)), (0, .ref (q 1)), (1, .int (zI s))]) [0, 1, 2, 3] rfl
          have e_34 : ((((i + 1) : Nat) : Int) : Int) = (i : Int) + 1 := by omega
          have hl : lv_has ls 4 [(3, .int (zI (((i + 1) : Nat) : Int))), (2, .int (zI 2)), (0, .ref (q 1)), (1, .int (zI s))] := by rw [e_34]; exact hl
          have e_35 : (rdF pa sp n s 2 (rchF pa sp (cst 0) s s 1 n) (i + 1) : Int → Int) = rdF pa sp n s 2 (rchF pa sp (cst 0) s s 1 n) i := by first | exact rdF_y (by omega) | exact rdF_n (by omega)
          have hP : va_P D vwCl (wC cI cZ q pa sp al (rdF pa sp n s 2 (rchF pa sp (cst 0) s s 1 n) (i + 1)) co da mb dd ah wl lo n td wn) H := by rw [e_35]; exact hP
          exact ih_i (i + 1) (by omega) (by omega) _ _ _ hP hS hl
        · have c_33 := c_33
          refine lv_aload_n hx hb dX1_findDegrees_44 rfl (lv_at hl 2 rfl) ?_
          refine lv_iload_n hx hb dX1_findDegrees_45 rfl (lv_at hl 3 rfl) ?_
          refine lv_iload_n hx hb dX1_findDegrees_46 rfl (lv_at hl 0 rfl) ?_
          refine lv_iload_n hx hb dX1_findDegrees_47 rfl (lv_at hl 1 rfl) ?_
          refine zcallV (ci := 1) (q0 := 1) (cq := (RX1, TX1, 5)) (As := [.int (zI s), .int (zI (i : Int)), .int (zI 2)]) (rest := []) ⟨hx, hb, hml, hown, hts⟩ hK (kX1_reachFrom l D cI cZ q hN pa sp al (rdF pa sp n s 2 (rchF pa sp (cst 0) s s 1 n) i) co da mb dd ah wl lo n td wn hpa hsp (rdF_bd (pa := pa) (sp := sp) (n := n) (s := s) (g := 2) hdg9 ⟨by decide, by decide⟩ i) hn s (i : Int) 2 (by omega) (by omega) (by omega)) (cwV 3 hts gX1_findDegrees_X1_reachFrom rfl rfl rfl (by decide +kernel) ⟨Nat.le_of_ble_eq_true rfl, Nat.le_of_ble_eq_true rfl⟩) hP hS hA rfl rfl rfl hl.1 rfl (Nat.le_of_ble_eq_true rfl) dX1_findDegrees_48 ⟨Nat.zero_le _, Nat.zero_le _⟩ (fun H locs hP hS _ _ => ?_)
          have g_36 : ∀ j : Int, 0 ≤ (rchF pa sp (rdF pa sp n s 2 (rchF pa sp (cst 0) s s 1 n) i) s (i : Int) 2 n) j ∧ (rchF pa sp (rdF pa sp n s 2 (rchF pa sp (cst 0) s s 1 n) i) s (i : Int) 2 n) j ≤ 4 := rchF_bd (rdF_bd (pa := pa) (sp := sp) (n := n) (s := s) (g := 2) hdg9 ⟨by decide, by decide⟩ i) (by omega)
          refine W.eq (g2 := F0 m9 51 ls []) rfl ?_
          refine zr_iinc (v := (i : Int) + 1) (lv' := [(3, .int (zI ((i : Int) + 1))), (2, .int (zI 2)), (0, .ref (q 1)), (1, .int (zI s))]) hx hb dX1_findDegrees_51 hl (k := 0) rfl rfl (by decide) rfl (fun ls hl => ?_)
          refine lv_goto (tgt := 24) hx hb dX1_findDegrees_54 (by decide) ?_
          have hl := lv_sub hl (l' := [(3, .int (zI ((i : Int) + 1))), (2, .int (zI 2)), (0, .ref (q 1)), (1, .int (zI s))]) [0, 1, 2, 3] rfl
          have e_37 : ((((i + 1) : Nat) : Int) : Int) = (i : Int) + 1 := by omega
          have hl : lv_has ls 4 [(3, .int (zI (((i + 1) : Nat) : Int))), (2, .int (zI 2)), (0, .ref (q 1)), (1, .int (zI s))] := by rw [e_37]; exact hl
          have e_38 : (rdF pa sp n s 2 (rchF pa sp (cst 0) s s 1 n) (i + 1) : Int → Int) = rchF pa sp (rdF pa sp n s 2 (rchF pa sp (cst 0) s s 1 n) i) s (i : Int) 2 n := by first | exact rdF_y (by omega) | exact rdF_n (by omega)
          have hP : va_P D vwCl (wC cI cZ q pa sp al (rdF pa sp n s 2 (rchF pa sp (cst 0) s s 1 n) (i + 1)) co da mb dd ah wl lo n td wn) H := by rw [e_38]; exact hP
          exact ih_i (i + 1) (by omega) (by omega) _ _ _ hP hS hl
  have hl := lv_sub hl (l' := [(3, .int (zI 0)), (2, .int (zI 2)), (0, .ref (q 1)), (1, .int (zI s))]) [0, 1, 2, 3] rfl
  have e_39 : (rdF pa sp n s 2 (rchF pa sp (cst 0) s s 1 n) 0 : Int → Int) = rchF pa sp (cst 0) s s 1 n := rfl
  have hP : va_P D vwCl (wC cI cZ q pa sp al (rdF pa sp n s 2 (rchF pa sp (cst 0) s s 1 n) 0) co da mb dd ah wl lo n td wn) H := by rw [e_39]; exact hP
  exact L24_3 (n + 1) 0 (Nat.zero_le _) (by omega) _ _ _ hP hS hl
set_option maxHeartbeats 4000000 in
set_option maxRecDepth 100000 in
theorem kX1_countKin (l : Launch) (D : va_G) (cI cZ : ClassId) (q : Nat → Nat) (hN : (zLC q).Nodup) (pa : Int → Int) (sp : Int → Int) (al : Int → Int) (dg : Int → Int) (co : Int → Int) (da : Int → Int) (mb : Int → Int) (dd : Int → Int) (ah : Int → Int) (wl : Int → Int) (lo : Int → Int) (n : Nat) (td : Int) (wn : Int) (hn : n ≤ 16) (hal : ∀ j : Int, 0 ≤ al j ∧ al j ≤ 1) (hdg : ∀ j : Int, 0 ≤ dg j ∧ dg j ≤ 4) (g : Int) (h1 : 0 ≤ g ∧ g ≤ 4) : zM l yX1_countKin wsX1_countKin ({ frames := 0, cells := 0, slots := 0, locals := 0 }) D [(cI, .int), (cZ, .boolean)] [.ref (q 1), .int (zI g)] (wC cI cZ q pa sp al dg co da mb dd ah wl lo n td wn) (wC cI cZ q pa sp al dg co da mb dd ah wl lo n td wn) (some (.int (zI (smF (kinF al dg g) n)))) (zLC q) := by
  refine Met.ofW (cc := cX1_countKin) (maxL := 4) (ret := (some .int)) (by decide) rfl ?_
  intro p0 e9 s9 m9 ag9 below meth c9 s₁ B hml hv
  obtain ⟨hav, hP, hK⟩ := hv
  have hx := B.exec
  have hb := B.bytes
  have hr := B.returns
  have hts := atoms_spec (ws := wsX1_countKin) B.pre
  have hown : s9.vm.findClass RX1 = some m9.cls := findClass_of_methodNamed B.named
  have hlocks := B.notSynchronized
  have hA : ∀ a ∈ zLC q, (fun a => a ∈ zLC q) a := fun _ h => h
  have hin1 : ∀ w ∈ u_ws RX1 TX1 5, w ∈ wsX1_countKin := by decide +kernel
  have hl := lv_entry ([.ref (q 1), .int (zI g)]) (n := 4) (Nat.le_of_ble_eq_true rfl)
  have hE : entryFrame m9 ag9 4 = F0 m9 0 ((lg_sl ([.ref (q 1), .int (zI g)]) ++ List.replicate (4 - (lg_sl ([.ref (q 1), .int (zI g)])).length) Slot.unset).toArray) [] := by rw [hav]; exact lg_entry_eq m9 _ _
  obtain ⟨Q0, hQ0⟩ : ∃ Q0, Q0 = MQ below (zQ D (wC cI cZ q pa sp al dg co da mb dd ah wl lo n td wn) (some (.int (zI (smF (kinF al dg g) n)))) (zLC q)) ag9 s9 0 0 (fun a => a ∈ zLC q) := ⟨_, rfl⟩
  show W p0 l e9 ({ frames := 0, cells := 0, slots := 0, locals := 0 }) s9 m9 ag9 below meth c9 s9.heap [] 0 0 (MQ below (zQ D (wC cI cZ q pa sp al dg co da mb dd ah wl lo n td wn) (some (.int (zI (smF (kinF al dg g) n)))) (zLC q)) ag9 s9 0 0 (fun a => a ∈ zLC q)) _
  rw [hE, ← hQ0]
  have hS : va_S (fun a => a ∈ zLC q) s9.heap s9.heap [] := va_S.rf
  generalize hH0 : s9.heap = H at hP ⊢
  have hS : va_S (fun a => a ∈ zLC q) s9.heap H [] := by rw [hH0] at hS ⊢; exact hS
  generalize (lg_sl ([.ref (q 1), .int (zI g)]) ++ List.replicate (4 - (lg_sl ([.ref (q 1), .int (zI g)])).length) Slot.unset).toArray = ls at hl ⊢
  have hl : lv_has ls 4 [(0, .ref (q 1)), (1, .int (zI g))] := hl
  refine zr_iconst hx hb dX1_countKin_0 ?_
  refine lv_istore_n (lv' := [(2, .int (zI 0)), (0, .ref (q 1)), (1, .int (zI g))]) hx hb dX1_countKin_1 rfl hl (by decide) rfl (fun ls hl => ?_)
  refine zr_iconst hx hb dX1_countKin_2 ?_
  refine lv_istore_n (lv' := [(3, .int (zI 0)), (2, .int (zI 0)), (0, .ref (q 1)), (1, .int (zI g))]) hx hb dX1_countKin_3 rfl hl (by decide) rfl (fun ls hl => ?_)
  have L4_1 : ∀ (kf i : Nat), i ≤ n → n - i < kf → ∀ (H : Heap) (locs : List Loc) (ls : Array Slot), va_P D vwCl (wC cI cZ q pa sp al dg co da mb dd ah wl lo n td wn) H → va_S (fun a => a ∈ zLC q) s9.heap H locs → lv_has ls 4 [(3, .int (zI (i : Int))), (2, .int (zI (smF (kinF al dg g) i))), (0, .ref (q 1)), (1, .int (zI g))] → W p0 l e9 ({ frames := 0, cells := 0, slots := 0, locals := 0 }) s9 m9 ag9 below meth c9 H locs 0 0 Q0 (F0 m9 4 ls []) := by
    intro kf
    induction kf with
    | zero => intro i h1 h2; omega
    | succ kf ih =>
      intro i hi_i hk_i H locs ls hP hS hl
      have ih_i := ih
      clear ih
      refine lv_iload_n hx hb dX1_countKin_4 rfl (lv_at hl 0 rfl) ?_
      refine lv_aload_n hx hb dX1_countKin_5 rfl (lv_at hl 2 rfl) ?_
      refine va_get (D := D) (ci := 1) (v := .int (zI (n : Int))) (C := RX1) (T := TX1) (N := 5) hx hb hts hin1 hown hK hP 1 rfl rfl 3 (by decide) (hts (.fieldLink RX1 25 "MourningRibbons$Family" "count" "I") (by decide +kernel)) (fun _ h9 => h9) rfl dX1_countKin_6 ?_
      refine zr_icmp_ge (tgt := 40) hx hb dX1_countKin_9 (by decide) ⟨by omega, by omega⟩ ⟨by omega, by omega⟩ (fun c_2 => ?_) (fun c_2 => ?_)
      · have c_2 := c_2
        have x_3 : i = n := by omega
        try rw [x_3] at hP
        try rw [x_3] at hl
        refine lv_iload_n hx hb dX1_countKin_40 rfl (lv_at hl 1 rfl) ?_
        rw [hQ0]
        exact zret_i hx hb hr hlocks (rfl) hP hS dX1_countKin_41
      · have c_2 := c_2
        refine lv_aload_n hx hb dX1_countKin_12 rfl (lv_at hl 2 rfl) ?_
        refine va_get (D := D) (ci := 1) (v := .ref (q 10)) (C := RX1) (T := TX1) (N := 5) hx hb hts hin1 hown hK hP 1 rfl rfl 2 (by decide) (hts (.fieldLink RX1 18 "MourningRibbons$Family" "alive" "[Z") (by decide +kernel)) (fun _ h9 => h9) rfl dX1_countKin_13 ?_
        refine lv_iload_n hx hb dX1_countKin_16 rfl (lv_at hl 0 rfl) ?_
        refine zr_zald (f := al) (n := 16) hx hb hK hP 10 1 rfl rfl (by decide) (i := (i : Int)) (by omega) (by omega) dX1_countKin_17 ?_
        have b_4 := hal (i : Int)
        refine zr_if_eq (tgt := 34) hx hb dX1_countKin_18 (by decide) ⟨by omega, by omega⟩ (fun c_5 => ?_) (fun c_5 => ?_)
        · have c_5 := c_5
          refine zr_iinc (v := (i : Int) + 1) (lv' := [(3, .int (zI ((i : Int) + 1))), (2, .int (zI (smF (kinF al dg g) i))), (0, .ref (q 1)), (1, .int (zI g))]) hx hb dX1_countKin_34 hl (k := 0) rfl rfl (by decide) rfl (fun ls hl => ?_)
          refine lv_goto (tgt := 4) hx hb dX1_countKin_37 (by decide) ?_
          have hl := lv_sub hl (l' := [(3, .int (zI ((i : Int) + 1))), (2, .int (zI (smF (kinF al dg g) i))), (0, .ref (q 1)), (1, .int (zI g))]) [0, 1, 2, 3] rfl
          have e_6 : ((((i + 1) : Nat) : Int) : Int) = (i : Int) + 1 := by omega
          have e_7 : (smF (kinF al dg g) (i + 1) : Int) = smF (kinF al dg g) i := by rw [smF_s]; unfold kinF; split <;> omega
          have hl : lv_has ls 4 [(3, .int (zI (((i + 1) : Nat) : Int))), (2, .int (zI (smF (kinF al dg g) (i + 1)))), (0, .ref (q 1)), (1, .int (zI g))] := by rw [e_6, e_7]; exact hl
          exact ih_i (i + 1) (by omega) (by omega) _ _ _ hP hS hl
        · have c_5 := c_5
          refine lv_aload_n hx hb dX1_countKin_21 rfl (lv_at hl 2 rfl) ?_
          refine va_get (D := D) (ci := 1) (v := .ref (q 11)) (C := RX1) (T := TX1) (N := 5) hx hb hts hin1 hown hK hP 1 rfl rfl 4 (by decide) (hts (.fieldLink RX1 22 "MourningRibbons$Family" "degrees" "[I") (by decide +kernel)) (fun _ h9 => h9) rfl dX1_countKin_22 ?_
          refine lv_iload_n hx hb dX1_countKin_25 rfl (lv_at hl 0 rfl) ?_
          refine zr_iald (f := dg) (n := 16) hx hb hK hP 11 0 rfl rfl (by decide) (i := (i : Int)) (by omega) (by omega) dX1_countKin_26 ?_
          have b_8 := hdg (i : Int)
          refine lv_iload_n hx hb dX1_countKin_27 rfl (lv_at hl 3 rfl) ?_
          refine zr_icmp_ne (tgt := 34) hx hb dX1_countKin_28 (by decide) ⟨by omega, by omega⟩ ⟨by omega, by omega⟩ (fun c_9 => ?_) (fun c_9 => ?_)
          · have c_9 := c_9
            refine zr_iinc (v := (i : Int) + 1) (lv' := [(3, .int (zI ((i : Int) + 1))), (2, .int (zI (smF (kinF al dg g) i))), (0, .ref (q 1)), (1, .int (zI g))]) hx hb dX1_countKin_34 hl (k := 0) rfl rfl (by decide) rfl (fun ls hl => ?_)
            refine lv_goto (tgt := 4) hx hb dX1_countKin_37 (by decide) ?_
            have hl := lv_sub hl (l' := [(3, .int (zI ((i : Int) + 1))), (2, .int (zI (smF (kinF al dg g) i))), (0, .ref (q 1)), (1, .int (zI g))]) [0, 1, 2, 3] rfl
            have e_10 : ((((i + 1) : Nat) : Int) : Int) = (i : Int) + 1 := by omega
            have e_11 : (smF (kinF al dg g) (i + 1) : Int) = smF (kinF al dg g) i := by rw [smF_s]; unfold kinF; split <;> omega
            have hl : lv_has ls 4 [(3, .int (zI (((i + 1) : Nat) : Int))), (2, .int (zI (smF (kinF al dg g) (i + 1)))), (0, .ref (q 1)), (1, .int (zI g))] := by rw [e_10, e_11]; exact hl
            exact ih_i (i + 1) (by omega) (by omega) _ _ _ hP hS hl
          · have c_9 := c_9
            refine zr_iinc (v := (smF (kinF al dg g) i) + 1) (lv' := [(2, .int (zI ((smF (kinF al dg g) i) + 1))), (3, .int (zI (i : Int))), (0, .ref (q 1)), (1, .int (zI g))]) hx hb dX1_countKin_31 hl (k := 1) rfl rfl (by decide) rfl (fun ls hl => ?_)
            refine zr_iinc (v := (i : Int) + 1) (lv' := [(3, .int (zI ((i : Int) + 1))), (2, .int (zI ((smF (kinF al dg g) i) + 1))), (0, .ref (q 1)), (1, .int (zI g))]) hx hb dX1_countKin_34 hl (k := 1) rfl rfl (by decide) rfl (fun ls hl => ?_)
            refine lv_goto (tgt := 4) hx hb dX1_countKin_37 (by decide) ?_
            have hl := lv_sub hl (l' := [(3, .int (zI ((i : Int) + 1))), (2, .int (zI ((smF (kinF al dg g) i) + 1))), (0, .ref (q 1)), (1, .int (zI g))]) [0, 1, 2, 3] rfl
            have e_12 : ((((i + 1) : Nat) : Int) : Int) = (i : Int) + 1 := by omega
            have e_13 : (smF (kinF al dg g) (i + 1) : Int) = (smF (kinF al dg g) i) + 1 := by rw [smF_s]; unfold kinF; split <;> omega
            have hl : lv_has ls 4 [(3, .int (zI (((i + 1) : Nat) : Int))), (2, .int (zI (smF (kinF al dg g) (i + 1)))), (0, .ref (q 1)), (1, .int (zI g))] := by rw [e_12, e_13]; exact hl
            exact ih_i (i + 1) (by omega) (by omega) _ _ _ hP hS hl
  have hl := lv_sub hl (l' := [(3, .int (zI 0)), (2, .int (zI 0)), (0, .ref (q 1)), (1, .int (zI g))]) [0, 1, 2, 3] rfl
  have e_14 : (smF (kinF al dg g) 0 : Int) = 0 := rfl
  have hl : lv_has ls 4 [(3, .int (zI 0)), (2, .int (zI (smF (kinF al dg g) 0))), (0, .ref (q 1)), (1, .int (zI g))] := by rw [e_14]; exact hl
  exact L4_1 (n + 1) 0 (Nat.zero_le _) (by omega) _ _ _ hP hS hl
