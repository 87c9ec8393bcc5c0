set_option maxHeartbeats 4000000 in
set_option maxRecDepth 100000 in
theorem kX2_needRoomx (l : Launch) (D : va_G) (hl0 : l.stackTraces = false) (cI cZ : ClassId) (q : Nat → Nat) (hN : (zLC q).Nodup) (pa : Int → Int) (sp : Int → Int) (al : Int → Int) (dg : Int → Int) (co : Int → Int) (da : Int → Int) (mb : Int → Int) (dd : Int → Int) (ah : Int → Int) (wl : Int → Int) (lo : Int → Int) (n : Nat) (td : Int) (wn : Int) (hn : n ≤ 16) (h1 : 16 ≤ n) : zX l yX2_needRoom wsX2_needRoom ({ frames := 6, cells := 1, slots := 6, locals := 90 }) D [(cI, .int), (cZ, .boolean)] [.ref (q 0)] (wC cI cZ q pa sp al dg co da mb dd ah wl lo n td wn) "java/lang/IllegalStateException" (zLC q) := by
  refine vx_ofW (cc := cX2_needRoom) (maxL := 1) (ret := none) (by decide) rfl ?_
  intro p0 e9 s9 m9 ag9 below meth c9 s₁ B hml ht hv
  obtain ⟨hav, hP, hK, hT⟩ := hv
  have hx := B.exec
  have hb := B.bytes
  have hr := B.returns
  have hts := atoms_spec (ws := wsX2_needRoom) B.pre
  have hown : s9.vm.findClass RX2 = some m9.cls := findClass_of_methodNamed B.named
  have hlocks := B.notSynchronized
  have hA : ∀ a ∈ zLC q, (fun a => a ∈ zLC q) a := fun _ h => h
  have hin2 : ∀ w ∈ u_ws RX2 TX2 9, w ∈ wsX2_needRoom := by decide +kernel
  have hl := lv_entry ([.ref (q 0)]) (n := 1) (Nat.le_of_ble_eq_true rfl)
  have hE : entryFrame m9 ag9 1 = F0 m9 0 ((lg_sl ([.ref (q 0)]) ++ List.replicate (1 - (lg_sl ([.ref (q 0)])).length) Slot.unset).toArray) [] := by rw [hav]; exact lg_entry_eq m9 _ _
  obtain ⟨Q0, hQ0⟩ : ∃ Q0, Q0 = vx_MQ below zNo (zXC D (wC cI cZ q pa sp al dg co da mb dd ah wl lo n td wn) "java/lang/IllegalStateException" (zLC q)) ag9 s9 1 6 (fun a => a ∈ zLC q) := ⟨_, rfl⟩
  show W p0 l e9 ({ frames := 6, cells := 1, slots := 6, locals := 90 }) s9 m9 ag9 below meth c9 s9.heap [] 0 0 (vx_MQ below zNo (zXC D (wC cI cZ q pa sp al dg co da mb dd ah wl lo n td wn) "java/lang/IllegalStateException" (zLC q)) ag9 s9 1 6 (fun a => a ∈ zLC q)) _
  rw [hE, ← hQ0]
  have hS : va_S (fun a => a ∈ zLC q) s9.heap s9.heap [] := va_S.rf
  generalize hH0 : s9.heap = H at hP ⊢
  have hS : va_S (fun a => a ∈ zLC q) s9.heap H [] := by rw [hH0] at hS ⊢; exact hS
  generalize (lg_sl ([.ref (q 0)]) ++ List.replicate (1 - (lg_sl ([.ref (q 0)])).length) Slot.unset).toArray = ls at hl ⊢
  have hl : lv_has ls 1 [(0, .ref (q 0))] := hl
  refine lv_aload_n hx hb dX2_needRoom_0 rfl (lv_at hl 0 rfl) ?_
  refine va_get (D := D) (ci := 2) (v := .ref (q 1)) (C := RX2) (T := TX2) (N := 9) hx hb hts hin2 hown hK hP 0 rfl rfl 0 (by decide) (hts (.fieldLink RX2 12 "MourningRibbons" "family" "LMourningRibbons$Family;") (by decide +kernel)) (fun _ h9 => h9) rfl dX2_needRoom_1 ?_
  refine zcallV (ci := 1) (q0 := 1) (cq := (RX1, TX1, 5)) (As := []) (rest := []) ⟨hx, hb, hml, hown, hts⟩ hK (kX1_isFull l D cI cZ q hN pa sp al dg co da mb dd ah wl lo n td wn hn) (cwV 0 hts gX2_needRoom_X1_isFull rfl rfl rfl (by decide +kernel) ⟨Nat.le_of_ble_eq_true rfl, Nat.le_of_ble_eq_true rfl⟩) hP hS hA rfl rfl rfl hl.1 rfl (Nat.le_of_ble_eq_true rfl) dX2_needRoom_4 ⟨Nat.zero_le _, Nat.zero_le _⟩ (fun H locs hP hS _ _ => ?_)
  refine W.eq (g2 := F0 m9 7 ls [.int (zI (bI (16 ≤ (n : Int))))]) rfl ?_
  refine zr_if_eq (tgt := 21) hx hb dX2_needRoom_7 (by decide) (bI_rg _) (fun c_1 => ?_) (fun c_1 => ?_)
  · have c_1 := bI_z c_1
    exfalso; omega
  · have c_1 := bI_n c_1
    obtain ⟨sa, hstr⟩ := hT.2.2.1 (264, "there are 16 people") (by decide +kernel)
    rw [hQ0]
    exact zthrowW (names := ["java/lang/RuntimeException", "java/lang/Exception"]) (cls := "java/lang/IllegalStateException") (ic := 65) hx hb hl0 hown (by decide +kernel) (by decide +kernel) (hts (.classLink RX2 61 "java/lang/IllegalStateException") (by decide +kernel)) (hts (.initialized "java/lang/IllegalStateException") (by decide +kernel)) hstr (vx_hat (fun w h => hts w ((by decide +kernel : ∀ w ∈ (vx_atS RX2 65 "java/lang/IllegalStateException" ["java/lang/RuntimeException", "java/lang/Exception"]).filter goodWord, w ∈ wsX2_needRoom) w h)) (by decide +kernel : ∀ w ∈ (vx_atS RX2 65 "java/lang/IllegalStateException" ["java/lang/RuntimeException", "java/lang/Exception"]).filter (fun w => !goodWord w), w ∈ zBad) (hT.2.2.2.at (Vm.Alike.refl _) _)) (by decide +kernel) hP hT hS (by rw [hml, hl.1]) dX2_needRoom_10 dX2_needRoom_13 dX2_needRoom_14 dX2_needRoom_17 dX2_needRoom_20 ht (Nat.le_of_ble_eq_true rfl) (Nat.le_of_ble_eq_true rfl) (Nat.le_of_ble_eq_true rfl) (Nat.le_of_ble_eq_true rfl) hlocks
set_option maxHeartbeats 4000000 in
set_option maxRecDepth 100000 in
theorem kX2_needAlivex (l : Launch) (D : va_G) (hl0 : l.stackTraces = false) (cI cZ : ClassId) (q : Nat → Nat) (hN : (zLC q).Nodup) (pa : Int → Int) (sp : Int → Int) (al : Int → Int) (dg : Int → Int) (co : Int → Int) (da : Int → Int) (mb : Int → Int) (dd : Int → Int) (ah : Int → Int) (wl : Int → Int) (lo : Int → Int) (n : Nat) (td : Int) (wn : Int) (hal : ∀ j : Int, 0 ≤ al j ∧ al j ≤ 1) (p : Int) (h1 : 0 ≤ p ∧ p < 16) (h2 : al p = 0) : zX l yX2_needAlive wsX2_needAlive ({ frames := 6, cells := 1, slots := 6, locals := 90 }) D [(cI, .int), (cZ, .boolean)] [.ref (q 0), .int (zI p)] (wC cI cZ q pa sp al dg co da mb dd ah wl lo n td wn) "java/lang/IllegalStateException" (zLC q) := by
  refine vx_ofW (cc := cX2_needAlive) (maxL := 2) (ret := none) (by decide) rfl ?_
  intro p0 e9 s9 m9 ag9 below meth c9 s₁ B hml ht hv
  obtain ⟨hav, hP, hK, hT⟩ := hv
  have hx := B.exec
  have hb := B.bytes
  have hr := B.returns
  have hts := atoms_spec (ws := wsX2_needAlive) B.pre
  have hown : s9.vm.findClass RX2 = some m9.cls := findClass_of_methodNamed B.named
  have hlocks := B.notSynchronized
  have hA : ∀ a ∈ zLC q, (fun a => a ∈ zLC q) a := fun _ h => h
  have hin1 : ∀ w ∈ u_ws RX1 TX1 5, w ∈ wsX2_needAlive := by decide +kernel
  have hin2 : ∀ w ∈ u_ws RX2 TX2 9, w ∈ wsX2_needAlive := by decide +kernel
  have hl := lv_entry ([.ref (q 0), .int (zI p)]) (n := 2) (Nat.le_of_ble_eq_true rfl)
  have hE : entryFrame m9 ag9 2 = F0 m9 0 ((lg_sl ([.ref (q 0), .int (zI p)]) ++ List.replicate (2 - (lg_sl ([.ref (q 0), .int (zI p)])).length) Slot.unset).toArray) [] := by rw [hav]; exact lg_entry_eq m9 _ _
  obtain ⟨Q0, hQ0⟩ : ∃ Q0, Q0 = vx_MQ below zNo (zXC D (wC cI cZ q pa sp al dg co da mb dd ah wl lo n td wn) "java/lang/IllegalStateException" (zLC q)) ag9 s9 1 6 (fun a => a ∈ zLC q) := ⟨_, rfl⟩
  show W p0 l e9 ({ frames := 6, cells := 1, slots := 6, locals := 90 }) s9 m9 ag9 below meth c9 s9.heap [] 0 0 (vx_MQ below zNo (zXC D (wC cI cZ q pa sp al dg co da mb dd ah wl lo n td wn) "java/lang/IllegalStateException" (zLC q)) ag9 s9 1 6 (fun a => a ∈ zLC q)) _
  rw [hE, ← hQ0]
  have hS : va_S (fun a => a ∈ zLC q) s9.heap s9.heap [] := va_S.rf
  generalize hH0 : s9.heap = H at hP ⊢
  have hS : va_S (fun a => a ∈ zLC q) s9.heap H [] := by rw [hH0] at hS ⊢; exact hS
  generalize (lg_sl ([.ref (q 0), .int (zI p)]) ++ List.replicate (2 - (lg_sl ([.ref (q 0), .int (zI p)])).length) Slot.unset).toArray = ls at hl ⊢
  have hl : lv_has ls 2 [(0, .ref (q 0)), (1, .int (zI p))] := hl
  refine lv_aload_n hx hb dX2_needAlive_0 rfl (lv_at hl 0 rfl) ?_
  refine va_get (D := D) (ci := 2) (v := .ref (q 1)) (C := RX2) (T := TX2) (N := 9) hx hb hts hin2 hown hK hP 0 rfl rfl 0 (by decide) (hts (.fieldLink RX2 12 "MourningRibbons" "family" "LMourningRibbons$Family;") (by decide +kernel)) (fun _ h9 => h9) rfl dX2_needAlive_1 ?_
  refine va_get (D := D) (ci := 1) (v := .ref (q 10)) (C := RX1) (T := TX1) (N := 5) hx hb hts hin1 hown hK hP 1 rfl rfl 2 (by decide) (hts (.fieldLink RX2 101 "MourningRibbons$Family" "alive" "[Z") (by decide +kernel)) (fun _ h9 => h9) rfl dX2_needAlive_4 ?_
  refine lv_iload_n hx hb dX2_needAlive_7 rfl (lv_at hl 1 rfl) ?_
  refine zr_zald (f := al) (n := 16) hx hb hK hP 10 1 rfl rfl (by decide) (i := p) (by omega) (by omega) dX2_needAlive_8 ?_
  have b_1 := hal p
  refine zr_if_ne (tgt := 23) hx hb dX2_needAlive_9 (by decide) ⟨by omega, by omega⟩ (fun c_2 => ?_) (fun c_2 => ?_)
  · have c_2 := c_2
    exfalso; omega
  · have c_2 := c_2
    obtain ⟨sa, hstr⟩ := hT.2.2.1 (268, "this person is dead") (by decide +kernel)
    rw [hQ0]
    exact zthrowW (names := ["java/lang/RuntimeException", "java/lang/Exception"]) (cls := "java/lang/IllegalStateException") (ic := 65) hx hb hl0 hown (by decide +kernel) (by decide +kernel) (hts (.classLink RX2 61 "java/lang/IllegalStateException") (by decide +kernel)) (hts (.initialized "java/lang/IllegalStateException") (by decide +kernel)) hstr (vx_hat (fun w h => hts w ((by decide +kernel : ∀ w ∈ (vx_atS RX2 65 "java/lang/IllegalStateException" ["java/lang/RuntimeException", "java/lang/Exception"]).filter goodWord, w ∈ wsX2_needAlive) w h)) (by decide +kernel : ∀ w ∈ (vx_atS RX2 65 "java/lang/IllegalStateException" ["java/lang/RuntimeException", "java/lang/Exception"]).filter (fun w => !goodWord w), w ∈ zBad) (hT.2.2.2.at (Vm.Alike.refl _) _)) (by decide +kernel) hP hT hS (by rw [hml, hl.1]) dX2_needAlive_12 dX2_needAlive_15 dX2_needAlive_16 dX2_needAlive_19 dX2_needAlive_22 ht (Nat.le_of_ble_eq_true rfl) (Nat.le_of_ble_eq_true rfl) (Nat.le_of_ble_eq_true rfl) (Nat.le_of_ble_eq_true rfl) hlocks
set_option maxHeartbeats 4000000 in
set_option maxRecDepth 100000 in
theorem kX2_addPersonx1 (l : Launch) (D : va_G) (hl0 : l.stackTraces = false) (cI cZ : ClassId) (q : Nat → Nat) (hN : (zLC q).Nodup) (pa : Int → Int) (sp : Int → Int) (al : Int → Int) (dg : Int → Int) (co : Int → Int) (da : Int → Int) (mb : Int → Int) (dd : Int → Int) (ah : Int → Int) (wl : Int → Int) (lo : Int → Int) (n : Nat) (td : Int) (wn : Int) (hn : n ≤ 16) (h1 : 16 ≤ n) : zX l yX2_addPerson wsX2_addPerson ({ frames := 7, cells := 1, slots := 6, locals := 110 }) D [(cI, .int), (cZ, .boolean)] [.ref (q 0)] (wC cI cZ q pa sp al dg co da mb dd ah wl lo n td wn) "java/lang/IllegalStateException" (zLC q) := by
  refine vx_ofW (cc := cX2_addPerson) (maxL := 1) (ret := (some .int)) (by decide) rfl ?_
  intro p0 e9 s9 m9 ag9 below meth c9 s₁ B hml ht hv
  obtain ⟨hav, hP, hK, hT⟩ := hv
  have hx := B.exec
  have hb := B.bytes
  have hr := B.returns
  have hts := atoms_spec (ws := wsX2_addPerson) B.pre
  have hown : s9.vm.findClass RX2 = some m9.cls := findClass_of_methodNamed B.named
  have hlocks := B.notSynchronized
  have hA : ∀ a ∈ zLC q, (fun a => a ∈ zLC q) a := fun _ h => h
  have hl := lv_entry ([.ref (q 0)]) (n := 1) (Nat.le_of_ble_eq_true rfl)
  have hE : entryFrame m9 ag9 1 = F0 m9 0 ((lg_sl ([.ref (q 0)]) ++ List.replicate (1 - (lg_sl ([.ref (q 0)])).length) Slot.unset).toArray) [] := by rw [hav]; exact lg_entry_eq m9 _ _
  obtain ⟨Q0, hQ0⟩ : ∃ Q0, Q0 = vx_MQ below zNo (zXC D (wC cI cZ q pa sp al dg co da mb dd ah wl lo n td wn) "java/lang/IllegalStateException" (zLC q)) ag9 s9 1 6 (fun a => a ∈ zLC q) := ⟨_, rfl⟩
  show W p0 l e9 ({ frames := 7, cells := 1, slots := 6, locals := 110 }) s9 m9 ag9 below meth c9 s9.heap [] 0 0 (vx_MQ below zNo (zXC D (wC cI cZ q pa sp al dg co da mb dd ah wl lo n td wn) "java/lang/IllegalStateException" (zLC q)) ag9 s9 1 6 (fun a => a ∈ zLC q)) _
  rw [hE, ← hQ0]
  have hS : va_S (fun a => a ∈ zLC q) s9.heap s9.heap [] := va_S.rf
  generalize hH0 : s9.heap = H at hP ⊢
  have hS : va_S (fun a => a ∈ zLC q) s9.heap H [] := by rw [hH0] at hS ⊢; exact hS
  generalize (lg_sl ([.ref (q 0)]) ++ List.replicate (1 - (lg_sl ([.ref (q 0)])).length) Slot.unset).toArray = ls at hl ⊢
  have hl : lv_has ls 1 [(0, .ref (q 0))] := hl
  refine lv_aload_n hx hb dX2_addPerson_0 rfl (lv_at hl 0 rfl) ?_
  refine zcallXV (ci := 2) (q0 := 0) (cq := (RX2, TX2, 9)) (As := []) (rest := []) ⟨hx, hb, hml, hown, hts⟩ hK (kX2_needRoomx l D hl0 cI cZ q hN pa sp al dg co da mb dd ah wl lo n td wn hn (by omega)) (cwV 0 hts gX2_addPerson_X2_needRoom rfl rfl rfl (by decide +kernel) ⟨Nat.le_of_ble_eq_true rfl, Nat.le_of_ble_eq_true rfl⟩) hP (hT.kept hS.2.1) hS hA rfl rfl rfl hl.1 rfl (Nat.le_of_ble_eq_true rfl) dX2_addPerson_1 ⟨Nat.le_of_ble_eq_true rfl, Nat.le_of_ble_eq_true rfl⟩ (fun ce q9 H locs hP hS _ _ hce hcv hcl => ?_)
  rw [hQ0]
  exact zoutX ht hlocks hP hS hce hcv hcl
set_option maxHeartbeats 4000000 in
set_option maxRecDepth 100000 in
theorem kX2_addChildx2 (l : Launch) (D : va_G) (hl0 : l.stackTraces = false) (cI cZ : ClassId) (q : Nat → Nat) (hN : (zLC q).Nodup) (pa : Int → Int) (sp : Int → Int) (al : Int → Int) (dg : Int → Int) (co : Int → Int) (da : Int → Int) (mb : Int → Int) (dd : Int → Int) (ah : Int → Int) (wl : Int → Int) (lo : Int → Int) (n : Nat) (td : Int) (wn : Int) (hn : n ≤ 16) (hal : ∀ j : Int, 0 ≤ al j ∧ al j ≤ 1) (p : Int) (h1 : 0 ≤ p ∧ p < (n : Int)) (h2 : al p = 0) : zX l yX2_addChild wsX2_addChild ({ frames := 7, cells := 1, slots := 6, locals := 111 }) D [(cI, .int), (cZ, .boolean)] [.ref (q 0), .int (zI p)] (wC cI cZ q pa sp al dg co da mb dd ah wl lo n td wn) "java/lang/IllegalStateException" (zLC q) := by
  refine vx_ofW (cc := cX2_addChild) (maxL := 2) (ret := (some .int)) (by decide) rfl ?_
  intro p0 e9 s9 m9 ag9 below meth c9 s₁ B hml ht hv
  obtain ⟨hav, hP, hK, hT⟩ := hv
  have hx := B.exec
  have hb := B.bytes
  have hr := B.returns
  have hts := atoms_spec (ws := wsX2_addChild) B.pre
  have hown : s9.vm.findClass RX2 = some m9.cls := findClass_of_methodNamed B.named
  have hlocks := B.notSynchronized
  have hA : ∀ a ∈ zLC q, (fun a => a ∈ zLC q) a := fun _ h => h
  have hl := lv_entry ([.ref (q 0), .int (zI p)]) (n := 2) (Nat.le_of_ble_eq_true rfl)
  have hE : entryFrame m9 ag9 2 = F0 m9 0 ((lg_sl ([.ref (q 0), .int (zI p)]) ++ List.replicate (2 - (lg_sl ([.ref (q 0), .int (zI p)])).length) Slot.unset).toArray) [] := by rw [hav]; exact lg_entry_eq m9 _ _
  obtain ⟨Q0, hQ0⟩ : ∃ Q0, Q0 = vx_MQ below zNo (zXC D (wC cI cZ q pa sp al dg co da mb dd ah wl lo n td wn) "java/lang/IllegalStateException" (zLC q)) ag9 s9 1 6 (fun a => a ∈ zLC q) := ⟨_, rfl⟩
  show W p0 l e9 ({ frames := 7, cells := 1, slots := 6, locals := 111 }) s9 m9 ag9 below meth c9 s9.heap [] 0 0 (vx_MQ below zNo (zXC D (wC cI cZ q pa sp al dg co da mb dd ah wl lo n td wn) "java/lang/IllegalStateException" (zLC q)) ag9 s9 1 6 (fun a => a ∈ zLC q)) _
  rw [hE, ← hQ0]
  have hS : va_S (fun a => a ∈ zLC q) s9.heap s9.heap [] := va_S.rf
  generalize hH0 : s9.heap = H at hP ⊢
  have hS : va_S (fun a => a ∈ zLC q) s9.heap H [] := by rw [hH0] at hS ⊢; exact hS
  generalize (lg_sl ([.ref (q 0), .int (zI p)]) ++ List.replicate (2 - (lg_sl ([.ref (q 0), .int (zI p)])).length) Slot.unset).toArray = ls at hl ⊢
  have hl : lv_has ls 2 [(0, .ref (q 0)), (1, .int (zI p))] := hl
  refine lv_aload_n hx hb dX2_addChild_0 rfl (lv_at hl 0 rfl) ?_
  refine lv_iload_n hx hb dX2_addChild_1 rfl (lv_at hl 1 rfl) ?_
  refine zcallV (ci := 2) (q0 := 0) (cq := (RX2, TX2, 9)) (As := [.int (zI p)]) (rest := []) ⟨hx, hb, hml, hown, hts⟩ hK (kX2_needPersonok l D cI cZ q hN pa sp al dg co da mb dd ah wl lo n td wn hn p (by omega)) (cwV 1 hts gX2_addChild_X2_needPerson rfl rfl rfl (by decide +kernel) ⟨Nat.le_of_ble_eq_true rfl, Nat.le_of_ble_eq_true rfl⟩) hP hS hA rfl rfl rfl hl.1 rfl (Nat.le_of_ble_eq_true rfl) dX2_addChild_2 ⟨Nat.zero_le _, Nat.zero_le _⟩ (fun H locs hP hS _ _ => ?_)
  refine W.eq (g2 := F0 m9 5 ls []) rfl ?_
  refine lv_aload_n hx hb dX2_addChild_5 rfl (lv_at hl 0 rfl) ?_
  refine lv_iload_n hx hb dX2_addChild_6 rfl (lv_at hl 1 rfl) ?_
  refine zcallXV (ci := 2) (q0 := 0) (cq := (RX2, TX2, 9)) (As := [.int (zI p)]) (rest := []) ⟨hx, hb, hml, hown, hts⟩ hK (kX2_needAlivex l D hl0 cI cZ q hN pa sp al dg co da mb dd ah wl lo n td wn hal p (by omega) (by omega)) (cwV 1 hts gX2_addChild_X2_needAlive rfl rfl rfl (by decide +kernel) ⟨Nat.le_of_ble_eq_true rfl, Nat.le_of_ble_eq_true rfl⟩) hP (hT.kept hS.2.1) hS hA rfl rfl rfl hl.1 rfl (Nat.le_of_ble_eq_true rfl) dX2_addChild_7 ⟨Nat.le_of_ble_eq_true rfl, Nat.le_of_ble_eq_true rfl⟩ (fun ce q9 H locs hP hS _ _ hce hcv hcl => ?_)
  rw [hQ0]
  exact zoutX ht hlocks hP hS hce hcv hcl
set_option maxHeartbeats 4000000 in
set_option maxRecDepth 100000 in
theorem kX2_addChildx3 (l : Launch) (D : va_G) (hl0 : l.stackTraces = false) (cI cZ : ClassId) (q : Nat → Nat) (hN : (zLC q).Nodup) (pa : Int → Int) (sp : Int → Int) (al : Int → Int) (dg : Int → Int) (co : Int → Int) (da : Int → Int) (mb : Int → Int) (dd : Int → Int) (ah : Int → Int) (wl : Int → Int) (lo : Int → Int) (n : Nat) (td : Int) (wn : Int) (hn : n ≤ 16) (hal : ∀ j : Int, 0 ≤ al j ∧ al j ≤ 1) (p : Int) (h1 : 0 ≤ p ∧ p < (n : Int)) (h2 : al p ≠ 0) (h3 : 16 ≤ n) : zX l yX2_addChild wsX2_addChild ({ frames := 7, cells := 1, slots := 6, locals := 111 }) D [(cI, .int), (cZ, .boolean)] [.ref (q 0), .int (zI p)] (wC cI cZ q pa sp al dg co da mb dd ah wl lo n td wn) "java/lang/IllegalStateException" (zLC q) := by
  refine vx_ofW (cc := cX2_addChild) (maxL := 2) (ret := (some .int)) (by decide) rfl ?_
  intro p0 e9 s9 m9 ag9 below meth c9 s₁ B hml ht hv
  obtain ⟨hav, hP, hK, hT⟩ := hv
  have hx := B.exec
  have hb := B.bytes
  have hr := B.returns
  have hts := atoms_spec (ws := wsX2_addChild) B.pre
  have hown : s9.vm.findClass RX2 = some m9.cls := findClass_of_methodNamed B.named
  have hlocks := B.notSynchronized
  have hA : ∀ a ∈ zLC q, (fun a => a ∈ zLC q) a := fun _ h => h
  have hl := lv_entry ([.ref (q 0), .int (zI p)]) (n := 2) (Nat.le_of_ble_eq_true rfl)
  have hE : entryFrame m9 ag9 2 = F0 m9 0 ((lg_sl ([.ref (q 0), .int (zI p)]) ++ List.replicate (2 - (lg_sl ([.ref (q 0), .int (zI p)])).length) Slot.unset).toArray) [] := by rw [hav]; exact lg_entry_eq m9 _ _
  obtain ⟨Q0, hQ0⟩ : ∃ Q0, Q0 = vx_MQ below zNo (zXC D (wC cI cZ q pa sp al dg co da mb dd ah wl lo n td wn) "java/lang/IllegalStateException" (zLC q)) ag9 s9 1 6 (fun a => a ∈ zLC q) := ⟨_, rfl⟩
  show W p0 l e9 ({ frames := 7, cells := 1, slots := 6, locals := 111 }) s9 m9 ag9 below meth c9 s9.heap [] 0 0 (vx_MQ below zNo (zXC D (wC cI cZ q pa sp al dg co da mb dd ah wl lo n td wn) "java/lang/IllegalStateException" (zLC q)) ag9 s9 1 6 (fun a => a ∈ zLC q)) _
  rw [hE, ← hQ0]
  have hS : va_S (fun a => a ∈ zLC q) s9.heap s9.heap [] := va_S.rf
  generalize hH0 : s9.heap = H at hP ⊢
  have hS : va_S (fun a => a ∈ zLC q) s9.heap H [] := by rw [hH0] at hS ⊢; exact hS
  generalize (lg_sl ([.ref (q 0), .int (zI p)]) ++ List.replicate (2 - (lg_sl ([.ref (q 0), .int (zI p)])).length) Slot.unset).toArray = ls at hl ⊢
  have hl : lv_has ls 2 [(0, .ref (q 0)), (1, .int (zI p))] := hl
  refine lv_aload_n hx hb dX2_addChild_0 rfl (lv_at hl 0 rfl) ?_
  refine lv_iload_n hx hb dX2_addChild_1 rfl (lv_at hl 1 rfl) ?_
  refine zcallV (ci := 2) (q0 := 0) (cq := (RX2, TX2, 9)) (As := [.int (zI p)]) (rest := []) ⟨hx, hb, hml, hown, hts⟩ hK (kX2_needPersonok l D cI cZ q hN pa sp al dg co da mb dd ah wl lo n td wn hn p (by omega)) (cwV 1 hts gX2_addChild_X2_needPerson rfl rfl rfl (by decide +kernel) ⟨Nat.le_of_ble_eq_true rfl, Nat.le_of_ble_eq_true rfl⟩) hP hS hA rfl rfl rfl hl.1 rfl (Nat.le_of_ble_eq_true rfl) dX2_addChild_2 ⟨Nat.zero_le _, Nat.zero_le _⟩ (fun H locs hP hS _ _ => ?_)
  refine W.eq (g2 := F0 m9 5 ls []) rfl ?_
  refine lv_aload_n hx hb dX2_addChild_5 rfl (lv_at hl 0 rfl) ?_
  refine lv_iload_n hx hb dX2_addChild_6 rfl (lv_at hl 1 rfl) ?_
  refine zcallV (ci := 2) (q0 := 0) (cq := (RX2, TX2, 9)) (As := [.int (zI p)]) (rest := []) ⟨hx, hb, hml, hown, hts⟩ hK (kX2_needAliveok l D cI cZ q hN pa sp al dg co da mb dd ah wl lo n td wn hal p (by omega) (by omega)) (cwV 1 hts gX2_addChild_X2_needAlive rfl rfl rfl (by decide +kernel) ⟨Nat.le_of_ble_eq_true rfl, Nat.le_of_ble_eq_true rfl⟩) hP hS hA rfl rfl rfl hl.1 rfl (Nat.le_of_ble_eq_true rfl) dX2_addChild_7 ⟨Nat.zero_le _, Nat.zero_le _⟩ (fun H locs hP hS _ _ => ?_)
  refine W.eq (g2 := F0 m9 10 ls []) rfl ?_
  refine lv_aload_n hx hb dX2_addChild_10 rfl (lv_at hl 0 rfl) ?_
  refine zcallXV (ci := 2) (q0 := 0) (cq := (RX2, TX2, 9)) (As := []) (rest := []) ⟨hx, hb, hml, hown, hts⟩ hK (kX2_needRoomx l D hl0 cI cZ q hN pa sp al dg co da mb dd ah wl lo n td wn hn (by omega)) (cwV 0 hts gX2_addChild_X2_needRoom rfl rfl rfl (by decide +kernel) ⟨Nat.le_of_ble_eq_true rfl, Nat.le_of_ble_eq_true rfl⟩) hP (hT.kept hS.2.1) hS hA rfl rfl rfl hl.1 rfl (Nat.le_of_ble_eq_true rfl) dX2_addChild_11 ⟨Nat.le_of_ble_eq_true rfl, Nat.le_of_ble_eq_true rfl⟩ (fun ce q9 H locs hP hS _ _ hce hcv hcl => ?_)
  rw [hQ0]
  exact zoutX ht hlocks hP hS hce hcv hcl
set_option maxHeartbeats 4000000 in
set_option maxRecDepth 100000 in
theorem kX2_marryx4 (l : Launch) (D : va_G) (hl0 : l.stackTraces = false) (cI cZ : ClassId) (q : Nat → Nat) (hN : (zLC q).Nodup) (pa : Int → Int) (sp : Int → Int) (al : Int → Int) (dg : Int → Int) (co : Int → Int) (da : Int → Int) (mb : Int → Int) (dd : Int → Int) (ah : Int → Int) (wl : Int → Int) (lo : Int → Int) (n : Nat) (td : Int) (wn : Int) (hn : n ≤ 16) (hal : ∀ j : Int, 0 ≤ al j ∧ al j ≤ 1) (a : Int) (b : Int) (h1 : 0 ≤ a ∧ a < (n : Int)) (h2 : 0 ≤ b ∧ b < (n : Int)) (h3 : a ≠ b) (h4 : al a = 0) : zX l yX2_marry wsX2_marry ({ frames := 7, cells := 1, slots := 6, locals := 112 }) D [(cI, .int), (cZ, .boolean)] [.ref (q 0), .int (zI a), .int (zI b)] (wC cI cZ q pa sp al dg co da mb dd ah wl lo n td wn) "java/lang/IllegalStateException" (zLC q) := by
  refine vx_ofW (cc := cX2_marry) (maxL := 4) (ret := (some .int)) (by decide) rfl ?_
  intro p0 e9 s9 m9 ag9 below meth c9 s₁ B hml ht hv
  obtain ⟨hav, hP, hK, hT⟩ := hv
  have hx := B.exec
  have hb := B.bytes
  have hr := B.returns
  have hts := atoms_spec (ws := wsX2_marry) B.pre
  have hown : s9.vm.findClass RX2 = some m9.cls := findClass_of_methodNamed B.named
  have hlocks := B.notSynchronized
  have hA : ∀ a ∈ zLC q, (fun a => a ∈ zLC q) a := fun _ h => h
  have hl := lv_entry ([.ref (q 0), .int (zI a), .int (zI b)]) (n := 4) (Nat.le_of_ble_eq_true rfl)
  have hE : entryFrame m9 ag9 4 = F0 m9 0 ((lg_sl ([.ref (q 0), .int (zI a), .int (zI b)]) ++ List.replicate (4 - (lg_sl ([.ref (q 0), .int (zI a), .int (zI b)])).length) Slot.unset).toArray) [] := by rw [hav]; exact lg_entry_eq m9 _ _
  obtain ⟨Q0, hQ0⟩ : ∃ Q0, Q0 = vx_MQ below zNo (zXC D (wC cI cZ q pa sp al dg co da mb dd ah wl lo n td wn) "java/lang/IllegalStateException" (zLC q)) ag9 s9 1 6 (fun a => a ∈ zLC q) := ⟨_, rfl⟩
  show W p0 l e9 ({ frames := 7, cells := 1, slots := 6, locals := 112 }) s9 m9 ag9 below meth c9 s9.heap [] 0 0 (vx_MQ below zNo (zXC D (wC cI cZ q pa sp al dg co da mb dd ah wl lo n td wn) "java/lang/IllegalStateException" (zLC q)) ag9 s9 1 6 (fun a => a ∈ zLC q)) _
  rw [hE, ← hQ0]
  have hS : va_S (fun a => a ∈ zLC q) s9.heap s9.heap [] := va_S.rf
  generalize hH0 : s9.heap = H at hP ⊢
  have hS : va_S (fun a => a ∈ zLC q) s9.heap H [] := by rw [hH0] at hS ⊢; exact hS
  generalize (lg_sl ([.ref (q 0), .int (zI a), .int (zI b)]) ++ List.replicate (4 - (lg_sl ([.ref (q 0), .int (zI a), .int (zI b)])).length) Slot.unset).toArray = ls at hl ⊢
  have hl : lv_has ls 4 [(0, .ref (q 0)), (1, .int (zI a)), (2, .int (zI b))] := hl
  refine lv_aload_n hx hb dX2_marry_0 rfl (lv_at hl 0 rfl) ?_
  refine lv_iload_n hx hb dX2_marry_1 rfl (lv_at hl 1 rfl) ?_
  refine zcallV (ci := 2) (q0 := 0) (cq := (RX2, TX2, 9)) (As := [.int (zI a)]) (rest := []) ⟨hx, hb, hml, hown, hts⟩ hK (kX2_needPersonok l D cI cZ q hN pa sp al dg co da mb dd ah wl lo n td wn hn a (by omega)) (cwV 1 hts gX2_marry_X2_needPerson rfl rfl rfl (by decide +kernel) ⟨Nat.le_of_ble_eq_true rfl, Nat.le_of_ble_eq_true rfl⟩) hP hS hA rfl rfl rfl hl.1 rfl (Nat.le_of_ble_eq_true rfl) dX2_marry_2 ⟨Nat.zero_le _, Nat.zero_le _⟩ (fun H locs hP hS _ _ => ?_)
  refine W.eq (g2 := F0 m9 5 ls []) rfl ?_
  refine lv_aload_n hx hb dX2_marry_5 rfl (lv_at hl 0 rfl) ?_
  refine lv_iload_n hx hb dX2_marry_6 rfl (lv_at hl 2 rfl) ?_
  refine zcallV (ci := 2) (q0 := 0) (cq := (RX2, TX2, 9)) (As := [.int (zI b)]) (rest := []) ⟨hx, hb, hml, hown, hts⟩ hK (kX2_needPersonok l D cI cZ q hN pa sp al dg co da mb dd ah wl lo n td wn hn b (by omega)) (cwV 1 hts gX2_marry_X2_needPerson rfl rfl rfl (by decide +kernel) ⟨Nat.le_of_ble_eq_true rfl, Nat.le_of_ble_eq_true rfl⟩) hP hS hA rfl rfl rfl hl.1 rfl (Nat.le_of_ble_eq_true rfl) dX2_marry_7 ⟨Nat.zero_le _, Nat.zero_le _⟩ (fun H locs hP hS _ _ => ?_)
  refine W.eq (g2 := F0 m9 10 ls []) rfl ?_
  refine lv_aload_n hx hb dX2_marry_10 rfl (lv_at hl 0 rfl) ?_
  refine lv_iload_n hx hb dX2_marry_11 rfl (lv_at hl 1 rfl) ?_
  refine lv_iload_n hx hb dX2_marry_12 rfl (lv_at hl 2 rfl) ?_
  refine zcallV (ci := 2) (q0 := 0) (cq := (RX2, TX2, 9)) (As := [.int (zI a), .int (zI b)]) (rest := []) ⟨hx, hb, hml, hown, hts⟩ hK (kX2_needTwook l D cI cZ q hN pa sp al dg co da mb dd ah wl lo n td wn a b (by omega) (by omega) (by omega)) (cwV 2 hts gX2_marry_X2_needTwo rfl rfl rfl (by decide +kernel) ⟨Nat.le_of_ble_eq_true rfl, Nat.le_of_ble_eq_true rfl⟩) hP hS hA rfl rfl rfl hl.1 rfl (Nat.le_of_ble_eq_true rfl) dX2_marry_13 ⟨Nat.zero_le _, Nat.zero_le _⟩ (fun H locs hP hS _ _ => ?_)
  refine W.eq (g2 := F0 m9 16 ls []) rfl ?_
  refine lv_aload_n hx hb dX2_marry_16 rfl (lv_at hl 0 rfl) ?_
  refine lv_iload_n hx hb dX2_marry_17 rfl (lv_at hl 1 rfl) ?_
  refine zcallXV (ci := 2) (q0 := 0) (cq := (RX2, TX2, 9)) (As := [.int (zI a)]) (rest := []) ⟨hx, hb, hml, hown, hts⟩ hK (kX2_needAlivex l D hl0 cI cZ q hN pa sp al dg co da mb dd ah wl lo n td wn hal a (by omega) (by omega)) (cwV 1 hts gX2_marry_X2_needAlive rfl rfl rfl (by decide +kernel) ⟨Nat.le_of_ble_eq_true rfl, Nat.le_of_ble_eq_true rfl⟩) hP (hT.kept hS.2.1) hS hA rfl rfl rfl hl.1 rfl (Nat.le_of_ble_eq_true rfl) dX2_marry_18 ⟨Nat.le_of_ble_eq_true rfl, Nat.le_of_ble_eq_true rfl⟩ (fun ce q9 H locs hP hS _ _ hce hcv hcl => ?_)
  rw [hQ0]
  exact zoutX ht hlocks hP hS hce hcv hcl
set_option maxHeartbeats 4000000 in
set_option maxRecDepth 100000 in
theorem kX2_marryx5 (l : Launch) (D : va_G) (hl0 : l.stackTraces = false) (cI cZ : ClassId) (q : Nat → Nat) (hN : (zLC q).Nodup) (pa : Int → Int) (sp : Int → Int) (al : Int → Int) (dg : Int → Int) (co : Int → Int) (da : Int → Int) (mb : Int → Int) (dd : Int → Int) (ah : Int → Int) (wl : Int → Int) (lo : Int → Int) (n : Nat) (td : Int) (wn : Int) (hn : n ≤ 16) (hal : ∀ j : Int, 0 ≤ al j ∧ al j ≤ 1) (a : Int) (b : Int) (h1 : 0 ≤ a ∧ a < (n : Int)) (h2 : 0 ≤ b ∧ b < (n : Int)) (h3 : a ≠ b) (h4 : al a ≠ 0) (h5 : al b = 0) : zX l yX2_marry wsX2_marry ({ frames := 7, cells := 1, slots := 6, locals := 112 }) D [(cI, .int), (cZ, .boolean)] [.ref (q 0), .int (zI a), .int (zI b)] (wC cI cZ q pa sp al dg co da mb dd ah wl lo n td wn) "java/lang/IllegalStateException" (zLC q) := by
  refine vx_ofW (cc := cX2_marry) (maxL := 4) (ret := (some .int)) (by decide) rfl ?_
  intro p0 e9 s9 m9 ag9 below meth c9 s₁ B hml ht hv
  obtain ⟨hav, hP, hK, hT⟩ := hv
  have hx := B.exec
  have hb := B.bytes
  have hr := B.returns
  have hts := atoms_spec (ws := wsX2_marry) B.pre
  have hown : s9.vm.findClass RX2 = some m9.cls := findClass_of_methodNamed B.named
  have hlocks := B.notSynchronized
  have hA : ∀ a ∈ zLC q, (fun a => a ∈ zLC q) a := fun _ h => h
  have hl := lv_entry ([.ref (q 0), .int (zI a), .int (zI b)]) (n := 4) (Nat.le_of_ble_eq_true rfl)
  have hE : entryFrame m9 ag9 4 = F0 m9 0 ((lg_sl ([.ref (q 0), .int (zI a), .int (zI b)]) ++ List.replicate (4 - (lg_sl ([.ref (q 0), .int (zI a), .int (zI b)])).length) Slot.unset).toArray) [] := by rw [hav]; exact lg_entry_eq m9 _ _
  obtain ⟨Q0, hQ0⟩ : ∃ Q0, Q0 = vx_MQ below zNo (zXC D (wC cI cZ q pa sp al dg co da mb dd ah wl lo n td wn) "java/lang/IllegalStateException" (zLC q)) ag9 s9 1 6 (fun a => a ∈ zLC q) := ⟨_, rfl⟩
  show W p0 l e9 ({ frames := 7, cells := 1, slots := 6, locals := 112 }) s9 m9 ag9 below meth c9 s9.heap [] 0 0 (vx_MQ below zNo (zXC D (wC cI cZ q pa sp al dg co da mb dd ah wl lo n td wn) "java/lang/IllegalStateException" (zLC q)) ag9 s9 1 6 (fun a => a ∈ zLC q)) _
  rw [hE, ← hQ0]
  have hS : va_S (fun a => a ∈ zLC q) s9.heap s9.heap [] := va_S.rf
  generalize hH0 : s9.heap = H at hP ⊢
  have hS : va_S (fun a => a ∈ zLC q) s9.heap H [] := by rw [hH0] at hS ⊢; exact hS
  generalize (lg_sl ([.ref (q 0), .int (zI a), .int (zI b)]) ++ List.replicate (4 - (lg_sl ([.ref (q 0), .int (zI a), .int (zI b)])).length) Slot.unset).toArray = ls at hl ⊢
  have hl : lv_has ls 4 [(0, .ref (q 0)), (1, .int (zI a)), (2, .int (zI b))] := hl
  refine lv_aload_n hx hb dX2_marry_0 rfl (lv_at hl 0 rfl) ?_
  refine lv_iload_n hx hb dX2_marry_1 rfl (lv_at hl 1 rfl) ?_
  refine zcallV (ci := 2) (q0 := 0) (cq := (RX2, TX2, 9)) (As := [.int (zI a)]) (rest := []) ⟨hx, hb, hml, hown, hts⟩ hK (kX2_needPersonok l D cI cZ q hN pa sp al dg co da mb dd ah wl lo n td wn hn a (by omega)) (cwV 1 hts gX2_marry_X2_needPerson rfl rfl rfl (by decide +kernel) ⟨Nat.le_of_ble_eq_true rfl, Nat.le_of_ble_eq_true rfl⟩) hP hS hA rfl rfl rfl hl.1 rfl (Nat.le_of_ble_eq_true rfl) dX2_marry_2 ⟨Nat.zero_le _, Nat.zero_le _⟩ (fun H locs hP hS _ _ => ?_)
  refine W.eq (g2 := F0 m9 5 ls []) rfl ?_
  refine lv_aload_n hx hb dX2_marry_5 rfl (lv_at hl 0 rfl) ?_
  refine lv_iload_n hx hb dX2_marry_6 rfl (lv_at hl 2 rfl) ?_
  refine zcallV (ci := 2) (q0 := 0) (cq := (RX2, TX2, 9)) (As := [.int (zI b)]) (rest := []) ⟨hx, hb, hml, hown, hts⟩ hK (kX2_needPersonok l D cI cZ q hN pa sp al dg co da mb dd ah wl lo n td wn hn b (by omega)) (cwV 1 hts gX2_marry_X2_needPerson rfl rfl rfl (by decide +kernel) ⟨Nat.le_of_ble_eq_true rfl, Nat.le_of_ble_eq_true rfl⟩) hP hS hA rfl rfl rfl hl.1 rfl (Nat.le_of_ble_eq_true rfl) dX2_marry_7 ⟨Nat.zero_le _, Nat.zero_le _⟩ (fun H locs hP hS _ _ => ?_)
  refine W.eq (g2 := F0 m9 10 ls []) rfl ?_
  refine lv_aload_n hx hb dX2_marry_10 rfl (lv_at hl 0 rfl) ?_
  refine lv_iload_n hx hb dX2_marry_11 rfl (lv_at hl 1 rfl) ?_
  refine lv_iload_n hx hb dX2_marry_12 rfl (lv_at hl 2 rfl) ?_
  refine zcallV (ci := 2) (q0 := 0) (cq := (RX2, TX2, 9)) (As := [.int (zI a), .int (zI b)]) (rest := []) ⟨hx, hb, hml, hown, hts⟩ hK (kX2_needTwook l D cI cZ q hN pa sp al dg co da mb dd ah wl lo n td wn a b (by omega) (by omega) (by omega)) (cwV 2 hts gX2_marry_X2_needTwo rfl rfl rfl (by decide +kernel) ⟨Nat.le_of_ble_eq_true rfl, Nat.le_of_ble_eq_true rfl⟩) hP hS hA rfl rfl rfl hl.1 rfl (Nat.le_of_ble_eq_true rfl) dX2_marry_13 ⟨Nat.zero_le _, Nat.zero_le _⟩ (fun H locs hP hS _ _ => ?_)
  refine W.eq (g2 := F0 m9 16 ls []) rfl ?_
  refine lv_aload_n hx hb dX2_marry_16 rfl (lv_at hl 0 rfl) ?_
  refine lv_iload_n hx hb dX2_marry_17 rfl (lv_at hl 1 rfl) ?_
  refine zcallV (ci := 2) (q0 := 0) (cq := (RX2, TX2, 9)) (As := [.int (zI a)]) (rest := []) ⟨hx, hb, hml, hown, hts⟩ hK (kX2_needAliveok l D cI cZ q hN pa sp al dg co da mb dd ah wl lo n td wn hal a (by omega) (by omega)) (cwV 1 hts gX2_marry_X2_needAlive rfl rfl rfl (by decide +kernel) ⟨Nat.le_of_ble_eq_true rfl, Nat.le_of_ble_eq_true rfl⟩) hP hS hA rfl rfl rfl hl.1 rfl (Nat.le_of_ble_eq_true rfl) dX2_marry_18 ⟨Nat.zero_le _, Nat.zero_le _⟩ (fun H locs hP hS _ _ => ?_)
  refine W.eq (g2 := F0 m9 21 ls []) rfl ?_
  refine lv_aload_n hx hb dX2_marry_21 rfl (lv_at hl 0 rfl) ?_
  refine lv_iload_n hx hb dX2_marry_22 rfl (lv_at hl 2 rfl) ?_
  refine zcallXV (ci := 2) (q0 := 0) (cq := (RX2, TX2, 9)) (As := [.int (zI b)]) (rest := []) ⟨hx, hb, hml, hown, hts⟩ hK (kX2_needAlivex l D hl0 cI cZ q hN pa sp al dg co da mb dd ah wl lo n td wn hal b (by omega) (by omega)) (cwV 1 hts gX2_marry_X2_needAlive rfl rfl rfl (by decide +kernel) ⟨Nat.le_of_ble_eq_true rfl, Nat.le_of_ble_eq_true rfl⟩) hP (hT.kept hS.2.1) hS hA rfl rfl rfl hl.1 rfl (Nat.le_of_ble_eq_true rfl) dX2_marry_23 ⟨Nat.le_of_ble_eq_true rfl, Nat.le_of_ble_eq_true rfl⟩ (fun ce q9 H locs hP hS _ _ hce hcv hcl => ?_)
  rw [hQ0]
  exact zoutX ht hlocks hP hS hce hcv hcl
set_option maxHeartbeats 4000000 in
set_option maxRecDepth 100000 in
theorem kX2_marryx6 (l : Launch) (D : va_G) (hl0 : l.stackTraces = false) (cI cZ : ClassId) (q : Nat → Nat) (hN : (zLC q).Nodup) (pa : Int → Int) (sp : Int → Int) (al : Int → Int) (dg : Int → Int) (co : Int → Int) (da : Int → Int) (mb : Int → Int) (dd : Int → Int) (ah : Int → Int) (wl : Int → Int) (lo : Int → Int) (n : Nat) (td : Int) (wn : Int) (hn : n ≤ 16) (hsp : ∀ j : Int, -1 ≤ sp j ∧ sp j ≤ 15) (hal : ∀ j : Int, 0 ≤ al j ∧ al j ≤ 1) (hpa : ∀ j : Int, -1 ≤ pa j ∧ pa j ≤ 15) (a : Int) (b : Int) (h1 : 0 ≤ a ∧ a < (n : Int)) (h2 : 0 ≤ b ∧ b < (n : Int)) (h3 : a ≠ b) (h4 : al a ≠ 0) (h5 : al b ≠ 0) (h6 : (sp a ≠ -1 ∧ al (sp a) ≠ 0) ∨ (sp b ≠ -1 ∧ al (sp b) ≠ 0)) : zX l yX2_marry wsX2_marry ({ frames := 7, cells := 1, slots := 6, locals := 112 }) D [(cI, .int), (cZ, .boolean)] [.ref (q 0), .int (zI a), .int (zI b)] (wC cI cZ q pa sp al dg co da mb dd ah wl lo n td wn) "java/lang/IllegalStateException" (zLC q) := by
  refine vx_ofW (cc := cX2_marry) (maxL := 4) (ret := (some .int)) (by decide) rfl ?_
  intro p0 e9 s9 m9 ag9 below meth c9 s₁ B hml ht hv
  obtain ⟨hav, hP, hK, hT⟩ := hv
  have hx := B.exec
  have hb := B.bytes
  have hr := B.returns
  have hts := atoms_spec (ws := wsX2_marry) B.pre
  have hown : s9.vm.findClass RX2 = some m9.cls := findClass_of_methodNamed B.named
  have hlocks := B.notSynchronized
  have hA : ∀ a ∈ zLC q, (fun a => a ∈ zLC q) a := fun _ h => h
  have hin2 : ∀ w ∈ u_ws RX2 TX2 9, w ∈ wsX2_marry := by decide +kernel
  have hl := lv_entry ([.ref (q 0), .int (zI a), .int (zI b)]) (n := 4) (Nat.le_of_ble_eq_true rfl)
  have hE : entryFrame m9 ag9 4 = F0 m9 0 ((lg_sl ([.ref (q 0), .int (zI a), .int (zI b)]) ++ List.replicate (4 - (lg_sl ([.ref (q 0), .int (zI a), .int (zI b)])).length) Slot.unset).toArray) [] := by rw [hav]; exact lg_entry_eq m9 _ _
  obtain ⟨Q0, hQ0⟩ : ∃ Q0, Q0 = vx_MQ below zNo (zXC D (wC cI cZ q pa sp al dg co da mb dd ah wl lo n td wn) "java/lang/IllegalStateException" (zLC q)) ag9 s9 1 6 (fun a => a ∈ zLC q) := ⟨_, rfl⟩
  show W p0 l e9 ({ frames := 7, cells := 1, slots := 6, locals := 112 }) s9 m9 ag9 below meth c9 s9.heap [] 0 0 (vx_MQ below zNo (zXC D (wC cI cZ q pa sp al dg co da mb dd ah wl lo n td wn) "java/lang/IllegalStateException" (zLC q)) ag9 s9 1 6 (fun a => a ∈ zLC q)) _
  rw [hE, ← hQ0]
  have hS : va_S (fun a => a ∈ zLC q) s9.heap s9.heap [] := va_S.rf
  generalize hH0 : s9.heap = H at hP ⊢
  have hS : va_S (fun a => a ∈ zLC q) s9.heap H [] := by rw [hH0] at hS ⊢; exact hS
  generalize (lg_sl ([.ref (q 0), .int (zI a), .int (zI b)]) ++ List.replicate (4 - (lg_sl ([.ref (q 0), .int (zI a), .int (zI b)])).length) Slot.unset).toArray = ls at hl ⊢
  have hl : lv_has ls 4 [(0, .ref (q 0)), (1, .int (zI a)), (2, .int (zI b))] := hl
  refine lv_aload_n hx hb dX2_marry_0 rfl (lv_at hl 0 rfl) ?_
  refine lv_iload_n hx hb dX2_marry_1 rfl (lv_at hl 1 rfl) ?_
  refine zcallV (ci := 2) (q0 := 0) (cq := (RX2, TX2, 9)) (As := [.int (zI a)]) (rest := []) ⟨hx, hb, hml, hown, hts⟩ hK (kX2_needPersonok l D cI cZ q hN pa sp al dg co da mb dd ah wl lo n td wn hn a (by omega)) (cwV 1 hts gX2_marry_X2_needPerson rfl rfl rfl (by decide +kernel) ⟨Nat.le_of_ble_eq_true rfl, Nat.le_of_ble_eq_true rfl⟩) hP hS hA rfl rfl rfl hl.1 rfl (Nat.le_of_ble_eq_true rfl) dX2_marry_2 ⟨Nat.zero_le _, Nat.zero_le _⟩ (fun H locs hP hS _ _ => ?_)
  refine W.eq (g2 := F0 m9 5 ls []) rfl ?_
  refine lv_aload_n hx hb dX2_marry_5 rfl (lv_at hl 0 rfl) ?_
  refine lv_iload_n hx hb dX2_marry_6 rfl (lv_at hl 2 rfl) ?_
  refine zcallV (ci := 2) (q0 := 0) (cq := (RX2, TX2, 9)) (As := [.int (zI b)]) (rest := []) ⟨hx, hb, hml, hown, hts⟩ hK (kX2_needPersonok l D cI cZ q hN pa sp al dg co da mb dd ah wl lo n td wn hn b (by omega)) (cwV 1 hts gX2_marry_X2_needPerson rfl rfl rfl (by decide +kernel) ⟨Nat.le_of_ble_eq_true rfl, Nat.le_of_ble_eq_true rfl⟩) hP hS hA rfl rfl rfl hl.1 rfl (Nat.le_of_ble_eq_true rfl) dX2_marry_7 ⟨Nat.zero_le _, Nat.zero_le _⟩ (fun H locs hP hS _ _ => ?_)
  refine W.eq (g2 := F0 m9 10 ls []) rfl ?_
  refine lv_aload_n hx hb dX2_marry_10 rfl (lv_at hl 0 rfl) ?_
  refine lv_iload_n hx hb dX2_marry_11 rfl (lv_at hl 1 rfl) ?_
  refine lv_iload_n hx hb dX2_marry_12 rfl (lv_at hl 2 rfl) ?_
  refine zcallV (ci := 2) (q0 := 0) (cq := (RX2, TX2, 9)) (As := [.int (zI a), .int (zI b)]) (rest := []) ⟨hx, hb, hml, hown, hts⟩ hK (kX2_needTwook l D cI cZ q hN pa sp al dg co da mb dd ah wl lo n td wn a b (by omega) (by omega) (by omega)) (cwV 2 hts gX2_marry_X2_needTwo rfl rfl rfl (by decide +kernel) ⟨Nat.le_of_ble_eq_true rfl, Nat.le_of_ble_eq_true rfl⟩) hP hS hA rfl rfl rfl hl.1 rfl (Nat.le_of_ble_eq_true rfl) dX2_marry_13 ⟨Nat.zero_le _, Nat.zero_le _⟩ (fun H locs hP hS _ _ => ?_)
  refine W.eq (g2 := F0 m9 16 ls []) rfl ?_
  refine lv_aload_n hx hb dX2_marry_16 rfl (lv_at hl 0 rfl) ?_
  refine lv_iload_n hx hb dX2_marry_17 rfl (lv_at hl 1 rfl) ?_
  refine zcallV (ci := 2) (q0 := 0) (cq := (RX2, TX2, 9)) (As := [.int (zI a)]) (rest := []) ⟨hx, hb, hml, hown, hts⟩ hK (kX2_needAliveok l D cI cZ q hN pa sp al dg co da mb dd ah wl lo n td wn hal a (by omega) (by omega)) (cwV 1 hts gX2_marry_X2_needAlive rfl rfl rfl (by decide +kernel) ⟨Nat.le_of_ble_eq_true rfl, Nat.le_of_ble_eq_true rfl⟩) hP hS hA rfl rfl rfl hl.1 rfl (Nat.le_of_ble_eq_true rfl) dX2_marry_18 ⟨Nat.zero_le _, Nat.zero_le _⟩ (fun H locs hP hS _ _ => ?_)
  refine W.eq (g2 := F0 m9 21 ls []) rfl ?_
  refine lv_aload_n hx hb dX2_marry_21 rfl (lv_at hl 0 rfl) ?_
  refine lv_iload_n hx hb dX2_marry_22 rfl (lv_at hl 2 rfl) ?_
  refine zcallV (ci := 2) (q0 := 0) (cq := (RX2, TX2, 9)) (As := [.int (zI b)]) (rest := []) ⟨hx, hb, hml, hown, hts⟩ hK (kX2_needAliveok l D cI cZ q hN pa sp al dg co da mb dd ah wl lo n td wn hal b (by omega) (by omega)) (cwV 1 hts gX2_marry_X2_needAlive rfl rfl rfl (by decide +kernel) ⟨Nat.le_of_ble_eq_true rfl, Nat.le_of_ble_eq_true rfl⟩) hP hS hA rfl rfl rfl hl.1 rfl (Nat.le_of_ble_eq_true rfl) dX2_marry_23 ⟨Nat.zero_le _, Nat.zero_le _⟩ (fun H locs hP hS _ _ => ?_)
  refine W.eq (g2 := F0 m9 26 ls []) rfl ?_
  refine lv_aload_n hx hb dX2_marry_26 rfl (lv_at hl 0 rfl) ?_
  refine va_get (D := D) (ci := 2) (v := .ref (q 1)) (C := RX2) (T := TX2) (N := 9) hx hb hts hin2 hown hK hP 0 rfl rfl 0 (by decide) (hts (.fieldLink RX2 12 "MourningRibbons" "family" "LMourningRibbons$Family;") (by decide +kernel)) (fun _ h9 => h9) rfl dX2_marry_27 ?_
  refine lv_iload_n hx hb dX2_marry_30 rfl (lv_at hl 1 rfl) ?_
  refine zcallV (ci := 1) (q0 := 1) (cq := (RX1, TX1, 5)) (As := [.int (zI a)]) (rest := []) ⟨hx, hb, hml, hown, hts⟩ hK (kX1_hasLivingSpouse l D cI cZ q hN pa sp al dg co da mb dd ah wl lo n td wn hsp hal a (by omega)) (cwV 1 hts gX2_marry_X1_hasLivingSpouse rfl rfl rfl (by decide +kernel) ⟨Nat.le_of_ble_eq_true rfl, Nat.le_of_ble_eq_true rfl⟩) hP hS hA rfl rfl rfl hl.1 rfl (Nat.le_of_ble_eq_true rfl) dX2_marry_31 ⟨Nat.zero_le _, Nat.zero_le _⟩ (fun H locs hP hS _ _ => ?_)
  refine W.eq (g2 := F0 m9 34 ls [.int (zI (bI (sp a ≠ -1 ∧ al (sp a) ≠ 0)))]) rfl ?_
  refine zr_if_ne (tgt := 48) hx hb dX2_marry_34 (by decide) (bI_rg _) (fun c_1 => ?_) (fun c_1 => ?_)
  · have c_1 := bI_n c_1
    obtain ⟨sa, hstr⟩ := hT.2.2.1 (63, "one of them is married to a living one") (by decide +kernel)
    rw [hQ0]
    exact zthrowN (names := ["java/lang/RuntimeException", "java/lang/Exception"]) (cls := "java/lang/IllegalStateException") (ic := 65) hx hb hl0 hown (by decide +kernel) (by decide +kernel) (hts (.classLink RX2 61 "java/lang/IllegalStateException") (by decide +kernel)) (hts (.initialized "java/lang/IllegalStateException") (by decide +kernel)) hstr (vx_hat (fun w h => hts w ((by decide +kernel : ∀ w ∈ (vx_atS RX2 65 "java/lang/IllegalStateException" ["java/lang/RuntimeException", "java/lang/Exception"]).filter goodWord, w ∈ wsX2_marry) w h)) (by decide +kernel : ∀ w ∈ (vx_atS RX2 65 "java/lang/IllegalStateException" ["java/lang/RuntimeException", "java/lang/Exception"]).filter (fun w => !goodWord w), w ∈ zBad) (hT.2.2.2.at (Vm.Alike.refl _) _)) (by decide +kernel) hP hT hS (by rw [hml, hl.1]) dX2_marry_48 dX2_marry_51 dX2_marry_52 dX2_marry_54 dX2_marry_57 ht (Nat.le_of_ble_eq_true rfl) (Nat.le_of_ble_eq_true rfl) (Nat.le_of_ble_eq_true rfl) (Nat.le_of_ble_eq_true rfl) hlocks
  · have c_1 := bI_z c_1
    refine lv_aload_n hx hb dX2_marry_37 rfl (lv_at hl 0 rfl) ?_
    refine va_get (D := D) (ci := 2) (v := .ref (q 1)) (C := RX2) (T := TX2) (N := 9) hx hb hts hin2 hown hK hP 0 rfl rfl 0 (by decide) (hts (.fieldLink RX2 12 "MourningRibbons" "family" "LMourningRibbons$Family;") (by decide +kernel)) (fun _ h9 => h9) rfl dX2_marry_38 ?_
    refine lv_iload_n hx hb dX2_marry_41 rfl (lv_at hl 2 rfl) ?_
    refine zcallV (ci := 1) (q0 := 1) (cq := (RX1, TX1, 5)) (As := [.int (zI b)]) (rest := []) ⟨hx, hb, hml, hown, hts⟩ hK (kX1_hasLivingSpouse l D cI cZ q hN pa sp al dg co da mb dd ah wl lo n td wn hsp hal b (by omega)) (cwV 1 hts gX2_marry_X1_hasLivingSpouse rfl rfl rfl (by decide +kernel) ⟨Nat.le_of_ble_eq_true rfl, Nat.le_of_ble_eq_true rfl⟩) hP hS hA rfl rfl rfl hl.1 rfl (Nat.le_of_ble_eq_true rfl) dX2_marry_42 ⟨Nat.zero_le _, Nat.zero_le _⟩ (fun H locs hP hS _ _ => ?_)
    refine W.eq (g2 := F0 m9 45 ls [.int (zI (bI (sp b ≠ -1 ∧ al (sp b) ≠ 0)))]) rfl ?_
    refine zr_if_eq (tgt := 58) hx hb dX2_marry_45 (by decide) (bI_rg _) (fun c_2 => ?_) (fun c_2 => ?_)
    · have c_2 := bI_z c_2
      refine lv_aload_n hx hb dX2_marry_58 rfl (lv_at hl 0 rfl) ?_
      refine va_get (D := D) (ci := 2) (v := .ref (q 1)) (C := RX2) (T := TX2) (N := 9) hx hb hts hin2 hown hK hP 0 rfl rfl 0 (by decide) (hts (.fieldLink RX2 12 "MourningRibbons" "family" "LMourningRibbons$Family;") (by decide +kernel)) (fun _ h9 => h9) rfl dX2_marry_59 ?_
      refine lv_iload_n hx hb dX2_marry_62 rfl (lv_at hl 1 rfl) ?_
      exfalso; omega
    · have c_2 := bI_n c_2
      obtain ⟨sa, hstr⟩ := hT.2.2.1 (63, "one of them is married to a living one") (by decide +kernel)
      rw [hQ0]
      exact zthrowN (names := ["java/lang/RuntimeException", "java/lang/Exception"]) (cls := "java/lang/IllegalStateException") (ic := 65) hx hb hl0 hown (by decide +kernel) (by decide +kernel) (hts (.classLink RX2 61 "java/lang/IllegalStateException") (by decide +kernel)) (hts (.initialized "java/lang/IllegalStateException") (by decide +kernel)) hstr (vx_hat (fun w h => hts w ((by decide +kernel : ∀ w ∈ (vx_atS RX2 65 "java/lang/IllegalStateException" ["java/lang/RuntimeException", "java/lang/Exception"]).filter goodWord, w ∈ wsX2_marry) w h)) (by decide +kernel : ∀ w ∈ (vx_atS RX2 65 "java/lang/IllegalStateException" ["java/lang/RuntimeException", "java/lang/Exception"]).filter (fun w => !goodWord w), w ∈ zBad) (hT.2.2.2.at (Vm.Alike.refl _) _)) (by decide +kernel) hP hT hS (by rw [hml, hl.1]) dX2_marry_48 dX2_marry_51 dX2_marry_52 dX2_marry_54 dX2_marry_57 ht (Nat.le_of_ble_eq_true rfl) (Nat.le_of_ble_eq_true rfl) (Nat.le_of_ble_eq_true rfl) (Nat.le_of_ble_eq_true rfl) hlocks
set_option maxHeartbeats 4000000 in
set_option maxRecDepth 100000 in
theorem kX2_diex2 (l : Launch) (D : va_G) (hl0 : l.stackTraces = false) (cI cZ : ClassId) (q : Nat → Nat) (hN : (zLC q).Nodup) (pa : Int → Int) (sp : Int → Int) (al : Int → Int) (dg : Int → Int) (co : Int → Int) (da : Int → Int) (mb : Int → Int) (dd : Int → Int) (ah : Int → Int) (wl : Int → Int) (lo : Int → Int) (n : Nat) (td : Int) (wn : Int) (hn : n ≤ 16) (hal : ∀ j : Int, 0 ≤ al j ∧ al j ≤ 1) (p : Int) (h1 : 0 ≤ p ∧ p < (n : Int)) (h2 : al p = 0) : zX l yX2_die wsX2_die ({ frames := 7, cells := 1, slots := 6, locals := 111 }) D [(cI, .int), (cZ, .boolean)] [.ref (q 0), .int (zI p)] (wC cI cZ q pa sp al dg co da mb dd ah wl lo n td wn) "java/lang/IllegalStateException" (zLC q) := by
  refine vx_ofW (cc := cX2_die) (maxL := 2) (ret := (some .int)) (by decide) rfl ?_
  intro p0 e9 s9 m9 ag9 below meth c9 s₁ B hml ht hv
  obtain ⟨hav, hP, hK, hT⟩ := hv
  have hx := B.exec
  have hb := B.bytes
  have hr := B.returns
  have hts := atoms_spec (ws := wsX2_die) B.pre
  have hown : s9.vm.findClass RX2 = some m9.cls := findClass_of_methodNamed B.named
  have hlocks := B.notSynchronized
  have hA : ∀ a ∈ zLC q, (fun a => a ∈ zLC q) a := fun _ h => h
  have hl := lv_entry ([.ref (q 0), .int (zI p)]) (n := 2) (Nat.le_of_ble_eq_true rfl)
  have hE : entryFrame m9 ag9 2 = F0 m9 0 ((lg_sl ([.ref (q 0), .int (zI p)]) ++ List.replicate (2 - (lg_sl ([.ref (q 0), .int (zI p)])).length) Slot.unset).toArray) [] := by rw [hav]; exact lg_entry_eq m9 _ _
  obtain ⟨Q0, hQ0⟩ : ∃ Q0, Q0 = vx_MQ below zNo (zXC D (wC cI cZ q pa sp al dg co da mb dd ah wl lo n td wn) "java/lang/IllegalStateException" (zLC q)) ag9 s9 1 6 (fun a => a ∈ zLC q) := ⟨_, rfl⟩
  show W p0 l e9 ({ frames := 7, cells := 1, slots := 6, locals := 111 }) s9 m9 ag9 below meth c9 s9.heap [] 0 0 (vx_MQ below zNo (zXC D (wC cI cZ q pa sp al dg co da mb dd ah wl lo n td wn) "java/lang/IllegalStateException" (zLC q)) ag9 s9 1 6 (fun a => a ∈ zLC q)) _
  rw [hE, ← hQ0]
  have hS : va_S (fun a => a ∈ zLC q) s9.heap s9.heap [] := va_S.rf
  generalize hH0 : s9.heap = H at hP ⊢
  have hS : va_S (fun a => a ∈ zLC q) s9.heap H [] := by rw [hH0] at hS ⊢; exact hS
  generalize (lg_sl ([.ref (q 0), .int (zI p)]) ++ List.replicate (2 - (lg_sl ([.ref (q 0), .int (zI p)])).length) Slot.unset).toArray = ls at hl ⊢
  have hl : lv_has ls 2 [(0, .ref (q 0)), (1, .int (zI p))] := hl
  refine lv_aload_n hx hb dX2_die_0 rfl (lv_at hl 0 rfl) ?_
  refine lv_iload_n hx hb dX2_die_1 rfl (lv_at hl 1 rfl) ?_
  refine zcallV (ci := 2) (q0 := 0) (cq := (RX2, TX2, 9)) (As := [.int (zI p)]) (rest := []) ⟨hx, hb, hml, hown, hts⟩ hK (kX2_needPersonok l D cI cZ q hN pa sp al dg co da mb dd ah wl lo n td wn hn p (by omega)) (cwV 1 hts gX2_die_X2_needPerson rfl rfl rfl (by decide +kernel) ⟨Nat.le_of_ble_eq_true rfl, Nat.le_of_ble_eq_true rfl⟩) hP hS hA rfl rfl rfl hl.1 rfl (Nat.le_of_ble_eq_true rfl) dX2_die_2 ⟨Nat.zero_le _, Nat.zero_le _⟩ (fun H locs hP hS _ _ => ?_)
  refine W.eq (g2 := F0 m9 5 ls []) rfl ?_
  refine lv_aload_n hx hb dX2_die_5 rfl (lv_at hl 0 rfl) ?_
  refine lv_iload_n hx hb dX2_die_6 rfl (lv_at hl 1 rfl) ?_
  refine zcallXV (ci := 2) (q0 := 0) (cq := (RX2, TX2, 9)) (As := [.int (zI p)]) (rest := []) ⟨hx, hb, hml, hown, hts⟩ hK (kX2_needAlivex l D hl0 cI cZ q hN pa sp al dg co da mb dd ah wl lo n td wn hal p (by omega) (by omega)) (cwV 1 hts gX2_die_X2_needAlive rfl rfl rfl (by decide +kernel) ⟨Nat.le_of_ble_eq_true rfl, Nat.le_of_ble_eq_true rfl⟩) hP (hT.kept hS.2.1) hS hA rfl rfl rfl hl.1 rfl (Nat.le_of_ble_eq_true rfl) dX2_die_7 ⟨Nat.le_of_ble_eq_true rfl, Nat.le_of_ble_eq_true rfl⟩ (fun ce q9 H locs hP hS _ _ hce hcv hcl => ?_)
  rw [hQ0]
  exact zoutX ht hlocks hP hS hce hcv hcl
set_option maxHeartbeats 4000000 in
set_option maxRecDepth 100000 in
theorem kX2_releasex3 (l : Launch) (D : va_G) (hl0 : l.stackTraces = false) (cI cZ : ClassId) (q : Nat → Nat) (hN : (zLC q).Nodup) (pa : Int → Int) (sp : Int → Int) (al : Int → Int) (dg : Int → Int) (co : Int → Int) (da : Int → Int) (mb : Int → Int) (dd : Int → Int) (ah : Int → Int) (wl : Int → Int) (lo : Int → Int) (n : Nat) (td : Int) (wn : Int) (hn : n ≤ 16) (hda : ∀ j : Int, 0 ≤ da j ∧ da j ≤ 60) (hmb : ∀ j : Int, 0 ≤ mb j ∧ mb j ≤ 4) (hdd : ∀ j : Int, 0 ≤ dd j ∧ dd j ≤ 1000000) (htd : 0 ≤ td ∧ td ≤ 1000000) (p : Int) (d : Int) (h1 : 0 ≤ p ∧ p < (n : Int)) (h2 : 0 ≤ d ∧ d < (n : Int)) (h3 : lf da mb dd td p d = 0) : zX l yX2_release wsX2_release ({ frames := 7, cells := 1, slots := 6, locals := 111 }) D [(cI, .int), (cZ, .boolean)] [.ref (q 0), .int (zI p), .int (zI d)] (wC cI cZ q pa sp al dg co da mb dd ah wl lo n td wn) "java/lang/IllegalStateException" (zLC q) := by
  refine vx_ofW (cc := cX2_release) (maxL := 4) (ret := (some .int)) (by decide) rfl ?_
  intro p0 e9 s9 m9 ag9 below meth c9 s₁ B hml ht hv
  obtain ⟨hav, hP, hK, hT⟩ := hv
  have hx := B.exec
  have hb := B.bytes
  have hr := B.returns
  have hts := atoms_spec (ws := wsX2_release) B.pre
  have hown : s9.vm.findClass RX2 = some m9.cls := findClass_of_methodNamed B.named
  have hlocks := B.notSynchronized
  have hA : ∀ a ∈ zLC q, (fun a => a ∈ zLC q) a := fun _ h => h
  have hin2 : ∀ w ∈ u_ws RX2 TX2 9, w ∈ wsX2_release := by decide +kernel
  have hl := lv_entry ([.ref (q 0), .int (zI p), .int (zI d)]) (n := 4) (Nat.le_of_ble_eq_true rfl)
  have hE : entryFrame m9 ag9 4 = F0 m9 0 ((lg_sl ([.ref (q 0), .int (zI p), .int (zI d)]) ++ List.replicate (4 - (lg_sl ([.ref (q 0), .int (zI p), .int (zI d)])).length) Slot.unset).toArray) [] := by rw [hav]; exact lg_entry_eq m9 _ _
  obtain ⟨Q0, hQ0⟩ : ∃ Q0, Q0 = vx_MQ below zNo (zXC D (wC cI cZ q pa sp al dg co da mb dd ah wl lo n td wn) "java/lang/IllegalStateException" (zLC q)) ag9 s9 1 6 (fun a => a ∈ zLC q) := ⟨_, rfl⟩
  show W p0 l e9 ({ frames := 7, cells := 1, slots := 6, locals := 111 }) s9 m9 ag9 below meth c9 s9.heap [] 0 0 (vx_MQ below zNo (zXC D (wC cI cZ q pa sp al dg co da mb dd ah wl lo n td wn) "java/lang/IllegalStateException" (zLC q)) ag9 s9 1 6 (fun a => a ∈ zLC q)) _
  rw [hE, ← hQ0]
  have hS : va_S (fun a => a ∈ zLC q) s9.heap s9.heap [] := va_S.rf
  generalize hH0 : s9.heap = H at hP ⊢
  have hS : va_S (fun a => a ∈ zLC q) s9.heap H [] := by rw [hH0] at hS ⊢; exact hS
  generalize (lg_sl ([.ref (q 0), .int (zI p), .int (zI d)]) ++ List.replicate (4 - (lg_sl ([.ref (q 0), .int (zI p), .int (zI d)])).length) Slot.unset).toArray = ls at hl ⊢
  have hl : lv_has ls 4 [(0, .ref (q 0)), (1, .int (zI p)), (2, .int (zI d))] := hl
  refine lv_aload_n hx hb dX2_release_0 rfl (lv_at hl 0 rfl) ?_
  refine lv_iload_n hx hb dX2_release_1 rfl (lv_at hl 1 rfl) ?_
  refine zcallV (ci := 2) (q0 := 0) (cq := (RX2, TX2, 9)) (As := [.int (zI p)]) (rest := []) ⟨hx, hb, hml, hown, hts⟩ hK (kX2_needPersonok l D cI cZ q hN pa sp al dg co da mb dd ah wl lo n td wn hn p (by omega)) (cwV 1 hts gX2_release_X2_needPerson rfl rfl rfl (by decide +kernel) ⟨Nat.le_of_ble_eq_true rfl, Nat.le_of_ble_eq_true rfl⟩) hP hS hA rfl rfl rfl hl.1 rfl (Nat.le_of_ble_eq_true rfl) dX2_release_2 ⟨Nat.zero_le _, Nat.zero_le _⟩ (fun H locs hP hS _ _ => ?_)
  refine W.eq (g2 := F0 m9 5 ls []) rfl ?_
  refine lv_aload_n hx hb dX2_release_5 rfl (lv_at hl 0 rfl) ?_
  refine lv_iload_n hx hb dX2_release_6 rfl (lv_at hl 2 rfl) ?_
  refine zcallV (ci := 2) (q0 := 0) (cq := (RX2, TX2, 9)) (As := [.int (zI d)]) (rest := []) ⟨hx, hb, hml, hown, hts⟩ hK (kX2_needPersonok l D cI cZ q hN pa sp al dg co da mb dd ah wl lo n td wn hn d (by omega)) (cwV 1 hts gX2_release_X2_needPerson rfl rfl rfl (by decide +kernel) ⟨Nat.le_of_ble_eq_true rfl, Nat.le_of_ble_eq_true rfl⟩) hP hS hA rfl rfl rfl hl.1 rfl (Nat.le_of_ble_eq_true rfl) dX2_release_7 ⟨Nat.zero_le _, Nat.zero_le _⟩ (fun H locs hP hS _ _ => ?_)
  refine W.eq (g2 := F0 m9 10 ls []) rfl ?_
  refine lv_aload_n hx hb dX2_release_10 rfl (lv_at hl 0 rfl) ?_
  refine lv_iload_n hx hb dX2_release_11 rfl (lv_at hl 1 rfl) ?_
  refine lv_iload_n hx hb dX2_release_12 rfl (lv_at hl 2 rfl) ?_
  refine zcallV (ci := 2) (q0 := 0) (cq := (RX2, TX2, 9)) (As := [.int (zI p), .int (zI d)]) (rest := []) ⟨hx, hb, hml, hown, hts⟩ hK (kX2_leftFor l D cI cZ q hN pa sp al dg co da mb dd ah wl lo n td wn hda hmb hdd htd p d (by omega) (by omega)) (cwV 2 hts gX2_release_X2_leftFor rfl rfl rfl (by decide +kernel) ⟨Nat.le_of_ble_eq_true rfl, Nat.le_of_ble_eq_true rfl⟩) hP hS hA rfl rfl rfl hl.1 rfl (Nat.le_of_ble_eq_true rfl) dX2_release_13 ⟨Nat.zero_le _, Nat.zero_le _⟩ (fun H locs hP hS _ _ => ?_)
  refine W.eq (g2 := F0 m9 16 ls [.int (zI (lf da mb dd td p d))]) rfl ?_
  have f_1 := lf_180 hda hdd htd mb p d
  refine lv_istore_n (lv' := [(3, .int (zI (lf da mb dd td p d))), (0, .ref (q 0)), (1, .int (zI p)), (2, .int (zI d))]) hx hb dX2_release_16 rfl hl (by decide) rfl (fun ls hl => ?_)
  refine lv_iload_n hx hb dX2_release_17 rfl (lv_at hl 0 rfl) ?_
  refine zr_if_ne (tgt := 31) hx hb dX2_release_18 (by decide) ⟨by omega, by omega⟩ (fun c_2 => ?_) (fun c_2 => ?_)
  · have c_2 := c_2
    refine lv_aload_n hx hb dX2_release_31 rfl (lv_at hl 1 rfl) ?_
    refine va_get (D := D) (ci := 2) (v := .ref (q 3)) (C := RX2) (T := TX2) (N := 9) hx hb hts hin2 hown hK hP 0 rfl rfl 2 (by decide) (hts (.fieldLink RX2 23 "MourningRibbons" "mournedBy" "[I") (by decide +kernel)) (fun _ h9 => h9) rfl dX2_release_32 ?_
    refine lv_iload_n hx hb dX2_release_35 rfl (lv_at hl 2 rfl) ?_
    refine lv_iload_n hx hb dX2_release_36 rfl (lv_at hl 3 rfl) ?_
    exfalso; omega
  · have c_2 := c_2
    obtain ⟨sa, hstr⟩ := hT.2.2.1 (121, "this person does not mourn that one today") (by decide +kernel)
    rw [hQ0]
    exact zthrowN (names := ["java/lang/RuntimeException", "java/lang/Exception"]) (cls := "java/lang/IllegalStateException") (ic := 65) hx hb hl0 hown (by decide +kernel) (by decide +kernel) (hts (.classLink RX2 61 "java/lang/IllegalStateException") (by decide +kernel)) (hts (.initialized "java/lang/IllegalStateException") (by decide +kernel)) hstr (vx_hat (fun w h => hts w ((by decide +kernel : ∀ w ∈ (vx_atS RX2 65 "java/lang/IllegalStateException" ["java/lang/RuntimeException", "java/lang/Exception"]).filter goodWord, w ∈ wsX2_release) w h)) (by decide +kernel : ∀ w ∈ (vx_atS RX2 65 "java/lang/IllegalStateException" ["java/lang/RuntimeException", "java/lang/Exception"]).filter (fun w => !goodWord w), w ∈ zBad) (hT.2.2.2.at (Vm.Alike.refl _) _)) (by decide +kernel) hP hT hS (by rw [hml, hl.1]) dX2_release_21 dX2_release_24 dX2_release_25 dX2_release_27 dX2_release_30 ht (Nat.le_of_ble_eq_true rfl) (Nat.le_of_ble_eq_true rfl) (Nat.le_of_ble_eq_true rfl) (Nat.le_of_ble_eq_true rfl) hlocks
