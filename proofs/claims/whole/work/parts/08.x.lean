set_option maxHeartbeats 4000000 in
set_option maxRecDepth 100000 in
theorem kX2_needPersonx (l : Launch) (D : va_G) (hl0 : l.stackTraces = false) (cI cZ : ClassId) (q : Nat → Nat) (hN : (zLC q).Nodup) (pa : Int → Int) (sp : Int → Int) (al : Int → Int) (dg : Int → Int) (co : Int → Int) (da : Int → Int) (mb : Int → Int) (dd : Int → Int) (ah : Int → Int) (wl : Int → Int) (lo : Int → Int) (n : Nat) (td : Int) (wn : Int) (hn : n ≤ 16) (p : Int) (h0 : -2147483648 ≤ p ∧ p ≤ 2147483647) (h1 : ¬ (0 ≤ p ∧ p < (n : Int))) : zX l yX2_needPerson wsX2_needPerson ({ frames := 6, cells := 1, slots := 6, locals := 90 }) D [(cI, .int), (cZ, .boolean)] [.ref (q 0), .int (zI p)] (wC cI cZ q pa sp al dg co da mb dd ah wl lo n td wn) "java/lang/IndexOutOfBoundsException" (zLC q) := by
  refine vx_ofW (cc := cX2_needPerson) (maxL := 2) (ret := none) (by decide) rfl ?_
  intro p0 e9 s9 m9 ag9 below meth c9 s₁ B hml ht hv
  obtain ⟨hav, hP, hK, hT⟩ := hv
  have hx := B.exec
  have hb := B.bytes
  have hr := B.returns
  have hts := atoms_spec (ws := wsX2_needPerson) B.pre
  have hown : s9.vm.findClass RX2 = some m9.cls := findClass_of_methodNamed B.named
  have hlocks := B.notSynchronized
  have hA : ∀ a ∈ zLC q, (fun a => a ∈ zLC q) a := fun _ h => h
  have hin1 : ∀ w ∈ u_ws RX1 TX1 5, w ∈ wsX2_needPerson := by decide +kernel
  have hin2 : ∀ w ∈ u_ws RX2 TX2 9, w ∈ wsX2_needPerson := by decide +kernel
  have hl := lv_entry ([.ref (q 0), .int (zI p)]) (n := 2) (Nat.le_of_ble_eq_true rfl)
  have hE : entryFrame m9 ag9 2 = F0 m9 0 ((lg_sl ([.ref (q 0), .int (zI p)]) ++ List.replicate (2 - (lg_sl ([.ref (q 0), .int (zI p)])).length) Slot.unset).toArray) [] := by rw [hav]; exact lg_entry_eq m9 _ _
  obtain ⟨Q0, hQ0⟩ : ∃ Q0, Q0 = vx_MQ below zNo (zXC D (wC cI cZ q pa sp al dg co da mb dd ah wl lo n td wn) "java/lang/IndexOutOfBoundsException" (zLC q)) ag9 s9 1 6 (fun a => a ∈ zLC q) := ⟨_, rfl⟩
  show W p0 l e9 ({ frames := 6, cells := 1, slots := 6, locals := 90 }) s9 m9 ag9 below meth c9 s9.heap [] 0 0 (vx_MQ below zNo (zXC D (wC cI cZ q pa sp al dg co da mb dd ah wl lo n td wn) "java/lang/IndexOutOfBoundsException" (zLC q)) ag9 s9 1 6 (fun a => a ∈ zLC q)) _
  rw [hE, ← hQ0]
  have hS : va_S (fun a => a ∈ zLC q) s9.heap s9.heap [] := va_S.rf
  generalize hH0 : s9.heap = H at hP ⊢
  have hS : va_S (fun a => a ∈ zLC q) s9.heap H [] := by rw [hH0] at hS ⊢; exact hS
  generalize (lg_sl ([.ref (q 0), .int (zI p)]) ++ List.replicate (2 - (lg_sl ([.ref (q 0), .int (zI p)])).length) Slot.unset).toArray = ls at hl ⊢
  have hl : lv_has ls 2 [(0, .ref (q 0)), (1, .int (zI p))] := hl
  refine lv_iload_n hx hb dX2_needPerson_0 rfl (lv_at hl 1 rfl) ?_
  refine zr_if_lt (tgt := 15) hx hb dX2_needPerson_1 (by decide) ⟨by omega, by omega⟩ (fun c_1 => ?_) (fun c_1 => ?_)
  · have c_1 := c_1
    obtain ⟨sa, hstr⟩ := hT.2.2.1 (258, "there is no such person") (by decide +kernel)
    rw [hQ0]
    exact zthrowW (names := ["java/lang/RuntimeException", "java/lang/Exception"]) (cls := "java/lang/IndexOutOfBoundsException") (ic := 177) hx hb hl0 hown (by decide +kernel) (by decide +kernel) (hts (.classLink RX2 173 "java/lang/IndexOutOfBoundsException") (by decide +kernel)) (hts (.initialized "java/lang/IndexOutOfBoundsException") (by decide +kernel)) hstr (vx_hat (fun w h => hts w ((by decide +kernel : ∀ w ∈ (vx_atS RX2 177 "java/lang/IndexOutOfBoundsException" ["java/lang/RuntimeException", "java/lang/Exception"]).filter goodWord, w ∈ wsX2_needPerson) w h)) (by decide +kernel : ∀ w ∈ (vx_atS RX2 177 "java/lang/IndexOutOfBoundsException" ["java/lang/RuntimeException", "java/lang/Exception"]).filter (fun w => !goodWord w), w ∈ zBad) (hT.2.2.2.at (Vm.Alike.refl _) _)) (by decide +kernel) hP hT hS (by rw [hml, hl.1]) dX2_needPerson_15 dX2_needPerson_18 dX2_needPerson_19 dX2_needPerson_22 dX2_needPerson_25 ht (Nat.le_of_ble_eq_true rfl) (Nat.le_of_ble_eq_true rfl) (Nat.le_of_ble_eq_true rfl) (Nat.le_of_ble_eq_true rfl) hlocks
  · have c_1 := c_1
    refine lv_iload_n hx hb dX2_needPerson_4 rfl (lv_at hl 1 rfl) ?_
    refine lv_aload_n hx hb dX2_needPerson_5 rfl (lv_at hl 0 rfl) ?_
    refine va_get (D := D) (ci := 2) (v := .ref (q 1)) (C := RX2) (T := TX2) (N := 9) hx hb hts hin2 hown hK hP 0 rfl rfl 0 (by decide) (hts (.fieldLink RX2 12 "MourningRibbons" "family" "LMourningRibbons$Family;") (by decide +kernel)) (fun _ h9 => h9) rfl dX2_needPerson_6 ?_
    refine va_get (D := D) (ci := 1) (v := .int (zI (n : Int))) (C := RX1) (T := TX1) (N := 5) hx hb hts hin1 hown hK hP 1 rfl rfl 3 (by decide) (hts (.fieldLink RX2 128 "MourningRibbons$Family" "count" "I") (by decide +kernel)) (fun _ h9 => h9) rfl dX2_needPerson_9 ?_
    refine zr_icmp_lt (tgt := 26) hx hb dX2_needPerson_12 (by decide) ⟨by omega, by omega⟩ ⟨by omega, by omega⟩ (fun c_2 => ?_) (fun c_2 => ?_)
    · have c_2 := c_2
      exfalso; omega
    · have c_2 := c_2
      obtain ⟨sa, hstr⟩ := hT.2.2.1 (258, "there is no such person") (by decide +kernel)
      rw [hQ0]
      exact zthrowW (names := ["java/lang/RuntimeException", "java/lang/Exception"]) (cls := "java/lang/IndexOutOfBoundsException") (ic := 177) hx hb hl0 hown (by decide +kernel) (by decide +kernel) (hts (.classLink RX2 173 "java/lang/IndexOutOfBoundsException") (by decide +kernel)) (hts (.initialized "java/lang/IndexOutOfBoundsException") (by decide +kernel)) hstr (vx_hat (fun w h => hts w ((by decide +kernel : ∀ w ∈ (vx_atS RX2 177 "java/lang/IndexOutOfBoundsException" ["java/lang/RuntimeException", "java/lang/Exception"]).filter goodWord, w ∈ wsX2_needPerson) w h)) (by decide +kernel : ∀ w ∈ (vx_atS RX2 177 "java/lang/IndexOutOfBoundsException" ["java/lang/RuntimeException", "java/lang/Exception"]).filter (fun w => !goodWord w), w ∈ zBad) (hT.2.2.2.at (Vm.Alike.refl _) _)) (by decide +kernel) hP hT hS (by rw [hml, hl.1]) dX2_needPerson_15 dX2_needPerson_18 dX2_needPerson_19 dX2_needPerson_22 dX2_needPerson_25 ht (Nat.le_of_ble_eq_true rfl) (Nat.le_of_ble_eq_true rfl) (Nat.le_of_ble_eq_true rfl) (Nat.le_of_ble_eq_true rfl) hlocks
set_option maxHeartbeats 4000000 in
set_option maxRecDepth 100000 in
theorem kX2_needRoomx (l : Launch) (D : va_G) (hl0 : l.stackTraces = false) (cI cZ : ClassId) (q : Nat → Nat) (hN : (zLC q).Nodup) (pa : Int → Int) (sp : Int → Int) (al : Int → Int) (dg : Int → Int) (co : Int → Int) (da : Int → Int) (mb : Int → Int) (dd : Int → Int) (ah : Int → Int) (wl : Int → Int) (lo : Int → Int) (n : Nat) (td : Int) (wn : Int) (hn : n ≤ 16) (h1 : 16 ≤ n) : zX l yX2_needRoom wsX2_needRoom ({ frames := 6, cells := 1, slots := 6, locals := 90 }) D [(cI, .int), (cZ, .boolean)] [.ref (q 0)] (wC cI cZ q pa sp al dg co da mb dd ah wl lo n td wn) "java/lang/IllegalStateException" (zLC q) := by
  refine vx_ofW (cc := cX2_needRoom) (maxL := 1) (ret := none) (by decide) rfl ?_
  intro p0 e9 s9 m9 ag9 below meth c9 s₁ B hml ht hv
  obtain ⟨hav, hP, hK, hT⟩ := hv
  have hx := B.exec
  have hb := B.bytes
  have hr := B.returns
  have hts := atoms_spec (ws := wsX2_needRoom) B.pre
  have hown : s9.vm.findClass RX2 = some m9.cls := findClass_of_methodNamed B.named
  have hlocks := B.notSynchronized
  have hA : ∀ a ∈ zLC q, (fun a => a ∈ zLC q) a := fun _ h => h
  have hin2 : ∀ w ∈ u_ws RX2 TX2 9, w ∈ wsX2_needRoom := by decide +kernel
  have hl := lv_entry ([.ref (q 0)]) (n := 1) (Nat.le_of_ble_eq_true rfl)
  have hE : entryFrame m9 ag9 1 = F0 m9 0 ((lg_sl ([.ref (q 0)]) ++ List.replicate (1 - (lg_sl ([.ref (q 0)])).length) Slot.unset).toArray) [] := by rw [hav]; exact lg_entry_eq m9 _ _
  obtain ⟨Q0, hQ0⟩ : ∃ Q0, Q0 = vx_MQ below zNo (zXC D (wC cI cZ q pa sp al dg co da mb dd ah wl lo n td wn) "java/lang/IllegalStateException" (zLC q)) ag9 s9 1 6 (fun a => a ∈ zLC q) := ⟨_, rfl⟩
  show W p0 l e9 ({ frames := 6, cells := 1, slots := 6, locals := 90 }) s9 m9 ag9 below meth c9 s9.heap [] 0 0 (vx_MQ below zNo (zXC D (wC cI cZ q pa sp al dg co da mb dd ah wl lo n td wn) "java/lang/IllegalStateException" (zLC q)) ag9 s9 1 6 (fun a => a ∈ zLC q)) _
  rw [hE, ← hQ0]
  have hS : va_S (fun a => a ∈ zLC q) s9.heap s9.heap [] := va_S.rf
  generalize hH0 : s9.heap = H at hP ⊢
  have hS : va_S (fun a => a ∈ zLC q) s9.heap H [] := by rw [hH0] at hS ⊢; exact hS
  generalize (lg_sl ([.ref (q 0)]) ++ List.replicate (1 - (lg_sl ([.ref (q 0)])).length) Slot.unset).toArray = ls at hl ⊢
  have hl : lv_has ls 1 [(0, .ref (q 0))] := hl
  refine lv_aload_n hx hb dX2_needRoom_0 rfl (lv_at hl 0 rfl) ?_
  refine va_get (D := D) (ci := 2) (v := .ref (q 1)) (C := RX2) (T := TX2) (N := 9) hx hb hts hin2 hown hK hP 0 rfl rfl 0 (by decide) (hts (.fieldLink RX2 12 "MourningRibbons" "family" "LMourningRibbons$Family;") (by decide +kernel)) (fun _ h9 => h9) rfl dX2_needRoom_1 ?_
  refine zcallV (ci := 1) (q0 := 1) (cq := (RX1, TX1, 5)) (As := []) (rest := []) ⟨hx, hb, hml, hown, hts⟩ hK (kX1_isFull l D cI cZ q hN pa sp al dg co da mb dd ah wl lo n td wn hn) (cwV 0 hts gX2_needRoom_X1_isFull rfl rfl rfl (by decide +kernel) ⟨Nat.le_of_ble_eq_true rfl, Nat.le_of_ble_eq_true rfl⟩) hP hS hA rfl rfl rfl hl.1 rfl (Nat.le_of_ble_eq_true rfl) dX2_needRoom_4 ⟨Nat.zero_le _, Nat.zero_le _⟩ (fun H locs hP hS _ _ => ?_)
  refine W.eq (g2 := F0 m9 7 ls [.int (zI (bI (16 ≤ (n : Int))))]) rfl ?_
  refine zr_if_eq (tgt := 21) hx hb dX2_needRoom_7 (by decide) (bI_rg _) (fun c_1 => ?_) (fun c_1 => ?_)
  · have c_1 := bI_z c_1
    exfalso; omega
  · have c_1 := bI_n c_1
    obtain ⟨sa, hstr⟩ := hT.2.2.1 (264, "there are 16 people") (by decide +kernel)
    rw [hQ0]
    exact zthrowW (names := ["java/lang/RuntimeException", "java/lang/Exception"]) (cls := "java/lang/IllegalStateException") (ic := 65) hx hb hl0 hown (by decide +kernel) (by decide +kernel) (hts (.classLink RX2 61 "java/lang/IllegalStateException") (by decide +kernel)) (hts (.initialized "java/lang/IllegalStateException") (by decide +kernel)) hstr (vx_hat (fun w h => hts w ((by decide +kernel : ∀ w ∈ (vx_atS RX2 65 "java/lang/IllegalStateException" ["java/lang/RuntimeException", "java/lang/Exception"]).filter goodWord, w ∈ wsX2_needRoom) w h)) (by decide +kernel : ∀ w ∈ (vx_atS RX2 65 "java/lang/IllegalStateException" ["java/lang/RuntimeException", "java/lang/Exception"]).filter (fun w => !goodWord w), w ∈ zBad) (hT.2.2.2.at (Vm.Alike.refl _) _)) (by decide +kernel) hP hT hS (by rw [hml, hl.1]) dX2_needRoom_10 dX2_needRoom_13 dX2_needRoom_14 dX2_needRoom_17 dX2_needRoom_20 ht (Nat.le_of_ble_eq_true rfl) (Nat.le_of_ble_eq_true rfl) (Nat.le_of_ble_eq_true rfl) (Nat.le_of_ble_eq_true rfl) hlocks
set_option maxHeartbeats 4000000 in
set_option maxRecDepth 100000 in
theorem kX2_needTwox (l : Launch) (D : va_G) (hl0 : l.stackTraces = false) (cI cZ : ClassId) (q : Nat → Nat) (hN : (zLC q).Nodup) (pa : Int → Int) (sp : Int → Int) (al : Int → Int) (dg : Int → Int) (co : Int → Int) (da : Int → Int) (mb : Int → Int) (dd : Int → Int) (ah : Int → Int) (wl : Int → Int) (lo : Int → Int) (n : Nat) (td : Int) (wn : Int) (a : Int) (b : Int) (h1 : 0 ≤ a ∧ a < 16) (h2 : 0 ≤ b ∧ b < 16) (h3 : a = b) : zX l yX2_needTwo wsX2_needTwo ({ frames := 6, cells := 1, slots := 6, locals := 90 }) D [(cI, .int), (cZ, .boolean)] [.ref (q 0), .int (zI a), .int (zI b)] (wC cI cZ q pa sp al dg co da mb dd ah wl lo n td wn) "java/lang/IllegalArgumentException" (zLC q) := by
  refine vx_ofW (cc := cX2_needTwo) (maxL := 3) (ret := none) (by decide) rfl ?_
  intro p0 e9 s9 m9 ag9 below meth c9 s₁ B hml ht hv
  obtain ⟨hav, hP, hK, hT⟩ := hv
  have hx := B.exec
  have hb := B.bytes
  have hr := B.returns
  have hts := atoms_spec (ws := wsX2_needTwo) B.pre
  have hown : s9.vm.findClass RX2 = some m9.cls := findClass_of_methodNamed B.named
  have hlocks := B.notSynchronized
  have hA : ∀ a ∈ zLC q, (fun a => a ∈ zLC q) a := fun _ h => h
  have hl := lv_entry ([.ref (q 0), .int (zI a), .int (zI b)]) (n := 3) (Nat.le_of_ble_eq_true rfl)
  have hE : entryFrame m9 ag9 3 = F0 m9 0 ((lg_sl ([.ref (q 0), .int (zI a), .int (zI b)]) ++ List.replicate (3 - (lg_sl ([.ref (q 0), .int (zI a), .int (zI b)])).length) Slot.unset).toArray) [] := by rw [hav]; exact lg_entry_eq m9 _ _
  obtain ⟨Q0, hQ0⟩ : ∃ Q0, Q0 = vx_MQ below zNo (zXC D (wC cI cZ q pa sp al dg co da mb dd ah wl lo n td wn) "java/lang/IllegalArgumentException" (zLC q)) ag9 s9 1 6 (fun a => a ∈ zLC q) := ⟨_, rfl⟩
  show W p0 l e9 ({ frames := 6, cells := 1, slots := 6, locals := 90 }) s9 m9 ag9 below meth c9 s9.heap [] 0 0 (vx_MQ below zNo (zXC D (wC cI cZ q pa sp al dg co da mb dd ah wl lo n td wn) "java/lang/IllegalArgumentException" (zLC q)) ag9 s9 1 6 (fun a => a ∈ zLC q)) _
  rw [hE, ← hQ0]
  have hS : va_S (fun a => a ∈ zLC q) s9.heap s9.heap [] := va_S.rf
  generalize hH0 : s9.heap = H at hP ⊢
  have hS : va_S (fun a => a ∈ zLC q) s9.heap H [] := by rw [hH0] at hS ⊢; exact hS
  generalize (lg_sl ([.ref (q 0), .int (zI a), .int (zI b)]) ++ List.replicate (3 - (lg_sl ([.ref (q 0), .int (zI a), .int (zI b)])).length) Slot.unset).toArray = ls at hl ⊢
  have hl : lv_has ls 3 [(0, .ref (q 0)), (1, .int (zI a)), (2, .int (zI b))] := hl
  refine lv_iload_n hx hb dX2_needTwo_0 rfl (lv_at hl 1 rfl) ?_
  refine lv_iload_n hx hb dX2_needTwo_1 rfl (lv_at hl 2 rfl) ?_
  refine zr_icmp_ne (tgt := 16) hx hb dX2_needTwo_2 (by decide) ⟨by omega, by omega⟩ ⟨by omega, by omega⟩ (fun c_1 => ?_) (fun c_1 => ?_)
  · have c_1 := c_1
    exfalso; omega
  · have c_1 := c_1
    obtain ⟨sa, hstr⟩ := hT.2.2.1 (266, "both are the same person") (by decide +kernel)
    rw [hQ0]
    exact zthrowW (names := ["java/lang/RuntimeException", "java/lang/Exception"]) (cls := "java/lang/IllegalArgumentException") (ic := 84) hx hb hl0 hown (by decide +kernel) (by decide +kernel) (hts (.classLink RX2 80 "java/lang/IllegalArgumentException") (by decide +kernel)) (hts (.initialized "java/lang/IllegalArgumentException") (by decide +kernel)) hstr (vx_hat (fun w h => hts w ((by decide +kernel : ∀ w ∈ (vx_atS RX2 84 "java/lang/IllegalArgumentException" ["java/lang/RuntimeException", "java/lang/Exception"]).filter goodWord, w ∈ wsX2_needTwo) w h)) (by decide +kernel : ∀ w ∈ (vx_atS RX2 84 "java/lang/IllegalArgumentException" ["java/lang/RuntimeException", "java/lang/Exception"]).filter (fun w => !goodWord w), w ∈ zBad) (hT.2.2.2.at (Vm.Alike.refl _) _)) (by decide +kernel) hP hT hS (by rw [hml, hl.1]) dX2_needTwo_5 dX2_needTwo_8 dX2_needTwo_9 dX2_needTwo_12 dX2_needTwo_15 ht (Nat.le_of_ble_eq_true rfl) (Nat.le_of_ble_eq_true rfl) (Nat.le_of_ble_eq_true rfl) (Nat.le_of_ble_eq_true rfl) hlocks
set_option maxHeartbeats 4000000 in
set_option maxRecDepth 100000 in
theorem kX2_needAlivex (l : Launch) (D : va_G) (hl0 : l.stackTraces = false) (cI cZ : ClassId) (q : Nat → Nat) (hN : (zLC q).Nodup) (pa : Int → Int) (sp : Int → Int) (al : Int → Int) (dg : Int → Int) (co : Int → Int) (da : Int → Int) (mb : Int → Int) (dd : Int → Int) (ah : Int → Int) (wl : Int → Int) (lo : Int → Int) (n : Nat) (td : Int) (wn : Int) (hal : ∀ j : Int, 0 ≤ al j ∧ al j ≤ 1) (p : Int) (h1 : 0 ≤ p ∧ p < 16) (h2 : al p = 0) : zX l yX2_needAlive wsX2_needAlive ({ frames := 6, cells := 1, slots := 6, locals := 90 }) D [(cI, .int), (cZ, .boolean)] [.ref (q 0), .int (zI p)] (wC cI cZ q pa sp al dg co da mb dd ah wl lo n td wn) "java/lang/IllegalStateException" (zLC q) := by
  refine vx_ofW (cc := cX2_needAlive) (maxL := 2) (ret := none) (by decide) rfl ?_
  intro p0 e9 s9 m9 ag9 below meth c9 s₁ B hml ht hv
  obtain ⟨hav, hP, hK, hT⟩ := hv
  have hx := B.exec
  have hb := B.bytes
  have hr := B.returns
  have hts := atoms_spec (ws := wsX2_needAlive) B.pre
  have hown : s9.vm.findClass RX2 = some m9.cls := findClass_of_methodNamed B.named
  have hlocks := B.notSynchronized
  have hA : ∀ a ∈ zLC q, (fun a => a ∈ zLC q) a := fun _ h => h
  have hin1 : ∀ w ∈ u_ws RX1 TX1 5, w ∈ wsX2_needAlive := by decide +kernel
  have hin2 : ∀ w ∈ u_ws RX2 TX2 9, w ∈ wsX2_needAlive := by decide +kernel
  have hl := lv_entry ([.ref (q 0), .int (zI p)]) (n := 2) (Nat.le_of_ble_eq_true rfl)
  have hE : entryFrame m9 ag9 2 = F0 m9 0 ((lg_sl ([.ref (q 0), .int (zI p)]) ++ List.replicate (2 - (lg_sl ([.ref (q 0), .int (zI p)])).length) Slot.unset).toArray) [] := by rw [hav]; exact lg_entry_eq m9 _ _
  obtain ⟨Q0, hQ0⟩ : ∃ Q0, Q0 = vx_MQ below zNo (zXC D (wC cI cZ q pa sp al dg co da mb dd ah wl lo n td wn) "java/lang/IllegalStateException" (zLC q)) ag9 s9 1 6 (fun a => a ∈ zLC q) := ⟨_, rfl⟩
  show W p0 l e9 ({ frames := 6, cells := 1, slots := 6, locals := 90 }) s9 m9 ag9 below meth c9 s9.heap [] 0 0 (vx_MQ below zNo (zXC D (wC cI cZ q pa sp al dg co da mb dd ah wl lo n td wn) "java/lang/IllegalStateException" (zLC q)) ag9 s9 1 6 (fun a => a ∈ zLC q)) _
  rw [hE, ← hQ0]
  have hS : va_S (fun a => a ∈ zLC q) s9.heap s9.heap [] := va_S.rf
  generalize hH0 : s9.heap = H at hP ⊢
  have hS : va_S (fun a => a ∈ zLC q) s9.heap H [] := by rw [hH0] at hS ⊢; exact hS
  generalize (lg_sl ([.ref (q 0), .int (zI p)]) ++ List.replicate (2 - (lg_sl ([.ref (q 0), .int (zI p)])).length) Slot.unset).toArray = ls at hl ⊢
  have hl : lv_has ls 2 [(0, .ref (q 0)), (1, .int (zI p))] := hl
  refine lv_aload_n hx hb dX2_needAlive_0 rfl (lv_at hl 0 rfl) ?_
  refine va_get (D := D) (ci := 2) (v := .ref (q 1)) (C := RX2) (T := TX2) (N := 9) hx hb hts hin2 hown hK hP 0 rfl rfl 0 (by decide) (hts (.fieldLink RX2 12 "MourningRibbons" "family" "LMourningRibbons$Family;") (by decide +kernel)) (fun _ h9 => h9) rfl dX2_needAlive_1 ?_
  refine va_get (D := D) (ci := 1) (v := .ref (q 10)) (C := RX1) (T := TX1) (N := 5) hx hb hts hin1 hown hK hP 1 rfl rfl 2 (by decide) (hts (.fieldLink RX2 101 "MourningRibbons$Family" "alive" "[Z") (by decide +kernel)) (fun _ h9 => h9) rfl dX2_needAlive_4 ?_
  refine lv_iload_n hx hb dX2_needAlive_7 rfl (lv_at hl 1 rfl) ?_
  refine zr_zald (f := al) (n := 16) hx hb hK hP 10 1 rfl rfl (by decide) (i := p) (by omega) (by omega) dX2_needAlive_8 ?_
  have b_1 := hal p
  refine zr_if_ne (tgt := 23) hx hb dX2_needAlive_9 (by decide) ⟨by omega, by omega⟩ (fun c_2 => ?_) (fun c_2 => ?_)
  · have c_2 := c_2
    exfalso; omega
  · have c_2 := c_2
    obtain ⟨sa, hstr⟩ := hT.2.2.1 (268, "this person is dead") (by decide +kernel)
    rw [hQ0]
    exact zthrowW (names := ["java/lang/RuntimeException", "java/lang/Exception"]) (cls := "java/lang/IllegalStateException") (ic := 65) hx hb hl0 hown (by decide +kernel) (by decide +kernel) (hts (.classLink RX2 61 "java/lang/IllegalStateException") (by decide +kernel)) (hts (.initialized "java/lang/IllegalStateException") (by decide +kernel)) hstr (vx_hat (fun w h => hts w ((by decide +kernel : ∀ w ∈ (vx_atS RX2 65 "java/lang/IllegalStateException" ["java/lang/RuntimeException", "java/lang/Exception"]).filter goodWord, w ∈ wsX2_needAlive) w h)) (by decide +kernel : ∀ w ∈ (vx_atS RX2 65 "java/lang/IllegalStateException" ["java/lang/RuntimeException", "java/lang/Exception"]).filter (fun w => !goodWord w), w ∈ zBad) (hT.2.2.2.at (Vm.Alike.refl _) _)) (by decide +kernel) hP hT hS (by rw [hml, hl.1]) dX2_needAlive_12 dX2_needAlive_15 dX2_needAlive_16 dX2_needAlive_19 dX2_needAlive_22 ht (Nat.le_of_ble_eq_true rfl) (Nat.le_of_ble_eq_true rfl) (Nat.le_of_ble_eq_true rfl) (Nat.le_of_ble_eq_true rfl) hlocks
set_option maxHeartbeats 4000000 in
set_option maxRecDepth 100000 in
theorem kX2_needDegreex (l : Launch) (D : va_G) (hl0 : l.stackTraces = false) (cI cZ : ClassId) (q : Nat → Nat) (hN : (zLC q).Nodup) (pa : Int → Int) (sp : Int → Int) (al : Int → Int) (dg : Int → Int) (co : Int → Int) (da : Int → Int) (mb : Int → Int) (dd : Int → Int) (ah : Int → Int) (wl : Int → Int) (lo : Int → Int) (n : Nat) (td : Int) (wn : Int) (g : Int) (h0 : -2147483648 ≤ g ∧ g ≤ 2147483647) (h1 : ¬ (1 ≤ g ∧ g ≤ 4)) : zX l yX2_needDegree wsX2_needDegree ({ frames := 6, cells := 1, slots := 6, locals := 90 }) D [(cI, .int), (cZ, .boolean)] [.ref (q 0), .int (zI g)] (wC cI cZ q pa sp al dg co da mb dd ah wl lo n td wn) "java/lang/IndexOutOfBoundsException" (zLC q) := by
  refine vx_ofW (cc := cX2_needDegree) (maxL := 2) (ret := none) (by decide) rfl ?_
  intro p0 e9 s9 m9 ag9 below meth c9 s₁ B hml ht hv
  obtain ⟨hav, hP, hK, hT⟩ := hv
  have hx := B.exec
  have hb := B.bytes
  have hr := B.returns
  have hts := atoms_spec (ws := wsX2_needDegree) B.pre
  have hown : s9.vm.findClass RX2 = some m9.cls := findClass_of_methodNamed B.named
  have hlocks := B.notSynchronized
  have hA : ∀ a ∈ zLC q, (fun a => a ∈ zLC q) a := fun _ h => h
  have hl := lv_entry ([.ref (q 0), .int (zI g)]) (n := 2) (Nat.le_of_ble_eq_true rfl)
  have hE : entryFrame m9 ag9 2 = F0 m9 0 ((lg_sl ([.ref (q 0), .int (zI g)]) ++ List.replicate (2 - (lg_sl ([.ref (q 0), .int (zI g)])).length) Slot.unset).toArray) [] := by rw [hav]; exact lg_entry_eq m9 _ _
  obtain ⟨Q0, hQ0⟩ : ∃ Q0, Q0 = vx_MQ below zNo (zXC D (wC cI cZ q pa sp al dg co da mb dd ah wl lo n td wn) "java/lang/IndexOutOfBoundsException" (zLC q)) ag9 s9 1 6 (fun a => a ∈ zLC q) := ⟨_, rfl⟩
  show W p0 l e9 ({ frames := 6, cells := 1, slots := 6, locals := 90 }) s9 m9 ag9 below meth c9 s9.heap [] 0 0 (vx_MQ below zNo (zXC D (wC cI cZ q pa sp al dg co da mb dd ah wl lo n td wn) "java/lang/IndexOutOfBoundsException" (zLC q)) ag9 s9 1 6 (fun a => a ∈ zLC q)) _
  rw [hE, ← hQ0]
  have hS : va_S (fun a => a ∈ zLC q) s9.heap s9.heap [] := va_S.rf
  generalize hH0 : s9.heap = H at hP ⊢
  have hS : va_S (fun a => a ∈ zLC q) s9.heap H [] := by rw [hH0] at hS ⊢; exact hS
  generalize (lg_sl ([.ref (q 0), .int (zI g)]) ++ List.replicate (2 - (lg_sl ([.ref (q 0), .int (zI g)])).length) Slot.unset).toArray = ls at hl ⊢
  have hl : lv_has ls 2 [(0, .ref (q 0)), (1, .int (zI g))] := hl
  refine lv_iload_n hx hb dX2_needDegree_0 rfl (lv_at hl 1 rfl) ?_
  refine zr_iconst hx hb dX2_needDegree_1 ?_
  refine zr_icmp_lt (tgt := 10) hx hb dX2_needDegree_2 (by decide) ⟨by omega, by omega⟩ ⟨by decide, by decide⟩ (fun c_1 => ?_) (fun c_1 => ?_)
  · have c_1 := c_1
    obtain ⟨sa, hstr⟩ := hT.2.2.1 (270, "a degree is 1 to 4") (by decide +kernel)
    rw [hQ0]
    exact zthrowW (names := ["java/lang/RuntimeException", "java/lang/Exception"]) (cls := "java/lang/IndexOutOfBoundsException") (ic := 177) hx hb hl0 hown (by decide +kernel) (by decide +kernel) (hts (.classLink RX2 173 "java/lang/IndexOutOfBoundsException") (by decide +kernel)) (hts (.initialized "java/lang/IndexOutOfBoundsException") (by decide +kernel)) hstr (vx_hat (fun w h => hts w ((by decide +kernel : ∀ w ∈ (vx_atS RX2 177 "java/lang/IndexOutOfBoundsException" ["java/lang/RuntimeException", "java/lang/Exception"]).filter goodWord, w ∈ wsX2_needDegree) w h)) (by decide +kernel : ∀ w ∈ (vx_atS RX2 177 "java/lang/IndexOutOfBoundsException" ["java/lang/RuntimeException", "java/lang/Exception"]).filter (fun w => !goodWord w), w ∈ zBad) (hT.2.2.2.at (Vm.Alike.refl _) _)) (by decide +kernel) hP hT hS (by rw [hml, hl.1]) dX2_needDegree_10 dX2_needDegree_13 dX2_needDegree_14 dX2_needDegree_17 dX2_needDegree_20 ht (Nat.le_of_ble_eq_true rfl) (Nat.le_of_ble_eq_true rfl) (Nat.le_of_ble_eq_true rfl) (Nat.le_of_ble_eq_true rfl) hlocks
  · have c_1 := c_1
    refine lv_iload_n hx hb dX2_needDegree_5 rfl (lv_at hl 1 rfl) ?_
    refine zr_iconst hx hb dX2_needDegree_6 ?_
    refine zr_icmp_le (tgt := 21) hx hb dX2_needDegree_7 (by decide) ⟨by omega, by omega⟩ ⟨by decide, by decide⟩ (fun c_2 => ?_) (fun c_2 => ?_)
    · have c_2 := c_2
      exfalso; omega
    · have c_2 := c_2
      obtain ⟨sa, hstr⟩ := hT.2.2.1 (270, "a degree is 1 to 4") (by decide +kernel)
      rw [hQ0]
      exact zthrowW (names := ["java/lang/RuntimeException", "java/lang/Exception"]) (cls := "java/lang/IndexOutOfBoundsException") (ic := 177) hx hb hl0 hown (by decide +kernel) (by decide +kernel) (hts (.classLink RX2 173 "java/lang/IndexOutOfBoundsException") (by decide +kernel)) (hts (.initialized "java/lang/IndexOutOfBoundsException") (by decide +kernel)) hstr (vx_hat (fun w h => hts w ((by decide +kernel : ∀ w ∈ (vx_atS RX2 177 "java/lang/IndexOutOfBoundsException" ["java/lang/RuntimeException", "java/lang/Exception"]).filter goodWord, w ∈ wsX2_needDegree) w h)) (by decide +kernel : ∀ w ∈ (vx_atS RX2 177 "java/lang/IndexOutOfBoundsException" ["java/lang/RuntimeException", "java/lang/Exception"]).filter (fun w => !goodWord w), w ∈ zBad) (hT.2.2.2.at (Vm.Alike.refl _) _)) (by decide +kernel) hP hT hS (by rw [hml, hl.1]) dX2_needDegree_10 dX2_needDegree_13 dX2_needDegree_14 dX2_needDegree_17 dX2_needDegree_20 ht (Nat.le_of_ble_eq_true rfl) (Nat.le_of_ble_eq_true rfl) (Nat.le_of_ble_eq_true rfl) (Nat.le_of_ble_eq_true rfl) hlocks
set_option maxHeartbeats 4000000 in
set_option maxRecDepth 100000 in
theorem kX2_needStagex (l : Launch) (D : va_G) (hl0 : l.stackTraces = false) (cI cZ : ClassId) (q : Nat → Nat) (hN : (zLC q).Nodup) (pa : Int → Int) (sp : Int → Int) (al : Int → Int) (dg : Int → Int) (co : Int → Int) (da : Int → Int) (mb : Int → Int) (dd : Int → Int) (ah : Int → Int) (wl : Int → Int) (lo : Int → Int) (n : Nat) (td : Int) (wn : Int) (g : Int) (s : Int) (h0 : -2147483648 ≤ g ∧ g ≤ 2147483647) (h1 : ¬ (1 ≤ g ∧ g ≤ 4)) : zX l yX2_needStage wsX2_needStage ({ frames := 7, cells := 1, slots := 6, locals := 111 }) D [(cI, .int), (cZ, .boolean)] [.ref (q 0), .int (zI g), .int (zI s)] (wC cI cZ q pa sp al dg co da mb dd ah wl lo n td wn) "java/lang/IndexOutOfBoundsException" (zLC q) := by
  refine vx_ofW (cc := cX2_needStage) (maxL := 3) (ret := none) (by decide) rfl ?_
  intro p0 e9 s9 m9 ag9 below meth c9 s₁ B hml ht hv
  obtain ⟨hav, hP, hK, hT⟩ := hv
  have hx := B.exec
  have hb := B.bytes
  have hr := B.returns
  have hts := atoms_spec (ws := wsX2_needStage) B.pre
  have hown : s9.vm.findClass RX2 = some m9.cls := findClass_of_methodNamed B.named
  have hlocks := B.notSynchronized
  have hA : ∀ a ∈ zLC q, (fun a => a ∈ zLC q) a := fun _ h => h
  have hl := lv_entry ([.ref (q 0), .int (zI g), .int (zI s)]) (n := 3) (Nat.le_of_ble_eq_true rfl)
  have hE : entryFrame m9 ag9 3 = F0 m9 0 ((lg_sl ([.ref (q 0), .int (zI g), .int (zI s)]) ++ List.replicate (3 - (lg_sl ([.ref (q 0), .int (zI g), .int (zI s)])).length) Slot.unset).toArray) [] := by rw [hav]; exact lg_entry_eq m9 _ _
  obtain ⟨Q0, hQ0⟩ : ∃ Q0, Q0 = vx_MQ below zNo (zXC D (wC cI cZ q pa sp al dg co da mb dd ah wl lo n td wn) "java/lang/IndexOutOfBoundsException" (zLC q)) ag9 s9 1 6 (fun a => a ∈ zLC q) := ⟨_, rfl⟩
  show W p0 l e9 ({ frames := 7, cells := 1, slots := 6, locals := 111 }) s9 m9 ag9 below meth c9 s9.heap [] 0 0 (vx_MQ below zNo (zXC D (wC cI cZ q pa sp al dg co da mb dd ah wl lo n td wn) "java/lang/IndexOutOfBoundsException" (zLC q)) ag9 s9 1 6 (fun a => a ∈ zLC q)) _
  rw [hE, ← hQ0]
  have hS : va_S (fun a => a ∈ zLC q) s9.heap s9.heap [] := va_S.rf
  generalize hH0 : s9.heap = H at hP ⊢
  have hS : va_S (fun a => a ∈ zLC q) s9.heap H [] := by rw [hH0] at hS ⊢; exact hS
  generalize (lg_sl ([.ref (q 0), .int (zI g), .int (zI s)]) ++ List.replicate (3 - (lg_sl ([.ref (q 0), .int (zI g), .int (zI s)])).length) Slot.unset).toArray = ls at hl ⊢
  have hl : lv_has ls 3 [(0, .ref (q 0)), (1, .int (zI g)), (2, .int (zI s))] := hl
  refine lv_aload_n hx hb dX2_needStage_0 rfl (lv_at hl 0 rfl) ?_
  refine lv_iload_n hx hb dX2_needStage_1 rfl (lv_at hl 1 rfl) ?_
  refine zcallXV (ci := 2) (q0 := 0) (cq := (RX2, TX2, 9)) (As := [.int (zI g)]) (rest := []) ⟨hx, hb, hml, hown, hts⟩ hK (kX2_needDegreex l D hl0 cI cZ q hN pa sp al dg co da mb dd ah wl lo n td wn g (by omega) (by omega)) (cwV 1 hts gX2_needStage_X2_needDegree rfl rfl rfl (by decide +kernel) ⟨Nat.le_of_ble_eq_true rfl, Nat.le_of_ble_eq_true rfl⟩) hP (hT.kept hS.2.1) hS hA rfl rfl rfl hl.1 rfl (Nat.le_of_ble_eq_true rfl) dX2_needStage_2 ⟨Nat.le_of_ble_eq_true rfl, Nat.le_of_ble_eq_true rfl⟩ (fun ce q9 H locs hP hS _ _ hce hcv hcl => ?_)
  rw [hQ0]
  exact zoutX ht hlocks hP hS hce hcv hcl
set_option maxHeartbeats 4000000 in
set_option maxRecDepth 100000 in
theorem kX2_needStagey (l : Launch) (D : va_G) (hl0 : l.stackTraces = false) (cI cZ : ClassId) (q : Nat → Nat) (hN : (zLC q).Nodup) (pa : Int → Int) (sp : Int → Int) (al : Int → Int) (dg : Int → Int) (co : Int → Int) (da : Int → Int) (mb : Int → Int) (dd : Int → Int) (ah : Int → Int) (wl : Int → Int) (lo : Int → Int) (n : Nat) (td : Int) (wn : Int) (g : Int) (s : Int) (h0 : -2147483648 ≤ s ∧ s ≤ 2147483647) (h1 : 1 ≤ g ∧ g ≤ 4) (h2 : ¬ (0 ≤ s ∧ s ≤ 2)) : zX l yX2_needStage wsX2_needStage ({ frames := 7, cells := 1, slots := 6, locals := 111 }) D [(cI, .int), (cZ, .boolean)] [.ref (q 0), .int (zI g), .int (zI s)] (wC cI cZ q pa sp al dg co da mb dd ah wl lo n td wn) "java/lang/IndexOutOfBoundsException" (zLC q) := by
  refine vx_ofW (cc := cX2_needStage) (maxL := 3) (ret := none) (by decide) rfl ?_
  intro p0 e9 s9 m9 ag9 below meth c9 s₁ B hml ht hv
  obtain ⟨hav, hP, hK, hT⟩ := hv
  have hx := B.exec
  have hb := B.bytes
  have hr := B.returns
  have hts := atoms_spec (ws := wsX2_needStage) B.pre
  have hown : s9.vm.findClass RX2 = some m9.cls := findClass_of_methodNamed B.named
  have hlocks := B.notSynchronized
  have hA : ∀ a ∈ zLC q, (fun a => a ∈ zLC q) a := fun _ h => h
  have hl := lv_entry ([.ref (q 0), .int (zI g), .int (zI s)]) (n := 3) (Nat.le_of_ble_eq_true rfl)
  have hE : entryFrame m9 ag9 3 = F0 m9 0 ((lg_sl ([.ref (q 0), .int (zI g), .int (zI s)]) ++ List.replicate (3 - (lg_sl ([.ref (q 0), .int (zI g), .int (zI s)])).length) Slot.unset).toArray) [] := by rw [hav]; exact lg_entry_eq m9 _ _
  obtain ⟨Q0, hQ0⟩ : ∃ Q0, Q0 = vx_MQ below zNo (zXC D (wC cI cZ q pa sp al dg co da mb dd ah wl lo n td wn) "java/lang/IndexOutOfBoundsException" (zLC q)) ag9 s9 1 6 (fun a => a ∈ zLC q) := ⟨_, rfl⟩
  show W p0 l e9 ({ frames := 7, cells := 1, slots := 6, locals := 111 }) s9 m9 ag9 below meth c9 s9.heap [] 0 0 (vx_MQ below zNo (zXC D (wC cI cZ q pa sp al dg co da mb dd ah wl lo n td wn) "java/lang/IndexOutOfBoundsException" (zLC q)) ag9 s9 1 6 (fun a => a ∈ zLC q)) _
  rw [hE, ← hQ0]
  have hS : va_S (fun a => a ∈ zLC q) s9.heap s9.heap [] := va_S.rf
  generalize hH0 : s9.heap = H at hP ⊢
  have hS : va_S (fun a => a ∈ zLC q) s9.heap H [] := by rw [hH0] at hS ⊢; exact hS
  generalize (lg_sl ([.ref (q 0), .int (zI g), .int (zI s)]) ++ List.replicate (3 - (lg_sl ([.ref (q 0), .int (zI g), .int (zI s)])).length) Slot.unset).toArray = ls at hl ⊢
  have hl : lv_has ls 3 [(0, .ref (q 0)), (1, .int (zI g)), (2, .int (zI s))] := hl
  refine lv_aload_n hx hb dX2_needStage_0 rfl (lv_at hl 0 rfl) ?_
  refine lv_iload_n hx hb dX2_needStage_1 rfl (lv_at hl 1 rfl) ?_
  refine zcallV (ci := 2) (q0 := 0) (cq := (RX2, TX2, 9)) (As := [.int (zI g)]) (rest := []) ⟨hx, hb, hml, hown, hts⟩ hK (kX2_needDegreeok l D cI cZ q hN pa sp al dg co da mb dd ah wl lo n td wn g (by omega)) (cwV 1 hts gX2_needStage_X2_needDegree rfl rfl rfl (by decide +kernel) ⟨Nat.le_of_ble_eq_true rfl, Nat.le_of_ble_eq_true rfl⟩) hP hS hA rfl rfl rfl hl.1 rfl (Nat.le_of_ble_eq_true rfl) dX2_needStage_2 ⟨Nat.zero_le _, Nat.zero_le _⟩ (fun H locs hP hS _ _ => ?_)
  refine W.eq (g2 := F0 m9 5 ls []) rfl ?_
  refine lv_iload_n hx hb dX2_needStage_5 rfl (lv_at hl 2 rfl) ?_
  refine zr_if_lt (tgt := 14) hx hb dX2_needStage_6 (by decide) ⟨by omega, by omega⟩ (fun c_1 => ?_) (fun c_1 => ?_)
  · have c_1 := c_1
    obtain ⟨sa, hstr⟩ := hT.2.2.1 (272, "a stage is 0 to 2") (by decide +kernel)
    rw [hQ0]
    exact zthrowW (names := ["java/lang/RuntimeException", "java/lang/Exception"]) (cls := "java/lang/IndexOutOfBoundsException") (ic := 177) hx hb hl0 hown (by decide +kernel) (by decide +kernel) (hts (.classLink RX2 173 "java/lang/IndexOutOfBoundsException") (by decide +kernel)) (hts (.initialized "java/lang/IndexOutOfBoundsException") (by decide +kernel)) hstr (vx_hat (fun w h => hts w ((by decide +kernel : ∀ w ∈ (vx_atS RX2 177 "java/lang/IndexOutOfBoundsException" ["java/lang/RuntimeException", "java/lang/Exception"]).filter goodWord, w ∈ wsX2_needStage) w h)) (by decide +kernel : ∀ w ∈ (vx_atS RX2 177 "java/lang/IndexOutOfBoundsException" ["java/lang/RuntimeException", "java/lang/Exception"]).filter (fun w => !goodWord w), w ∈ zBad) (hT.2.2.2.at (Vm.Alike.refl _) _)) (by decide +kernel) hP hT hS (by rw [hml, hl.1]) dX2_needStage_14 dX2_needStage_17 dX2_needStage_18 dX2_needStage_21 dX2_needStage_24 ht (Nat.le_of_ble_eq_true rfl) (Nat.le_of_ble_eq_true rfl) (Nat.le_of_ble_eq_true rfl) (Nat.le_of_ble_eq_true rfl) hlocks
  · have c_1 := c_1
    refine lv_iload_n hx hb dX2_needStage_9 rfl (lv_at hl 2 rfl) ?_
    refine zr_iconst hx hb dX2_needStage_10 ?_
    refine zr_icmp_lt (tgt := 25) hx hb dX2_needStage_11 (by decide) ⟨by omega, by omega⟩ ⟨by decide, by decide⟩ (fun c_2 => ?_) (fun c_2 => ?_)
    · have c_2 := c_2
      exfalso; omega
    · have c_2 := c_2
      obtain ⟨sa, hstr⟩ := hT.2.2.1 (272, "a stage is 0 to 2") (by decide +kernel)
      rw [hQ0]
      exact zthrowW (names := ["java/lang/RuntimeException", "java/lang/Exception"]) (cls := "java/lang/IndexOutOfBoundsException") (ic := 177) hx hb hl0 hown (by decide +kernel) (by decide +kernel) (hts (.classLink RX2 173 "java/lang/IndexOutOfBoundsException") (by decide +kernel)) (hts (.initialized "java/lang/IndexOutOfBoundsException") (by decide +kernel)) hstr (vx_hat (fun w h => hts w ((by decide +kernel : ∀ w ∈ (vx_atS RX2 177 "java/lang/IndexOutOfBoundsException" ["java/lang/RuntimeException", "java/lang/Exception"]).filter goodWord, w ∈ wsX2_needStage) w h)) (by decide +kernel : ∀ w ∈ (vx_atS RX2 177 "java/lang/IndexOutOfBoundsException" ["java/lang/RuntimeException", "java/lang/Exception"]).filter (fun w => !goodWord w), w ∈ zBad) (hT.2.2.2.at (Vm.Alike.refl _) _)) (by decide +kernel) hP hT hS (by rw [hml, hl.1]) dX2_needStage_14 dX2_needStage_17 dX2_needStage_18 dX2_needStage_21 dX2_needStage_24 ht (Nat.le_of_ble_eq_true rfl) (Nat.le_of_ble_eq_true rfl) (Nat.le_of_ble_eq_true rfl) (Nat.le_of_ble_eq_true rfl) hlocks
set_option maxHeartbeats 4000000 in
set_option maxRecDepth 100000 in
theorem kX2_addPersonx1 (l : Launch) (D : va_G) (hl0 : l.stackTraces = false) (cI cZ : ClassId) (q : Nat → Nat) (hN : (zLC q).Nodup) (pa : Int → Int) (sp : Int → Int) (al : Int → Int) (dg : Int → Int) (co : Int → Int) (da : Int → Int) (mb : Int → Int) (dd : Int → Int) (ah : Int → Int) (wl : Int → Int) (lo : Int → Int) (n : Nat) (td : Int) (wn : Int) (hn : n ≤ 16) (h1 : 16 ≤ n) : zX l yX2_addPerson wsX2_addPerson ({ frames := 7, cells := 1, slots := 6, locals := 110 }) D [(cI, .int), (cZ, .boolean)] [.ref (q 0)] (wC cI cZ q pa sp al dg co da mb dd ah wl lo n td wn) "java/lang/IllegalStateException" (zLC q) := by
  refine vx_ofW (cc := cX2_addPerson) (maxL := 1) (ret := (some .int)) (by decide) rfl ?_
  intro p0 e9 s9 m9 ag9 below meth c9 s₁ B hml ht hv
  obtain ⟨hav, hP, hK, hT⟩ := hv
  have hx := B.exec
  have hb := B.bytes
  have hr := B.returns
  have hts := atoms_spec (ws := wsX2_addPerson) B.pre
  have hown : s9.vm.findClass RX2 = some m9.cls := findClass_of_methodNamed B.named
  have hlocks := B.notSynchronized
  have hA : ∀ a ∈ zLC q, (fun a => a ∈ zLC q) a := fun _ h => h
  have hl := lv_entry ([.ref (q 0)]) (n := 1) (Nat.le_of_ble_eq_true rfl)
  have hE : entryFrame m9 ag9 1 = F0 m9 0 ((lg_sl ([.ref (q 0)]) ++ List.replicate (1 - (lg_sl ([.ref (q 0)])).length) Slot.unset).toArray) [] := by rw [hav]; exact lg_entry_eq m9 _ _
  obtain ⟨Q0, hQ0⟩ : ∃ Q0, Q0 = vx_MQ below zNo (zXC D (wC cI cZ q pa sp al dg co da mb dd ah wl lo n td wn) "java/lang/IllegalStateException" (zLC q)) ag9 s9 1 6 (fun a => a ∈ zLC q) := ⟨_, rfl⟩
  show W p0 l e9 ({ frames := 7, cells := 1, slots := 6, locals := 110 }) s9 m9 ag9 below meth c9 s9.heap [] 0 0 (vx_MQ below zNo (zXC D (wC cI cZ q pa sp al dg co da mb dd ah wl lo n td wn) "java/lang/IllegalStateException" (zLC q)) ag9 s9 1 6 (fun a => a ∈ zLC q)) _
  rw [hE, ← hQ0]
  have hS : va_S (fun a => a ∈ zLC q) s9.heap s9.heap [] := va_S.rf
  generalize hH0 : s9.heap = H at hP ⊢
  have hS : va_S (fun a => a ∈ zLC q) s9.heap H [] := by rw [hH0] at hS ⊢; exact hS
  generalize (lg_sl ([.ref (q 0)]) ++ List.replicate (1 - (lg_sl ([.ref (q 0)])).length) Slot.unset).toArray = ls at hl ⊢
  have hl : lv_has ls 1 [(0, .ref (q 0))] := hl
  refine lv_aload_n hx hb dX2_addPerson_0 rfl (lv_at hl 0 rfl) ?_
  refine zcallXV (ci := 2) (q0 := 0) (cq := (RX2, TX2, 9)) (As := []) (rest := []) ⟨hx, hb, hml, hown, hts⟩ hK (kX2_needRoomx l D hl0 cI cZ q hN pa sp al dg co da mb dd ah wl lo n td wn hn (by omega)) (cwV 0 hts gX2_addPerson_X2_needRoom rfl rfl rfl (by decide +kernel) ⟨Nat.le_of_ble_eq_true rfl, Nat.le_of_ble_eq_true rfl⟩) hP (hT.kept hS.2.1) hS hA rfl rfl rfl hl.1 rfl (Nat.le_of_ble_eq_true rfl) dX2_addPerson_1 ⟨Nat.le_of_ble_eq_true rfl, Nat.le_of_ble_eq_true rfl⟩ (fun ce q9 H locs hP hS _ _ hce hcv hcl => ?_)
  rw [hQ0]
  exact zoutX ht hlocks hP hS hce hcv hcl
set_option maxHeartbeats 4000000 in
set_option maxRecDepth 100000 in
theorem kX2_addChildx1 (l : Launch) (D : va_G) (hl0 : l.stackTraces = false) (cI cZ : ClassId) (q : Nat → Nat) (hN : (zLC q).Nodup) (pa : Int → Int) (sp : Int → Int) (al : Int → Int) (dg : Int → Int) (co : Int → Int) (da : Int → Int) (mb : Int → Int) (dd : Int → Int) (ah : Int → Int) (wl : Int → Int) (lo : Int → Int) (n : Nat) (td : Int) (wn : Int) (hn : n ≤ 16) (p : Int) (h0 : -2147483648 ≤ p ∧ p ≤ 2147483647) (h1 : ¬ (0 ≤ p ∧ p < (n : Int))) : zX l yX2_addChild wsX2_addChild ({ frames := 7, cells := 1, slots := 6, locals := 111 }) D [(cI, .int), (cZ, .boolean)] [.ref (q 0), .int (zI p)] (wC cI cZ q pa sp al dg co da mb dd ah wl lo n td wn) "java/lang/IndexOutOfBoundsException" (zLC q) := by
  refine vx_ofW (cc := cX2_addChild) (maxL := 2) (ret := (some .int)) (by decide) rfl ?_
  intro p0 e9 s9 m9 ag9 below meth c9 s₁ B hml ht hv
  obtain ⟨hav, hP, hK, hT⟩ := hv
  have hx := B.exec
  have hb := B.bytes
  have hr := B.returns
  have hts := atoms_spec (ws := wsX2_addChild) B.pre
  have hown : s9.vm.findClass RX2 = some m9.cls := findClass_of_methodNamed B.named
  have hlocks := B.notSynchronized
  have hA : ∀ a ∈ zLC q, (fun a => a ∈ zLC q) a := fun _ h => h
  have hl := lv_entry ([.ref (q 0), .int (zI p)]) (n := 2) (Nat.le_of_ble_eq_true rfl)
  have hE : entryFrame m9 ag9 2 = F0 m9 0 ((lg_sl ([.ref (q 0), .int (zI p)]) ++ List.replicate (2 - (lg_sl ([.ref (q 0), .int (zI p)])).length) Slot.unset).toArray) [] := by rw [hav]; exact lg_entry_eq m9 _ _
  obtain ⟨Q0, hQ0⟩ : ∃ Q0, Q0 = vx_MQ below zNo (zXC D (wC cI cZ q pa sp al dg co da mb dd ah wl lo n td wn) "java/lang/IndexOutOfBoundsException" (zLC q)) ag9 s9 1 6 (fun a => a ∈ zLC q) := ⟨_, rfl⟩
  show W p0 l e9 ({ frames := 7, cells := 1, slots := 6, locals := 111 }) s9 m9 ag9 below meth c9 s9.heap [] 0 0 (vx_MQ below zNo (zXC D (wC cI cZ q pa sp al dg co da mb dd ah wl lo n td wn) "java/lang/IndexOutOfBoundsException" (zLC q)) ag9 s9 1 6 (fun a => a ∈ zLC q)) _
  rw [hE, ← hQ0]
  have hS : va_S (fun a => a ∈ zLC q) s9.heap s9.heap [] := va_S.rf
  generalize hH0 : s9.heap = H at hP ⊢
  have hS : va_S (fun a => a ∈ zLC q) s9.heap H [] := by rw [hH0] at hS ⊢; exact hS
  generalize (lg_sl ([.ref (q 0), .int (zI p)]) ++ List.replicate (2 - (lg_sl ([.ref (q 0), .int (zI p)])).length) Slot.unset).toArray = ls at hl ⊢
  have hl : lv_has ls 2 [(0, .ref (q 0)), (1, .int (zI p))] := hl
  refine lv_aload_n hx hb dX2_addChild_0 rfl (lv_at hl 0 rfl) ?_
  refine lv_iload_n hx hb dX2_addChild_1 rfl (lv_at hl 1 rfl) ?_
  refine zcallXV (ci := 2) (q0 := 0) (cq := (RX2, TX2, 9)) (As := [.int (zI p)]) (rest := []) ⟨hx, hb, hml, hown, hts⟩ hK (kX2_needPersonx l D hl0 cI cZ q hN pa sp al dg co da mb dd ah wl lo n td wn hn p (by omega) (by omega)) (cwV 1 hts gX2_addChild_X2_needPerson rfl rfl rfl (by decide +kernel) ⟨Nat.le_of_ble_eq_true rfl, Nat.le_of_ble_eq_true rfl⟩) hP (hT.kept hS.2.1) hS hA rfl rfl rfl hl.1 rfl (Nat.le_of_ble_eq_true rfl) dX2_addChild_2 ⟨Nat.le_of_ble_eq_true rfl, Nat.le_of_ble_eq_true rfl⟩ (fun ce q9 H locs hP hS _ _ hce hcv hcl => ?_)
  rw [hQ0]
  exact zoutX ht hlocks hP hS hce hcv hcl
set_option maxHeartbeats 4000000 in
set_option maxRecDepth 100000 in
theorem kX2_addChildx2 (l : Launch) (D : va_G) (hl0 : l.stackTraces = false) (cI cZ : ClassId) (q : Nat → Nat) (hN : (zLC q).Nodup) (pa : Int → Int) (sp : Int → Int) (al : Int → Int) (dg : Int → Int) (co : Int → Int) (da : Int → Int) (mb : Int → Int) (dd : Int → Int) (ah : Int → Int) (wl : Int → Int) (lo : Int → Int) (n : Nat) (td : Int) (wn : Int) (hn : n ≤ 16) (hal : ∀ j : Int, 0 ≤ al j ∧ al j ≤ 1) (p : Int) (h1 : 0 ≤ p ∧ p < (n : Int)) (h2 : al p = 0) : zX l yX2_addChild wsX2_addChild ({ frames := 7, cells := 1, slots := 6, locals := 111 }) D [(cI, .int), (cZ, .boolean)] [.ref (q 0), .int (zI p)] (wC cI cZ q pa sp al dg co da mb dd ah wl lo n td wn) "java/lang/IllegalStateException" (zLC q) := by
  refine vx_ofW (cc := cX2_addChild) (maxL := 2) (ret := (some .int)) (by decide) rfl ?_
  intro p0 e9 s9 m9 ag9 below meth c9 s₁ B hml ht hv
  obtain ⟨hav, hP, hK, hT⟩ := hv
  have hx := B.exec
  have hb := B.bytes
  have hr := B.returns
  have hts := atoms_spec (ws := wsX2_addChild) B.pre
  have hown : s9.vm.findClass RX2 = some m9.cls := findClass_of_methodNamed B.named
  have hlocks := B.notSynchronized
  have hA : ∀ a ∈ zLC q, (fun a => a ∈ zLC q) a := fun _ h => h
  have hl := lv_entry ([.ref (q 0), .int (zI p)]) (n := 2) (Nat.le_of_ble_eq_true rfl)
  have hE : entryFrame m9 ag9 2 = F0 m9 0 ((lg_sl ([.ref (q 0), .int (zI p)]) ++ List.replicate (2 - (lg_sl ([.ref (q 0), .int (zI p)])).length) Slot.unset).toArray) [] := by rw [hav]; exact lg_entry_eq m9 _ _
  obtain ⟨Q0, hQ0⟩ : ∃ Q0, Q0 = vx_MQ below zNo (zXC D (wC cI cZ q pa sp al dg co da mb dd ah wl lo n td wn) "java/lang/IllegalStateException" (zLC q)) ag9 s9 1 6 (fun a => a ∈ zLC q) := ⟨_, rfl⟩
  show W p0 l e9 ({ frames := 7, cells := 1, slots := 6, locals := 111 }) s9 m9 ag9 below meth c9 s9.heap [] 0 0 (vx_MQ below zNo (zXC D (wC cI cZ q pa sp al dg co da mb dd ah wl lo n td wn) "java/lang/IllegalStateException" (zLC q)) ag9 s9 1 6 (fun a => a ∈ zLC q)) _
  rw [hE, ← hQ0]
  have hS : va_S (fun a => a ∈ zLC q) s9.heap s9.heap [] := va_S.rf
  generalize hH0 : s9.heap = H at hP ⊢
  have hS : va_S (fun a => a ∈ zLC q) s9.heap H [] := by rw [hH0] at hS ⊢; exact hS
  generalize (lg_sl ([.ref (q 0), .int (zI p)]) ++ List.replicate (2 - (lg_sl ([.ref (q 0), .int (zI p)])).length) Slot.unset).toArray = ls at hl ⊢
  have hl : lv_has ls 2 [(0, .ref (q 0)), (1, .int (zI p))] := hl
  refine lv_aload_n hx hb dX2_addChild_0 rfl (lv_at hl 0 rfl) ?_
  refine lv_iload_n hx hb dX2_addChild_1 rfl (lv_at hl 1 rfl) ?_
  refine zcallV (ci := 2) (q0 := 0) (cq := (RX2, TX2, 9)) (As := [.int (zI p)]) (rest := []) ⟨hx, hb, hml, hown, hts⟩ hK (kX2_needPersonok l D cI cZ q hN pa sp al dg co da mb dd ah wl lo n td wn hn p (by omega)) (cwV 1 hts gX2_addChild_X2_needPerson rfl rfl rfl (by decide +kernel) ⟨Nat.le_of_ble_eq_true rfl, Nat.le_of_ble_eq_true rfl⟩) hP hS hA rfl rfl rfl hl.1 rfl (Nat.le_of_ble_eq_true rfl) dX2_addChild_2 ⟨Nat.zero_le _, Nat.zero_le _⟩ (fun H locs hP hS _ _ => ?_)
  refine W.eq (g2 := F0 m9 5 ls []) rfl ?_
  refine lv_aload_n hx hb dX2_addChild_5 rfl (lv_at hl 0 rfl) ?_
  refine lv_iload_n hx hb dX2_addChild_6 rfl (lv_at hl 1 rfl) ?_
  refine zcallXV (ci := 2) (q0 := 0) (cq := (RX2, TX2, 9)) (As := [.int (zI p)]) (rest := []) ⟨hx, hb, hml, hown, hts⟩ hK (kX2_needAlivex l D hl0 cI cZ q hN pa sp al dg co da mb dd ah wl lo n td wn hal p (by omega) (by omega)) (cwV 1 hts gX2_addChild_X2_needAlive rfl rfl rfl (by decide +kernel) ⟨Nat.le_of_ble_eq_true rfl, Nat.le_of_ble_eq_true rfl⟩) hP (hT.kept hS.2.1) hS hA rfl rfl rfl hl.1 rfl (Nat.le_of_ble_eq_true rfl) dX2_addChild_7 ⟨Nat.le_of_ble_eq_true rfl, Nat.le_of_ble_eq_true rfl⟩ (fun ce q9 H locs hP hS _ _ hce hcv hcl => ?_)
  rw [hQ0]
  exact zoutX ht hlocks hP hS hce hcv hcl
set_option maxHeartbeats 4000000 in
set_option maxRecDepth 100000 in
theorem kX2_addChildx3 (l : Launch) (D : va_G) (hl0 : l.stackTraces = false) (cI cZ : ClassId) (q : Nat → Nat) (hN : (zLC q).Nodup) (pa : Int → Int) (sp : Int → Int) (al : Int → Int) (dg : Int → Int) (co : Int → Int) (da : Int → Int) (mb : Int → Int) (dd : Int → Int) (ah : Int → Int) (wl : Int → Int) (lo : Int → Int) (n : Nat) (td : Int) (wn : Int) (hn : n ≤ 16) (hal : ∀ j : Int, 0 ≤ al j ∧ al j ≤ 1) (p : Int) (h1 : 0 ≤ p ∧ p < (n : Int)) (h2 : al p ≠ 0) (h3 : 16 ≤ n) : zX l yX2_addChild wsX2_addChild ({ frames := 7, cells := 1, slots := 6, locals := 111 }) D [(cI, .int), (cZ, .boolean)] [.ref (q 0), .int (zI p)] (wC cI cZ q pa sp al dg co da mb dd ah wl lo n td wn) "java/lang/IllegalStateException" (zLC q) := by
  refine vx_ofW (cc := cX2_addChild) (maxL := 2) (ret := (some .int)) (by decide) rfl ?_
  intro p0 e9 s9 m9 ag9 below meth c9 s₁ B hml ht hv
  obtain ⟨hav, hP, hK, hT⟩ := hv
  have hx := B.exec
  have hb := B.bytes
  have hr := B.returns
  have hts := atoms_spec (ws := wsX2_addChild) B.pre
  have hown : s9.vm.findClass RX2 = some m9.cls := findClass_of_methodNamed B.named
  have hlocks := B.notSynchronized
  have hA : ∀ a ∈ zLC q, (fun a => a ∈ zLC q) a := fun _ h => h
  have hl := lv_entry ([.ref (q 0), .int (zI p)]) (n := 2) (Nat.le_of_ble_eq_true rfl)
  have hE : entryFrame m9 ag9 2 = F0 m9 0 ((lg_sl ([.ref (q 0), .int (zI p)]) ++ List.replicate (2 - (lg_sl ([.ref (q 0), .int (zI p)])).length) Slot.unset).toArray) [] := by rw [hav]; exact lg_entry_eq m9 _ _
  obtain ⟨Q0, hQ0⟩ : ∃ Q0, Q0 = vx_MQ below zNo (zXC D (wC cI cZ q pa sp al dg co da mb dd ah wl lo n td wn) "java/lang/IllegalStateException" (zLC q)) ag9 s9 1 6 (fun a => a ∈ zLC q) := ⟨_, rfl⟩
  show W p0 l e9 ({ frames := 7, cells := 1, slots := 6, locals := 111 }) s9 m9 ag9 below meth c9 s9.heap [] 0 0 (vx_MQ below zNo (zXC D (wC cI cZ q pa sp al dg co da mb dd ah wl lo n td wn) "java/lang/IllegalStateException" (zLC q)) ag9 s9 1 6 (fun a => a ∈ zLC q)) _
  rw [hE, ← hQ0]
  have hS : va_S (fun a => a ∈ zLC q) s9.heap s9.heap [] := va_S.rf
  generalize hH0 : s9.heap = H at hP ⊢
  have hS : va_S (fun a => a ∈ zLC q) s9.heap H [] := by rw [hH0] at hS ⊢; exact hS
  generalize (lg_sl ([.ref (q 0), .int (zI p)]) ++ List.replicate (2 - (lg_sl ([.ref (q 0), .int (zI p)])).length) Slot.unset).toArray = ls at hl ⊢
  have hl : lv_has ls 2 [(0, .ref (q 0)), (1, .int (zI p))] := hl
  refine lv_aload_n hx hb dX2_addChild_0 rfl (lv_at hl 0 rfl) ?_
  refine lv_iload_n hx hb dX2_addChild_1 rfl (lv_at hl 1 rfl) ?_
  refine zcallV (ci := 2) (q0 := 0) (cq := (RX2, TX2, 9)) (As := [.int (zI p)]) (rest := []) ⟨hx, hb, hml, hown, hts⟩ hK (kX2_needPersonok l D cI cZ q hN pa sp al dg co da mb dd ah wl lo n td wn hn p (by omega)) (cwV 1 hts gX2_addChild_X2_needPerson rfl rfl rfl (by decide +kernel) ⟨Nat.le_of_ble_eq_true rfl, Nat.le_of_ble_eq_true rfl⟩) hP hS hA rfl rfl rfl hl.1 rfl (Nat.le_of_ble_eq_true rfl) dX2_addChild_2 ⟨Nat.zero_le _, Nat.zero_le _⟩ (fun H locs hP hS _ _ => ?_)
  refine W.eq (g2 := F0 m9 5 ls []) rfl ?_
  refine lv_aload_n hx hb dX2_addChild_5 rfl (lv_at hl 0 rfl) ?_
  refine lv_iload_n hx hb dX2_addChild_6 rfl (lv_at hl 1 rfl) ?_
  refine zcallV (ci := 2) (q0 := 0) (cq := (RX2, TX2, 9)) (As := [.int (zI p)]) (rest := []) ⟨hx, hb, hml, hown, hts⟩ hK (kX2_needAliveok l D cI cZ q hN pa sp al dg co da mb dd ah wl lo n td wn hal p (by omega) (by omega)) (cwV 1 hts gX2_addChild_X2_needAlive rfl rfl rfl (by decide +kernel) ⟨Nat.le_of_ble_eq_true rfl, Nat.le_of_ble_eq_true rfl⟩) hP hS hA rfl rfl rfl hl.1 rfl (Nat.le_of_ble_eq_true rfl) dX2_addChild_7 ⟨Nat.zero_le _, Nat.zero_le _⟩ (fun H locs hP hS _ _ => ?_)
  refine W.eq (g2 := F0 m9 10 ls []) rfl ?_
  refine lv_aload_n hx hb dX2_addChild_10 rfl (lv_at hl 0 rfl) ?_
  refine zcallXV (ci := 2) (q0 := 0) (cq := (RX2, TX2, 9)) (As := []) (rest := []) ⟨hx, hb, hml, hown, hts⟩ hK (kX2_needRoomx l D hl0 cI cZ q hN pa sp al dg co da mb dd ah wl lo n td wn hn (by omega)) (cwV 0 hts gX2_addChild_X2_needRoom rfl rfl rfl (by decide +kernel) ⟨Nat.le_of_ble_eq_true rfl, Nat.le_of_ble_eq_true rfl⟩) hP (hT.kept hS.2.1) hS hA rfl rfl rfl hl.1 rfl (Nat.le_of_ble_eq_true rfl) dX2_addChild_11 ⟨Nat.le_of_ble_eq_true rfl, Nat.le_of_ble_eq_true rfl⟩ (fun ce q9 H locs hP hS _ _ hce hcv hcl => ?_)
  rw [hQ0]
  exact zoutX ht hlocks hP hS hce hcv hcl
set_option maxHeartbeats 4000000 in
set_option maxRecDepth 100000 in
theorem kX2_marryx1 (l : Launch) (D : va_G) (hl0 : l.stackTraces = false) (cI cZ : ClassId) (q : Nat → Nat) (hN : (zLC q).Nodup) (pa : Int → Int) (sp : Int → Int) (al : Int → Int) (dg : Int → Int) (co : Int → Int) (da : Int → Int) (mb : Int → Int) (dd : Int → Int) (ah : Int → Int) (wl : Int → Int) (lo : Int → Int) (n : Nat) (td : Int) (wn : Int) (hn : n ≤ 16) (a : Int) (b : Int) (h0 : -2147483648 ≤ a ∧ a ≤ 2147483647) (h1 : ¬ (0 ≤ a ∧ a < (n : Int))) : zX l yX2_marry wsX2_marry ({ frames := 7, cells := 1, slots := 6, locals := 112 }) D [(cI, .int), (cZ, .boolean)] [.ref (q 0), .int (zI a), .int (zI b)] (wC cI cZ q pa sp al dg co da mb dd ah wl lo n td wn) "java/lang/IndexOutOfBoundsException" (zLC q) := by
  refine vx_ofW (cc := cX2_marry) (maxL := 4) (ret := (some .int)) (by decide) rfl ?_
  intro p0 e9 s9 m9 ag9 below meth c9 s₁ B hml ht hv
  obtain ⟨hav, hP, hK, hT⟩ := hv
  have hx := B.exec
  have hb := B.bytes
  have hr := B.returns
  have hts := atoms_spec (ws := wsX2_marry) B.pre
  have hown : s9.vm.findClass RX2 = some m9.cls := findClass_of_methodNamed B.named
  have hlocks := B.notSynchronized
  have hA : ∀ a ∈ zLC q, (fun a => a ∈ zLC q) a := fun _ h => h
  have hl := lv_entry ([.ref (q 0), .int (zI a), .int (zI b)]) (n := 4) (Nat.le_of_ble_eq_true rfl)
  have hE : entryFrame m9 ag9 4 = F0 m9 0 ((lg_sl ([.ref (q 0), .int (zI a), .int (zI b)]) ++ List.replicate (4 - (lg_sl ([.ref (q 0), .int (zI a), .int (zI b)])).length) Slot.unset).toArray) [] := by rw [hav]; exact lg_entry_eq m9 _ _
  obtain ⟨Q0, hQ0⟩ : ∃ Q0, Q0 = vx_MQ below zNo (zXC D (wC cI cZ q pa sp al dg co da mb dd ah wl lo n td wn) "java/lang/IndexOutOfBoundsException" (zLC q)) ag9 s9 1 6 (fun a => a ∈ zLC q) := ⟨_, rfl⟩
  show W p0 l e9 ({ frames := 7, cells := 1, slots := 6, locals := 112 }) s9 m9 ag9 below meth c9 s9.heap [] 0 0 (vx_MQ below zNo (zXC D (wC cI cZ q pa sp al dg co da mb dd ah wl lo n td wn) "java/lang/IndexOutOfBoundsException" (zLC q)) ag9 s9 1 6 (fun a => a ∈ zLC q)) _
  rw [hE, ← hQ0]
  have hS : va_S (fun a => a ∈ zLC q) s9.heap s9.heap [] := va_S.rf
  generalize hH0 : s9.heap = H at hP ⊢
  have hS : va_S (fun a => a ∈ zLC q) s9.heap H [] := by rw [hH0] at hS ⊢; exact hS
  generalize (lg_sl ([.ref (q 0), .int (zI a), .int (zI b)]) ++ List.replicate (4 - (lg_sl ([.ref (q 0), .int (zI a), .int (zI b)])).length) Slot.unset).toArray = ls at hl ⊢
  have hl : lv_has ls 4 [(0, .ref (q 0)), (1, .int (zI a)), (2, .int (zI b))] := hl
  refine lv_aload_n hx hb dX2_marry_0 rfl (lv_at hl 0 rfl) ?_
  refine lv_iload_n hx hb dX2_marry_1 rfl (lv_at hl 1 rfl) ?_
  refine zcallXV (ci := 2) (q0 := 0) (cq := (RX2, TX2, 9)) (As := [.int (zI a)]) (rest := []) ⟨hx, hb, hml, hown, hts⟩ hK (kX2_needPersonx l D hl0 cI cZ q hN pa sp al dg co da mb dd ah wl lo n td wn hn a (by omega) (by omega)) (cwV 1 hts gX2_marry_X2_needPerson rfl rfl rfl (by decide +kernel) ⟨Nat.le_of_ble_eq_true rfl, Nat.le_of_ble_eq_true rfl⟩) hP (hT.kept hS.2.1) hS hA rfl rfl rfl hl.1 rfl (Nat.le_of_ble_eq_true rfl) dX2_marry_2 ⟨Nat.le_of_ble_eq_true rfl, Nat.le_of_ble_eq_true rfl⟩ (fun ce q9 H locs hP hS _ _ hce hcv hcl => ?_)
  rw [hQ0]
  exact zoutX ht hlocks hP hS hce hcv hcl
set_option maxHeartbeats 4000000 in
set_option maxRecDepth 100000 in
theorem kX2_marryx2 (l : Launch) (D : va_G) (hl0 : l.stackTraces = false) (cI cZ : ClassId) (q : Nat → Nat) (hN : (zLC q).Nodup) (pa : Int → Int) (sp : Int → Int) (al : Int → Int) (dg : Int → Int) (co : Int → Int) (da : Int → Int) (mb : Int → Int) (dd : Int → Int) (ah : Int → Int) (wl : Int → Int) (lo : Int → Int) (n : Nat) (td : Int) (wn : Int) (hn : n ≤ 16) (a : Int) (b : Int) (h0 : -2147483648 ≤ b ∧ b ≤ 2147483647) (h1 : 0 ≤ a ∧ a < (n : Int)) (h2 : ¬ (0 ≤ b ∧ b < (n : Int))) : zX l yX2_marry wsX2_marry ({ frames := 7, cells := 1, slots := 6, locals := 112 }) D [(cI, .int), (cZ, .boolean)] [.ref (q 0), .int (zI a), .int (zI b)] (wC cI cZ q pa sp al dg co da mb dd ah wl lo n td wn) "java/lang/IndexOutOfBoundsException" (zLC q) := by
  refine vx_ofW (cc := cX2_marry) (maxL := 4) (ret := (some .int)) (by decide) rfl ?_
  intro p0 e9 s9 m9 ag9 below meth c9 s₁ B hml ht hv
  obtain ⟨hav, hP, hK, hT⟩ := hv
  have hx := B.exec
  have hb := B.bytes
  have hr := B.returns
  have hts := atoms_spec (ws := wsX2_marry) B.pre
  have hown : s9.vm.findClass RX2 = some m9.cls := findClass_of_methodNamed B.named
  have hlocks := B.notSynchronized
  have hA : ∀ a ∈ zLC q, (fun a => a ∈ zLC q) a := fun _ h => h
  have hl := lv_entry ([.ref (q 0), .int (zI a), .int (zI b)]) (n := 4) (Nat.le_of_ble_eq_true rfl)
  have hE : entryFrame m9 ag9 4 = F0 m9 0 ((lg_sl ([.ref (q 0), .int (zI a), .int (zI b)]) ++ List.replicate (4 - (lg_sl ([.ref (q 0), .int (zI a), .int (zI b)])).length) Slot.unset).toArray) [] := by rw [hav]; exact lg_entry_eq m9 _ _
  obtain ⟨Q0, hQ0⟩ : ∃ Q0, Q0 = vx_MQ below zNo (zXC D (wC cI cZ q pa sp al dg co da mb dd ah wl lo n td wn) "java/lang/IndexOutOfBoundsException" (zLC q)) ag9 s9 1 6 (fun a => a ∈ zLC q) := ⟨_, rfl⟩
  show W p0 l e9 ({ frames := 7, cells := 1, slots := 6, locals := 112 }) s9 m9 ag9 below meth c9 s9.heap [] 0 0 (vx_MQ below zNo (zXC D (wC cI cZ q pa sp al dg co da mb dd ah wl lo n td wn) "java/lang/IndexOutOfBoundsException" (zLC q)) ag9 s9 1 6 (fun a => a ∈ zLC q)) _
  rw [hE, ← hQ0]
  have hS : va_S (fun a => a ∈ zLC q) s9.heap s9.heap [] := va_S.rf
  generalize hH0 : s9.heap = H at hP ⊢
  have hS : va_S (fun a => a ∈ zLC q) s9.heap H [] := by rw [hH0] at hS ⊢; exact hS
  generalize (lg_sl ([.ref (q 0), .int (zI a), .int (zI b)]) ++ List.replicate (4 - (lg_sl ([.ref (q 0), .int (zI a), .int (zI b)])).length) Slot.unset).toArray = ls at hl ⊢
  have hl : lv_has ls 4 [(0, .ref (q 0)), (1, .int (zI a)), (2, .int (zI b))] := hl
  refine lv_aload_n hx hb dX2_marry_0 rfl (lv_at hl 0 rfl) ?_
  refine lv_iload_n hx hb dX2_marry_1 rfl (lv_at hl 1 rfl) ?_
  refine zcallV (ci := 2) (q0 := 0) (cq := (RX2, TX2, 9)) (As := [.int (zI a)]) (rest := []) ⟨hx, hb, hml, hown, hts⟩ hK (kX2_needPersonok l D cI cZ q hN pa sp al dg co da mb dd ah wl lo n td wn hn a (by omega)) (cwV 1 hts gX2_marry_X2_needPerson rfl rfl rfl (by decide +kernel) ⟨Nat.le_of_ble_eq_true rfl, Nat.le_of_ble_eq_true rfl⟩) hP hS hA rfl rfl rfl hl.1 rfl (Nat.le_of_ble_eq_true rfl) dX2_marry_2 ⟨Nat.zero_le _, Nat.zero_le _⟩ (fun H locs hP hS _ _ => ?_)
  refine W.eq (g2 := F0 m9 5 ls []) rfl ?_
  refine lv_aload_n hx hb dX2_marry_5 rfl (lv_at hl 0 rfl) ?_
  refine lv_iload_n hx hb dX2_marry_6 rfl (lv_at hl 2 rfl) ?_
  refine zcallXV (ci := 2) (q0 := 0) (cq := (RX2, TX2, 9)) (As := [.int (zI b)]) (rest := []) ⟨hx, hb, hml, hown, hts⟩ hK (kX2_needPersonx l D hl0 cI cZ q hN pa sp al dg co da mb dd ah wl lo n td wn hn b (by omega) (by omega)) (cwV 1 hts gX2_marry_X2_needPerson rfl rfl rfl (by decide +kernel) ⟨Nat.le_of_ble_eq_true rfl, Nat.le_of_ble_eq_true rfl⟩) hP (hT.kept hS.2.1) hS hA rfl rfl rfl hl.1 rfl (Nat.le_of_ble_eq_true rfl) dX2_marry_7 ⟨Nat.le_of_ble_eq_true rfl, Nat.le_of_ble_eq_true rfl⟩ (fun ce q9 H locs hP hS _ _ hce hcv hcl => ?_)
  rw [hQ0]
  exact zoutX ht hlocks hP hS hce hcv hcl
set_option maxHeartbeats 4000000 in
set_option maxRecDepth 100000 in
theorem kX2_marryx3 (l : Launch) (D : va_G) (hl0 : l.stackTraces = false) (cI cZ : ClassId) (q : Nat → Nat) (hN : (zLC q).Nodup) (pa : Int → Int) (sp : Int → Int) (al : Int → Int) (dg : Int → Int) (co : Int → Int) (da : Int → Int) (mb : Int → Int) (dd : Int → Int) (ah : Int → Int) (wl : Int → Int) (lo : Int → Int) (n : Nat) (td : Int) (wn : Int) (hn : n ≤ 16) (a : Int) (b : Int) (h1 : 0 ≤ a ∧ a < (n : Int)) (h2 : 0 ≤ b ∧ b < (n : Int)) (h3 : a = b) : zX l yX2_marry wsX2_marry ({ frames := 7, cells := 1, slots := 6, locals := 112 }) D [(cI, .int), (cZ, .boolean)] [.ref (q 0), .int (zI a), .int (zI b)] (wC cI cZ q pa sp al dg co da mb dd ah wl lo n td wn) "java/lang/IllegalArgumentException" (zLC q) := by
  refine vx_ofW (cc := cX2_marry) (maxL := 4) (ret := (some .int)) (by decide) rfl ?_
  intro p0 e9 s9 m9 ag9 below meth c9 s₁ B hml ht hv
  obtain ⟨hav, hP, hK, hT⟩ := hv
  have hx := B.exec
  have hb := B.bytes
  have hr := B.returns
  have hts := atoms_spec (ws := wsX2_marry) B.pre
  have hown : s9.vm.findClass RX2 = some m9.cls := findClass_of_methodNamed B.named
  have hlocks := B.notSynchronized
  have hA : ∀ a ∈ zLC q, (fun a => a ∈ zLC q) a := fun _ h => h
  have hl := lv_entry ([.ref (q 0), .int (zI a), .int (zI b)]) (n := 4) (Nat.le_of_ble_eq_true rfl)
  have hE : entryFrame m9 ag9 4 = F0 m9 0 ((lg_sl ([.ref (q 0), .int (zI a), .int (zI b)]) ++ List.replicate (4 - (lg_sl ([.ref (q 0), .int (zI a), .int (zI b)])).length) Slot.unset).toArray) [] := by rw [hav]; exact lg_entry_eq m9 _ _
  obtain ⟨Q0, hQ0⟩ : ∃ Q0, Q0 = vx_MQ below zNo (zXC D (wC cI cZ q pa sp al dg co da mb dd ah wl lo n td wn) "java/lang/IllegalArgumentException" (zLC q)) ag9 s9 1 6 (fun a => a ∈ zLC q) := ⟨_, rfl⟩
  show W p0 l e9 ({ frames := 7, cells := 1, slots := 6, locals := 112 }) s9 m9 ag9 below meth c9 s9.heap [] 0 0 (vx_MQ below zNo (zXC D (wC cI cZ q pa sp al dg co da mb dd ah wl lo n td wn) "java/lang/IllegalArgumentException" (zLC q)) ag9 s9 1 6 (fun a => a ∈ zLC q)) _
  rw [hE, ← hQ0]
  have hS : va_S (fun a => a ∈ zLC q) s9.heap s9.heap [] := va_S.rf
  generalize hH0 : s9.heap = H at hP ⊢
  have hS : va_S (fun a => a ∈ zLC q) s9.heap H [] := by rw [hH0] at hS ⊢; exact hS
  generalize (lg_sl ([.ref (q 0), .int (zI a), .int (zI b)]) ++ List.replicate (4 - (lg_sl ([.ref (q 0), .int (zI a), .int (zI b)])).length) Slot.unset).toArray = ls at hl ⊢
  have hl : lv_has ls 4 [(0, .ref (q 0)), (1, .int (zI a)), (2, .int (zI b))] := hl
  refine lv_aload_n hx hb dX2_marry_0 rfl (lv_at hl 0 rfl) ?_
  refine lv_iload_n hx hb dX2_marry_1 rfl (lv_at hl 1 rfl) ?_
  refine zcallV (ci := 2) (q0 := 0) (cq := (RX2, TX2, 9)) (As := [.int (zI a)]) (rest := []) ⟨hx, hb, hml, hown, hts⟩ hK (kX2_needPersonok l D cI cZ q hN pa sp al dg co da mb dd ah wl lo n td wn hn a (by omega)) (cwV 1 hts gX2_marry_X2_needPerson rfl rfl rfl (by decide +kernel) ⟨Nat.le_of_ble_eq_true rfl, Nat.le_of_ble_eq_true rfl⟩) hP hS hA rfl rfl rfl hl.1 rfl (Nat.le_of_ble_eq_true rfl) dX2_marry_2 ⟨Nat.zero_le _, Nat.zero_le _⟩ (fun H locs hP hS _ _ => ?_)
  refine W.eq (g2 := F0 m9 5 ls []) rfl ?_
  refine lv_aload_n hx hb dX2_marry_5 rfl (lv_at hl 0 rfl) ?_
  refine lv_iload_n hx hb dX2_marry_6 rfl (lv_at hl 2 rfl) ?_
  refine zcallV (ci := 2) (q0 := 0) (cq := (RX2, TX2, 9)) (As := [.int (zI b)]) (rest := []) ⟨hx, hb, hml, hown, hts⟩ hK (kX2_needPersonok l D cI cZ q hN pa sp al dg co da mb dd ah wl lo n td wn hn b (by omega)) (cwV 1 hts gX2_marry_X2_needPerson rfl rfl rfl (by decide +kernel) ⟨Nat.le_of_ble_eq_true rfl, Nat.le_of_ble_eq_true rfl⟩) hP hS hA rfl rfl rfl hl.1 rfl (Nat.le_of_ble_eq_true rfl) dX2_marry_7 ⟨Nat.zero_le _, Nat.zero_le _⟩ (fun H locs hP hS _ _ => ?_)
  refine W.eq (g2 := F0 m9 10 ls []) rfl ?_
  refine lv_aload_n hx hb dX2_marry_10 rfl (lv_at hl 0 rfl) ?_
  refine lv_iload_n hx hb dX2_marry_11 rfl (lv_at hl 1 rfl) ?_
  refine lv_iload_n hx hb dX2_marry_12 rfl (lv_at hl 2 rfl) ?_
  refine zcallXV (ci := 2) (q0 := 0) (cq := (RX2, TX2, 9)) (As := [.int (zI a), .int (zI b)]) (rest := []) ⟨hx, hb, hml, hown, hts⟩ hK (kX2_needTwox l D hl0 cI cZ q hN pa sp al dg co da mb dd ah wl lo n td wn a b (by omega) (by omega) (by omega)) (cwV 2 hts gX2_marry_X2_needTwo rfl rfl rfl (by decide +kernel) ⟨Nat.le_of_ble_eq_true rfl, Nat.le_of_ble_eq_true rfl⟩) hP (hT.kept hS.2.1) hS hA rfl rfl rfl hl.1 rfl (Nat.le_of_ble_eq_true rfl) dX2_marry_13 ⟨Nat.le_of_ble_eq_true rfl, Nat.le_of_ble_eq_true rfl⟩ (fun ce q9 H locs hP hS _ _ hce hcv hcl => ?_)
  rw [hQ0]
  exact zoutX ht hlocks hP hS hce hcv hcl
set_option maxHeartbeats 4000000 in
set_option maxRecDepth 100000 in
theorem kX2_marryx4 (l : Launch) (D : va_G) (hl0 : l.stackTraces = false) (cI cZ : ClassId) (q : Nat → Nat) (hN : (zLC q).Nodup) (pa : Int → Int) (sp : Int → Int) (al : Int → Int) (dg : Int → Int) (co : Int → Int) (da : Int → Int) (mb : Int → Int) (dd : Int → Int) (ah : Int → Int) (wl : Int → Int) (lo : Int → Int) (n : Nat) (td : Int) (wn : Int) (hn : n ≤ 16) (hal : ∀ j : Int, 0 ≤ al j ∧ al j ≤ 1) (a : Int) (b : Int) (h1 : 0 ≤ a ∧ a < (n : Int)) (h2 : 0 ≤ b ∧ b < (n : Int)) (h3 : a ≠ b) (h4 : al a = 0) : zX l yX2_marry wsX2_marry ({ frames := 7, cells := 1, slots := 6, locals := 112 }) D [(cI, .int), (cZ, .boolean)] [.ref (q 0), .int (zI a), .int (zI b)] (wC cI cZ q pa sp al dg co da mb dd ah wl lo n td wn) "java/lang/IllegalStateException" (zLC q) := by
  refine vx_ofW (cc := cX2_marry) (maxL := 4) (ret := (some .int)) (by decide) rfl ?_
  intro p0 e9 s9 m9 ag9 below meth c9 s₁ B hml ht hv
  obtain ⟨hav, hP, hK, hT⟩ := hv
  have hx := B.exec
  have hb := B.bytes
  have hr := B.returns
  have hts := atoms_spec (ws := wsX2_marry) B.pre
  have hown : s9.vm.findClass RX2 = some m9.cls := findClass_of_methodNamed B.named
  have hlocks := B.notSynchronized
  have hA : ∀ a ∈ zLC q, (fun a => a ∈ zLC q) a := fun _ h => h
  have hl := lv_entry ([.ref (q 0), .int (zI a), .int (zI b)]) (n := 4) (Nat.le_of_ble_eq_true rfl)
  have hE : entryFrame m9 ag9 4 = F0 m9 0 ((lg_sl ([.ref (q 0), .int (zI a), .int (zI b)]) ++ List.replicate (4 - (lg_sl ([.ref (q 0), .int (zI a), .int (zI b)])).length) Slot.unset).toArray) [] := by rw [hav]; exact lg_entry_eq m9 _ _
  obtain ⟨Q0, hQ0⟩ : ∃ Q0, Q0 = vx_MQ below zNo (zXC D (wC cI cZ q pa sp al dg co da mb dd ah wl lo n td wn) "java/lang/IllegalStateException" (zLC q)) ag9 s9 1 6 (fun a => a ∈ zLC q) := ⟨_, rfl⟩
  show W p0 l e9 ({ frames := 7, cells := 1, slots := 6, locals := 112 }) s9 m9 ag9 below meth c9 s9.heap [] 0 0 (vx_MQ below zNo (zXC D (wC cI cZ q pa sp al dg co da mb dd ah wl lo n td wn) "java/lang/IllegalStateException" (zLC q)) ag9 s9 1 6 (fun a => a ∈ zLC q)) _
  rw [hE, ← hQ0]
  have hS : va_S (fun a => a ∈ zLC q) s9.heap s9.heap [] := va_S.rf
  generalize hH0 : s9.heap = H at hP ⊢
  have hS : va_S (fun a => a ∈ zLC q) s9.heap H [] := by rw [hH0] at hS ⊢; exact hS
  generalize (lg_sl ([.ref (q 0), .int (zI a), .int (zI b)]) ++ List.replicate (4 - (lg_sl ([.ref (q 0), .int (zI a), .int (zI b)])).length) Slot.unset).toArray = ls at hl ⊢
  have hl : lv_has ls 4 [(0, .ref (q 0)), (1, .int (zI a)), (2, .int (zI b))] := hl
  refine lv_aload_n hx hb dX2_marry_0 rfl (lv_at hl 0 rfl) ?_
  refine lv_iload_n hx hb dX2_marry_1 rfl (lv_at hl 1 rfl) ?_
  refine zcallV (ci := 2) (q0 := 0) (cq := (RX2, TX2, 9)) (As := [.int (zI a)]) (rest := []) ⟨hx, hb, hml, hown, hts⟩ hK (kX2_needPersonok l D cI cZ q hN pa sp al dg co da mb dd ah wl lo n td wn hn a (by omega)) (cwV 1 hts gX2_marry_X2_needPerson rfl rfl rfl (by decide +kernel) ⟨Nat.le_of_ble_eq_true rfl, Nat.le_of_ble_eq_true rfl⟩) hP hS hA rfl rfl rfl hl.1 rfl (Nat.le_of_ble_eq_true rfl) dX2_marry_2 ⟨Nat.zero_le _, Nat.zero_le _⟩ (fun H locs hP hS _ _ => ?_)
  refine W.eq (g2 := F0 m9 5 ls []) rfl ?_
  refine lv_aload_n hx hb dX2_marry_5 rfl (lv_at hl 0 rfl) ?_
  refine lv_iload_n hx hb dX2_marry_6 rfl (lv_at hl 2 rfl) ?_
  refine zcallV (ci := 2) (q0 := 0) (cq := (RX2, TX2, 9)) (As := [.int (zI b)]) (rest := []) ⟨hx, hb, hml, hown, hts⟩ hK (kX2_needPersonok l D cI cZ q hN pa sp al dg co da mb dd ah wl lo n td wn hn b (by omega)) (cwV 1 hts gX2_marry_X2_needPerson rfl rfl rfl (by decide +kernel) ⟨Nat.le_of_ble_eq_true rfl, Nat.le_of_ble_eq_true rfl⟩) hP hS hA rfl rfl rfl hl.1 rfl (Nat.le_of_ble_eq_true rfl) dX2_marry_7 ⟨Nat.zero_le _, Nat.zero_le _⟩ (fun H locs hP hS _ _ => ?_)
  refine W.eq (g2 := F0 m9 10 ls []) rfl ?_
  refine lv_aload_n hx hb dX2_marry_10 rfl (lv_at hl 0 rfl) ?_
  refine lv_iload_n hx hb dX2_marry_11 rfl (lv_at hl 1 rfl) ?_
  refine lv_iload_n hx hb dX2_marry_12 rfl (lv_at hl 2 rfl) ?_
  refine zcallV (ci := 2) (q0 := 0) (cq := (RX2, TX2, 9)) (As := [.int (zI a), .int (zI b)]) (rest := []) ⟨hx, hb, hml, hown, hts⟩ hK (kX2_needTwook l D cI cZ q hN pa sp al dg co da mb dd ah wl lo n td wn a b (by omega) (by omega) (by omega)) (cwV 2 hts gX2_marry_X2_needTwo rfl rfl rfl (by decide +kernel) ⟨Nat.le_of_ble_eq_true rfl, Nat.le_of_ble_eq_true rfl⟩) hP hS hA rfl rfl rfl hl.1 rfl (Nat.le_of_ble_eq_true rfl) dX2_marry_13 ⟨Nat.zero_le _, Nat.zero_le _⟩ (fun H locs hP hS _ _ => ?_)
  refine W.eq (g2 := F0 m9 16 ls []) rfl ?_
  refine lv_aload_n hx hb dX2_marry_16 rfl (lv_at hl 0 rfl) ?_
  refine lv_iload_n hx hb dX2_marry_17 rfl (lv_at hl 1 rfl) ?_
  refine zcallXV (ci := 2) (q0 := 0) (cq := (RX2, TX2, 9)) (As := [.int (zI a)]) (rest := []) ⟨hx, hb, hml, hown, hts⟩ hK (kX2_needAlivex l D hl0 cI cZ q hN pa sp al dg co da mb dd ah wl lo n td wn hal a (by omega) (by omega)) (cwV 1 hts gX2_marry_X2_needAlive rfl rfl rfl (by decide +kernel) ⟨Nat.le_of_ble_eq_true rfl, Nat.le_of_ble_eq_true rfl⟩) hP (hT.kept hS.2.1) hS hA rfl rfl rfl hl.1 rfl (Nat.le_of_ble_eq_true rfl) dX2_marry_18 ⟨Nat.le_of_ble_eq_true rfl, Nat.le_of_ble_eq_true rfl⟩ (fun ce q9 H locs hP hS _ _ hce hcv hcl => ?_)
  rw [hQ0]
  exact zoutX ht hlocks hP hS hce hcv hcl
set_option maxHeartbeats 4000000 in
set_option maxRecDepth 100000 in
theorem kX2_marryx5 (l : Launch) (D : va_G) (hl0 : l.stackTraces = false) (cI cZ : ClassId) (q : Nat → Nat) (hN : (zLC q).Nodup) (pa : Int → Int) (sp : Int → Int) (al : Int → Int) (dg : Int → Int) (co : Int → Int) (da : Int → Int) (mb : Int → Int) (dd : Int → Int) (ah : Int → Int) (wl : Int → Int) (lo : Int → Int) (n : Nat) (td : Int) (wn : Int) (hn : n ≤ 16) (hal : ∀ j : Int, 0 ≤ al j ∧ al j ≤ 1) (a : Int) (b : Int) (h1 : 0 ≤ a ∧ a < (n : Int)) (h2 : 0 ≤ b ∧ b < (n : Int)) (h3 : a ≠ b) (h4 : al a ≠ 0) (h5 : al b = 0) : zX l yX2_marry wsX2_marry ({ frames := 7, cells := 1, slots := 6, locals := 112 }) D [(cI, .int), (cZ, .boolean)] [.ref (q 0), .int (zI a), .int (zI b)] (wC cI cZ q pa sp al dg co da mb dd ah wl lo n td wn) "java/lang/IllegalStateException" (zLC q) := by
  refine vx_ofW (cc := cX2_marry) (maxL := 4) (ret := (some .int)) (by decide) rfl ?_
  intro p0 e9 s9 m9 ag9 below meth c9 s₁ B hml ht hv
  obtain ⟨hav, hP, hK, hT⟩ := hv
  have hx := B.exec
  have hb := B.bytes
  have hr := B.returns
  have hts := atoms_spec (ws := wsX2_marry) B.pre
  have hown : s9.vm.findClass RX2 = some m9.cls := findClass_of_methodNamed B.named
  have hlocks := B.notSynchronized
  have hA : ∀ a ∈ zLC q, (fun a => a ∈ zLC q) a := fun _ h => h
  have hl := lv_entry ([.ref (q 0), .int (zI a), .int (zI b)]) (n := 4) (Nat.le_of_ble_eq_true rfl)
  have hE : entryFrame m9 ag9 4 = F0 m9 0 ((lg_sl ([.ref (q 0), .int (zI a), .int (zI b)]) ++ List.replicate (4 - (lg_sl ([.ref (q 0), .int (zI a), .int (zI b)])).length) Slot.unset).toArray) [] := by rw [hav]; exact lg_entry_eq m9 _ _
  obtain ⟨Q0, hQ0⟩ : ∃ Q0, Q0 = vx_MQ below zNo (zXC D (wC cI cZ q pa sp al dg co da mb dd ah wl lo n td wn) "java/lang/IllegalStateException" (zLC q)) ag9 s9 1 6 (fun a => a ∈ zLC q) := ⟨_, rfl⟩
  show W p0 l e9 ({ frames := 7, cells := 1, slots := 6, locals := 112 }) s9 m9 ag9 below meth c9 s9.heap [] 0 0 (vx_MQ below zNo (zXC D (wC cI cZ q pa sp al dg co da mb dd ah wl lo n td wn) "java/lang/IllegalStateException" (zLC q)) ag9 s9 1 6 (fun a => a ∈ zLC q)) _
  rw [hE, ← hQ0]
  have hS : va_S (fun a => a ∈ zLC q) s9.heap s9.heap [] := va_S.rf
  generalize hH0 : s9.heap = H at hP ⊢
  have hS : va_S (fun a => a ∈ zLC q) s9.heap H [] := by rw [hH0] at hS ⊢; exact hS
  generalize (lg_sl ([.ref (q 0), .int (zI a), .int (zI b)]) ++ List.replicate (4 - (lg_sl ([.ref (q 0), .int (zI a), .int (zI b)])).length) Slot.unset).toArray = ls at hl ⊢
  have hl : lv_has ls 4 [(0, .ref (q 0)), (1, .int (zI a)), (2, .int (zI b))] := hl
  refine lv_aload_n hx hb dX2_marry_0 rfl (lv_at hl 0 rfl) ?_
  refine lv_iload_n hx hb dX2_marry_1 rfl (lv_at hl 1 rfl) ?_
  refine zcallV (ci := 2) (q0 := 0) (cq := (RX2, TX2, 9)) (As := [.int (zI a)]) (rest := []) ⟨hx, hb, hml, hown, hts⟩ hK (kX2_needPersonok l D cI cZ q hN pa sp al dg co da mb dd ah wl lo n td wn hn a (by omega)) (cwV 1 hts gX2_marry_X2_needPerson rfl rfl rfl (by decide +kernel) ⟨Nat.le_of_ble_eq_true rfl, Nat.le_of_ble_eq_true rfl⟩) hP hS hA rfl rfl rfl hl.1 rfl (Nat.le_of_ble_eq_true rfl) dX2_marry_2 ⟨Nat.zero_le _, Nat.zero_le _⟩ (fun H locs hP hS _ _ => ?_)
  refine W.eq (g2 := F0 m9 5 ls []) rfl ?_
  refine lv_aload_n hx hb dX2_marry_5 rfl (lv_at hl 0 rfl) ?_
  refine lv_iload_n hx hb dX2_marry_6 rfl (lv_at hl 2 rfl) ?_
  refine zcallV (ci := 2) (q0 := 0) (cq := (RX2, TX2, 9)) (As := [.int (zI b)]) (rest := []) ⟨hx, hb, hml, hown, hts⟩ hK (kX2_needPersonok l D cI cZ q hN pa sp al dg co da mb dd ah wl lo n td wn hn b (by omega)) (cwV 1 hts gX2_marry_X2_needPerson rfl rfl rfl (by decide +kernel) ⟨Nat.le_of_ble_eq_true rfl, Nat.le_of_ble_eq_true rfl⟩) hP hS hA rfl rfl rfl hl.1 rfl (Nat.le_of_ble_eq_true rfl) dX2_marry_7 ⟨Nat.zero_le _, Nat.zero_le _⟩ (fun H locs hP hS _ _ => ?_)
  refine W.eq (g2 := F0 m9 10 ls []) rfl ?_
  refine lv_aload_n hx hb dX2_marry_10 rfl (lv_at hl 0 rfl) ?_
  refine lv_iload_n hx hb dX2_marry_11 rfl (lv_at hl 1 rfl) ?_
  refine lv_iload_n hx hb dX2_marry_12 rfl (lv_at hl 2 rfl) ?_
  refine zcallV (ci := 2) (q0 := 0) (cq := (RX2, TX2, 9)) (As := [.int (zI a), .int (zI b)]) (rest := []) ⟨hx, hb, hml, hown, hts⟩ hK (kX2_needTwook l D cI cZ q hN pa sp al dg co da mb dd ah wl lo n td wn a b (by omega) (by omega) (by omega)) (cwV 2 hts gX2_marry_X2_needTwo rfl rfl rfl (by decide +kernel) ⟨Nat.le_of_ble_eq_true rfl, Nat.le_of_ble_eq_true rfl⟩) hP hS hA rfl rfl rfl hl.1 rfl (Nat.le_of_ble_eq_true rfl) dX2_marry_13 ⟨Nat.zero_le _, Nat.zero_le _⟩ (fun H locs hP hS _ _ => ?_)
  refine W.eq (g2 := F0 m9 16 ls []) rfl ?_
  refine lv_aload_n hx hb dX2_marry_16 rfl (lv_at hl 0 rfl) ?_
  refine lv_iload_n hx hb dX2_marry_17 rfl (lv_at hl 1 rfl) ?_
  refine zcallV (ci := 2) (q0 := 0) (cq := (RX2, TX2, 9)) (As := [.int (zI a)]) (rest := []) ⟨hx, hb, hml, hown, hts⟩ hK (kX2_needAliveok l D cI cZ q hN pa sp al dg co da mb dd ah wl lo n td wn hal a (by omega) (by omega)) (cwV 1 hts gX2_marry_X2_needAlive rfl rfl rfl (by decide +kernel) ⟨Nat.le_of_ble_eq_true rfl, Nat.le_of_ble_eq_true rfl⟩) hP hS hA rfl rfl rfl hl.1 rfl (Nat.le_of_ble_eq_true rfl) dX2_marry_18 ⟨Nat.zero_le _, Nat.zero_le _⟩ (fun H locs hP hS _ _ => ?_)
  refine W.eq (g2 := F0 m9 21 ls []) rfl ?_
  refine lv_aload_n hx hb dX2_marry_21 rfl (lv_at hl 0 rfl) ?_
  refine lv_iload_n hx hb dX2_marry_22 rfl (lv_at hl 2 rfl) ?_
  refine zcallXV (ci := 2) (q0 := 0) (cq := (RX2, TX2, 9)) (As := [.int (zI b)]) (rest := []) ⟨hx, hb, hml, hown, hts⟩ hK (kX2_needAlivex l D hl0 cI cZ q hN pa sp al dg co da mb dd ah wl lo n td wn hal b (by omega) (by omega)) (cwV 1 hts gX2_marry_X2_needAlive rfl rfl rfl (by decide +kernel) ⟨Nat.le_of_ble_eq_true rfl, Nat.le_of_ble_eq_true rfl⟩) hP (hT.kept hS.2.1) hS hA rfl rfl rfl hl.1 rfl (Nat.le_of_ble_eq_true rfl) dX2_marry_23 ⟨Nat.le_of_ble_eq_true rfl, Nat.le_of_ble_eq_true rfl⟩ (fun ce q9 H locs hP hS _ _ hce hcv hcl => ?_)
  rw [hQ0]
  exact zoutX ht hlocks hP hS hce hcv hcl
set_option maxHeartbeats 4000000 in
set_option maxRecDepth 100000 in
theorem kX2_marryx6 (l : Launch) (D : va_G) (hl0 : l.stackTraces = false) (cI cZ : ClassId) (q : Nat → Nat) (hN : (zLC q).Nodup) (pa : Int → Int) (sp : Int → Int) (al : Int → Int) (dg : Int → Int) (co : Int → Int) (da : Int → Int) (mb : Int → Int) (dd : Int → Int) (ah : Int → Int) (wl : Int → Int) (lo : Int → Int) (n : Nat) (td : Int) (wn : Int) (hn : n ≤ 16) (hsp : ∀ j : Int, -1 ≤ sp j ∧ sp j ≤ 15) (hal : ∀ j : Int, 0 ≤ al j ∧ al j ≤ 1) (hpa : ∀ j : Int, -1 ≤ pa j ∧ pa j ≤ 15) (a : Int) (b : Int) (h1 : 0 ≤ a ∧ a < (n : Int)) (h2 : 0 ≤ b ∧ b < (n : Int)) (h3 : a ≠ b) (h4 : al a ≠ 0) (h5 : al b ≠ 0) (h6 : (sp a ≠ -1 ∧ al (sp a) ≠ 0) ∨ (sp b ≠ -1 ∧ al (sp b) ≠ 0)) : zX l yX2_marry wsX2_marry ({ frames := 7, cells := 1, slots := 6, locals := 112 }) D [(cI, .int), (cZ, .boolean)] [.ref (q 0), .int (zI a), .int (zI b)] (wC cI cZ q pa sp al dg co da mb dd ah wl lo n td wn) "java/lang/IllegalStateException" (zLC q) := by
  refine vx_ofW (cc := cX2_marry) (maxL := 4) (ret := (some .int)) (by decide) rfl ?_
  intro p0 e9 s9 m9 ag9 below meth c9 s₁ B hml ht hv
  obtain ⟨hav, hP, hK, hT⟩ := hv
  have hx := B.exec
  have hb := B.bytes
  have hr := B.returns
  have hts := atoms_spec (ws := wsX2_marry) B.pre
  have hown : s9.vm.findClass RX2 = some m9.cls := findClass_of_methodNamed B.named
  have hlocks := B.notSynchronized
  have hA : ∀ a ∈ zLC q, (fun a => a ∈ zLC q) a := fun _ h => h
  have hin2 : ∀ w ∈ u_ws RX2 TX2 9, w ∈ wsX2_marry := by decide +kernel
  have hl := lv_entry ([.ref (q 0), .int (zI a), .int (zI b)]) (n := 4) (Nat.le_of_ble_eq_true rfl)
  have hE : entryFrame m9 ag9 4 = F0 m9 0 ((lg_sl ([.ref (q 0), .int (zI a), .int (zI b)]) ++ List.replicate (4 - (lg_sl ([.ref (q 0), .int (zI a), .int (zI b)])).length) Slot.unset).toArray) [] := by rw [hav]; exact lg_entry_eq m9 _ _
  obtain ⟨Q0, hQ0⟩ : ∃ Q0, Q0 = vx_MQ below zNo (zXC D (wC cI cZ q pa sp al dg co da mb dd ah wl lo n td wn) "java/lang/IllegalStateException" (zLC q)) ag9 s9 1 6 (fun a => a ∈ zLC q) := ⟨_, rfl⟩
  show W p0 l e9 ({ frames := 7, cells := 1, slots := 6, locals := 112 }) s9 m9 ag9 below meth c9 s9.heap [] 0 0 (vx_MQ below zNo (zXC D (wC cI cZ q pa sp al dg co da mb dd ah wl lo n td wn) "java/lang/IllegalStateException" (zLC q)) ag9 s9 1 6 (fun a => a ∈ zLC q)) _
  rw [hE, ← hQ0]
  have hS : va_S (fun a => a ∈ zLC q) s9.heap s9.heap [] := va_S.rf
  generalize hH0 : s9.heap = H at hP ⊢
  have hS : va_S (fun a => a ∈ zLC q) s9.heap H [] := by rw [hH0] at hS ⊢; exact hS
  generalize (lg_sl ([.ref (q 0), .int (zI a), .int (zI b)]) ++ List.replicate (4 - (lg_sl ([.ref (q 0), .int (zI a), .int (zI b)])).length) Slot.unset).toArray = ls at hl ⊢
  have hl : lv_has ls 4 [(0, .ref (q 0)), (1, .int (zI a)), (2, .int (zI b))] := hl
  refine lv_aload_n hx hb dX2_marry_0 rfl (lv_at hl 0 rfl) ?_
  refine lv_iload_n hx hb dX2_marry_1 rfl (lv_at hl 1 rfl) ?_
  refine zcallV (ci := 2) (q0 := 0) (cq := (RX2, TX2, 9)) (As := [.int (zI a)]) (rest := []) ⟨hx, hb, hml, hown, hts⟩ hK (kX2_needPersonok l D cI cZ q hN pa sp al dg co da mb dd ah wl lo n td wn hn a (by omega)) (cwV 1 hts gX2_marry_X2_needPerson rfl rfl rfl (by decide +kernel) ⟨Nat.le_of_ble_eq_true rfl, Nat.le_of_ble_eq_true rfl⟩) hP hS hA rfl rfl rfl hl.1 rfl (Nat.le_of_ble_eq_true rfl) dX2_marry_2 ⟨Nat.zero_le _, Nat.zero_le _⟩ (fun H locs hP hS _ _ => ?_)
  refine W.eq (g2 := F0 m9 5 ls []) rfl ?_
  refine lv_aload_n hx hb dX2_marry_5 rfl (lv_at hl 0 rfl) ?_
  refine lv_iload_n hx hb dX2_marry_6 rfl (lv_at hl 2 rfl) ?_
  refine zcallV (ci := 2) (q0 := 0) (cq := (RX2, TX2, 9)) (As := [.int (zI b)]) (rest := []) ⟨hx, hb, hml, hown, hts⟩ hK (kX2_needPersonok l D cI cZ q hN pa sp al dg co da mb dd ah wl lo n td wn hn b (by omega)) (cwV 1 hts gX2_marry_X2_needPerson rfl rfl rfl (by decide +kernel) ⟨Nat.le_of_ble_eq_true rfl, Nat.le_of_ble_eq_true rfl⟩) hP hS hA rfl rfl rfl hl.1 rfl (Nat.le_of_ble_eq_true rfl) dX2_marry_7 ⟨Nat.zero_le _, Nat.zero_le _⟩ (fun H locs hP hS _ _ => ?_)
  refine W.eq (g2 := F0 m9 10 ls []) rfl ?_
  refine lv_aload_n hx hb dX2_marry_10 rfl (lv_at hl 0 rfl) ?_
  refine lv_iload_n hx hb dX2_marry_11 rfl (lv_at hl 1 rfl) ?_
  refine lv_iload_n hx hb dX2_marry_12 rfl (lv_at hl 2 rfl) ?_
  refine zcallV (ci := 2) (q0 := 0) (cq := (RX2, TX2, 9)) (As := [.int (zI a), .int (zI b)]) (rest := []) ⟨hx, hb, hml, hown, hts⟩ hK (kX2_needTwook l D cI cZ q hN pa sp al dg co da mb dd ah wl lo n td wn a b (by omega) (by omega) (by omega)) (cwV 2 hts gX2_marry_X2_needTwo rfl rfl rfl (by decide +kernel) ⟨Nat.le_of_ble_eq_true rfl, Nat.le_of_ble_eq_true rfl⟩) hP hS hA rfl rfl rfl hl.1 rfl (Nat.le_of_ble_eq_true rfl) dX2_marry_13 ⟨Nat.zero_le _, Nat.zero_le _⟩ (fun H locs hP hS _ _ => ?_)
  refine W.eq (g2 := F0 m9 16 ls []) rfl ?_
  refine lv_aload_n hx hb dX2_marry_16 rfl (lv_at hl 0 rfl) ?_
  refine lv_iload_n hx hb dX2_marry_17 rfl (lv_at hl 1 rfl) ?_
  refine zcallV (ci := 2) (q0 := 0) (cq := (RX2, TX2, 9)) (As := [.int (zI a)]) (rest := []) ⟨hx, hb, hml, hown, hts⟩ hK (kX2_needAliveok l D cI cZ q hN pa sp al dg co da mb dd ah wl lo n td wn hal a (by omega) (by omega)) (cwV 1 hts gX2_marry_X2_needAlive rfl rfl rfl (by decide +kernel) ⟨Nat.le_of_ble_eq_true rfl, Nat.le_of_ble_eq_true rfl⟩) hP hS hA rfl rfl rfl hl.1 rfl (Nat.le_of_ble_eq_true rfl) dX2_marry_18 ⟨Nat.zero_le _, Nat.zero_le _⟩ (fun H locs hP hS _ _ => ?_)
  refine W.eq (g2 := F0 m9 21 ls []) rfl ?_
  refine lv_aload_n hx hb dX2_marry_21 rfl (lv_at hl 0 rfl) ?_
  refine lv_iload_n hx hb dX2_marry_22 rfl (lv_at hl 2 rfl) ?_
  refine zcallV (ci := 2) (q0 := 0) (cq := (RX2, TX2, 9)) (As := [.int (zI b)]) (rest := []) ⟨hx, hb, hml, hown, hts⟩ hK (kX2_needAliveok l D cI cZ q hN pa sp al dg co da mb dd ah wl lo n td wn hal b (by omega) (by omega)) (cwV 1 hts gX2_marry_X2_needAlive rfl rfl rfl (by decide +kernel) ⟨Nat.le_of_ble_eq_true rfl, Nat.le_of_ble_eq_true rfl⟩) hP hS hA rfl rfl rfl hl.1 rfl (Nat.le_of_ble_eq_true rfl) dX2_marry_23 ⟨Nat.zero_le _, Nat.zero_le _⟩ (fun H locs hP hS _ _ => ?_)
  refine W.eq (g2 := F0 m9 26 ls []) rfl ?_
  refine lv_aload_n hx hb dX2_marry_26 rfl (lv_at hl 0 rfl) ?_
  refine va_get (D := D) (ci := 2) (v := .ref (q 1)) (C := RX2) (T := TX2) (N := 9) hx hb hts hin2 hown hK hP 0 rfl rfl 0 (by decide) (hts (.fieldLink RX2 12 "MourningRibbons" "family" "LMourningRibbons$Family;") (by decide +kernel)) (fun _ h9 => h9) rfl dX2_marry_27 ?_
  refine lv_iload_n hx hb dX2_marry_30 rfl (lv_at hl 1 rfl) ?_
  refine zcallV (ci := 1) (q0 := 1) (cq := (RX1, TX1, 5)) (As := [.int (zI a)]) (rest := []) ⟨hx, hb, hml, hown, hts⟩ hK (kX1_hasLivingSpouse l D cI cZ q hN pa sp al dg co da mb dd ah wl lo n td wn hsp hal a (by omega)) (cwV 1 hts gX2_marry_X1_hasLivingSpouse rfl rfl rfl (by decide +kernel) ⟨Nat.le_of_ble_eq_true rfl, Nat.le_of_ble_eq_true rfl⟩) hP hS hA rfl rfl rfl hl.1 rfl (Nat.le_of_ble_eq_true rfl) dX2_marry_31 ⟨Nat.zero_le _, Nat.zero_le _⟩ (fun H locs hP hS _ _ => ?_)
  refine W.eq (g2 := F0 m9 34 ls [.int (zI (bI (sp a ≠ -1 ∧ al (sp a) ≠ 0)))]) rfl ?_
  refine zr_if_ne (tgt := 48) hx hb dX2_marry_34 (by decide) (bI_rg _) (fun c_1 => ?_) (fun c_1 => ?_)
  · have c_1 := bI_n c_1
    obtain ⟨sa, hstr⟩ := hT.2.2.1 (63, "one of them is married to a living one") (by decide +kernel)
    rw [hQ0]
    exact zthrowN (names := ["java/lang/RuntimeException", "java/lang/Exception"]) (cls := "java/lang/IllegalStateException") (ic := 65) hx hb hl0 hown (by decide +kernel) (by decide +kernel) (hts (.classLink RX2 61 "java/lang/IllegalStateException") (by decide +kernel)) (hts (.initialized "java/lang/IllegalStateException") (by decide +kernel)) hstr (vx_hat (fun w h => hts w ((by decide +kernel : ∀ w ∈ (vx_atS RX2 65 "java/lang/IllegalStateException" ["java/lang/RuntimeException", "java/lang/Exception"]).filter goodWord, w ∈ wsX2_marry) w h)) (by decide +kernel : ∀ w ∈ (vx_atS RX2 65 "java/lang/IllegalStateException" ["java/lang/RuntimeException", "java/lang/Exception"]).filter (fun w => !goodWord w), w ∈ zBad) (hT.2.2.2.at (Vm.Alike.refl _) _)) (by decide +kernel) hP hT hS (by rw [hml, hl.1]) dX2_marry_48 dX2_marry_51 dX2_marry_52 dX2_marry_54 dX2_marry_57 ht (Nat.le_of_ble_eq_true rfl) (Nat.le_of_ble_eq_true rfl) (Nat.le_of_ble_eq_true rfl) (Nat.le_of_ble_eq_true rfl) hlocks
  · have c_1 := bI_z c_1
    refine lv_aload_n hx hb dX2_marry_37 rfl (lv_at hl 0 rfl) ?_
    refine va_get (D := D) (ci := 2) (v := .ref (q 1)) (C := RX2) (T := TX2) (N := 9) hx hb hts hin2 hown hK hP 0 rfl rfl 0 (by decide) (hts (.fieldLink RX2 12 "MourningRibbons" "family" "LMourningRibbons$Family;") (by decide +kernel)) (fun _ h9 => h9) rfl dX2_marry_38 ?_
    refine lv_iload_n hx hb dX2_marry_41 rfl (lv_at hl 2 rfl) ?_
    refine zcallV (ci := 1) (q0 := 1) (cq := (RX1, TX1, 5)) (As := [.int (zI b)]) (rest := []) ⟨hx, hb, hml, hown, hts⟩ hK (kX1_hasLivingSpouse l D cI cZ q hN pa sp al dg co da mb dd ah wl lo n td wn hsp hal b (by omega)) (cwV 1 hts gX2_marry_X1_hasLivingSpouse rfl rfl rfl (by decide +kernel) ⟨Nat.le_of_ble_eq_true rfl, Nat.le_of_ble_eq_true rfl⟩) hP hS hA rfl rfl rfl hl.1 rfl (Nat.le_of_ble_eq_true rfl) dX2_marry_42 ⟨Nat.zero_le _, Nat.zero_le _⟩ (fun H locs hP hS _ _ => ?_)
    refine W.eq (g2 := F0 m9 45 ls [.int (zI (bI (sp b ≠ -1 ∧ al (sp b) ≠ 0)))]) rfl ?_
    refine zr_if_eq (tgt := 58) hx hb dX2_marry_45 (by decide) (bI_rg _) (fun c_2 => ?_) (fun c_2 => ?_)
    · have c_2 := bI_z c_2
      refine lv_aload_n hx hb dX2_marry_58 rfl (lv_at hl 0 rfl) ?_
      refine va_get (D := D) (ci := 2) (v := .ref (q 1)) (C := RX2) (T := TX2) (N := 9) hx hb hts hin2 hown hK hP 0 rfl rfl 0 (by decide) (hts (.fieldLink RX2 12 "MourningRibbons" "family" "LMourningRibbons$Family;") (by decide +kernel)) (fun _ h9 => h9) rfl dX2_marry_59 ?_
      refine lv_iload_n hx hb dX2_marry_62 rfl (lv_at hl 1 rfl) ?_
      exfalso; omega
    · have c_2 := bI_n c_2
      obtain ⟨sa, hstr⟩ := hT.2.2.1 (63, "one of them is married to a living one") (by decide +kernel)
      rw [hQ0]
      exact zthrowN (names := ["java/lang/RuntimeException", "java/lang/Exception"]) (cls := "java/lang/IllegalStateException") (ic := 65) hx hb hl0 hown (by decide +kernel) (by decide +kernel) (hts (.classLink RX2 61 "java/lang/IllegalStateException") (by decide +kernel)) (hts (.initialized "java/lang/IllegalStateException") (by decide +kernel)) hstr (vx_hat (fun w h => hts w ((by decide +kernel : ∀ w ∈ (vx_atS RX2 65 "java/lang/IllegalStateException" ["java/lang/RuntimeException", "java/lang/Exception"]).filter goodWord, w ∈ wsX2_marry) w h)) (by decide +kernel : ∀ w ∈ (vx_atS RX2 65 "java/lang/IllegalStateException" ["java/lang/RuntimeException", "java/lang/Exception"]).filter (fun w => !goodWord w), w ∈ zBad) (hT.2.2.2.at (Vm.Alike.refl _) _)) (by decide +kernel) hP hT hS (by rw [hml, hl.1]) dX2_marry_48 dX2_marry_51 dX2_marry_52 dX2_marry_54 dX2_marry_57 ht (Nat.le_of_ble_eq_true rfl) (Nat.le_of_ble_eq_true rfl) (Nat.le_of_ble_eq_true rfl) (Nat.le_of_ble_eq_true rfl) hlocks
set_option maxHeartbeats 4000000 in
set_option maxRecDepth 100000 in
theorem kX2_setStagex1 (l : Launch) (D : va_G) (hl0 : l.stackTraces = false) (cI cZ : ClassId) (q : Nat → Nat) (hN : (zLC q).Nodup) (pa : Int → Int) (sp : Int → Int) (al : Int → Int) (dg : Int → Int) (co : Int → Int) (da : Int → Int) (mb : Int → Int) (dd : Int → Int) (ah : Int → Int) (wl : Int → Int) (lo : Int → Int) (n : Nat) (td : Int) (wn : Int) (g : Int) (s : Int) (c : Int) (k : Int) (h0 : -2147483648 ≤ g ∧ g ≤ 2147483647) (h1 : ¬ (1 ≤ g ∧ g ≤ 4)) : zX l yX2_setStage wsX2_setStage ({ frames := 8, cells := 1, slots := 6, locals := 133 }) D [(cI, .int), (cZ, .boolean)] [.ref (q 0), .int (zI g), .int (zI s), .int (zI c), .int (zI k)] (wC cI cZ q pa sp al dg co da mb dd ah wl lo n td wn) "java/lang/IndexOutOfBoundsException" (zLC q) := by
  refine vx_ofW (cc := cX2_setStage) (maxL := 6) (ret := (some .int)) (by decide) rfl ?_
  intro p0 e9 s9 m9 ag9 below meth c9 s₁ B hml ht hv
  obtain ⟨hav, hP, hK, hT⟩ := hv
  have hx := B.exec
  have hb := B.bytes
  have hr := B.returns
  have hts := atoms_spec (ws := wsX2_setStage) B.pre
  have hown : s9.vm.findClass RX2 = some m9.cls := findClass_of_methodNamed B.named
  have hlocks := B.notSynchronized
  have hA : ∀ a ∈ zLC q, (fun a => a ∈ zLC q) a := fun _ h => h
  have hl := lv_entry ([.ref (q 0), .int (zI g), .int (zI s), .int (zI c), .int (zI k)]) (n := 6) (Nat.le_of_ble_eq_true rfl)
  have hE : entryFrame m9 ag9 6 = F0 m9 0 ((lg_sl ([.ref (q 0), .int (zI g), .int (zI s), .int (zI c), .int (zI k)]) ++ List.replicate (6 - (lg_sl ([.ref (q 0), .int (zI g), .int (zI s), .int (zI c), .int (zI k)])).length) Slot.unset).toArray) [] := by rw [hav]; exact lg_entry_eq m9 _ _
  obtain ⟨Q0, hQ0⟩ : ∃ Q0, Q0 = vx_MQ below zNo (zXC D (wC cI cZ q pa sp al dg co da mb dd ah wl lo n td wn) "java/lang/IndexOutOfBoundsException" (zLC q)) ag9 s9 1 6 (fun a => a ∈ zLC q) := ⟨_, rfl⟩
  show W p0 l e9 ({ frames := 8, cells := 1, slots := 6, locals := 133 }) s9 m9 ag9 below meth c9 s9.heap [] 0 0 (vx_MQ below zNo (zXC D (wC cI cZ q pa sp al dg co da mb dd ah wl lo n td wn) "java/lang/IndexOutOfBoundsException" (zLC q)) ag9 s9 1 6 (fun a => a ∈ zLC q)) _
  rw [hE, ← hQ0]
  have hS : va_S (fun a => a ∈ zLC q) s9.heap s9.heap [] := va_S.rf
  generalize hH0 : s9.heap = H at hP ⊢
  have hS : va_S (fun a => a ∈ zLC q) s9.heap H [] := by rw [hH0] at hS ⊢; exact hS
  generalize (lg_sl ([.ref (q 0), .int (zI g), .int (zI s), .int (zI c), .int (zI k)]) ++ List.replicate (6 - (lg_sl ([.ref (q 0), .int (zI g), .int (zI s), .int (zI c), .int (zI k)])).length) Slot.unset).toArray = ls at hl ⊢
  have hl : lv_has ls 6 [(0, .ref (q 0)), (1, .int (zI g)), (2, .int (zI s)), (3, .int (zI c)), (4, .int (zI k))] := hl
  refine lv_aload_n hx hb dX2_setStage_0 rfl (lv_at hl 0 rfl) ?_
  refine lv_iload_n hx hb dX2_setStage_1 rfl (lv_at hl 1 rfl) ?_
  refine lv_iload_n hx hb dX2_setStage_2 rfl (lv_at hl 2 rfl) ?_
  refine zcallXV (ci := 2) (q0 := 0) (cq := (RX2, TX2, 9)) (As := [.int (zI g), .int (zI s)]) (rest := []) ⟨hx, hb, hml, hown, hts⟩ hK (kX2_needStagex l D hl0 cI cZ q hN pa sp al dg co da mb dd ah wl lo n td wn g s (by omega) (by omega)) (cwV 2 hts gX2_setStage_X2_needStage rfl rfl rfl (by decide +kernel) ⟨Nat.le_of_ble_eq_true rfl, Nat.le_of_ble_eq_true rfl⟩) hP (hT.kept hS.2.1) hS hA rfl rfl rfl hl.1 rfl (Nat.le_of_ble_eq_true rfl) dX2_setStage_3 ⟨Nat.le_of_ble_eq_true rfl, Nat.le_of_ble_eq_true rfl⟩ (fun ce q9 H locs hP hS _ _ hce hcv hcl => ?_)
  rw [hQ0]
  exact zoutX ht hlocks hP hS hce hcv hcl
set_option maxHeartbeats 4000000 in
set_option maxRecDepth 100000 in
theorem kX2_setStagex2 (l : Launch) (D : va_G) (hl0 : l.stackTraces = false) (cI cZ : ClassId) (q : Nat → Nat) (hN : (zLC q).Nodup) (pa : Int → Int) (sp : Int → Int) (al : Int → Int) (dg : Int → Int) (co : Int → Int) (da : Int → Int) (mb : Int → Int) (dd : Int → Int) (ah : Int → Int) (wl : Int → Int) (lo : Int → Int) (n : Nat) (td : Int) (wn : Int) (g : Int) (s : Int) (c : Int) (k : Int) (h0 : -2147483648 ≤ s ∧ s ≤ 2147483647) (h1 : 1 ≤ g ∧ g ≤ 4) (h2 : ¬ (0 ≤ s ∧ s ≤ 2)) : zX l yX2_setStage wsX2_setStage ({ frames := 8, cells := 1, slots := 6, locals := 133 }) D [(cI, .int), (cZ, .boolean)] [.ref (q 0), .int (zI g), .int (zI s), .int (zI c), .int (zI k)] (wC cI cZ q pa sp al dg co da mb dd ah wl lo n td wn) "java/lang/IndexOutOfBoundsException" (zLC q) := by
  refine vx_ofW (cc := cX2_setStage) (maxL := 6) (ret := (some .int)) (by decide) rfl ?_
  intro p0 e9 s9 m9 ag9 below meth c9 s₁ B hml ht hv
  obtain ⟨hav, hP, hK, hT⟩ := hv
  have hx := B.exec
  have hb := B.bytes
  have hr := B.returns
  have hts := atoms_spec (ws := wsX2_setStage) B.pre
  have hown : s9.vm.findClass RX2 = some m9.cls := findClass_of_methodNamed B.named
  have hlocks := B.notSynchronized
  have hA : ∀ a ∈ zLC q, (fun a => a ∈ zLC q) a := fun _ h => h
  have hl := lv_entry ([.ref (q 0), .int (zI g), .int (zI s), .int (zI c), .int (zI k)]) (n := 6) (Nat.le_of_ble_eq_true rfl)
  have hE : entryFrame m9 ag9 6 = F0 m9 0 ((lg_sl ([.ref (q 0), .int (zI g), .int (zI s), .int (zI c), .int (zI k)]) ++ List.replicate (6 - (lg_sl ([.ref (q 0), .int (zI g), .int (zI s), .int (zI c), .int (zI k)])).length) Slot.unset).toArray) [] := by rw [hav]; exact lg_entry_eq m9 _ _
  obtain ⟨Q0, hQ0⟩ : ∃ Q0, Q0 = vx_MQ below zNo (zXC D (wC cI cZ q pa sp al dg co da mb dd ah wl lo n td wn) "java/lang/IndexOutOfBoundsException" (zLC q)) ag9 s9 1 6 (fun a => a ∈ zLC q) := ⟨_, rfl⟩
  show W p0 l e9 ({ frames := 8, cells := 1, slots := 6, locals := 133 }) s9 m9 ag9 below meth c9 s9.heap [] 0 0 (vx_MQ below zNo (zXC D (wC cI cZ q pa sp al dg co da mb dd ah wl lo n td wn) "java/lang/IndexOutOfBoundsException" (zLC q)) ag9 s9 1 6 (fun a => a ∈ zLC q)) _
  rw [hE, ← hQ0]
  have hS : va_S (fun a => a ∈ zLC q) s9.heap s9.heap [] := va_S.rf
  generalize hH0 : s9.heap = H at hP ⊢
  have hS : va_S (fun a => a ∈ zLC q) s9.heap H [] := by rw [hH0] at hS ⊢; exact hS
  generalize (lg_sl ([.ref (q 0), .int (zI g), .int (zI s), .int (zI c), .int (zI k)]) ++ List.replicate (6 - (lg_sl ([.ref (q 0), .int (zI g), .int (zI s), .int (zI c), .int (zI k)])).length) Slot.unset).toArray = ls at hl ⊢
  have hl : lv_has ls 6 [(0, .ref (q 0)), (1, .int (zI g)), (2, .int (zI s)), (3, .int (zI c)), (4, .int (zI k))] := hl
  refine lv_aload_n hx hb dX2_setStage_0 rfl (lv_at hl 0 rfl) ?_
  refine lv_iload_n hx hb dX2_setStage_1 rfl (lv_at hl 1 rfl) ?_
  refine lv_iload_n hx hb dX2_setStage_2 rfl (lv_at hl 2 rfl) ?_
  refine zcallXV (ci := 2) (q0 := 0) (cq := (RX2, TX2, 9)) (As := [.int (zI g), .int (zI s)]) (rest := []) ⟨hx, hb, hml, hown, hts⟩ hK (kX2_needStagey l D hl0 cI cZ q hN pa sp al dg co da mb dd ah wl lo n td wn g s (by omega) (by omega) (by omega)) (cwV 2 hts gX2_setStage_X2_needStage rfl rfl rfl (by decide +kernel) ⟨Nat.le_of_ble_eq_true rfl, Nat.le_of_ble_eq_true rfl⟩) hP (hT.kept hS.2.1) hS hA rfl rfl rfl hl.1 rfl (Nat.le_of_ble_eq_true rfl) dX2_setStage_3 ⟨Nat.le_of_ble_eq_true rfl, Nat.le_of_ble_eq_true rfl⟩ (fun ce q9 H locs hP hS _ _ hce hcv hcl => ?_)
  rw [hQ0]
  exact zoutX ht hlocks hP hS hce hcv hcl
set_option maxHeartbeats 4000000 in
set_option maxRecDepth 100000 in
theorem kX2_setStagex3 (l : Launch) (D : va_G) (hl0 : l.stackTraces = false) (cI cZ : ClassId) (q : Nat → Nat) (hN : (zLC q).Nodup) (pa : Int → Int) (sp : Int → Int) (al : Int → Int) (dg : Int → Int) (co : Int → Int) (da : Int → Int) (mb : Int → Int) (dd : Int → Int) (ah : Int → Int) (wl : Int → Int) (lo : Int → Int) (n : Nat) (td : Int) (wn : Int) (g : Int) (s : Int) (c : Int) (k : Int) (h0 : -2147483648 ≤ c ∧ c ≤ 2147483647) (h9 : -2147483648 ≤ k ∧ k ≤ 2147483647) (h1 : 1 ≤ g ∧ g ≤ 4) (h2 : 0 ≤ s ∧ s ≤ 2) (h3 : ¬ ((0 ≤ c ∧ c ≤ 5) ∧ 0 ≤ k ∧ k ≤ 60)) : zX l yX2_setStage wsX2_setStage ({ frames := 8, cells := 1, slots := 6, locals := 133 }) D [(cI, .int), (cZ, .boolean)] [.ref (q 0), .int (zI g), .int (zI s), .int (zI c), .int (zI k)] (wC cI cZ q pa sp al dg co da mb dd ah wl lo n td wn) "java/lang/IllegalArgumentException" (zLC q) := by
  refine vx_ofW (cc := cX2_setStage) (maxL := 6) (ret := (some .int)) (by decide) rfl ?_
  intro p0 e9 s9 m9 ag9 below meth c9 s₁ B hml ht hv
  obtain ⟨hav, hP, hK, hT⟩ := hv
  have hx := B.exec
  have hb := B.bytes
  have hr := B.returns
  have hts := atoms_spec (ws := wsX2_setStage) B.pre
  have hown : s9.vm.findClass RX2 = some m9.cls := findClass_of_methodNamed B.named
  have hlocks := B.notSynchronized
  have hA : ∀ a ∈ zLC q, (fun a => a ∈ zLC q) a := fun _ h => h
  have hl := lv_entry ([.ref (q 0), .int (zI g), .int (zI s), .int (zI c), .int (zI k)]) (n := 6) (Nat.le_of_ble_eq_true rfl)
  have hE : entryFrame m9 ag9 6 = F0 m9 0 ((lg_sl ([.ref (q 0), .int (zI g), .int (zI s), .int (zI c), .int (zI k)]) ++ List.replicate (6 - (lg_sl ([.ref (q 0), .int (zI g), .int (zI s), .int (zI c), .int (zI k)])).length) Slot.unset).toArray) [] := by rw [hav]; exact lg_entry_eq m9 _ _
  obtain ⟨Q0, hQ0⟩ : ∃ Q0, Q0 = vx_MQ below zNo (zXC D (wC cI cZ q pa sp al dg co da mb dd ah wl lo n td wn) "java/lang/IllegalArgumentException" (zLC q)) ag9 s9 1 6 (fun a => a ∈ zLC q) := ⟨_, rfl⟩
  show W p0 l e9 ({ frames := 8, cells := 1, slots := 6, locals := 133 }) s9 m9 ag9 below meth c9 s9.heap [] 0 0 (vx_MQ below zNo (zXC D (wC cI cZ q pa sp al dg co da mb dd ah wl lo n td wn) "java/lang/IllegalArgumentException" (zLC q)) ag9 s9 1 6 (fun a => a ∈ zLC q)) _
  rw [hE, ← hQ0]
  have hS : va_S (fun a => a ∈ zLC q) s9.heap s9.heap [] := va_S.rf
  generalize hH0 : s9.heap = H at hP ⊢
  have hS : va_S (fun a => a ∈ zLC q) s9.heap H [] := by rw [hH0] at hS ⊢; exact hS
  generalize (lg_sl ([.ref (q 0), .int (zI g), .int (zI s), .int (zI c), .int (zI k)]) ++ List.replicate (6 - (lg_sl ([.ref (q 0), .int (zI g), .int (zI s), .int (zI c), .int (zI k)])).length) Slot.unset).toArray = ls at hl ⊢
  have hl : lv_has ls 6 [(0, .ref (q 0)), (1, .int (zI g)), (2, .int (zI s)), (3, .int (zI c)), (4, .int (zI k))] := hl
  refine lv_aload_n hx hb dX2_setStage_0 rfl (lv_at hl 0 rfl) ?_
  refine lv_iload_n hx hb dX2_setStage_1 rfl (lv_at hl 1 rfl) ?_
  refine lv_iload_n hx hb dX2_setStage_2 rfl (lv_at hl 2 rfl) ?_
  refine zcallV (ci := 2) (q0 := 0) (cq := (RX2, TX2, 9)) (As := [.int (zI g), .int (zI s)]) (rest := []) ⟨hx, hb, hml, hown, hts⟩ hK (kX2_needStageok l D cI cZ q hN pa sp al dg co da mb dd ah wl lo n td wn g s (by omega) (by omega)) (cwV 2 hts gX2_setStage_X2_needStage rfl rfl rfl (by decide +kernel) ⟨Nat.le_of_ble_eq_true rfl, Nat.le_of_ble_eq_true rfl⟩) hP hS hA rfl rfl rfl hl.1 rfl (Nat.le_of_ble_eq_true rfl) dX2_setStage_3 ⟨Nat.zero_le _, Nat.zero_le _⟩ (fun H locs hP hS _ _ => ?_)
  refine W.eq (g2 := F0 m9 6 ls []) rfl ?_
  refine lv_iload_n hx hb dX2_setStage_6 rfl (lv_at hl 3 rfl) ?_
  refine zr_if_lt (tgt := 15) hx hb dX2_setStage_7 (by decide) ⟨by omega, by omega⟩ (fun c_1 => ?_) (fun c_1 => ?_)
  · have c_1 := c_1
    obtain ⟨sa, hstr⟩ := hT.2.2.1 (82, "a colour is 0 to 5") (by decide +kernel)
    rw [hQ0]
    exact zthrowN (names := ["java/lang/RuntimeException", "java/lang/Exception"]) (cls := "java/lang/IllegalArgumentException") (ic := 84) hx hb hl0 hown (by decide +kernel) (by decide +kernel) (hts (.classLink RX2 80 "java/lang/IllegalArgumentException") (by decide +kernel)) (hts (.initialized "java/lang/IllegalArgumentException") (by decide +kernel)) hstr (vx_hat (fun w h => hts w ((by decide +kernel : ∀ w ∈ (vx_atS RX2 84 "java/lang/IllegalArgumentException" ["java/lang/RuntimeException", "java/lang/Exception"]).filter goodWord, w ∈ wsX2_setStage) w h)) (by decide +kernel : ∀ w ∈ (vx_atS RX2 84 "java/lang/IllegalArgumentException" ["java/lang/RuntimeException", "java/lang/Exception"]).filter (fun w => !goodWord w), w ∈ zBad) (hT.2.2.2.at (Vm.Alike.refl _) _)) (by decide +kernel) hP hT hS (by rw [hml, hl.1]) dX2_setStage_15 dX2_setStage_18 dX2_setStage_19 dX2_setStage_21 dX2_setStage_24 ht (Nat.le_of_ble_eq_true rfl) (Nat.le_of_ble_eq_true rfl) (Nat.le_of_ble_eq_true rfl) (Nat.le_of_ble_eq_true rfl) hlocks
  · have c_1 := c_1
    refine lv_iload_n hx hb dX2_setStage_10 rfl (lv_at hl 3 rfl) ?_
    refine zr_iconst hx hb dX2_setStage_11 ?_
    refine zr_icmp_le (tgt := 25) hx hb dX2_setStage_12 (by decide) ⟨by omega, by omega⟩ ⟨by decide, by decide⟩ (fun c_2 => ?_) (fun c_2 => ?_)
    · have c_2 := c_2
      refine lv_iload hx hb dX2_setStage_25 (lv_at hl 4 rfl) ?_
      refine zr_if_lt (tgt := 37) hx hb dX2_setStage_27 (by decide) ⟨by omega, by omega⟩ (fun c_3 => ?_) (fun c_3 => ?_)
      · have c_3 := c_3
        obtain ⟨sa, hstr⟩ := hT.2.2.1 (85, "a stage has 0 to 60 days") (by decide +kernel)
        rw [hQ0]
        exact zthrowN (names := ["java/lang/RuntimeException", "java/lang/Exception"]) (cls := "java/lang/IllegalArgumentException") (ic := 84) hx hb hl0 hown (by decide +kernel) (by decide +kernel) (hts (.classLink RX2 80 "java/lang/IllegalArgumentException") (by decide +kernel)) (hts (.initialized "java/lang/IllegalArgumentException") (by decide +kernel)) hstr (vx_hat (fun w h => hts w ((by decide +kernel : ∀ w ∈ (vx_atS RX2 84 "java/lang/IllegalArgumentException" ["java/lang/RuntimeException", "java/lang/Exception"]).filter goodWord, w ∈ wsX2_setStage) w h)) (by decide +kernel : ∀ w ∈ (vx_atS RX2 84 "java/lang/IllegalArgumentException" ["java/lang/RuntimeException", "java/lang/Exception"]).filter (fun w => !goodWord w), w ∈ zBad) (hT.2.2.2.at (Vm.Alike.refl _) _)) (by decide +kernel) hP hT hS (by rw [hml, hl.1]) dX2_setStage_37 dX2_setStage_40 dX2_setStage_41 dX2_setStage_43 dX2_setStage_46 ht (Nat.le_of_ble_eq_true rfl) (Nat.le_of_ble_eq_true rfl) (Nat.le_of_ble_eq_true rfl) (Nat.le_of_ble_eq_true rfl) hlocks
      · have c_3 := c_3
        refine lv_iload hx hb dX2_setStage_30 (lv_at hl 4 rfl) ?_
        refine zr_bipush hx hb dX2_setStage_32 (by decide) ?_
        refine zr_icmp_le (tgt := 47) hx hb dX2_setStage_34 (by decide) ⟨by omega, by omega⟩ ⟨by decide, by decide⟩ (fun c_4 => ?_) (fun c_4 => ?_)
        · have c_4 := c_4
          refine zr_bipush hx hb dX2_setStage_47 (by decide) ?_
          refine lv_iload_n hx hb dX2_setStage_49 rfl (lv_at hl 1 rfl) ?_
          refine lv_iload_n hx hb dX2_setStage_50 rfl (lv_at hl 2 rfl) ?_
          exfalso; omega
        · have c_4 := c_4
          obtain ⟨sa, hstr⟩ := hT.2.2.1 (85, "a stage has 0 to 60 days") (by decide +kernel)
          rw [hQ0]
          exact zthrowN (names := ["java/lang/RuntimeException", "java/lang/Exception"]) (cls := "java/lang/IllegalArgumentException") (ic := 84) hx hb hl0 hown (by decide +kernel) (by decide +kernel) (hts (.classLink RX2 80 "java/lang/IllegalArgumentException") (by decide +kernel)) (hts (.initialized "java/lang/IllegalArgumentException") (by decide +kernel)) hstr (vx_hat (fun w h => hts w ((by decide +kernel : ∀ w ∈ (vx_atS RX2 84 "java/lang/IllegalArgumentException" ["java/lang/RuntimeException", "java/lang/Exception"]).filter goodWord, w ∈ wsX2_setStage) w h)) (by decide +kernel : ∀ w ∈ (vx_atS RX2 84 "java/lang/IllegalArgumentException" ["java/lang/RuntimeException", "java/lang/Exception"]).filter (fun w => !goodWord w), w ∈ zBad) (hT.2.2.2.at (Vm.Alike.refl _) _)) (by decide +kernel) hP hT hS (by rw [hml, hl.1]) dX2_setStage_37 dX2_setStage_40 dX2_setStage_41 dX2_setStage_43 dX2_setStage_46 ht (Nat.le_of_ble_eq_true rfl) (Nat.le_of_ble_eq_true rfl) (Nat.le_of_ble_eq_true rfl) (Nat.le_of_ble_eq_true rfl) hlocks
    · have c_2 := c_2
      obtain ⟨sa, hstr⟩ := hT.2.2.1 (82, "a colour is 0 to 5") (by decide +kernel)
      rw [hQ0]
      exact zthrowN (names := ["java/lang/RuntimeException", "java/lang/Exception"]) (cls := "java/lang/IllegalArgumentException") (ic := 84) hx hb hl0 hown (by decide +kernel) (by decide +kernel) (hts (.classLink RX2 80 "java/lang/IllegalArgumentException") (by decide +kernel)) (hts (.initialized "java/lang/IllegalArgumentException") (by decide +kernel)) hstr (vx_hat (fun w h => hts w ((by decide +kernel : ∀ w ∈ (vx_atS RX2 84 "java/lang/IllegalArgumentException" ["java/lang/RuntimeException", "java/lang/Exception"]).filter goodWord, w ∈ wsX2_setStage) w h)) (by decide +kernel : ∀ w ∈ (vx_atS RX2 84 "java/lang/IllegalArgumentException" ["java/lang/RuntimeException", "java/lang/Exception"]).filter (fun w => !goodWord w), w ∈ zBad) (hT.2.2.2.at (Vm.Alike.refl _) _)) (by decide +kernel) hP hT hS (by rw [hml, hl.1]) dX2_setStage_15 dX2_setStage_18 dX2_setStage_19 dX2_setStage_21 dX2_setStage_24 ht (Nat.le_of_ble_eq_true rfl) (Nat.le_of_ble_eq_true rfl) (Nat.le_of_ble_eq_true rfl) (Nat.le_of_ble_eq_true rfl) hlocks
set_option maxHeartbeats 4000000 in
set_option maxRecDepth 100000 in
theorem kX2_diex1 (l : Launch) (D : va_G) (hl0 : l.stackTraces = false) (cI cZ : ClassId) (q : Nat → Nat) (hN : (zLC q).Nodup) (pa : Int → Int) (sp : Int → Int) (al : Int → Int) (dg : Int → Int) (co : Int → Int) (da : Int → Int) (mb : Int → Int) (dd : Int → Int) (ah : Int → Int) (wl : Int → Int) (lo : Int → Int) (n : Nat) (td : Int) (wn : Int) (hn : n ≤ 16) (p : Int) (h0 : -2147483648 ≤ p ∧ p ≤ 2147483647) (h1 : ¬ (0 ≤ p ∧ p < (n : Int))) : zX l yX2_die wsX2_die ({ frames := 7, cells := 1, slots := 6, locals := 111 }) D [(cI, .int), (cZ, .boolean)] [.ref (q 0), .int (zI p)] (wC cI cZ q pa sp al dg co da mb dd ah wl lo n td wn) "java/lang/IndexOutOfBoundsException" (zLC q) := by
  refine vx_ofW (cc := cX2_die) (maxL := 2) (ret := (some .int)) (by decide) rfl ?_
  intro p0 e9 s9 m9 ag9 below meth c9 s₁ B hml ht hv
  obtain ⟨hav, hP, hK, hT⟩ := hv
  have hx := B.exec
  have hb := B.bytes
  have hr := B.returns
  have hts := atoms_spec (ws := wsX2_die) B.pre
  have hown : s9.vm.findClass RX2 = some m9.cls := findClass_of_methodNamed B.named
  have hlocks := B.notSynchronized
  have hA : ∀ a ∈ zLC q, (fun a => a ∈ zLC q) a := fun _ h => h
  have hl := lv_entry ([.ref (q 0), .int (zI p)]) (n := 2) (Nat.le_of_ble_eq_true rfl)
  have hE : entryFrame m9 ag9 2 = F0 m9 0 ((lg_sl ([.ref (q 0), .int (zI p)]) ++ List.replicate (2 - (lg_sl ([.ref (q 0), .int (zI p)])).length) Slot.unset).toArray) [] := by rw [hav]; exact lg_entry_eq m9 _ _
  obtain ⟨Q0, hQ0⟩ : ∃ Q0, Q0 = vx_MQ below zNo (zXC D (wC cI cZ q pa sp al dg co da mb dd ah wl lo n td wn) "java/lang/IndexOutOfBoundsException" (zLC q)) ag9 s9 1 6 (fun a => a ∈ zLC q) := ⟨_, rfl⟩
  show W p0 l e9 ({ frames := 7, cells := 1, slots := 6, locals := 111 }) s9 m9 ag9 below meth c9 s9.heap [] 0 0 (vx_MQ below zNo (zXC D (wC cI cZ q pa sp al dg co da mb dd ah wl lo n td wn) "java/lang/IndexOutOfBoundsException" (zLC q)) ag9 s9 1 6 (fun a => a ∈ zLC q)) _
  rw [hE, ← hQ0]
  have hS : va_S (fun a => a ∈ zLC q) s9.heap s9.heap [] := va_S.rf
  generalize hH0 : s9.heap = H at hP ⊢
  have hS : va_S (fun a => a ∈ zLC q) s9.heap H [] := by rw [hH0] at hS ⊢; exact hS
  generalize (lg_sl ([.ref (q 0), .int (zI p)]) ++ List.replicate (2 - (lg_sl ([.ref (q 0), .int (zI p)])).length) Slot.unset).toArray = ls at hl ⊢
  have hl : lv_has ls 2 [(0, .ref (q 0)), (1, .int (zI p))] := hl
  refine lv_aload_n hx hb dX2_die_0 rfl (lv_at hl 0 rfl) ?_
  refine lv_iload_n hx hb dX2_die_1 rfl (lv_at hl 1 rfl) ?_
  refine zcallXV (ci := 2) (q0 := 0) (cq := (RX2, TX2, 9)) (As := [.int (zI p)]) (rest := []) ⟨hx, hb, hml, hown, hts⟩ hK (kX2_needPersonx l D hl0 cI cZ q hN pa sp al dg co da mb dd ah wl lo n td wn hn p (by omega) (by omega)) (cwV 1 hts gX2_die_X2_needPerson rfl rfl rfl (by decide +kernel) ⟨Nat.le_of_ble_eq_true rfl, Nat.le_of_ble_eq_true rfl⟩) hP (hT.kept hS.2.1) hS hA rfl rfl rfl hl.1 rfl (Nat.le_of_ble_eq_true rfl) dX2_die_2 ⟨Nat.le_of_ble_eq_true rfl, Nat.le_of_ble_eq_true rfl⟩ (fun ce q9 H locs hP hS _ _ hce hcv hcl => ?_)
  rw [hQ0]
  exact zoutX ht hlocks hP hS hce hcv hcl
set_option maxHeartbeats 4000000 in
set_option maxRecDepth 100000 in
theorem kX2_diex2 (l : Launch) (D : va_G) (hl0 : l.stackTraces = false) (cI cZ : ClassId) (q : Nat → Nat) (hN : (zLC q).Nodup) (pa : Int → Int) (sp : Int → Int) (al : Int → Int) (dg : Int → Int) (co : Int → Int) (da : Int → Int) (mb : Int → Int) (dd : Int → Int) (ah : Int → Int) (wl : Int → Int) (lo : Int → Int) (n : Nat) (td : Int) (wn : Int) (hn : n ≤ 16) (hal : ∀ j : Int, 0 ≤ al j ∧ al j ≤ 1) (p : Int) (h1 : 0 ≤ p ∧ p < (n : Int)) (h2 : al p = 0) : zX l yX2_die wsX2_die ({ frames := 7, cells := 1, slots := 6, locals := 111 }) D [(cI, .int), (cZ, .boolean)] [.ref (q 0), .int (zI p)] (wC cI cZ q pa sp al dg co da mb dd ah wl lo n td wn) "java/lang/IllegalStateException" (zLC q) := by
  refine vx_ofW (cc := cX2_die) (maxL := 2) (ret := (some .int)) (by decide) rfl ?_
  intro p0 e9 s9 m9 ag9 below meth c9 s₁ B hml ht hv
  obtain ⟨hav, hP, hK, hT⟩ := hv
  have hx := B.exec
  have hb := B.bytes
  have hr := B.returns
  have hts := atoms_spec (ws := wsX2_die) B.pre
  have hown : s9.vm.findClass RX2 = some m9.cls := findClass_of_methodNamed B.named
  have hlocks := B.notSynchronized
  have hA : ∀ a ∈ zLC q, (fun a => a ∈ zLC q) a := fun _ h => h
  have hl := lv_entry ([.ref (q 0), .int (zI p)]) (n := 2) (Nat.le_of_ble_eq_true rfl)
  have hE : entryFrame m9 ag9 2 = F0 m9 0 ((lg_sl ([.ref (q 0), .int (zI p)]) ++ List.replicate (2 - (lg_sl ([.ref (q 0), .int (zI p)])).length) Slot.unset).toArray) [] := by rw [hav]; exact lg_entry_eq m9 _ _
  obtain ⟨Q0, hQ0⟩ : ∃ Q0, Q0 = vx_MQ below zNo (zXC D (wC cI cZ q pa sp al dg co da mb dd ah wl lo n td wn) "java/lang/IllegalStateException" (zLC q)) ag9 s9 1 6 (fun a => a ∈ zLC q) := ⟨_, rfl⟩
  show W p0 l e9 ({ frames := 7, cells := 1, slots := 6, locals := 111 }) s9 m9 ag9 below meth c9 s9.heap [] 0 0 (vx_MQ below zNo (zXC D (wC cI cZ q pa sp al dg co da mb dd ah wl lo n td wn) "java/lang/IllegalStateException" (zLC q)) ag9 s9 1 6 (fun a => a ∈ zLC q)) _
  rw [hE, ← hQ0]
  have hS : va_S (fun a => a ∈ zLC q) s9.heap s9.heap [] := va_S.rf
  generalize hH0 : s9.heap = H at hP ⊢
  have hS : va_S (fun a => a ∈ zLC q) s9.heap H [] := by rw [hH0] at hS ⊢; exact hS
  generalize (lg_sl ([.ref (q 0), .int (zI p)]) ++ List.replicate (2 - (lg_sl ([.ref (q 0), .int (zI p)])).length) Slot.unset).toArray = ls at hl ⊢
  have hl : lv_has ls 2 [(0, .ref (q 0)), (1, .int (zI p))] := hl
  refine lv_aload_n hx hb dX2_die_0 rfl (lv_at hl 0 rfl) ?_
  refine lv_iload_n hx hb dX2_die_1 rfl (lv_at hl 1 rfl) ?_
  refine zcallV (ci := 2) (q0 := 0) (cq := (RX2, TX2, 9)) (As := [.int (zI p)]) (rest := []) ⟨hx, hb, hml, hown, hts⟩ hK (kX2_needPersonok l D cI cZ q hN pa sp al dg co da mb dd ah wl lo n td wn hn p (by omega)) (cwV 1 hts gX2_die_X2_needPerson rfl rfl rfl (by decide +kernel) ⟨Nat.le_of_ble_eq_true rfl, Nat.le_of_ble_eq_true rfl⟩) hP hS hA rfl rfl rfl hl.1 rfl (Nat.le_of_ble_eq_true rfl) dX2_die_2 ⟨Nat.zero_le _, Nat.zero_le _⟩ (fun H locs hP hS _ _ => ?_)
  refine W.eq (g2 := F0 m9 5 ls []) rfl ?_
  refine lv_aload_n hx hb dX2_die_5 rfl (lv_at hl 0 rfl) ?_
  refine lv_iload_n hx hb dX2_die_6 rfl (lv_at hl 1 rfl) ?_
  refine zcallXV (ci := 2) (q0 := 0) (cq := (RX2, TX2, 9)) (As := [.int (zI p)]) (rest := []) ⟨hx, hb, hml, hown, hts⟩ hK (kX2_needAlivex l D hl0 cI cZ q hN pa sp al dg co da mb dd ah wl lo n td wn hal p (by omega) (by omega)) (cwV 1 hts gX2_die_X2_needAlive rfl rfl rfl (by decide +kernel) ⟨Nat.le_of_ble_eq_true rfl, Nat.le_of_ble_eq_true rfl⟩) hP (hT.kept hS.2.1) hS hA rfl rfl rfl hl.1 rfl (Nat.le_of_ble_eq_true rfl) dX2_die_7 ⟨Nat.le_of_ble_eq_true rfl, Nat.le_of_ble_eq_true rfl⟩ (fun ce q9 H locs hP hS _ _ hce hcv hcl => ?_)
  rw [hQ0]
  exact zoutX ht hlocks hP hS hce hcv hcl
set_option maxHeartbeats 4000000 in
set_option maxRecDepth 100000 in
theorem kX2_releasex1 (l : Launch) (D : va_G) (hl0 : l.stackTraces = false) (cI cZ : ClassId) (q : Nat → Nat) (hN : (zLC q).Nodup) (pa : Int → Int) (sp : Int → Int) (al : Int → Int) (dg : Int → Int) (co : Int → Int) (da : Int → Int) (mb : Int → Int) (dd : Int → Int) (ah : Int → Int) (wl : Int → Int) (lo : Int → Int) (n : Nat) (td : Int) (wn : Int) (hn : n ≤ 16) (p : Int) (d : Int) (h0 : -2147483648 ≤ p ∧ p ≤ 2147483647) (h1 : ¬ (0 ≤ p ∧ p < (n : Int))) : zX l yX2_release wsX2_release ({ frames := 7, cells := 1, slots := 6, locals := 111 }) D [(cI, .int), (cZ, .boolean)] [.ref (q 0), .int (zI p), .int (zI d)] (wC cI cZ q pa sp al dg co da mb dd ah wl lo n td wn) "java/lang/IndexOutOfBoundsException" (zLC q) := by
  refine vx_ofW (cc := cX2_release) (maxL := 4) (ret := (some .int)) (by decide) rfl ?_
  intro p0 e9 s9 m9 ag9 below meth c9 s₁ B hml ht hv
  obtain ⟨hav, hP, hK, hT⟩ := hv
  have hx := B.exec
  have hb := B.bytes
  have hr := B.returns
  have hts := atoms_spec (ws := wsX2_release) B.pre
  have hown : s9.vm.findClass RX2 = some m9.cls := findClass_of_methodNamed B.named
  have hlocks := B.notSynchronized
  have hA : ∀ a ∈ zLC q, (fun a => a ∈ zLC q) a := fun _ h => h
  have hl := lv_entry ([.ref (q 0), .int (zI p), .int (zI d)]) (n := 4) (Nat.le_of_ble_eq_true rfl)
  have hE : entryFrame m9 ag9 4 = F0 m9 0 ((lg_sl ([.ref (q 0), .int (zI p), .int (zI d)]) ++ List.replicate (4 - (lg_sl ([.ref (q 0), .int (zI p), .int (zI d)])).length) Slot.unset).toArray) [] := by rw [hav]; exact lg_entry_eq m9 _ _
  obtain ⟨Q0, hQ0⟩ : ∃ Q0, Q0 = vx_MQ below zNo (zXC D (wC cI cZ q pa sp al dg co da mb dd ah wl lo n td wn) "java/lang/IndexOutOfBoundsException" (zLC q)) ag9 s9 1 6 (fun a => a ∈ zLC q) := ⟨_, rfl⟩
  show W p0 l e9 ({ frames := 7, cells := 1, slots := 6, locals := 111 }) s9 m9 ag9 below meth c9 s9.heap [] 0 0 (vx_MQ below zNo (zXC D (wC cI cZ q pa sp al dg co da mb dd ah wl lo n td wn) "java/lang/IndexOutOfBoundsException" (zLC q)) ag9 s9 1 6 (fun a => a ∈ zLC q)) _
  rw [hE, ← hQ0]
  have hS : va_S (fun a => a ∈ zLC q) s9.heap s9.heap [] := va_S.rf
  generalize hH0 : s9.heap = H at hP ⊢
  have hS : va_S (fun a => a ∈ zLC q) s9.heap H [] := by rw [hH0] at hS ⊢; exact hS
  generalize (lg_sl ([.ref (q 0), .int (zI p), .int (zI d)]) ++ List.replicate (4 - (lg_sl ([.ref (q 0), .int (zI p), .int (zI d)])).length) Slot.unset).toArray = ls at hl ⊢
  have hl : lv_has ls 4 [(0, .ref (q 0)), (1, .int (zI p)), (2, .int (zI d))] := hl
  refine lv_aload_n hx hb dX2_release_0 rfl (lv_at hl 0 rfl) ?_
  refine lv_iload_n hx hb dX2_release_1 rfl (lv_at hl 1 rfl) ?_
  refine zcallXV (ci := 2) (q0 := 0) (cq := (RX2, TX2, 9)) (As := [.int (zI p)]) (rest := []) ⟨hx, hb, hml, hown, hts⟩ hK (kX2_needPersonx l D hl0 cI cZ q hN pa sp al dg co da mb dd ah wl lo n td wn hn p (by omega) (by omega)) (cwV 1 hts gX2_release_X2_needPerson rfl rfl rfl (by decide +kernel) ⟨Nat.le_of_ble_eq_true rfl, Nat.le_of_ble_eq_true rfl⟩) hP (hT.kept hS.2.1) hS hA rfl rfl rfl hl.1 rfl (Nat.le_of_ble_eq_true rfl) dX2_release_2 ⟨Nat.le_of_ble_eq_true rfl, Nat.le_of_ble_eq_true rfl⟩ (fun ce q9 H locs hP hS _ _ hce hcv hcl => ?_)
  rw [hQ0]
  exact zoutX ht hlocks hP hS hce hcv hcl
set_option maxHeartbeats 4000000 in
set_option maxRecDepth 100000 in
theorem kX2_releasex2 (l : Launch) (D : va_G) (hl0 : l.stackTraces = false) (cI cZ : ClassId) (q : Nat → Nat) (hN : (zLC q).Nodup) (pa : Int → Int) (sp : Int → Int) (al : Int → Int) (dg : Int → Int) (co : Int → Int) (da : Int → Int) (mb : Int → Int) (dd : Int → Int) (ah : Int → Int) (wl : Int → Int) (lo : Int → Int) (n : Nat) (td : Int) (wn : Int) (hn : n ≤ 16) (p : Int) (d : Int) (h0 : -2147483648 ≤ d ∧ d ≤ 2147483647) (h1 : 0 ≤ p ∧ p < (n : Int)) (h2 : ¬ (0 ≤ d ∧ d < (n : Int))) : zX l yX2_release wsX2_release ({ frames := 7, cells := 1, slots := 6, locals := 111 }) D [(cI, .int), (cZ, .boolean)] [.ref (q 0), .int (zI p), .int (zI d)] (wC cI cZ q pa sp al dg co da mb dd ah wl lo n td wn) "java/lang/IndexOutOfBoundsException" (zLC q) := by
  refine vx_ofW (cc := cX2_release) (maxL := 4) (ret := (some .int)) (by decide) rfl ?_
  intro p0 e9 s9 m9 ag9 below meth c9 s₁ B hml ht hv
  obtain ⟨hav, hP, hK, hT⟩ := hv
  have hx := B.exec
  have hb := B.bytes
  have hr := B.returns
  have hts := atoms_spec (ws := wsX2_release) B.pre
  have hown : s9.vm.findClass RX2 = some m9.cls := findClass_of_methodNamed B.named
  have hlocks := B.notSynchronized
  have hA : ∀ a ∈ zLC q, (fun a => a ∈ zLC q) a := fun _ h => h
  have hl := lv_entry ([.ref (q 0), .int (zI p), .int (zI d)]) (n := 4) (Nat.le_of_ble_eq_true rfl)
  have hE : entryFrame m9 ag9 4 = F0 m9 0 ((lg_sl ([.ref (q 0), .int (zI p), .int (zI d)]) ++ List.replicate (4 - (lg_sl ([.ref (q 0), .int (zI p), .int (zI d)])).length) Slot.unset).toArray) [] := by rw [hav]; exact lg_entry_eq m9 _ _
  obtain ⟨Q0, hQ0⟩ : ∃ Q0, Q0 = vx_MQ below zNo (zXC D (wC cI cZ q pa sp al dg co da mb dd ah wl lo n td wn) "java/lang/IndexOutOfBoundsException" (zLC q)) ag9 s9 1 6 (fun a => a ∈ zLC q) := ⟨_, rfl⟩
  show W p0 l e9 ({ frames := 7, cells := 1, slots := 6, locals := 111 }) s9 m9 ag9 below meth c9 s9.heap [] 0 0 (vx_MQ below zNo (zXC D (wC cI cZ q pa sp al dg co da mb dd ah wl lo n td wn) "java/lang/IndexOutOfBoundsException" (zLC q)) ag9 s9 1 6 (fun a => a ∈ zLC q)) _
  rw [hE, ← hQ0]
  have hS : va_S (fun a => a ∈ zLC q) s9.heap s9.heap [] := va_S.rf
  generalize hH0 : s9.heap = H at hP ⊢
  have hS : va_S (fun a => a ∈ zLC q) s9.heap H [] := by rw [hH0] at hS ⊢; exact hS
  generalize (lg_sl ([.ref (q 0), .int (zI p), .int (zI d)]) ++ List.replicate (4 - (lg_sl ([.ref (q 0), .int (zI p), .int (zI d)])).length) Slot.unset).toArray = ls at hl ⊢
  have hl : lv_has ls 4 [(0, .ref (q 0)), (1, .int (zI p)), (2, .int (zI d))] := hl
  refine lv_aload_n hx hb dX2_release_0 rfl (lv_at hl 0 rfl) ?_
  refine lv_iload_n hx hb dX2_release_1 rfl (lv_at hl 1 rfl) ?_
  refine zcallV (ci := 2) (q0 := 0) (cq := (RX2, TX2, 9)) (As := [.int (zI p)]) (rest := []) ⟨hx, hb, hml, hown, hts⟩ hK (kX2_needPersonok l D cI cZ q hN pa sp al dg co da mb dd ah wl lo n td wn hn p (by omega)) (cwV 1 hts gX2_release_X2_needPerson rfl rfl rfl (by decide +kernel) ⟨Nat.le_of_ble_eq_true rfl, Nat.le_of_ble_eq_true rfl⟩) hP hS hA rfl rfl rfl hl.1 rfl (Nat.le_of_ble_eq_true rfl) dX2_release_2 ⟨Nat.zero_le _, Nat.zero_le _⟩ (fun H locs hP hS _ _ => ?_)
  refine W.eq (g2 := F0 m9 5 ls []) rfl ?_
  refine lv_aload_n hx hb dX2_release_5 rfl (lv_at hl 0 rfl) ?_
  refine lv_iload_n hx hb dX2_release_6 rfl (lv_at hl 2 rfl) ?_
  refine zcallXV (ci := 2) (q0 := 0) (cq := (RX2, TX2, 9)) (As := [.int (zI d)]) (rest := []) ⟨hx, hb, hml, hown, hts⟩ hK (kX2_needPersonx l D hl0 cI cZ q hN pa sp al dg co da mb dd ah wl lo n td wn hn d (by omega) (by omega)) (cwV 1 hts gX2_release_X2_needPerson rfl rfl rfl (by decide +kernel) ⟨Nat.le_of_ble_eq_true rfl, Nat.le_of_ble_eq_true rfl⟩) hP (hT.kept hS.2.1) hS hA rfl rfl rfl hl.1 rfl (Nat.le_of_ble_eq_true rfl) dX2_release_7 ⟨Nat.le_of_ble_eq_true rfl, Nat.le_of_ble_eq_true rfl⟩ (fun ce q9 H locs hP hS _ _ hce hcv hcl => ?_)
  rw [hQ0]
  exact zoutX ht hlocks hP hS hce hcv hcl
set_option maxHeartbeats 4000000 in
set_option maxRecDepth 100000 in
theorem kX2_releasex3 (l : Launch) (D : va_G) (hl0 : l.stackTraces = false) (cI cZ : ClassId) (q : Nat → Nat) (hN : (zLC q).Nodup) (pa : Int → Int) (sp : Int → Int) (al : Int → Int) (dg : Int → Int) (co : Int → Int) (da : Int → Int) (mb : Int → Int) (dd : Int → Int) (ah : Int → Int) (wl : Int → Int) (lo : Int → Int) (n : Nat) (td : Int) (wn : Int) (hn : n ≤ 16) (hda : ∀ j : Int, 0 ≤ da j ∧ da j ≤ 60) (hmb : ∀ j : Int, 0 ≤ mb j ∧ mb j ≤ 4) (hdd : ∀ j : Int, 0 ≤ dd j ∧ dd j ≤ 1000000) (htd : 0 ≤ td ∧ td ≤ 1000000) (p : Int) (d : Int) (h1 : 0 ≤ p ∧ p < (n : Int)) (h2 : 0 ≤ d ∧ d < (n : Int)) (h3 : lf da mb dd td p d = 0) : zX l yX2_release wsX2_release ({ frames := 7, cells := 1, slots := 6, locals := 111 }) D [(cI, .int), (cZ, .boolean)] [.ref (q 0), .int (zI p), .int (zI d)] (wC cI cZ q pa sp al dg co da mb dd ah wl lo n td wn) "java/lang/IllegalStateException" (zLC q) := by
  refine vx_ofW (cc := cX2_release) (maxL := 4) (ret := (some .int)) (by decide) rfl ?_
  intro p0 e9 s9 m9 ag9 below meth c9 s₁ B hml ht hv
  obtain ⟨hav, hP, hK, hT⟩ := hv
  have hx := B.exec
  have hb := B.bytes
  have hr := B.returns
  have hts := atoms_spec (ws := wsX2_release) B.pre
  have hown : s9.vm.findClass RX2 = some m9.cls := findClass_of_methodNamed B.named
  have hlocks := B.notSynchronized
  have hA : ∀ a ∈ zLC q, (fun a => a ∈ zLC q) a := fun _ h => h
  have hin2 : ∀ w ∈ u_ws RX2 TX2 9, w ∈ wsX2_release := by decide +kernel
  have hl := lv_entry ([.ref (q 0), .int (zI p), .int (zI d)]) (n := 4) (Nat.le_of_ble_eq_true rfl)
  have hE : entryFrame m9 ag9 4 = F0 m9 0 ((lg_sl ([.ref (q 0), .int (zI p), .int (zI d)]) ++ List.replicate (4 - (lg_sl ([.ref (q 0), .int (zI p), .int (zI d)])).length) Slot.unset).toArray) [] := by rw [hav]; exact lg_entry_eq m9 _ _
  obtain ⟨Q0, hQ0⟩ : ∃ Q0, Q0 = vx_MQ below zNo (zXC D (wC cI cZ q pa sp al dg co da mb dd ah wl lo n td wn) "java/lang/IllegalStateException" (zLC q)) ag9 s9 1 6 (fun a => a ∈ zLC q) := ⟨_, rfl⟩
  show W p0 l e9 ({ frames := 7, cells := 1, slots := 6, locals := 111 }) s9 m9 ag9 below meth c9 s9.heap [] 0 0 (vx_MQ below zNo (zXC D (wC cI cZ q pa sp al dg co da mb dd ah wl lo n td wn) "java/lang/IllegalStateException" (zLC q)) ag9 s9 1 6 (fun a => a ∈ zLC q)) _
  rw [hE, ← hQ0]
  have hS : va_S (fun a => a ∈ zLC q) s9.heap s9.heap [] := va_S.rf
  generalize hH0 : s9.heap = H at hP ⊢
  have hS : va_S (fun a => a ∈ zLC q) s9.heap H [] := by rw [hH0] at hS ⊢; exact hS
  generalize (lg_sl ([.ref (q 0), .int (zI p), .int (zI d)]) ++ List.replicate (4 - (lg_sl ([.ref (q 0), .int (zI p), .int (zI d)])).length) Slot.unset).toArray = ls at hl ⊢
  have hl : lv_has ls 4 [(0, .ref (q 0)), (1, .int (zI p)), (2, .int (zI d))] := hl
  refine lv_aload_n hx hb dX2_release_0 rfl (lv_at hl 0 rfl) ?_
  refine lv_iload_n hx hb dX2_release_1 rfl (lv_at hl 1 rfl) ?_
  refine zcallV (ci := 2) (q0 := 0) (cq := (RX2, TX2, 9)) (As := [.int (zI p)]) (rest := []) ⟨hx, hb, hml, hown, hts⟩ hK (kX2_needPersonok l D cI cZ q hN pa sp al dg co da mb dd ah wl lo n td wn hn p (by omega)) (cwV 1 hts gX2_release_X2_needPerson rfl rfl rfl (by decide +kernel) ⟨Nat.le_of_ble_eq_true rfl, Nat.le_of_ble_eq_true rfl⟩) hP hS hA rfl rfl rfl hl.1 rfl (Nat.le_of_ble_eq_true rfl) dX2_release_2 ⟨Nat.zero_le _, Nat.zero_le _⟩ (fun H locs hP hS _ _ => ?_)
  refine W.eq (g2 := F0 m9 5 ls []) rfl ?_
  refine lv_aload_n hx hb dX2_release_5 rfl (lv_at hl 0 rfl) ?_
  refine lv_iload_n hx hb dX2_release_6 rfl (lv_at hl 2 rfl) ?_
  refine zcallV (ci := 2) (q0 := 0) (cq := (RX2, TX2, 9)) (As := [.int (zI d)]) (rest := []) ⟨hx, hb, hml, hown, hts⟩ hK (kX2_needPersonok l D cI cZ q hN pa sp al dg co da mb dd ah wl lo n td wn hn d (by omega)) (cwV 1 hts gX2_release_X2_needPerson rfl rfl rfl (by decide +kernel) ⟨Nat.le_of_ble_eq_true rfl, Nat.le_of_ble_eq_true rfl⟩) hP hS hA rfl rfl rfl hl.1 rfl (Nat.le_of_ble_eq_true rfl) dX2_release_7 ⟨Nat.zero_le _, Nat.zero_le _⟩ (fun H locs hP hS _ _ => ?_)
  refine W.eq (g2 := F0 m9 10 ls []) rfl ?_
  refine lv_aload_n hx hb dX2_release_10 rfl (lv_at hl 0 rfl) ?_
  refine lv_iload_n hx hb dX2_release_11 rfl (lv_at hl 1 rfl) ?_
  refine lv_iload_n hx hb dX2_release_12 rfl (lv_at hl 2 rfl) ?_
  refine zcallV (ci := 2) (q0 := 0) (cq := (RX2, TX2, 9)) (As := [.int (zI p), .int (zI d)]) (rest := []) ⟨hx, hb, hml, hown, hts⟩ hK (kX2_leftFor l D cI cZ q hN pa sp al dg co da mb dd ah wl lo n td wn hda hmb hdd htd p d (by omega) (by omega)) (cwV 2 hts gX2_release_X2_leftFor rfl rfl rfl (by decide +kernel) ⟨Nat.le_of_ble_eq_true rfl, Nat.le_of_ble_eq_true rfl⟩) hP hS hA rfl rfl rfl hl.1 rfl (Nat.le_of_ble_eq_true rfl) dX2_release_13 ⟨Nat.zero_le _, Nat.zero_le _⟩ (fun H locs hP hS _ _ => ?_)
  refine W.eq (g2 := F0 m9 16 ls [.int (zI (lf da mb dd td p d))]) rfl ?_
  have f_1 := lf_180 hda hdd htd mb p d
  refine lv_istore_n (lv' := [(3, .int (zI (lf da mb dd td p d))), (0, .ref (q 0)), (1, .int (zI p)), (2, .int (zI d))]) hx hb dX2_release_16 rfl hl (by decide) rfl (fun ls hl => ?_)
  refine lv_iload_n hx hb dX2_release_17 rfl (lv_at hl 0 rfl) ?_
  refine zr_if_ne (tgt := 31) hx hb dX2_release_18 (by decide) ⟨by omega, by omega⟩ (fun c_2 => ?_) (fun c_2 => ?_)
  · have c_2 := c_2
    refine lv_aload_n hx hb dX2_release_31 rfl (lv_at hl 1 rfl) ?_
    refine va_get (D := D) (ci := 2) (v := .ref (q 3)) (C := RX2) (T := TX2) (N := 9) hx hb hts hin2 hown hK hP 0 rfl rfl 2 (by decide) (hts (.fieldLink RX2 23 "MourningRibbons" "mournedBy" "[I") (by decide +kernel)) (fun _ h9 => h9) rfl dX2_release_32 ?_
    refine lv_iload_n hx hb dX2_release_35 rfl (lv_at hl 2 rfl) ?_
    refine lv_iload_n hx hb dX2_release_36 rfl (lv_at hl 3 rfl) ?_
    exfalso; omega
  · have c_2 := c_2
    obtain ⟨sa, hstr⟩ := hT.2.2.1 (121, "this person does not mourn that one today") (by decide +kernel)
    rw [hQ0]
    exact zthrowN (names := ["java/lang/RuntimeException", "java/lang/Exception"]) (cls := "java/lang/IllegalStateException") (ic := 65) hx hb hl0 hown (by decide +kernel) (by decide +kernel) (hts (.classLink RX2 61 "java/lang/IllegalStateException") (by decide +kernel)) (hts (.initialized "java/lang/IllegalStateException") (by decide +kernel)) hstr (vx_hat (fun w h => hts w ((by decide +kernel : ∀ w ∈ (vx_atS RX2 65 "java/lang/IllegalStateException" ["java/lang/RuntimeException", "java/lang/Exception"]).filter goodWord, w ∈ wsX2_release) w h)) (by decide +kernel : ∀ w ∈ (vx_atS RX2 65 "java/lang/IllegalStateException" ["java/lang/RuntimeException", "java/lang/Exception"]).filter (fun w => !goodWord w), w ∈ zBad) (hT.2.2.2.at (Vm.Alike.refl _) _)) (by decide +kernel) hP hT hS (by rw [hml, hl.1]) dX2_release_21 dX2_release_24 dX2_release_25 dX2_release_27 dX2_release_30 ht (Nat.le_of_ble_eq_true rfl) (Nat.le_of_ble_eq_true rfl) (Nat.le_of_ble_eq_true rfl) (Nat.le_of_ble_eq_true rfl) hlocks
set_option maxHeartbeats 4000000 in
set_option maxRecDepth 100000 in
theorem kX2_passx1 (l : Launch) (D : va_G) (hl0 : l.stackTraces = false) (cI cZ : ClassId) (q : Nat → Nat) (hN : (zLC q).Nodup) (pa : Int → Int) (sp : Int → Int) (al : Int → Int) (dg : Int → Int) (co : Int → Int) (da : Int → Int) (mb : Int → Int) (dd : Int → Int) (ah : Int → Int) (wl : Int → Int) (lo : Int → Int) (n : Nat) (td : Int) (wn : Int) (k : Int) (h0 : -2147483648 ≤ k ∧ k ≤ 2147483647) (h1 : ¬ (1 ≤ k ∧ k ≤ 200)) : zX l yX2_pass wsX2_pass ({ frames := 6, cells := 1, slots := 6, locals := 96 }) D [(cI, .int), (cZ, .boolean)] [.ref (q 0), .int (zI k)] (wC cI cZ q pa sp al dg co da mb dd ah wl lo n td wn) "java/lang/IllegalArgumentException" (zLC q) := by
  refine vx_ofW (cc := cX2_pass) (maxL := 3) (ret := (some .int)) (by decide) rfl ?_
  intro p0 e9 s9 m9 ag9 below meth c9 s₁ B hml ht hv
  obtain ⟨hav, hP, hK, hT⟩ := hv
  have hx := B.exec
  have hb := B.bytes
  have hr := B.returns
  have hts := atoms_spec (ws := wsX2_pass) B.pre
  have hown : s9.vm.findClass RX2 = some m9.cls := findClass_of_methodNamed B.named
  have hlocks := B.notSynchronized
  have hA : ∀ a ∈ zLC q, (fun a => a ∈ zLC q) a := fun _ h => h
  have hl := lv_entry ([.ref (q 0), .int (zI k)]) (n := 3) (Nat.le_of_ble_eq_true rfl)
  have hE : entryFrame m9 ag9 3 = F0 m9 0 ((lg_sl ([.ref (q 0), .int (zI k)]) ++ List.replicate (3 - (lg_sl ([.ref (q 0), .int (zI k)])).length) Slot.unset).toArray) [] := by rw [hav]; exact lg_entry_eq m9 _ _
  obtain ⟨Q0, hQ0⟩ : ∃ Q0, Q0 = vx_MQ below zNo (zXC D (wC cI cZ q pa sp al dg co da mb dd ah wl lo n td wn) "java/lang/IllegalArgumentException" (zLC q)) ag9 s9 1 6 (fun a => a ∈ zLC q) := ⟨_, rfl⟩
  show W p0 l e9 ({ frames := 6, cells := 1, slots := 6, locals := 96 }) s9 m9 ag9 below meth c9 s9.heap [] 0 0 (vx_MQ below zNo (zXC D (wC cI cZ q pa sp al dg co da mb dd ah wl lo n td wn) "java/lang/IllegalArgumentException" (zLC q)) ag9 s9 1 6 (fun a => a ∈ zLC q)) _
  rw [hE, ← hQ0]
  have hS : va_S (fun a => a ∈ zLC q) s9.heap s9.heap [] := va_S.rf
  generalize hH0 : s9.heap = H at hP ⊢
  have hS : va_S (fun a => a ∈ zLC q) s9.heap H [] := by rw [hH0] at hS ⊢; exact hS
  generalize (lg_sl ([.ref (q 0), .int (zI k)]) ++ List.replicate (3 - (lg_sl ([.ref (q 0), .int (zI k)])).length) Slot.unset).toArray = ls at hl ⊢
  have hl : lv_has ls 3 [(0, .ref (q 0)), (1, .int (zI k))] := hl
  refine lv_iload_n hx hb dX2_pass_0 rfl (lv_at hl 1 rfl) ?_
  refine zr_iconst hx hb dX2_pass_1 ?_
  refine zr_icmp_lt (tgt := 12) hx hb dX2_pass_2 (by decide) ⟨by omega, by omega⟩ ⟨by decide, by decide⟩ (fun c_1 => ?_) (fun c_1 => ?_)
  · have c_1 := c_1
    obtain ⟨sa, hstr⟩ := hT.2.2.1 (126, "1 to 200 days go by") (by decide +kernel)
    rw [hQ0]
    exact zthrowN (names := ["java/lang/RuntimeException", "java/lang/Exception"]) (cls := "java/lang/IllegalArgumentException") (ic := 84) hx hb hl0 hown (by decide +kernel) (by decide +kernel) (hts (.classLink RX2 80 "java/lang/IllegalArgumentException") (by decide +kernel)) (hts (.initialized "java/lang/IllegalArgumentException") (by decide +kernel)) hstr (vx_hat (fun w h => hts w ((by decide +kernel : ∀ w ∈ (vx_atS RX2 84 "java/lang/IllegalArgumentException" ["java/lang/RuntimeException", "java/lang/Exception"]).filter goodWord, w ∈ wsX2_pass) w h)) (by decide +kernel : ∀ w ∈ (vx_atS RX2 84 "java/lang/IllegalArgumentException" ["java/lang/RuntimeException", "java/lang/Exception"]).filter (fun w => !goodWord w), w ∈ zBad) (hT.2.2.2.at (Vm.Alike.refl _) _)) (by decide +kernel) hP hT hS (by rw [hml, hl.1]) dX2_pass_12 dX2_pass_15 dX2_pass_16 dX2_pass_18 dX2_pass_21 ht (Nat.le_of_ble_eq_true rfl) (Nat.le_of_ble_eq_true rfl) (Nat.le_of_ble_eq_true rfl) (Nat.le_of_ble_eq_true rfl) hlocks
  · have c_1 := c_1
    refine lv_iload_n hx hb dX2_pass_5 rfl (lv_at hl 1 rfl) ?_
    refine zr_sipush hx hb dX2_pass_6 (by decide) ?_
    refine zr_icmp_le (tgt := 22) hx hb dX2_pass_9 (by decide) ⟨by omega, by omega⟩ ⟨by decide, by decide⟩ (fun c_2 => ?_) (fun c_2 => ?_)
    · have c_2 := c_2
      exfalso; omega
    · have c_2 := c_2
      obtain ⟨sa, hstr⟩ := hT.2.2.1 (126, "1 to 200 days go by") (by decide +kernel)
      rw [hQ0]
      exact zthrowN (names := ["java/lang/RuntimeException", "java/lang/Exception"]) (cls := "java/lang/IllegalArgumentException") (ic := 84) hx hb hl0 hown (by decide +kernel) (by decide +kernel) (hts (.classLink RX2 80 "java/lang/IllegalArgumentException") (by decide +kernel)) (hts (.initialized "java/lang/IllegalArgumentException") (by decide +kernel)) hstr (vx_hat (fun w h => hts w ((by decide +kernel : ∀ w ∈ (vx_atS RX2 84 "java/lang/IllegalArgumentException" ["java/lang/RuntimeException", "java/lang/Exception"]).filter goodWord, w ∈ wsX2_pass) w h)) (by decide +kernel : ∀ w ∈ (vx_atS RX2 84 "java/lang/IllegalArgumentException" ["java/lang/RuntimeException", "java/lang/Exception"]).filter (fun w => !goodWord w), w ∈ zBad) (hT.2.2.2.at (Vm.Alike.refl _) _)) (by decide +kernel) hP hT hS (by rw [hml, hl.1]) dX2_pass_12 dX2_pass_15 dX2_pass_16 dX2_pass_18 dX2_pass_21 ht (Nat.le_of_ble_eq_true rfl) (Nat.le_of_ble_eq_true rfl) (Nat.le_of_ble_eq_true rfl) (Nat.le_of_ble_eq_true rfl) hlocks
set_option maxHeartbeats 4000000 in
set_option maxRecDepth 100000 in
theorem kX2_isAlivex1 (l : Launch) (D : va_G) (hl0 : l.stackTraces = false) (cI cZ : ClassId) (q : Nat → Nat) (hN : (zLC q).Nodup) (pa : Int → Int) (sp : Int → Int) (al : Int → Int) (dg : Int → Int) (co : Int → Int) (da : Int → Int) (mb : Int → Int) (dd : Int → Int) (ah : Int → Int) (wl : Int → Int) (lo : Int → Int) (n : Nat) (td : Int) (wn : Int) (hn : n ≤ 16) (p : Int) (h0 : -2147483648 ≤ p ∧ p ≤ 2147483647) (h1 : ¬ (0 ≤ p ∧ p < (n : Int))) : zX l yX2_isAlive wsX2_isAlive ({ frames := 7, cells := 1, slots := 6, locals := 111 }) D [(cI, .int), (cZ, .boolean)] [.ref (q 0), .int (zI p)] (wC cI cZ q pa sp al dg co da mb dd ah wl lo n td wn) "java/lang/IndexOutOfBoundsException" (zLC q) := by
  refine vx_ofW (cc := cX2_isAlive) (maxL := 2) (ret := (some .boolean)) (by decide) rfl ?_
  intro p0 e9 s9 m9 ag9 below meth c9 s₁ B hml ht hv
  obtain ⟨hav, hP, hK, hT⟩ := hv
  have hx := B.exec
  have hb := B.bytes
  have hr := B.returns
  have hts := atoms_spec (ws := wsX2_isAlive) B.pre
  have hown : s9.vm.findClass RX2 = some m9.cls := findClass_of_methodNamed B.named
  have hlocks := B.notSynchronized
  have hA : ∀ a ∈ zLC q, (fun a => a ∈ zLC q) a := fun _ h => h
  have hl := lv_entry ([.ref (q 0), .int (zI p)]) (n := 2) (Nat.le_of_ble_eq_true rfl)
  have hE : entryFrame m9 ag9 2 = F0 m9 0 ((lg_sl ([.ref (q 0), .int (zI p)]) ++ List.replicate (2 - (lg_sl ([.ref (q 0), .int (zI p)])).length) Slot.unset).toArray) [] := by rw [hav]; exact lg_entry_eq m9 _ _
  obtain ⟨Q0, hQ0⟩ : ∃ Q0, Q0 = vx_MQ below zNo (zXC D (wC cI cZ q pa sp al dg co da mb dd ah wl lo n td wn) "java/lang/IndexOutOfBoundsException" (zLC q)) ag9 s9 1 6 (fun a => a ∈ zLC q) := ⟨_, rfl⟩
  show W p0 l e9 ({ frames := 7, cells := 1, slots := 6, locals := 111 }) s9 m9 ag9 below meth c9 s9.heap [] 0 0 (vx_MQ below zNo (zXC D (wC cI cZ q pa sp al dg co da mb dd ah wl lo n td wn) "java/lang/IndexOutOfBoundsException" (zLC q)) ag9 s9 1 6 (fun a => a ∈ zLC q)) _
  rw [hE, ← hQ0]
  have hS : va_S (fun a => a ∈ zLC q) s9.heap s9.heap [] := va_S.rf
  generalize hH0 : s9.heap = H at hP ⊢
  have hS : va_S (fun a => a ∈ zLC q) s9.heap H [] := by rw [hH0] at hS ⊢; exact hS
  generalize (lg_sl ([.ref (q 0), .int (zI p)]) ++ List.replicate (2 - (lg_sl ([.ref (q 0), .int (zI p)])).length) Slot.unset).toArray = ls at hl ⊢
  have hl : lv_has ls 2 [(0, .ref (q 0)), (1, .int (zI p))] := hl
  refine lv_aload_n hx hb dX2_isAlive_0 rfl (lv_at hl 0 rfl) ?_
  refine lv_iload_n hx hb dX2_isAlive_1 rfl (lv_at hl 1 rfl) ?_
  refine zcallXV (ci := 2) (q0 := 0) (cq := (RX2, TX2, 9)) (As := [.int (zI p)]) (rest := []) ⟨hx, hb, hml, hown, hts⟩ hK (kX2_needPersonx l D hl0 cI cZ q hN pa sp al dg co da mb dd ah wl lo n td wn hn p (by omega) (by omega)) (cwV 1 hts gX2_isAlive_X2_needPerson rfl rfl rfl (by decide +kernel) ⟨Nat.le_of_ble_eq_true rfl, Nat.le_of_ble_eq_true rfl⟩) hP (hT.kept hS.2.1) hS hA rfl rfl rfl hl.1 rfl (Nat.le_of_ble_eq_true rfl) dX2_isAlive_2 ⟨Nat.le_of_ble_eq_true rfl, Nat.le_of_ble_eq_true rfl⟩ (fun ce q9 H locs hP hS _ _ hce hcv hcl => ?_)
  rw [hQ0]
  exact zoutX ht hlocks hP hS hce hcv hcl
set_option maxHeartbeats 4000000 in
set_option maxRecDepth 100000 in
theorem kX2_parentOfx1 (l : Launch) (D : va_G) (hl0 : l.stackTraces = false) (cI cZ : ClassId) (q : Nat → Nat) (hN : (zLC q).Nodup) (pa : Int → Int) (sp : Int → Int) (al : Int → Int) (dg : Int → Int) (co : Int → Int) (da : Int → Int) (mb : Int → Int) (dd : Int → Int) (ah : Int → Int) (wl : Int → Int) (lo : Int → Int) (n : Nat) (td : Int) (wn : Int) (hn : n ≤ 16) (p : Int) (h0 : -2147483648 ≤ p ∧ p ≤ 2147483647) (h1 : ¬ (0 ≤ p ∧ p < (n : Int))) : zX l yX2_parentOf wsX2_parentOf ({ frames := 7, cells := 1, slots := 6, locals := 111 }) D [(cI, .int), (cZ, .boolean)] [.ref (q 0), .int (zI p)] (wC cI cZ q pa sp al dg co da mb dd ah wl lo n td wn) "java/lang/IndexOutOfBoundsException" (zLC q) := by
  refine vx_ofW (cc := cX2_parentOf) (maxL := 2) (ret := (some .int)) (by decide) rfl ?_
  intro p0 e9 s9 m9 ag9 below meth c9 s₁ B hml ht hv
  obtain ⟨hav, hP, hK, hT⟩ := hv
  have hx := B.exec
  have hb := B.bytes
  have hr := B.returns
  have hts := atoms_spec (ws := wsX2_parentOf) B.pre
  have hown : s9.vm.findClass RX2 = some m9.cls := findClass_of_methodNamed B.named
  have hlocks := B.notSynchronized
  have hA : ∀ a ∈ zLC q, (fun a => a ∈ zLC q) a := fun _ h => h
  have hl := lv_entry ([.ref (q 0), .int (zI p)]) (n := 2) (Nat.le_of_ble_eq_true rfl)
  have hE : entryFrame m9 ag9 2 = F0 m9 0 ((lg_sl ([.ref (q 0), .int (zI p)]) ++ List.replicate (2 - (lg_sl ([.ref (q 0), .int (zI p)])).length) Slot.unset).toArray) [] := by rw [hav]; exact lg_entry_eq m9 _ _
  obtain ⟨Q0, hQ0⟩ : ∃ Q0, Q0 = vx_MQ below zNo (zXC D (wC cI cZ q pa sp al dg co da mb dd ah wl lo n td wn) "java/lang/IndexOutOfBoundsException" (zLC q)) ag9 s9 1 6 (fun a => a ∈ zLC q) := ⟨_, rfl⟩
  show W p0 l e9 ({ frames := 7, cells := 1, slots := 6, locals := 111 }) s9 m9 ag9 below meth c9 s9.heap [] 0 0 (vx_MQ below zNo (zXC D (wC cI cZ q pa sp al dg co da mb dd ah wl lo n td wn) "java/lang/IndexOutOfBoundsException" (zLC q)) ag9 s9 1 6 (fun a => a ∈ zLC q)) _
  rw [hE, ← hQ0]
  have hS : va_S (fun a => a ∈ zLC q) s9.heap s9.heap [] := va_S.rf
  generalize hH0 : s9.heap = H at hP ⊢
  have hS : va_S (fun a => a ∈ zLC q) s9.heap H [] := by rw [hH0] at hS ⊢; exact hS
  generalize (lg_sl ([.ref (q 0), .int (zI p)]) ++ List.replicate (2 - (lg_sl ([.ref (q 0), .int (zI p)])).length) Slot.unset).toArray = ls at hl ⊢
  have hl : lv_has ls 2 [(0, .ref (q 0)), (1, .int (zI p))] := hl
  refine lv_aload_n hx hb dX2_parentOf_0 rfl (lv_at hl 0 rfl) ?_
  refine lv_iload_n hx hb dX2_parentOf_1 rfl (lv_at hl 1 rfl) ?_
  refine zcallXV (ci := 2) (q0 := 0) (cq := (RX2, TX2, 9)) (As := [.int (zI p)]) (rest := []) ⟨hx, hb, hml, hown, hts⟩ hK (kX2_needPersonx l D hl0 cI cZ q hN pa sp al dg co da mb dd ah wl lo n td wn hn p (by omega) (by omega)) (cwV 1 hts gX2_parentOf_X2_needPerson rfl rfl rfl (by decide +kernel) ⟨Nat.le_of_ble_eq_true rfl, Nat.le_of_ble_eq_true rfl⟩) hP (hT.kept hS.2.1) hS hA rfl rfl rfl hl.1 rfl (Nat.le_of_ble_eq_true rfl) dX2_parentOf_2 ⟨Nat.le_of_ble_eq_true rfl, Nat.le_of_ble_eq_true rfl⟩ (fun ce q9 H locs hP hS _ _ hce hcv hcl => ?_)
  rw [hQ0]
  exact zoutX ht hlocks hP hS hce hcv hcl
set_option maxHeartbeats 4000000 in
set_option maxRecDepth 100000 in
theorem kX2_marriedTox1 (l : Launch) (D : va_G) (hl0 : l.stackTraces = false) (cI cZ : ClassId) (q : Nat → Nat) (hN : (zLC q).Nodup) (pa : Int → Int) (sp : Int → Int) (al : Int → Int) (dg : Int → Int) (co : Int → Int) (da : Int → Int) (mb : Int → Int) (dd : Int → Int) (ah : Int → Int) (wl : Int → Int) (lo : Int → Int) (n : Nat) (td : Int) (wn : Int) (hn : n ≤ 16) (p : Int) (h0 : -2147483648 ≤ p ∧ p ≤ 2147483647) (h1 : ¬ (0 ≤ p ∧ p < (n : Int))) : zX l yX2_marriedTo wsX2_marriedTo ({ frames := 7, cells := 1, slots := 6, locals := 111 }) D [(cI, .int), (cZ, .boolean)] [.ref (q 0), .int (zI p)] (wC cI cZ q pa sp al dg co da mb dd ah wl lo n td wn) "java/lang/IndexOutOfBoundsException" (zLC q) := by
  refine vx_ofW (cc := cX2_marriedTo) (maxL := 2) (ret := (some .int)) (by decide) rfl ?_
  intro p0 e9 s9 m9 ag9 below meth c9 s₁ B hml ht hv
  obtain ⟨hav, hP, hK, hT⟩ := hv
  have hx := B.exec
  have hb := B.bytes
  have hr := B.returns
  have hts := atoms_spec (ws := wsX2_marriedTo) B.pre
  have hown : s9.vm.findClass RX2 = some m9.cls := findClass_of_methodNamed B.named
  have hlocks := B.notSynchronized
  have hA : ∀ a ∈ zLC q, (fun a => a ∈ zLC q) a := fun _ h => h
  have hl := lv_entry ([.ref (q 0), .int (zI p)]) (n := 2) (Nat.le_of_ble_eq_true rfl)
  have hE : entryFrame m9 ag9 2 = F0 m9 0 ((lg_sl ([.ref (q 0), .int (zI p)]) ++ List.replicate (2 - (lg_sl ([.ref (q 0), .int (zI p)])).length) Slot.unset).toArray) [] := by rw [hav]; exact lg_entry_eq m9 _ _
  obtain ⟨Q0, hQ0⟩ : ∃ Q0, Q0 = vx_MQ below zNo (zXC D (wC cI cZ q pa sp al dg co da mb dd ah wl lo n td wn) "java/lang/IndexOutOfBoundsException" (zLC q)) ag9 s9 1 6 (fun a => a ∈ zLC q) := ⟨_, rfl⟩
  show W p0 l e9 ({ frames := 7, cells := 1, slots := 6, locals := 111 }) s9 m9 ag9 below meth c9 s9.heap [] 0 0 (vx_MQ below zNo (zXC D (wC cI cZ q pa sp al dg co da mb dd ah wl lo n td wn) "java/lang/IndexOutOfBoundsException" (zLC q)) ag9 s9 1 6 (fun a => a ∈ zLC q)) _
  rw [hE, ← hQ0]
  have hS : va_S (fun a => a ∈ zLC q) s9.heap s9.heap [] := va_S.rf
  generalize hH0 : s9.heap = H at hP ⊢
  have hS : va_S (fun a => a ∈ zLC q) s9.heap H [] := by rw [hH0] at hS ⊢; exact hS
  generalize (lg_sl ([.ref (q 0), .int (zI p)]) ++ List.replicate (2 - (lg_sl ([.ref (q 0), .int (zI p)])).length) Slot.unset).toArray = ls at hl ⊢
  have hl : lv_has ls 2 [(0, .ref (q 0)), (1, .int (zI p))] := hl
  refine lv_aload_n hx hb dX2_marriedTo_0 rfl (lv_at hl 0 rfl) ?_
  refine lv_iload_n hx hb dX2_marriedTo_1 rfl (lv_at hl 1 rfl) ?_
  refine zcallXV (ci := 2) (q0 := 0) (cq := (RX2, TX2, 9)) (As := [.int (zI p)]) (rest := []) ⟨hx, hb, hml, hown, hts⟩ hK (kX2_needPersonx l D hl0 cI cZ q hN pa sp al dg co da mb dd ah wl lo n td wn hn p (by omega) (by omega)) (cwV 1 hts gX2_marriedTo_X2_needPerson rfl rfl rfl (by decide +kernel) ⟨Nat.le_of_ble_eq_true rfl, Nat.le_of_ble_eq_true rfl⟩) hP (hT.kept hS.2.1) hS hA rfl rfl rfl hl.1 rfl (Nat.le_of_ble_eq_true rfl) dX2_marriedTo_2 ⟨Nat.le_of_ble_eq_true rfl, Nat.le_of_ble_eq_true rfl⟩ (fun ce q9 H locs hP hS _ _ hce hcv hcl => ?_)
  rw [hQ0]
  exact zoutX ht hlocks hP hS hce hcv hcl
set_option maxHeartbeats 4000000 in
set_option maxRecDepth 100000 in
theorem kX2_colourOfx1 (l : Launch) (D : va_G) (hl0 : l.stackTraces = false) (cI cZ : ClassId) (q : Nat → Nat) (hN : (zLC q).Nodup) (pa : Int → Int) (sp : Int → Int) (al : Int → Int) (dg : Int → Int) (co : Int → Int) (da : Int → Int) (mb : Int → Int) (dd : Int → Int) (ah : Int → Int) (wl : Int → Int) (lo : Int → Int) (n : Nat) (td : Int) (wn : Int) (hn : n ≤ 16) (p : Int) (h0 : -2147483648 ≤ p ∧ p ≤ 2147483647) (h1 : ¬ (0 ≤ p ∧ p < (n : Int))) : zX l yX2_colourOf wsX2_colourOf ({ frames := 7, cells := 1, slots := 6, locals := 111 }) D [(cI, .int), (cZ, .boolean)] [.ref (q 0), .int (zI p)] (wC cI cZ q pa sp al dg co da mb dd ah wl lo n td wn) "java/lang/IndexOutOfBoundsException" (zLC q) := by
  refine vx_ofW (cc := cX2_colourOf) (maxL := 2) (ret := (some .int)) (by decide) rfl ?_
  intro p0 e9 s9 m9 ag9 below meth c9 s₁ B hml ht hv
  obtain ⟨hav, hP, hK, hT⟩ := hv
  have hx := B.exec
  have hb := B.bytes
  have hr := B.returns
  have hts := atoms_spec (ws := wsX2_colourOf) B.pre
  have hown : s9.vm.findClass RX2 = some m9.cls := findClass_of_methodNamed B.named
  have hlocks := B.notSynchronized
  have hA : ∀ a ∈ zLC q, (fun a => a ∈ zLC q) a := fun _ h => h
  have hl := lv_entry ([.ref (q 0), .int (zI p)]) (n := 2) (Nat.le_of_ble_eq_true rfl)
  have hE : entryFrame m9 ag9 2 = F0 m9 0 ((lg_sl ([.ref (q 0), .int (zI p)]) ++ List.replicate (2 - (lg_sl ([.ref (q 0), .int (zI p)])).length) Slot.unset).toArray) [] := by rw [hav]; exact lg_entry_eq m9 _ _
  obtain ⟨Q0, hQ0⟩ : ∃ Q0, Q0 = vx_MQ below zNo (zXC D (wC cI cZ q pa sp al dg co da mb dd ah wl lo n td wn) "java/lang/IndexOutOfBoundsException" (zLC q)) ag9 s9 1 6 (fun a => a ∈ zLC q) := ⟨_, rfl⟩
  show W p0 l e9 ({ frames := 7, cells := 1, slots := 6, locals := 111 }) s9 m9 ag9 below meth c9 s9.heap [] 0 0 (vx_MQ below zNo (zXC D (wC cI cZ q pa sp al dg co da mb dd ah wl lo n td wn) "java/lang/IndexOutOfBoundsException" (zLC q)) ag9 s9 1 6 (fun a => a ∈ zLC q)) _
  rw [hE, ← hQ0]
  have hS : va_S (fun a => a ∈ zLC q) s9.heap s9.heap [] := va_S.rf
  generalize hH0 : s9.heap = H at hP ⊢
  have hS : va_S (fun a => a ∈ zLC q) s9.heap H [] := by rw [hH0] at hS ⊢; exact hS
  generalize (lg_sl ([.ref (q 0), .int (zI p)]) ++ List.replicate (2 - (lg_sl ([.ref (q 0), .int (zI p)])).length) Slot.unset).toArray = ls at hl ⊢
  have hl : lv_has ls 2 [(0, .ref (q 0)), (1, .int (zI p))] := hl
  refine lv_aload_n hx hb dX2_colourOf_0 rfl (lv_at hl 0 rfl) ?_
  refine lv_iload_n hx hb dX2_colourOf_1 rfl (lv_at hl 1 rfl) ?_
  refine zcallXV (ci := 2) (q0 := 0) (cq := (RX2, TX2, 9)) (As := [.int (zI p)]) (rest := []) ⟨hx, hb, hml, hown, hts⟩ hK (kX2_needPersonx l D hl0 cI cZ q hN pa sp al dg co da mb dd ah wl lo n td wn hn p (by omega) (by omega)) (cwV 1 hts gX2_colourOf_X2_needPerson rfl rfl rfl (by decide +kernel) ⟨Nat.le_of_ble_eq_true rfl, Nat.le_of_ble_eq_true rfl⟩) hP (hT.kept hS.2.1) hS hA rfl rfl rfl hl.1 rfl (Nat.le_of_ble_eq_true rfl) dX2_colourOf_2 ⟨Nat.le_of_ble_eq_true rfl, Nat.le_of_ble_eq_true rfl⟩ (fun ce q9 H locs hP hS _ _ hce hcv hcl => ?_)
  rw [hQ0]
  exact zoutX ht hlocks hP hS hce hcv hcl
set_option maxHeartbeats 4000000 in
set_option maxRecDepth 100000 in
theorem kX2_mourningsOfx1 (l : Launch) (D : va_G) (hl0 : l.stackTraces = false) (cI cZ : ClassId) (q : Nat → Nat) (hN : (zLC q).Nodup) (pa : Int → Int) (sp : Int → Int) (al : Int → Int) (dg : Int → Int) (co : Int → Int) (da : Int → Int) (mb : Int → Int) (dd : Int → Int) (ah : Int → Int) (wl : Int → Int) (lo : Int → Int) (n : Nat) (td : Int) (wn : Int) (hn : n ≤ 16) (p : Int) (h0 : -2147483648 ≤ p ∧ p ≤ 2147483647) (h1 : ¬ (0 ≤ p ∧ p < (n : Int))) : zX l yX2_mourningsOf wsX2_mourningsOf ({ frames := 7, cells := 1, slots := 6, locals := 111 }) D [(cI, .int), (cZ, .boolean)] [.ref (q 0), .int (zI p)] (wC cI cZ q pa sp al dg co da mb dd ah wl lo n td wn) "java/lang/IndexOutOfBoundsException" (zLC q) := by
  refine vx_ofW (cc := cX2_mourningsOf) (maxL := 2) (ret := (some .int)) (by decide) rfl ?_
  intro p0 e9 s9 m9 ag9 below meth c9 s₁ B hml ht hv
  obtain ⟨hav, hP, hK, hT⟩ := hv
  have hx := B.exec
  have hb := B.bytes
  have hr := B.returns
  have hts := atoms_spec (ws := wsX2_mourningsOf) B.pre
  have hown : s9.vm.findClass RX2 = some m9.cls := findClass_of_methodNamed B.named
  have hlocks := B.notSynchronized
  have hA : ∀ a ∈ zLC q, (fun a => a ∈ zLC q) a := fun _ h => h
  have hl := lv_entry ([.ref (q 0), .int (zI p)]) (n := 2) (Nat.le_of_ble_eq_true rfl)
  have hE : entryFrame m9 ag9 2 = F0 m9 0 ((lg_sl ([.ref (q 0), .int (zI p)]) ++ List.replicate (2 - (lg_sl ([.ref (q 0), .int (zI p)])).length) Slot.unset).toArray) [] := by rw [hav]; exact lg_entry_eq m9 _ _
  obtain ⟨Q0, hQ0⟩ : ∃ Q0, Q0 = vx_MQ below zNo (zXC D (wC cI cZ q pa sp al dg co da mb dd ah wl lo n td wn) "java/lang/IndexOutOfBoundsException" (zLC q)) ag9 s9 1 6 (fun a => a ∈ zLC q) := ⟨_, rfl⟩
  show W p0 l e9 ({ frames := 7, cells := 1, slots := 6, locals := 111 }) s9 m9 ag9 below meth c9 s9.heap [] 0 0 (vx_MQ below zNo (zXC D (wC cI cZ q pa sp al dg co da mb dd ah wl lo n td wn) "java/lang/IndexOutOfBoundsException" (zLC q)) ag9 s9 1 6 (fun a => a ∈ zLC q)) _
  rw [hE, ← hQ0]
  have hS : va_S (fun a => a ∈ zLC q) s9.heap s9.heap [] := va_S.rf
  generalize hH0 : s9.heap = H at hP ⊢
  have hS : va_S (fun a => a ∈ zLC q) s9.heap H [] := by rw [hH0] at hS ⊢; exact hS
  generalize (lg_sl ([.ref (q 0), .int (zI p)]) ++ List.replicate (2 - (lg_sl ([.ref (q 0), .int (zI p)])).length) Slot.unset).toArray = ls at hl ⊢
  have hl : lv_has ls 2 [(0, .ref (q 0)), (1, .int (zI p))] := hl
  refine lv_aload_n hx hb dX2_mourningsOf_0 rfl (lv_at hl 0 rfl) ?_
  refine lv_iload_n hx hb dX2_mourningsOf_1 rfl (lv_at hl 1 rfl) ?_
  refine zcallXV (ci := 2) (q0 := 0) (cq := (RX2, TX2, 9)) (As := [.int (zI p)]) (rest := []) ⟨hx, hb, hml, hown, hts⟩ hK (kX2_needPersonx l D hl0 cI cZ q hN pa sp al dg co da mb dd ah wl lo n td wn hn p (by omega) (by omega)) (cwV 1 hts gX2_mourningsOf_X2_needPerson rfl rfl rfl (by decide +kernel) ⟨Nat.le_of_ble_eq_true rfl, Nat.le_of_ble_eq_true rfl⟩) hP (hT.kept hS.2.1) hS hA rfl rfl rfl hl.1 rfl (Nat.le_of_ble_eq_true rfl) dX2_mourningsOf_2 ⟨Nat.le_of_ble_eq_true rfl, Nat.le_of_ble_eq_true rfl⟩ (fun ce q9 H locs hP hS _ _ hce hcv hcl => ?_)
  rw [hQ0]
  exact zoutX ht hlocks hP hS hce hcv hcl
set_option maxHeartbeats 4000000 in
set_option maxRecDepth 100000 in
theorem kX2_daysLeftx1 (l : Launch) (D : va_G) (hl0 : l.stackTraces = false) (cI cZ : ClassId) (q : Nat → Nat) (hN : (zLC q).Nodup) (pa : Int → Int) (sp : Int → Int) (al : Int → Int) (dg : Int → Int) (co : Int → Int) (da : Int → Int) (mb : Int → Int) (dd : Int → Int) (ah : Int → Int) (wl : Int → Int) (lo : Int → Int) (n : Nat) (td : Int) (wn : Int) (hn : n ≤ 16) (p : Int) (h0 : -2147483648 ≤ p ∧ p ≤ 2147483647) (h1 : ¬ (0 ≤ p ∧ p < (n : Int))) : zX l yX2_daysLeft wsX2_daysLeft ({ frames := 7, cells := 1, slots := 6, locals := 111 }) D [(cI, .int), (cZ, .boolean)] [.ref (q 0), .int (zI p)] (wC cI cZ q pa sp al dg co da mb dd ah wl lo n td wn) "java/lang/IndexOutOfBoundsException" (zLC q) := by
  refine vx_ofW (cc := cX2_daysLeft) (maxL := 2) (ret := (some .int)) (by decide) rfl ?_
  intro p0 e9 s9 m9 ag9 below meth c9 s₁ B hml ht hv
  obtain ⟨hav, hP, hK, hT⟩ := hv
  have hx := B.exec
  have hb := B.bytes
  have hr := B.returns
  have hts := atoms_spec (ws := wsX2_daysLeft) B.pre
  have hown : s9.vm.findClass RX2 = some m9.cls := findClass_of_methodNamed B.named
  have hlocks := B.notSynchronized
  have hA : ∀ a ∈ zLC q, (fun a => a ∈ zLC q) a := fun _ h => h
  have hl := lv_entry ([.ref (q 0), .int (zI p)]) (n := 2) (Nat.le_of_ble_eq_true rfl)
  have hE : entryFrame m9 ag9 2 = F0 m9 0 ((lg_sl ([.ref (q 0), .int (zI p)]) ++ List.replicate (2 - (lg_sl ([.ref (q 0), .int (zI p)])).length) Slot.unset).toArray) [] := by rw [hav]; exact lg_entry_eq m9 _ _
  obtain ⟨Q0, hQ0⟩ : ∃ Q0, Q0 = vx_MQ below zNo (zXC D (wC cI cZ q pa sp al dg co da mb dd ah wl lo n td wn) "java/lang/IndexOutOfBoundsException" (zLC q)) ag9 s9 1 6 (fun a => a ∈ zLC q) := ⟨_, rfl⟩
  show W p0 l e9 ({ frames := 7, cells := 1, slots := 6, locals := 111 }) s9 m9 ag9 below meth c9 s9.heap [] 0 0 (vx_MQ below zNo (zXC D (wC cI cZ q pa sp al dg co da mb dd ah wl lo n td wn) "java/lang/IndexOutOfBoundsException" (zLC q)) ag9 s9 1 6 (fun a => a ∈ zLC q)) _
  rw [hE, ← hQ0]
  have hS : va_S (fun a => a ∈ zLC q) s9.heap s9.heap [] := va_S.rf
  generalize hH0 : s9.heap = H at hP ⊢
  have hS : va_S (fun a => a ∈ zLC q) s9.heap H [] := by rw [hH0] at hS ⊢; exact hS
  generalize (lg_sl ([.ref (q 0), .int (zI p)]) ++ List.replicate (2 - (lg_sl ([.ref (q 0), .int (zI p)])).length) Slot.unset).toArray = ls at hl ⊢
  have hl : lv_has ls 2 [(0, .ref (q 0)), (1, .int (zI p))] := hl
  refine lv_aload_n hx hb dX2_daysLeft_0 rfl (lv_at hl 0 rfl) ?_
  refine lv_iload_n hx hb dX2_daysLeft_1 rfl (lv_at hl 1 rfl) ?_
  refine zcallXV (ci := 2) (q0 := 0) (cq := (RX2, TX2, 9)) (As := [.int (zI p)]) (rest := []) ⟨hx, hb, hml, hown, hts⟩ hK (kX2_needPersonx l D hl0 cI cZ q hN pa sp al dg co da mb dd ah wl lo n td wn hn p (by omega) (by omega)) (cwV 1 hts gX2_daysLeft_X2_needPerson rfl rfl rfl (by decide +kernel) ⟨Nat.le_of_ble_eq_true rfl, Nat.le_of_ble_eq_true rfl⟩) hP (hT.kept hS.2.1) hS hA rfl rfl rfl hl.1 rfl (Nat.le_of_ble_eq_true rfl) dX2_daysLeft_2 ⟨Nat.le_of_ble_eq_true rfl, Nat.le_of_ble_eq_true rfl⟩ (fun ce q9 H locs hP hS _ _ hce hcv hcl => ?_)
  rw [hQ0]
  exact zoutX ht hlocks hP hS hce hcv hcl
set_option maxHeartbeats 4000000 in
set_option maxRecDepth 100000 in
theorem kX2_daysUntilLighterx1 (l : Launch) (D : va_G) (hl0 : l.stackTraces = false) (cI cZ : ClassId) (q : Nat → Nat) (hN : (zLC q).Nodup) (pa : Int → Int) (sp : Int → Int) (al : Int → Int) (dg : Int → Int) (co : Int → Int) (da : Int → Int) (mb : Int → Int) (dd : Int → Int) (ah : Int → Int) (wl : Int → Int) (lo : Int → Int) (n : Nat) (td : Int) (wn : Int) (hn : n ≤ 16) (p : Int) (h0 : -2147483648 ≤ p ∧ p ≤ 2147483647) (h1 : ¬ (0 ≤ p ∧ p < (n : Int))) : zX l yX2_daysUntilLighter wsX2_daysUntilLighter ({ frames := 7, cells := 1, slots := 6, locals := 111 }) D [(cI, .int), (cZ, .boolean)] [.ref (q 0), .int (zI p)] (wC cI cZ q pa sp al dg co da mb dd ah wl lo n td wn) "java/lang/IndexOutOfBoundsException" (zLC q) := by
  refine vx_ofW (cc := cX2_daysUntilLighter) (maxL := 2) (ret := (some .int)) (by decide) rfl ?_
  intro p0 e9 s9 m9 ag9 below meth c9 s₁ B hml ht hv
  obtain ⟨hav, hP, hK, hT⟩ := hv
  have hx := B.exec
  have hb := B.bytes
  have hr := B.returns
  have hts := atoms_spec (ws := wsX2_daysUntilLighter) B.pre
  have hown : s9.vm.findClass RX2 = some m9.cls := findClass_of_methodNamed B.named
  have hlocks := B.notSynchronized
  have hA : ∀ a ∈ zLC q, (fun a => a ∈ zLC q) a := fun _ h => h
  have hl := lv_entry ([.ref (q 0), .int (zI p)]) (n := 2) (Nat.le_of_ble_eq_true rfl)
  have hE : entryFrame m9 ag9 2 = F0 m9 0 ((lg_sl ([.ref (q 0), .int (zI p)]) ++ List.replicate (2 - (lg_sl ([.ref (q 0), .int (zI p)])).length) Slot.unset).toArray) [] := by rw [hav]; exact lg_entry_eq m9 _ _
  obtain ⟨Q0, hQ0⟩ : ∃ Q0, Q0 = vx_MQ below zNo (zXC D (wC cI cZ q pa sp al dg co da mb dd ah wl lo n td wn) "java/lang/IndexOutOfBoundsException" (zLC q)) ag9 s9 1 6 (fun a => a ∈ zLC q) := ⟨_, rfl⟩
  show W p0 l e9 ({ frames := 7, cells := 1, slots := 6, locals := 111 }) s9 m9 ag9 below meth c9 s9.heap [] 0 0 (vx_MQ below zNo (zXC D (wC cI cZ q pa sp al dg co da mb dd ah wl lo n td wn) "java/lang/IndexOutOfBoundsException" (zLC q)) ag9 s9 1 6 (fun a => a ∈ zLC q)) _
  rw [hE, ← hQ0]
  have hS : va_S (fun a => a ∈ zLC q) s9.heap s9.heap [] := va_S.rf
  generalize hH0 : s9.heap = H at hP ⊢
  have hS : va_S (fun a => a ∈ zLC q) s9.heap H [] := by rw [hH0] at hS ⊢; exact hS
  generalize (lg_sl ([.ref (q 0), .int (zI p)]) ++ List.replicate (2 - (lg_sl ([.ref (q 0), .int (zI p)])).length) Slot.unset).toArray = ls at hl ⊢
  have hl : lv_has ls 2 [(0, .ref (q 0)), (1, .int (zI p))] := hl
  refine lv_aload_n hx hb dX2_daysUntilLighter_0 rfl (lv_at hl 0 rfl) ?_
  refine lv_iload_n hx hb dX2_daysUntilLighter_1 rfl (lv_at hl 1 rfl) ?_
  refine zcallXV (ci := 2) (q0 := 0) (cq := (RX2, TX2, 9)) (As := [.int (zI p)]) (rest := []) ⟨hx, hb, hml, hown, hts⟩ hK (kX2_needPersonx l D hl0 cI cZ q hN pa sp al dg co da mb dd ah wl lo n td wn hn p (by omega) (by omega)) (cwV 1 hts gX2_daysUntilLighter_X2_needPerson rfl rfl rfl (by decide +kernel) ⟨Nat.le_of_ble_eq_true rfl, Nat.le_of_ble_eq_true rfl⟩) hP (hT.kept hS.2.1) hS hA rfl rfl rfl hl.1 rfl (Nat.le_of_ble_eq_true rfl) dX2_daysUntilLighter_2 ⟨Nat.le_of_ble_eq_true rfl, Nat.le_of_ble_eq_true rfl⟩ (fun ce q9 H locs hP hS _ _ hce hcv hcl => ?_)
  rw [hQ0]
  exact zoutX ht hlocks hP hS hce hcv hcl
set_option maxHeartbeats 4000000 in
set_option maxRecDepth 100000 in
theorem kX2_degreeOfx1 (l : Launch) (D : va_G) (hl0 : l.stackTraces = false) (cI cZ : ClassId) (q : Nat → Nat) (hN : (zLC q).Nodup) (pa : Int → Int) (sp : Int → Int) (al : Int → Int) (dg : Int → Int) (co : Int → Int) (da : Int → Int) (mb : Int → Int) (dd : Int → Int) (ah : Int → Int) (wl : Int → Int) (lo : Int → Int) (n : Nat) (td : Int) (wn : Int) (hn : n ≤ 16) (a : Int) (b : Int) (h0 : -2147483648 ≤ a ∧ a ≤ 2147483647) (h1 : ¬ (0 ≤ a ∧ a < (n : Int))) : zX l yX2_degreeOf wsX2_degreeOf ({ frames := 7, cells := 1, slots := 6, locals := 111 }) D [(cI, .int), (cZ, .boolean)] [.ref (q 0), .int (zI a), .int (zI b)] (wC cI cZ q pa sp al dg co da mb dd ah wl lo n td wn) "java/lang/IndexOutOfBoundsException" (zLC q) := by
  refine vx_ofW (cc := cX2_degreeOf) (maxL := 3) (ret := (some .int)) (by decide) rfl ?_
  intro p0 e9 s9 m9 ag9 below meth c9 s₁ B hml ht hv
  obtain ⟨hav, hP, hK, hT⟩ := hv
  have hx := B.exec
  have hb := B.bytes
  have hr := B.returns
  have hts := atoms_spec (ws := wsX2_degreeOf) B.pre
  have hown : s9.vm.findClass RX2 = some m9.cls := findClass_of_methodNamed B.named
  have hlocks := B.notSynchronized
  have hA : ∀ a ∈ zLC q, (fun a => a ∈ zLC q) a := fun _ h => h
  have hl := lv_entry ([.ref (q 0), .int (zI a), .int (zI b)]) (n := 3) (Nat.le_of_ble_eq_true rfl)
  have hE : entryFrame m9 ag9 3 = F0 m9 0 ((lg_sl ([.ref (q 0), .int (zI a), .int (zI b)]) ++ List.replicate (3 - (lg_sl ([.ref (q 0), .int (zI a), .int (zI b)])).length) Slot.unset).toArray) [] := by rw [hav]; exact lg_entry_eq m9 _ _
  obtain ⟨Q0, hQ0⟩ : ∃ Q0, Q0 = vx_MQ below zNo (zXC D (wC cI cZ q pa sp al dg co da mb dd ah wl lo n td wn) "java/lang/IndexOutOfBoundsException" (zLC q)) ag9 s9 1 6 (fun a => a ∈ zLC q) := ⟨_, rfl⟩
  show W p0 l e9 ({ frames := 7, cells := 1, slots := 6, locals := 111 }) s9 m9 ag9 below meth c9 s9.heap [] 0 0 (vx_MQ below zNo (zXC D (wC cI cZ q pa sp al dg co da mb dd ah wl lo n td wn) "java/lang/IndexOutOfBoundsException" (zLC q)) ag9 s9 1 6 (fun a => a ∈ zLC q)) _
  rw [hE, ← hQ0]
  have hS : va_S (fun a => a ∈ zLC q) s9.heap s9.heap [] := va_S.rf
  generalize hH0 : s9.heap = H at hP ⊢
  have hS : va_S (fun a => a ∈ zLC q) s9.heap H [] := by rw [hH0] at hS ⊢; exact hS
  generalize (lg_sl ([.ref (q 0), .int (zI a), .int (zI b)]) ++ List.replicate (3 - (lg_sl ([.ref (q 0), .int (zI a), .int (zI b)])).length) Slot.unset).toArray = ls at hl ⊢
  have hl : lv_has ls 3 [(0, .ref (q 0)), (1, .int (zI a)), (2, .int (zI b))] := hl
  refine lv_aload_n hx hb dX2_degreeOf_0 rfl (lv_at hl 0 rfl) ?_
  refine lv_iload_n hx hb dX2_degreeOf_1 rfl (lv_at hl 1 rfl) ?_
  refine zcallXV (ci := 2) (q0 := 0) (cq := (RX2, TX2, 9)) (As := [.int (zI a)]) (rest := []) ⟨hx, hb, hml, hown, hts⟩ hK (kX2_needPersonx l D hl0 cI cZ q hN pa sp al dg co da mb dd ah wl lo n td wn hn a (by omega) (by omega)) (cwV 1 hts gX2_degreeOf_X2_needPerson rfl rfl rfl (by decide +kernel) ⟨Nat.le_of_ble_eq_true rfl, Nat.le_of_ble_eq_true rfl⟩) hP (hT.kept hS.2.1) hS hA rfl rfl rfl hl.1 rfl (Nat.le_of_ble_eq_true rfl) dX2_degreeOf_2 ⟨Nat.le_of_ble_eq_true rfl, Nat.le_of_ble_eq_true rfl⟩ (fun ce q9 H locs hP hS _ _ hce hcv hcl => ?_)
  rw [hQ0]
  exact zoutX ht hlocks hP hS hce hcv hcl
set_option maxHeartbeats 4000000 in
set_option maxRecDepth 100000 in
theorem kX2_degreeOfx2 (l : Launch) (D : va_G) (hl0 : l.stackTraces = false) (cI cZ : ClassId) (q : Nat → Nat) (hN : (zLC q).Nodup) (pa : Int → Int) (sp : Int → Int) (al : Int → Int) (dg : Int → Int) (co : Int → Int) (da : Int → Int) (mb : Int → Int) (dd : Int → Int) (ah : Int → Int) (wl : Int → Int) (lo : Int → Int) (n : Nat) (td : Int) (wn : Int) (hn : n ≤ 16) (a : Int) (b : Int) (h0 : -2147483648 ≤ b ∧ b ≤ 2147483647) (h1 : 0 ≤ a ∧ a < (n : Int)) (h2 : ¬ (0 ≤ b ∧ b < (n : Int))) : zX l yX2_degreeOf wsX2_degreeOf ({ frames := 7, cells := 1, slots := 6, locals := 111 }) D [(cI, .int), (cZ, .boolean)] [.ref (q 0), .int (zI a), .int (zI b)] (wC cI cZ q pa sp al dg co da mb dd ah wl lo n td wn) "java/lang/IndexOutOfBoundsException" (zLC q) := by
  refine vx_ofW (cc := cX2_degreeOf) (maxL := 3) (ret := (some .int)) (by decide) rfl ?_
  intro p0 e9 s9 m9 ag9 below meth c9 s₁ B hml ht hv
  obtain ⟨hav, hP, hK, hT⟩ := hv
  have hx := B.exec
  have hb := B.bytes
  have hr := B.returns
  have hts := atoms_spec (ws := wsX2_degreeOf) B.pre
  have hown : s9.vm.findClass RX2 = some m9.cls := findClass_of_methodNamed B.named
  have hlocks := B.notSynchronized
  have hA : ∀ a ∈ zLC q, (fun a => a ∈ zLC q) a := fun _ h => h
  have hl := lv_entry ([.ref (q 0), .int (zI a), .int (zI b)]) (n := 3) (Nat.le_of_ble_eq_true rfl)
  have hE : entryFrame m9 ag9 3 = F0 m9 0 ((lg_sl ([.ref (q 0), .int (zI a), .int (zI b)]) ++ List.replicate (3 - (lg_sl ([.ref (q 0), .int (zI a), .int (zI b)])).length) Slot.unset).toArray) [] := by rw [hav]; exact lg_entry_eq m9 _ _
  obtain ⟨Q0, hQ0⟩ : ∃ Q0, Q0 = vx_MQ below zNo (zXC D (wC cI cZ q pa sp al dg co da mb dd ah wl lo n td wn) "java/lang/IndexOutOfBoundsException" (zLC q)) ag9 s9 1 6 (fun a => a ∈ zLC q) := ⟨_, rfl⟩
  show W p0 l e9 ({ frames := 7, cells := 1, slots := 6, locals := 111 }) s9 m9 ag9 below meth c9 s9.heap [] 0 0 (vx_MQ below zNo (zXC D (wC cI cZ q pa sp al dg co da mb dd ah wl lo n td wn) "java/lang/IndexOutOfBoundsException" (zLC q)) ag9 s9 1 6 (fun a => a ∈ zLC q)) _
  rw [hE, ← hQ0]
  have hS : va_S (fun a => a ∈ zLC q) s9.heap s9.heap [] := va_S.rf
  generalize hH0 : s9.heap = H at hP ⊢
  have hS : va_S (fun a => a ∈ zLC q) s9.heap H [] := by rw [hH0] at hS ⊢; exact hS
  generalize (lg_sl ([.ref (q 0), .int (zI a), .int (zI b)]) ++ List.replicate (3 - (lg_sl ([.ref (q 0), .int (zI a), .int (zI b)])).length) Slot.unset).toArray = ls at hl ⊢
  have hl : lv_has ls 3 [(0, .ref (q 0)), (1, .int (zI a)), (2, .int (zI b))] := hl
  refine lv_aload_n hx hb dX2_degreeOf_0 rfl (lv_at hl 0 rfl) ?_
  refine lv_iload_n hx hb dX2_degreeOf_1 rfl (lv_at hl 1 rfl) ?_
  refine zcallV (ci := 2) (q0 := 0) (cq := (RX2, TX2, 9)) (As := [.int (zI a)]) (rest := []) ⟨hx, hb, hml, hown, hts⟩ hK (kX2_needPersonok l D cI cZ q hN pa sp al dg co da mb dd ah wl lo n td wn hn a (by omega)) (cwV 1 hts gX2_degreeOf_X2_needPerson rfl rfl rfl (by decide +kernel) ⟨Nat.le_of_ble_eq_true rfl, Nat.le_of_ble_eq_true rfl⟩) hP hS hA rfl rfl rfl hl.1 rfl (Nat.le_of_ble_eq_true rfl) dX2_degreeOf_2 ⟨Nat.zero_le _, Nat.zero_le _⟩ (fun H locs hP hS _ _ => ?_)
  refine W.eq (g2 := F0 m9 5 ls []) rfl ?_
  refine lv_aload_n hx hb dX2_degreeOf_5 rfl (lv_at hl 0 rfl) ?_
  refine lv_iload_n hx hb dX2_degreeOf_6 rfl (lv_at hl 2 rfl) ?_
  refine zcallXV (ci := 2) (q0 := 0) (cq := (RX2, TX2, 9)) (As := [.int (zI b)]) (rest := []) ⟨hx, hb, hml, hown, hts⟩ hK (kX2_needPersonx l D hl0 cI cZ q hN pa sp al dg co da mb dd ah wl lo n td wn hn b (by omega) (by omega)) (cwV 1 hts gX2_degreeOf_X2_needPerson rfl rfl rfl (by decide +kernel) ⟨Nat.le_of_ble_eq_true rfl, Nat.le_of_ble_eq_true rfl⟩) hP (hT.kept hS.2.1) hS hA rfl rfl rfl hl.1 rfl (Nat.le_of_ble_eq_true rfl) dX2_degreeOf_7 ⟨Nat.le_of_ble_eq_true rfl, Nat.le_of_ble_eq_true rfl⟩ (fun ce q9 H locs hP hS _ _ hce hcv hcl => ?_)
  rw [hQ0]
  exact zoutX ht hlocks hP hS hce hcv hcl
set_option maxHeartbeats 4000000 in
set_option maxRecDepth 100000 in
theorem kX2_daysLeftForx1 (l : Launch) (D : va_G) (hl0 : l.stackTraces = false) (cI cZ : ClassId) (q : Nat → Nat) (hN : (zLC q).Nodup) (pa : Int → Int) (sp : Int → Int) (al : Int → Int) (dg : Int → Int) (co : Int → Int) (da : Int → Int) (mb : Int → Int) (dd : Int → Int) (ah : Int → Int) (wl : Int → Int) (lo : Int → Int) (n : Nat) (td : Int) (wn : Int) (hn : n ≤ 16) (p : Int) (d : Int) (h0 : -2147483648 ≤ p ∧ p ≤ 2147483647) (h1 : ¬ (0 ≤ p ∧ p < (n : Int))) : zX l yX2_daysLeftFor wsX2_daysLeftFor ({ frames := 7, cells := 1, slots := 6, locals := 111 }) D [(cI, .int), (cZ, .boolean)] [.ref (q 0), .int (zI p), .int (zI d)] (wC cI cZ q pa sp al dg co da mb dd ah wl lo n td wn) "java/lang/IndexOutOfBoundsException" (zLC q) := by
  refine vx_ofW (cc := cX2_daysLeftFor) (maxL := 3) (ret := (some .int)) (by decide) rfl ?_
  intro p0 e9 s9 m9 ag9 below meth c9 s₁ B hml ht hv
  obtain ⟨hav, hP, hK, hT⟩ := hv
  have hx := B.exec
  have hb := B.bytes
  have hr := B.returns
  have hts := atoms_spec (ws := wsX2_daysLeftFor) B.pre
  have hown : s9.vm.findClass RX2 = some m9.cls := findClass_of_methodNamed B.named
  have hlocks := B.notSynchronized
  have hA : ∀ a ∈ zLC q, (fun a => a ∈ zLC q) a := fun _ h => h
  have hl := lv_entry ([.ref (q 0), .int (zI p), .int (zI d)]) (n := 3) (Nat.le_of_ble_eq_true rfl)
  have hE : entryFrame m9 ag9 3 = F0 m9 0 ((lg_sl ([.ref (q 0), .int (zI p), .int (zI d)]) ++ List.replicate (3 - (lg_sl ([.ref (q 0), .int (zI p), .int (zI d)])).length) Slot.unset).toArray) [] := by rw [hav]; exact lg_entry_eq m9 _ _
  obtain ⟨Q0, hQ0⟩ : ∃ Q0, Q0 = vx_MQ below zNo (zXC D (wC cI cZ q pa sp al dg co da mb dd ah wl lo n td wn) "java/lang/IndexOutOfBoundsException" (zLC q)) ag9 s9 1 6 (fun a => a ∈ zLC q) := ⟨_, rfl⟩
  show W p0 l e9 ({ frames := 7, cells := 1, slots := 6, locals := 111 }) s9 m9 ag9 below meth c9 s9.heap [] 0 0 (vx_MQ below zNo (zXC D (wC cI cZ q pa sp al dg co da mb dd ah wl lo n td wn) "java/lang/IndexOutOfBoundsException" (zLC q)) ag9 s9 1 6 (fun a => a ∈ zLC q)) _
  rw [hE, ← hQ0]
  have hS : va_S (fun a => a ∈ zLC q) s9.heap s9.heap [] := va_S.rf
  generalize hH0 : s9.heap = H at hP ⊢
  have hS : va_S (fun a => a ∈ zLC q) s9.heap H [] := by rw [hH0] at hS ⊢; exact hS
  generalize (lg_sl ([.ref (q 0), .int (zI p), .int (zI d)]) ++ List.replicate (3 - (lg_sl ([.ref (q 0), .int (zI p), .int (zI d)])).length) Slot.unset).toArray = ls at hl ⊢
  have hl : lv_has ls 3 [(0, .ref (q 0)), (1, .int (zI p)), (2, .int (zI d))] := hl
  refine lv_aload_n hx hb dX2_daysLeftFor_0 rfl (lv_at hl 0 rfl) ?_
  refine lv_iload_n hx hb dX2_daysLeftFor_1 rfl (lv_at hl 1 rfl) ?_
  refine zcallXV (ci := 2) (q0 := 0) (cq := (RX2, TX2, 9)) (As := [.int (zI p)]) (rest := []) ⟨hx, hb, hml, hown, hts⟩ hK (kX2_needPersonx l D hl0 cI cZ q hN pa sp al dg co da mb dd ah wl lo n td wn hn p (by omega) (by omega)) (cwV 1 hts gX2_daysLeftFor_X2_needPerson rfl rfl rfl (by decide +kernel) ⟨Nat.le_of_ble_eq_true rfl, Nat.le_of_ble_eq_true rfl⟩) hP (hT.kept hS.2.1) hS hA rfl rfl rfl hl.1 rfl (Nat.le_of_ble_eq_true rfl) dX2_daysLeftFor_2 ⟨Nat.le_of_ble_eq_true rfl, Nat.le_of_ble_eq_true rfl⟩ (fun ce q9 H locs hP hS _ _ hce hcv hcl => ?_)
  rw [hQ0]
  exact zoutX ht hlocks hP hS hce hcv hcl
set_option maxHeartbeats 4000000 in
set_option maxRecDepth 100000 in
theorem kX2_daysLeftForx2 (l : Launch) (D : va_G) (hl0 : l.stackTraces = false) (cI cZ : ClassId) (q : Nat → Nat) (hN : (zLC q).Nodup) (pa : Int → Int) (sp : Int → Int) (al : Int → Int) (dg : Int → Int) (co : Int → Int) (da : Int → Int) (mb : Int → Int) (dd : Int → Int) (ah : Int → Int) (wl : Int → Int) (lo : Int → Int) (n : Nat) (td : Int) (wn : Int) (hn : n ≤ 16) (p : Int) (d : Int) (h0 : -2147483648 ≤ d ∧ d ≤ 2147483647) (h1 : 0 ≤ p ∧ p < (n : Int)) (h2 : ¬ (0 ≤ d ∧ d < (n : Int))) : zX l yX2_daysLeftFor wsX2_daysLeftFor ({ frames := 7, cells := 1, slots := 6, locals := 111 }) D [(cI, .int), (cZ, .boolean)] [.ref (q 0), .int (zI p), .int (zI d)] (wC cI cZ q pa sp al dg co da mb dd ah wl lo n td wn) "java/lang/IndexOutOfBoundsException" (zLC q) := by
  refine vx_ofW (cc := cX2_daysLeftFor) (maxL := 3) (ret := (some .int)) (by decide) rfl ?_
  intro p0 e9 s9 m9 ag9 below meth c9 s₁ B hml ht hv
  obtain ⟨hav, hP, hK, hT⟩ := hv
  have hx := B.exec
  have hb := B.bytes
  have hr := B.returns
  have hts := atoms_spec (ws := wsX2_daysLeftFor) B.pre
  have hown : s9.vm.findClass RX2 = some m9.cls := findClass_of_methodNamed B.named
  have hlocks := B.notSynchronized
  have hA : ∀ a ∈ zLC q, (fun a => a ∈ zLC q) a := fun _ h => h
  have hl := lv_entry ([.ref (q 0), .int (zI p), .int (zI d)]) (n := 3) (Nat.le_of_ble_eq_true rfl)
  have hE : entryFrame m9 ag9 3 = F0 m9 0 ((lg_sl ([.ref (q 0), .int (zI p), .int (zI d)]) ++ List.replicate (3 - (lg_sl ([.ref (q 0), .int (zI p), .int (zI d)])).length) Slot.unset).toArray) [] := by rw [hav]; exact lg_entry_eq m9 _ _
  obtain ⟨Q0, hQ0⟩ : ∃ Q0, Q0 = vx_MQ below zNo (zXC D (wC cI cZ q pa sp al dg co da mb dd ah wl lo n td wn) "java/lang/IndexOutOfBoundsException" (zLC q)) ag9 s9 1 6 (fun a => a ∈ zLC q) := ⟨_, rfl⟩
  show W p0 l e9 ({ frames := 7, cells := 1, slots := 6, locals := 111 }) s9 m9 ag9 below meth c9 s9.heap [] 0 0 (vx_MQ below zNo (zXC D (wC cI cZ q pa sp al dg co da mb dd ah wl lo n td wn) "java/lang/IndexOutOfBoundsException" (zLC q)) ag9 s9 1 6 (fun a => a ∈ zLC q)) _
  rw [hE, ← hQ0]
  have hS : va_S (fun a => a ∈ zLC q) s9.heap s9.heap [] := va_S.rf
  generalize hH0 : s9.heap = H at hP ⊢
  have hS : va_S (fun a => a ∈ zLC q) s9.heap H [] := by rw [hH0] at hS ⊢; exact hS
  generalize (lg_sl ([.ref (q 0), .int (zI p), .int (zI d)]) ++ List.replicate (3 - (lg_sl ([.ref (q 0), .int (zI p), .int (zI d)])).length) Slot.unset).toArray = ls at hl ⊢
  have hl : lv_has ls 3 [(0, .ref (q 0)), (1, .int (zI p)), (2, .int (zI d))] := hl
  refine lv_aload_n hx hb dX2_daysLeftFor_0 rfl (lv_at hl 0 rfl) ?_
  refine lv_iload_n hx hb dX2_daysLeftFor_1 rfl (lv_at hl 1 rfl) ?_
  refine zcallV (ci := 2) (q0 := 0) (cq := (RX2, TX2, 9)) (As := [.int (zI p)]) (rest := []) ⟨hx, hb, hml, hown, hts⟩ hK (kX2_needPersonok l D cI cZ q hN pa sp al dg co da mb dd ah wl lo n td wn hn p (by omega)) (cwV 1 hts gX2_daysLeftFor_X2_needPerson rfl rfl rfl (by decide +kernel) ⟨Nat.le_of_ble_eq_true rfl, Nat.le_of_ble_eq_true rfl⟩) hP hS hA rfl rfl rfl hl.1 rfl (Nat.le_of_ble_eq_true rfl) dX2_daysLeftFor_2 ⟨Nat.zero_le _, Nat.zero_le _⟩ (fun H locs hP hS _ _ => ?_)
  refine W.eq (g2 := F0 m9 5 ls []) rfl ?_
  refine lv_aload_n hx hb dX2_daysLeftFor_5 rfl (lv_at hl 0 rfl) ?_
  refine lv_iload_n hx hb dX2_daysLeftFor_6 rfl (lv_at hl 2 rfl) ?_
  refine zcallXV (ci := 2) (q0 := 0) (cq := (RX2, TX2, 9)) (As := [.int (zI d)]) (rest := []) ⟨hx, hb, hml, hown, hts⟩ hK (kX2_needPersonx l D hl0 cI cZ q hN pa sp al dg co da mb dd ah wl lo n td wn hn d (by omega) (by omega)) (cwV 1 hts gX2_daysLeftFor_X2_needPerson rfl rfl rfl (by decide +kernel) ⟨Nat.le_of_ble_eq_true rfl, Nat.le_of_ble_eq_true rfl⟩) hP (hT.kept hS.2.1) hS hA rfl rfl rfl hl.1 rfl (Nat.le_of_ble_eq_true rfl) dX2_daysLeftFor_7 ⟨Nat.le_of_ble_eq_true rfl, Nat.le_of_ble_eq_true rfl⟩ (fun ce q9 H locs hP hS _ _ hce hcv hcl => ?_)
  rw [hQ0]
  exact zoutX ht hlocks hP hS hce hcv hcl
set_option maxHeartbeats 4000000 in
set_option maxRecDepth 100000 in
theorem kX2_kinOfx1 (l : Launch) (D : va_G) (hl0 : l.stackTraces = false) (cI cZ : ClassId) (q : Nat → Nat) (hN : (zLC q).Nodup) (pa : Int → Int) (sp : Int → Int) (al : Int → Int) (dg : Int → Int) (co : Int → Int) (da : Int → Int) (mb : Int → Int) (dd : Int → Int) (ah : Int → Int) (wl : Int → Int) (lo : Int → Int) (n : Nat) (td : Int) (wn : Int) (hn : n ≤ 16) (p : Int) (g : Int) (h0 : -2147483648 ≤ p ∧ p ≤ 2147483647) (h1 : ¬ (0 ≤ p ∧ p < (n : Int))) : zX l yX2_kinOf wsX2_kinOf ({ frames := 7, cells := 1, slots := 6, locals := 111 }) D [(cI, .int), (cZ, .boolean)] [.ref (q 0), .int (zI p), .int (zI g)] (wC cI cZ q pa sp al dg co da mb dd ah wl lo n td wn) "java/lang/IndexOutOfBoundsException" (zLC q) := by
  refine vx_ofW (cc := cX2_kinOf) (maxL := 3) (ret := (some .int)) (by decide) rfl ?_
  intro p0 e9 s9 m9 ag9 below meth c9 s₁ B hml ht hv
  obtain ⟨hav, hP, hK, hT⟩ := hv
  have hx := B.exec
  have hb := B.bytes
  have hr := B.returns
  have hts := atoms_spec (ws := wsX2_kinOf) B.pre
  have hown : s9.vm.findClass RX2 = some m9.cls := findClass_of_methodNamed B.named
  have hlocks := B.notSynchronized
  have hA : ∀ a ∈ zLC q, (fun a => a ∈ zLC q) a := fun _ h => h
  have hl := lv_entry ([.ref (q 0), .int (zI p), .int (zI g)]) (n := 3) (Nat.le_of_ble_eq_true rfl)
  have hE : entryFrame m9 ag9 3 = F0 m9 0 ((lg_sl ([.ref (q 0), .int (zI p), .int (zI g)]) ++ List.replicate (3 - (lg_sl ([.ref (q 0), .int (zI p), .int (zI g)])).length) Slot.unset).toArray) [] := by rw [hav]; exact lg_entry_eq m9 _ _
  obtain ⟨Q0, hQ0⟩ : ∃ Q0, Q0 = vx_MQ below zNo (zXC D (wC cI cZ q pa sp al dg co da mb dd ah wl lo n td wn) "java/lang/IndexOutOfBoundsException" (zLC q)) ag9 s9 1 6 (fun a => a ∈ zLC q) := ⟨_, rfl⟩
  show W p0 l e9 ({ frames := 7, cells := 1, slots := 6, locals := 111 }) s9 m9 ag9 below meth c9 s9.heap [] 0 0 (vx_MQ below zNo (zXC D (wC cI cZ q pa sp al dg co da mb dd ah wl lo n td wn) "java/lang/IndexOutOfBoundsException" (zLC q)) ag9 s9 1 6 (fun a => a ∈ zLC q)) _
  rw [hE, ← hQ0]
  have hS : va_S (fun a => a ∈ zLC q) s9.heap s9.heap [] := va_S.rf
  generalize hH0 : s9.heap = H at hP ⊢
  have hS : va_S (fun a => a ∈ zLC q) s9.heap H [] := by rw [hH0] at hS ⊢; exact hS
  generalize (lg_sl ([.ref (q 0), .int (zI p), .int (zI g)]) ++ List.replicate (3 - (lg_sl ([.ref (q 0), .int (zI p), .int (zI g)])).length) Slot.unset).toArray = ls at hl ⊢
  have hl : lv_has ls 3 [(0, .ref (q 0)), (1, .int (zI p)), (2, .int (zI g))] := hl
  refine lv_aload_n hx hb dX2_kinOf_0 rfl (lv_at hl 0 rfl) ?_
  refine lv_iload_n hx hb dX2_kinOf_1 rfl (lv_at hl 1 rfl) ?_
  refine zcallXV (ci := 2) (q0 := 0) (cq := (RX2, TX2, 9)) (As := [.int (zI p)]) (rest := []) ⟨hx, hb, hml, hown, hts⟩ hK (kX2_needPersonx l D hl0 cI cZ q hN pa sp al dg co da mb dd ah wl lo n td wn hn p (by omega) (by omega)) (cwV 1 hts gX2_kinOf_X2_needPerson rfl rfl rfl (by decide +kernel) ⟨Nat.le_of_ble_eq_true rfl, Nat.le_of_ble_eq_true rfl⟩) hP (hT.kept hS.2.1) hS hA rfl rfl rfl hl.1 rfl (Nat.le_of_ble_eq_true rfl) dX2_kinOf_2 ⟨Nat.le_of_ble_eq_true rfl, Nat.le_of_ble_eq_true rfl⟩ (fun ce q9 H locs hP hS _ _ hce hcv hcl => ?_)
  rw [hQ0]
  exact zoutX ht hlocks hP hS hce hcv hcl
set_option maxHeartbeats 4000000 in
set_option maxRecDepth 100000 in
theorem kX2_kinOfx2 (l : Launch) (D : va_G) (hl0 : l.stackTraces = false) (cI cZ : ClassId) (q : Nat → Nat) (hN : (zLC q).Nodup) (pa : Int → Int) (sp : Int → Int) (al : Int → Int) (dg : Int → Int) (co : Int → Int) (da : Int → Int) (mb : Int → Int) (dd : Int → Int) (ah : Int → Int) (wl : Int → Int) (lo : Int → Int) (n : Nat) (td : Int) (wn : Int) (hn : n ≤ 16) (p : Int) (g : Int) (h0 : -2147483648 ≤ g ∧ g ≤ 2147483647) (h1 : 0 ≤ p ∧ p < (n : Int)) (h2 : ¬ (1 ≤ g ∧ g ≤ 4)) : zX l yX2_kinOf wsX2_kinOf ({ frames := 7, cells := 1, slots := 6, locals := 111 }) D [(cI, .int), (cZ, .boolean)] [.ref (q 0), .int (zI p), .int (zI g)] (wC cI cZ q pa sp al dg co da mb dd ah wl lo n td wn) "java/lang/IndexOutOfBoundsException" (zLC q) := by
  refine vx_ofW (cc := cX2_kinOf) (maxL := 3) (ret := (some .int)) (by decide) rfl ?_
  intro p0 e9 s9 m9 ag9 below meth c9 s₁ B hml ht hv
  obtain ⟨hav, hP, hK, hT⟩ := hv
  have hx := B.exec
  have hb := B.bytes
  have hr := B.returns
  have hts := atoms_spec (ws := wsX2_kinOf) B.pre
  have hown : s9.vm.findClass RX2 = some m9.cls := findClass_of_methodNamed B.named
  have hlocks := B.notSynchronized
  have hA : ∀ a ∈ zLC q, (fun a => a ∈ zLC q) a := fun _ h => h
  have hl := lv_entry ([.ref (q 0), .int (zI p), .int (zI g)]) (n := 3) (Nat.le_of_ble_eq_true rfl)
  have hE : entryFrame m9 ag9 3 = F0 m9 0 ((lg_sl ([.ref (q 0), .int (zI p), .int (zI g)]) ++ List.replicate (3 - (lg_sl ([.ref (q 0), .int (zI p), .int (zI g)])).length) Slot.unset).toArray) [] := by rw [hav]; exact lg_entry_eq m9 _ _
  obtain ⟨Q0, hQ0⟩ : ∃ Q0, Q0 = vx_MQ below zNo (zXC D (wC cI cZ q pa sp al dg co da mb dd ah wl lo n td wn) "java/lang/IndexOutOfBoundsException" (zLC q)) ag9 s9 1 6 (fun a => a ∈ zLC q) := ⟨_, rfl⟩
  show W p0 l e9 ({ frames := 7, cells := 1, slots := 6, locals := 111 }) s9 m9 ag9 below meth c9 s9.heap [] 0 0 (vx_MQ below zNo (zXC D (wC cI cZ q pa sp al dg co da mb dd ah wl lo n td wn) "java/lang/IndexOutOfBoundsException" (zLC q)) ag9 s9 1 6 (fun a => a ∈ zLC q)) _
  rw [hE, ← hQ0]
  have hS : va_S (fun a => a ∈ zLC q) s9.heap s9.heap [] := va_S.rf
  generalize hH0 : s9.heap = H at hP ⊢
  have hS : va_S (fun a => a ∈ zLC q) s9.heap H [] := by rw [hH0] at hS ⊢; exact hS
  generalize (lg_sl ([.ref (q 0), .int (zI p), .int (zI g)]) ++ List.replicate (3 - (lg_sl ([.ref (q 0), .int (zI p), .int (zI g)])).length) Slot.unset).toArray = ls at hl ⊢
  have hl : lv_has ls 3 [(0, .ref (q 0)), (1, .int (zI p)), (2, .int (zI g))] := hl
  refine lv_aload_n hx hb dX2_kinOf_0 rfl (lv_at hl 0 rfl) ?_
  refine lv_iload_n hx hb dX2_kinOf_1 rfl (lv_at hl 1 rfl) ?_
  refine zcallV (ci := 2) (q0 := 0) (cq := (RX2, TX2, 9)) (As := [.int (zI p)]) (rest := []) ⟨hx, hb, hml, hown, hts⟩ hK (kX2_needPersonok l D cI cZ q hN pa sp al dg co da mb dd ah wl lo n td wn hn p (by omega)) (cwV 1 hts gX2_kinOf_X2_needPerson rfl rfl rfl (by decide +kernel) ⟨Nat.le_of_ble_eq_true rfl, Nat.le_of_ble_eq_true rfl⟩) hP hS hA rfl rfl rfl hl.1 rfl (Nat.le_of_ble_eq_true rfl) dX2_kinOf_2 ⟨Nat.zero_le _, Nat.zero_le _⟩ (fun H locs hP hS _ _ => ?_)
  refine W.eq (g2 := F0 m9 5 ls []) rfl ?_
  refine lv_aload_n hx hb dX2_kinOf_5 rfl (lv_at hl 0 rfl) ?_
  refine lv_iload_n hx hb dX2_kinOf_6 rfl (lv_at hl 2 rfl) ?_
  refine zcallXV (ci := 2) (q0 := 0) (cq := (RX2, TX2, 9)) (As := [.int (zI g)]) (rest := []) ⟨hx, hb, hml, hown, hts⟩ hK (kX2_needDegreex l D hl0 cI cZ q hN pa sp al dg co da mb dd ah wl lo n td wn g (by omega) (by omega)) (cwV 1 hts gX2_kinOf_X2_needDegree rfl rfl rfl (by decide +kernel) ⟨Nat.le_of_ble_eq_true rfl, Nat.le_of_ble_eq_true rfl⟩) hP (hT.kept hS.2.1) hS hA rfl rfl rfl hl.1 rfl (Nat.le_of_ble_eq_true rfl) dX2_kinOf_7 ⟨Nat.le_of_ble_eq_true rfl, Nat.le_of_ble_eq_true rfl⟩ (fun ce q9 H locs hP hS _ _ hce hcv hcl => ?_)
  rw [hQ0]
  exact zoutX ht hlocks hP hS hce hcv hcl
set_option maxHeartbeats 4000000 in
set_option maxRecDepth 100000 in
theorem kX2_stageColourx1 (l : Launch) (D : va_G) (hl0 : l.stackTraces = false) (cI cZ : ClassId) (q : Nat → Nat) (hN : (zLC q).Nodup) (pa : Int → Int) (sp : Int → Int) (al : Int → Int) (dg : Int → Int) (co : Int → Int) (da : Int → Int) (mb : Int → Int) (dd : Int → Int) (ah : Int → Int) (wl : Int → Int) (lo : Int → Int) (n : Nat) (td : Int) (wn : Int) (g : Int) (s : Int) (h0 : -2147483648 ≤ g ∧ g ≤ 2147483647) (h1 : ¬ (1 ≤ g ∧ g ≤ 4)) : zX l yX2_stageColour wsX2_stageColour ({ frames := 8, cells := 1, slots := 6, locals := 133 }) D [(cI, .int), (cZ, .boolean)] [.ref (q 0), .int (zI g), .int (zI s)] (wC cI cZ q pa sp al dg co da mb dd ah wl lo n td wn) "java/lang/IndexOutOfBoundsException" (zLC q) := by
  refine vx_ofW (cc := cX2_stageColour) (maxL := 3) (ret := (some .int)) (by decide) rfl ?_
  intro p0 e9 s9 m9 ag9 below meth c9 s₁ B hml ht hv
  obtain ⟨hav, hP, hK, hT⟩ := hv
  have hx := B.exec
  have hb := B.bytes
  have hr := B.returns
  have hts := atoms_spec (ws := wsX2_stageColour) B.pre
  have hown : s9.vm.findClass RX2 = some m9.cls := findClass_of_methodNamed B.named
  have hlocks := B.notSynchronized
  have hA : ∀ a ∈ zLC q, (fun a => a ∈ zLC q) a := fun _ h => h
  have hl := lv_entry ([.ref (q 0), .int (zI g), .int (zI s)]) (n := 3) (Nat.le_of_ble_eq_true rfl)
  have hE : entryFrame m9 ag9 3 = F0 m9 0 ((lg_sl ([.ref (q 0), .int (zI g), .int (zI s)]) ++ List.replicate (3 - (lg_sl ([.ref (q 0), .int (zI g), .int (zI s)])).length) Slot.unset).toArray) [] := by rw [hav]; exact lg_entry_eq m9 _ _
  obtain ⟨Q0, hQ0⟩ : ∃ Q0, Q0 = vx_MQ below zNo (zXC D (wC cI cZ q pa sp al dg co da mb dd ah wl lo n td wn) "java/lang/IndexOutOfBoundsException" (zLC q)) ag9 s9 1 6 (fun a => a ∈ zLC q) := ⟨_, rfl⟩
  show W p0 l e9 ({ frames := 8, cells := 1, slots := 6, locals := 133 }) s9 m9 ag9 below meth c9 s9.heap [] 0 0 (vx_MQ below zNo (zXC D (wC cI cZ q pa sp al dg co da mb dd ah wl lo n td wn) "java/lang/IndexOutOfBoundsException" (zLC q)) ag9 s9 1 6 (fun a => a ∈ zLC q)) _
  rw [hE, ← hQ0]
  have hS : va_S (fun a => a ∈ zLC q) s9.heap s9.heap [] := va_S.rf
  generalize hH0 : s9.heap = H at hP ⊢
  have hS : va_S (fun a => a ∈ zLC q) s9.heap H [] := by rw [hH0] at hS ⊢; exact hS
  generalize (lg_sl ([.ref (q 0), .int (zI g), .int (zI s)]) ++ List.replicate (3 - (lg_sl ([.ref (q 0), .int (zI g), .int (zI s)])).length) Slot.unset).toArray = ls at hl ⊢
  have hl : lv_has ls 3 [(0, .ref (q 0)), (1, .int (zI g)), (2, .int (zI s))] := hl
  refine lv_aload_n hx hb dX2_stageColour_0 rfl (lv_at hl 0 rfl) ?_
  refine lv_iload_n hx hb dX2_stageColour_1 rfl (lv_at hl 1 rfl) ?_
  refine lv_iload_n hx hb dX2_stageColour_2 rfl (lv_at hl 2 rfl) ?_
  refine zcallXV (ci := 2) (q0 := 0) (cq := (RX2, TX2, 9)) (As := [.int (zI g), .int (zI s)]) (rest := []) ⟨hx, hb, hml, hown, hts⟩ hK (kX2_needStagex l D hl0 cI cZ q hN pa sp al dg co da mb dd ah wl lo n td wn g s (by omega) (by omega)) (cwV 2 hts gX2_stageColour_X2_needStage rfl rfl rfl (by decide +kernel) ⟨Nat.le_of_ble_eq_true rfl, Nat.le_of_ble_eq_true rfl⟩) hP (hT.kept hS.2.1) hS hA rfl rfl rfl hl.1 rfl (Nat.le_of_ble_eq_true rfl) dX2_stageColour_3 ⟨Nat.le_of_ble_eq_true rfl, Nat.le_of_ble_eq_true rfl⟩ (fun ce q9 H locs hP hS _ _ hce hcv hcl => ?_)
  rw [hQ0]
  exact zoutX ht hlocks hP hS hce hcv hcl
set_option maxHeartbeats 4000000 in
set_option maxRecDepth 100000 in
theorem kX2_stageColourx2 (l : Launch) (D : va_G) (hl0 : l.stackTraces = false) (cI cZ : ClassId) (q : Nat → Nat) (hN : (zLC q).Nodup) (pa : Int → Int) (sp : Int → Int) (al : Int → Int) (dg : Int → Int) (co : Int → Int) (da : Int → Int) (mb : Int → Int) (dd : Int → Int) (ah : Int → Int) (wl : Int → Int) (lo : Int → Int) (n : Nat) (td : Int) (wn : Int) (g : Int) (s : Int) (h0 : -2147483648 ≤ s ∧ s ≤ 2147483647) (h1 : 1 ≤ g ∧ g ≤ 4) (h2 : ¬ (0 ≤ s ∧ s ≤ 2)) : zX l yX2_stageColour wsX2_stageColour ({ frames := 8, cells := 1, slots := 6, locals := 133 }) D [(cI, .int), (cZ, .boolean)] [.ref (q 0), .int (zI g), .int (zI s)] (wC cI cZ q pa sp al dg co da mb dd ah wl lo n td wn) "java/lang/IndexOutOfBoundsException" (zLC q) := by
  refine vx_ofW (cc := cX2_stageColour) (maxL := 3) (ret := (some .int)) (by decide) rfl ?_
  intro p0 e9 s9 m9 ag9 below meth c9 s₁ B hml ht hv
  obtain ⟨hav, hP, hK, hT⟩ := hv
  have hx := B.exec
  have hb := B.bytes
  have hr := B.returns
  have hts := atoms_spec (ws := wsX2_stageColour) B.pre
  have hown : s9.vm.findClass RX2 = some m9.cls := findClass_of_methodNamed B.named
  have hlocks := B.notSynchronized
  have hA : ∀ a ∈ zLC q, (fun a => a ∈ zLC q) a := fun _ h => h
  have hl := lv_entry ([.ref (q 0), .int (zI g), .int (zI s)]) (n := 3) (Nat.le_of_ble_eq_true rfl)
  have hE : entryFrame m9 ag9 3 = F0 m9 0 ((lg_sl ([.ref (q 0), .int (zI g), .int (zI s)]) ++ List.replicate (3 - (lg_sl ([.ref (q 0), .int (zI g), .int (zI s)])).length) Slot.unset).toArray) [] := by rw [hav]; exact lg_entry_eq m9 _ _
  obtain ⟨Q0, hQ0⟩ : ∃ Q0, Q0 = vx_MQ below zNo (zXC D (wC cI cZ q pa sp al dg co da mb dd ah wl lo n td wn) "java/lang/IndexOutOfBoundsException" (zLC q)) ag9 s9 1 6 (fun a => a ∈ zLC q) := ⟨_, rfl⟩
  show W p0 l e9 ({ frames := 8, cells := 1, slots := 6, locals := 133 }) s9 m9 ag9 below meth c9 s9.heap [] 0 0 (vx_MQ below zNo (zXC D (wC cI cZ q pa sp al dg co da mb dd ah wl lo n td wn) "java/lang/IndexOutOfBoundsException" (zLC q)) ag9 s9 1 6 (fun a => a ∈ zLC q)) _
  rw [hE, ← hQ0]
  have hS : va_S (fun a => a ∈ zLC q) s9.heap s9.heap [] := va_S.rf
  generalize hH0 : s9.heap = H at hP ⊢
  have hS : va_S (fun a => a ∈ zLC q) s9.heap H [] := by rw [hH0] at hS ⊢; exact hS
  generalize (lg_sl ([.ref (q 0), .int (zI g), .int (zI s)]) ++ List.replicate (3 - (lg_sl ([.ref (q 0), .int (zI g), .int (zI s)])).length) Slot.unset).toArray = ls at hl ⊢
  have hl : lv_has ls 3 [(0, .ref (q 0)), (1, .int (zI g)), (2, .int (zI s))] := hl
  refine lv_aload_n hx hb dX2_stageColour_0 rfl (lv_at hl 0 rfl) ?_
  refine lv_iload_n hx hb dX2_stageColour_1 rfl (lv_at hl 1 rfl) ?_
  refine lv_iload_n hx hb dX2_stageColour_2 rfl (lv_at hl 2 rfl) ?_
  refine zcallXV (ci := 2) (q0 := 0) (cq := (RX2, TX2, 9)) (As := [.int (zI g), .int (zI s)]) (rest := []) ⟨hx, hb, hml, hown, hts⟩ hK (kX2_needStagey l D hl0 cI cZ q hN pa sp al dg co da mb dd ah wl lo n td wn g s (by omega) (by omega) (by omega)) (cwV 2 hts gX2_stageColour_X2_needStage rfl rfl rfl (by decide +kernel) ⟨Nat.le_of_ble_eq_true rfl, Nat.le_of_ble_eq_true rfl⟩) hP (hT.kept hS.2.1) hS hA rfl rfl rfl hl.1 rfl (Nat.le_of_ble_eq_true rfl) dX2_stageColour_3 ⟨Nat.le_of_ble_eq_true rfl, Nat.le_of_ble_eq_true rfl⟩ (fun ce q9 H locs hP hS _ _ hce hcv hcl => ?_)
  rw [hQ0]
  exact zoutX ht hlocks hP hS hce hcv hcl
set_option maxHeartbeats 4000000 in
set_option maxRecDepth 100000 in
theorem kX2_stageDaysx1 (l : Launch) (D : va_G) (hl0 : l.stackTraces = false) (cI cZ : ClassId) (q : Nat → Nat) (hN : (zLC q).Nodup) (pa : Int → Int) (sp : Int → Int) (al : Int → Int) (dg : Int → Int) (co : Int → Int) (da : Int → Int) (mb : Int → Int) (dd : Int → Int) (ah : Int → Int) (wl : Int → Int) (lo : Int → Int) (n : Nat) (td : Int) (wn : Int) (g : Int) (s : Int) (h0 : -2147483648 ≤ g ∧ g ≤ 2147483647) (h1 : ¬ (1 ≤ g ∧ g ≤ 4)) : zX l yX2_stageDays wsX2_stageDays ({ frames := 8, cells := 1, slots := 6, locals := 133 }) D [(cI, .int), (cZ, .boolean)] [.ref (q 0), .int (zI g), .int (zI s)] (wC cI cZ q pa sp al dg co da mb dd ah wl lo n td wn) "java/lang/IndexOutOfBoundsException" (zLC q) := by
  refine vx_ofW (cc := cX2_stageDays) (maxL := 3) (ret := (some .int)) (by decide) rfl ?_
  intro p0 e9 s9 m9 ag9 below meth c9 s₁ B hml ht hv
  obtain ⟨hav, hP, hK, hT⟩ := hv
  have hx := B.exec
  have hb := B.bytes
  have hr := B.returns
  have hts := atoms_spec (ws := wsX2_stageDays) B.pre
  have hown : s9.vm.findClass RX2 = some m9.cls := findClass_of_methodNamed B.named
  have hlocks := B.notSynchronized
  have hA : ∀ a ∈ zLC q, (fun a => a ∈ zLC q) a := fun _ h => h
  have hl := lv_entry ([.ref (q 0), .int (zI g), .int (zI s)]) (n := 3) (Nat.le_of_ble_eq_true rfl)
  have hE : entryFrame m9 ag9 3 = F0 m9 0 ((lg_sl ([.ref (q 0), .int (zI g), .int (zI s)]) ++ List.replicate (3 - (lg_sl ([.ref (q 0), .int (zI g), .int (zI s)])).length) Slot.unset).toArray) [] := by rw [hav]; exact lg_entry_eq m9 _ _
  obtain ⟨Q0, hQ0⟩ : ∃ Q0, Q0 = vx_MQ below zNo (zXC D (wC cI cZ q pa sp al dg co da mb dd ah wl lo n td wn) "java/lang/IndexOutOfBoundsException" (zLC q)) ag9 s9 1 6 (fun a => a ∈ zLC q) := ⟨_, rfl⟩
  show W p0 l e9 ({ frames := 8, cells := 1, slots := 6, locals := 133 }) s9 m9 ag9 below meth c9 s9.heap [] 0 0 (vx_MQ below zNo (zXC D (wC cI cZ q pa sp al dg co da mb dd ah wl lo n td wn) "java/lang/IndexOutOfBoundsException" (zLC q)) ag9 s9 1 6 (fun a => a ∈ zLC q)) _
  rw [hE, ← hQ0]
  have hS : va_S (fun a => a ∈ zLC q) s9.heap s9.heap [] := va_S.rf
  generalize hH0 : s9.heap = H at hP ⊢
  have hS : va_S (fun a => a ∈ zLC q) s9.heap H [] := by rw [hH0] at hS ⊢; exact hS
  generalize (lg_sl ([.ref (q 0), .int (zI g), .int (zI s)]) ++ List.replicate (3 - (lg_sl ([.ref (q 0), .int (zI g), .int (zI s)])).length) Slot.unset).toArray = ls at hl ⊢
  have hl : lv_has ls 3 [(0, .ref (q 0)), (1, .int (zI g)), (2, .int (zI s))] := hl
  refine lv_aload_n hx hb dX2_stageDays_0 rfl (lv_at hl 0 rfl) ?_
  refine lv_iload_n hx hb dX2_stageDays_1 rfl (lv_at hl 1 rfl) ?_
  refine lv_iload_n hx hb dX2_stageDays_2 rfl (lv_at hl 2 rfl) ?_
  refine zcallXV (ci := 2) (q0 := 0) (cq := (RX2, TX2, 9)) (As := [.int (zI g), .int (zI s)]) (rest := []) ⟨hx, hb, hml, hown, hts⟩ hK (kX2_needStagex l D hl0 cI cZ q hN pa sp al dg co da mb dd ah wl lo n td wn g s (by omega) (by omega)) (cwV 2 hts gX2_stageDays_X2_needStage rfl rfl rfl (by decide +kernel) ⟨Nat.le_of_ble_eq_true rfl, Nat.le_of_ble_eq_true rfl⟩) hP (hT.kept hS.2.1) hS hA rfl rfl rfl hl.1 rfl (Nat.le_of_ble_eq_true rfl) dX2_stageDays_3 ⟨Nat.le_of_ble_eq_true rfl, Nat.le_of_ble_eq_true rfl⟩ (fun ce q9 H locs hP hS _ _ hce hcv hcl => ?_)
  rw [hQ0]
  exact zoutX ht hlocks hP hS hce hcv hcl
set_option maxHeartbeats 4000000 in
set_option maxRecDepth 100000 in
theorem kX2_stageDaysx2 (l : Launch) (D : va_G) (hl0 : l.stackTraces = false) (cI cZ : ClassId) (q : Nat → Nat) (hN : (zLC q).Nodup) (pa : Int → Int) (sp : Int → Int) (al : Int → Int) (dg : Int → Int) (co : Int → Int) (da : Int → Int) (mb : Int → Int) (dd : Int → Int) (ah : Int → Int) (wl : Int → Int) (lo : Int → Int) (n : Nat) (td : Int) (wn : Int) (g : Int) (s : Int) (h0 : -2147483648 ≤ s ∧ s ≤ 2147483647) (h1 : 1 ≤ g ∧ g ≤ 4) (h2 : ¬ (0 ≤ s ∧ s ≤ 2)) : zX l yX2_stageDays wsX2_stageDays ({ frames := 8, cells := 1, slots := 6, locals := 133 }) D [(cI, .int), (cZ, .boolean)] [.ref (q 0), .int (zI g), .int (zI s)] (wC cI cZ q pa sp al dg co da mb dd ah wl lo n td wn) "java/lang/IndexOutOfBoundsException" (zLC q) := by
  refine vx_ofW (cc := cX2_stageDays) (maxL := 3) (ret := (some .int)) (by decide) rfl ?_
  intro p0 e9 s9 m9 ag9 below meth c9 s₁ B hml ht hv
  obtain ⟨hav, hP, hK, hT⟩ := hv
  have hx := B.exec
  have hb := B.bytes
  have hr := B.returns
  have hts := atoms_spec (ws := wsX2_stageDays) B.pre
  have hown : s9.vm.findClass RX2 = some m9.cls := findClass_of_methodNamed B.named
  have hlocks := B.notSynchronized
  have hA : ∀ a ∈ zLC q, (fun a => a ∈ zLC q) a := fun _ h => h
  have hl := lv_entry ([.ref (q 0), .int (zI g), .int (zI s)]) (n := 3) (Nat.le_of_ble_eq_true rfl)
  have hE : entryFrame m9 ag9 3 = F0 m9 0 ((lg_sl ([.ref (q 0), .int (zI g), .int (zI s)]) ++ List.replicate (3 - (lg_sl ([.ref (q 0), .int (zI g), .int (zI s)])).length) Slot.unset).toArray) [] := by rw [hav]; exact lg_entry_eq m9 _ _
  obtain ⟨Q0, hQ0⟩ : ∃ Q0, Q0 = vx_MQ below zNo (zXC D (wC cI cZ q pa sp al dg co da mb dd ah wl lo n td wn) "java/lang/IndexOutOfBoundsException" (zLC q)) ag9 s9 1 6 (fun a => a ∈ zLC q) := ⟨_, rfl⟩
  show W p0 l e9 ({ frames := 8, cells := 1, slots := 6, locals := 133 }) s9 m9 ag9 below meth c9 s9.heap [] 0 0 (vx_MQ below zNo (zXC D (wC cI cZ q pa sp al dg co da mb dd ah wl lo n td wn) "java/lang/IndexOutOfBoundsException" (zLC q)) ag9 s9 1 6 (fun a => a ∈ zLC q)) _
  rw [hE, ← hQ0]
  have hS : va_S (fun a => a ∈ zLC q) s9.heap s9.heap [] := va_S.rf
  generalize hH0 : s9.heap = H at hP ⊢
  have hS : va_S (fun a => a ∈ zLC q) s9.heap H [] := by rw [hH0] at hS ⊢; exact hS
  generalize (lg_sl ([.ref (q 0), .int (zI g), .int (zI s)]) ++ List.replicate (3 - (lg_sl ([.ref (q 0), .int (zI g), .int (zI s)])).length) Slot.unset).toArray = ls at hl ⊢
  have hl : lv_has ls 3 [(0, .ref (q 0)), (1, .int (zI g)), (2, .int (zI s))] := hl
  refine lv_aload_n hx hb dX2_stageDays_0 rfl (lv_at hl 0 rfl) ?_
  refine lv_iload_n hx hb dX2_stageDays_1 rfl (lv_at hl 1 rfl) ?_
  refine lv_iload_n hx hb dX2_stageDays_2 rfl (lv_at hl 2 rfl) ?_
  refine zcallXV (ci := 2) (q0 := 0) (cq := (RX2, TX2, 9)) (As := [.int (zI g), .int (zI s)]) (rest := []) ⟨hx, hb, hml, hown, hts⟩ hK (kX2_needStagey l D hl0 cI cZ q hN pa sp al dg co da mb dd ah wl lo n td wn g s (by omega) (by omega) (by omega)) (cwV 2 hts gX2_stageDays_X2_needStage rfl rfl rfl (by decide +kernel) ⟨Nat.le_of_ble_eq_true rfl, Nat.le_of_ble_eq_true rfl⟩) hP (hT.kept hS.2.1) hS hA rfl rfl rfl hl.1 rfl (Nat.le_of_ble_eq_true rfl) dX2_stageDays_3 ⟨Nat.le_of_ble_eq_true rfl, Nat.le_of_ble_eq_true rfl⟩ (fun ce q9 H locs hP hS _ _ hce hcv hcl => ?_)
  rw [hQ0]
  exact zoutX ht hlocks hP hS hce hcv hcl
set_option maxHeartbeats 4000000 in
set_option maxRecDepth 100000 in
theorem kX2_colourInx1 (l : Launch) (D : va_G) (hl0 : l.stackTraces = false) (cI cZ : ClassId) (q : Nat → Nat) (hN : (zLC q).Nodup) (pa : Int → Int) (sp : Int → Int) (al : Int → Int) (dg : Int → Int) (co : Int → Int) (da : Int → Int) (mb : Int → Int) (dd : Int → Int) (ah : Int → Int) (wl : Int → Int) (lo : Int → Int) (n : Nat) (td : Int) (wn : Int) (hn : n ≤ 16) (p : Int) (k : Int) (h0 : -2147483648 ≤ p ∧ p ≤ 2147483647) (h1 : ¬ (0 ≤ p ∧ p < (n : Int))) : zX l yX2_colourIn wsX2_colourIn ({ frames := 7, cells := 1, slots := 6, locals := 111 }) D [(cI, .int), (cZ, .boolean)] [.ref (q 0), .int (zI p), .int (zI k)] (wC cI cZ q pa sp al dg co da mb dd ah wl lo n td wn) "java/lang/IndexOutOfBoundsException" (zLC q) := by
  refine vx_ofW (cc := cX2_colourIn) (maxL := 3) (ret := (some .int)) (by decide) rfl ?_
  intro p0 e9 s9 m9 ag9 below meth c9 s₁ B hml ht hv
  obtain ⟨hav, hP, hK, hT⟩ := hv
  have hx := B.exec
  have hb := B.bytes
  have hr := B.returns
  have hts := atoms_spec (ws := wsX2_colourIn) B.pre
  have hown : s9.vm.findClass RX2 = some m9.cls := findClass_of_methodNamed B.named
  have hlocks := B.notSynchronized
  have hA : ∀ a ∈ zLC q, (fun a => a ∈ zLC q) a := fun _ h => h
  have hl := lv_entry ([.ref (q 0), .int (zI p), .int (zI k)]) (n := 3) (Nat.le_of_ble_eq_true rfl)
  have hE : entryFrame m9 ag9 3 = F0 m9 0 ((lg_sl ([.ref (q 0), .int (zI p), .int (zI k)]) ++ List.replicate (3 - (lg_sl ([.ref (q 0), .int (zI p), .int (zI k)])).length) Slot.unset).toArray) [] := by rw [hav]; exact lg_entry_eq m9 _ _
  obtain ⟨Q0, hQ0⟩ : ∃ Q0, Q0 = vx_MQ below zNo (zXC D (wC cI cZ q pa sp al dg co da mb dd ah wl lo n td wn) "java/lang/IndexOutOfBoundsException" (zLC q)) ag9 s9 1 6 (fun a => a ∈ zLC q) := ⟨_, rfl⟩
  show W p0 l e9 ({ frames := 7, cells := 1, slots := 6, locals := 111 }) s9 m9 ag9 below meth c9 s9.heap [] 0 0 (vx_MQ below zNo (zXC D (wC cI cZ q pa sp al dg co da mb dd ah wl lo n td wn) "java/lang/IndexOutOfBoundsException" (zLC q)) ag9 s9 1 6 (fun a => a ∈ zLC q)) _
  rw [hE, ← hQ0]
  have hS : va_S (fun a => a ∈ zLC q) s9.heap s9.heap [] := va_S.rf
  generalize hH0 : s9.heap = H at hP ⊢
  have hS : va_S (fun a => a ∈ zLC q) s9.heap H [] := by rw [hH0] at hS ⊢; exact hS
  generalize (lg_sl ([.ref (q 0), .int (zI p), .int (zI k)]) ++ List.replicate (3 - (lg_sl ([.ref (q 0), .int (zI p), .int (zI k)])).length) Slot.unset).toArray = ls at hl ⊢
  have hl : lv_has ls 3 [(0, .ref (q 0)), (1, .int (zI p)), (2, .int (zI k))] := hl
  refine lv_aload_n hx hb dX2_colourIn_0 rfl (lv_at hl 0 rfl) ?_
  refine lv_iload_n hx hb dX2_colourIn_1 rfl (lv_at hl 1 rfl) ?_
  refine zcallXV (ci := 2) (q0 := 0) (cq := (RX2, TX2, 9)) (As := [.int (zI p)]) (rest := []) ⟨hx, hb, hml, hown, hts⟩ hK (kX2_needPersonx l D hl0 cI cZ q hN pa sp al dg co da mb dd ah wl lo n td wn hn p (by omega) (by omega)) (cwV 1 hts gX2_colourIn_X2_needPerson rfl rfl rfl (by decide +kernel) ⟨Nat.le_of_ble_eq_true rfl, Nat.le_of_ble_eq_true rfl⟩) hP (hT.kept hS.2.1) hS hA rfl rfl rfl hl.1 rfl (Nat.le_of_ble_eq_true rfl) dX2_colourIn_2 ⟨Nat.le_of_ble_eq_true rfl, Nat.le_of_ble_eq_true rfl⟩ (fun ce q9 H locs hP hS _ _ hce hcv hcl => ?_)
  rw [hQ0]
  exact zoutX ht hlocks hP hS hce hcv hcl
set_option maxHeartbeats 4000000 in
set_option maxRecDepth 100000 in
theorem kX2_colourInx2 (l : Launch) (D : va_G) (hl0 : l.stackTraces = false) (cI cZ : ClassId) (q : Nat → Nat) (hN : (zLC q).Nodup) (pa : Int → Int) (sp : Int → Int) (al : Int → Int) (dg : Int → Int) (co : Int → Int) (da : Int → Int) (mb : Int → Int) (dd : Int → Int) (ah : Int → Int) (wl : Int → Int) (lo : Int → Int) (n : Nat) (td : Int) (wn : Int) (hn : n ≤ 16) (p : Int) (k : Int) (h0 : -2147483648 ≤ k ∧ k ≤ 2147483647) (h1 : 0 ≤ p ∧ p < (n : Int)) (h2 : ¬ (0 ≤ k ∧ k ≤ 200)) : zX l yX2_colourIn wsX2_colourIn ({ frames := 7, cells := 1, slots := 6, locals := 111 }) D [(cI, .int), (cZ, .boolean)] [.ref (q 0), .int (zI p), .int (zI k)] (wC cI cZ q pa sp al dg co da mb dd ah wl lo n td wn) "java/lang/IllegalArgumentException" (zLC q) := by
  refine vx_ofW (cc := cX2_colourIn) (maxL := 3) (ret := (some .int)) (by decide) rfl ?_
  intro p0 e9 s9 m9 ag9 below meth c9 s₁ B hml ht hv
  obtain ⟨hav, hP, hK, hT⟩ := hv
  have hx := B.exec
  have hb := B.bytes
  have hr := B.returns
  have hts := atoms_spec (ws := wsX2_colourIn) B.pre
  have hown : s9.vm.findClass RX2 = some m9.cls := findClass_of_methodNamed B.named
  have hlocks := B.notSynchronized
  have hA : ∀ a ∈ zLC q, (fun a => a ∈ zLC q) a := fun _ h => h
  have hl := lv_entry ([.ref (q 0), .int (zI p), .int (zI k)]) (n := 3) (Nat.le_of_ble_eq_true rfl)
  have hE : entryFrame m9 ag9 3 = F0 m9 0 ((lg_sl ([.ref (q 0), .int (zI p), .int (zI k)]) ++ List.replicate (3 - (lg_sl ([.ref (q 0), .int (zI p), .int (zI k)])).length) Slot.unset).toArray) [] := by rw [hav]; exact lg_entry_eq m9 _ _
  obtain ⟨Q0, hQ0⟩ : ∃ Q0, Q0 = vx_MQ below zNo (zXC D (wC cI cZ q pa sp al dg co da mb dd ah wl lo n td wn) "java/lang/IllegalArgumentException" (zLC q)) ag9 s9 1 6 (fun a => a ∈ zLC q) := ⟨_, rfl⟩
  show W p0 l e9 ({ frames := 7, cells := 1, slots := 6, locals := 111 }) s9 m9 ag9 below meth c9 s9.heap [] 0 0 (vx_MQ below zNo (zXC D (wC cI cZ q pa sp al dg co da mb dd ah wl lo n td wn) "java/lang/IllegalArgumentException" (zLC q)) ag9 s9 1 6 (fun a => a ∈ zLC q)) _
  rw [hE, ← hQ0]
  have hS : va_S (fun a => a ∈ zLC q) s9.heap s9.heap [] := va_S.rf
  generalize hH0 : s9.heap = H at hP ⊢
  have hS : va_S (fun a => a ∈ zLC q) s9.heap H [] := by rw [hH0] at hS ⊢; exact hS
  generalize (lg_sl ([.ref (q 0), .int (zI p), .int (zI k)]) ++ List.replicate (3 - (lg_sl ([.ref (q 0), .int (zI p), .int (zI k)])).length) Slot.unset).toArray = ls at hl ⊢
  have hl : lv_has ls 3 [(0, .ref (q 0)), (1, .int (zI p)), (2, .int (zI k))] := hl
  refine lv_aload_n hx hb dX2_colourIn_0 rfl (lv_at hl 0 rfl) ?_
  refine lv_iload_n hx hb dX2_colourIn_1 rfl (lv_at hl 1 rfl) ?_
  refine zcallV (ci := 2) (q0 := 0) (cq := (RX2, TX2, 9)) (As := [.int (zI p)]) (rest := []) ⟨hx, hb, hml, hown, hts⟩ hK (kX2_needPersonok l D cI cZ q hN pa sp al dg co da mb dd ah wl lo n td wn hn p (by omega)) (cwV 1 hts gX2_colourIn_X2_needPerson rfl rfl rfl (by decide +kernel) ⟨Nat.le_of_ble_eq_true rfl, Nat.le_of_ble_eq_true rfl⟩) hP hS hA rfl rfl rfl hl.1 rfl (Nat.le_of_ble_eq_true rfl) dX2_colourIn_2 ⟨Nat.zero_le _, Nat.zero_le _⟩ (fun H locs hP hS _ _ => ?_)
  refine W.eq (g2 := F0 m9 5 ls []) rfl ?_
  refine lv_iload_n hx hb dX2_colourIn_5 rfl (lv_at hl 2 rfl) ?_
  refine zr_if_lt (tgt := 16) hx hb dX2_colourIn_6 (by decide) ⟨by omega, by omega⟩ (fun c_1 => ?_) (fun c_1 => ?_)
  · have c_1 := c_1
    obtain ⟨sa, hstr⟩ := hT.2.2.1 (162, "colours are told 0 to 200 days ahead") (by decide +kernel)
    rw [hQ0]
    exact zthrowN (names := ["java/lang/RuntimeException", "java/lang/Exception"]) (cls := "java/lang/IllegalArgumentException") (ic := 84) hx hb hl0 hown (by decide +kernel) (by decide +kernel) (hts (.classLink RX2 80 "java/lang/IllegalArgumentException") (by decide +kernel)) (hts (.initialized "java/lang/IllegalArgumentException") (by decide +kernel)) hstr (vx_hat (fun w h => hts w ((by decide +kernel : ∀ w ∈ (vx_atS RX2 84 "java/lang/IllegalArgumentException" ["java/lang/RuntimeException", "java/lang/Exception"]).filter goodWord, w ∈ wsX2_colourIn) w h)) (by decide +kernel : ∀ w ∈ (vx_atS RX2 84 "java/lang/IllegalArgumentException" ["java/lang/RuntimeException", "java/lang/Exception"]).filter (fun w => !goodWord w), w ∈ zBad) (hT.2.2.2.at (Vm.Alike.refl _) _)) (by decide +kernel) hP hT hS (by rw [hml, hl.1]) dX2_colourIn_16 dX2_colourIn_19 dX2_colourIn_20 dX2_colourIn_22 dX2_colourIn_25 ht (Nat.le_of_ble_eq_true rfl) (Nat.le_of_ble_eq_true rfl) (Nat.le_of_ble_eq_true rfl) (Nat.le_of_ble_eq_true rfl) hlocks
  · have c_1 := c_1
    refine lv_iload_n hx hb dX2_colourIn_9 rfl (lv_at hl 2 rfl) ?_
    refine zr_sipush hx hb dX2_colourIn_10 (by decide) ?_
    refine zr_icmp_le (tgt := 26) hx hb dX2_colourIn_13 (by decide) ⟨by omega, by omega⟩ ⟨by decide, by decide⟩ (fun c_2 => ?_) (fun c_2 => ?_)
    · have c_2 := c_2
      exfalso; omega
    · have c_2 := c_2
      obtain ⟨sa, hstr⟩ := hT.2.2.1 (162, "colours are told 0 to 200 days ahead") (by decide +kernel)
      rw [hQ0]
      exact zthrowN (names := ["java/lang/RuntimeException", "java/lang/Exception"]) (cls := "java/lang/IllegalArgumentException") (ic := 84) hx hb hl0 hown (by decide +kernel) (by decide +kernel) (hts (.classLink RX2 80 "java/lang/IllegalArgumentException") (by decide +kernel)) (hts (.initialized "java/lang/IllegalArgumentException") (by decide +kernel)) hstr (vx_hat (fun w h => hts w ((by decide +kernel : ∀ w ∈ (vx_atS RX2 84 "java/lang/IllegalArgumentException" ["java/lang/RuntimeException", "java/lang/Exception"]).filter goodWord, w ∈ wsX2_colourIn) w h)) (by decide +kernel : ∀ w ∈ (vx_atS RX2 84 "java/lang/IllegalArgumentException" ["java/lang/RuntimeException", "java/lang/Exception"]).filter (fun w => !goodWord w), w ∈ zBad) (hT.2.2.2.at (Vm.Alike.refl _) _)) (by decide +kernel) hP hT hS (by rw [hml, hl.1]) dX2_colourIn_16 dX2_colourIn_19 dX2_colourIn_20 dX2_colourIn_22 dX2_colourIn_25 ht (Nat.le_of_ble_eq_true rfl) (Nat.le_of_ble_eq_true rfl) (Nat.le_of_ble_eq_true rfl) (Nat.le_of_ble_eq_true rfl) hlocks
set_option maxHeartbeats 4000000 in
set_option maxRecDepth 100000 in
theorem kX2_daysInx1 (l : Launch) (D : va_G) (hl0 : l.stackTraces = false) (cI cZ : ClassId) (q : Nat → Nat) (hN : (zLC q).Nodup) (pa : Int → Int) (sp : Int → Int) (al : Int → Int) (dg : Int → Int) (co : Int → Int) (da : Int → Int) (mb : Int → Int) (dd : Int → Int) (ah : Int → Int) (wl : Int → Int) (lo : Int → Int) (n : Nat) (td : Int) (wn : Int) (hn : n ≤ 16) (p : Int) (c : Int) (h0 : -2147483648 ≤ p ∧ p ≤ 2147483647) (h1 : ¬ (0 ≤ p ∧ p < (n : Int))) : zX l yX2_daysIn wsX2_daysIn ({ frames := 7, cells := 1, slots := 6, locals := 111 }) D [(cI, .int), (cZ, .boolean)] [.ref (q 0), .int (zI p), .int (zI c)] (wC cI cZ q pa sp al dg co da mb dd ah wl lo n td wn) "java/lang/IndexOutOfBoundsException" (zLC q) := by
  refine vx_ofW (cc := cX2_daysIn) (maxL := 3) (ret := (some .int)) (by decide) rfl ?_
  intro p0 e9 s9 m9 ag9 below meth c9 s₁ B hml ht hv
  obtain ⟨hav, hP, hK, hT⟩ := hv
  have hx := B.exec
  have hb := B.bytes
  have hr := B.returns
  have hts := atoms_spec (ws := wsX2_daysIn) B.pre
  have hown : s9.vm.findClass RX2 = some m9.cls := findClass_of_methodNamed B.named
  have hlocks := B.notSynchronized
  have hA : ∀ a ∈ zLC q, (fun a => a ∈ zLC q) a := fun _ h => h
  have hl := lv_entry ([.ref (q 0), .int (zI p), .int (zI c)]) (n := 3) (Nat.le_of_ble_eq_true rfl)
  have hE : entryFrame m9 ag9 3 = F0 m9 0 ((lg_sl ([.ref (q 0), .int (zI p), .int (zI c)]) ++ List.replicate (3 - (lg_sl ([.ref (q 0), .int (zI p), .int (zI c)])).length) Slot.unset).toArray) [] := by rw [hav]; exact lg_entry_eq m9 _ _
  obtain ⟨Q0, hQ0⟩ : ∃ Q0, Q0 = vx_MQ below zNo (zXC D (wC cI cZ q pa sp al dg co da mb dd ah wl lo n td wn) "java/lang/IndexOutOfBoundsException" (zLC q)) ag9 s9 1 6 (fun a => a ∈ zLC q) := ⟨_, rfl⟩
  show W p0 l e9 ({ frames := 7, cells := 1, slots := 6, locals := 111 }) s9 m9 ag9 below meth c9 s9.heap [] 0 0 (vx_MQ below zNo (zXC D (wC cI cZ q pa sp al dg co da mb dd ah wl lo n td wn) "java/lang/IndexOutOfBoundsException" (zLC q)) ag9 s9 1 6 (fun a => a ∈ zLC q)) _
  rw [hE, ← hQ0]
  have hS : va_S (fun a => a ∈ zLC q) s9.heap s9.heap [] := va_S.rf
  generalize hH0 : s9.heap = H at hP ⊢
  have hS : va_S (fun a => a ∈ zLC q) s9.heap H [] := by rw [hH0] at hS ⊢; exact hS
  generalize (lg_sl ([.ref (q 0), .int (zI p), .int (zI c)]) ++ List.replicate (3 - (lg_sl ([.ref (q 0), .int (zI p), .int (zI c)])).length) Slot.unset).toArray = ls at hl ⊢
  have hl : lv_has ls 3 [(0, .ref (q 0)), (1, .int (zI p)), (2, .int (zI c))] := hl
  refine lv_aload_n hx hb dX2_daysIn_0 rfl (lv_at hl 0 rfl) ?_
  refine lv_iload_n hx hb dX2_daysIn_1 rfl (lv_at hl 1 rfl) ?_
  refine zcallXV (ci := 2) (q0 := 0) (cq := (RX2, TX2, 9)) (As := [.int (zI p)]) (rest := []) ⟨hx, hb, hml, hown, hts⟩ hK (kX2_needPersonx l D hl0 cI cZ q hN pa sp al dg co da mb dd ah wl lo n td wn hn p (by omega) (by omega)) (cwV 1 hts gX2_daysIn_X2_needPerson rfl rfl rfl (by decide +kernel) ⟨Nat.le_of_ble_eq_true rfl, Nat.le_of_ble_eq_true rfl⟩) hP (hT.kept hS.2.1) hS hA rfl rfl rfl hl.1 rfl (Nat.le_of_ble_eq_true rfl) dX2_daysIn_2 ⟨Nat.le_of_ble_eq_true rfl, Nat.le_of_ble_eq_true rfl⟩ (fun ce q9 H locs hP hS _ _ hce hcv hcl => ?_)
  rw [hQ0]
  exact zoutX ht hlocks hP hS hce hcv hcl
set_option maxHeartbeats 4000000 in
set_option maxRecDepth 100000 in
theorem kX2_daysInx2 (l : Launch) (D : va_G) (hl0 : l.stackTraces = false) (cI cZ : ClassId) (q : Nat → Nat) (hN : (zLC q).Nodup) (pa : Int → Int) (sp : Int → Int) (al : Int → Int) (dg : Int → Int) (co : Int → Int) (da : Int → Int) (mb : Int → Int) (dd : Int → Int) (ah : Int → Int) (wl : Int → Int) (lo : Int → Int) (n : Nat) (td : Int) (wn : Int) (hn : n ≤ 16) (p : Int) (c : Int) (h0 : -2147483648 ≤ c ∧ c ≤ 2147483647) (h1 : 0 ≤ p ∧ p < (n : Int)) (h2 : ¬ (1 ≤ c ∧ c ≤ 5)) : zX l yX2_daysIn wsX2_daysIn ({ frames := 7, cells := 1, slots := 6, locals := 111 }) D [(cI, .int), (cZ, .boolean)] [.ref (q 0), .int (zI p), .int (zI c)] (wC cI cZ q pa sp al dg co da mb dd ah wl lo n td wn) "java/lang/IndexOutOfBoundsException" (zLC q) := by
  refine vx_ofW (cc := cX2_daysIn) (maxL := 3) (ret := (some .int)) (by decide) rfl ?_
  intro p0 e9 s9 m9 ag9 below meth c9 s₁ B hml ht hv
  obtain ⟨hav, hP, hK, hT⟩ := hv
  have hx := B.exec
  have hb := B.bytes
  have hr := B.returns
  have hts := atoms_spec (ws := wsX2_daysIn) B.pre
  have hown : s9.vm.findClass RX2 = some m9.cls := findClass_of_methodNamed B.named
  have hlocks := B.notSynchronized
  have hA : ∀ a ∈ zLC q, (fun a => a ∈ zLC q) a := fun _ h => h
  have hl := lv_entry ([.ref (q 0), .int (zI p), .int (zI c)]) (n := 3) (Nat.le_of_ble_eq_true rfl)
  have hE : entryFrame m9 ag9 3 = F0 m9 0 ((lg_sl ([.ref (q 0), .int (zI p), .int (zI c)]) ++ List.replicate (3 - (lg_sl ([.ref (q 0), .int (zI p), .int (zI c)])).length) Slot.unset).toArray) [] := by rw [hav]; exact lg_entry_eq m9 _ _
  obtain ⟨Q0, hQ0⟩ : ∃ Q0, Q0 = vx_MQ below zNo (zXC D (wC cI cZ q pa sp al dg co da mb dd ah wl lo n td wn) "java/lang/IndexOutOfBoundsException" (zLC q)) ag9 s9 1 6 (fun a => a ∈ zLC q) := ⟨_, rfl⟩
  show W p0 l e9 ({ frames := 7, cells := 1, slots := 6, locals := 111 }) s9 m9 ag9 below meth c9 s9.heap [] 0 0 (vx_MQ below zNo (zXC D (wC cI cZ q pa sp al dg co da mb dd ah wl lo n td wn) "java/lang/IndexOutOfBoundsException" (zLC q)) ag9 s9 1 6 (fun a => a ∈ zLC q)) _
  rw [hE, ← hQ0]
  have hS : va_S (fun a => a ∈ zLC q) s9.heap s9.heap [] := va_S.rf
  generalize hH0 : s9.heap = H at hP ⊢
  have hS : va_S (fun a => a ∈ zLC q) s9.heap H [] := by rw [hH0] at hS ⊢; exact hS
  generalize (lg_sl ([.ref (q 0), .int (zI p), .int (zI c)]) ++ List.replicate (3 - (lg_sl ([.ref (q 0), .int (zI p), .int (zI c)])).length) Slot.unset).toArray = ls at hl ⊢
  have hl : lv_has ls 3 [(0, .ref (q 0)), (1, .int (zI p)), (2, .int (zI c))] := hl
  refine lv_aload_n hx hb dX2_daysIn_0 rfl (lv_at hl 0 rfl) ?_
  refine lv_iload_n hx hb dX2_daysIn_1 rfl (lv_at hl 1 rfl) ?_
  refine zcallV (ci := 2) (q0 := 0) (cq := (RX2, TX2, 9)) (As := [.int (zI p)]) (rest := []) ⟨hx, hb, hml, hown, hts⟩ hK (kX2_needPersonok l D cI cZ q hN pa sp al dg co da mb dd ah wl lo n td wn hn p (by omega)) (cwV 1 hts gX2_daysIn_X2_needPerson rfl rfl rfl (by decide +kernel) ⟨Nat.le_of_ble_eq_true rfl, Nat.le_of_ble_eq_true rfl⟩) hP hS hA rfl rfl rfl hl.1 rfl (Nat.le_of_ble_eq_true rfl) dX2_daysIn_2 ⟨Nat.zero_le _, Nat.zero_le _⟩ (fun H locs hP hS _ _ => ?_)
  refine W.eq (g2 := F0 m9 5 ls []) rfl ?_
  refine lv_iload_n hx hb dX2_daysIn_5 rfl (lv_at hl 2 rfl) ?_
  refine zr_if_le (tgt := 14) hx hb dX2_daysIn_6 (by decide) ⟨by omega, by omega⟩ (fun c_1 => ?_) (fun c_1 => ?_)
  · have c_1 := c_1
    obtain ⟨sa, hstr⟩ := hT.2.2.1 (175, "such a colour is 1 to 5") (by decide +kernel)
    rw [hQ0]
    exact zthrowN (names := ["java/lang/RuntimeException", "java/lang/Exception"]) (cls := "java/lang/IndexOutOfBoundsException") (ic := 177) hx hb hl0 hown (by decide +kernel) (by decide +kernel) (hts (.classLink RX2 173 "java/lang/IndexOutOfBoundsException") (by decide +kernel)) (hts (.initialized "java/lang/IndexOutOfBoundsException") (by decide +kernel)) hstr (vx_hat (fun w h => hts w ((by decide +kernel : ∀ w ∈ (vx_atS RX2 177 "java/lang/IndexOutOfBoundsException" ["java/lang/RuntimeException", "java/lang/Exception"]).filter goodWord, w ∈ wsX2_daysIn) w h)) (by decide +kernel : ∀ w ∈ (vx_atS RX2 177 "java/lang/IndexOutOfBoundsException" ["java/lang/RuntimeException", "java/lang/Exception"]).filter (fun w => !goodWord w), w ∈ zBad) (hT.2.2.2.at (Vm.Alike.refl _) _)) (by decide +kernel) hP hT hS (by rw [hml, hl.1]) dX2_daysIn_14 dX2_daysIn_17 dX2_daysIn_18 dX2_daysIn_20 dX2_daysIn_23 ht (Nat.le_of_ble_eq_true rfl) (Nat.le_of_ble_eq_true rfl) (Nat.le_of_ble_eq_true rfl) (Nat.le_of_ble_eq_true rfl) hlocks
  · have c_1 := c_1
    refine lv_iload_n hx hb dX2_daysIn_9 rfl (lv_at hl 2 rfl) ?_
    refine zr_iconst hx hb dX2_daysIn_10 ?_
    refine zr_icmp_le (tgt := 24) hx hb dX2_daysIn_11 (by decide) ⟨by omega, by omega⟩ ⟨by decide, by decide⟩ (fun c_2 => ?_) (fun c_2 => ?_)
    · have c_2 := c_2
      exfalso; omega
    · have c_2 := c_2
      obtain ⟨sa, hstr⟩ := hT.2.2.1 (175, "such a colour is 1 to 5") (by decide +kernel)
      rw [hQ0]
      exact zthrowN (names := ["java/lang/RuntimeException", "java/lang/Exception"]) (cls := "java/lang/IndexOutOfBoundsException") (ic := 177) hx hb hl0 hown (by decide +kernel) (by decide +kernel) (hts (.classLink RX2 173 "java/lang/IndexOutOfBoundsException") (by decide +kernel)) (hts (.initialized "java/lang/IndexOutOfBoundsException") (by decide +kernel)) hstr (vx_hat (fun w h => hts w ((by decide +kernel : ∀ w ∈ (vx_atS RX2 177 "java/lang/IndexOutOfBoundsException" ["java/lang/RuntimeException", "java/lang/Exception"]).filter goodWord, w ∈ wsX2_daysIn) w h)) (by decide +kernel : ∀ w ∈ (vx_atS RX2 177 "java/lang/IndexOutOfBoundsException" ["java/lang/RuntimeException", "java/lang/Exception"]).filter (fun w => !goodWord w), w ∈ zBad) (hT.2.2.2.at (Vm.Alike.refl _) _)) (by decide +kernel) hP hT hS (by rw [hml, hl.1]) dX2_daysIn_14 dX2_daysIn_17 dX2_daysIn_18 dX2_daysIn_20 dX2_daysIn_23 ht (Nat.le_of_ble_eq_true rfl) (Nat.le_of_ble_eq_true rfl) (Nat.le_of_ble_eq_true rfl) (Nat.le_of_ble_eq_true rfl) hlocks
set_option maxHeartbeats 4000000 in
set_option maxRecDepth 100000 in
theorem kX2_wearingx1 (l : Launch) (D : va_G) (hl0 : l.stackTraces = false) (cI cZ : ClassId) (q : Nat → Nat) (hN : (zLC q).Nodup) (pa : Int → Int) (sp : Int → Int) (al : Int → Int) (dg : Int → Int) (co : Int → Int) (da : Int → Int) (mb : Int → Int) (dd : Int → Int) (ah : Int → Int) (wl : Int → Int) (lo : Int → Int) (n : Nat) (td : Int) (wn : Int) (c : Int) (h0 : -2147483648 ≤ c ∧ c ≤ 2147483647) (h1 : ¬ (0 ≤ c ∧ c ≤ 5)) : zX l yX2_wearing wsX2_wearing ({ frames := 6, cells := 1, slots := 6, locals := 96 }) D [(cI, .int), (cZ, .boolean)] [.ref (q 0), .int (zI c)] (wC cI cZ q pa sp al dg co da mb dd ah wl lo n td wn) "java/lang/IndexOutOfBoundsException" (zLC q) := by
  refine vx_ofW (cc := cX2_wearing) (maxL := 2) (ret := (some .int)) (by decide) rfl ?_
  intro p0 e9 s9 m9 ag9 below meth c9 s₁ B hml ht hv
  obtain ⟨hav, hP, hK, hT⟩ := hv
  have hx := B.exec
  have hb := B.bytes
  have hr := B.returns
  have hts := atoms_spec (ws := wsX2_wearing) B.pre
  have hown : s9.vm.findClass RX2 = some m9.cls := findClass_of_methodNamed B.named
  have hlocks := B.notSynchronized
  have hA : ∀ a ∈ zLC q, (fun a => a ∈ zLC q) a := fun _ h => h
  have hl := lv_entry ([.ref (q 0), .int (zI c)]) (n := 2) (Nat.le_of_ble_eq_true rfl)
  have hE : entryFrame m9 ag9 2 = F0 m9 0 ((lg_sl ([.ref (q 0), .int (zI c)]) ++ List.replicate (2 - (lg_sl ([.ref (q 0), .int (zI c)])).length) Slot.unset).toArray) [] := by rw [hav]; exact lg_entry_eq m9 _ _
  obtain ⟨Q0, hQ0⟩ : ∃ Q0, Q0 = vx_MQ below zNo (zXC D (wC cI cZ q pa sp al dg co da mb dd ah wl lo n td wn) "java/lang/IndexOutOfBoundsException" (zLC q)) ag9 s9 1 6 (fun a => a ∈ zLC q) := ⟨_, rfl⟩
  show W p0 l e9 ({ frames := 6, cells := 1, slots := 6, locals := 96 }) s9 m9 ag9 below meth c9 s9.heap [] 0 0 (vx_MQ below zNo (zXC D (wC cI cZ q pa sp al dg co da mb dd ah wl lo n td wn) "java/lang/IndexOutOfBoundsException" (zLC q)) ag9 s9 1 6 (fun a => a ∈ zLC q)) _
  rw [hE, ← hQ0]
  have hS : va_S (fun a => a ∈ zLC q) s9.heap s9.heap [] := va_S.rf
  generalize hH0 : s9.heap = H at hP ⊢
  have hS : va_S (fun a => a ∈ zLC q) s9.heap H [] := by rw [hH0] at hS ⊢; exact hS
  generalize (lg_sl ([.ref (q 0), .int (zI c)]) ++ List.replicate (2 - (lg_sl ([.ref (q 0), .int (zI c)])).length) Slot.unset).toArray = ls at hl ⊢
  have hl : lv_has ls 2 [(0, .ref (q 0)), (1, .int (zI c))] := hl
  refine lv_iload_n hx hb dX2_wearing_0 rfl (lv_at hl 1 rfl) ?_
  refine zr_if_lt (tgt := 9) hx hb dX2_wearing_1 (by decide) ⟨by omega, by omega⟩ (fun c_1 => ?_) (fun c_1 => ?_)
  · have c_1 := c_1
    obtain ⟨sa, hstr⟩ := hT.2.2.1 (82, "a colour is 0 to 5") (by decide +kernel)
    rw [hQ0]
    exact zthrowN (names := ["java/lang/RuntimeException", "java/lang/Exception"]) (cls := "java/lang/IndexOutOfBoundsException") (ic := 177) hx hb hl0 hown (by decide +kernel) (by decide +kernel) (hts (.classLink RX2 173 "java/lang/IndexOutOfBoundsException") (by decide +kernel)) (hts (.initialized "java/lang/IndexOutOfBoundsException") (by decide +kernel)) hstr (vx_hat (fun w h => hts w ((by decide +kernel : ∀ w ∈ (vx_atS RX2 177 "java/lang/IndexOutOfBoundsException" ["java/lang/RuntimeException", "java/lang/Exception"]).filter goodWord, w ∈ wsX2_wearing) w h)) (by decide +kernel : ∀ w ∈ (vx_atS RX2 177 "java/lang/IndexOutOfBoundsException" ["java/lang/RuntimeException", "java/lang/Exception"]).filter (fun w => !goodWord w), w ∈ zBad) (hT.2.2.2.at (Vm.Alike.refl _) _)) (by decide +kernel) hP hT hS (by rw [hml, hl.1]) dX2_wearing_9 dX2_wearing_12 dX2_wearing_13 dX2_wearing_15 dX2_wearing_18 ht (Nat.le_of_ble_eq_true rfl) (Nat.le_of_ble_eq_true rfl) (Nat.le_of_ble_eq_true rfl) (Nat.le_of_ble_eq_true rfl) hlocks
  · have c_1 := c_1
    refine lv_iload_n hx hb dX2_wearing_4 rfl (lv_at hl 1 rfl) ?_
    refine zr_iconst hx hb dX2_wearing_5 ?_
    refine zr_icmp_le (tgt := 19) hx hb dX2_wearing_6 (by decide) ⟨by omega, by omega⟩ ⟨by decide, by decide⟩ (fun c_2 => ?_) (fun c_2 => ?_)
    · have c_2 := c_2
      refine lv_aload_n hx hb dX2_wearing_19 rfl (lv_at hl 0 rfl) ?_
      exfalso; omega
    · have c_2 := c_2
      obtain ⟨sa, hstr⟩ := hT.2.2.1 (82, "a colour is 0 to 5") (by decide +kernel)
      rw [hQ0]
      exact zthrowN (names := ["java/lang/RuntimeException", "java/lang/Exception"]) (cls := "java/lang/IndexOutOfBoundsException") (ic := 177) hx hb hl0 hown (by decide +kernel) (by decide +kernel) (hts (.classLink RX2 173 "java/lang/IndexOutOfBoundsException") (by decide +kernel)) (hts (.initialized "java/lang/IndexOutOfBoundsException") (by decide +kernel)) hstr (vx_hat (fun w h => hts w ((by decide +kernel : ∀ w ∈ (vx_atS RX2 177 "java/lang/IndexOutOfBoundsException" ["java/lang/RuntimeException", "java/lang/Exception"]).filter goodWord, w ∈ wsX2_wearing) w h)) (by decide +kernel : ∀ w ∈ (vx_atS RX2 177 "java/lang/IndexOutOfBoundsException" ["java/lang/RuntimeException", "java/lang/Exception"]).filter (fun w => !goodWord w), w ∈ zBad) (hT.2.2.2.at (Vm.Alike.refl _) _)) (by decide +kernel) hP hT hS (by rw [hml, hl.1]) dX2_wearing_9 dX2_wearing_12 dX2_wearing_13 dX2_wearing_15 dX2_wearing_18 ht (Nat.le_of_ble_eq_true rfl) (Nat.le_of_ble_eq_true rfl) (Nat.le_of_ble_eq_true rfl) (Nat.le_of_ble_eq_true rfl) hlocks
set_option maxHeartbeats 4000000 in
set_option maxRecDepth 100000 in
theorem kX2_wouldMournx1 (l : Launch) (D : va_G) (hl0 : l.stackTraces = false) (cI cZ : ClassId) (q : Nat → Nat) (hN : (zLC q).Nodup) (pa : Int → Int) (sp : Int → Int) (al : Int → Int) (dg : Int → Int) (co : Int → Int) (da : Int → Int) (mb : Int → Int) (dd : Int → Int) (ah : Int → Int) (wl : Int → Int) (lo : Int → Int) (n : Nat) (td : Int) (wn : Int) (hn : n ≤ 16) (p : Int) (h0 : -2147483648 ≤ p ∧ p ≤ 2147483647) (h1 : ¬ (0 ≤ p ∧ p < (n : Int))) : zX l yX2_wouldMourn wsX2_wouldMourn ({ frames := 7, cells := 1, slots := 6, locals := 111 }) D [(cI, .int), (cZ, .boolean)] [.ref (q 0), .int (zI p)] (wC cI cZ q pa sp al dg co da mb dd ah wl lo n td wn) "java/lang/IndexOutOfBoundsException" (zLC q) := by
  refine vx_ofW (cc := cX2_wouldMourn) (maxL := 4) (ret := (some .int)) (by decide) rfl ?_
  intro p0 e9 s9 m9 ag9 below meth c9 s₁ B hml ht hv
  obtain ⟨hav, hP, hK, hT⟩ := hv
  have hx := B.exec
  have hb := B.bytes
  have hr := B.returns
  have hts := atoms_spec (ws := wsX2_wouldMourn) B.pre
  have hown : s9.vm.findClass RX2 = some m9.cls := findClass_of_methodNamed B.named
  have hlocks := B.notSynchronized
  have hA : ∀ a ∈ zLC q, (fun a => a ∈ zLC q) a := fun _ h => h
  have hl := lv_entry ([.ref (q 0), .int (zI p)]) (n := 4) (Nat.le_of_ble_eq_true rfl)
  have hE : entryFrame m9 ag9 4 = F0 m9 0 ((lg_sl ([.ref (q 0), .int (zI p)]) ++ List.replicate (4 - (lg_sl ([.ref (q 0), .int (zI p)])).length) Slot.unset).toArray) [] := by rw [hav]; exact lg_entry_eq m9 _ _
  obtain ⟨Q0, hQ0⟩ : ∃ Q0, Q0 = vx_MQ below zNo (zXC D (wC cI cZ q pa sp al dg co da mb dd ah wl lo n td wn) "java/lang/IndexOutOfBoundsException" (zLC q)) ag9 s9 1 6 (fun a => a ∈ zLC q) := ⟨_, rfl⟩
  show W p0 l e9 ({ frames := 7, cells := 1, slots := 6, locals := 111 }) s9 m9 ag9 below meth c9 s9.heap [] 0 0 (vx_MQ below zNo (zXC D (wC cI cZ q pa sp al dg co da mb dd ah wl lo n td wn) "java/lang/IndexOutOfBoundsException" (zLC q)) ag9 s9 1 6 (fun a => a ∈ zLC q)) _
  rw [hE, ← hQ0]
  have hS : va_S (fun a => a ∈ zLC q) s9.heap s9.heap [] := va_S.rf
  generalize hH0 : s9.heap = H at hP ⊢
  have hS : va_S (fun a => a ∈ zLC q) s9.heap H [] := by rw [hH0] at hS ⊢; exact hS
  generalize (lg_sl ([.ref (q 0), .int (zI p)]) ++ List.replicate (4 - (lg_sl ([.ref (q 0), .int (zI p)])).length) Slot.unset).toArray = ls at hl ⊢
  have hl : lv_has ls 4 [(0, .ref (q 0)), (1, .int (zI p))] := hl
  refine lv_aload_n hx hb dX2_wouldMourn_0 rfl (lv_at hl 0 rfl) ?_
  refine lv_iload_n hx hb dX2_wouldMourn_1 rfl (lv_at hl 1 rfl) ?_
  refine zcallXV (ci := 2) (q0 := 0) (cq := (RX2, TX2, 9)) (As := [.int (zI p)]) (rest := []) ⟨hx, hb, hml, hown, hts⟩ hK (kX2_needPersonx l D hl0 cI cZ q hN pa sp al dg co da mb dd ah wl lo n td wn hn p (by omega) (by omega)) (cwV 1 hts gX2_wouldMourn_X2_needPerson rfl rfl rfl (by decide +kernel) ⟨Nat.le_of_ble_eq_true rfl, Nat.le_of_ble_eq_true rfl⟩) hP (hT.kept hS.2.1) hS hA rfl rfl rfl hl.1 rfl (Nat.le_of_ble_eq_true rfl) dX2_wouldMourn_2 ⟨Nat.le_of_ble_eq_true rfl, Nat.le_of_ble_eq_true rfl⟩ (fun ce q9 H locs hP hS _ _ hce hcv hcl => ?_)
  rw [hQ0]
  exact zoutX ht hlocks hP hS hce hcv hcl
set_option maxHeartbeats 4000000 in
set_option maxRecDepth 100000 in
theorem kX2_wouldMournx2 (l : Launch) (D : va_G) (hl0 : l.stackTraces = false) (cI cZ : ClassId) (q : Nat → Nat) (hN : (zLC q).Nodup) (pa : Int → Int) (sp : Int → Int) (al : Int → Int) (dg : Int → Int) (co : Int → Int) (da : Int → Int) (mb : Int → Int) (dd : Int → Int) (ah : Int → Int) (wl : Int → Int) (lo : Int → Int) (n : Nat) (td : Int) (wn : Int) (hn : n ≤ 16) (hal : ∀ j : Int, 0 ≤ al j ∧ al j ≤ 1) (p : Int) (h1 : 0 ≤ p ∧ p < (n : Int)) (h2 : al p = 0) : zX l yX2_wouldMourn wsX2_wouldMourn ({ frames := 7, cells := 1, slots := 6, locals := 111 }) D [(cI, .int), (cZ, .boolean)] [.ref (q 0), .int (zI p)] (wC cI cZ q pa sp al dg co da mb dd ah wl lo n td wn) "java/lang/IllegalStateException" (zLC q) := by
  refine vx_ofW (cc := cX2_wouldMourn) (maxL := 4) (ret := (some .int)) (by decide) rfl ?_
  intro p0 e9 s9 m9 ag9 below meth c9 s₁ B hml ht hv
  obtain ⟨hav, hP, hK, hT⟩ := hv
  have hx := B.exec
  have hb := B.bytes
  have hr := B.returns
  have hts := atoms_spec (ws := wsX2_wouldMourn) B.pre
  have hown : s9.vm.findClass RX2 = some m9.cls := findClass_of_methodNamed B.named
  have hlocks := B.notSynchronized
  have hA : ∀ a ∈ zLC q, (fun a => a ∈ zLC q) a := fun _ h => h
  have hl := lv_entry ([.ref (q 0), .int (zI p)]) (n := 4) (Nat.le_of_ble_eq_true rfl)
  have hE : entryFrame m9 ag9 4 = F0 m9 0 ((lg_sl ([.ref (q 0), .int (zI p)]) ++ List.replicate (4 - (lg_sl ([.ref (q 0), .int (zI p)])).length) Slot.unset).toArray) [] := by rw [hav]; exact lg_entry_eq m9 _ _
  obtain ⟨Q0, hQ0⟩ : ∃ Q0, Q0 = vx_MQ below zNo (zXC D (wC cI cZ q pa sp al dg co da mb dd ah wl lo n td wn) "java/lang/IllegalStateException" (zLC q)) ag9 s9 1 6 (fun a => a ∈ zLC q) := ⟨_, rfl⟩
  show W p0 l e9 ({ frames := 7, cells := 1, slots := 6, locals := 111 }) s9 m9 ag9 below meth c9 s9.heap [] 0 0 (vx_MQ below zNo (zXC D (wC cI cZ q pa sp al dg co da mb dd ah wl lo n td wn) "java/lang/IllegalStateException" (zLC q)) ag9 s9 1 6 (fun a => a ∈ zLC q)) _
  rw [hE, ← hQ0]
  have hS : va_S (fun a => a ∈ zLC q) s9.heap s9.heap [] := va_S.rf
  generalize hH0 : s9.heap = H at hP ⊢
  have hS : va_S (fun a => a ∈ zLC q) s9.heap H [] := by rw [hH0] at hS ⊢; exact hS
  generalize (lg_sl ([.ref (q 0), .int (zI p)]) ++ List.replicate (4 - (lg_sl ([.ref (q 0), .int (zI p)])).length) Slot.unset).toArray = ls at hl ⊢
  have hl : lv_has ls 4 [(0, .ref (q 0)), (1, .int (zI p))] := hl
  refine lv_aload_n hx hb dX2_wouldMourn_0 rfl (lv_at hl 0 rfl) ?_
  refine lv_iload_n hx hb dX2_wouldMourn_1 rfl (lv_at hl 1 rfl) ?_
  refine zcallV (ci := 2) (q0 := 0) (cq := (RX2, TX2, 9)) (As := [.int (zI p)]) (rest := []) ⟨hx, hb, hml, hown, hts⟩ hK (kX2_needPersonok l D cI cZ q hN pa sp al dg co da mb dd ah wl lo n td wn hn p (by omega)) (cwV 1 hts gX2_wouldMourn_X2_needPerson rfl rfl rfl (by decide +kernel) ⟨Nat.le_of_ble_eq_true rfl, Nat.le_of_ble_eq_true rfl⟩) hP hS hA rfl rfl rfl hl.1 rfl (Nat.le_of_ble_eq_true rfl) dX2_wouldMourn_2 ⟨Nat.zero_le _, Nat.zero_le _⟩ (fun H locs hP hS _ _ => ?_)
  refine W.eq (g2 := F0 m9 5 ls []) rfl ?_
  refine lv_aload_n hx hb dX2_wouldMourn_5 rfl (lv_at hl 0 rfl) ?_
  refine lv_iload_n hx hb dX2_wouldMourn_6 rfl (lv_at hl 1 rfl) ?_
  refine zcallXV (ci := 2) (q0 := 0) (cq := (RX2, TX2, 9)) (As := [.int (zI p)]) (rest := []) ⟨hx, hb, hml, hown, hts⟩ hK (kX2_needAlivex l D hl0 cI cZ q hN pa sp al dg co da mb dd ah wl lo n td wn hal p (by omega) (by omega)) (cwV 1 hts gX2_wouldMourn_X2_needAlive rfl rfl rfl (by decide +kernel) ⟨Nat.le_of_ble_eq_true rfl, Nat.le_of_ble_eq_true rfl⟩) hP (hT.kept hS.2.1) hS hA rfl rfl rfl hl.1 rfl (Nat.le_of_ble_eq_true rfl) dX2_wouldMourn_7 ⟨Nat.le_of_ble_eq_true rfl, Nat.le_of_ble_eq_true rfl⟩ (fun ce q9 H locs hP hS _ _ hce hcv hcl => ?_)
  rw [hQ0]
  exact zoutX ht hlocks hP hS hce hcv hcl
set_option maxHeartbeats 4000000 in
set_option maxRecDepth 100000 in
theorem kX2_wouldWearx1 (l : Launch) (D : va_G) (hl0 : l.stackTraces = false) (cI cZ : ClassId) (q : Nat → Nat) (hN : (zLC q).Nodup) (pa : Int → Int) (sp : Int → Int) (al : Int → Int) (dg : Int → Int) (co : Int → Int) (da : Int → Int) (mb : Int → Int) (dd : Int → Int) (ah : Int → Int) (wl : Int → Int) (lo : Int → Int) (n : Nat) (td : Int) (wn : Int) (hn : n ≤ 16) (p : Int) (d : Int) (h0 : -2147483648 ≤ p ∧ p ≤ 2147483647) (h1 : ¬ (0 ≤ p ∧ p < (n : Int))) : zX l yX2_wouldWear wsX2_wouldWear ({ frames := 7, cells := 1, slots := 6, locals := 112 }) D [(cI, .int), (cZ, .boolean)] [.ref (q 0), .int (zI p), .int (zI d)] (wC cI cZ q pa sp al dg co da mb dd ah wl lo n td wn) "java/lang/IndexOutOfBoundsException" (zLC q) := by
  refine vx_ofW (cc := cX2_wouldWear) (maxL := 4) (ret := (some .int)) (by decide) rfl ?_
  intro p0 e9 s9 m9 ag9 below meth c9 s₁ B hml ht hv
  obtain ⟨hav, hP, hK, hT⟩ := hv
  have hx := B.exec
  have hb := B.bytes
  have hr := B.returns
  have hts := atoms_spec (ws := wsX2_wouldWear) B.pre
  have hown : s9.vm.findClass RX2 = some m9.cls := findClass_of_methodNamed B.named
  have hlocks := B.notSynchronized
  have hA : ∀ a ∈ zLC q, (fun a => a ∈ zLC q) a := fun _ h => h
  have hl := lv_entry ([.ref (q 0), .int (zI p), .int (zI d)]) (n := 4) (Nat.le_of_ble_eq_true rfl)
  have hE : entryFrame m9 ag9 4 = F0 m9 0 ((lg_sl ([.ref (q 0), .int (zI p), .int (zI d)]) ++ List.replicate (4 - (lg_sl ([.ref (q 0), .int (zI p), .int (zI d)])).length) Slot.unset).toArray) [] := by rw [hav]; exact lg_entry_eq m9 _ _
  obtain ⟨Q0, hQ0⟩ : ∃ Q0, Q0 = vx_MQ below zNo (zXC D (wC cI cZ q pa sp al dg co da mb dd ah wl lo n td wn) "java/lang/IndexOutOfBoundsException" (zLC q)) ag9 s9 1 6 (fun a => a ∈ zLC q) := ⟨_, rfl⟩
  show W p0 l e9 ({ frames := 7, cells := 1, slots := 6, locals := 112 }) s9 m9 ag9 below meth c9 s9.heap [] 0 0 (vx_MQ below zNo (zXC D (wC cI cZ q pa sp al dg co da mb dd ah wl lo n td wn) "java/lang/IndexOutOfBoundsException" (zLC q)) ag9 s9 1 6 (fun a => a ∈ zLC q)) _
  rw [hE, ← hQ0]
  have hS : va_S (fun a => a ∈ zLC q) s9.heap s9.heap [] := va_S.rf
  generalize hH0 : s9.heap = H at hP ⊢
  have hS : va_S (fun a => a ∈ zLC q) s9.heap H [] := by rw [hH0] at hS ⊢; exact hS
  generalize (lg_sl ([.ref (q 0), .int (zI p), .int (zI d)]) ++ List.replicate (4 - (lg_sl ([.ref (q 0), .int (zI p), .int (zI d)])).length) Slot.unset).toArray = ls at hl ⊢
  have hl : lv_has ls 4 [(0, .ref (q 0)), (1, .int (zI p)), (2, .int (zI d))] := hl
  refine lv_aload_n hx hb dX2_wouldWear_0 rfl (lv_at hl 0 rfl) ?_
  refine lv_iload_n hx hb dX2_wouldWear_1 rfl (lv_at hl 1 rfl) ?_
  refine zcallXV (ci := 2) (q0 := 0) (cq := (RX2, TX2, 9)) (As := [.int (zI p)]) (rest := []) ⟨hx, hb, hml, hown, hts⟩ hK (kX2_needPersonx l D hl0 cI cZ q hN pa sp al dg co da mb dd ah wl lo n td wn hn p (by omega) (by omega)) (cwV 1 hts gX2_wouldWear_X2_needPerson rfl rfl rfl (by decide +kernel) ⟨Nat.le_of_ble_eq_true rfl, Nat.le_of_ble_eq_true rfl⟩) hP (hT.kept hS.2.1) hS hA rfl rfl rfl hl.1 rfl (Nat.le_of_ble_eq_true rfl) dX2_wouldWear_2 ⟨Nat.le_of_ble_eq_true rfl, Nat.le_of_ble_eq_true rfl⟩ (fun ce q9 H locs hP hS _ _ hce hcv hcl => ?_)
  rw [hQ0]
  exact zoutX ht hlocks hP hS hce hcv hcl
set_option maxHeartbeats 4000000 in
set_option maxRecDepth 100000 in
theorem kX2_wouldWearx2 (l : Launch) (D : va_G) (hl0 : l.stackTraces = false) (cI cZ : ClassId) (q : Nat → Nat) (hN : (zLC q).Nodup) (pa : Int → Int) (sp : Int → Int) (al : Int → Int) (dg : Int → Int) (co : Int → Int) (da : Int → Int) (mb : Int → Int) (dd : Int → Int) (ah : Int → Int) (wl : Int → Int) (lo : Int → Int) (n : Nat) (td : Int) (wn : Int) (hn : n ≤ 16) (p : Int) (d : Int) (h0 : -2147483648 ≤ d ∧ d ≤ 2147483647) (h1 : 0 ≤ p ∧ p < (n : Int)) (h2 : ¬ (0 ≤ d ∧ d < (n : Int))) : zX l yX2_wouldWear wsX2_wouldWear ({ frames := 7, cells := 1, slots := 6, locals := 112 }) D [(cI, .int), (cZ, .boolean)] [.ref (q 0), .int (zI p), .int (zI d)] (wC cI cZ q pa sp al dg co da mb dd ah wl lo n td wn) "java/lang/IndexOutOfBoundsException" (zLC q) := by
  refine vx_ofW (cc := cX2_wouldWear) (maxL := 4) (ret := (some .int)) (by decide) rfl ?_
  intro p0 e9 s9 m9 ag9 below meth c9 s₁ B hml ht hv
  obtain ⟨hav, hP, hK, hT⟩ := hv
  have hx := B.exec
  have hb := B.bytes
  have hr := B.returns
  have hts := atoms_spec (ws := wsX2_wouldWear) B.pre
  have hown : s9.vm.findClass RX2 = some m9.cls := findClass_of_methodNamed B.named
  have hlocks := B.notSynchronized
  have hA : ∀ a ∈ zLC q, (fun a => a ∈ zLC q) a := fun _ h => h
  have hl := lv_entry ([.ref (q 0), .int (zI p), .int (zI d)]) (n := 4) (Nat.le_of_ble_eq_true rfl)
  have hE : entryFrame m9 ag9 4 = F0 m9 0 ((lg_sl ([.ref (q 0), .int (zI p), .int (zI d)]) ++ List.replicate (4 - (lg_sl ([.ref (q 0), .int (zI p), .int (zI d)])).length) Slot.unset).toArray) [] := by rw [hav]; exact lg_entry_eq m9 _ _
  obtain ⟨Q0, hQ0⟩ : ∃ Q0, Q0 = vx_MQ below zNo (zXC D (wC cI cZ q pa sp al dg co da mb dd ah wl lo n td wn) "java/lang/IndexOutOfBoundsException" (zLC q)) ag9 s9 1 6 (fun a => a ∈ zLC q) := ⟨_, rfl⟩
  show W p0 l e9 ({ frames := 7, cells := 1, slots := 6, locals := 112 }) s9 m9 ag9 below meth c9 s9.heap [] 0 0 (vx_MQ below zNo (zXC D (wC cI cZ q pa sp al dg co da mb dd ah wl lo n td wn) "java/lang/IndexOutOfBoundsException" (zLC q)) ag9 s9 1 6 (fun a => a ∈ zLC q)) _
  rw [hE, ← hQ0]
  have hS : va_S (fun a => a ∈ zLC q) s9.heap s9.heap [] := va_S.rf
  generalize hH0 : s9.heap = H at hP ⊢
  have hS : va_S (fun a => a ∈ zLC q) s9.heap H [] := by rw [hH0] at hS ⊢; exact hS
  generalize (lg_sl ([.ref (q 0), .int (zI p), .int (zI d)]) ++ List.replicate (4 - (lg_sl ([.ref (q 0), .int (zI p), .int (zI d)])).length) Slot.unset).toArray = ls at hl ⊢
  have hl : lv_has ls 4 [(0, .ref (q 0)), (1, .int (zI p)), (2, .int (zI d))] := hl
  refine lv_aload_n hx hb dX2_wouldWear_0 rfl (lv_at hl 0 rfl) ?_
  refine lv_iload_n hx hb dX2_wouldWear_1 rfl (lv_at hl 1 rfl) ?_
  refine zcallV (ci := 2) (q0 := 0) (cq := (RX2, TX2, 9)) (As := [.int (zI p)]) (rest := []) ⟨hx, hb, hml, hown, hts⟩ hK (kX2_needPersonok l D cI cZ q hN pa sp al dg co da mb dd ah wl lo n td wn hn p (by omega)) (cwV 1 hts gX2_wouldWear_X2_needPerson rfl rfl rfl (by decide +kernel) ⟨Nat.le_of_ble_eq_true rfl, Nat.le_of_ble_eq_true rfl⟩) hP hS hA rfl rfl rfl hl.1 rfl (Nat.le_of_ble_eq_true rfl) dX2_wouldWear_2 ⟨Nat.zero_le _, Nat.zero_le _⟩ (fun H locs hP hS _ _ => ?_)
  refine W.eq (g2 := F0 m9 5 ls []) rfl ?_
  refine lv_aload_n hx hb dX2_wouldWear_5 rfl (lv_at hl 0 rfl) ?_
  refine lv_iload_n hx hb dX2_wouldWear_6 rfl (lv_at hl 2 rfl) ?_
  refine zcallXV (ci := 2) (q0 := 0) (cq := (RX2, TX2, 9)) (As := [.int (zI d)]) (rest := []) ⟨hx, hb, hml, hown, hts⟩ hK (kX2_needPersonx l D hl0 cI cZ q hN pa sp al dg co da mb dd ah wl lo n td wn hn d (by omega) (by omega)) (cwV 1 hts gX2_wouldWear_X2_needPerson rfl rfl rfl (by decide +kernel) ⟨Nat.le_of_ble_eq_true rfl, Nat.le_of_ble_eq_true rfl⟩) hP (hT.kept hS.2.1) hS hA rfl rfl rfl hl.1 rfl (Nat.le_of_ble_eq_true rfl) dX2_wouldWear_7 ⟨Nat.le_of_ble_eq_true rfl, Nat.le_of_ble_eq_true rfl⟩ (fun ce q9 H locs hP hS _ _ hce hcv hcl => ?_)
  rw [hQ0]
  exact zoutX ht hlocks hP hS hce hcv hcl
set_option maxHeartbeats 4000000 in
set_option maxRecDepth 100000 in
theorem kX2_wouldWearx3 (l : Launch) (D : va_G) (hl0 : l.stackTraces = false) (cI cZ : ClassId) (q : Nat → Nat) (hN : (zLC q).Nodup) (pa : Int → Int) (sp : Int → Int) (al : Int → Int) (dg : Int → Int) (co : Int → Int) (da : Int → Int) (mb : Int → Int) (dd : Int → Int) (ah : Int → Int) (wl : Int → Int) (lo : Int → Int) (n : Nat) (td : Int) (wn : Int) (hn : n ≤ 16) (p : Int) (d : Int) (h1 : 0 ≤ p ∧ p < (n : Int)) (h2 : 0 ≤ d ∧ d < (n : Int)) (h3 : p = d) : zX l yX2_wouldWear wsX2_wouldWear ({ frames := 7, cells := 1, slots := 6, locals := 112 }) D [(cI, .int), (cZ, .boolean)] [.ref (q 0), .int (zI p), .int (zI d)] (wC cI cZ q pa sp al dg co da mb dd ah wl lo n td wn) "java/lang/IllegalArgumentException" (zLC q) := by
  refine vx_ofW (cc := cX2_wouldWear) (maxL := 4) (ret := (some .int)) (by decide) rfl ?_
  intro p0 e9 s9 m9 ag9 below meth c9 s₁ B hml ht hv
  obtain ⟨hav, hP, hK, hT⟩ := hv
  have hx := B.exec
  have hb := B.bytes
  have hr := B.returns
  have hts := atoms_spec (ws := wsX2_wouldWear) B.pre
  have hown : s9.vm.findClass RX2 = some m9.cls := findClass_of_methodNamed B.named
  have hlocks := B.notSynchronized
  have hA : ∀ a ∈ zLC q, (fun a => a ∈ zLC q) a := fun _ h => h
  have hl := lv_entry ([.ref (q 0), .int (zI p), .int (zI d)]) (n := 4) (Nat.le_of_ble_eq_true rfl)
  have hE : entryFrame m9 ag9 4 = F0 m9 0 ((lg_sl ([.ref (q 0), .int (zI p), .int (zI d)]) ++ List.replicate (4 - (lg_sl ([.ref (q 0), .int (zI p), .int (zI d)])).length) Slot.unset).toArray) [] := by rw [hav]; exact lg_entry_eq m9 _ _
  obtain ⟨Q0, hQ0⟩ : ∃ Q0, Q0 = vx_MQ below zNo (zXC D (wC cI cZ q pa sp al dg co da mb dd ah wl lo n td wn) "java/lang/IllegalArgumentException" (zLC q)) ag9 s9 1 6 (fun a => a ∈ zLC q) := ⟨_, rfl⟩
  show W p0 l e9 ({ frames := 7, cells := 1, slots := 6, locals := 112 }) s9 m9 ag9 below meth c9 s9.heap [] 0 0 (vx_MQ below zNo (zXC D (wC cI cZ q pa sp al dg co da mb dd ah wl lo n td wn) "java/lang/IllegalArgumentException" (zLC q)) ag9 s9 1 6 (fun a => a ∈ zLC q)) _
  rw [hE, ← hQ0]
  have hS : va_S (fun a => a ∈ zLC q) s9.heap s9.heap [] := va_S.rf
  generalize hH0 : s9.heap = H at hP ⊢
  have hS : va_S (fun a => a ∈ zLC q) s9.heap H [] := by rw [hH0] at hS ⊢; exact hS
  generalize (lg_sl ([.ref (q 0), .int (zI p), .int (zI d)]) ++ List.replicate (4 - (lg_sl ([.ref (q 0), .int (zI p), .int (zI d)])).length) Slot.unset).toArray = ls at hl ⊢
  have hl : lv_has ls 4 [(0, .ref (q 0)), (1, .int (zI p)), (2, .int (zI d))] := hl
  refine lv_aload_n hx hb dX2_wouldWear_0 rfl (lv_at hl 0 rfl) ?_
  refine lv_iload_n hx hb dX2_wouldWear_1 rfl (lv_at hl 1 rfl) ?_
  refine zcallV (ci := 2) (q0 := 0) (cq := (RX2, TX2, 9)) (As := [.int (zI p)]) (rest := []) ⟨hx, hb, hml, hown, hts⟩ hK (kX2_needPersonok l D cI cZ q hN pa sp al dg co da mb dd ah wl lo n td wn hn p (by omega)) (cwV 1 hts gX2_wouldWear_X2_needPerson rfl rfl rfl (by decide +kernel) ⟨Nat.le_of_ble_eq_true rfl, Nat.le_of_ble_eq_true rfl⟩) hP hS hA rfl rfl rfl hl.1 rfl (Nat.le_of_ble_eq_true rfl) dX2_wouldWear_2 ⟨Nat.zero_le _, Nat.zero_le _⟩ (fun H locs hP hS _ _ => ?_)
  refine W.eq (g2 := F0 m9 5 ls []) rfl ?_
  refine lv_aload_n hx hb dX2_wouldWear_5 rfl (lv_at hl 0 rfl) ?_
  refine lv_iload_n hx hb dX2_wouldWear_6 rfl (lv_at hl 2 rfl) ?_
  refine zcallV (ci := 2) (q0 := 0) (cq := (RX2, TX2, 9)) (As := [.int (zI d)]) (rest := []) ⟨hx, hb, hml, hown, hts⟩ hK (kX2_needPersonok l D cI cZ q hN pa sp al dg co da mb dd ah wl lo n td wn hn d (by omega)) (cwV 1 hts gX2_wouldWear_X2_needPerson rfl rfl rfl (by decide +kernel) ⟨Nat.le_of_ble_eq_true rfl, Nat.le_of_ble_eq_true rfl⟩) hP hS hA rfl rfl rfl hl.1 rfl (Nat.le_of_ble_eq_true rfl) dX2_wouldWear_7 ⟨Nat.zero_le _, Nat.zero_le _⟩ (fun H locs hP hS _ _ => ?_)
  refine W.eq (g2 := F0 m9 10 ls []) rfl ?_
  refine lv_aload_n hx hb dX2_wouldWear_10 rfl (lv_at hl 0 rfl) ?_
  refine lv_iload_n hx hb dX2_wouldWear_11 rfl (lv_at hl 1 rfl) ?_
  refine lv_iload_n hx hb dX2_wouldWear_12 rfl (lv_at hl 2 rfl) ?_
  refine zcallXV (ci := 2) (q0 := 0) (cq := (RX2, TX2, 9)) (As := [.int (zI p), .int (zI d)]) (rest := []) ⟨hx, hb, hml, hown, hts⟩ hK (kX2_needTwox l D hl0 cI cZ q hN pa sp al dg co da mb dd ah wl lo n td wn p d (by omega) (by omega) (by omega)) (cwV 2 hts gX2_wouldWear_X2_needTwo rfl rfl rfl (by decide +kernel) ⟨Nat.le_of_ble_eq_true rfl, Nat.le_of_ble_eq_true rfl⟩) hP (hT.kept hS.2.1) hS hA rfl rfl rfl hl.1 rfl (Nat.le_of_ble_eq_true rfl) dX2_wouldWear_13 ⟨Nat.le_of_ble_eq_true rfl, Nat.le_of_ble_eq_true rfl⟩ (fun ce q9 H locs hP hS _ _ hce hcv hcl => ?_)
  rw [hQ0]
  exact zoutX ht hlocks hP hS hce hcv hcl
set_option maxHeartbeats 4000000 in
set_option maxRecDepth 100000 in
theorem kX2_wouldWearx4 (l : Launch) (D : va_G) (hl0 : l.stackTraces = false) (cI cZ : ClassId) (q : Nat → Nat) (hN : (zLC q).Nodup) (pa : Int → Int) (sp : Int → Int) (al : Int → Int) (dg : Int → Int) (co : Int → Int) (da : Int → Int) (mb : Int → Int) (dd : Int → Int) (ah : Int → Int) (wl : Int → Int) (lo : Int → Int) (n : Nat) (td : Int) (wn : Int) (hn : n ≤ 16) (hal : ∀ j : Int, 0 ≤ al j ∧ al j ≤ 1) (p : Int) (d : Int) (h1 : 0 ≤ p ∧ p < (n : Int)) (h2 : 0 ≤ d ∧ d < (n : Int)) (h3 : p ≠ d) (h4 : al p = 0) : zX l yX2_wouldWear wsX2_wouldWear ({ frames := 7, cells := 1, slots := 6, locals := 112 }) D [(cI, .int), (cZ, .boolean)] [.ref (q 0), .int (zI p), .int (zI d)] (wC cI cZ q pa sp al dg co da mb dd ah wl lo n td wn) "java/lang/IllegalStateException" (zLC q) := by
  refine vx_ofW (cc := cX2_wouldWear) (maxL := 4) (ret := (some .int)) (by decide) rfl ?_
  intro p0 e9 s9 m9 ag9 below meth c9 s₁ B hml ht hv
  obtain ⟨hav, hP, hK, hT⟩ := hv
  have hx := B.exec
  have hb := B.bytes
  have hr := B.returns
  have hts := atoms_spec (ws := wsX2_wouldWear) B.pre
  have hown : s9.vm.findClass RX2 = some m9.cls := findClass_of_methodNamed B.named
  have hlocks := B.notSynchronized
  have hA : ∀ a ∈ zLC q, (fun a => a ∈ zLC q) a := fun _ h => h
  have hl := lv_entry ([.ref (q 0), .int (zI p), .int (zI d)]) (n := 4) (Nat.le_of_ble_eq_true rfl)
  have hE : entryFrame m9 ag9 4 = F0 m9 0 ((lg_sl ([.ref (q 0), .int (zI p), .int (zI d)]) ++ List.replicate (4 - (lg_sl ([.ref (q 0), .int (zI p), .int (zI d)])).length) Slot.unset).toArray) [] := by rw [hav]; exact lg_entry_eq m9 _ _
  obtain ⟨Q0, hQ0⟩ : ∃ Q0, Q0 = vx_MQ below zNo (zXC D (wC cI cZ q pa sp al dg co da mb dd ah wl lo n td wn) "java/lang/IllegalStateException" (zLC q)) ag9 s9 1 6 (fun a => a ∈ zLC q) := ⟨_, rfl⟩
  show W p0 l e9 ({ frames := 7, cells := 1, slots := 6, locals := 112 }) s9 m9 ag9 below meth c9 s9.heap [] 0 0 (vx_MQ below zNo (zXC D (wC cI cZ q pa sp al dg co da mb dd ah wl lo n td wn) "java/lang/IllegalStateException" (zLC q)) ag9 s9 1 6 (fun a => a ∈ zLC q)) _
  rw [hE, ← hQ0]
  have hS : va_S (fun a => a ∈ zLC q) s9.heap s9.heap [] := va_S.rf
  generalize hH0 : s9.heap = H at hP ⊢
  have hS : va_S (fun a => a ∈ zLC q) s9.heap H [] := by rw [hH0] at hS ⊢; exact hS
  generalize (lg_sl ([.ref (q 0), .int (zI p), .int (zI d)]) ++ List.replicate (4 - (lg_sl ([.ref (q 0), .int (zI p), .int (zI d)])).length) Slot.unset).toArray = ls at hl ⊢
  have hl : lv_has ls 4 [(0, .ref (q 0)), (1, .int (zI p)), (2, .int (zI d))] := hl
  refine lv_aload_n hx hb dX2_wouldWear_0 rfl (lv_at hl 0 rfl) ?_
  refine lv_iload_n hx hb dX2_wouldWear_1 rfl (lv_at hl 1 rfl) ?_
  refine zcallV (ci := 2) (q0 := 0) (cq := (RX2, TX2, 9)) (As := [.int (zI p)]) (rest := []) ⟨hx, hb, hml, hown, hts⟩ hK (kX2_needPersonok l D cI cZ q hN pa sp al dg co da mb dd ah wl lo n td wn hn p (by omega)) (cwV 1 hts gX2_wouldWear_X2_needPerson rfl rfl rfl (by decide +kernel) ⟨Nat.le_of_ble_eq_true rfl, Nat.le_of_ble_eq_true rfl⟩) hP hS hA rfl rfl rfl hl.1 rfl (Nat.le_of_ble_eq_true rfl) dX2_wouldWear_2 ⟨Nat.zero_le _, Nat.zero_le _⟩ (fun H locs hP hS _ _ => ?_)
  refine W.eq (g2 := F0 m9 5 ls []) rfl ?_
  refine lv_aload_n hx hb dX2_wouldWear_5 rfl (lv_at hl 0 rfl) ?_
  refine lv_iload_n hx hb dX2_wouldWear_6 rfl (lv_at hl 2 rfl) ?_
  refine zcallV (ci := 2) (q0 := 0) (cq := (RX2, TX2, 9)) (As := [.int (zI d)]) (rest := []) ⟨hx, hb, hml, hown, hts⟩ hK (kX2_needPersonok l D cI cZ q hN pa sp al dg co da mb dd ah wl lo n td wn hn d (by omega)) (cwV 1 hts gX2_wouldWear_X2_needPerson rfl rfl rfl (by decide +kernel) ⟨Nat.le_of_ble_eq_true rfl, Nat.le_of_ble_eq_true rfl⟩) hP hS hA rfl rfl rfl hl.1 rfl (Nat.le_of_ble_eq_true rfl) dX2_wouldWear_7 ⟨Nat.zero_le _, Nat.zero_le _⟩ (fun H locs hP hS _ _ => ?_)
  refine W.eq (g2 := F0 m9 10 ls []) rfl ?_
  refine lv_aload_n hx hb dX2_wouldWear_10 rfl (lv_at hl 0 rfl) ?_
  refine lv_iload_n hx hb dX2_wouldWear_11 rfl (lv_at hl 1 rfl) ?_
  refine lv_iload_n hx hb dX2_wouldWear_12 rfl (lv_at hl 2 rfl) ?_
  refine zcallV (ci := 2) (q0 := 0) (cq := (RX2, TX2, 9)) (As := [.int (zI p), .int (zI d)]) (rest := []) ⟨hx, hb, hml, hown, hts⟩ hK (kX2_needTwook l D cI cZ q hN pa sp al dg co da mb dd ah wl lo n td wn p d (by omega) (by omega) (by omega)) (cwV 2 hts gX2_wouldWear_X2_needTwo rfl rfl rfl (by decide +kernel) ⟨Nat.le_of_ble_eq_true rfl, Nat.le_of_ble_eq_true rfl⟩) hP hS hA rfl rfl rfl hl.1 rfl (Nat.le_of_ble_eq_true rfl) dX2_wouldWear_13 ⟨Nat.zero_le _, Nat.zero_le _⟩ (fun H locs hP hS _ _ => ?_)
  refine W.eq (g2 := F0 m9 16 ls []) rfl ?_
  refine lv_aload_n hx hb dX2_wouldWear_16 rfl (lv_at hl 0 rfl) ?_
  refine lv_iload_n hx hb dX2_wouldWear_17 rfl (lv_at hl 1 rfl) ?_
  refine zcallXV (ci := 2) (q0 := 0) (cq := (RX2, TX2, 9)) (As := [.int (zI p)]) (rest := []) ⟨hx, hb, hml, hown, hts⟩ hK (kX2_needAlivex l D hl0 cI cZ q hN pa sp al dg co da mb dd ah wl lo n td wn hal p (by omega) (by omega)) (cwV 1 hts gX2_wouldWear_X2_needAlive rfl rfl rfl (by decide +kernel) ⟨Nat.le_of_ble_eq_true rfl, Nat.le_of_ble_eq_true rfl⟩) hP (hT.kept hS.2.1) hS hA rfl rfl rfl hl.1 rfl (Nat.le_of_ble_eq_true rfl) dX2_wouldWear_18 ⟨Nat.le_of_ble_eq_true rfl, Nat.le_of_ble_eq_true rfl⟩ (fun ce q9 H locs hP hS _ _ hce hcv hcl => ?_)
  rw [hQ0]
  exact zoutX ht hlocks hP hS hce hcv hcl
set_option maxHeartbeats 4000000 in
set_option maxRecDepth 100000 in
theorem kX2_wouldWearx5 (l : Launch) (D : va_G) (hl0 : l.stackTraces = false) (cI cZ : ClassId) (q : Nat → Nat) (hN : (zLC q).Nodup) (pa : Int → Int) (sp : Int → Int) (al : Int → Int) (dg : Int → Int) (co : Int → Int) (da : Int → Int) (mb : Int → Int) (dd : Int → Int) (ah : Int → Int) (wl : Int → Int) (lo : Int → Int) (n : Nat) (td : Int) (wn : Int) (hn : n ≤ 16) (hal : ∀ j : Int, 0 ≤ al j ∧ al j ≤ 1) (p : Int) (d : Int) (h1 : 0 ≤ p ∧ p < (n : Int)) (h2 : 0 ≤ d ∧ d < (n : Int)) (h3 : p ≠ d) (h4 : al p ≠ 0) (h5 : al d = 0) : zX l yX2_wouldWear wsX2_wouldWear ({ frames := 7, cells := 1, slots := 6, locals := 112 }) D [(cI, .int), (cZ, .boolean)] [.ref (q 0), .int (zI p), .int (zI d)] (wC cI cZ q pa sp al dg co da mb dd ah wl lo n td wn) "java/lang/IllegalStateException" (zLC q) := by
  refine vx_ofW (cc := cX2_wouldWear) (maxL := 4) (ret := (some .int)) (by decide) rfl ?_
  intro p0 e9 s9 m9 ag9 below meth c9 s₁ B hml ht hv
  obtain ⟨hav, hP, hK, hT⟩ := hv
  have hx := B.exec
  have hb := B.bytes
  have hr := B.returns
  have hts := atoms_spec (ws := wsX2_wouldWear) B.pre
  have hown : s9.vm.findClass RX2 = some m9.cls := findClass_of_methodNamed B.named
  have hlocks := B.notSynchronized
  have hA : ∀ a ∈ zLC q, (fun a => a ∈ zLC q) a := fun _ h => h
  have hl := lv_entry ([.ref (q 0), .int (zI p), .int (zI d)]) (n := 4) (Nat.le_of_ble_eq_true rfl)
  have hE : entryFrame m9 ag9 4 = F0 m9 0 ((lg_sl ([.ref (q 0), .int (zI p), .int (zI d)]) ++ List.replicate (4 - (lg_sl ([.ref (q 0), .int (zI p), .int (zI d)])).length) Slot.unset).toArray) [] := by rw [hav]; exact lg_entry_eq m9 _ _
  obtain ⟨Q0, hQ0⟩ : ∃ Q0, Q0 = vx_MQ below zNo (zXC D (wC cI cZ q pa sp al dg co da mb dd ah wl lo n td wn) "java/lang/IllegalStateException" (zLC q)) ag9 s9 1 6 (fun a => a ∈ zLC q) := ⟨_, rfl⟩
  show W p0 l e9 ({ frames := 7, cells := 1, slots := 6, locals := 112 }) s9 m9 ag9 below meth c9 s9.heap [] 0 0 (vx_MQ below zNo (zXC D (wC cI cZ q pa sp al dg co da mb dd ah wl lo n td wn) "java/lang/IllegalStateException" (zLC q)) ag9 s9 1 6 (fun a => a ∈ zLC q)) _
  rw [hE, ← hQ0]
  have hS : va_S (fun a => a ∈ zLC q) s9.heap s9.heap [] := va_S.rf
  generalize hH0 : s9.heap = H at hP ⊢
  have hS : va_S (fun a => a ∈ zLC q) s9.heap H [] := by rw [hH0] at hS ⊢; exact hS
  generalize (lg_sl ([.ref (q 0), .int (zI p), .int (zI d)]) ++ List.replicate (4 - (lg_sl ([.ref (q 0), .int (zI p), .int (zI d)])).length) Slot.unset).toArray = ls at hl ⊢
  have hl : lv_has ls 4 [(0, .ref (q 0)), (1, .int (zI p)), (2, .int (zI d))] := hl
  refine lv_aload_n hx hb dX2_wouldWear_0 rfl (lv_at hl 0 rfl) ?_
  refine lv_iload_n hx hb dX2_wouldWear_1 rfl (lv_at hl 1 rfl) ?_
  refine zcallV (ci := 2) (q0 := 0) (cq := (RX2, TX2, 9)) (As := [.int (zI p)]) (rest := []) ⟨hx, hb, hml, hown, hts⟩ hK (kX2_needPersonok l D cI cZ q hN pa sp al dg co da mb dd ah wl lo n td wn hn p (by omega)) (cwV 1 hts gX2_wouldWear_X2_needPerson rfl rfl rfl (by decide +kernel) ⟨Nat.le_of_ble_eq_true rfl, Nat.le_of_ble_eq_true rfl⟩) hP hS hA rfl rfl rfl hl.1 rfl (Nat.le_of_ble_eq_true rfl) dX2_wouldWear_2 ⟨Nat.zero_le _, Nat.zero_le _⟩ (fun H locs hP hS _ _ => ?_)
  refine W.eq (g2 := F0 m9 5 ls []) rfl ?_
  refine lv_aload_n hx hb dX2_wouldWear_5 rfl (lv_at hl 0 rfl) ?_
  refine lv_iload_n hx hb dX2_wouldWear_6 rfl (lv_at hl 2 rfl) ?_
  refine zcallV (ci := 2) (q0 := 0) (cq := (RX2, TX2, 9)) (As := [.int (zI d)]) (rest := []) ⟨hx, hb, hml, hown, hts⟩ hK (kX2_needPersonok l D cI cZ q hN pa sp al dg co da mb dd ah wl lo n td wn hn d (by omega)) (cwV 1 hts gX2_wouldWear_X2_needPerson rfl rfl rfl (by decide +kernel) ⟨Nat.le_of_ble_eq_true rfl, Nat.le_of_ble_eq_true rfl⟩) hP hS hA rfl rfl rfl hl.1 rfl (Nat.le_of_ble_eq_true rfl) dX2_wouldWear_7 ⟨Nat.zero_le _, Nat.zero_le _⟩ (fun H locs hP hS _ _ => ?_)
  refine W.eq (g2 := F0 m9 10 ls []) rfl ?_
  refine lv_aload_n hx hb dX2_wouldWear_10 rfl (lv_at hl 0 rfl) ?_
  refine lv_iload_n hx hb dX2_wouldWear_11 rfl (lv_at hl 1 rfl) ?_
  refine lv_iload_n hx hb dX2_wouldWear_12 rfl (lv_at hl 2 rfl) ?_
  refine zcallV (ci := 2) (q0 := 0) (cq := (RX2, TX2, 9)) (As := [.int (zI p), .int (zI d)]) (rest := []) ⟨hx, hb, hml, hown, hts⟩ hK (kX2_needTwook l D cI cZ q hN pa sp al dg co da mb dd ah wl lo n td wn p d (by omega) (by omega) (by omega)) (cwV 2 hts gX2_wouldWear_X2_needTwo rfl rfl rfl (by decide +kernel) ⟨Nat.le_of_ble_eq_true rfl, Nat.le_of_ble_eq_true rfl⟩) hP hS hA rfl rfl rfl hl.1 rfl (Nat.le_of_ble_eq_true rfl) dX2_wouldWear_13 ⟨Nat.zero_le _, Nat.zero_le _⟩ (fun H locs hP hS _ _ => ?_)
  refine W.eq (g2 := F0 m9 16 ls []) rfl ?_
  refine lv_aload_n hx hb dX2_wouldWear_16 rfl (lv_at hl 0 rfl) ?_
  refine lv_iload_n hx hb dX2_wouldWear_17 rfl (lv_at hl 1 rfl) ?_
  refine zcallV (ci := 2) (q0 := 0) (cq := (RX2, TX2, 9)) (As := [.int (zI p)]) (rest := []) ⟨hx, hb, hml, hown, hts⟩ hK (kX2_needAliveok l D cI cZ q hN pa sp al dg co da mb dd ah wl lo n td wn hal p (by omega) (by omega)) (cwV 1 hts gX2_wouldWear_X2_needAlive rfl rfl rfl (by decide +kernel) ⟨Nat.le_of_ble_eq_true rfl, Nat.le_of_ble_eq_true rfl⟩) hP hS hA rfl rfl rfl hl.1 rfl (Nat.le_of_ble_eq_true rfl) dX2_wouldWear_18 ⟨Nat.zero_le _, Nat.zero_le _⟩ (fun H locs hP hS _ _ => ?_)
  refine W.eq (g2 := F0 m9 21 ls []) rfl ?_
  refine lv_aload_n hx hb dX2_wouldWear_21 rfl (lv_at hl 0 rfl) ?_
  refine lv_iload_n hx hb dX2_wouldWear_22 rfl (lv_at hl 2 rfl) ?_
  refine zcallXV (ci := 2) (q0 := 0) (cq := (RX2, TX2, 9)) (As := [.int (zI d)]) (rest := []) ⟨hx, hb, hml, hown, hts⟩ hK (kX2_needAlivex l D hl0 cI cZ q hN pa sp al dg co da mb dd ah wl lo n td wn hal d (by omega) (by omega)) (cwV 1 hts gX2_wouldWear_X2_needAlive rfl rfl rfl (by decide +kernel) ⟨Nat.le_of_ble_eq_true rfl, Nat.le_of_ble_eq_true rfl⟩) hP (hT.kept hS.2.1) hS hA rfl rfl rfl hl.1 rfl (Nat.le_of_ble_eq_true rfl) dX2_wouldWear_23 ⟨Nat.le_of_ble_eq_true rfl, Nat.le_of_ble_eq_true rfl⟩ (fun ce q9 H locs hP hS _ _ hce hcv hcl => ?_)
  rw [hQ0]
  exact zoutX ht hlocks hP hS hce hcv hcl
