set_option maxHeartbeats 4000000 in
set_option maxRecDepth 100000 in
theorem kX2_needPersonok (l : Launch) (D : va_G) (cI cZ : ClassId) (q : Nat → Nat) (hN : (zLC q).Nodup) (pa : Int → Int) (sp : Int → Int) (al : Int → Int) (dg : Int → Int) (co : Int → Int) (da : Int → Int) (mb : Int → Int) (dd : Int → Int) (ah : Int → Int) (wl : Int → Int) (lo : Int → Int) (n : Nat) (td : Int) (wn : Int) (hn : n ≤ 16) (p : Int) (h1 : 0 ≤ p ∧ p < (n : Int)) : zM l yX2_needPerson wsX2_needPerson ({ frames := 6, cells := 0, slots := 0, locals := 90 }) D [(cI, .int), (cZ, .boolean)] [.ref (q 0), .int (zI p)] (wC cI cZ q pa sp al dg co da mb dd ah wl lo n td wn) (wC cI cZ q pa sp al dg co da mb dd ah wl lo n td wn) none (zLC q) := by
  refine Met.ofW (cc := cX2_needPerson) (maxL := 2) (ret := none) (by decide) rfl ?_
  intro p0 e9 s9 m9 ag9 below meth c9 s₁ B hml hv
  obtain ⟨hav, hP, hK⟩ := hv
  have hx := B.exec
  have hb := B.bytes
  have hr := B.returns
  have hts := atoms_spec (ws := wsX2_needPerson) B.pre
  have hown : s9.vm.findClass RX2 = some m9.cls := findClass_of_methodNamed B.named
  have hlocks := B.notSynchronized
  have hA : ∀ a ∈ zLC q, (fun a => a ∈ zLC q) a := fun _ h => h
  have hin1 : ∀ w ∈ u_ws RX1 TX1 5, w ∈ wsX2_needPerson := by decide +kernel
  have hin2 : ∀ w ∈ u_ws RX2 TX2 9, w ∈ wsX2_needPerson := by decide +kernel
  have hl := lv_entry ([.ref (q 0), .int (zI p)]) (n := 2) (Nat.le_of_ble_eq_true rfl)
  have hE : entryFrame m9 ag9 2 = F0 m9 0 ((lg_sl ([.ref (q 0), .int (zI p)]) ++ List.replicate (2 - (lg_sl ([.ref (q 0), .int (zI p)])).length) Slot.unset).toArray) [] := by rw [hav]; exact lg_entry_eq m9 _ _
  obtain ⟨Q0, hQ0⟩ : ∃ Q0, Q0 = MQ below (zQ D (wC cI cZ q pa sp al dg co da mb dd ah wl lo n td wn) none (zLC q)) ag9 s9 0 0 (fun a => a ∈ zLC q) := ⟨_, rfl⟩
  show W p0 l e9 ({ frames := 6, cells := 0, slots := 0, locals := 90 }) s9 m9 ag9 below meth c9 s9.heap [] 0 0 (MQ below (zQ D (wC cI cZ q pa sp al dg co da mb dd ah wl lo n td wn) none (zLC q)) ag9 s9 0 0 (fun a => a ∈ zLC q)) _
  rw [hE, ← hQ0]
  have hS : va_S (fun a => a ∈ zLC q) s9.heap s9.heap [] := va_S.rf
  generalize hH0 : s9.heap = H at hP ⊢
  have hS : va_S (fun a => a ∈ zLC q) s9.heap H [] := by rw [hH0] at hS ⊢; exact hS
  generalize (lg_sl ([.ref (q 0), .int (zI p)]) ++ List.replicate (2 - (lg_sl ([.ref (q 0), .int (zI p)])).length) Slot.unset).toArray = ls at hl ⊢
  have hl : lv_has ls 2 [(0, .ref (q 0)), (1, .int (zI p))] := hl
  refine lv_iload_n hx hb dX2_needPerson_0 rfl (lv_at hl 1 rfl) ?_
  refine zr_if_lt (tgt := 15) hx hb dX2_needPerson_1 (by decide) ⟨by omega, by omega⟩ (fun c_1 => ?_) (fun c_1 => ?_)
  · have c_1 := c_1
    exfalso; omega
  · have c_1 := c_1
    refine lv_iload_n hx hb dX2_needPerson_4 rfl (lv_at hl 1 rfl) ?_
    refine lv_aload_n hx hb dX2_needPerson_5 rfl (lv_at hl 0 rfl) ?_
    refine va_get (D := D) (ci := 2) (v := .ref (q 1)) (C := RX2) (T := TX2) (N := 9) hx hb hts hin2 hown hK hP 0 rfl rfl 0 (by decide) (hts (.fieldLink RX2 12 "MourningRibbons" "family" "LMourningRibbons$Family;") (by decide +kernel)) (fun _ h9 => h9) rfl dX2_needPerson_6 ?_
    refine va_get (D := D) (ci := 1) (v := .int (zI (n : Int))) (C := RX1) (T := TX1) (N := 5) hx hb hts hin1 hown hK hP 1 rfl rfl 3 (by decide) (hts (.fieldLink RX2 128 "MourningRibbons$Family" "count" "I") (by decide +kernel)) (fun _ h9 => h9) rfl dX2_needPerson_9 ?_
    refine zr_icmp_lt (tgt := 26) hx hb dX2_needPerson_12 (by decide) ⟨by omega, by omega⟩ ⟨by omega, by omega⟩ (fun c_2 => ?_) (fun c_2 => ?_)
    · have c_2 := c_2
      rw [hQ0]
      exact zret_v hx hb hr hlocks hP hS dX2_needPerson_26
    · have c_2 := c_2
      exfalso; omega
set_option maxHeartbeats 4000000 in
set_option maxRecDepth 100000 in
theorem kX2_needRoomok (l : Launch) (D : va_G) (cI cZ : ClassId) (q : Nat → Nat) (hN : (zLC q).Nodup) (pa : Int → Int) (sp : Int → Int) (al : Int → Int) (dg : Int → Int) (co : Int → Int) (da : Int → Int) (mb : Int → Int) (dd : Int → Int) (ah : Int → Int) (wl : Int → Int) (lo : Int → Int) (n : Nat) (td : Int) (wn : Int) (hn : n ≤ 16) (h1 : n < 16) : zM l yX2_needRoom wsX2_needRoom ({ frames := 6, cells := 0, slots := 0, locals := 90 }) D [(cI, .int), (cZ, .boolean)] [.ref (q 0)] (wC cI cZ q pa sp al dg co da mb dd ah wl lo n td wn) (wC cI cZ q pa sp al dg co da mb dd ah wl lo n td wn) none (zLC q) := by
  refine Met.ofW (cc := cX2_needRoom) (maxL := 1) (ret := none) (by decide) rfl ?_
  intro p0 e9 s9 m9 ag9 below meth c9 s₁ B hml hv
  obtain ⟨hav, hP, hK⟩ := hv
  have hx := B.exec
  have hb := B.bytes
  have hr := B.returns
  have hts := atoms_spec (ws := wsX2_needRoom) B.pre
  have hown : s9.vm.findClass RX2 = some m9.cls := findClass_of_methodNamed B.named
  have hlocks := B.notSynchronized
  have hA : ∀ a ∈ zLC q, (fun a => a ∈ zLC q) a := fun _ h => h
  have hin2 : ∀ w ∈ u_ws RX2 TX2 9, w ∈ wsX2_needRoom := by decide +kernel
  have hl := lv_entry ([.ref (q 0)]) (n := 1) (Nat.le_of_ble_eq_true rfl)
  have hE : entryFrame m9 ag9 1 = F0 m9 0 ((lg_sl ([.ref (q 0)]) ++ List.replicate (1 - (lg_sl ([.ref (q 0)])).length) Slot.unset).toArray) [] := by rw [hav]; exact lg_entry_eq m9 _ _
  obtain ⟨Q0, hQ0⟩ : ∃ Q0, Q0 = MQ below (zQ D (wC cI cZ q pa sp al dg co da mb dd ah wl lo n td wn) none (zLC q)) ag9 s9 0 0 (fun a => a ∈ zLC q) := ⟨_, rfl⟩
  show W p0 l e9 ({ frames := 6, cells := 0, slots := 0, locals := 90 }) s9 m9 ag9 below meth c9 s9.heap [] 0 0 (MQ below (zQ D (wC cI cZ q pa sp al dg co da mb dd ah wl lo n td wn) none (zLC q)) ag9 s9 0 0 (fun a => a ∈ zLC q)) _
  rw [hE, ← hQ0]
  have hS : va_S (fun a => a ∈ zLC q) s9.heap s9.heap [] := va_S.rf
  generalize hH0 : s9.heap = H at hP ⊢
  have hS : va_S (fun a => a ∈ zLC q) s9.heap H [] := by rw [hH0] at hS ⊢; exact hS
  generalize (lg_sl ([.ref (q 0)]) ++ List.replicate (1 - (lg_sl ([.ref (q 0)])).length) Slot.unset).toArray = ls at hl ⊢
  have hl : lv_has ls 1 [(0, .ref (q 0))] := hl
  refine lv_aload_n hx hb dX2_needRoom_0 rfl (lv_at hl 0 rfl) ?_
  refine va_get (D := D) (ci := 2) (v := .ref (q 1)) (C := RX2) (T := TX2) (N := 9) hx hb hts hin2 hown hK hP 0 rfl rfl 0 (by decide) (hts (.fieldLink RX2 12 "MourningRibbons" "family" "LMourningRibbons$Family;") (by decide +kernel)) (fun _ h9 => h9) rfl dX2_needRoom_1 ?_
  refine zcallV (ci := 1) (q0 := 1) (cq := (RX1, TX1, 5)) (As := []) (rest := []) ⟨hx, hb, hml, hown, hts⟩ hK (kX1_isFull l D cI cZ q hN pa sp al dg co da mb dd ah wl lo n td wn hn) (cwV 0 hts gX2_needRoom_X1_isFull rfl rfl rfl (by decide +kernel) ⟨Nat.le_of_ble_eq_true rfl, Nat.le_of_ble_eq_true rfl⟩) hP hS hA rfl rfl rfl hl.1 rfl (Nat.le_of_ble_eq_true rfl) dX2_needRoom_4 ⟨Nat.zero_le _, Nat.zero_le _⟩ (fun H locs hP hS _ _ => ?_)
  refine W.eq (g2 := F0 m9 7 ls [.int (zI (bI (16 ≤ (n : Int))))]) rfl ?_
  refine zr_if_eq (tgt := 21) hx hb dX2_needRoom_7 (by decide) (bI_rg _) (fun c_1 => ?_) (fun c_1 => ?_)
  · have c_1 := bI_z c_1
    rw [hQ0]
    exact zret_v hx hb hr hlocks hP hS dX2_needRoom_21
  · have c_1 := bI_n c_1
    exfalso; omega
set_option maxHeartbeats 4000000 in
set_option maxRecDepth 100000 in
theorem kX2_needTwook (l : Launch) (D : va_G) (cI cZ : ClassId) (q : Nat → Nat) (hN : (zLC q).Nodup) (pa : Int → Int) (sp : Int → Int) (al : Int → Int) (dg : Int → Int) (co : Int → Int) (da : Int → Int) (mb : Int → Int) (dd : Int → Int) (ah : Int → Int) (wl : Int → Int) (lo : Int → Int) (n : Nat) (td : Int) (wn : Int) (a : Int) (b : Int) (h1 : 0 ≤ a ∧ a < 16) (h2 : 0 ≤ b ∧ b < 16) (h3 : a ≠ b) : zM l yX2_needTwo wsX2_needTwo ({ frames := 6, cells := 0, slots := 0, locals := 90 }) D [(cI, .int), (cZ, .boolean)] [.ref (q 0), .int (zI a), .int (zI b)] (wC cI cZ q pa sp al dg co da mb dd ah wl lo n td wn) (wC cI cZ q pa sp al dg co da mb dd ah wl lo n td wn) none (zLC q) := by
  refine Met.ofW (cc := cX2_needTwo) (maxL := 3) (ret := none) (by decide) rfl ?_
  intro p0 e9 s9 m9 ag9 below meth c9 s₁ B hml hv
  obtain ⟨hav, hP, hK⟩ := hv
  have hx := B.exec
  have hb := B.bytes
  have hr := B.returns
  have hts := atoms_spec (ws := wsX2_needTwo) B.pre
  have hown : s9.vm.findClass RX2 = some m9.cls := findClass_of_methodNamed B.named
  have hlocks := B.notSynchronized
  have hA : ∀ a ∈ zLC q, (fun a => a ∈ zLC q) a := fun _ h => h
  have hl := lv_entry ([.ref (q 0), .int (zI a), .int (zI b)]) (n := 3) (Nat.le_of_ble_eq_true rfl)
  have hE : entryFrame m9 ag9 3 = F0 m9 0 ((lg_sl ([.ref (q 0), .int (zI a), .int (zI b)]) ++ List.replicate (3 - (lg_sl ([.ref (q 0), .int (zI a), .int (zI b)])).length) Slot.unset).toArray) [] := by rw [hav]; exact lg_entry_eq m9 _ _
  obtain ⟨Q0, hQ0⟩ : ∃ Q0, Q0 = MQ below (zQ D (wC cI cZ q pa sp al dg co da mb dd ah wl lo n td wn) none (zLC q)) ag9 s9 0 0 (fun a => a ∈ zLC q) := ⟨_, rfl⟩
  show W p0 l e9 ({ frames := 6, cells := 0, slots := 0, locals := 90 }) s9 m9 ag9 below meth c9 s9.heap [] 0 0 (MQ below (zQ D (wC cI cZ q pa sp al dg co da mb dd ah wl lo n td wn) none (zLC q)) ag9 s9 0 0 (fun a => a ∈ zLC q)) _
  rw [hE, ← hQ0]
  have hS : va_S (fun a => a ∈ zLC q) s9.heap s9.heap [] := va_S.rf
  generalize hH0 : s9.heap = H at hP ⊢
  have hS : va_S (fun a => a ∈ zLC q) s9.heap H [] := by rw [hH0] at hS ⊢; exact hS
  generalize (lg_sl ([.ref (q 0), .int (zI a), .int (zI b)]) ++ List.replicate (3 - (lg_sl ([.ref (q 0), .int (zI a), .int (zI b)])).length) Slot.unset).toArray = ls at hl ⊢
  have hl : lv_has ls 3 [(0, .ref (q 0)), (1, .int (zI a)), (2, .int (zI b))] := hl
  refine lv_iload_n hx hb dX2_needTwo_0 rfl (lv_at hl 1 rfl) ?_
  refine lv_iload_n hx hb dX2_needTwo_1 rfl (lv_at hl 2 rfl) ?_
  refine zr_icmp_ne (tgt := 16) hx hb dX2_needTwo_2 (by decide) ⟨by omega, by omega⟩ ⟨by omega, by omega⟩ (fun c_1 => ?_) (fun c_1 => ?_)
  · have c_1 := c_1
    rw [hQ0]
    exact zret_v hx hb hr hlocks hP hS dX2_needTwo_16
  · have c_1 := c_1
    exfalso; omega
set_option maxHeartbeats 4000000 in
set_option maxRecDepth 100000 in
theorem kX2_needAliveok (l : Launch) (D : va_G) (cI cZ : ClassId) (q : Nat → Nat) (hN : (zLC q).Nodup) (pa : Int → Int) (sp : Int → Int) (al : Int → Int) (dg : Int → Int) (co : Int → Int) (da : Int → Int) (mb : Int → Int) (dd : Int → Int) (ah : Int → Int) (wl : Int → Int) (lo : Int → Int) (n : Nat) (td : Int) (wn : Int) (hal : ∀ j : Int, 0 ≤ al j ∧ al j ≤ 1) (p : Int) (h1 : 0 ≤ p ∧ p < 16) (h2 : al p ≠ 0) : zM l yX2_needAlive wsX2_needAlive ({ frames := 6, cells := 0, slots := 0, locals := 90 }) D [(cI, .int), (cZ, .boolean)] [.ref (q 0), .int (zI p)] (wC cI cZ q pa sp al dg co da mb dd ah wl lo n td wn) (wC cI cZ q pa sp al dg co da mb dd ah wl lo n td wn) none (zLC q) := by
  refine Met.ofW (cc := cX2_needAlive) (maxL := 2) (ret := none) (by decide) rfl ?_
  intro p0 e9 s9 m9 ag9 below meth c9 s₁ B hml hv
  obtain ⟨hav, hP, hK⟩ := hv
  have hx := B.exec
  have hb := B.bytes
  have hr := B.returns
  have hts := atoms_spec (ws := wsX2_needAlive) B.pre
  have hown : s9.vm.findClass RX2 = some m9.cls := findClass_of_methodNamed B.named
  have hlocks := B.notSynchronized
  have hA : ∀ a ∈ zLC q, (fun a => a ∈ zLC q) a := fun _ h => h
  have hin1 : ∀ w ∈ u_ws RX1 TX1 5, w ∈ wsX2_needAlive := by decide +kernel
  have hin2 : ∀ w ∈ u_ws RX2 TX2 9, w ∈ wsX2_needAlive := by decide +kernel
  have hl := lv_entry ([.ref (q 0), .int (zI p)]) (n := 2) (Nat.le_of_ble_eq_true rfl)
  have hE : entryFrame m9 ag9 2 = F0 m9 0 ((lg_sl ([.ref (q 0), .int (zI p)]) ++ List.replicate (2 - (lg_sl ([.ref (q 0), .int (zI p)])).length) Slot.unset).toArray) [] := by rw [hav]; exact lg_entry_eq m9 _ _
  obtain ⟨Q0, hQ0⟩ : ∃ Q0, Q0 = MQ below (zQ D (wC cI cZ q pa sp al dg co da mb dd ah wl lo n td wn) none (zLC q)) ag9 s9 0 0 (fun a => a ∈ zLC q) := ⟨_, rfl⟩
  show W p0 l e9 ({ frames := 6, cells := 0, slots := 0, locals := 90 }) s9 m9 ag9 below meth c9 s9.heap [] 0 0 (MQ below (zQ D (wC cI cZ q pa sp al dg co da mb dd ah wl lo n td wn) none (zLC q)) ag9 s9 0 0 (fun a => a ∈ zLC q)) _
  rw [hE, ← hQ0]
  have hS : va_S (fun a => a ∈ zLC q) s9.heap s9.heap [] := va_S.rf
  generalize hH0 : s9.heap = H at hP ⊢
  have hS : va_S (fun a => a ∈ zLC q) s9.heap H [] := by rw [hH0] at hS ⊢; exact hS
  generalize (lg_sl ([.ref (q 0), .int (zI p)]) ++ List.replicate (2 - (lg_sl ([.ref (q 0), .int (zI p)])).length) Slot.unset).toArray = ls at hl ⊢
  have hl : lv_has ls 2 [(0, .ref (q 0)), (1, .int (zI p))] := hl
  refine lv_aload_n hx hb dX2_needAlive_0 rfl (lv_at hl 0 rfl) ?_
  refine va_get (D := D) (ci := 2) (v := .ref (q 1)) (C := RX2) (T := TX2) (N := 9) hx hb hts hin2 hown hK hP 0 rfl rfl 0 (by decide) (hts (.fieldLink RX2 12 "MourningRibbons" "family" "LMourningRibbons$Family;") (by decide +kernel)) (fun _ h9 => h9) rfl dX2_needAlive_1 ?_
  refine va_get (D := D) (ci := 1) (v := .ref (q 10)) (C := RX1) (T := TX1) (N := 5) hx hb hts hin1 hown hK hP 1 rfl rfl 2 (by decide) (hts (.fieldLink RX2 101 "MourningRibbons$Family" "alive" "[Z") (by decide +kernel)) (fun _ h9 => h9) rfl dX2_needAlive_4 ?_
  refine lv_iload_n hx hb dX2_needAlive_7 rfl (lv_at hl 1 rfl) ?_
  refine zr_zald (f := al) (n := 16) hx hb hK hP 10 1 rfl rfl (by decide) (i := p) (by omega) (by omega) dX2_needAlive_8 ?_
  have b_1 := hal p
  refine zr_if_ne (tgt := 23) hx hb dX2_needAlive_9 (by decide) ⟨by omega, by omega⟩ (fun c_2 => ?_) (fun c_2 => ?_)
  · have c_2 := c_2
    rw [hQ0]
    exact zret_v hx hb hr hlocks hP hS dX2_needAlive_23
  · have c_2 := c_2
    exfalso; omega
set_option maxHeartbeats 4000000 in
set_option maxRecDepth 100000 in
theorem kX2_needDegreeok (l : Launch) (D : va_G) (cI cZ : ClassId) (q : Nat → Nat) (hN : (zLC q).Nodup) (pa : Int → Int) (sp : Int → Int) (al : Int → Int) (dg : Int → Int) (co : Int → Int) (da : Int → Int) (mb : Int → Int) (dd : Int → Int) (ah : Int → Int) (wl : Int → Int) (lo : Int → Int) (n : Nat) (td : Int) (wn : Int) (g : Int) (h1 : 1 ≤ g ∧ g ≤ 4) : zM l yX2_needDegree wsX2_needDegree ({ frames := 6, cells := 0, slots := 0, locals := 90 }) D [(cI, .int), (cZ, .boolean)] [.ref (q 0), .int (zI g)] (wC cI cZ q pa sp al dg co da mb dd ah wl lo n td wn) (wC cI cZ q pa sp al dg co da mb dd ah wl lo n td wn) none (zLC q) := by
  refine Met.ofW (cc := cX2_needDegree) (maxL := 2) (ret := none) (by decide) rfl ?_
  intro p0 e9 s9 m9 ag9 below meth c9 s₁ B hml hv
  obtain ⟨hav, hP, hK⟩ := hv
  have hx := B.exec
  have hb := B.bytes
  have hr := B.returns
  have hts := atoms_spec (ws := wsX2_needDegree) B.pre
  have hown : s9.vm.findClass RX2 = some m9.cls := findClass_of_methodNamed B.named
  have hlocks := B.notSynchronized
  have hA : ∀ a ∈ zLC q, (fun a => a ∈ zLC q) a := fun _ h => h
  have hl := lv_entry ([.ref (q 0), .int (zI g)]) (n := 2) (Nat.le_of_ble_eq_true rfl)
  have hE : entryFrame m9 ag9 2 = F0 m9 0 ((lg_sl ([.ref (q 0), .int (zI g)]) ++ List.replicate (2 - (lg_sl ([.ref (q 0), .int (zI g)])).length) Slot.unset).toArray) [] := by rw [hav]; exact lg_entry_eq m9 _ _
  obtain ⟨Q0, hQ0⟩ : ∃ Q0, Q0 = MQ below (zQ D (wC cI cZ q pa sp al dg co da mb dd ah wl lo n td wn) none (zLC q)) ag9 s9 0 0 (fun a => a ∈ zLC q) := ⟨_, rfl⟩
  show W p0 l e9 ({ frames := 6, cells := 0, slots := 0, locals := 90 }) s9 m9 ag9 below meth c9 s9.heap [] 0 0 (MQ below (zQ D (wC cI cZ q pa sp al dg co da mb dd ah wl lo n td wn) none (zLC q)) ag9 s9 0 0 (fun a => a ∈ zLC q)) _
  rw [hE, ← hQ0]
  have hS : va_S (fun a => a ∈ zLC q) s9.heap s9.heap [] := va_S.rf
  generalize hH0 : s9.heap = H at hP ⊢
  have hS : va_S (fun a => a ∈ zLC q) s9.heap H [] := by rw [hH0] at hS ⊢; exact hS
  generalize (lg_sl ([.ref (q 0), .int (zI g)]) ++ List.replicate (2 - (lg_sl ([.ref (q 0), .int (zI g)])).length) Slot.unset).toArray = ls at hl ⊢
  have hl : lv_has ls 2 [(0, .ref (q 0)), (1, .int (zI g))] := hl
  refine lv_iload_n hx hb dX2_needDegree_0 rfl (lv_at hl 1 rfl) ?_
  refine zr_iconst hx hb dX2_needDegree_1 ?_
  refine zr_icmp_lt (tgt := 10) hx hb dX2_needDegree_2 (by decide) ⟨by omega, by omega⟩ ⟨by decide, by decide⟩ (fun c_1 => ?_) (fun c_1 => ?_)
  · have c_1 := c_1
    exfalso; omega
  · have c_1 := c_1
    refine lv_iload_n hx hb dX2_needDegree_5 rfl (lv_at hl 1 rfl) ?_
    refine zr_iconst hx hb dX2_needDegree_6 ?_
    refine zr_icmp_le (tgt := 21) hx hb dX2_needDegree_7 (by decide) ⟨by omega, by omega⟩ ⟨by decide, by decide⟩ (fun c_2 => ?_) (fun c_2 => ?_)
    · have c_2 := c_2
      rw [hQ0]
      exact zret_v hx hb hr hlocks hP hS dX2_needDegree_21
    · have c_2 := c_2
      exfalso; omega
set_option maxHeartbeats 4000000 in
set_option maxRecDepth 100000 in
theorem kX2_needStageok (l : Launch) (D : va_G) (cI cZ : ClassId) (q : Nat → Nat) (hN : (zLC q).Nodup) (pa : Int → Int) (sp : Int → Int) (al : Int → Int) (dg : Int → Int) (co : Int → Int) (da : Int → Int) (mb : Int → Int) (dd : Int → Int) (ah : Int → Int) (wl : Int → Int) (lo : Int → Int) (n : Nat) (td : Int) (wn : Int) (g : Int) (s : Int) (h1 : 1 ≤ g ∧ g ≤ 4) (h2 : 0 ≤ s ∧ s ≤ 2) : zM l yX2_needStage wsX2_needStage ({ frames := 7, cells := 0, slots := 0, locals := 111 }) D [(cI, .int), (cZ, .boolean)] [.ref (q 0), .int (zI g), .int (zI s)] (wC cI cZ q pa sp al dg co da mb dd ah wl lo n td wn) (wC cI cZ q pa sp al dg co da mb dd ah wl lo n td wn) none (zLC q) := by
  refine Met.ofW (cc := cX2_needStage) (maxL := 3) (ret := none) (by decide) rfl ?_
  intro p0 e9 s9 m9 ag9 below meth c9 s₁ B hml hv
  obtain ⟨hav, hP, hK⟩ := hv
  have hx := B.exec
  have hb := B.bytes
  have hr := B.returns
  have hts := atoms_spec (ws := wsX2_needStage) B.pre
  have hown : s9.vm.findClass RX2 = some m9.cls := findClass_of_methodNamed B.named
  have hlocks := B.notSynchronized
  have hA : ∀ a ∈ zLC q, (fun a => a ∈ zLC q) a := fun _ h => h
  have hl := lv_entry ([.ref (q 0), .int (zI g), .int (zI s)]) (n := 3) (Nat.le_of_ble_eq_true rfl)
  have hE : entryFrame m9 ag9 3 = F0 m9 0 ((lg_sl ([.ref (q 0), .int (zI g), .int (zI s)]) ++ List.replicate (3 - (lg_sl ([.ref (q 0), .int (zI g), .int (zI s)])).length) Slot.unset).toArray) [] := by rw [hav]; exact lg_entry_eq m9 _ _
  obtain ⟨Q0, hQ0⟩ : ∃ Q0, Q0 = MQ below (zQ D (wC cI cZ q pa sp al dg co da mb dd ah wl lo n td wn) none (zLC q)) ag9 s9 0 0 (fun a => a ∈ zLC q) := ⟨_, rfl⟩
  show W p0 l e9 ({ frames := 7, cells := 0, slots := 0, locals := 111 }) s9 m9 ag9 below meth c9 s9.heap [] 0 0 (MQ below (zQ D (wC cI cZ q pa sp al dg co da mb dd ah wl lo n td wn) none (zLC q)) ag9 s9 0 0 (fun a => a ∈ zLC q)) _
  rw [hE, ← hQ0]
  have hS : va_S (fun a => a ∈ zLC q) s9.heap s9.heap [] := va_S.rf
  generalize hH0 : s9.heap = H at hP ⊢
  have hS : va_S (fun a => a ∈ zLC q) s9.heap H [] := by rw [hH0] at hS ⊢; exact hS
  generalize (lg_sl ([.ref (q 0), .int (zI g), .int (zI s)]) ++ List.replicate (3 - (lg_sl ([.ref (q 0), .int (zI g), .int (zI s)])).length) Slot.unset).toArray = ls at hl ⊢
  have hl : lv_has ls 3 [(0, .ref (q 0)), (1, .int (zI g)), (2, .int (zI s))] := hl
  refine lv_aload_n hx hb dX2_needStage_0 rfl (lv_at hl 0 rfl) ?_
  refine lv_iload_n hx hb dX2_needStage_1 rfl (lv_at hl 1 rfl) ?_
  refine zcallV (ci := 2) (q0 := 0) (cq := (RX2, TX2, 9)) (As := [.int (zI g)]) (rest := []) ⟨hx, hb, hml, hown, hts⟩ hK (kX2_needDegreeok l D cI cZ q hN pa sp al dg co da mb dd ah wl lo n td wn g (by omega)) (cwV 1 hts gX2_needStage_X2_needDegree rfl rfl rfl (by decide +kernel) ⟨Nat.le_of_ble_eq_true rfl, Nat.le_of_ble_eq_true rfl⟩) hP hS hA rfl rfl rfl hl.1 rfl (Nat.le_of_ble_eq_true rfl) dX2_needStage_2 ⟨Nat.zero_le _, Nat.zero_le _⟩ (fun H locs hP hS _ _ => ?_)
  refine W.eq (g2 := F0 m9 5 ls []) rfl ?_
  refine lv_iload_n hx hb dX2_needStage_5 rfl (lv_at hl 2 rfl) ?_
  refine zr_if_lt (tgt := 14) hx hb dX2_needStage_6 (by decide) ⟨by omega, by omega⟩ (fun c_1 => ?_) (fun c_1 => ?_)
  · have c_1 := c_1
    exfalso; omega
  · have c_1 := c_1
    refine lv_iload_n hx hb dX2_needStage_9 rfl (lv_at hl 2 rfl) ?_
    refine zr_iconst hx hb dX2_needStage_10 ?_
    refine zr_icmp_lt (tgt := 25) hx hb dX2_needStage_11 (by decide) ⟨by omega, by omega⟩ ⟨by decide, by decide⟩ (fun c_2 => ?_) (fun c_2 => ?_)
    · have c_2 := c_2
      rw [hQ0]
      exact zret_v hx hb hr hlocks hP hS dX2_needStage_25
    · have c_2 := c_2
      exfalso; omega
set_option maxHeartbeats 4000000 in
set_option maxRecDepth 100000 in
theorem kX2_leftFor (l : Launch) (D : va_G) (cI cZ : ClassId) (q : Nat → Nat) (hN : (zLC q).Nodup) (pa : Int → Int) (sp : Int → Int) (al : Int → Int) (dg : Int → Int) (co : Int → Int) (da : Int → Int) (mb : Int → Int) (dd : Int → Int) (ah : Int → Int) (wl : Int → Int) (lo : Int → Int) (n : Nat) (td : Int) (wn : Int) (hda : ∀ j : Int, 0 ≤ da j ∧ da j ≤ 60) (hmb : ∀ j : Int, 0 ≤ mb j ∧ mb j ≤ 4) (hdd : ∀ j : Int, 0 ≤ dd j ∧ dd j ≤ 1000000) (htd : 0 ≤ td ∧ td ≤ 1000000) (p : Int) (d : Int) (h1 : 0 ≤ p ∧ p < 16) (h2 : 0 ≤ d ∧ d < 16) : zM l yX2_leftFor wsX2_leftFor ({ frames := 2, cells := 0, slots := 0, locals := 46 }) D [(cI, .int), (cZ, .boolean)] [.ref (q 0), .int (zI p), .int (zI d)] (wC cI cZ q pa sp al dg co da mb dd ah wl lo n td wn) (wC cI cZ q pa sp al dg co da mb dd ah wl lo n td wn) (some (.int (zI (lf da mb dd td p d)))) (zLC q) := by
  refine Met.ofW (cc := cX2_leftFor) (maxL := 4) (ret := (some .int)) (by decide) rfl ?_
  intro p0 e9 s9 m9 ag9 below meth c9 s₁ B hml hv
  obtain ⟨hav, hP, hK⟩ := hv
  have hx := B.exec
  have hb := B.bytes
  have hr := B.returns
  have hts := atoms_spec (ws := wsX2_leftFor) B.pre
  have hown : s9.vm.findClass RX2 = some m9.cls := findClass_of_methodNamed B.named
  have hlocks := B.notSynchronized
  have hA : ∀ a ∈ zLC q, (fun a => a ∈ zLC q) a := fun _ h => h
  have hin2 : ∀ w ∈ u_ws RX2 TX2 9, w ∈ wsX2_leftFor := by decide +kernel
  have hl := lv_entry ([.ref (q 0), .int (zI p), .int (zI d)]) (n := 4) (Nat.le_of_ble_eq_true rfl)
  have hE : entryFrame m9 ag9 4 = F0 m9 0 ((lg_sl ([.ref (q 0), .int (zI p), .int (zI d)]) ++ List.replicate (4 - (lg_sl ([.ref (q 0), .int (zI p), .int (zI d)])).length) Slot.unset).toArray) [] := by rw [hav]; exact lg_entry_eq m9 _ _
  obtain ⟨Q0, hQ0⟩ : ∃ Q0, Q0 = MQ below (zQ D (wC cI cZ q pa sp al dg co da mb dd ah wl lo n td wn) (some (.int (zI (lf da mb dd td p d)))) (zLC q)) ag9 s9 0 0 (fun a => a ∈ zLC q) := ⟨_, rfl⟩
  show W p0 l e9 ({ frames := 2, cells := 0, slots := 0, locals := 46 }) s9 m9 ag9 below meth c9 s9.heap [] 0 0 (MQ below (zQ D (wC cI cZ q pa sp al dg co da mb dd ah wl lo n td wn) (some (.int (zI (lf da mb dd td p d)))) (zLC q)) ag9 s9 0 0 (fun a => a ∈ zLC q)) _
  rw [hE, ← hQ0]
  have hS : va_S (fun a => a ∈ zLC q) s9.heap s9.heap [] := va_S.rf
  generalize hH0 : s9.heap = H at hP ⊢
  have hS : va_S (fun a => a ∈ zLC q) s9.heap H [] := by rw [hH0] at hS ⊢; exact hS
  generalize (lg_sl ([.ref (q 0), .int (zI p), .int (zI d)]) ++ List.replicate (4 - (lg_sl ([.ref (q 0), .int (zI p), .int (zI d)])).length) Slot.unset).toArray = ls at hl ⊢
  have hl : lv_has ls 4 [(0, .ref (q 0)), (1, .int (zI p)), (2, .int (zI d))] := hl
  refine lv_aload_n hx hb dX2_leftFor_0 rfl (lv_at hl 0 rfl) ?_
  refine va_get (D := D) (ci := 2) (v := .ref (q 2)) (C := RX2) (T := TX2) (N := 9) hx hb hts hin2 hown hK hP 0 rfl rfl 1 (by decide) (hts (.fieldLink RX2 19 "MourningRibbons" "codes" "LMourningRibbons$Codes;") (by decide +kernel)) (fun _ h9 => h9) rfl dX2_leftFor_1 ?_
  refine lv_iload_n hx hb dX2_leftFor_4 rfl (lv_at hl 2 rfl) ?_
  refine lv_aload_n hx hb dX2_leftFor_5 rfl (lv_at hl 0 rfl) ?_
  refine va_get (D := D) (ci := 2) (v := .ref (q 3)) (C := RX2) (T := TX2) (N := 9) hx hb hts hin2 hown hK hP 0 rfl rfl 2 (by decide) (hts (.fieldLink RX2 23 "MourningRibbons" "mournedBy" "[I") (by decide +kernel)) (fun _ h9 => h9) rfl dX2_leftFor_6 ?_
  refine lv_iload_n hx hb dX2_leftFor_9 rfl (lv_at hl 1 rfl) ?_
  refine lv_iload_n hx hb dX2_leftFor_10 rfl (lv_at hl 2 rfl) ?_
  refine zcallP (As := [.int (zI p), .int (zI d)]) (rest := [.ref (q 3), .int (zI d), .ref (q 2)]) ⟨hx, hb, hml, hown, hts⟩ (kX2_pair l D p d) hK (va_cwS 2 hts gX2_leftFor_X2_pair rfl rfl rfl (by decide +kernel) ⟨Nat.le_of_ble_eq_true rfl, Nat.le_of_ble_eq_true rfl⟩) hP hS rfl hl.1 rfl (Nat.le_of_ble_eq_true rfl) dX2_leftFor_11 ⟨Nat.zero_le _, Nat.zero_le _⟩ (fun H locs hP hS => ?_)
  refine W.eq (g2 := F0 m9 14 ls [.int (zI (p * 16 + d)), .ref (q 3), .int (zI d), .ref (q 2)]) rfl ?_
  refine zr_iald (f := mb) (n := 256) hx hb hK hP 3 0 rfl rfl (by decide) (i := p * 16 + d) (by omega) (by omega) dX2_leftFor_14 ?_
  have b_1 := hmb (p * 16 + d)
  refine zcallV (ci := 0) (q0 := 2) (cq := (RX0, TX0, 2)) (As := [.int (zI d), .int (zI (mb (p * 16 + d)))]) (rest := []) ⟨hx, hb, hml, hown, hts⟩ hK (kX0_daysOfAll l D cI cZ q hN pa sp al dg co da mb dd ah wl lo n td wn hda d (mb (p * 16 + d)) (by omega) (by omega)) (cwV 2 hts gX2_leftFor_X0_daysOfAll rfl rfl rfl (by decide +kernel) ⟨Nat.le_of_ble_eq_true rfl, Nat.le_of_ble_eq_true rfl⟩) hP hS hA rfl rfl rfl hl.1 rfl (Nat.le_of_ble_eq_true rfl) dX2_leftFor_15 ⟨Nat.zero_le _, Nat.zero_le _⟩ (fun H locs hP hS _ _ => ?_)
  refine W.eq (g2 := F0 m9 18 ls [.int (zI (dAll da d (mb (p * 16 + d))))]) rfl ?_
  have f_2 := dAll_bx da hda d (mb (p * 16 + d))
  refine lv_istore_n (lv' := [(3, .int (zI (dAll da d (mb (p * 16 + d))))), (0, .ref (q 0)), (1, .int (zI p)), (2, .int (zI d))]) hx hb dX2_leftFor_18 rfl hl (by decide) rfl (fun ls hl => ?_)
  refine zr_iconst hx hb dX2_leftFor_19 ?_
  refine lv_iload_n hx hb dX2_leftFor_20 rfl (lv_at hl 0 rfl) ?_
  refine lv_aload_n hx hb dX2_leftFor_21 rfl (lv_at hl 1 rfl) ?_
  refine va_get (D := D) (ci := 2) (v := .int (zI td)) (C := RX2) (T := TX2) (N := 9) hx hb hts hin2 hown hK hP 0 rfl rfl 4 (by decide) (hts (.fieldLink RX2 105 "MourningRibbons" "today" "I") (by decide +kernel)) (fun _ h9 => h9) rfl dX2_leftFor_22 ?_
  refine lv_aload_n hx hb dX2_leftFor_25 rfl (lv_at hl 1 rfl) ?_
  refine va_get (D := D) (ci := 2) (v := .ref (q 4)) (C := RX2) (T := TX2) (N := 9) hx hb hts hin2 hown hK hP 0 rfl rfl 3 (by decide) (hts (.fieldLink RX2 27 "MourningRibbons" "deathDay" "[I") (by decide +kernel)) (fun _ h9 => h9) rfl dX2_leftFor_26 ?_
  refine lv_iload_n hx hb dX2_leftFor_29 rfl (lv_at hl 3 rfl) ?_
  refine zr_iald (f := dd) (n := 16) hx hb hK hP 4 0 rfl rfl (by decide) (i := d) (by omega) (by omega) dX2_leftFor_30 ?_
  have b_3 := hdd d
  refine zr_isub (v := td - (dd d)) hx hb rfl dX2_leftFor_31 ?_
  refine zr_isub (v := (dAll da d (mb (p * 16 + d))) - (td - (dd d))) hx hb rfl dX2_leftFor_32 ?_
  refine zr_mmax hx hb (by rw [hml, hl.1]) hown (hts (.methodLink RX2 181 Lib.Math.max.name) (by decide +kernel)) (hts (.static Lib.Math.max.name) (by decide +kernel)) (hts (.initialized "java/lang/Math") (by decide +kernel)) (hts (.code Lib.Math.max.name Lib.Math.max.code 2 (some .int)) (by decide +kernel)) (Nat.le_of_ble_eq_true rfl) (Nat.le_of_ble_eq_true rfl) (Nat.zero_le _) (Nat.zero_le _) ⟨by decide, by decide⟩ ⟨by omega, by omega⟩ dX2_leftFor_33 ?_
  rw [hQ0]
  exact zret_i hx hb hr hlocks (rfl) hP hS dX2_leftFor_36
set_option maxHeartbeats 4000000 in
set_option maxRecDepth 100000 in
theorem kX2_longestLeft (l : Launch) (D : va_G) (cI cZ : ClassId) (q : Nat → Nat) (hN : (zLC q).Nodup) (pa : Int → Int) (sp : Int → Int) (al : Int → Int) (dg : Int → Int) (co : Int → Int) (da : Int → Int) (mb : Int → Int) (dd : Int → Int) (ah : Int → Int) (wl : Int → Int) (lo : Int → Int) (n : Nat) (td : Int) (wn : Int) (hn : n ≤ 16) (hda : ∀ j : Int, 0 ≤ da j ∧ da j ≤ 60) (hmb : ∀ j : Int, 0 ≤ mb j ∧ mb j ≤ 4) (hdd : ∀ j : Int, 0 ≤ dd j ∧ dd j ≤ 1000000) (htd : 0 ≤ td ∧ td ≤ 1000000) (p : Int) (h1 : 0 ≤ p ∧ p < 16) : zM l yX2_longestLeft wsX2_longestLeft ({ frames := 3, cells := 0, slots := 0, locals := 69 }) D [(cI, .int), (cZ, .boolean)] [.ref (q 0), .int (zI p)] (wC cI cZ q pa sp al dg co da mb dd ah wl lo n td wn) (wC cI cZ q pa sp al dg co da mb dd ah wl lo n td wn) (some (.int (zI (mxF (lf da mb dd td p) n)))) (zLC q) := by
  refine Met.ofW (cc := cX2_longestLeft) (maxL := 4) (ret := (some .int)) (by decide) rfl ?_
  intro p0 e9 s9 m9 ag9 below meth c9 s₁ B hml hv
  obtain ⟨hav, hP, hK⟩ := hv
  have hx := B.exec
  have hb := B.bytes
  have hr := B.returns
  have hts := atoms_spec (ws := wsX2_longestLeft) B.pre
  have hown : s9.vm.findClass RX2 = some m9.cls := findClass_of_methodNamed B.named
  have hlocks := B.notSynchronized
  have hA : ∀ a ∈ zLC q, (fun a => a ∈ zLC q) a := fun _ h => h
  have hin1 : ∀ w ∈ u_ws RX1 TX1 5, w ∈ wsX2_longestLeft := by decide +kernel
  have hin2 : ∀ w ∈ u_ws RX2 TX2 9, w ∈ wsX2_longestLeft := by decide +kernel
  have hl := lv_entry ([.ref (q 0), .int (zI p)]) (n := 4) (Nat.le_of_ble_eq_true rfl)
  have hE : entryFrame m9 ag9 4 = F0 m9 0 ((lg_sl ([.ref (q 0), .int (zI p)]) ++ List.replicate (4 - (lg_sl ([.ref (q 0), .int (zI p)])).length) Slot.unset).toArray) [] := by rw [hav]; exact lg_entry_eq m9 _ _
  obtain ⟨Q0, hQ0⟩ : ∃ Q0, Q0 = MQ below (zQ D (wC cI cZ q pa sp al dg co da mb dd ah wl lo n td wn) (some (.int (zI (mxF (lf da mb dd td p) n)))) (zLC q)) ag9 s9 0 0 (fun a => a ∈ zLC q) := ⟨_, rfl⟩
  show W p0 l e9 ({ frames := 3, cells := 0, slots := 0, locals := 69 }) s9 m9 ag9 below meth c9 s9.heap [] 0 0 (MQ below (zQ D (wC cI cZ q pa sp al dg co da mb dd ah wl lo n td wn) (some (.int (zI (mxF (lf da mb dd td p) n)))) (zLC q)) ag9 s9 0 0 (fun a => a ∈ zLC q)) _
  rw [hE, ← hQ0]
  have hS : va_S (fun a => a ∈ zLC q) s9.heap s9.heap [] := va_S.rf
  generalize hH0 : s9.heap = H at hP ⊢
  have hS : va_S (fun a => a ∈ zLC q) s9.heap H [] := by rw [hH0] at hS ⊢; exact hS
  generalize (lg_sl ([.ref (q 0), .int (zI p)]) ++ List.replicate (4 - (lg_sl ([.ref (q 0), .int (zI p)])).length) Slot.unset).toArray = ls at hl ⊢
  have hl : lv_has ls 4 [(0, .ref (q 0)), (1, .int (zI p))] := hl
  refine zr_iconst hx hb dX2_longestLeft_0 ?_
  refine lv_istore_n (lv' := [(2, .int (zI 0)), (0, .ref (q 0)), (1, .int (zI p))]) hx hb dX2_longestLeft_1 rfl hl (by decide) rfl (fun ls hl => ?_)
  refine zr_iconst hx hb dX2_longestLeft_2 ?_
  refine lv_istore_n (lv' := [(3, .int (zI 0)), (2, .int (zI 0)), (0, .ref (q 0)), (1, .int (zI p))]) hx hb dX2_longestLeft_3 rfl hl (by decide) rfl (fun ls hl => ?_)
  have L4_1 : ∀ (kf i : Nat), i ≤ n → n - i < kf → ∀ (H : Heap) (locs : List Loc) (ls : Array Slot), va_P D vwCl (wC cI cZ q pa sp al dg co da mb dd ah wl lo n td wn) H → va_S (fun a => a ∈ zLC q) s9.heap H locs → lv_has ls 4 [(3, .int (zI (i : Int))), (2, .int (zI (mxF (lf da mb dd td p) i))), (0, .ref (q 0)), (1, .int (zI p))] → W p0 l e9 ({ frames := 3, cells := 0, slots := 0, locals := 69 }) s9 m9 ag9 below meth c9 H locs 0 0 Q0 (F0 m9 4 ls []) := by
    intro kf
    induction kf with
    | zero => intro i h1 h2; omega
    | succ kf ih =>
      intro i hi_i hk_i H locs ls hP hS hl
      have ih_i := ih
      clear ih
      have hm := mxF_bd (f := lf da mb dd td p) (k := i) (B := 1000180) (by decide) (fun j => (lf_180 hda hdd htd mb p j).2)
      refine lv_iload_n hx hb dX2_longestLeft_4 rfl (lv_at hl 0 rfl) ?_
      refine lv_aload_n hx hb dX2_longestLeft_5 rfl (lv_at hl 2 rfl) ?_
      refine va_get (D := D) (ci := 2) (v := .ref (q 1)) (C := RX2) (T := TX2) (N := 9) hx hb hts hin2 hown hK hP 0 rfl rfl 0 (by decide) (hts (.fieldLink RX2 12 "MourningRibbons" "family" "LMourningRibbons$Family;") (by decide +kernel)) (fun _ h9 => h9) rfl dX2_longestLeft_6 ?_
      refine va_get (D := D) (ci := 1) (v := .int (zI (n : Int))) (C := RX1) (T := TX1) (N := 5) hx hb hts hin1 hown hK hP 1 rfl rfl 3 (by decide) (hts (.fieldLink RX2 128 "MourningRibbons$Family" "count" "I") (by decide +kernel)) (fun _ h9 => h9) rfl dX2_longestLeft_9 ?_
      refine zr_icmp_ge (tgt := 32) hx hb dX2_longestLeft_12 (by decide) ⟨by omega, by omega⟩ ⟨by omega, by omega⟩ (fun c_2 => ?_) (fun c_2 => ?_)
      · have c_2 := c_2
        have x_3 : i = n := by omega
        try rw [x_3] at hP
        try rw [x_3] at hl
        refine lv_iload_n hx hb dX2_longestLeft_32 rfl (lv_at hl 1 rfl) ?_
        rw [hQ0]
        exact zret_i hx hb hr hlocks (rfl) hP hS dX2_longestLeft_33
      · have c_2 := c_2
        refine lv_iload_n hx hb dX2_longestLeft_15 rfl (lv_at hl 1 rfl) ?_
        refine lv_aload_n hx hb dX2_longestLeft_16 rfl (lv_at hl 2 rfl) ?_
        refine lv_iload_n hx hb dX2_longestLeft_17 rfl (lv_at hl 3 rfl) ?_
        refine lv_iload_n hx hb dX2_longestLeft_18 rfl (lv_at hl 0 rfl) ?_
        refine zcallV (ci := 2) (q0 := 0) (cq := (RX2, TX2, 9)) (As := [.int (zI p), .int (zI (i : Int))]) (rest := [.int (zI (mxF (lf da mb dd td p) i))]) ⟨hx, hb, hml, hown, hts⟩ hK (kX2_leftFor l D cI cZ q hN pa sp al dg co da mb dd ah wl lo n td wn hda hmb hdd htd p (i : Int) (by omega) (by omega)) (cwV 2 hts gX2_longestLeft_X2_leftFor rfl rfl rfl (by decide +kernel) ⟨Nat.le_of_ble_eq_true rfl, Nat.le_of_ble_eq_true rfl⟩) hP hS hA rfl rfl rfl hl.1 rfl (Nat.le_of_ble_eq_true rfl) dX2_longestLeft_19 ⟨Nat.zero_le _, Nat.zero_le _⟩ (fun H locs hP hS _ _ => ?_)
        refine W.eq (g2 := F0 m9 22 ls [.int (zI (lf da mb dd td p (i : Int))), .int (zI (mxF (lf da mb dd td p) i))]) rfl ?_
        have f_4 := lf_180 hda hdd htd mb p (i : Int)
        refine zr_mmax hx hb (by rw [hml, hl.1]) hown (hts (.methodLink RX2 181 Lib.Math.max.name) (by decide +kernel)) (hts (.static Lib.Math.max.name) (by decide +kernel)) (hts (.initialized "java/lang/Math") (by decide +kernel)) (hts (.code Lib.Math.max.name Lib.Math.max.code 2 (some .int)) (by decide +kernel)) (Nat.le_of_ble_eq_true rfl) (Nat.le_of_ble_eq_true rfl) (Nat.zero_le _) (Nat.zero_le _) ⟨by omega, by omega⟩ ⟨by omega, by omega⟩ dX2_longestLeft_22 ?_
        refine lv_istore_n (lv' := [(2, .int (zI (max (mxF (lf da mb dd td p) i) (lf da mb dd td p (i : Int))))), (3, .int (zI (i : Int))), (0, .ref (q 0)), (1, .int (zI p))]) hx hb dX2_longestLeft_25 rfl hl (by decide) rfl (fun ls hl => ?_)
        refine zr_iinc (v := (i : Int) + 1) (lv' := [(3, .int (zI ((i : Int) + 1))), (2, .int (zI (max (mxF (lf da mb dd td p) i) (lf da mb dd td p (i : Int))))), (0, .ref (q 0)), (1, .int (zI p))]) hx hb dX2_longestLeft_26 hl (k := 1) rfl rfl (by decide) rfl (fun ls hl => ?_)
        refine lv_goto (tgt := 4) hx hb dX2_longestLeft_29 (by decide) ?_
        have hl := lv_sub hl (l' := [(3, .int (zI ((i : Int) + 1))), (2, .int (zI (max (mxF (lf da mb dd td p) i) (lf da mb dd td p (i : Int))))), (0, .ref (q 0)), (1, .int (zI p))]) [0, 1, 2, 3] rfl
        have e_5 : ((((i + 1) : Nat) : Int) : Int) = (i : Int) + 1 := by omega
        have e_6 : (mxF (lf da mb dd td p) (i + 1) : Int) = max (mxF (lf da mb dd td p) i) (lf da mb dd td p (i : Int)) := rfl
        have hl : lv_has ls 4 [(3, .int (zI (((i + 1) : Nat) : Int))), (2, .int (zI (mxF (lf da mb dd td p) (i + 1)))), (0, .ref (q 0)), (1, .int (zI p))] := by rw [e_5, e_6]; exact hl
        exact ih_i (i + 1) (by omega) (by omega) _ _ _ hP hS hl
  have hl := lv_sub hl (l' := [(3, .int (zI 0)), (2, .int (zI 0)), (0, .ref (q 0)), (1, .int (zI p))]) [0, 1, 2, 3] rfl
  have e_7 : (mxF (lf da mb dd td p) 0 : Int) = 0 := rfl
  have hl : lv_has ls 4 [(3, .int (zI 0)), (2, .int (zI (mxF (lf da mb dd td p) 0))), (0, .ref (q 0)), (1, .int (zI p))] := by rw [e_7]; exact hl
  exact L4_1 (n + 1) 0 (Nat.zero_le _) (by omega) _ _ _ hP hS hl
set_option maxHeartbeats 4000000 in
set_option maxRecDepth 100000 in
theorem kX2_countMournings (l : Launch) (D : va_G) (cI cZ : ClassId) (q : Nat → Nat) (hN : (zLC q).Nodup) (pa : Int → Int) (sp : Int → Int) (al : Int → Int) (dg : Int → Int) (co : Int → Int) (da : Int → Int) (mb : Int → Int) (dd : Int → Int) (ah : Int → Int) (wl : Int → Int) (lo : Int → Int) (n : Nat) (td : Int) (wn : Int) (hn : n ≤ 16) (hda : ∀ j : Int, 0 ≤ da j ∧ da j ≤ 60) (hmb : ∀ j : Int, 0 ≤ mb j ∧ mb j ≤ 4) (hdd : ∀ j : Int, 0 ≤ dd j ∧ dd j ≤ 1000000) (htd : 0 ≤ td ∧ td ≤ 1000000) (p : Int) (h1 : 0 ≤ p ∧ p < 16) : zM l yX2_countMournings wsX2_countMournings ({ frames := 3, cells := 0, slots := 0, locals := 69 }) D [(cI, .int), (cZ, .boolean)] [.ref (q 0), .int (zI p)] (wC cI cZ q pa sp al dg co da mb dd ah wl lo n td wn) (wC cI cZ q pa sp al dg co da mb dd ah wl lo n td wn) (some (.int (zI (smF (gtF (lf da mb dd td p)) n)))) (zLC q) := by
  refine Met.ofW (cc := cX2_countMournings) (maxL := 4) (ret := (some .int)) (by decide) rfl ?_
  intro p0 e9 s9 m9 ag9 below meth c9 s₁ B hml hv
  obtain ⟨hav, hP, hK⟩ := hv
  have hx := B.exec
  have hb := B.bytes
  have hr := B.returns
  have hts := atoms_spec (ws := wsX2_countMournings) B.pre
  have hown : s9.vm.findClass RX2 = some m9.cls := findClass_of_methodNamed B.named
  have hlocks := B.notSynchronized
  have hA : ∀ a ∈ zLC q, (fun a => a ∈ zLC q) a := fun _ h => h
  have hin1 : ∀ w ∈ u_ws RX1 TX1 5, w ∈ wsX2_countMournings := by decide +kernel
  have hin2 : ∀ w ∈ u_ws RX2 TX2 9, w ∈ wsX2_countMournings := by decide +kernel
  have hl := lv_entry ([.ref (q 0), .int (zI p)]) (n := 4) (Nat.le_of_ble_eq_true rfl)
  have hE : entryFrame m9 ag9 4 = F0 m9 0 ((lg_sl ([.ref (q 0), .int (zI p)]) ++ List.replicate (4 - (lg_sl ([.ref (q 0), .int (zI p)])).length) Slot.unset).toArray) [] := by rw [hav]; exact lg_entry_eq m9 _ _
  obtain ⟨Q0, hQ0⟩ : ∃ Q0, Q0 = MQ below (zQ D (wC cI cZ q pa sp al dg co da mb dd ah wl lo n td wn) (some (.int (zI (smF (gtF (lf da mb dd td p)) n)))) (zLC q)) ag9 s9 0 0 (fun a => a ∈ zLC q) := ⟨_, rfl⟩
  show W p0 l e9 ({ frames := 3, cells := 0, slots := 0, locals := 69 }) s9 m9 ag9 below meth c9 s9.heap [] 0 0 (MQ below (zQ D (wC cI cZ q pa sp al dg co da mb dd ah wl lo n td wn) (some (.int (zI (smF (gtF (lf da mb dd td p)) n)))) (zLC q)) ag9 s9 0 0 (fun a => a ∈ zLC q)) _
  rw [hE, ← hQ0]
  have hS : va_S (fun a => a ∈ zLC q) s9.heap s9.heap [] := va_S.rf
  generalize hH0 : s9.heap = H at hP ⊢
  have hS : va_S (fun a => a ∈ zLC q) s9.heap H [] := by rw [hH0] at hS ⊢; exact hS
  generalize (lg_sl ([.ref (q 0), .int (zI p)]) ++ List.replicate (4 - (lg_sl ([.ref (q 0), .int (zI p)])).length) Slot.unset).toArray = ls at hl ⊢
  have hl : lv_has ls 4 [(0, .ref (q 0)), (1, .int (zI p))] := hl
  refine zr_iconst hx hb dX2_countMournings_0 ?_
  refine lv_istore_n (lv' := [(2, .int (zI 0)), (0, .ref (q 0)), (1, .int (zI p))]) hx hb dX2_countMournings_1 rfl hl (by decide) rfl (fun ls hl => ?_)
  refine zr_iconst hx hb dX2_countMournings_2 ?_
  refine lv_istore_n (lv' := [(3, .int (zI 0)), (2, .int (zI 0)), (0, .ref (q 0)), (1, .int (zI p))]) hx hb dX2_countMournings_3 rfl hl (by decide) rfl (fun ls hl => ?_)
  have L4_1 : ∀ (kf i : Nat), i ≤ n → n - i < kf → ∀ (H : Heap) (locs : List Loc) (ls : Array Slot), va_P D vwCl (wC cI cZ q pa sp al dg co da mb dd ah wl lo n td wn) H → va_S (fun a => a ∈ zLC q) s9.heap H locs → lv_has ls 4 [(3, .int (zI (i : Int))), (2, .int (zI (smF (gtF (lf da mb dd td p)) i))), (0, .ref (q 0)), (1, .int (zI p))] → W p0 l e9 ({ frames := 3, cells := 0, slots := 0, locals := 69 }) s9 m9 ag9 below meth c9 H locs 0 0 Q0 (F0 m9 4 ls []) := by
    intro kf
    induction kf with
    | zero => intro i h1 h2; omega
    | succ kf ih =>
      intro i hi_i hk_i H locs ls hP hS hl
      have ih_i := ih
      clear ih
      refine lv_iload_n hx hb dX2_countMournings_4 rfl (lv_at hl 0 rfl) ?_
      refine lv_aload_n hx hb dX2_countMournings_5 rfl (lv_at hl 2 rfl) ?_
      refine va_get (D := D) (ci := 2) (v := .ref (q 1)) (C := RX2) (T := TX2) (N := 9) hx hb hts hin2 hown hK hP 0 rfl rfl 0 (by decide) (hts (.fieldLink RX2 12 "MourningRibbons" "family" "LMourningRibbons$Family;") (by decide +kernel)) (fun _ h9 => h9) rfl dX2_countMournings_6 ?_
      refine va_get (D := D) (ci := 1) (v := .int (zI (n : Int))) (C := RX1) (T := TX1) (N := 5) hx hb hts hin1 hown hK hP 1 rfl rfl 3 (by decide) (hts (.fieldLink RX2 128 "MourningRibbons$Family" "count" "I") (by decide +kernel)) (fun _ h9 => h9) rfl dX2_countMournings_9 ?_
      refine zr_icmp_ge (tgt := 33) hx hb dX2_countMournings_12 (by decide) ⟨by omega, by omega⟩ ⟨by omega, by omega⟩ (fun c_2 => ?_) (fun c_2 => ?_)
      · have c_2 := c_2
        have x_3 : i = n := by omega
        try rw [x_3] at hP
        try rw [x_3] at hl
        refine lv_iload_n hx hb dX2_countMournings_33 rfl (lv_at hl 1 rfl) ?_
        rw [hQ0]
        exact zret_i hx hb hr hlocks (rfl) hP hS dX2_countMournings_34
      · have c_2 := c_2
        refine lv_aload_n hx hb dX2_countMournings_15 rfl (lv_at hl 2 rfl) ?_
        refine lv_iload_n hx hb dX2_countMournings_16 rfl (lv_at hl 3 rfl) ?_
        refine lv_iload_n hx hb dX2_countMournings_17 rfl (lv_at hl 0 rfl) ?_
        refine zcallV (ci := 2) (q0 := 0) (cq := (RX2, TX2, 9)) (As := [.int (zI p), .int (zI (i : Int))]) (rest := []) ⟨hx, hb, hml, hown, hts⟩ hK (kX2_leftFor l D cI cZ q hN pa sp al dg co da mb dd ah wl lo n td wn hda hmb hdd htd p (i : Int) (by omega) (by omega)) (cwV 2 hts gX2_countMournings_X2_leftFor rfl rfl rfl (by decide +kernel) ⟨Nat.le_of_ble_eq_true rfl, Nat.le_of_ble_eq_true rfl⟩) hP hS hA rfl rfl rfl hl.1 rfl (Nat.le_of_ble_eq_true rfl) dX2_countMournings_18 ⟨Nat.zero_le _, Nat.zero_le _⟩ (fun H locs hP hS _ _ => ?_)
        refine W.eq (g2 := F0 m9 21 ls [.int (zI (lf da mb dd td p (i : Int)))]) rfl ?_
        have f_4 := lf_180 hda hdd htd mb p (i : Int)
        refine zr_if_le (tgt := 27) hx hb dX2_countMournings_21 (by decide) ⟨by omega, by omega⟩ (fun c_5 => ?_) (fun c_5 => ?_)
        · have c_5 := c_5
          refine zr_iinc (v := (i : Int) + 1) (lv' := [(3, .int (zI ((i : Int) + 1))), (2, .int (zI (smF (gtF (lf da mb dd td p)) i))), (0, .ref (q 0)), (1, .int (zI p))]) hx hb dX2_countMournings_27 hl (k := 0) rfl rfl (by decide) rfl (fun ls hl => ?_)
          refine lv_goto (tgt := 4) hx hb dX2_countMournings_30 (by decide) ?_
          have hl := lv_sub hl (l' := [(3, .int (zI ((i : Int) + 1))), (2, .int (zI (smF (gtF (lf da mb dd td p)) i))), (0, .ref (q 0)), (1, .int (zI p))]) [0, 1, 2, 3] rfl
          have e_6 : ((((i + 1) : Nat) : Int) : Int) = (i : Int) + 1 := by omega
          have e_7 : (smF (gtF (lf da mb dd td p)) (i + 1) : Int) = smF (gtF (lf da mb dd td p)) i := by rw [smF_s]; unfold gtF; split <;> omega
          have hl : lv_has ls 4 [(3, .int (zI (((i + 1) : Nat) : Int))), (2, .int (zI (smF (gtF (lf da mb dd td p)) (i + 1)))), (0, .ref (q 0)), (1, .int (zI p))] := by rw [e_6, e_7]; exact hl
          exact ih_i (i + 1) (by omega) (by omega) _ _ _ hP hS hl
        · have c_5 := c_5
          refine zr_iinc (v := (smF (gtF (lf da mb dd td p)) i) + 1) (lv' := [(2, .int (zI ((smF (gtF (lf da mb dd td p)) i) + 1))), (3, .int (zI (i : Int))), (0, .ref (q 0)), (1, .int (zI p))]) hx hb dX2_countMournings_24 hl (k := 1) rfl rfl (by decide) rfl (fun ls hl => ?_)
          refine zr_iinc (v := (i : Int) + 1) (lv' := [(3, .int (zI ((i : Int) + 1))), (2, .int (zI ((smF (gtF (lf da mb dd td p)) i) + 1))), (0, .ref (q 0)), (1, .int (zI p))]) hx hb dX2_countMournings_27 hl (k := 1) rfl rfl (by decide) rfl (fun ls hl => ?_)
          refine lv_goto (tgt := 4) hx hb dX2_countMournings_30 (by decide) ?_
          have hl := lv_sub hl (l' := [(3, .int (zI ((i : Int) + 1))), (2, .int (zI ((smF (gtF (lf da mb dd td p)) i) + 1))), (0, .ref (q 0)), (1, .int (zI p))]) [0, 1, 2, 3] rfl
          have e_8 : ((((i + 1) : Nat) : Int) : Int) = (i : Int) + 1 := by omega
          have e_9 : (smF (gtF (lf da mb dd td p)) (i + 1) : Int) = (smF (gtF (lf da mb dd td p)) i) + 1 := by rw [smF_s]; unfold gtF; split <;> omega
          have hl : lv_has ls 4 [(3, .int (zI (((i + 1) : Nat) : Int))), (2, .int (zI (smF (gtF (lf da mb dd td p)) (i + 1)))), (0, .ref (q 0)), (1, .int (zI p))] := by rw [e_8, e_9]; exact hl
          exact ih_i (i + 1) (by omega) (by omega) _ _ _ hP hS hl
  have hl := lv_sub hl (l' := [(3, .int (zI 0)), (2, .int (zI 0)), (0, .ref (q 0)), (1, .int (zI p))]) [0, 1, 2, 3] rfl
  have e_10 : (smF (gtF (lf da mb dd td p)) 0 : Int) = 0 := rfl
  have hl : lv_has ls 4 [(3, .int (zI 0)), (2, .int (zI (smF (gtF (lf da mb dd td p)) 0))), (0, .ref (q 0)), (1, .int (zI p))] := by rw [e_10]; exact hl
  exact L4_1 (n + 1) 0 (Nat.zero_le _) (by omega) _ _ _ hP hS hl
set_option maxHeartbeats 4000000 in
set_option maxRecDepth 100000 in
theorem kX2_colourAfter (l : Launch) (D : va_G) (cI cZ : ClassId) (q : Nat → Nat) (hN : (zLC q).Nodup) (pa : Int → Int) (sp : Int → Int) (al : Int → Int) (dg : Int → Int) (co : Int → Int) (da : Int → Int) (mb : Int → Int) (dd : Int → Int) (ah : Int → Int) (wl : Int → Int) (lo : Int → Int) (n : Nat) (td : Int) (wn : Int) (hn : n ≤ 16) (hco : ∀ j : Int, 0 ≤ co j ∧ co j ≤ 5) (hda : ∀ j : Int, 0 ≤ da j ∧ da j ≤ 60) (hmb : ∀ j : Int, 0 ≤ mb j ∧ mb j ≤ 4) (hdd : ∀ j : Int, 0 ≤ dd j ∧ dd j ≤ 1000000) (htd : 0 ≤ td ∧ td ≤ 1000000) (p : Int) (t : Int) (h1 : 0 ≤ p ∧ p < 16) (h2 : 0 ≤ t ∧ t ≤ 1000000) : zM l yX2_colourAfter wsX2_colourAfter ({ frames := 2, cells := 0, slots := 0, locals := 48 }) D [(cI, .int), (cZ, .boolean)] [.ref (q 0), .int (zI p), .int (zI t)] (wC cI cZ q pa sp al dg co da mb dd ah wl lo n td wn) (wC cI cZ q pa sp al dg co da mb dd ah wl lo n td wn) (some (.int (zI (ca co da mb dd td n p t)))) (zLC q) := by
  refine Met.ofW (cc := cX2_colourAfter) (maxL := 6) (ret := (some .int)) (by decide) rfl ?_
  intro p0 e9 s9 m9 ag9 below meth c9 s₁ B hml hv
  obtain ⟨hav, hP, hK⟩ := hv
  have hx := B.exec
  have hb := B.bytes
  have hr := B.returns
  have hts := atoms_spec (ws := wsX2_colourAfter) B.pre
  have hown : s9.vm.findClass RX2 = some m9.cls := findClass_of_methodNamed B.named
  have hlocks := B.notSynchronized
  have hA : ∀ a ∈ zLC q, (fun a => a ∈ zLC q) a := fun _ h => h
  have hin1 : ∀ w ∈ u_ws RX1 TX1 5, w ∈ wsX2_colourAfter := by decide +kernel
  have hin2 : ∀ w ∈ u_ws RX2 TX2 9, w ∈ wsX2_colourAfter := by decide +kernel
  have hl := lv_entry ([.ref (q 0), .int (zI p), .int (zI t)]) (n := 6) (Nat.le_of_ble_eq_true rfl)
  have hE : entryFrame m9 ag9 6 = F0 m9 0 ((lg_sl ([.ref (q 0), .int (zI p), .int (zI t)]) ++ List.replicate (6 - (lg_sl ([.ref (q 0), .int (zI p), .int (zI t)])).length) Slot.unset).toArray) [] := by rw [hav]; exact lg_entry_eq m9 _ _
  obtain ⟨Q0, hQ0⟩ : ∃ Q0, Q0 = MQ below (zQ D (wC cI cZ q pa sp al dg co da mb dd ah wl lo n td wn) (some (.int (zI (ca co da mb dd td n p t)))) (zLC q)) ag9 s9 0 0 (fun a => a ∈ zLC q) := ⟨_, rfl⟩
  show W p0 l e9 ({ frames := 2, cells := 0, slots := 0, locals := 48 }) s9 m9 ag9 below meth c9 s9.heap [] 0 0 (MQ below (zQ D (wC cI cZ q pa sp al dg co da mb dd ah wl lo n td wn) (some (.int (zI (ca co da mb dd td n p t)))) (zLC q)) ag9 s9 0 0 (fun a => a ∈ zLC q)) _
  rw [hE, ← hQ0]
  have hS : va_S (fun a => a ∈ zLC q) s9.heap s9.heap [] := va_S.rf
  generalize hH0 : s9.heap = H at hP ⊢
  have hS : va_S (fun a => a ∈ zLC q) s9.heap H [] := by rw [hH0] at hS ⊢; exact hS
  generalize (lg_sl ([.ref (q 0), .int (zI p), .int (zI t)]) ++ List.replicate (6 - (lg_sl ([.ref (q 0), .int (zI p), .int (zI t)])).length) Slot.unset).toArray = ls at hl ⊢
  have hl : lv_has ls 6 [(0, .ref (q 0)), (1, .int (zI p)), (2, .int (zI t))] := hl
  refine zr_iconst hx hb dX2_colourAfter_0 ?_
  refine lv_istore_n (lv' := [(3, .int (zI 0)), (0, .ref (q 0)), (1, .int (zI p)), (2, .int (zI t))]) hx hb dX2_colourAfter_1 rfl hl (by decide) rfl (fun ls hl => ?_)
  refine zr_iconst hx hb dX2_colourAfter_2 ?_
  refine lv_istore (lv' := [(4, .int (zI 0)), (3, .int (zI 0)), (0, .ref (q 0)), (1, .int (zI p)), (2, .int (zI t))]) hx hb dX2_colourAfter_3 hl (by decide) rfl (fun ls hl => ?_)
  have L5_1 : ∀ (kf i : Nat), i ≤ n → n - i < kf → ∀ (H : Heap) (locs : List Loc) (ls : Array Slot), va_P D vwCl (wC cI cZ q pa sp al dg co da mb dd ah wl lo n td wn) H → va_S (fun a => a ∈ zLC q) s9.heap H locs → lv_has ls 6 [(4, .int (zI (i : Int))), (3, .int (zI (ca co da mb dd td i p t))), (0, .ref (q 0)), (1, .int (zI p)), (2, .int (zI t))] → W p0 l e9 ({ frames := 2, cells := 0, slots := 0, locals := 48 }) s9 m9 ag9 below meth c9 H locs 0 0 Q0 (F0 m9 5 ls []) := by
    intro kf
    induction kf with
    | zero => intro i h1 h2; omega
    | succ kf ih =>
      intro i hi_i hk_i H locs ls hP hS hl
      have ih_i := ih
      clear ih
      have hm := ca_bd hco da mb dd td i p t
      refine lv_iload hx hb dX2_colourAfter_5 (lv_at hl 0 rfl) ?_
      refine lv_aload_n hx hb dX2_colourAfter_7 rfl (lv_at hl 2 rfl) ?_
      refine va_get (D := D) (ci := 2) (v := .ref (q 1)) (C := RX2) (T := TX2) (N := 9) hx hb hts hin2 hown hK hP 0 rfl rfl 0 (by decide) (hts (.fieldLink RX2 12 "MourningRibbons" "family" "LMourningRibbons$Family;") (by decide +kernel)) (fun _ h9 => h9) rfl dX2_colourAfter_8 ?_
      refine va_get (D := D) (ci := 1) (v := .int (zI (n : Int))) (C := RX1) (T := TX1) (N := 5) hx hb hts hin1 hown hK hP 1 rfl rfl 3 (by decide) (hts (.fieldLink RX2 128 "MourningRibbons$Family" "count" "I") (by decide +kernel)) (fun _ h9 => h9) rfl dX2_colourAfter_11 ?_
      refine zr_icmp_ge (tgt := 66) hx hb dX2_colourAfter_14 (by decide) ⟨by omega, by omega⟩ ⟨by omega, by omega⟩ (fun c_2 => ?_) (fun c_2 => ?_)
      · have c_2 := c_2
        have x_3 : i = n := by omega
        try rw [x_3] at hP
        try rw [x_3] at hl
        refine lv_iload_n hx hb dX2_colourAfter_66 rfl (lv_at hl 1 rfl) ?_
        rw [hQ0]
        exact zret_i hx hb hr hlocks (rfl) hP hS dX2_colourAfter_67
      · have c_2 := c_2
        refine lv_aload_n hx hb dX2_colourAfter_17 rfl (lv_at hl 2 rfl) ?_
        refine va_get (D := D) (ci := 2) (v := .int (zI td)) (C := RX2) (T := TX2) (N := 9) hx hb hts hin2 hown hK hP 0 rfl rfl 4 (by decide) (hts (.fieldLink RX2 105 "MourningRibbons" "today" "I") (by decide +kernel)) (fun _ h9 => h9) rfl dX2_colourAfter_18 ?_
        refine lv_aload_n hx hb dX2_colourAfter_21 rfl (lv_at hl 2 rfl) ?_
        refine va_get (D := D) (ci := 2) (v := .ref (q 4)) (C := RX2) (T := TX2) (N := 9) hx hb hts hin2 hown hK hP 0 rfl rfl 3 (by decide) (hts (.fieldLink RX2 27 "MourningRibbons" "deathDay" "[I") (by decide +kernel)) (fun _ h9 => h9) rfl dX2_colourAfter_22 ?_
        refine lv_iload hx hb dX2_colourAfter_25 (lv_at hl 0 rfl) ?_
        refine zr_iald (f := dd) (n := 16) hx hb hK hP 4 0 rfl rfl (by decide) (i := (i : Int)) (by omega) (by omega) dX2_colourAfter_27 ?_
        have b_4 := hdd (i : Int)
        refine zr_isub (v := td - (dd (i : Int))) hx hb rfl dX2_colourAfter_28 ?_
        refine lv_iload_n hx hb dX2_colourAfter_29 rfl (lv_at hl 4 rfl) ?_
        refine zr_iadd (v := (td - (dd (i : Int))) + t) hx hb rfl dX2_colourAfter_30 ?_
        refine lv_istore (lv' := [(5, .int (zI ((td - (dd (i : Int))) + t))), (4, .int (zI (i : Int))), (3, .int (zI (ca co da mb dd td i p t))), (0, .ref (q 0)), (1, .int (zI p)), (2, .int (zI t))]) hx hb dX2_colourAfter_31 hl (by decide) rfl (fun ls hl => ?_)
        refine lv_iload_n hx hb dX2_colourAfter_33 rfl (lv_at hl 2 rfl) ?_
        refine lv_aload_n hx hb dX2_colourAfter_34 rfl (lv_at hl 3 rfl) ?_
        refine va_get (D := D) (ci := 2) (v := .ref (q 2)) (C := RX2) (T := TX2) (N := 9) hx hb hts hin2 hown hK hP 0 rfl rfl 1 (by decide) (hts (.fieldLink RX2 19 "MourningRibbons" "codes" "LMourningRibbons$Codes;") (by decide +kernel)) (fun _ h9 => h9) rfl dX2_colourAfter_35 ?_
        refine lv_iload hx hb dX2_colourAfter_38 (lv_at hl 1 rfl) ?_
        refine lv_aload_n hx hb dX2_colourAfter_40 rfl (lv_at hl 3 rfl) ?_
        refine va_get (D := D) (ci := 2) (v := .ref (q 3)) (C := RX2) (T := TX2) (N := 9) hx hb hts hin2 hown hK hP 0 rfl rfl 2 (by decide) (hts (.fieldLink RX2 23 "MourningRibbons" "mournedBy" "[I") (by decide +kernel)) (fun _ h9 => h9) rfl dX2_colourAfter_41 ?_
        refine lv_iload_n hx hb dX2_colourAfter_44 rfl (lv_at hl 4 rfl) ?_
        refine lv_iload hx hb dX2_colourAfter_45 (lv_at hl 1 rfl) ?_
        refine zcallP (As := [.int (zI p), .int (zI (i : Int))]) (rest := [.ref (q 3), .int (zI (i : Int)), .ref (q 2), .int (zI (ca co da mb dd td i p t))]) ⟨hx, hb, hml, hown, hts⟩ (kX2_pair l D p (i : Int)) hK (va_cwS 2 hts gX2_colourAfter_X2_pair rfl rfl rfl (by decide +kernel) ⟨Nat.le_of_ble_eq_true rfl, Nat.le_of_ble_eq_true rfl⟩) hP hS rfl hl.1 rfl (Nat.le_of_ble_eq_true rfl) dX2_colourAfter_47 ⟨Nat.zero_le _, Nat.zero_le _⟩ (fun H locs hP hS => ?_)
        refine W.eq (g2 := F0 m9 50 ls [.int (zI (p * 16 + (i : Int))), .ref (q 3), .int (zI (i : Int)), .ref (q 2), .int (zI (ca co da mb dd td i p t))]) rfl ?_
        refine zr_iald (f := mb) (n := 256) hx hb hK hP 3 0 rfl rfl (by decide) (i := p * 16 + (i : Int)) (by omega) (by omega) dX2_colourAfter_50 ?_
        have b_5 := hmb (p * 16 + (i : Int))
        refine lv_iload hx hb dX2_colourAfter_51 (lv_at hl 0 rfl) ?_
        refine zcallV (ci := 0) (q0 := 2) (cq := (RX0, TX0, 2)) (As := [.int (zI (i : Int)), .int (zI (mb (p * 16 + (i : Int)))), .int (zI ((td - (dd (i : Int))) + t))]) (rest := [.int (zI (ca co da mb dd td i p t))]) ⟨hx, hb, hml, hown, hts⟩ hK (kX0_colourOn l D cI cZ q hN pa sp al dg co da mb dd ah wl lo n td wn hco hda (i : Int) (mb (p * 16 + (i : Int))) ((td - (dd (i : Int))) + t) (by omega) (by omega) (by omega)) (cwV 3 hts gX2_colourAfter_X0_colourOn rfl rfl rfl (by decide +kernel) ⟨Nat.le_of_ble_eq_true rfl, Nat.le_of_ble_eq_true rfl⟩) hP hS hA rfl rfl rfl hl.1 rfl (Nat.le_of_ble_eq_true rfl) dX2_colourAfter_53 ⟨Nat.zero_le _, Nat.zero_le _⟩ (fun H locs hP hS _ _ => ?_)
        refine W.eq (g2 := F0 m9 56 ls [.int (zI (cOn co da (i : Int) (mb (p * 16 + (i : Int))) ((td - (dd (i : Int))) + t))), .int (zI (ca co da mb dd td i p t))]) rfl ?_
        have f_6 := cOn_bd hco da (i : Int) (mb (p * 16 + (i : Int))) ((td - (dd (i : Int))) + t)
        refine zr_mmax hx hb (by rw [hml, hl.1]) hown (hts (.methodLink RX2 181 Lib.Math.max.name) (by decide +kernel)) (hts (.static Lib.Math.max.name) (by decide +kernel)) (hts (.initialized "java/lang/Math") (by decide +kernel)) (hts (.code Lib.Math.max.name Lib.Math.max.code 2 (some .int)) (by decide +kernel)) (Nat.le_of_ble_eq_true rfl) (Nat.le_of_ble_eq_true rfl) (Nat.zero_le _) (Nat.zero_le _) ⟨by omega, by omega⟩ ⟨by omega, by omega⟩ dX2_colourAfter_56 ?_
        refine lv_istore_n (lv' := [(3, .int (zI (max (ca co da mb dd td i p t) (cOn co da (i : Int) (mb (p * 16 + (i : Int))) ((td - (dd (i : Int))) + t))))), (5, .int (zI ((td - (dd (i : Int))) + t))), (4, .int (zI (i : Int))), (0, .ref (q 0)), (1, .int (zI p)), (2, .int (zI t))]) hx hb dX2_colourAfter_59 rfl hl (by decide) rfl (fun ls hl => ?_)
        refine zr_iinc (v := (i : Int) + 1) (lv' := [(4, .int (zI ((i : Int) + 1))), (3, .int (zI (max (ca co da mb dd td i p t) (cOn co da (i : Int) (mb (p * 16 + (i : Int))) ((td - (dd (i : Int))) + t))))), (5, .int (zI ((td - (dd (i : Int))) + t))), (0, .ref (q 0)), (1, .int (zI p)), (2, .int (zI t))]) hx hb dX2_colourAfter_60 hl (k := 2) rfl rfl (by decide) rfl (fun ls hl => ?_)
        refine lv_goto (tgt := 5) hx hb dX2_colourAfter_63 (by decide) ?_
        have hl := lv_sub hl (l' := [(4, .int (zI ((i : Int) + 1))), (3, .int (zI (max (ca co da mb dd td i p t) (cOn co da (i : Int) (mb (p * 16 + (i : Int))) ((td - (dd (i : Int))) + t))))), (0, .ref (q 0)), (1, .int (zI p)), (2, .int (zI t))]) [0, 1, 3, 4, 5] rfl
        have e_7 : ((((i + 1) : Nat) : Int) : Int) = (i : Int) + 1 := by omega
        have e_8 : (ca co da mb dd td (i + 1) p t : Int) = max (ca co da mb dd td i p t) (cOn co da (i : Int) (mb (p * 16 + (i : Int))) ((td - (dd (i : Int))) + t)) := rfl
        have hl : lv_has ls 6 [(4, .int (zI (((i + 1) : Nat) : Int))), (3, .int (zI (ca co da mb dd td (i + 1) p t))), (0, .ref (q 0)), (1, .int (zI p)), (2, .int (zI t))] := by rw [e_7, e_8]; exact hl
        exact ih_i (i + 1) (by omega) (by omega) _ _ _ hP hS hl
  have hl := lv_sub hl (l' := [(4, .int (zI 0)), (3, .int (zI 0)), (0, .ref (q 0)), (1, .int (zI p)), (2, .int (zI t))]) [0, 1, 2, 3, 4] rfl
  have e_9 : (ca co da mb dd td 0 p t : Int) = 0 := rfl
  have hl : lv_has ls 6 [(4, .int (zI 0)), (3, .int (zI (ca co da mb dd td 0 p t))), (0, .ref (q 0)), (1, .int (zI p)), (2, .int (zI t))] := by rw [e_9]; exact hl
  exact L5_1 (n + 1) 0 (Nat.zero_le _) (by omega) _ _ _ hP hS hl
set_option maxHeartbeats 4000000 in
set_option maxRecDepth 100000 in
theorem kX2_countWearing (l : Launch) (D : va_G) (cI cZ : ClassId) (q : Nat → Nat) (hN : (zLC q).Nodup) (pa : Int → Int) (sp : Int → Int) (al : Int → Int) (dg : Int → Int) (co : Int → Int) (da : Int → Int) (mb : Int → Int) (dd : Int → Int) (ah : Int → Int) (wl : Int → Int) (lo : Int → Int) (n : Nat) (td : Int) (wn : Int) (hn : n ≤ 16) (hco : ∀ j : Int, 0 ≤ co j ∧ co j ≤ 5) (hda : ∀ j : Int, 0 ≤ da j ∧ da j ≤ 60) (hmb : ∀ j : Int, 0 ≤ mb j ∧ mb j ≤ 4) (hdd : ∀ j : Int, 0 ≤ dd j ∧ dd j ≤ 1000000) (htd : 0 ≤ td ∧ td ≤ 1000000) (hal : ∀ j : Int, 0 ≤ al j ∧ al j ≤ 1) (c : Int) (h1 : -2147483648 ≤ c ∧ c ≤ 2147483647) : zM l yX2_countWearing wsX2_countWearing ({ frames := 3, cells := 0, slots := 0, locals := 73 }) D [(cI, .int), (cZ, .boolean)] [.ref (q 0), .int (zI c)] (wC cI cZ q pa sp al dg co da mb dd ah wl lo n td wn) (wC cI cZ q pa sp al dg co da mb dd ah wl lo n td wn) (some (.int (zI (smF (cwF al co da mb dd td n c) n)))) (zLC q) := by
  refine Met.ofW (cc := cX2_countWearing) (maxL := 4) (ret := (some .int)) (by decide) rfl ?_
  intro p0 e9 s9 m9 ag9 below meth c9 s₁ B hml hv
  obtain ⟨hav, hP, hK⟩ := hv
  have hx := B.exec
  have hb := B.bytes
  have hr := B.returns
  have hts := atoms_spec (ws := wsX2_countWearing) B.pre
  have hown : s9.vm.findClass RX2 = some m9.cls := findClass_of_methodNamed B.named
  have hlocks := B.notSynchronized
  have hA : ∀ a ∈ zLC q, (fun a => a ∈ zLC q) a := fun _ h => h
  have hin1 : ∀ w ∈ u_ws RX1 TX1 5, w ∈ wsX2_countWearing := by decide +kernel
  have hin2 : ∀ w ∈ u_ws RX2 TX2 9, w ∈ wsX2_countWearing := by decide +kernel
  have hl := lv_entry ([.ref (q 0), .int (zI c)]) (n := 4) (Nat.le_of_ble_eq_true rfl)
  have hE : entryFrame m9 ag9 4 = F0 m9 0 ((lg_sl ([.ref (q 0), .int (zI c)]) ++ List.replicate (4 - (lg_sl ([.ref (q 0), .int (zI c)])).length) Slot.unset).toArray) [] := by rw [hav]; exact lg_entry_eq m9 _ _
  obtain ⟨Q0, hQ0⟩ : ∃ Q0, Q0 = MQ below (zQ D (wC cI cZ q pa sp al dg co da mb dd ah wl lo n td wn) (some (.int (zI (smF (cwF al co da mb dd td n c) n)))) (zLC q)) ag9 s9 0 0 (fun a => a ∈ zLC q) := ⟨_, rfl⟩
  show W p0 l e9 ({ frames := 3, cells := 0, slots := 0, locals := 73 }) s9 m9 ag9 below meth c9 s9.heap [] 0 0 (MQ below (zQ D (wC cI cZ q pa sp al dg co da mb dd ah wl lo n td wn) (some (.int (zI (smF (cwF al co da mb dd td n c) n)))) (zLC q)) ag9 s9 0 0 (fun a => a ∈ zLC q)) _
  rw [hE, ← hQ0]
  have hS : va_S (fun a => a ∈ zLC q) s9.heap s9.heap [] := va_S.rf
  generalize hH0 : s9.heap = H at hP ⊢
  have hS : va_S (fun a => a ∈ zLC q) s9.heap H [] := by rw [hH0] at hS ⊢; exact hS
  generalize (lg_sl ([.ref (q 0), .int (zI c)]) ++ List.replicate (4 - (lg_sl ([.ref (q 0), .int (zI c)])).length) Slot.unset).toArray = ls at hl ⊢
  have hl : lv_has ls 4 [(0, .ref (q 0)), (1, .int (zI c))] := hl
  refine zr_iconst hx hb dX2_countWearing_0 ?_
  refine lv_istore_n (lv' := [(2, .int (zI 0)), (0, .ref (q 0)), (1, .int (zI c))]) hx hb dX2_countWearing_1 rfl hl (by decide) rfl (fun ls hl => ?_)
  refine zr_iconst hx hb dX2_countWearing_2 ?_
  refine lv_istore_n (lv' := [(3, .int (zI 0)), (2, .int (zI 0)), (0, .ref (q 0)), (1, .int (zI c))]) hx hb dX2_countWearing_3 rfl hl (by decide) rfl (fun ls hl => ?_)
  have L4_1 : ∀ (kf i : Nat), i ≤ n → n - i < kf → ∀ (H : Heap) (locs : List Loc) (ls : Array Slot), va_P D vwCl (wC cI cZ q pa sp al dg co da mb dd ah wl lo n td wn) H → va_S (fun a => a ∈ zLC q) s9.heap H locs → lv_has ls 4 [(3, .int (zI (i : Int))), (2, .int (zI (smF (cwF al co da mb dd td n c) i))), (0, .ref (q 0)), (1, .int (zI c))] → W p0 l e9 ({ frames := 3, cells := 0, slots := 0, locals := 73 }) s9 m9 ag9 below meth c9 H locs 0 0 Q0 (F0 m9 4 ls []) := by
    intro kf
    induction kf with
    | zero => intro i h1 h2; omega
    | succ kf ih =>
      intro i hi_i hk_i H locs ls hP hS hl
      have ih_i := ih
      clear ih
      refine lv_iload_n hx hb dX2_countWearing_4 rfl (lv_at hl 0 rfl) ?_
      refine lv_aload_n hx hb dX2_countWearing_5 rfl (lv_at hl 2 rfl) ?_
      refine va_get (D := D) (ci := 2) (v := .ref (q 1)) (C := RX2) (T := TX2) (N := 9) hx hb hts hin2 hown hK hP 0 rfl rfl 0 (by decide) (hts (.fieldLink RX2 12 "MourningRibbons" "family" "LMourningRibbons$Family;") (by decide +kernel)) (fun _ h9 => h9) rfl dX2_countWearing_6 ?_
      refine va_get (D := D) (ci := 1) (v := .int (zI (n : Int))) (C := RX1) (T := TX1) (N := 5) hx hb hts hin1 hown hK hP 1 rfl rfl 3 (by decide) (hts (.fieldLink RX2 128 "MourningRibbons$Family" "count" "I") (by decide +kernel)) (fun _ h9 => h9) rfl dX2_countWearing_9 ?_
      refine zr_icmp_ge (tgt := 46) hx hb dX2_countWearing_12 (by decide) ⟨by omega, by omega⟩ ⟨by omega, by omega⟩ (fun c_2 => ?_) (fun c_2 => ?_)
      · have c_2 := c_2
        have x_3 : i = n := by omega
        try rw [x_3] at hP
        try rw [x_3] at hl
        refine lv_iload_n hx hb dX2_countWearing_46 rfl (lv_at hl 1 rfl) ?_
        rw [hQ0]
        exact zret_i hx hb hr hlocks (rfl) hP hS dX2_countWearing_47
      · have c_2 := c_2
        refine lv_aload_n hx hb dX2_countWearing_15 rfl (lv_at hl 2 rfl) ?_
        refine va_get (D := D) (ci := 2) (v := .ref (q 1)) (C := RX2) (T := TX2) (N := 9) hx hb hts hin2 hown hK hP 0 rfl rfl 0 (by decide) (hts (.fieldLink RX2 12 "MourningRibbons" "family" "LMourningRibbons$Family;") (by decide +kernel)) (fun _ h9 => h9) rfl dX2_countWearing_16 ?_
        refine va_get (D := D) (ci := 1) (v := .ref (q 10)) (C := RX1) (T := TX1) (N := 5) hx hb hts hin1 hown hK hP 1 rfl rfl 2 (by decide) (hts (.fieldLink RX2 101 "MourningRibbons$Family" "alive" "[Z") (by decide +kernel)) (fun _ h9 => h9) rfl dX2_countWearing_19 ?_
        refine lv_iload_n hx hb dX2_countWearing_22 rfl (lv_at hl 0 rfl) ?_
        refine zr_zald (f := al) (n := 16) hx hb hK hP 10 1 rfl rfl (by decide) (i := (i : Int)) (by omega) (by omega) dX2_countWearing_23 ?_
        have b_4 := hal (i : Int)
        refine zr_if_eq (tgt := 40) hx hb dX2_countWearing_24 (by decide) ⟨by omega, by omega⟩ (fun c_5 => ?_) (fun c_5 => ?_)
        · have c_5 := c_5
          refine zr_iinc (v := (i : Int) + 1) (lv' := [(3, .int (zI ((i : Int) + 1))), (2, .int (zI (smF (cwF al co da mb dd td n c) i))), (0, .ref (q 0)), (1, .int (zI c))]) hx hb dX2_countWearing_40 hl (k := 0) rfl rfl (by decide) rfl (fun ls hl => ?_)
          refine lv_goto (tgt := 4) hx hb dX2_countWearing_43 (by decide) ?_
          have hl := lv_sub hl (l' := [(3, .int (zI ((i : Int) + 1))), (2, .int (zI (smF (cwF al co da mb dd td n c) i))), (0, .ref (q 0)), (1, .int (zI c))]) [0, 1, 2, 3] rfl
          have e_6 : ((((i + 1) : Nat) : Int) : Int) = (i : Int) + 1 := by omega
          have e_7 : (smF (cwF al co da mb dd td n c) (i + 1) : Int) = smF (cwF al co da mb dd td n c) i := by rw [smF_s]; unfold cwF; split <;> omega
          have hl : lv_has ls 4 [(3, .int (zI (((i + 1) : Nat) : Int))), (2, .int (zI (smF (cwF al co da mb dd td n c) (i + 1)))), (0, .ref (q 0)), (1, .int (zI c))] := by rw [e_6, e_7]; exact hl
          exact ih_i (i + 1) (by omega) (by omega) _ _ _ hP hS hl
        · have c_5 := c_5
          refine lv_aload_n hx hb dX2_countWearing_27 rfl (lv_at hl 2 rfl) ?_
          refine lv_iload_n hx hb dX2_countWearing_28 rfl (lv_at hl 0 rfl) ?_
          refine zr_iconst hx hb dX2_countWearing_29 ?_
          refine zcallV (ci := 2) (q0 := 0) (cq := (RX2, TX2, 9)) (As := [.int (zI (i : Int)), .int (zI 0)]) (rest := []) ⟨hx, hb, hml, hown, hts⟩ hK (kX2_colourAfter l D cI cZ q hN pa sp al dg co da mb dd ah wl lo n td wn hn hco hda hmb hdd htd (i : Int) 0 (by omega) (by omega)) (cwV 2 hts gX2_countWearing_X2_colourAfter rfl rfl rfl (by decide +kernel) ⟨Nat.le_of_ble_eq_true rfl, Nat.le_of_ble_eq_true rfl⟩) hP hS hA rfl rfl rfl hl.1 rfl (Nat.le_of_ble_eq_true rfl) dX2_countWearing_30 ⟨Nat.zero_le _, Nat.zero_le _⟩ (fun H locs hP hS _ _ => ?_)
          refine W.eq (g2 := F0 m9 33 ls [.int (zI (ca co da mb dd td n (i : Int) 0))]) rfl ?_
          have f_8 := ca_bd hco da mb dd td n (i : Int) 0
          refine lv_iload_n hx hb dX2_countWearing_33 rfl (lv_at hl 3 rfl) ?_
          refine zr_icmp_ne (tgt := 40) hx hb dX2_countWearing_34 (by decide) ⟨by omega, by omega⟩ ⟨by omega, by omega⟩ (fun c_9 => ?_) (fun c_9 => ?_)
          · have c_9 := c_9
            refine zr_iinc (v := (i : Int) + 1) (lv' := [(3, .int (zI ((i : Int) + 1))), (2, .int (zI (smF (cwF al co da mb dd td n c) i))), (0, .ref (q 0)), (1, .int (zI c))]) hx hb dX2_countWearing_40 hl (k := 0) rfl rfl (by decide) rfl (fun ls hl => ?_)
            refine lv_goto (tgt := 4) hx hb dX2_countWearing_43 (by decide) ?_
            have hl := lv_sub hl (l' := [(3, .int (zI ((i : Int) + 1))), (2, .int (zI (smF (cwF al co da mb dd td n c) i))), (0, .ref (q 0)), (1, .int (zI c))]) [0, 1, 2, 3] rfl
            have e_10 : ((((i + 1) : Nat) : Int) : Int) = (i : Int) + 1 := by omega
            have e_11 : (smF (cwF al co da mb dd td n c) (i + 1) : Int) = smF (cwF al co da mb dd td n c) i := by rw [smF_s]; unfold cwF; split <;> omega
            have hl : lv_has ls 4 [(3, .int (zI (((i + 1) : Nat) : Int))), (2, .int (zI (smF (cwF al co da mb dd td n c) (i + 1)))), (0, .ref (q 0)), (1, .int (zI c))] := by rw [e_10, e_11]; exact hl
            exact ih_i (i + 1) (by omega) (by omega) _ _ _ hP hS hl
          · have c_9 := c_9
            refine zr_iinc (v := (smF (cwF al co da mb dd td n c) i) + 1) (lv' := [(2, .int (zI ((smF (cwF al co da mb dd td n c) i) + 1))), (3, .int (zI (i : Int))), (0, .ref (q 0)), (1, .int (zI c))]) hx hb dX2_countWearing_37 hl (k := 1) rfl rfl (by decide) rfl (fun ls hl => ?_)
            refine zr_iinc (v := (i : Int) + 1) (lv' := [(3, .int (zI ((i : Int) + 1))), (2, .int (zI ((smF (cwF al co da mb dd td n c) i) + 1))), (0, .ref (q 0)), (1, .int (zI c))]) hx hb dX2_countWearing_40 hl (k := 1) rfl rfl (by decide) rfl (fun ls hl => ?_)
            refine lv_goto (tgt := 4) hx hb dX2_countWearing_43 (by decide) ?_
            have hl := lv_sub hl (l' := [(3, .int (zI ((i : Int) + 1))), (2, .int (zI ((smF (cwF al co da mb dd td n c) i) + 1))), (0, .ref (q 0)), (1, .int (zI c))]) [0, 1, 2, 3] rfl
            have e_12 : ((((i + 1) : Nat) : Int) : Int) = (i : Int) + 1 := by omega
            have e_13 : (smF (cwF al co da mb dd td n c) (i + 1) : Int) = (smF (cwF al co da mb dd td n c) i) + 1 := by rw [smF_s]; unfold cwF; split <;> omega
            have hl : lv_has ls 4 [(3, .int (zI (((i + 1) : Nat) : Int))), (2, .int (zI (smF (cwF al co da mb dd td n c) (i + 1)))), (0, .ref (q 0)), (1, .int (zI c))] := by rw [e_12, e_13]; exact hl
            exact ih_i (i + 1) (by omega) (by omega) _ _ _ hP hS hl
  have hl := lv_sub hl (l' := [(3, .int (zI 0)), (2, .int (zI 0)), (0, .ref (q 0)), (1, .int (zI c))]) [0, 1, 2, 3] rfl
  have e_14 : (smF (cwF al co da mb dd td n c) 0 : Int) = 0 := rfl
  have hl : lv_has ls 4 [(3, .int (zI 0)), (2, .int (zI (smF (cwF al co da mb dd td n c) 0))), (0, .ref (q 0)), (1, .int (zI c))] := by rw [e_14]; exact hl
  exact L4_1 (n + 1) 0 (Nat.zero_le _) (by omega) _ _ _ hP hS hl
set_option maxHeartbeats 4000000 in
set_option maxRecDepth 100000 in
theorem kX2_paintAhead (l : Launch) (D : va_G) (cI cZ : ClassId) (q : Nat → Nat) (hN : (zLC q).Nodup) (pa : Int → Int) (sp : Int → Int) (al : Int → Int) (dg : Int → Int) (co : Int → Int) (da : Int → Int) (mb : Int → Int) (dd : Int → Int) (ah : Int → Int) (wl : Int → Int) (lo : Int → Int) (n : Nat) (td : Int) (wn : Int) (hn : n ≤ 16) (hco : ∀ j : Int, 0 ≤ co j ∧ co j ≤ 5) (hda : ∀ j : Int, 0 ≤ da j ∧ da j ≤ 60) (hmb : ∀ j : Int, 0 ≤ mb j ∧ mb j ≤ 4) (hdd : ∀ j : Int, 0 ≤ dd j ∧ dd j ≤ 1000000) (htd : 0 ≤ td ∧ td ≤ 1000000) (p : Int) (h1 : 0 ≤ p ∧ p < 16) : zM l yX2_paintAhead wsX2_paintAhead ({ frames := 3, cells := 0, slots := 0, locals := 69 }) D [(cI, .int), (cZ, .boolean)] [.ref (q 0), .int (zI p)] (wC cI cZ q pa sp al dg co da mb dd ah wl lo n td wn) (wC cI cZ q pa sp al dg co da mb dd (ca co da mb dd td n p) wl lo n td wn) none (zLC q) := by
  refine Met.ofW (cc := cX2_paintAhead) (maxL := 7) (ret := none) (by decide) rfl ?_
  intro p0 e9 s9 m9 ag9 below meth c9 s₁ B hml hv
  obtain ⟨hav, hP, hK⟩ := hv
  have hx := B.exec
  have hb := B.bytes
  have hr := B.returns
  have hts := atoms_spec (ws := wsX2_paintAhead) B.pre
  have hown : s9.vm.findClass RX2 = some m9.cls := findClass_of_methodNamed B.named
  have hlocks := B.notSynchronized
  have hA : ∀ a ∈ zLC q, (fun a => a ∈ zLC q) a := fun _ h => h
  have hin1 : ∀ w ∈ u_ws RX1 TX1 5, w ∈ wsX2_paintAhead := by decide +kernel
  have hin2 : ∀ w ∈ u_ws RX2 TX2 9, w ∈ wsX2_paintAhead := by decide +kernel
  have hl := lv_entry ([.ref (q 0), .int (zI p)]) (n := 7) (Nat.le_of_ble_eq_true rfl)
  have hE : entryFrame m9 ag9 7 = F0 m9 0 ((lg_sl ([.ref (q 0), .int (zI p)]) ++ List.replicate (7 - (lg_sl ([.ref (q 0), .int (zI p)])).length) Slot.unset).toArray) [] := by rw [hav]; exact lg_entry_eq m9 _ _
  obtain ⟨Q0, hQ0⟩ : ∃ Q0, Q0 = MQ below (zQ D (wC cI cZ q pa sp al dg co da mb dd (ca co da mb dd td n p) wl lo n td wn) none (zLC q)) ag9 s9 0 0 (fun a => a ∈ zLC q) := ⟨_, rfl⟩
  show W p0 l e9 ({ frames := 3, cells := 0, slots := 0, locals := 69 }) s9 m9 ag9 below meth c9 s9.heap [] 0 0 (MQ below (zQ D (wC cI cZ q pa sp al dg co da mb dd (ca co da mb dd td n p) wl lo n td wn) none (zLC q)) ag9 s9 0 0 (fun a => a ∈ zLC q)) _
  rw [hE, ← hQ0]
  have hS : va_S (fun a => a ∈ zLC q) s9.heap s9.heap [] := va_S.rf
  generalize hH0 : s9.heap = H at hP ⊢
  have hS : va_S (fun a => a ∈ zLC q) s9.heap H [] := by rw [hH0] at hS ⊢; exact hS
  generalize (lg_sl ([.ref (q 0), .int (zI p)]) ++ List.replicate (7 - (lg_sl ([.ref (q 0), .int (zI p)])).length) Slot.unset).toArray = ls at hl ⊢
  have hl : lv_has ls 7 [(0, .ref (q 0)), (1, .int (zI p))] := hl
  refine lv_aload_n hx hb dX2_paintAhead_0 rfl (lv_at hl 0 rfl) ?_
  refine va_get (D := D) (ci := 2) (v := .ref (q 5)) (C := RX2) (T := TX2) (N := 9) hx hb hts hin2 hown hK hP 0 rfl rfl 6 (by decide) (hts (.fieldLink RX2 30 "MourningRibbons" "ahead" "[I") (by decide +kernel)) (fun _ h9 => h9) rfl dX2_paintAhead_1 ?_
  refine zr_iconst hx hb dX2_paintAhead_4 ?_
  refine zcallS (As := [.ref (q 5), .int (zI 0)]) (rest := []) ⟨hx, hb, hml, hown, hts⟩ hK (kJ7_fill l D (tys := [(cI, .int), (cZ, .boolean)]) (w := (wC cI cZ q pa sp al dg co da mb dd ah wl lo n td wn)) (L := zLC q) 5 0 (a := q 5) (cA := cI) (n := 180) (f := ah) 0 rfl rfl hN rfl (by decide)) (va_cwS 2 hts gX2_paintAhead_J7_fill_53178 rfl rfl rfl (by decide +kernel) ⟨Nat.le_of_ble_eq_true rfl, Nat.le_of_ble_eq_true rfl⟩) hP hS hA rfl hl.1 rfl (Nat.le_of_ble_eq_true rfl) dX2_paintAhead_5 ⟨Nat.zero_le _, Nat.zero_le _⟩ (fun H locs hP hS _ _ => ?_)
  have hP : va_P D vwCl (wC cI cZ q pa sp al dg co da mb dd (cst 0) wl lo n td wn) H := zcg (f := fun j => if 0 ≤ j ∧ j < 180 then 0 else ah j) (g := cst 0) hP 5 rfl (fun j h0 h1 => if_pos ⟨h0, h1⟩)
  refine W.eq (g2 := F0 m9 8 ls []) rfl ?_
  refine zr_iconst hx hb dX2_paintAhead_8 ?_
  refine lv_istore_n (lv' := [(2, .int (zI 0)), (0, .ref (q 0)), (1, .int (zI p))]) hx hb dX2_paintAhead_9 rfl hl (by decide) rfl (fun ls hl => ?_)
  have L10_1 : ∀ (kf i : Nat), i ≤ n → n - i < kf → ∀ (H : Heap) (locs : List Loc) (ls : Array Slot), va_P D vwCl (wC cI cZ q pa sp al dg co da mb dd (ca co da mb dd td i p) wl lo n td wn) H → va_S (fun a => a ∈ zLC q) s9.heap H locs → lv_has ls 7 [(2, .int (zI (i : Int))), (0, .ref (q 0)), (1, .int (zI p))] → W p0 l e9 ({ frames := 3, cells := 0, slots := 0, locals := 69 }) s9 m9 ag9 below meth c9 H locs 0 0 Q0 (F0 m9 10 ls []) := by
    intro kf
    induction kf with
    | zero => intro i h1 h2; omega
    | succ kf ih =>
      intro i hi_i hk_i H locs ls hP hS hl
      have ih_i := ih
      clear ih
      refine lv_iload_n hx hb dX2_paintAhead_10 rfl (lv_at hl 0 rfl) ?_
      refine lv_aload_n hx hb dX2_paintAhead_11 rfl (lv_at hl 1 rfl) ?_
      refine va_get (D := D) (ci := 2) (v := .ref (q 1)) (C := RX2) (T := TX2) (N := 9) hx hb hts hin2 hown hK hP 0 rfl rfl 0 (by decide) (hts (.fieldLink RX2 12 "MourningRibbons" "family" "LMourningRibbons$Family;") (by decide +kernel)) (fun _ h9 => h9) rfl dX2_paintAhead_12 ?_
      refine va_get (D := D) (ci := 1) (v := .int (zI (n : Int))) (C := RX1) (T := TX1) (N := 5) hx hb hts hin1 hown hK hP 1 rfl rfl 3 (by decide) (hts (.fieldLink RX2 128 "MourningRibbons$Family" "count" "I") (by decide +kernel)) (fun _ h9 => h9) rfl dX2_paintAhead_15 ?_
      refine zr_icmp_ge (tgt := 114) hx hb dX2_paintAhead_18 (by decide) ⟨by omega, by omega⟩ ⟨by omega, by omega⟩ (fun c_2 => ?_) (fun c_2 => ?_)
      · have c_2 := c_2
        have x_3 : i = n := by omega
        try rw [x_3] at hP
        try rw [x_3] at hl
        rw [hQ0]
        exact zret_v hx hb hr hlocks hP hS dX2_paintAhead_114
      · have c_2 := c_2
        refine lv_aload_n hx hb dX2_paintAhead_21 rfl (lv_at hl 1 rfl) ?_
        refine va_get (D := D) (ci := 2) (v := .ref (q 3)) (C := RX2) (T := TX2) (N := 9) hx hb hts hin2 hown hK hP 0 rfl rfl 2 (by decide) (hts (.fieldLink RX2 23 "MourningRibbons" "mournedBy" "[I") (by decide +kernel)) (fun _ h9 => h9) rfl dX2_paintAhead_22 ?_
        refine lv_iload_n hx hb dX2_paintAhead_25 rfl (lv_at hl 2 rfl) ?_
        refine lv_iload_n hx hb dX2_paintAhead_26 rfl (lv_at hl 0 rfl) ?_
        refine zcallP (As := [.int (zI p), .int (zI (i : Int))]) (rest := [.ref (q 3)]) ⟨hx, hb, hml, hown, hts⟩ (kX2_pair l D p (i : Int)) hK (va_cwS 2 hts gX2_paintAhead_X2_pair rfl rfl rfl (by decide +kernel) ⟨Nat.le_of_ble_eq_true rfl, Nat.le_of_ble_eq_true rfl⟩) hP hS rfl hl.1 rfl (Nat.le_of_ble_eq_true rfl) dX2_paintAhead_27 ⟨Nat.zero_le _, Nat.zero_le _⟩ (fun H locs hP hS => ?_)
        refine W.eq (g2 := F0 m9 30 ls [.int (zI (p * 16 + (i : Int))), .ref (q 3)]) rfl ?_
        refine zr_iald (f := mb) (n := 256) hx hb hK hP 3 0 rfl rfl (by decide) (i := p * 16 + (i : Int)) (by omega) (by omega) dX2_paintAhead_30 ?_
        have b_4 := hmb (p * 16 + (i : Int))
        refine lv_istore_n (lv' := [(3, .int (zI (mb (p * 16 + (i : Int))))), (2, .int (zI (i : Int))), (0, .ref (q 0)), (1, .int (zI p))]) hx hb dX2_paintAhead_31 rfl hl (by decide) rfl (fun ls hl => ?_)
        refine lv_aload_n hx hb dX2_paintAhead_32 rfl (lv_at hl 2 rfl) ?_
        refine va_get (D := D) (ci := 2) (v := .int (zI td)) (C := RX2) (T := TX2) (N := 9) hx hb hts hin2 hown hK hP 0 rfl rfl 4 (by decide) (hts (.fieldLink RX2 105 "MourningRibbons" "today" "I") (by decide +kernel)) (fun _ h9 => h9) rfl dX2_paintAhead_33 ?_
        refine lv_aload_n hx hb dX2_paintAhead_36 rfl (lv_at hl 2 rfl) ?_
        refine va_get (D := D) (ci := 2) (v := .ref (q 4)) (C := RX2) (T := TX2) (N := 9) hx hb hts hin2 hown hK hP 0 rfl rfl 3 (by decide) (hts (.fieldLink RX2 27 "MourningRibbons" "deathDay" "[I") (by decide +kernel)) (fun _ h9 => h9) rfl dX2_paintAhead_37 ?_
        refine lv_iload_n hx hb dX2_paintAhead_40 rfl (lv_at hl 1 rfl) ?_
        refine zr_iald (f := dd) (n := 16) hx hb hK hP 4 0 rfl rfl (by decide) (i := (i : Int)) (by omega) (by omega) dX2_paintAhead_41 ?_
        have b_5 := hdd (i : Int)
        refine zr_isub (v := td - (dd (i : Int))) hx hb rfl dX2_paintAhead_42 ?_
        refine lv_istore (lv' := [(4, .int (zI (td - (dd (i : Int))))), (3, .int (zI (mb (p * 16 + (i : Int))))), (2, .int (zI (i : Int))), (0, .ref (q 0)), (1, .int (zI p))]) hx hb dX2_paintAhead_43 hl (by decide) rfl (fun ls hl => ?_)
        refine lv_aload_n hx hb dX2_paintAhead_45 rfl (lv_at hl 3 rfl) ?_
        refine lv_iload_n hx hb dX2_paintAhead_46 rfl (lv_at hl 4 rfl) ?_
        refine lv_iload_n hx hb dX2_paintAhead_47 rfl (lv_at hl 2 rfl) ?_
        refine zcallV (ci := 2) (q0 := 0) (cq := (RX2, TX2, 9)) (As := [.int (zI p), .int (zI (i : Int))]) (rest := []) ⟨hx, hb, hml, hown, hts⟩ hK (kX2_leftFor l D cI cZ q hN pa sp al dg co da mb dd (ca co da mb dd td i p) wl lo n td wn hda hmb hdd htd p (i : Int) (by omega) (by omega)) (cwV 2 hts gX2_paintAhead_X2_leftFor rfl rfl rfl (by decide +kernel) ⟨Nat.le_of_ble_eq_true rfl, Nat.le_of_ble_eq_true rfl⟩) hP hS hA rfl rfl rfl hl.1 rfl (Nat.le_of_ble_eq_true rfl) dX2_paintAhead_48 ⟨Nat.zero_le _, Nat.zero_le _⟩ (fun H locs hP hS _ _ => ?_)
        refine W.eq (g2 := F0 m9 51 ls [.int (zI (lf da mb dd td p (i : Int)))]) rfl ?_
        have f_6 := lf_180 hda hdd htd mb p (i : Int)
        refine lv_aload_n hx hb dX2_paintAhead_51 rfl (lv_at hl 3 rfl) ?_
        refine va_get (D := D) (ci := 2) (v := .ref (q 5)) (C := RX2) (T := TX2) (N := 9) hx hb hts hin2 hown hK hP 0 rfl rfl 6 (by decide) (hts (.fieldLink RX2 30 "MourningRibbons" "ahead" "[I") (by decide +kernel)) (fun _ h9 => h9) rfl dX2_paintAhead_52 ?_
        refine va_alen (v := zI 180) hx hb hK hP 5 0 rfl rfl (show Int32.ofNat 180 = zI 180 by decide) dX2_paintAhead_55 ?_
        refine zr_mmin hx hb (by rw [hml, hl.1]) hown (hts (.methodLink RX2 274 Lib.Math.min.name) (by decide +kernel)) (hts (.static Lib.Math.min.name) (by decide +kernel)) (hts (.initialized "java/lang/Math") (by decide +kernel)) (hts (.code Lib.Math.min.name Lib.Math.min.code 2 (some .int)) (by decide +kernel)) (Nat.le_of_ble_eq_true rfl) (Nat.le_of_ble_eq_true rfl) (Nat.zero_le _) (Nat.zero_le _) ⟨by omega, by omega⟩ ⟨by decide, by decide⟩ dX2_paintAhead_56 ?_
        refine lv_istore (lv' := [(5, .int (zI (min (lf da mb dd td p (i : Int)) 180))), (4, .int (zI (td - (dd (i : Int))))), (3, .int (zI (mb (p * 16 + (i : Int))))), (2, .int (zI (i : Int))), (0, .ref (q 0)), (1, .int (zI p))]) hx hb dX2_paintAhead_59 hl (by decide) rfl (fun ls hl => ?_)
        refine zr_iconst hx hb dX2_paintAhead_61 ?_
        refine lv_istore (lv' := [(6, .int (zI 0)), (5, .int (zI (min (lf da mb dd td p (i : Int)) 180))), (4, .int (zI (td - (dd (i : Int))))), (3, .int (zI (mb (p * 16 + (i : Int))))), (2, .int (zI (i : Int))), (0, .ref (q 0)), (1, .int (zI p))]) hx hb dX2_paintAhead_62 hl (by decide) rfl (fun ls hl => ?_)
        have L64_7 : ∀ (kf j : Nat), j ≤ (min (lf da mb dd td p (i : Int)) 180).toNat → (min (lf da mb dd td p (i : Int)) 180).toNat - j < kf → ∀ (H : Heap) (locs : List Loc) (ls : Array Slot), va_P D vwCl (wC cI cZ q pa sp al dg co da mb dd (pnI (ca co da mb dd td i p) (caC co da mb dd td p (i : Int)) j) wl lo n td wn) H → va_S (fun a => a ∈ zLC q) s9.heap H locs → lv_has ls 7 [(6, .int (zI (j : Int))), (5, .int (zI (min (lf da mb dd td p (i : Int)) 180))), (4, .int (zI (td - (dd (i : Int))))), (3, .int (zI (mb (p * 16 + (i : Int))))), (2, .int (zI (i : Int))), (0, .ref (q 0)), (1, .int (zI p))] → W p0 l e9 ({ frames := 3, cells := 0, slots := 0, locals := 69 }) s9 m9 ag9 below meth c9 H locs 0 0 Q0 (F0 m9 64 ls []) := by
          intro kf
          induction kf with
          | zero => intro j h1 h2; omega
          | succ kf ih =>
            intro j hi_j hk_j H locs ls hP hS hl
            have ih_j := ih
            clear ih
            refine lv_iload hx hb dX2_paintAhead_64 (lv_at hl 0 rfl) ?_
            refine lv_iload hx hb dX2_paintAhead_66 (lv_at hl 1 rfl) ?_
            refine zr_icmp_ge (tgt := 108) hx hb dX2_paintAhead_68 (by decide) ⟨by omega, by omega⟩ ⟨by omega, by omega⟩ (fun c_8 => ?_) (fun c_8 => ?_)
            · have c_8 := c_8
              have x_9 : j = (min (lf da mb dd td p (i : Int)) 180).toNat := by omega
              try rw [x_9] at hP
              try rw [x_9] at hl
              refine zr_iinc (v := (i : Int) + 1) (lv' := [(2, .int (zI ((i : Int) + 1))), (6, .int (zI (((min (lf da mb dd td p (i : Int)) 180).toNat : Nat) : Int))), (5, .int (zI (min (lf da mb dd td p (i : Int)) 180))), (4, .int (zI (td - (dd (i : Int))))), (3, .int (zI (mb (p * 16 + (i : Int))))), (0, .ref (q 0)), (1, .int (zI p))]) hx hb dX2_paintAhead_108 hl (k := 4) rfl rfl (by decide) rfl (fun ls hl => ?_)
              refine lv_goto (tgt := 10) hx hb dX2_paintAhead_111 (by decide) ?_
              have hl := lv_sub hl (l' := [(2, .int (zI ((i : Int) + 1))), (0, .ref (q 0)), (1, .int (zI p))]) [0, 5, 6] rfl
              have e_10 : ((((i + 1) : Nat) : Int) : Int) = (i : Int) + 1 := by omega
              have hl : lv_has ls 7 [(2, .int (zI (((i + 1) : Nat) : Int))), (0, .ref (q 0)), (1, .int (zI p))] := by rw [e_10]; exact hl
              have hP : va_P D vwCl (wC cI cZ q pa sp al dg co da mb dd (ca co da mb dd td (i + 1) p) wl lo n td wn) H := zcg (f := pnI (ca co da mb dd td i p) (caC co da mb dd td p (i : Int)) ((min (lf da mb dd td p (i : Int)) 180).toNat)) (g := ca co da mb dd td (i + 1) p) hP 5 rfl (fun t h0 h1 => paint_s hco hda t h0 h1)
              exact ih_i (i + 1) (by omega) (by omega) _ _ _ hP hS hl
            · have c_8 := c_8
              refine lv_aload_n hx hb dX2_paintAhead_71 rfl (lv_at hl 5 rfl) ?_
              refine va_get (D := D) (ci := 2) (v := .ref (q 5)) (C := RX2) (T := TX2) (N := 9) hx hb hts hin2 hown hK hP 0 rfl rfl 6 (by decide) (hts (.fieldLink RX2 30 "MourningRibbons" "ahead" "[I") (by decide +kernel)) (fun _ h9 => h9) rfl dX2_paintAhead_72 ?_
              refine lv_iload hx hb dX2_paintAhead_75 (lv_at hl 0 rfl) ?_
              refine lv_aload_n hx hb dX2_paintAhead_77 rfl (lv_at hl 5 rfl) ?_
              refine va_get (D := D) (ci := 2) (v := .ref (q 5)) (C := RX2) (T := TX2) (N := 9) hx hb hts hin2 hown hK hP 0 rfl rfl 6 (by decide) (hts (.fieldLink RX2 30 "MourningRibbons" "ahead" "[I") (by decide +kernel)) (fun _ h9 => h9) rfl dX2_paintAhead_78 ?_
              refine lv_iload hx hb dX2_paintAhead_81 (lv_at hl 0 rfl) ?_
              refine zr_iald (f := pnI (ca co da mb dd td i p) (caC co da mb dd td p (i : Int)) j) (n := 180) hx hb hK hP 5 0 rfl rfl (by decide) (i := (j : Int)) (by omega) (by omega) dX2_paintAhead_83 ?_
              have b_11 := (pnI_bd (C := caC co da mb dd td p (i : Int)) (fun j => ca_bd hco da mb dd td i p j) (fun j => cOn_bd hco _ _ _ _) j) (j : Int)
              refine lv_aload_n hx hb dX2_paintAhead_84 rfl (lv_at hl 5 rfl) ?_
              refine va_get (D := D) (ci := 2) (v := .ref (q 2)) (C := RX2) (T := TX2) (N := 9) hx hb hts hin2 hown hK hP 0 rfl rfl 1 (by decide) (hts (.fieldLink RX2 19 "MourningRibbons" "codes" "LMourningRibbons$Codes;") (by decide +kernel)) (fun _ h9 => h9) rfl dX2_paintAhead_85 ?_
              refine lv_iload_n hx hb dX2_paintAhead_88 rfl (lv_at hl 4 rfl) ?_
              refine lv_iload_n hx hb dX2_paintAhead_89 rfl (lv_at hl 3 rfl) ?_
              refine lv_iload hx hb dX2_paintAhead_90 (lv_at hl 2 rfl) ?_
              refine lv_iload hx hb dX2_paintAhead_92 (lv_at hl 0 rfl) ?_
              refine zr_iadd (v := (td - (dd (i : Int))) + (j : Int)) hx hb rfl dX2_paintAhead_94 ?_
              refine zcallV (ci := 0) (q0 := 2) (cq := (RX0, TX0, 2)) (As := [.int (zI (i : Int)), .int (zI (mb (p * 16 + (i : Int)))), .int (zI ((td - (dd (i : Int))) + (j : Int)))]) (rest := [.int (zI ((pnI (ca co da mb dd td i p) (caC co da mb dd td p (i : Int)) j) (j : Int))), .int (zI (j : Int)), .ref (q 5)]) ⟨hx, hb, hml, hown, hts⟩ hK (kX0_colourOn l D cI cZ q hN pa sp al dg co da mb dd (pnI (ca co da mb dd td i p) (caC co da mb dd td p (i : Int)) j) wl lo n td wn hco hda (i : Int) (mb (p * 16 + (i : Int))) ((td - (dd (i : Int))) + (j : Int)) (by omega) (by omega) (by omega)) (cwV 3 hts gX2_paintAhead_X0_colourOn rfl rfl rfl (by decide +kernel) ⟨Nat.le_of_ble_eq_true rfl, Nat.le_of_ble_eq_true rfl⟩) hP hS hA rfl rfl rfl hl.1 rfl (Nat.le_of_ble_eq_true rfl) dX2_paintAhead_95 ⟨Nat.zero_le _, Nat.zero_le _⟩ (fun H locs hP hS _ _ => ?_)
              refine W.eq (g2 := F0 m9 98 ls [.int (zI (cOn co da (i : Int) (mb (p * 16 + (i : Int))) ((td - (dd (i : Int))) + (j : Int)))), .int (zI ((pnI (ca co da mb dd td i p) (caC co da mb dd td p (i : Int)) j) (j : Int))), .int (zI (j : Int)), .ref (q 5)]) rfl ?_
              have f_12 := cOn_bd hco da (i : Int) (mb (p * 16 + (i : Int))) ((td - (dd (i : Int))) + (j : Int))
              refine zr_mmax hx hb (by rw [hml, hl.1]) hown (hts (.methodLink RX2 181 Lib.Math.max.name) (by decide +kernel)) (hts (.static Lib.Math.max.name) (by decide +kernel)) (hts (.initialized "java/lang/Math") (by decide +kernel)) (hts (.code Lib.Math.max.name Lib.Math.max.code 2 (some .int)) (by decide +kernel)) (Nat.le_of_ble_eq_true rfl) (Nat.le_of_ble_eq_true rfl) (Nat.zero_le _) (Nat.zero_le _) ⟨by omega, by omega⟩ ⟨by omega, by omega⟩ dX2_paintAhead_98 ?_
              refine zr_iast (f := pnI (ca co da mb dd td i p) (caC co da mb dd td p (i : Int)) j) (n := 180) hx hb hK hP hN rfl hA hS 5 0 rfl rfl (by decide) (i := (j : Int)) (x := max ((pnI (ca co da mb dd td i p) (caC co da mb dd td p (i : Int)) j) (j : Int)) (cOn co da (i : Int) (mb (p * 16 + (i : Int))) ((td - (dd (i : Int))) + (j : Int)))) (by omega) (by omega) dX2_paintAhead_101 (fun H locs hP hS => ?_)
              have hP : va_P D vwCl (wC cI cZ q pa sp al dg co da mb dd (up (pnI (ca co da mb dd td i p) (caC co da mb dd td p (i : Int)) j) (j : Int) (max ((pnI (ca co da mb dd td i p) (caC co da mb dd td p (i : Int)) j) (j : Int)) (cOn co da (i : Int) (mb (p * 16 + (i : Int))) ((td - (dd (i : Int))) + (j : Int))))) wl lo n td wn) H := hP
              refine zr_iinc (v := (j : Int) + 1) (lv' := [(6, .int (zI ((j : Int) + 1))), (5, .int (zI (min (lf da mb dd td p (i : Int)) 180))), (4, .int (zI (td - (dd (i : Int))))), (3, .int (zI (mb (p * 16 + (i : Int))))), (2, .int (zI (i : Int))), (0, .ref (q 0)), (1, .int (zI p))]) hx hb dX2_paintAhead_102 hl (k := 0) rfl rfl (by decide) rfl (fun ls hl => ?_)
              refine lv_goto (tgt := 64) hx hb dX2_paintAhead_105 (by decide) ?_
              have hl := lv_sub hl (l' := [(6, .int (zI ((j : Int) + 1))), (5, .int (zI (min (lf da mb dd td p (i : Int)) 180))), (4, .int (zI (td - (dd (i : Int))))), (3, .int (zI (mb (p * 16 + (i : Int))))), (2, .int (zI (i : Int))), (0, .ref (q 0)), (1, .int (zI p))]) [0, 1, 2, 3, 4, 5, 6] rfl
              have e_13 : ((((j + 1) : Nat) : Int) : Int) = (j : Int) + 1 := by omega
              have hl : lv_has ls 7 [(6, .int (zI (((j + 1) : Nat) : Int))), (5, .int (zI (min (lf da mb dd td p (i : Int)) 180))), (4, .int (zI (td - (dd (i : Int))))), (3, .int (zI (mb (p * 16 + (i : Int))))), (2, .int (zI (i : Int))), (0, .ref (q 0)), (1, .int (zI p))] := by rw [e_13]; exact hl
              have e_14 : (pnI (ca co da mb dd td i p) (caC co da mb dd td p (i : Int)) (j + 1) : Int → Int) = up (pnI (ca co da mb dd td i p) (caC co da mb dd td p (i : Int)) j) (j : Int) (max ((pnI (ca co da mb dd td i p) (caC co da mb dd td p (i : Int)) j) (j : Int)) (cOn co da (i : Int) (mb (p * 16 + (i : Int))) ((td - (dd (i : Int))) + (j : Int)))) := pnI_s _ _ _
              have hP : va_P D vwCl (wC cI cZ q pa sp al dg co da mb dd (pnI (ca co da mb dd td i p) (caC co da mb dd td p (i : Int)) (j + 1)) wl lo n td wn) H := by rw [e_14]; exact hP
              exact ih_j (j + 1) (by omega) (by omega) _ _ _ hP hS hl
        have hl := lv_sub hl (l' := [(6, .int (zI 0)), (5, .int (zI (min (lf da mb dd td p (i : Int)) 180))), (4, .int (zI (td - (dd (i : Int))))), (3, .int (zI (mb (p * 16 + (i : Int))))), (2, .int (zI (i : Int))), (0, .ref (q 0)), (1, .int (zI p))]) [0, 1, 2, 3, 4, 5, 6] rfl
        have e_15 : (pnI (ca co da mb dd td i p) (caC co da mb dd td p (i : Int)) 0 : Int → Int) = ca co da mb dd td i p := pnI_0 _ _
        have hP : va_P D vwCl (wC cI cZ q pa sp al dg co da mb dd (pnI (ca co da mb dd td i p) (caC co da mb dd td p (i : Int)) 0) wl lo n td wn) H := by rw [e_15]; exact hP
        exact L64_7 ((min (lf da mb dd td p (i : Int)) 180).toNat + 1) 0 (Nat.zero_le _) (by omega) _ _ _ hP hS hl
  have hl := lv_sub hl (l' := [(2, .int (zI 0)), (0, .ref (q 0)), (1, .int (zI p))]) [0, 1, 2] rfl
  have hP : va_P D vwCl (wC cI cZ q pa sp al dg co da mb dd (ca co da mb dd td 0 p) wl lo n td wn) H := zcg (f := cst 0) (g := ca co da mb dd td 0 p) hP 5 rfl (fun j _ _ => rfl)
  exact L10_1 (n + 1) 0 (Nat.zero_le _) (by omega) _ _ _ hP hS hl
set_option maxHeartbeats 4000000 in
set_option maxRecDepth 100000 in
theorem kX2_wornAhead (l : Launch) (D : va_G) (cI cZ : ClassId) (q : Nat → Nat) (hN : (zLC q).Nodup) (pa : Int → Int) (sp : Int → Int) (al : Int → Int) (dg : Int → Int) (co : Int → Int) (da : Int → Int) (mb : Int → Int) (dd : Int → Int) (ah : Int → Int) (wl : Int → Int) (lo : Int → Int) (n : Nat) (td : Int) (wn : Int) (hah : ∀ j : Int, 0 ≤ ah j ∧ ah j ≤ 5) (k : Int) (h1 : 0 ≤ k ∧ k ≤ 200) : zM l yX2_wornAhead wsX2_wornAhead ({ frames := 0, cells := 0, slots := 0, locals := 0 }) D [(cI, .int), (cZ, .boolean)] [.ref (q 0), .int (zI k)] (wC cI cZ q pa sp al dg co da mb dd ah wl lo n td wn) (wC cI cZ q pa sp al dg co da mb dd ah wl lo n td wn) (some (.int (zI (smF (neF ah) (min k 180).toNat)))) (zLC q) := by
  refine Met.ofW (cc := cX2_wornAhead) (maxL := 4) (ret := (some .int)) (by decide) rfl ?_
  intro p0 e9 s9 m9 ag9 below meth c9 s₁ B hml hv
  obtain ⟨hav, hP, hK⟩ := hv
  have hx := B.exec
  have hb := B.bytes
  have hr := B.returns
  have hts := atoms_spec (ws := wsX2_wornAhead) B.pre
  have hown : s9.vm.findClass RX2 = some m9.cls := findClass_of_methodNamed B.named
  have hlocks := B.notSynchronized
  have hA : ∀ a ∈ zLC q, (fun a => a ∈ zLC q) a := fun _ h => h
  have hin2 : ∀ w ∈ u_ws RX2 TX2 9, w ∈ wsX2_wornAhead := by decide +kernel
  have hl := lv_entry ([.ref (q 0), .int (zI k)]) (n := 4) (Nat.le_of_ble_eq_true rfl)
  have hE : entryFrame m9 ag9 4 = F0 m9 0 ((lg_sl ([.ref (q 0), .int (zI k)]) ++ List.replicate (4 - (lg_sl ([.ref (q 0), .int (zI k)])).length) Slot.unset).toArray) [] := by rw [hav]; exact lg_entry_eq m9 _ _
  obtain ⟨Q0, hQ0⟩ : ∃ Q0, Q0 = MQ below (zQ D (wC cI cZ q pa sp al dg co da mb dd ah wl lo n td wn) (some (.int (zI (smF (neF ah) (min k 180).toNat)))) (zLC q)) ag9 s9 0 0 (fun a => a ∈ zLC q) := ⟨_, rfl⟩
  show W p0 l e9 ({ frames := 0, cells := 0, slots := 0, locals := 0 }) s9 m9 ag9 below meth c9 s9.heap [] 0 0 (MQ below (zQ D (wC cI cZ q pa sp al dg co da mb dd ah wl lo n td wn) (some (.int (zI (smF (neF ah) (min k 180).toNat)))) (zLC q)) ag9 s9 0 0 (fun a => a ∈ zLC q)) _
  rw [hE, ← hQ0]
  have hS : va_S (fun a => a ∈ zLC q) s9.heap s9.heap [] := va_S.rf
  generalize hH0 : s9.heap = H at hP ⊢
  have hS : va_S (fun a => a ∈ zLC q) s9.heap H [] := by rw [hH0] at hS ⊢; exact hS
  generalize (lg_sl ([.ref (q 0), .int (zI k)]) ++ List.replicate (4 - (lg_sl ([.ref (q 0), .int (zI k)])).length) Slot.unset).toArray = ls at hl ⊢
  have hl : lv_has ls 4 [(0, .ref (q 0)), (1, .int (zI k))] := hl
  refine zr_iconst hx hb dX2_wornAhead_0 ?_
  refine lv_istore_n (lv' := [(2, .int (zI 0)), (0, .ref (q 0)), (1, .int (zI k))]) hx hb dX2_wornAhead_1 rfl hl (by decide) rfl (fun ls hl => ?_)
  refine zr_iconst hx hb dX2_wornAhead_2 ?_
  refine lv_istore_n (lv' := [(3, .int (zI 0)), (2, .int (zI 0)), (0, .ref (q 0)), (1, .int (zI k))]) hx hb dX2_wornAhead_3 rfl hl (by decide) rfl (fun ls hl => ?_)
  have L4_1 : ∀ (kf i : Nat), i ≤ (min k 180).toNat → (min k 180).toNat - i < kf → ∀ (H : Heap) (locs : List Loc) (ls : Array Slot), va_P D vwCl (wC cI cZ q pa sp al dg co da mb dd ah wl lo n td wn) H → va_S (fun a => a ∈ zLC q) s9.heap H locs → lv_has ls 4 [(3, .int (zI (i : Int))), (2, .int (zI (smF (neF ah) i))), (0, .ref (q 0)), (1, .int (zI k))] → W p0 l e9 ({ frames := 0, cells := 0, slots := 0, locals := 0 }) s9 m9 ag9 below meth c9 H locs 0 0 Q0 (F0 m9 4 ls []) := by
    intro kf
    induction kf with
    | zero => intro i h1 h2; omega
    | succ kf ih =>
      intro i hi_i hk_i H locs ls hP hS hl
      have ih_i := ih
      clear ih
      refine lv_iload_n hx hb dX2_wornAhead_4 rfl (lv_at hl 0 rfl) ?_
      refine lv_iload_n hx hb dX2_wornAhead_5 rfl (lv_at hl 3 rfl) ?_
      refine zr_icmp_ge (tgt := 36) hx hb dX2_wornAhead_6 (by decide) ⟨by omega, by omega⟩ ⟨by omega, by omega⟩ (fun c_2 => ?_) (fun c_2 => ?_)
      · have c_2 := c_2
        have x_3 : i = (min k 180).toNat := by omega
        try rw [x_3] at hP
        try rw [x_3] at hl
        refine lv_iload_n hx hb dX2_wornAhead_36 rfl (lv_at hl 1 rfl) ?_
        rw [hQ0]
        exact zret_i hx hb hr hlocks (rfl) hP hS dX2_wornAhead_37
      · have c_2 := c_2
        refine lv_iload_n hx hb dX2_wornAhead_9 rfl (lv_at hl 0 rfl) ?_
        refine lv_aload_n hx hb dX2_wornAhead_10 rfl (lv_at hl 2 rfl) ?_
        refine va_get (D := D) (ci := 2) (v := .ref (q 5)) (C := RX2) (T := TX2) (N := 9) hx hb hts hin2 hown hK hP 0 rfl rfl 6 (by decide) (hts (.fieldLink RX2 30 "MourningRibbons" "ahead" "[I") (by decide +kernel)) (fun _ h9 => h9) rfl dX2_wornAhead_11 ?_
        refine va_alen (v := zI 180) hx hb hK hP 5 0 rfl rfl (show Int32.ofNat 180 = zI 180 by decide) dX2_wornAhead_14 ?_
        refine zr_icmp_ge (tgt := 36) hx hb dX2_wornAhead_15 (by decide) ⟨by omega, by omega⟩ ⟨by decide, by decide⟩ (fun c_4 => ?_) (fun c_4 => ?_)
        · have c_4 := c_4
          have x_5 : i = (min k 180).toNat := by omega
          try rw [x_5] at hP
          try rw [x_5] at hl
          refine lv_iload_n hx hb dX2_wornAhead_36 rfl (lv_at hl 1 rfl) ?_
          rw [hQ0]
          exact zret_i hx hb hr hlocks (rfl) hP hS dX2_wornAhead_37
        · have c_4 := c_4
          refine lv_aload_n hx hb dX2_wornAhead_18 rfl (lv_at hl 2 rfl) ?_
          refine va_get (D := D) (ci := 2) (v := .ref (q 5)) (C := RX2) (T := TX2) (N := 9) hx hb hts hin2 hown hK hP 0 rfl rfl 6 (by decide) (hts (.fieldLink RX2 30 "MourningRibbons" "ahead" "[I") (by decide +kernel)) (fun _ h9 => h9) rfl dX2_wornAhead_19 ?_
          refine lv_iload_n hx hb dX2_wornAhead_22 rfl (lv_at hl 0 rfl) ?_
          refine zr_iald (f := ah) (n := 180) hx hb hK hP 5 0 rfl rfl (by decide) (i := (i : Int)) (by omega) (by omega) dX2_wornAhead_23 ?_
          have b_6 := hah (i : Int)
          refine zr_if_eq (tgt := 30) hx hb dX2_wornAhead_24 (by decide) ⟨by omega, by omega⟩ (fun c_7 => ?_) (fun c_7 => ?_)
          · have c_7 := c_7
            refine zr_iinc (v := (i : Int) + 1) (lv' := [(3, .int (zI ((i : Int) + 1))), (2, .int (zI (smF (neF ah) i))), (0, .ref (q 0)), (1, .int (zI k))]) hx hb dX2_wornAhead_30 hl (k := 0) rfl rfl (by decide) rfl (fun ls hl => ?_)
            refine lv_goto (tgt := 4) hx hb dX2_wornAhead_33 (by decide) ?_
            have hl := lv_sub hl (l' := [(3, .int (zI ((i : Int) + 1))), (2, .int (zI (smF (neF ah) i))), (0, .ref (q 0)), (1, .int (zI k))]) [0, 1, 2, 3] rfl
            have e_8 : ((((i + 1) : Nat) : Int) : Int) = (i : Int) + 1 := by omega
            have e_9 : (smF (neF ah) (i + 1) : Int) = smF (neF ah) i := by rw [smF_s]; unfold neF; split <;> omega
            have hl : lv_has ls 4 [(3, .int (zI (((i + 1) : Nat) : Int))), (2, .int (zI (smF (neF ah) (i + 1)))), (0, .ref (q 0)), (1, .int (zI k))] := by rw [e_8, e_9]; exact hl
            exact ih_i (i + 1) (by omega) (by omega) _ _ _ hP hS hl
          · have c_7 := c_7
            refine zr_iinc (v := (smF (neF ah) i) + 1) (lv' := [(2, .int (zI ((smF (neF ah) i) + 1))), (3, .int (zI (i : Int))), (0, .ref (q 0)), (1, .int (zI k))]) hx hb dX2_wornAhead_27 hl (k := 1) rfl rfl (by decide) rfl (fun ls hl => ?_)
            refine zr_iinc (v := (i : Int) + 1) (lv' := [(3, .int (zI ((i : Int) + 1))), (2, .int (zI ((smF (neF ah) i) + 1))), (0, .ref (q 0)), (1, .int (zI k))]) hx hb dX2_wornAhead_30 hl (k := 1) rfl rfl (by decide) rfl (fun ls hl => ?_)
            refine lv_goto (tgt := 4) hx hb dX2_wornAhead_33 (by decide) ?_
            have hl := lv_sub hl (l' := [(3, .int (zI ((i : Int) + 1))), (2, .int (zI ((smF (neF ah) i) + 1))), (0, .ref (q 0)), (1, .int (zI k))]) [0, 1, 2, 3] rfl
            have e_10 : ((((i + 1) : Nat) : Int) : Int) = (i : Int) + 1 := by omega
            have e_11 : (smF (neF ah) (i + 1) : Int) = (smF (neF ah) i) + 1 := by rw [smF_s]; unfold neF; split <;> omega
            have hl : lv_has ls 4 [(3, .int (zI (((i + 1) : Nat) : Int))), (2, .int (zI (smF (neF ah) (i + 1)))), (0, .ref (q 0)), (1, .int (zI k))] := by rw [e_10, e_11]; exact hl
            exact ih_i (i + 1) (by omega) (by omega) _ _ _ hP hS hl
  have hl := lv_sub hl (l' := [(3, .int (zI 0)), (2, .int (zI 0)), (0, .ref (q 0)), (1, .int (zI k))]) [0, 1, 2, 3] rfl
  have e_12 : (smF (neF ah) 0 : Int) = 0 := rfl
  have hl : lv_has ls 4 [(3, .int (zI 0)), (2, .int (zI (smF (neF ah) 0))), (0, .ref (q 0)), (1, .int (zI k))] := by rw [e_12]; exact hl
  exact L4_1 ((min k 180).toNat + 1) 0 (Nat.zero_le _) (by omega) _ _ _ hP hS hl
set_option maxHeartbeats 4000000 in
set_option maxRecDepth 100000 in
theorem kX2_countAhead (l : Launch) (D : va_G) (cI cZ : ClassId) (q : Nat → Nat) (hN : (zLC q).Nodup) (pa : Int → Int) (sp : Int → Int) (al : Int → Int) (dg : Int → Int) (co : Int → Int) (da : Int → Int) (mb : Int → Int) (dd : Int → Int) (ah : Int → Int) (wl : Int → Int) (lo : Int → Int) (n : Nat) (td : Int) (wn : Int) (hah : ∀ j : Int, 0 ≤ ah j ∧ ah j ≤ 5) (c : Int) (h1 : -2147483648 ≤ c ∧ c ≤ 2147483647) : zM l yX2_countAhead wsX2_countAhead ({ frames := 0, cells := 0, slots := 0, locals := 0 }) D [(cI, .int), (cZ, .boolean)] [.ref (q 0), .int (zI c)] (wC cI cZ q pa sp al dg co da mb dd ah wl lo n td wn) (wC cI cZ q pa sp al dg co da mb dd ah wl lo n td wn) (some (.int (zI (smF (eqF ah c) 180)))) (zLC q) := by
  refine Met.ofW (cc := cX2_countAhead) (maxL := 4) (ret := (some .int)) (by decide) rfl ?_
  intro p0 e9 s9 m9 ag9 below meth c9 s₁ B hml hv
  obtain ⟨hav, hP, hK⟩ := hv
  have hx := B.exec
  have hb := B.bytes
  have hr := B.returns
  have hts := atoms_spec (ws := wsX2_countAhead) B.pre
  have hown : s9.vm.findClass RX2 = some m9.cls := findClass_of_methodNamed B.named
  have hlocks := B.notSynchronized
  have hA : ∀ a ∈ zLC q, (fun a => a ∈ zLC q) a := fun _ h => h
  have hin2 : ∀ w ∈ u_ws RX2 TX2 9, w ∈ wsX2_countAhead := by decide +kernel
  have hl := lv_entry ([.ref (q 0), .int (zI c)]) (n := 4) (Nat.le_of_ble_eq_true rfl)
  have hE : entryFrame m9 ag9 4 = F0 m9 0 ((lg_sl ([.ref (q 0), .int (zI c)]) ++ List.replicate (4 - (lg_sl ([.ref (q 0), .int (zI c)])).length) Slot.unset).toArray) [] := by rw [hav]; exact lg_entry_eq m9 _ _
  obtain ⟨Q0, hQ0⟩ : ∃ Q0, Q0 = MQ below (zQ D (wC cI cZ q pa sp al dg co da mb dd ah wl lo n td wn) (some (.int (zI (smF (eqF ah c) 180)))) (zLC q)) ag9 s9 0 0 (fun a => a ∈ zLC q) := ⟨_, rfl⟩
  show W p0 l e9 ({ frames := 0, cells := 0, slots := 0, locals := 0 }) s9 m9 ag9 below meth c9 s9.heap [] 0 0 (MQ below (zQ D (wC cI cZ q pa sp al dg co da mb dd ah wl lo n td wn) (some (.int (zI (smF (eqF ah c) 180)))) (zLC q)) ag9 s9 0 0 (fun a => a ∈ zLC q)) _
  rw [hE, ← hQ0]
  have hS : va_S (fun a => a ∈ zLC q) s9.heap s9.heap [] := va_S.rf
  generalize hH0 : s9.heap = H at hP ⊢
  have hS : va_S (fun a => a ∈ zLC q) s9.heap H [] := by rw [hH0] at hS ⊢; exact hS
  generalize (lg_sl ([.ref (q 0), .int (zI c)]) ++ List.replicate (4 - (lg_sl ([.ref (q 0), .int (zI c)])).length) Slot.unset).toArray = ls at hl ⊢
  have hl : lv_has ls 4 [(0, .ref (q 0)), (1, .int (zI c))] := hl
  refine zr_iconst hx hb dX2_countAhead_0 ?_
  refine lv_istore_n (lv' := [(2, .int (zI 0)), (0, .ref (q 0)), (1, .int (zI c))]) hx hb dX2_countAhead_1 rfl hl (by decide) rfl (fun ls hl => ?_)
  refine zr_iconst hx hb dX2_countAhead_2 ?_
  refine lv_istore_n (lv' := [(3, .int (zI 0)), (2, .int (zI 0)), (0, .ref (q 0)), (1, .int (zI c))]) hx hb dX2_countAhead_3 rfl hl (by decide) rfl (fun ls hl => ?_)
  have L4_1 : ∀ (kf i : Nat), i ≤ 180 → 180 - i < kf → ∀ (H : Heap) (locs : List Loc) (ls : Array Slot), va_P D vwCl (wC cI cZ q pa sp al dg co da mb dd ah wl lo n td wn) H → va_S (fun a => a ∈ zLC q) s9.heap H locs → lv_has ls 4 [(3, .int (zI (i : Int))), (2, .int (zI (smF (eqF ah c) i))), (0, .ref (q 0)), (1, .int (zI c))] → W p0 l e9 ({ frames := 0, cells := 0, slots := 0, locals := 0 }) s9 m9 ag9 below meth c9 H locs 0 0 Q0 (F0 m9 4 ls []) := by
    intro kf
    induction kf with
    | zero => intro i h1 h2; omega
    | succ kf ih =>
      intro i hi_i hk_i H locs ls hP hS hl
      have ih_i := ih
      clear ih
      refine lv_iload_n hx hb dX2_countAhead_4 rfl (lv_at hl 0 rfl) ?_
      refine lv_aload_n hx hb dX2_countAhead_5 rfl (lv_at hl 2 rfl) ?_
      refine va_get (D := D) (ci := 2) (v := .ref (q 5)) (C := RX2) (T := TX2) (N := 9) hx hb hts hin2 hown hK hP 0 rfl rfl 6 (by decide) (hts (.fieldLink RX2 30 "MourningRibbons" "ahead" "[I") (by decide +kernel)) (fun _ h9 => h9) rfl dX2_countAhead_6 ?_
      refine va_alen (v := zI 180) hx hb hK hP 5 0 rfl rfl (show Int32.ofNat 180 = zI 180 by decide) dX2_countAhead_9 ?_
      refine zr_icmp_ge (tgt := 32) hx hb dX2_countAhead_10 (by decide) ⟨by omega, by omega⟩ ⟨by decide, by decide⟩ (fun c_2 => ?_) (fun c_2 => ?_)
      · have c_2 := c_2
        have x_3 : i = 180 := by omega
        try rw [x_3] at hP
        try rw [x_3] at hl
        refine lv_iload_n hx hb dX2_countAhead_32 rfl (lv_at hl 1 rfl) ?_
        rw [hQ0]
        exact zret_i hx hb hr hlocks (rfl) hP hS dX2_countAhead_33
      · have c_2 := c_2
        refine lv_aload_n hx hb dX2_countAhead_13 rfl (lv_at hl 2 rfl) ?_
        refine va_get (D := D) (ci := 2) (v := .ref (q 5)) (C := RX2) (T := TX2) (N := 9) hx hb hts hin2 hown hK hP 0 rfl rfl 6 (by decide) (hts (.fieldLink RX2 30 "MourningRibbons" "ahead" "[I") (by decide +kernel)) (fun _ h9 => h9) rfl dX2_countAhead_14 ?_
        refine lv_iload_n hx hb dX2_countAhead_17 rfl (lv_at hl 0 rfl) ?_
        refine zr_iald (f := ah) (n := 180) hx hb hK hP 5 0 rfl rfl (by decide) (i := (i : Int)) (by omega) (by omega) dX2_countAhead_18 ?_
        have b_4 := hah (i : Int)
        refine lv_iload_n hx hb dX2_countAhead_19 rfl (lv_at hl 3 rfl) ?_
        refine zr_icmp_ne (tgt := 26) hx hb dX2_countAhead_20 (by decide) ⟨by omega, by omega⟩ ⟨by omega, by omega⟩ (fun c_5 => ?_) (fun c_5 => ?_)
        · have c_5 := c_5
          refine zr_iinc (v := (i : Int) + 1) (lv' := [(3, .int (zI ((i : Int) + 1))), (2, .int (zI (smF (eqF ah c) i))), (0, .ref (q 0)), (1, .int (zI c))]) hx hb dX2_countAhead_26 hl (k := 0) rfl rfl (by decide) rfl (fun ls hl => ?_)
          refine lv_goto (tgt := 4) hx hb dX2_countAhead_29 (by decide) ?_
          have hl := lv_sub hl (l' := [(3, .int (zI ((i : Int) + 1))), (2, .int (zI (smF (eqF ah c) i))), (0, .ref (q 0)), (1, .int (zI c))]) [0, 1, 2, 3] rfl
          have e_6 : ((((i + 1) : Nat) : Int) : Int) = (i : Int) + 1 := by omega
          have e_7 : (smF (eqF ah c) (i + 1) : Int) = smF (eqF ah c) i := by rw [smF_s]; unfold eqF; split <;> omega
          have hl : lv_has ls 4 [(3, .int (zI (((i + 1) : Nat) : Int))), (2, .int (zI (smF (eqF ah c) (i + 1)))), (0, .ref (q 0)), (1, .int (zI c))] := by rw [e_6, e_7]; exact hl
          exact ih_i (i + 1) (by omega) (by omega) _ _ _ hP hS hl
        · have c_5 := c_5
          refine zr_iinc (v := (smF (eqF ah c) i) + 1) (lv' := [(2, .int (zI ((smF (eqF ah c) i) + 1))), (3, .int (zI (i : Int))), (0, .ref (q 0)), (1, .int (zI c))]) hx hb dX2_countAhead_23 hl (k := 1) rfl rfl (by decide) rfl (fun ls hl => ?_)
          refine zr_iinc (v := (i : Int) + 1) (lv' := [(3, .int (zI ((i : Int) + 1))), (2, .int (zI ((smF (eqF ah c) i) + 1))), (0, .ref (q 0)), (1, .int (zI c))]) hx hb dX2_countAhead_26 hl (k := 1) rfl rfl (by decide) rfl (fun ls hl => ?_)
          refine lv_goto (tgt := 4) hx hb dX2_countAhead_29 (by decide) ?_
          have hl := lv_sub hl (l' := [(3, .int (zI ((i : Int) + 1))), (2, .int (zI ((smF (eqF ah c) i) + 1))), (0, .ref (q 0)), (1, .int (zI c))]) [0, 1, 2, 3] rfl
          have e_8 : ((((i + 1) : Nat) : Int) : Int) = (i : Int) + 1 := by omega
          have e_9 : (smF (eqF ah c) (i + 1) : Int) = (smF (eqF ah c) i) + 1 := by rw [smF_s]; unfold eqF; split <;> omega
          have hl : lv_has ls 4 [(3, .int (zI (((i + 1) : Nat) : Int))), (2, .int (zI (smF (eqF ah c) (i + 1)))), (0, .ref (q 0)), (1, .int (zI c))] := by rw [e_8, e_9]; exact hl
          exact ih_i (i + 1) (by omega) (by omega) _ _ _ hP hS hl
  have hl := lv_sub hl (l' := [(3, .int (zI 0)), (2, .int (zI 0)), (0, .ref (q 0)), (1, .int (zI c))]) [0, 1, 2, 3] rfl
  have e_10 : (smF (eqF ah c) 0 : Int) = 0 := rfl
  have hl : lv_has ls 4 [(3, .int (zI 0)), (2, .int (zI (smF (eqF ah c) 0))), (0, .ref (q 0)), (1, .int (zI c))] := by rw [e_10]; exact hl
  exact L4_1 (180 + 1) 0 (Nat.zero_le _) (by omega) _ _ _ hP hS hl
set_option maxHeartbeats 4000000 in
set_option maxRecDepth 100000 in
theorem kX2_firstLighterDay (l : Launch) (D : va_G) (cI cZ : ClassId) (q : Nat → Nat) (hN : (zLC q).Nodup) (pa : Int → Int) (sp : Int → Int) (al : Int → Int) (dg : Int → Int) (co : Int → Int) (da : Int → Int) (mb : Int → Int) (dd : Int → Int) (ah : Int → Int) (wl : Int → Int) (lo : Int → Int) (n : Nat) (td : Int) (wn : Int) (hah : ∀ j : Int, 0 ≤ ah j ∧ ah j ≤ 5) : zM l yX2_firstLighterDay wsX2_firstLighterDay ({ frames := 0, cells := 0, slots := 0, locals := 0 }) D [(cI, .int), (cZ, .boolean)] [.ref (q 0)] (wC cI cZ q pa sp al dg co da mb dd ah wl lo n td wn) (wC cI cZ q pa sp al dg co da mb dd ah wl lo n td wn) (some (.int (zI (flD ah)))) (zLC q) := by
  refine Met.ofW (cc := cX2_firstLighterDay) (maxL := 2) (ret := (some .int)) (by decide) rfl ?_
  intro p0 e9 s9 m9 ag9 below meth c9 s₁ B hml hv
  obtain ⟨hav, hP, hK⟩ := hv
  have hx := B.exec
  have hb := B.bytes
  have hr := B.returns
  have hts := atoms_spec (ws := wsX2_firstLighterDay) B.pre
  have hown : s9.vm.findClass RX2 = some m9.cls := findClass_of_methodNamed B.named
  have hlocks := B.notSynchronized
  have hA : ∀ a ∈ zLC q, (fun a => a ∈ zLC q) a := fun _ h => h
  have hin2 : ∀ w ∈ u_ws RX2 TX2 9, w ∈ wsX2_firstLighterDay := by decide +kernel
  have hl := lv_entry ([.ref (q 0)]) (n := 2) (Nat.le_of_ble_eq_true rfl)
  have hE : entryFrame m9 ag9 2 = F0 m9 0 ((lg_sl ([.ref (q 0)]) ++ List.replicate (2 - (lg_sl ([.ref (q 0)])).length) Slot.unset).toArray) [] := by rw [hav]; exact lg_entry_eq m9 _ _
  obtain ⟨Q0, hQ0⟩ : ∃ Q0, Q0 = MQ below (zQ D (wC cI cZ q pa sp al dg co da mb dd ah wl lo n td wn) (some (.int (zI (flD ah)))) (zLC q)) ag9 s9 0 0 (fun a => a ∈ zLC q) := ⟨_, rfl⟩
  show W p0 l e9 ({ frames := 0, cells := 0, slots := 0, locals := 0 }) s9 m9 ag9 below meth c9 s9.heap [] 0 0 (MQ below (zQ D (wC cI cZ q pa sp al dg co da mb dd ah wl lo n td wn) (some (.int (zI (flD ah)))) (zLC q)) ag9 s9 0 0 (fun a => a ∈ zLC q)) _
  rw [hE, ← hQ0]
  have hS : va_S (fun a => a ∈ zLC q) s9.heap s9.heap [] := va_S.rf
  generalize hH0 : s9.heap = H at hP ⊢
  have hS : va_S (fun a => a ∈ zLC q) s9.heap H [] := by rw [hH0] at hS ⊢; exact hS
  generalize (lg_sl ([.ref (q 0)]) ++ List.replicate (2 - (lg_sl ([.ref (q 0)])).length) Slot.unset).toArray = ls at hl ⊢
  have hl : lv_has ls 2 [(0, .ref (q 0))] := hl
  refine lv_aload_n hx hb dX2_firstLighterDay_0 rfl (lv_at hl 0 rfl) ?_
  refine va_get (D := D) (ci := 2) (v := .ref (q 5)) (C := RX2) (T := TX2) (N := 9) hx hb hts hin2 hown hK hP 0 rfl rfl 6 (by decide) (hts (.fieldLink RX2 30 "MourningRibbons" "ahead" "[I") (by decide +kernel)) (fun _ h9 => h9) rfl dX2_firstLighterDay_1 ?_
  refine zr_iconst hx hb dX2_firstLighterDay_4 ?_
  refine zr_iald (f := ah) (n := 180) hx hb hK hP 5 0 rfl rfl (by decide) (i := 0) (by decide) (by decide) dX2_firstLighterDay_5 ?_
  have b_1 := hah 0
  refine zr_if_ne (tgt := 11) hx hb dX2_firstLighterDay_6 (by decide) ⟨by omega, by omega⟩ (fun c_2 => ?_) (fun c_2 => ?_)
  · have c_2 := c_2
    refine zr_iconst hx hb dX2_firstLighterDay_11 ?_
    refine lv_istore_n (lv' := [(1, .int (zI 1)), (0, .ref (q 0))]) hx hb dX2_firstLighterDay_12 rfl hl (by decide) rfl (fun ls hl => ?_)
    have L13_3 : ∀ (kf i : Nat), i ≤ 179 → 179 - i < kf → ∀ (H : Heap) (locs : List Loc) (ls : Array Slot), va_P D vwCl (wC cI cZ q pa sp al dg co da mb dd ah wl lo n td wn) H → va_S (fun a => a ∈ zLC q) s9.heap H locs → lv_has ls 2 [(1, .int (zI ((i : Int) + 1))), (0, .ref (q 0))] → (fst0 ah (179 - i) ((i : Nat) + 1) = fst0 ah 179 1) → W p0 l e9 ({ frames := 0, cells := 0, slots := 0, locals := 0 }) s9 m9 ag9 below meth c9 H locs 0 0 Q0 (F0 m9 13 ls []) := by
      intro kf
      induction kf with
      | zero => intro i h1 h2; omega
      | succ kf ih =>
        intro i hi_i hk_i H locs ls hP hS hl hfl
        have ih_i := ih
        clear ih
        refine lv_iload_n hx hb dX2_firstLighterDay_13 rfl (lv_at hl 0 rfl) ?_
        refine lv_aload_n hx hb dX2_firstLighterDay_14 rfl (lv_at hl 1 rfl) ?_
        refine va_get (D := D) (ci := 2) (v := .ref (q 5)) (C := RX2) (T := TX2) (N := 9) hx hb hts hin2 hown hK hP 0 rfl rfl 6 (by decide) (hts (.fieldLink RX2 30 "MourningRibbons" "ahead" "[I") (by decide +kernel)) (fun _ h9 => h9) rfl dX2_firstLighterDay_15 ?_
        refine va_alen (v := zI 180) hx hb hK hP 5 0 rfl rfl (show Int32.ofNat 180 = zI 180 by decide) dX2_firstLighterDay_18 ?_
        refine zr_icmp_ge (tgt := 45) hx hb dX2_firstLighterDay_19 (by decide) ⟨by omega, by omega⟩ ⟨by decide, by decide⟩ (fun c_4 => ?_) (fun c_4 => ?_)
        · have c_4 := c_4
          refine lv_aload_n hx hb dX2_firstLighterDay_45 rfl (lv_at hl 1 rfl) ?_
          refine va_get (D := D) (ci := 2) (v := .ref (q 5)) (C := RX2) (T := TX2) (N := 9) hx hb hts hin2 hown hK hP 0 rfl rfl 6 (by decide) (hts (.fieldLink RX2 30 "MourningRibbons" "ahead" "[I") (by decide +kernel)) (fun _ h9 => h9) rfl dX2_firstLighterDay_46 ?_
          refine va_alen (v := zI 180) hx hb hK hP 5 0 rfl rfl (show Int32.ofNat 180 = zI 180 by decide) dX2_firstLighterDay_49 ?_
          rw [hQ0]
          exact zret_i hx hb hr hlocks (by unfold flD; rw [if_neg (by omega), ← hfl, show 179 - i = 0 from by omega]; show (180 : Int) = (i : Int) + 1; omega) hP hS dX2_firstLighterDay_50
        · have c_4 := c_4
          refine lv_aload_n hx hb dX2_firstLighterDay_22 rfl (lv_at hl 1 rfl) ?_
          refine va_get (D := D) (ci := 2) (v := .ref (q 5)) (C := RX2) (T := TX2) (N := 9) hx hb hts hin2 hown hK hP 0 rfl rfl 6 (by decide) (hts (.fieldLink RX2 30 "MourningRibbons" "ahead" "[I") (by decide +kernel)) (fun _ h9 => h9) rfl dX2_firstLighterDay_23 ?_
          refine lv_iload_n hx hb dX2_firstLighterDay_26 rfl (lv_at hl 0 rfl) ?_
          refine zr_iald (f := ah) (n := 180) hx hb hK hP 5 0 rfl rfl (by decide) (i := (i : Int) + 1) (by omega) (by omega) dX2_firstLighterDay_27 ?_
          have b_5 := hah ((i : Int) + 1)
          refine lv_aload_n hx hb dX2_firstLighterDay_28 rfl (lv_at hl 1 rfl) ?_
          refine va_get (D := D) (ci := 2) (v := .ref (q 5)) (C := RX2) (T := TX2) (N := 9) hx hb hts hin2 hown hK hP 0 rfl rfl 6 (by decide) (hts (.fieldLink RX2 30 "MourningRibbons" "ahead" "[I") (by decide +kernel)) (fun _ h9 => h9) rfl dX2_firstLighterDay_29 ?_
          refine zr_iconst hx hb dX2_firstLighterDay_32 ?_
          refine zr_iald (f := ah) (n := 180) hx hb hK hP 5 0 rfl rfl (by decide) (i := 0) (by decide) (by decide) dX2_firstLighterDay_33 ?_
          have b_6 := hah 0
          refine zr_icmp_ge (tgt := 39) hx hb dX2_firstLighterDay_34 (by decide) ⟨by omega, by omega⟩ ⟨by omega, by omega⟩ (fun c_7 => ?_) (fun c_7 => ?_)
          · have c_7 := c_7
            refine zr_iinc (v := ((i : Int) + 1) + 1) (lv' := [(1, .int (zI (((i : Int) + 1) + 1))), (0, .ref (q 0))]) hx hb dX2_firstLighterDay_39 hl (k := 0) rfl rfl (by decide) rfl (fun ls hl => ?_)
            refine lv_goto (tgt := 13) hx hb dX2_firstLighterDay_42 (by decide) ?_
            have hl := lv_sub hl (l' := [(1, .int (zI (((i : Int) + 1) + 1))), (0, .ref (q 0))]) [0, 1] rfl
            have e_8 : ((((i + 1) : Nat) : Int) + 1 : Int) = ((i : Int) + 1) + 1 := by omega
            have hl : lv_has ls 2 [(1, .int (zI ((((i + 1) : Nat) : Int) + 1))), (0, .ref (q 0))] := by rw [e_8]; exact hl
            exact ih_i (i + 1) (by omega) (by omega) _ _ _ hP hS hl (by rw [← hfl, show 179 - i = (178 - i) + 1 from by omega, fst0_s, if_neg (by omega)]; congr 1 <;> omega)
          · have c_7 := c_7
            refine lv_iload_n hx hb dX2_firstLighterDay_37 rfl (lv_at hl 0 rfl) ?_
            rw [hQ0]
            exact zret_i hx hb hr hlocks (by unfold flD; (rw [if_neg (by omega), ← hfl, show 179 - i = (178 - i) + 1 from by omega, fst0_s, if_pos (by omega)]) <;> omega) hP hS dX2_firstLighterDay_38
    have hl := lv_sub hl (l' := [(1, .int (zI 1)), (0, .ref (q 0))]) [0, 1] rfl
    have e_9 : ((0 : Int) + 1 : Int) = 1 := rfl
    have hl : lv_has ls 2 [(1, .int (zI ((0 : Int) + 1))), (0, .ref (q 0))] := by rw [e_9]; exact hl
    exact L13_3 (179 + 1) 0 (Nat.zero_le _) (by omega) _ _ _ hP hS hl (rfl)
  · have c_2 := c_2
    refine zr_iconst hx hb dX2_firstLighterDay_9 ?_
    rw [hQ0]
    exact zret_i hx hb hr hlocks (by unfold flD; rw [if_pos (by omega)]) hP hS dX2_firstLighterDay_10
set_option maxHeartbeats 4000000 in
set_option maxRecDepth 100000 in
theorem kX2_wornAheadWith (l : Launch) (D : va_G) (cI cZ : ClassId) (q : Nat → Nat) (hN : (zLC q).Nodup) (pa : Int → Int) (sp : Int → Int) (al : Int → Int) (dg : Int → Int) (co : Int → Int) (da : Int → Int) (mb : Int → Int) (dd : Int → Int) (ah : Int → Int) (wl : Int → Int) (lo : Int → Int) (n : Nat) (td : Int) (wn : Int) (hah : ∀ j : Int, 0 ≤ ah j ∧ ah j ≤ 5) (hco : ∀ j : Int, 0 ≤ co j ∧ co j ≤ 5) (hda : ∀ j : Int, 0 ≤ da j ∧ da j ≤ 60) (g : Int) (h1 : 0 ≤ g ∧ g ≤ 4) : zM l yX2_wornAheadWith wsX2_wornAheadWith ({ frames := 2, cells := 0, slots := 0, locals := 48 }) D [(cI, .int), (cZ, .boolean)] [.ref (q 0), .int (zI g)] (wC cI cZ q pa sp al dg co da mb dd ah wl lo n td wn) (wC cI cZ q pa sp al dg co da mb dd ah wl lo n td wn) (some (.int (zI (smF (wwF co da ah g) 180)))) (zLC q) := by
  refine Met.ofW (cc := cX2_wornAheadWith) (maxL := 4) (ret := (some .int)) (by decide) rfl ?_
  intro p0 e9 s9 m9 ag9 below meth c9 s₁ B hml hv
  obtain ⟨hav, hP, hK⟩ := hv
  have hx := B.exec
  have hb := B.bytes
  have hr := B.returns
  have hts := atoms_spec (ws := wsX2_wornAheadWith) B.pre
  have hown : s9.vm.findClass RX2 = some m9.cls := findClass_of_methodNamed B.named
  have hlocks := B.notSynchronized
  have hA : ∀ a ∈ zLC q, (fun a => a ∈ zLC q) a := fun _ h => h
  have hin2 : ∀ w ∈ u_ws RX2 TX2 9, w ∈ wsX2_wornAheadWith := by decide +kernel
  have hl := lv_entry ([.ref (q 0), .int (zI g)]) (n := 4) (Nat.le_of_ble_eq_true rfl)
  have hE : entryFrame m9 ag9 4 = F0 m9 0 ((lg_sl ([.ref (q 0), .int (zI g)]) ++ List.replicate (4 - (lg_sl ([.ref (q 0), .int (zI g)])).length) Slot.unset).toArray) [] := by rw [hav]; exact lg_entry_eq m9 _ _
  obtain ⟨Q0, hQ0⟩ : ∃ Q0, Q0 = MQ below (zQ D (wC cI cZ q pa sp al dg co da mb dd ah wl lo n td wn) (some (.int (zI (smF (wwF co da ah g) 180)))) (zLC q)) ag9 s9 0 0 (fun a => a ∈ zLC q) := ⟨_, rfl⟩
  show W p0 l e9 ({ frames := 2, cells := 0, slots := 0, locals := 48 }) s9 m9 ag9 below meth c9 s9.heap [] 0 0 (MQ below (zQ D (wC cI cZ q pa sp al dg co da mb dd ah wl lo n td wn) (some (.int (zI (smF (wwF co da ah g) 180)))) (zLC q)) ag9 s9 0 0 (fun a => a ∈ zLC q)) _
  rw [hE, ← hQ0]
  have hS : va_S (fun a => a ∈ zLC q) s9.heap s9.heap [] := va_S.rf
  generalize hH0 : s9.heap = H at hP ⊢
  have hS : va_S (fun a => a ∈ zLC q) s9.heap H [] := by rw [hH0] at hS ⊢; exact hS
  generalize (lg_sl ([.ref (q 0), .int (zI g)]) ++ List.replicate (4 - (lg_sl ([.ref (q 0), .int (zI g)])).length) Slot.unset).toArray = ls at hl ⊢
  have hl : lv_has ls 4 [(0, .ref (q 0)), (1, .int (zI g))] := hl
  refine zr_iconst hx hb dX2_wornAheadWith_0 ?_
  refine lv_istore_n (lv' := [(2, .int (zI 0)), (0, .ref (q 0)), (1, .int (zI g))]) hx hb dX2_wornAheadWith_1 rfl hl (by decide) rfl (fun ls hl => ?_)
  refine zr_iconst hx hb dX2_wornAheadWith_2 ?_
  refine lv_istore_n (lv' := [(3, .int (zI 0)), (2, .int (zI 0)), (0, .ref (q 0)), (1, .int (zI g))]) hx hb dX2_wornAheadWith_3 rfl hl (by decide) rfl (fun ls hl => ?_)
  have L4_1 : ∀ (kf i : Nat), i ≤ 180 → 180 - i < kf → ∀ (H : Heap) (locs : List Loc) (ls : Array Slot), va_P D vwCl (wC cI cZ q pa sp al dg co da mb dd ah wl lo n td wn) H → va_S (fun a => a ∈ zLC q) s9.heap H locs → lv_has ls 4 [(3, .int (zI (i : Int))), (2, .int (zI (smF (wwF co da ah g) i))), (0, .ref (q 0)), (1, .int (zI g))] → W p0 l e9 ({ frames := 2, cells := 0, slots := 0, locals := 48 }) s9 m9 ag9 below meth c9 H locs 0 0 Q0 (F0 m9 4 ls []) := by
    intro kf
    induction kf with
    | zero => intro i h1 h2; omega
    | succ kf ih =>
      intro i hi_i hk_i H locs ls hP hS hl
      have ih_i := ih
      clear ih
      refine lv_iload_n hx hb dX2_wornAheadWith_4 rfl (lv_at hl 0 rfl) ?_
      refine lv_aload_n hx hb dX2_wornAheadWith_5 rfl (lv_at hl 2 rfl) ?_
      refine va_get (D := D) (ci := 2) (v := .ref (q 5)) (C := RX2) (T := TX2) (N := 9) hx hb hts hin2 hown hK hP 0 rfl rfl 6 (by decide) (hts (.fieldLink RX2 30 "MourningRibbons" "ahead" "[I") (by decide +kernel)) (fun _ h9 => h9) rfl dX2_wornAheadWith_6 ?_
      refine va_alen (v := zI 180) hx hb hK hP 5 0 rfl rfl (show Int32.ofNat 180 = zI 180 by decide) dX2_wornAheadWith_9 ?_
      refine zr_icmp_ge (tgt := 45) hx hb dX2_wornAheadWith_10 (by decide) ⟨by omega, by omega⟩ ⟨by decide, by decide⟩ (fun c_2 => ?_) (fun c_2 => ?_)
      · have c_2 := c_2
        have x_3 : i = 180 := by omega
        try rw [x_3] at hP
        try rw [x_3] at hl
        refine lv_iload_n hx hb dX2_wornAheadWith_45 rfl (lv_at hl 1 rfl) ?_
        rw [hQ0]
        exact zret_i hx hb hr hlocks (rfl) hP hS dX2_wornAheadWith_46
      · have c_2 := c_2
        refine lv_aload_n hx hb dX2_wornAheadWith_13 rfl (lv_at hl 2 rfl) ?_
        refine va_get (D := D) (ci := 2) (v := .ref (q 5)) (C := RX2) (T := TX2) (N := 9) hx hb hts hin2 hown hK hP 0 rfl rfl 6 (by decide) (hts (.fieldLink RX2 30 "MourningRibbons" "ahead" "[I") (by decide +kernel)) (fun _ h9 => h9) rfl dX2_wornAheadWith_14 ?_
        refine lv_iload_n hx hb dX2_wornAheadWith_17 rfl (lv_at hl 0 rfl) ?_
        refine zr_iald (f := ah) (n := 180) hx hb hK hP 5 0 rfl rfl (by decide) (i := (i : Int)) (by omega) (by omega) dX2_wornAheadWith_18 ?_
        have b_4 := hah (i : Int)
        refine zr_if_ne (tgt := 36) hx hb dX2_wornAheadWith_19 (by decide) ⟨by omega, by omega⟩ (fun c_5 => ?_) (fun c_5 => ?_)
        · have c_5 := c_5
          refine zr_iinc (v := (smF (wwF co da ah g) i) + 1) (lv' := [(2, .int (zI ((smF (wwF co da ah g) i) + 1))), (3, .int (zI (i : Int))), (0, .ref (q 0)), (1, .int (zI g))]) hx hb dX2_wornAheadWith_36 hl (k := 1) rfl rfl (by decide) rfl (fun ls hl => ?_)
          refine zr_iinc (v := (i : Int) + 1) (lv' := [(3, .int (zI ((i : Int) + 1))), (2, .int (zI ((smF (wwF co da ah g) i) + 1))), (0, .ref (q 0)), (1, .int (zI g))]) hx hb dX2_wornAheadWith_39 hl (k := 1) rfl rfl (by decide) rfl (fun ls hl => ?_)
          refine lv_goto (tgt := 4) hx hb dX2_wornAheadWith_42 (by decide) ?_
          have hl := lv_sub hl (l' := [(3, .int (zI ((i : Int) + 1))), (2, .int (zI ((smF (wwF co da ah g) i) + 1))), (0, .ref (q 0)), (1, .int (zI g))]) [0, 1, 2, 3] rfl
          have e_6 : ((((i + 1) : Nat) : Int) : Int) = (i : Int) + 1 := by omega
          have e_7 : (smF (wwF co da ah g) (i + 1) : Int) = (smF (wwF co da ah g) i) + 1 := by rw [smF_s]; unfold wwF; split <;> omega
          have hl : lv_has ls 4 [(3, .int (zI (((i + 1) : Nat) : Int))), (2, .int (zI (smF (wwF co da ah g) (i + 1)))), (0, .ref (q 0)), (1, .int (zI g))] := by rw [e_6, e_7]; exact hl
          exact ih_i (i + 1) (by omega) (by omega) _ _ _ hP hS hl
        · have c_5 := c_5
          refine lv_aload_n hx hb dX2_wornAheadWith_22 rfl (lv_at hl 2 rfl) ?_
          refine va_get (D := D) (ci := 2) (v := .ref (q 2)) (C := RX2) (T := TX2) (N := 9) hx hb hts hin2 hown hK hP 0 rfl rfl 1 (by decide) (hts (.fieldLink RX2 19 "MourningRibbons" "codes" "LMourningRibbons$Codes;") (by decide +kernel)) (fun _ h9 => h9) rfl dX2_wornAheadWith_23 ?_
          refine zr_bipush hx hb dX2_wornAheadWith_26 (by decide) ?_
          refine lv_iload_n hx hb dX2_wornAheadWith_28 rfl (lv_at hl 3 rfl) ?_
          refine lv_iload_n hx hb dX2_wornAheadWith_29 rfl (lv_at hl 0 rfl) ?_
          refine zcallV (ci := 0) (q0 := 2) (cq := (RX0, TX0, 2)) (As := [.int (zI 16), .int (zI g), .int (zI (i : Int))]) (rest := []) ⟨hx, hb, hml, hown, hts⟩ hK (kX0_colourOn l D cI cZ q hN pa sp al dg co da mb dd ah wl lo n td wn hco hda 16 g (i : Int) (by omega) (by omega) (by omega)) (cwV 3 hts gX2_wornAheadWith_X0_colourOn rfl rfl rfl (by decide +kernel) ⟨Nat.le_of_ble_eq_true rfl, Nat.le_of_ble_eq_true rfl⟩) hP hS hA rfl rfl rfl hl.1 rfl (Nat.le_of_ble_eq_true rfl) dX2_wornAheadWith_30 ⟨Nat.zero_le _, Nat.zero_le _⟩ (fun H locs hP hS _ _ => ?_)
          refine W.eq (g2 := F0 m9 33 ls [.int (zI (cOn co da 16 g (i : Int)))]) rfl ?_
          have f_8 := cOn_bd hco da 16 g (i : Int)
          refine zr_if_eq (tgt := 39) hx hb dX2_wornAheadWith_33 (by decide) ⟨by omega, by omega⟩ (fun c_9 => ?_) (fun c_9 => ?_)
          · have c_9 := c_9
            refine zr_iinc (v := (i : Int) + 1) (lv' := [(3, .int (zI ((i : Int) + 1))), (2, .int (zI (smF (wwF co da ah g) i))), (0, .ref (q 0)), (1, .int (zI g))]) hx hb dX2_wornAheadWith_39 hl (k := 0) rfl rfl (by decide) rfl (fun ls hl => ?_)
            refine lv_goto (tgt := 4) hx hb dX2_wornAheadWith_42 (by decide) ?_
            have hl := lv_sub hl (l' := [(3, .int (zI ((i : Int) + 1))), (2, .int (zI (smF (wwF co da ah g) i))), (0, .ref (q 0)), (1, .int (zI g))]) [0, 1, 2, 3] rfl
            have e_10 : ((((i + 1) : Nat) : Int) : Int) = (i : Int) + 1 := by omega
            have e_11 : (smF (wwF co da ah g) (i + 1) : Int) = smF (wwF co da ah g) i := by rw [smF_s]; unfold wwF; split <;> omega
            have hl : lv_has ls 4 [(3, .int (zI (((i + 1) : Nat) : Int))), (2, .int (zI (smF (wwF co da ah g) (i + 1)))), (0, .ref (q 0)), (1, .int (zI g))] := by rw [e_10, e_11]; exact hl
            exact ih_i (i + 1) (by omega) (by omega) _ _ _ hP hS hl
          · have c_9 := c_9
            refine zr_iinc (v := (smF (wwF co da ah g) i) + 1) (lv' := [(2, .int (zI ((smF (wwF co da ah g) i) + 1))), (3, .int (zI (i : Int))), (0, .ref (q 0)), (1, .int (zI g))]) hx hb dX2_wornAheadWith_36 hl (k := 1) rfl rfl (by decide) rfl (fun ls hl => ?_)
            refine zr_iinc (v := (i : Int) + 1) (lv' := [(3, .int (zI ((i : Int) + 1))), (2, .int (zI ((smF (wwF co da ah g) i) + 1))), (0, .ref (q 0)), (1, .int (zI g))]) hx hb dX2_wornAheadWith_39 hl (k := 1) rfl rfl (by decide) rfl (fun ls hl => ?_)
            refine lv_goto (tgt := 4) hx hb dX2_wornAheadWith_42 (by decide) ?_
            have hl := lv_sub hl (l' := [(3, .int (zI ((i : Int) + 1))), (2, .int (zI ((smF (wwF co da ah g) i) + 1))), (0, .ref (q 0)), (1, .int (zI g))]) [0, 1, 2, 3] rfl
            have e_12 : ((((i + 1) : Nat) : Int) : Int) = (i : Int) + 1 := by omega
            have e_13 : (smF (wwF co da ah g) (i + 1) : Int) = (smF (wwF co da ah g) i) + 1 := by rw [smF_s]; unfold wwF; split <;> omega
            have hl : lv_has ls 4 [(3, .int (zI (((i + 1) : Nat) : Int))), (2, .int (zI (smF (wwF co da ah g) (i + 1)))), (0, .ref (q 0)), (1, .int (zI g))] := by rw [e_12, e_13]; exact hl
            exact ih_i (i + 1) (by omega) (by omega) _ _ _ hP hS hl
  have hl := lv_sub hl (l' := [(3, .int (zI 0)), (2, .int (zI 0)), (0, .ref (q 0)), (1, .int (zI g))]) [0, 1, 2, 3] rfl
  have e_14 : (smF (wwF co da ah g) 0 : Int) = 0 := rfl
  have hl : lv_has ls 4 [(3, .int (zI 0)), (2, .int (zI (smF (wwF co da ah g) 0))), (0, .ref (q 0)), (1, .int (zI g))] := by rw [e_14]; exact hl
  exact L4_1 (180 + 1) 0 (Nat.zero_le _) (by omega) _ _ _ hP hS hl
set_option maxHeartbeats 4000000 in
set_option maxRecDepth 100000 in
theorem kX2_addLossesOf (l : Launch) (D : va_G) (cI cZ : ClassId) (q : Nat → Nat) (hN : (zLC q).Nodup) (pa : Int → Int) (sp : Int → Int) (al : Int → Int) (dg : Int → Int) (co : Int → Int) (da : Int → Int) (mb : Int → Int) (dd : Int → Int) (ah : Int → Int) (wl : Int → Int) (lo : Int → Int) (n : Nat) (td : Int) (wn : Int) (hn : n ≤ 16) (hco : ∀ j : Int, 0 ≤ co j ∧ co j ≤ 5) (hda : ∀ j : Int, 0 ≤ da j ∧ da j ≤ 60) (hmb : ∀ j : Int, 0 ≤ mb j ∧ mb j ≤ 4) (hdd : ∀ j : Int, 0 ≤ dd j ∧ dd j ≤ 1000000) (htd : 0 ≤ td ∧ td ≤ 1000000) (hpa : ∀ j : Int, -1 ≤ pa j ∧ pa j ≤ 15) (hsp : ∀ j : Int, -1 ≤ sp j ∧ sp j ≤ 15) (p : Int) (h1 : 0 ≤ p ∧ p < 16) : zM l yX2_addLossesOf wsX2_addLossesOf ({ frames := 4, cells := 0, slots := 0, locals := 95 }) D [(cI, .int), (cZ, .boolean)] [.ref (q 0), .int (zI p)] (wC cI cZ q pa sp al dg co da mb dd ah wl lo n td wn) (wC cI cZ q pa sp al (dgF pa sp n p) co da mb dd (ca co da mb dd td n p) (wwA co da (ca co da mb dd td n p)) (loF lo p (wwA co da (ca co da mb dd td n p)) (dgF pa sp n p) n) n td wn) none (zLC q) := by
  refine Met.ofW (cc := cX2_addLossesOf) (maxL := 3) (ret := none) (by decide) rfl ?_
  intro p0 e9 s9 m9 ag9 below meth c9 s₁ B hml hv
  obtain ⟨hav, hP, hK⟩ := hv
  have hx := B.exec
  have hb := B.bytes
  have hr := B.returns
  have hts := atoms_spec (ws := wsX2_addLossesOf) B.pre
  have hown : s9.vm.findClass RX2 = some m9.cls := findClass_of_methodNamed B.named
  have hlocks := B.notSynchronized
  have hA : ∀ a ∈ zLC q, (fun a => a ∈ zLC q) a := fun _ h => h
  have hin1 : ∀ w ∈ u_ws RX1 TX1 5, w ∈ wsX2_addLossesOf := by decide +kernel
  have hin2 : ∀ w ∈ u_ws RX2 TX2 9, w ∈ wsX2_addLossesOf := by decide +kernel
  have hl := lv_entry ([.ref (q 0), .int (zI p)]) (n := 3) (Nat.le_of_ble_eq_true rfl)
  have hE : entryFrame m9 ag9 3 = F0 m9 0 ((lg_sl ([.ref (q 0), .int (zI p)]) ++ List.replicate (3 - (lg_sl ([.ref (q 0), .int (zI p)])).length) Slot.unset).toArray) [] := by rw [hav]; exact lg_entry_eq m9 _ _
  obtain ⟨Q0, hQ0⟩ : ∃ Q0, Q0 = MQ below (zQ D (wC cI cZ q pa sp al (dgF pa sp n p) co da mb dd (ca co da mb dd td n p) (wwA co da (ca co da mb dd td n p)) (loF lo p (wwA co da (ca co da mb dd td n p)) (dgF pa sp n p) n) n td wn) none (zLC q)) ag9 s9 0 0 (fun a => a ∈ zLC q) := ⟨_, rfl⟩
  show W p0 l e9 ({ frames := 4, cells := 0, slots := 0, locals := 95 }) s9 m9 ag9 below meth c9 s9.heap [] 0 0 (MQ below (zQ D (wC cI cZ q pa sp al (dgF pa sp n p) co da mb dd (ca co da mb dd td n p) (wwA co da (ca co da mb dd td n p)) (loF lo p (wwA co da (ca co da mb dd td n p)) (dgF pa sp n p) n) n td wn) none (zLC q)) ag9 s9 0 0 (fun a => a ∈ zLC q)) _
  rw [hE, ← hQ0]
  have hS : va_S (fun a => a ∈ zLC q) s9.heap s9.heap [] := va_S.rf
  generalize hH0 : s9.heap = H at hP ⊢
  have hS : va_S (fun a => a ∈ zLC q) s9.heap H [] := by rw [hH0] at hS ⊢; exact hS
  generalize (lg_sl ([.ref (q 0), .int (zI p)]) ++ List.replicate (3 - (lg_sl ([.ref (q 0), .int (zI p)])).length) Slot.unset).toArray = ls at hl ⊢
  have hl : lv_has ls 3 [(0, .ref (q 0)), (1, .int (zI p))] := hl
  refine lv_aload_n hx hb dX2_addLossesOf_0 rfl (lv_at hl 0 rfl) ?_
  refine lv_iload_n hx hb dX2_addLossesOf_1 rfl (lv_at hl 1 rfl) ?_
  refine zcallV (ci := 2) (q0 := 0) (cq := (RX2, TX2, 9)) (As := [.int (zI p)]) (rest := []) ⟨hx, hb, hml, hown, hts⟩ hK (kX2_paintAhead l D cI cZ q hN pa sp al dg co da mb dd ah wl lo n td wn hn hco hda hmb hdd htd p (by omega)) (cwV 1 hts gX2_addLossesOf_X2_paintAhead rfl rfl rfl (by decide +kernel) ⟨Nat.le_of_ble_eq_true rfl, Nat.le_of_ble_eq_true rfl⟩) hP hS hA rfl rfl rfl hl.1 rfl (Nat.le_of_ble_eq_true rfl) dX2_addLossesOf_2 ⟨Nat.zero_le _, Nat.zero_le _⟩ (fun H locs hP hS _ _ => ?_)
  have g_1 : ∀ j : Int, 0 ≤ (ca co da mb dd td n p) j ∧ (ca co da mb dd td n p) j ≤ 5 := fun j => ca_bd hco da mb dd td n p j
  refine W.eq (g2 := F0 m9 5 ls []) rfl ?_
  refine zr_iconst hx hb dX2_addLossesOf_5 ?_
  refine lv_istore_n (lv' := [(2, .int (zI 0)), (0, .ref (q 0)), (1, .int (zI p))]) hx hb dX2_addLossesOf_6 rfl hl (by decide) rfl (fun ls hl => ?_)
  have L7_2 : ∀ (kf i : Nat), i ≤ 5 → 5 - i < kf → ∀ (H : Heap) (locs : List Loc) (ls : Array Slot), va_P D vwCl (wC cI cZ q pa sp al dg co da mb dd (ca co da mb dd td n p) (wlI wl co da (ca co da mb dd td n p) i) lo n td wn) H → va_S (fun a => a ∈ zLC q) s9.heap H locs → lv_has ls 3 [(2, .int (zI (i : Int))), (0, .ref (q 0)), (1, .int (zI p))] → W p0 l e9 ({ frames := 4, cells := 0, slots := 0, locals := 95 }) s9 m9 ag9 below meth c9 H locs 0 0 Q0 (F0 m9 7 ls []) := by
    intro kf
    induction kf with
    | zero => intro i h1 h2; omega
    | succ kf ih =>
      intro i hi_i hk_i H locs ls hP hS hl
      have ih_i := ih
      clear ih
      refine lv_iload_n hx hb dX2_addLossesOf_7 rfl (lv_at hl 0 rfl) ?_
      refine lv_aload_n hx hb dX2_addLossesOf_8 rfl (lv_at hl 1 rfl) ?_
      refine va_get (D := D) (ci := 2) (v := .ref (q 6)) (C := RX2) (T := TX2) (N := 9) hx hb hts hin2 hown hK hP 0 rfl rfl 7 (by decide) (hts (.fieldLink RX2 33 "MourningRibbons" "wornIfLost" "[I") (by decide +kernel)) (fun _ h9 => h9) rfl dX2_addLossesOf_9 ?_
      refine va_alen (v := zI 5) hx hb hK hP 6 0 rfl rfl (show Int32.ofNat 5 = zI 5 by decide) dX2_addLossesOf_12 ?_
      refine zr_icmp_ge (tgt := 33) hx hb dX2_addLossesOf_13 (by decide) ⟨by omega, by omega⟩ ⟨by decide, by decide⟩ (fun c_3 => ?_) (fun c_3 => ?_)
      · have c_3 := c_3
        have x_4 : i = 5 := by omega
        try rw [x_4] at hP
        try rw [x_4] at hl
        have hP : va_P D vwCl (wC cI cZ q pa sp al dg co da mb dd (ca co da mb dd td n p) (wwA co da (ca co da mb dd td n p)) lo n td wn) H := zcg (f := wlI wl co da (ca co da mb dd td n p) 5) (g := wwA co da (ca co da mb dd td n p)) hP 6 rfl (fun j h0 h1 => wlI_5 _ _ _ _ j h0 h1)
        refine lv_aload_n hx hb dX2_addLossesOf_33 rfl (lv_at hl 1 rfl) ?_
        refine va_get (D := D) (ci := 2) (v := .ref (q 1)) (C := RX2) (T := TX2) (N := 9) hx hb hts hin2 hown hK hP 0 rfl rfl 0 (by decide) (hts (.fieldLink RX2 12 "MourningRibbons" "family" "LMourningRibbons$Family;") (by decide +kernel)) (fun _ h9 => h9) rfl dX2_addLossesOf_34 ?_
        refine lv_iload_n hx hb dX2_addLossesOf_37 rfl (lv_at hl 2 rfl) ?_
        refine zcallV (ci := 1) (q0 := 1) (cq := (RX1, TX1, 5)) (As := [.int (zI p)]) (rest := []) ⟨hx, hb, hml, hown, hts⟩ hK (kX1_findDegrees l D cI cZ q hN pa sp al dg co da mb dd (ca co da mb dd td n p) (wwA co da (ca co da mb dd td n p)) lo n td wn hpa hsp hn p (by omega)) (cwV 1 hts gX2_addLossesOf_X1_findDegrees rfl rfl rfl (by decide +kernel) ⟨Nat.le_of_ble_eq_true rfl, Nat.le_of_ble_eq_true rfl⟩) hP hS hA rfl rfl rfl hl.1 rfl (Nat.le_of_ble_eq_true rfl) dX2_addLossesOf_38 ⟨Nat.zero_le _, Nat.zero_le _⟩ (fun H locs hP hS _ _ => ?_)
        have g_5 : ∀ j : Int, 0 ≤ (dgF pa sp n p) j ∧ (dgF pa sp n p) j ≤ 4 := dgF_bd pa sp n p
        refine W.eq (g2 := F0 m9 41 ls []) rfl ?_
        refine zr_iconst hx hb dX2_addLossesOf_41 ?_
        refine lv_istore_n (lv' := [(2, .int (zI 0)), (0, .ref (q 0)), (1, .int (zI p))]) hx hb dX2_addLossesOf_42 rfl hl (by decide) rfl (fun ls hl => ?_)
        have L43_6 : ∀ (kf i : Nat), i ≤ n → n - i < kf → ∀ (H : Heap) (locs : List Loc) (ls : Array Slot), va_P D vwCl (wC cI cZ q pa sp al (dgF pa sp n p) co da mb dd (ca co da mb dd td n p) (wwA co da (ca co da mb dd td n p)) (loF lo p (wwA co da (ca co da mb dd td n p)) (dgF pa sp n p) i) n td wn) H → va_S (fun a => a ∈ zLC q) s9.heap H locs → lv_has ls 3 [(2, .int (zI (i : Int))), (0, .ref (q 0)), (1, .int (zI p))] → W p0 l e9 ({ frames := 4, cells := 0, slots := 0, locals := 95 }) s9 m9 ag9 below meth c9 H locs 0 0 Q0 (F0 m9 43 ls []) := by
          intro kf
          induction kf with
          | zero => intro i h1 h2; omega
          | succ kf ih =>
            intro i hi_i hk_i H locs ls hP hS hl
            have ih_i := ih
            clear ih
            refine lv_iload_n hx hb dX2_addLossesOf_43 rfl (lv_at hl 0 rfl) ?_
            refine lv_aload_n hx hb dX2_addLossesOf_44 rfl (lv_at hl 1 rfl) ?_
            refine va_get (D := D) (ci := 2) (v := .ref (q 1)) (C := RX2) (T := TX2) (N := 9) hx hb hts hin2 hown hK hP 0 rfl rfl 0 (by decide) (hts (.fieldLink RX2 12 "MourningRibbons" "family" "LMourningRibbons$Family;") (by decide +kernel)) (fun _ h9 => h9) rfl dX2_addLossesOf_45 ?_
            refine va_get (D := D) (ci := 1) (v := .int (zI (n : Int))) (C := RX1) (T := TX1) (N := 5) hx hb hts hin1 hown hK hP 1 rfl rfl 3 (by decide) (hts (.fieldLink RX2 128 "MourningRibbons$Family" "count" "I") (by decide +kernel)) (fun _ h9 => h9) rfl dX2_addLossesOf_48 ?_
            refine zr_icmp_ge (tgt := 88) hx hb dX2_addLossesOf_51 (by decide) ⟨by omega, by omega⟩ ⟨by omega, by omega⟩ (fun c_7 => ?_) (fun c_7 => ?_)
            · have c_7 := c_7
              have x_8 : i = n := by omega
              try rw [x_8] at hP
              try rw [x_8] at hl
              rw [hQ0]
              exact zret_v hx hb hr hlocks hP hS dX2_addLossesOf_88
            · have c_7 := c_7
              refine lv_iload_n hx hb dX2_addLossesOf_54 rfl (lv_at hl 0 rfl) ?_
              refine lv_iload_n hx hb dX2_addLossesOf_55 rfl (lv_at hl 2 rfl) ?_
              refine zr_icmp_eq (tgt := 82) hx hb dX2_addLossesOf_56 (by decide) ⟨by omega, by omega⟩ ⟨by omega, by omega⟩ (fun c_9 => ?_) (fun c_9 => ?_)
              · have c_9 := c_9
                refine zr_iinc (v := (i : Int) + 1) (lv' := [(2, .int (zI ((i : Int) + 1))), (0, .ref (q 0)), (1, .int (zI p))]) hx hb dX2_addLossesOf_82 hl (k := 0) rfl rfl (by decide) rfl (fun ls hl => ?_)
                refine lv_goto (tgt := 43) hx hb dX2_addLossesOf_85 (by decide) ?_
                have hl := lv_sub hl (l' := [(2, .int (zI ((i : Int) + 1))), (0, .ref (q 0)), (1, .int (zI p))]) [0, 1, 2] rfl
                have e_10 : ((((i + 1) : Nat) : Int) : Int) = (i : Int) + 1 := by omega
                have hl : lv_has ls 3 [(2, .int (zI (((i + 1) : Nat) : Int))), (0, .ref (q 0)), (1, .int (zI p))] := by rw [e_10]; exact hl
                have e_11 : (loF lo p (wwA co da (ca co da mb dd td n p)) (dgF pa sp n p) (i + 1) : Int → Int) = loF lo p (wwA co da (ca co da mb dd td n p)) (dgF pa sp n p) i := by first | exact loF_y (by omega) | exact loF_n (by omega)
                have hP : va_P D vwCl (wC cI cZ q pa sp al (dgF pa sp n p) co da mb dd (ca co da mb dd td n p) (wwA co da (ca co da mb dd td n p)) (loF lo p (wwA co da (ca co da mb dd td n p)) (dgF pa sp n p) (i + 1)) n td wn) H := by rw [e_11]; exact hP
                exact ih_i (i + 1) (by omega) (by omega) _ _ _ hP hS hl
              · have c_9 := c_9
                refine lv_aload_n hx hb dX2_addLossesOf_59 rfl (lv_at hl 1 rfl) ?_
                refine va_get (D := D) (ci := 2) (v := .ref (q 7)) (C := RX2) (T := TX2) (N := 9) hx hb hts hin2 hown hK hP 0 rfl rfl 8 (by decide) (hts (.fieldLink RX2 36 "MourningRibbons" "loss" "[I") (by decide +kernel)) (fun _ h9 => h9) rfl dX2_addLossesOf_60 ?_
                refine lv_iload_n hx hb dX2_addLossesOf_63 rfl (lv_at hl 0 rfl) ?_
                refine lv_dup2_11 hx hb dX2_addLossesOf_64 rfl rfl ?_
                refine zr_iald (f := loF lo p (wwA co da (ca co da mb dd td n p)) (dgF pa sp n p) i) (n := 16) hx hb hK hP 7 0 rfl rfl (by decide) (i := (i : Int)) (by omega) (by omega) dX2_addLossesOf_65 ?_
                refine lv_aload_n hx hb dX2_addLossesOf_66 rfl (lv_at hl 1 rfl) ?_
                refine va_get (D := D) (ci := 2) (v := .ref (q 6)) (C := RX2) (T := TX2) (N := 9) hx hb hts hin2 hown hK hP 0 rfl rfl 7 (by decide) (hts (.fieldLink RX2 33 "MourningRibbons" "wornIfLost" "[I") (by decide +kernel)) (fun _ h9 => h9) rfl dX2_addLossesOf_67 ?_
                refine lv_aload_n hx hb dX2_addLossesOf_70 rfl (lv_at hl 1 rfl) ?_
                refine va_get (D := D) (ci := 2) (v := .ref (q 1)) (C := RX2) (T := TX2) (N := 9) hx hb hts hin2 hown hK hP 0 rfl rfl 0 (by decide) (hts (.fieldLink RX2 12 "MourningRibbons" "family" "LMourningRibbons$Family;") (by decide +kernel)) (fun _ h9 => h9) rfl dX2_addLossesOf_71 ?_
                refine va_get (D := D) (ci := 1) (v := .ref (q 11)) (C := RX1) (T := TX1) (N := 5) hx hb hts hin1 hown hK hP 1 rfl rfl 4 (by decide) (hts (.fieldLink RX2 71 "MourningRibbons$Family" "degrees" "[I") (by decide +kernel)) (fun _ h9 => h9) rfl dX2_addLossesOf_74 ?_
                refine lv_iload_n hx hb dX2_addLossesOf_77 rfl (lv_at hl 0 rfl) ?_
                refine zr_iald (f := dgF pa sp n p) (n := 16) hx hb hK hP 11 0 rfl rfl (by decide) (i := (i : Int)) (by omega) (by omega) dX2_addLossesOf_78 ?_
                have b_12 := g_5 (i : Int)
                refine zr_iald (f := wwA co da (ca co da mb dd td n p)) (n := 5) hx hb hK hP 6 0 rfl rfl (by decide) (i := (dgF pa sp n p) (i : Int)) (by omega) (by omega) dX2_addLossesOf_79 ?_
                refine zr_iadd (v := ((loF lo p (wwA co da (ca co da mb dd td n p)) (dgF pa sp n p) i) (i : Int)) + ((wwA co da (ca co da mb dd td n p)) ((dgF pa sp n p) (i : Int)))) hx hb rfl dX2_addLossesOf_80 ?_
                refine zr_iast (f := loF lo p (wwA co da (ca co da mb dd td n p)) (dgF pa sp n p) i) (n := 16) hx hb hK hP hN rfl hA hS 7 0 rfl rfl (by decide) (i := (i : Int)) (x := ((loF lo p (wwA co da (ca co da mb dd td n p)) (dgF pa sp n p) i) (i : Int)) + ((wwA co da (ca co da mb dd td n p)) ((dgF pa sp n p) (i : Int)))) (by omega) (by omega) dX2_addLossesOf_81 (fun H locs hP hS => ?_)
                have hP : va_P D vwCl (wC cI cZ q pa sp al (dgF pa sp n p) co da mb dd (ca co da mb dd td n p) (wwA co da (ca co da mb dd td n p)) (up (loF lo p (wwA co da (ca co da mb dd td n p)) (dgF pa sp n p) i) (i : Int) (((loF lo p (wwA co da (ca co da mb dd td n p)) (dgF pa sp n p) i) (i : Int)) + ((wwA co da (ca co da mb dd td n p)) ((dgF pa sp n p) (i : Int))))) n td wn) H := hP
                refine zr_iinc (v := (i : Int) + 1) (lv' := [(2, .int (zI ((i : Int) + 1))), (0, .ref (q 0)), (1, .int (zI p))]) hx hb dX2_addLossesOf_82 hl (k := 0) rfl rfl (by decide) rfl (fun ls hl => ?_)
                refine lv_goto (tgt := 43) hx hb dX2_addLossesOf_85 (by decide) ?_
                have hl := lv_sub hl (l' := [(2, .int (zI ((i : Int) + 1))), (0, .ref (q 0)), (1, .int (zI p))]) [0, 1, 2] rfl
                have e_13 : ((((i + 1) : Nat) : Int) : Int) = (i : Int) + 1 := by omega
                have hl : lv_has ls 3 [(2, .int (zI (((i + 1) : Nat) : Int))), (0, .ref (q 0)), (1, .int (zI p))] := by rw [e_13]; exact hl
                have e_14 : (loF lo p (wwA co da (ca co da mb dd td n p)) (dgF pa sp n p) (i + 1) : Int → Int) = up (loF lo p (wwA co da (ca co da mb dd td n p)) (dgF pa sp n p) i) (i : Int) (((loF lo p (wwA co da (ca co da mb dd td n p)) (dgF pa sp n p) i) (i : Int)) + ((wwA co da (ca co da mb dd td n p)) ((dgF pa sp n p) (i : Int)))) := by first | exact loF_y (by omega) | exact loF_n (by omega)
                have hP : va_P D vwCl (wC cI cZ q pa sp al (dgF pa sp n p) co da mb dd (ca co da mb dd td n p) (wwA co da (ca co da mb dd td n p)) (loF lo p (wwA co da (ca co da mb dd td n p)) (dgF pa sp n p) (i + 1)) n td wn) H := by rw [e_14]; exact hP
                exact ih_i (i + 1) (by omega) (by omega) _ _ _ hP hS hl
        have hl := lv_sub hl (l' := [(2, .int (zI 0)), (0, .ref (q 0)), (1, .int (zI p))]) [0, 1, 2] rfl
        have e_15 : (loF lo p (wwA co da (ca co da mb dd td n p)) (dgF pa sp n p) 0 : Int → Int) = lo := loF_0 _ _ _ _
        have hP : va_P D vwCl (wC cI cZ q pa sp al (dgF pa sp n p) co da mb dd (ca co da mb dd td n p) (wwA co da (ca co da mb dd td n p)) (loF lo p (wwA co da (ca co da mb dd td n p)) (dgF pa sp n p) 0) n td wn) H := by rw [e_15]; exact hP
        exact L43_6 (n + 1) 0 (Nat.zero_le _) (by omega) _ _ _ hP hS hl
      · have c_3 := c_3
        refine lv_aload_n hx hb dX2_addLossesOf_16 rfl (lv_at hl 1 rfl) ?_
        refine va_get (D := D) (ci := 2) (v := .ref (q 6)) (C := RX2) (T := TX2) (N := 9) hx hb hts hin2 hown hK hP 0 rfl rfl 7 (by decide) (hts (.fieldLink RX2 33 "MourningRibbons" "wornIfLost" "[I") (by decide +kernel)) (fun _ h9 => h9) rfl dX2_addLossesOf_17 ?_
        refine lv_iload_n hx hb dX2_addLossesOf_20 rfl (lv_at hl 0 rfl) ?_
        refine lv_aload_n hx hb dX2_addLossesOf_21 rfl (lv_at hl 1 rfl) ?_
        refine lv_iload_n hx hb dX2_addLossesOf_22 rfl (lv_at hl 0 rfl) ?_
        refine zcallV (ci := 2) (q0 := 0) (cq := (RX2, TX2, 9)) (As := [.int (zI (i : Int))]) (rest := [.int (zI (i : Int)), .ref (q 6)]) ⟨hx, hb, hml, hown, hts⟩ hK (kX2_wornAheadWith l D cI cZ q hN pa sp al dg co da mb dd (ca co da mb dd td n p) (wlI wl co da (ca co da mb dd td n p) i) lo n td wn g_1 hco hda (i : Int) (by omega)) (cwV 1 hts gX2_addLossesOf_X2_wornAheadWith rfl rfl rfl (by decide +kernel) ⟨Nat.le_of_ble_eq_true rfl, Nat.le_of_ble_eq_true rfl⟩) hP hS hA rfl rfl rfl hl.1 rfl (Nat.le_of_ble_eq_true rfl) dX2_addLossesOf_23 ⟨Nat.zero_le _, Nat.zero_le _⟩ (fun H locs hP hS _ _ => ?_)
        refine W.eq (g2 := F0 m9 26 ls [.int (zI (smF (wwF co da (ca co da mb dd td n p) (i : Int)) 180)), .int (zI (i : Int)), .ref (q 6)]) rfl ?_
        have f_16 := smF_bd (f := wwF co da (ca co da mb dd td n p) (i : Int)) (k := 180) (B := 1) (fun j => wwF_01 co da (ca co da mb dd td n p) (i : Int) j)
        refine zr_iast (f := wlI wl co da (ca co da mb dd td n p) i) (n := 5) hx hb hK hP hN rfl hA hS 6 0 rfl rfl (by decide) (i := (i : Int)) (x := smF (wwF co da (ca co da mb dd td n p) (i : Int)) 180) (by omega) (by omega) dX2_addLossesOf_26 (fun H locs hP hS => ?_)
        have hP : va_P D vwCl (wC cI cZ q pa sp al dg co da mb dd (ca co da mb dd td n p) (up (wlI wl co da (ca co da mb dd td n p) i) (i : Int) (smF (wwF co da (ca co da mb dd td n p) (i : Int)) 180)) lo n td wn) H := hP
        refine zr_iinc (v := (i : Int) + 1) (lv' := [(2, .int (zI ((i : Int) + 1))), (0, .ref (q 0)), (1, .int (zI p))]) hx hb dX2_addLossesOf_27 hl (k := 0) rfl rfl (by decide) rfl (fun ls hl => ?_)
        refine lv_goto (tgt := 7) hx hb dX2_addLossesOf_30 (by decide) ?_
        have hl := lv_sub hl (l' := [(2, .int (zI ((i : Int) + 1))), (0, .ref (q 0)), (1, .int (zI p))]) [0, 1, 2] rfl
        have e_17 : ((((i + 1) : Nat) : Int) : Int) = (i : Int) + 1 := by omega
        have hl : lv_has ls 3 [(2, .int (zI (((i + 1) : Nat) : Int))), (0, .ref (q 0)), (1, .int (zI p))] := by rw [e_17]; exact hl
        have e_18 : (wlI wl co da (ca co da mb dd td n p) (i + 1) : Int → Int) = up (wlI wl co da (ca co da mb dd td n p) i) (i : Int) (smF (wwF co da (ca co da mb dd td n p) (i : Int)) 180) := wlI_s _ _ _ _ _
        have hP : va_P D vwCl (wC cI cZ q pa sp al dg co da mb dd (ca co da mb dd td n p) (wlI wl co da (ca co da mb dd td n p) (i + 1)) lo n td wn) H := by rw [e_18]; exact hP
        exact ih_i (i + 1) (by omega) (by omega) _ _ _ hP hS hl
  have hl := lv_sub hl (l' := [(2, .int (zI 0)), (0, .ref (q 0)), (1, .int (zI p))]) [0, 1, 2] rfl
  have e_19 : (wlI wl co da (ca co da mb dd td n p) 0 : Int → Int) = wl := wlI_0 _ _ _ _
  have hP : va_P D vwCl (wC cI cZ q pa sp al dg co da mb dd (ca co da mb dd td n p) (wlI wl co da (ca co da mb dd td n p) 0) lo n td wn) H := by rw [e_19]; exact hP
  exact L7_2 (5 + 1) 0 (Nat.zero_le _) (by omega) _ _ _ hP hS hl
