set_option maxHeartbeats 4000000 in
set_option maxRecDepth 100000 in
theorem kX3_people (l : Launch) (D : va_G) (cI cZ : ClassId) (q : Nat → Nat) (hN : (zLM q).Nodup) (pa : Int → Int) (sp : Int → Int) (al : Int → Int) (co : Int → Int) (da : Int → Int) (mo : Int → Int) (st : Int → Int) (mr : Int → Int) (th : Int) (n : Nat) (td : Int) (wn : Int) : zM l yX3_people wsX3_people ({ frames := 1, cells := 0, slots := 0, locals := 21 }) D [(cI, .int), (cZ, .boolean)] [.ref (q 0)] (wM cI cZ q pa sp al co da mo st mr th n td wn) (wM cI cZ q pa sp al co da mo st mr 0 n td wn) (some (.int (zI (n : Int)))) (zLM q) := by
  refine Met.ofW (cc := cX3_people) (maxL := 1) (ret := (some .int)) (by decide) rfl ?_
  intro p0 e9 s9 m9 ag9 below meth c9 s₁ B hml hv
  obtain ⟨hav, hP, hK⟩ := hv
  have hx := B.exec
  have hb := B.bytes
  have hr := B.returns
  have hts := atoms_spec (ws := wsX3_people) B.pre
  have hown : s9.vm.findClass RX3 = some m9.cls := findClass_of_methodNamed B.named
  have hlocks := B.notSynchronized
  have hA : ∀ a ∈ zLM q, (fun a => a ∈ zLM q) a := fun _ h => h
  have hin3 : ∀ w ∈ u_ws RX3 TX3 12, w ∈ wsX3_people := by decide +kernel
  have hl := lv_entry ([.ref (q 0)]) (n := 1) (Nat.le_of_ble_eq_true rfl)
  have hE : entryFrame m9 ag9 1 = F0 m9 0 ((lg_sl ([.ref (q 0)]) ++ List.replicate (1 - (lg_sl ([.ref (q 0)])).length) Slot.unset).toArray) [] := by rw [hav]; exact lg_entry_eq m9 _ _
  obtain ⟨Q0, hQ0⟩ : ∃ Q0, Q0 = MQ below (zQ D (wM cI cZ q pa sp al co da mo st mr 0 n td wn) (some (.int (zI (n : Int)))) (zLM q)) ag9 s9 0 0 (fun a => a ∈ zLM q) := ⟨_, rfl⟩
  show W p0 l e9 ({ frames := 1, cells := 0, slots := 0, locals := 21 }) s9 m9 ag9 below meth c9 s9.heap [] 0 0 (MQ below (zQ D (wM cI cZ q pa sp al co da mo st mr 0 n td wn) (some (.int (zI (n : Int)))) (zLM q)) ag9 s9 0 0 (fun a => a ∈ zLM q)) _
  rw [hE, ← hQ0]
  have hS : va_S (fun a => a ∈ zLM q) s9.heap s9.heap [] := va_S.rf
  generalize hH0 : s9.heap = H at hP ⊢
  have hS : va_S (fun a => a ∈ zLM q) s9.heap H [] := by rw [hH0] at hS ⊢; exact hS
  generalize (lg_sl ([.ref (q 0)]) ++ List.replicate (1 - (lg_sl ([.ref (q 0)])).length) Slot.unset).toArray = ls at hl ⊢
  have hl : lv_has ls 1 [(0, .ref (q 0))] := hl
  refine lv_aload_n hx hb dX3_people_0 rfl (lv_at hl 0 rfl) ?_
  refine lv_aload_n hx hb dX3_people_1 rfl (lv_at hl 0 rfl) ?_
  refine va_get (D := D) (ci := 3) (v := .int (zI (n : Int))) (C := RX3) (T := TX3) (N := 12) hx hb hts hin3 hown hK hP 0 rfl rfl 1 (by decide) (hts (.fieldLink RX3 39 "MourningRibbonsModel" "people" "I") (by decide +kernel)) (fun _ h9 => h9) rfl dX3_people_2 ?_
  refine zcallV (ci := 3) (q0 := 0) (cq := (RX3, TX3, 12)) (As := [.int (zI (n : Int))]) (rest := []) ⟨hx, hb, hml, hown, hts⟩ hK (kX3_ok l D cI cZ q hN pa sp al co da mo st mr th n td wn (n : Int)) (cwV 1 hts gX3_people_X3_ok rfl rfl rfl (by decide +kernel) ⟨Nat.le_of_ble_eq_true rfl, Nat.le_of_ble_eq_true rfl⟩) hP hS hA rfl rfl rfl hl.1 rfl (Nat.le_of_ble_eq_true rfl) dX3_people_5 ⟨Nat.zero_le _, Nat.zero_le _⟩ (fun H locs hP hS _ _ => ?_)
  refine W.eq (g2 := F0 m9 8 ls [.int (zI (n : Int))]) rfl ?_
  rw [hQ0]
  exact zret_i hx hb hr hlocks (rfl) hP hS dX3_people_8
set_option maxHeartbeats 4000000 in
set_option maxRecDepth 100000 in
theorem kX3_living (l : Launch) (D : va_G) (cI cZ : ClassId) (q : Nat → Nat) (hN : (zLM q).Nodup) (pa : Int → Int) (sp : Int → Int) (al : Int → Int) (co : Int → Int) (da : Int → Int) (mo : Int → Int) (st : Int → Int) (mr : Int → Int) (th : Int) (n : Nat) (td : Int) (wn : Int) (hn : n ≤ 16) (hal : ∀ j : Int, 0 ≤ al j ∧ al j ≤ 1) : zM l yX3_living wsX3_living ({ frames := 1, cells := 0, slots := 0, locals := 22 }) D [(cI, .int), (cZ, .boolean)] [.ref (q 0)] (wM cI cZ q pa sp al co da mo st mr th n td wn) (wM cI cZ q pa sp al co da mo st mr 0 n td wn) (some (.int (zI (smF al n)))) (zLM q) := by
  refine Met.ofW (cc := cX3_living) (maxL := 1) (ret := (some .int)) (by decide) rfl ?_
  intro p0 e9 s9 m9 ag9 below meth c9 s₁ B hml hv
  obtain ⟨hav, hP, hK⟩ := hv
  have hx := B.exec
  have hb := B.bytes
  have hr := B.returns
  have hts := atoms_spec (ws := wsX3_living) B.pre
  have hown : s9.vm.findClass RX3 = some m9.cls := findClass_of_methodNamed B.named
  have hlocks := B.notSynchronized
  have hA : ∀ a ∈ zLM q, (fun a => a ∈ zLM q) a := fun _ h => h
  have hl := lv_entry ([.ref (q 0)]) (n := 1) (Nat.le_of_ble_eq_true rfl)
  have hE : entryFrame m9 ag9 1 = F0 m9 0 ((lg_sl ([.ref (q 0)]) ++ List.replicate (1 - (lg_sl ([.ref (q 0)])).length) Slot.unset).toArray) [] := by rw [hav]; exact lg_entry_eq m9 _ _
  obtain ⟨Q0, hQ0⟩ : ∃ Q0, Q0 = MQ below (zQ D (wM cI cZ q pa sp al co da mo st mr 0 n td wn) (some (.int (zI (smF al n)))) (zLM q)) ag9 s9 0 0 (fun a => a ∈ zLM q) := ⟨_, rfl⟩
  show W p0 l e9 ({ frames := 1, cells := 0, slots := 0, locals := 22 }) s9 m9 ag9 below meth c9 s9.heap [] 0 0 (MQ below (zQ D (wM cI cZ q pa sp al co da mo st mr 0 n td wn) (some (.int (zI (smF al n)))) (zLM q)) ag9 s9 0 0 (fun a => a ∈ zLM q)) _
  rw [hE, ← hQ0]
  have hS : va_S (fun a => a ∈ zLM q) s9.heap s9.heap [] := va_S.rf
  generalize hH0 : s9.heap = H at hP ⊢
  have hS : va_S (fun a => a ∈ zLM q) s9.heap H [] := by rw [hH0] at hS ⊢; exact hS
  generalize (lg_sl ([.ref (q 0)]) ++ List.replicate (1 - (lg_sl ([.ref (q 0)])).length) Slot.unset).toArray = ls at hl ⊢
  have hl : lv_has ls 1 [(0, .ref (q 0))] := hl
  refine lv_aload_n hx hb dX3_living_0 rfl (lv_at hl 0 rfl) ?_
  refine lv_aload_n hx hb dX3_living_1 rfl (lv_at hl 0 rfl) ?_
  refine zcallV (ci := 3) (q0 := 0) (cq := (RX3, TX3, 12)) (As := []) (rest := [.ref (q 0)]) ⟨hx, hb, hml, hown, hts⟩ hK (kX3_alive l D cI cZ q hN pa sp al co da mo st mr th n td wn hn hal) (cwV 0 hts gX3_living_X3_alive rfl rfl rfl (by decide +kernel) ⟨Nat.le_of_ble_eq_true rfl, Nat.le_of_ble_eq_true rfl⟩) hP hS hA rfl rfl rfl hl.1 rfl (Nat.le_of_ble_eq_true rfl) dX3_living_2 ⟨Nat.zero_le _, Nat.zero_le _⟩ (fun H locs hP hS _ _ => ?_)
  refine W.eq (g2 := F0 m9 5 ls [.int (zI (smF al n)), .ref (q 0)]) rfl ?_
  refine zcallV (ci := 3) (q0 := 0) (cq := (RX3, TX3, 12)) (As := [.int (zI (smF al n))]) (rest := []) ⟨hx, hb, hml, hown, hts⟩ hK (kX3_ok l D cI cZ q hN pa sp al co da mo st mr th n td wn (smF al n)) (cwV 1 hts gX3_living_X3_ok rfl rfl rfl (by decide +kernel) ⟨Nat.le_of_ble_eq_true rfl, Nat.le_of_ble_eq_true rfl⟩) hP hS hA rfl rfl rfl hl.1 rfl (Nat.le_of_ble_eq_true rfl) dX3_living_5 ⟨Nat.zero_le _, Nat.zero_le _⟩ (fun H locs hP hS _ _ => ?_)
  refine W.eq (g2 := F0 m9 8 ls [.int (zI (smF al n))]) rfl ?_
  rw [hQ0]
  exact zret_i hx hb hr hlocks (by omega) hP hS dX3_living_8
set_option maxHeartbeats 4000000 in
set_option maxRecDepth 100000 in
theorem kX3_day (l : Launch) (D : va_G) (cI cZ : ClassId) (q : Nat → Nat) (hN : (zLM q).Nodup) (pa : Int → Int) (sp : Int → Int) (al : Int → Int) (co : Int → Int) (da : Int → Int) (mo : Int → Int) (st : Int → Int) (mr : Int → Int) (th : Int) (n : Nat) (td : Int) (wn : Int) : zM l yX3_day wsX3_day ({ frames := 1, cells := 0, slots := 0, locals := 21 }) D [(cI, .int), (cZ, .boolean)] [.ref (q 0)] (wM cI cZ q pa sp al co da mo st mr th n td wn) (wM cI cZ q pa sp al co da mo st mr 0 n td wn) (some (.int (zI td))) (zLM q) := by
  refine Met.ofW (cc := cX3_day) (maxL := 1) (ret := (some .int)) (by decide) rfl ?_
  intro p0 e9 s9 m9 ag9 below meth c9 s₁ B hml hv
  obtain ⟨hav, hP, hK⟩ := hv
  have hx := B.exec
  have hb := B.bytes
  have hr := B.returns
  have hts := atoms_spec (ws := wsX3_day) B.pre
  have hown : s9.vm.findClass RX3 = some m9.cls := findClass_of_methodNamed B.named
  have hlocks := B.notSynchronized
  have hA : ∀ a ∈ zLM q, (fun a => a ∈ zLM q) a := fun _ h => h
  have hin3 : ∀ w ∈ u_ws RX3 TX3 12, w ∈ wsX3_day := by decide +kernel
  have hl := lv_entry ([.ref (q 0)]) (n := 1) (Nat.le_of_ble_eq_true rfl)
  have hE : entryFrame m9 ag9 1 = F0 m9 0 ((lg_sl ([.ref (q 0)]) ++ List.replicate (1 - (lg_sl ([.ref (q 0)])).length) Slot.unset).toArray) [] := by rw [hav]; exact lg_entry_eq m9 _ _
  obtain ⟨Q0, hQ0⟩ : ∃ Q0, Q0 = MQ below (zQ D (wM cI cZ q pa sp al co da mo st mr 0 n td wn) (some (.int (zI td))) (zLM q)) ag9 s9 0 0 (fun a => a ∈ zLM q) := ⟨_, rfl⟩
  show W p0 l e9 ({ frames := 1, cells := 0, slots := 0, locals := 21 }) s9 m9 ag9 below meth c9 s9.heap [] 0 0 (MQ below (zQ D (wM cI cZ q pa sp al co da mo st mr 0 n td wn) (some (.int (zI td))) (zLM q)) ag9 s9 0 0 (fun a => a ∈ zLM q)) _
  rw [hE, ← hQ0]
  have hS : va_S (fun a => a ∈ zLM q) s9.heap s9.heap [] := va_S.rf
  generalize hH0 : s9.heap = H at hP ⊢
  have hS : va_S (fun a => a ∈ zLM q) s9.heap H [] := by rw [hH0] at hS ⊢; exact hS
  generalize (lg_sl ([.ref (q 0)]) ++ List.replicate (1 - (lg_sl ([.ref (q 0)])).length) Slot.unset).toArray = ls at hl ⊢
  have hl : lv_has ls 1 [(0, .ref (q 0))] := hl
  refine lv_aload_n hx hb dX3_day_0 rfl (lv_at hl 0 rfl) ?_
  refine lv_aload_n hx hb dX3_day_1 rfl (lv_at hl 0 rfl) ?_
  refine va_get (D := D) (ci := 3) (v := .int (zI td)) (C := RX3) (T := TX3) (N := 12) hx hb hts hin3 hown hK hP 0 rfl rfl 8 (by decide) (hts (.fieldLink RX3 95 "MourningRibbonsModel" "today" "I") (by decide +kernel)) (fun _ h9 => h9) rfl dX3_day_2 ?_
  refine zcallV (ci := 3) (q0 := 0) (cq := (RX3, TX3, 12)) (As := [.int (zI td)]) (rest := []) ⟨hx, hb, hml, hown, hts⟩ hK (kX3_ok l D cI cZ q hN pa sp al co da mo st mr th n td wn td) (cwV 1 hts gX3_day_X3_ok rfl rfl rfl (by decide +kernel) ⟨Nat.le_of_ble_eq_true rfl, Nat.le_of_ble_eq_true rfl⟩) hP hS hA rfl rfl rfl hl.1 rfl (Nat.le_of_ble_eq_true rfl) dX3_day_5 ⟨Nat.zero_le _, Nat.zero_le _⟩ (fun H locs hP hS _ _ => ?_)
  refine W.eq (g2 := F0 m9 8 ls [.int (zI td)]) rfl ?_
  rw [hQ0]
  exact zret_i hx hb hr hlocks (rfl) hP hS dX3_day_8
set_option maxHeartbeats 4000000 in
set_option maxRecDepth 100000 in
theorem kX3_strictest (l : Launch) (D : va_G) (cI cZ : ClassId) (q : Nat → Nat) (hN : (zLM q).Nodup) (pa : Int → Int) (sp : Int → Int) (al : Int → Int) (co : Int → Int) (da : Int → Int) (mo : Int → Int) (st : Int → Int) (mr : Int → Int) (th : Int) (n : Nat) (td : Int) (wn : Int) (hn : n ≤ 16) (hmo : ∀ j : Int, -1 ≤ mo j ∧ mo j ≤ 1000000) (htd : 0 ≤ td ∧ td ≤ 1000000) : zM l yX3_strictest wsX3_strictest ({ frames := 3, cells := 0, slots := 0, locals := 76 }) D [(cI, .int), (cZ, .boolean)] [.ref (q 0)] (wM cI cZ q pa sp al co da mo st mr th n td wn) (wM cI cZ q pa sp al co da mo st mr 0 n td wn) (some (.int (zI (mxF (wsZ mo n td) n)))) (zLM q) := by
  refine Met.ofW (cc := cX3_strictest) (maxL := 1) (ret := (some .int)) (by decide) rfl ?_
  intro p0 e9 s9 m9 ag9 below meth c9 s₁ B hml hv
  obtain ⟨hav, hP, hK⟩ := hv
  have hx := B.exec
  have hb := B.bytes
  have hr := B.returns
  have hts := atoms_spec (ws := wsX3_strictest) B.pre
  have hown : s9.vm.findClass RX3 = some m9.cls := findClass_of_methodNamed B.named
  have hlocks := B.notSynchronized
  have hA : ∀ a ∈ zLM q, (fun a => a ∈ zLM q) a := fun _ h => h
  have hl := lv_entry ([.ref (q 0)]) (n := 1) (Nat.le_of_ble_eq_true rfl)
  have hE : entryFrame m9 ag9 1 = F0 m9 0 ((lg_sl ([.ref (q 0)]) ++ List.replicate (1 - (lg_sl ([.ref (q 0)])).length) Slot.unset).toArray) [] := by rw [hav]; exact lg_entry_eq m9 _ _
  obtain ⟨Q0, hQ0⟩ : ∃ Q0, Q0 = MQ below (zQ D (wM cI cZ q pa sp al co da mo st mr 0 n td wn) (some (.int (zI (mxF (wsZ mo n td) n)))) (zLM q)) ag9 s9 0 0 (fun a => a ∈ zLM q) := ⟨_, rfl⟩
  show W p0 l e9 ({ frames := 3, cells := 0, slots := 0, locals := 76 }) s9 m9 ag9 below meth c9 s9.heap [] 0 0 (MQ below (zQ D (wM cI cZ q pa sp al co da mo st mr 0 n td wn) (some (.int (zI (mxF (wsZ mo n td) n)))) (zLM q)) ag9 s9 0 0 (fun a => a ∈ zLM q)) _
  rw [hE, ← hQ0]
  have hS : va_S (fun a => a ∈ zLM q) s9.heap s9.heap [] := va_S.rf
  generalize hH0 : s9.heap = H at hP ⊢
  have hS : va_S (fun a => a ∈ zLM q) s9.heap H [] := by rw [hH0] at hS ⊢; exact hS
  generalize (lg_sl ([.ref (q 0)]) ++ List.replicate (1 - (lg_sl ([.ref (q 0)])).length) Slot.unset).toArray = ls at hl ⊢
  have hl : lv_has ls 1 [(0, .ref (q 0))] := hl
  refine lv_aload_n hx hb dX3_strictest_0 rfl (lv_at hl 0 rfl) ?_
  refine lv_aload_n hx hb dX3_strictest_1 rfl (lv_at hl 0 rfl) ?_
  refine zcallV (ci := 3) (q0 := 0) (cq := (RX3, TX3, 12)) (As := []) (rest := [.ref (q 0)]) ⟨hx, hb, hml, hown, hts⟩ hK (kX3_strictestOne l D cI cZ q hN pa sp al co da mo st mr th n td wn hn hmo htd) (cwV 0 hts gX3_strictest_X3_strictestOne rfl rfl rfl (by decide +kernel) ⟨Nat.le_of_ble_eq_true rfl, Nat.le_of_ble_eq_true rfl⟩) hP hS hA rfl rfl rfl hl.1 rfl (Nat.le_of_ble_eq_true rfl) dX3_strictest_2 ⟨Nat.zero_le _, Nat.zero_le _⟩ (fun H locs hP hS _ _ => ?_)
  refine W.eq (g2 := F0 m9 5 ls [.int (zI (mxF (wsZ mo n td) n)), .ref (q 0)]) rfl ?_
  refine zcallV (ci := 3) (q0 := 0) (cq := (RX3, TX3, 12)) (As := [.int (zI (mxF (wsZ mo n td) n))]) (rest := []) ⟨hx, hb, hml, hown, hts⟩ hK (kX3_ok l D cI cZ q hN pa sp al co da mo st mr th n td wn (mxF (wsZ mo n td) n)) (cwV 1 hts gX3_strictest_X3_ok rfl rfl rfl (by decide +kernel) ⟨Nat.le_of_ble_eq_true rfl, Nat.le_of_ble_eq_true rfl⟩) hP hS hA rfl rfl rfl hl.1 rfl (Nat.le_of_ble_eq_true rfl) dX3_strictest_5 ⟨Nat.zero_le _, Nat.zero_le _⟩ (fun H locs hP hS _ _ => ?_)
  refine W.eq (g2 := F0 m9 8 ls [.int (zI (mxF (wsZ mo n td) n))]) rfl ?_
  rw [hQ0]
  exact zret_i hx hb hr hlocks (by omega) hP hS dX3_strictest_8
set_option maxHeartbeats 4000000 in
set_option maxRecDepth 100000 in
theorem kX3_longestMourner (l : Launch) (D : va_G) (cI cZ : ClassId) (q : Nat → Nat) (hN : (zLM q).Nodup) (pa : Int → Int) (sp : Int → Int) (al : Int → Int) (co : Int → Int) (da : Int → Int) (mo : Int → Int) (st : Int → Int) (mr : Int → Int) (th : Int) (n : Nat) (td : Int) (wn : Int) (hn : n ≤ 16) (hmo : ∀ j : Int, -1 ≤ mo j ∧ mo j ≤ 1000000) (htd : 0 ≤ td ∧ td ≤ 1000000) : zM l yX3_longestMourner wsX3_longestMourner ({ frames := 4, cells := 0, slots := 0, locals := 99 }) D [(cI, .int), (cZ, .boolean)] [.ref (q 0)] (wM cI cZ q pa sp al co da mo st mr th n td wn) (wM cI cZ q pa sp al co da mo st mr 0 n td wn) (some (.int (zI (lgF (moS mo n td) n)))) (zLM q) := by
  refine Met.ofW (cc := cX3_longestMourner) (maxL := 1) (ret := (some .int)) (by decide) rfl ?_
  intro p0 e9 s9 m9 ag9 below meth c9 s₁ B hml hv
  obtain ⟨hav, hP, hK⟩ := hv
  have hx := B.exec
  have hb := B.bytes
  have hr := B.returns
  have hts := atoms_spec (ws := wsX3_longestMourner) B.pre
  have hown : s9.vm.findClass RX3 = some m9.cls := findClass_of_methodNamed B.named
  have hlocks := B.notSynchronized
  have hA : ∀ a ∈ zLM q, (fun a => a ∈ zLM q) a := fun _ h => h
  have hl := lv_entry ([.ref (q 0)]) (n := 1) (Nat.le_of_ble_eq_true rfl)
  have hE : entryFrame m9 ag9 1 = F0 m9 0 ((lg_sl ([.ref (q 0)]) ++ List.replicate (1 - (lg_sl ([.ref (q 0)])).length) Slot.unset).toArray) [] := by rw [hav]; exact lg_entry_eq m9 _ _
  obtain ⟨Q0, hQ0⟩ : ∃ Q0, Q0 = MQ below (zQ D (wM cI cZ q pa sp al co da mo st mr 0 n td wn) (some (.int (zI (lgF (moS mo n td) n)))) (zLM q)) ag9 s9 0 0 (fun a => a ∈ zLM q) := ⟨_, rfl⟩
  show W p0 l e9 ({ frames := 4, cells := 0, slots := 0, locals := 99 }) s9 m9 ag9 below meth c9 s9.heap [] 0 0 (MQ below (zQ D (wM cI cZ q pa sp al co da mo st mr 0 n td wn) (some (.int (zI (lgF (moS mo n td) n)))) (zLM q)) ag9 s9 0 0 (fun a => a ∈ zLM q)) _
  rw [hE, ← hQ0]
  have hS : va_S (fun a => a ∈ zLM q) s9.heap s9.heap [] := va_S.rf
  generalize hH0 : s9.heap = H at hP ⊢
  have hS : va_S (fun a => a ∈ zLM q) s9.heap H [] := by rw [hH0] at hS ⊢; exact hS
  generalize (lg_sl ([.ref (q 0)]) ++ List.replicate (1 - (lg_sl ([.ref (q 0)])).length) Slot.unset).toArray = ls at hl ⊢
  have hl : lv_has ls 1 [(0, .ref (q 0))] := hl
  refine lv_aload_n hx hb dX3_longestMourner_0 rfl (lv_at hl 0 rfl) ?_
  refine lv_aload_n hx hb dX3_longestMourner_1 rfl (lv_at hl 0 rfl) ?_
  refine zcallV (ci := 3) (q0 := 0) (cq := (RX3, TX3, 12)) (As := []) (rest := [.ref (q 0)]) ⟨hx, hb, hml, hown, hts⟩ hK (kX3_longest l D cI cZ q hN pa sp al co da mo st mr th n td wn hn hmo htd) (cwV 0 hts gX3_longestMourner_X3_longest rfl rfl rfl (by decide +kernel) ⟨Nat.le_of_ble_eq_true rfl, Nat.le_of_ble_eq_true rfl⟩) hP hS hA rfl rfl rfl hl.1 rfl (Nat.le_of_ble_eq_true rfl) dX3_longestMourner_2 ⟨Nat.zero_le _, Nat.zero_le _⟩ (fun H locs hP hS _ _ => ?_)
  refine W.eq (g2 := F0 m9 5 ls [.int (zI (lgF (moS mo n td) n)), .ref (q 0)]) rfl ?_
  refine zcallV (ci := 3) (q0 := 0) (cq := (RX3, TX3, 12)) (As := [.int (zI (lgF (moS mo n td) n))]) (rest := []) ⟨hx, hb, hml, hown, hts⟩ hK (kX3_ok l D cI cZ q hN pa sp al co da mo st mr th n td wn (lgF (moS mo n td) n)) (cwV 1 hts gX3_longestMourner_X3_ok rfl rfl rfl (by decide +kernel) ⟨Nat.le_of_ble_eq_true rfl, Nat.le_of_ble_eq_true rfl⟩) hP hS hA rfl rfl rfl hl.1 rfl (Nat.le_of_ble_eq_true rfl) dX3_longestMourner_5 ⟨Nat.zero_le _, Nat.zero_le _⟩ (fun H locs hP hS _ _ => ?_)
  refine W.eq (g2 := F0 m9 8 ls [.int (zI (lgF (moS mo n td) n))]) rfl ?_
  rw [hQ0]
  exact zret_i hx hb hr hlocks (by omega) hP hS dX3_longestMourner_8
set_option maxHeartbeats 4000000 in
set_option maxRecDepth 100000 in
theorem kX3_daysWorn (l : Launch) (D : va_G) (cI cZ : ClassId) (q : Nat → Nat) (hN : (zLM q).Nodup) (pa : Int → Int) (sp : Int → Int) (al : Int → Int) (co : Int → Int) (da : Int → Int) (mo : Int → Int) (st : Int → Int) (mr : Int → Int) (th : Int) (n : Nat) (td : Int) (wn : Int) : zM l yX3_daysWorn wsX3_daysWorn ({ frames := 1, cells := 0, slots := 0, locals := 21 }) D [(cI, .int), (cZ, .boolean)] [.ref (q 0)] (wM cI cZ q pa sp al co da mo st mr th n td wn) (wM cI cZ q pa sp al co da mo st mr 0 n td wn) (some (.int (zI wn))) (zLM q) := by
  refine Met.ofW (cc := cX3_daysWorn) (maxL := 1) (ret := (some .int)) (by decide) rfl ?_
  intro p0 e9 s9 m9 ag9 below meth c9 s₁ B hml hv
  obtain ⟨hav, hP, hK⟩ := hv
  have hx := B.exec
  have hb := B.bytes
  have hr := B.returns
  have hts := atoms_spec (ws := wsX3_daysWorn) B.pre
  have hown : s9.vm.findClass RX3 = some m9.cls := findClass_of_methodNamed B.named
  have hlocks := B.notSynchronized
  have hA : ∀ a ∈ zLM q, (fun a => a ∈ zLM q) a := fun _ h => h
  have hin3 : ∀ w ∈ u_ws RX3 TX3 12, w ∈ wsX3_daysWorn := by decide +kernel
  have hl := lv_entry ([.ref (q 0)]) (n := 1) (Nat.le_of_ble_eq_true rfl)
  have hE : entryFrame m9 ag9 1 = F0 m9 0 ((lg_sl ([.ref (q 0)]) ++ List.replicate (1 - (lg_sl ([.ref (q 0)])).length) Slot.unset).toArray) [] := by rw [hav]; exact lg_entry_eq m9 _ _
  obtain ⟨Q0, hQ0⟩ : ∃ Q0, Q0 = MQ below (zQ D (wM cI cZ q pa sp al co da mo st mr 0 n td wn) (some (.int (zI wn))) (zLM q)) ag9 s9 0 0 (fun a => a ∈ zLM q) := ⟨_, rfl⟩
  show W p0 l e9 ({ frames := 1, cells := 0, slots := 0, locals := 21 }) s9 m9 ag9 below meth c9 s9.heap [] 0 0 (MQ below (zQ D (wM cI cZ q pa sp al co da mo st mr 0 n td wn) (some (.int (zI wn))) (zLM q)) ag9 s9 0 0 (fun a => a ∈ zLM q)) _
  rw [hE, ← hQ0]
  have hS : va_S (fun a => a ∈ zLM q) s9.heap s9.heap [] := va_S.rf
  generalize hH0 : s9.heap = H at hP ⊢
  have hS : va_S (fun a => a ∈ zLM q) s9.heap H [] := by rw [hH0] at hS ⊢; exact hS
  generalize (lg_sl ([.ref (q 0)]) ++ List.replicate (1 - (lg_sl ([.ref (q 0)])).length) Slot.unset).toArray = ls at hl ⊢
  have hl : lv_has ls 1 [(0, .ref (q 0))] := hl
  refine lv_aload_n hx hb dX3_daysWorn_0 rfl (lv_at hl 0 rfl) ?_
  refine lv_aload_n hx hb dX3_daysWorn_1 rfl (lv_at hl 0 rfl) ?_
  refine va_get (D := D) (ci := 3) (v := .int (zI wn)) (C := RX3) (T := TX3) (N := 12) hx hb hts hin3 hown hK hP 0 rfl rfl 9 (by decide) (hts (.fieldLink RX3 121 "MourningRibbonsModel" "worn" "I") (by decide +kernel)) (fun _ h9 => h9) rfl dX3_daysWorn_2 ?_
  refine zcallV (ci := 3) (q0 := 0) (cq := (RX3, TX3, 12)) (As := [.int (zI wn)]) (rest := []) ⟨hx, hb, hml, hown, hts⟩ hK (kX3_ok l D cI cZ q hN pa sp al co da mo st mr th n td wn wn) (cwV 1 hts gX3_daysWorn_X3_ok rfl rfl rfl (by decide +kernel) ⟨Nat.le_of_ble_eq_true rfl, Nat.le_of_ble_eq_true rfl⟩) hP hS hA rfl rfl rfl hl.1 rfl (Nat.le_of_ble_eq_true rfl) dX3_daysWorn_5 ⟨Nat.zero_le _, Nat.zero_le _⟩ (fun H locs hP hS _ _ => ?_)
  refine W.eq (g2 := F0 m9 8 ls [.int (zI wn)]) rfl ?_
  rw [hQ0]
  exact zret_i hx hb hr hlocks (rfl) hP hS dX3_daysWorn_8
set_option maxHeartbeats 4000000 in
set_option maxRecDepth 100000 in
theorem kX3_heaviestLoss (l : Launch) (D : va_G) (cI cZ : ClassId) (q : Nat → Nat) (hN : (zLM q).Nodup) (pa : Int → Int) (sp : Int → Int) (al : Int → Int) (co : Int → Int) (da : Int → Int) (mo : Int → Int) (st : Int → Int) (mr : Int → Int) (th : Int) (n : Nat) (td : Int) (wn : Int) (hpa : ∀ j : Int, -1 ≤ pa j ∧ pa j ≤ 15) (hsp : ∀ j : Int, -1 ≤ sp j ∧ sp j ≤ 15) (hal : ∀ j : Int, 0 ≤ al j ∧ al j ≤ 1) (hco : ∀ j : Int, 0 ≤ co j ∧ co j ≤ 5) (hda : ∀ j : Int, 0 ≤ da j ∧ da j ≤ 60) (hmo : ∀ j : Int, -1 ≤ mo j ∧ mo j ≤ 1000000) (hst : ∀ j : Int, -1 ≤ st j ∧ st j ≤ 4) (hmr : ∀ j : Int, -1 ≤ mr j ∧ mr j ≤ 1000000) (hn : n ≤ 16) (htd : 0 ≤ td ∧ td ≤ 1000000) : zM l yX3_heaviestLoss wsX3_heaviestLoss ({ frames := 6, cells := 0, slots := 0, locals := 134 }) D [(cI, .int), (cZ, .boolean)] [.ref (q 0)] (wM cI cZ q pa sp al co da mo st mr th n td wn) (wM cI cZ q pa sp al co da mo (heS pa sp al n st n) (heM pa sp al co da n td st mr n) 0 n td wn) (some (.int (zI (hbF (heV pa sp al co da mo n td st mr) n)))) (zLM q) := by
  refine Met.ofW (cc := cX3_heaviestLoss) (maxL := 1) (ret := (some .int)) (by decide) rfl ?_
  intro p0 e9 s9 m9 ag9 below meth c9 s₁ B hml hv
  obtain ⟨hav, hP, hK⟩ := hv
  have hx := B.exec
  have hb := B.bytes
  have hr := B.returns
  have hts := atoms_spec (ws := wsX3_heaviestLoss) B.pre
  have hown : s9.vm.findClass RX3 = some m9.cls := findClass_of_methodNamed B.named
  have hlocks := B.notSynchronized
  have hA : ∀ a ∈ zLM q, (fun a => a ∈ zLM q) a := fun _ h => h
  have hl := lv_entry ([.ref (q 0)]) (n := 1) (Nat.le_of_ble_eq_true rfl)
  have hE : entryFrame m9 ag9 1 = F0 m9 0 ((lg_sl ([.ref (q 0)]) ++ List.replicate (1 - (lg_sl ([.ref (q 0)])).length) Slot.unset).toArray) [] := by rw [hav]; exact lg_entry_eq m9 _ _
  obtain ⟨Q0, hQ0⟩ : ∃ Q0, Q0 = MQ below (zQ D (wM cI cZ q pa sp al co da mo (heS pa sp al n st n) (heM pa sp al co da n td st mr n) 0 n td wn) (some (.int (zI (hbF (heV pa sp al co da mo n td st mr) n)))) (zLM q)) ag9 s9 0 0 (fun a => a ∈ zLM q) := ⟨_, rfl⟩
  show W p0 l e9 ({ frames := 6, cells := 0, slots := 0, locals := 134 }) s9 m9 ag9 below meth c9 s9.heap [] 0 0 (MQ below (zQ D (wM cI cZ q pa sp al co da mo (heS pa sp al n st n) (heM pa sp al co da n td st mr n) 0 n td wn) (some (.int (zI (hbF (heV pa sp al co da mo n td st mr) n)))) (zLM q)) ag9 s9 0 0 (fun a => a ∈ zLM q)) _
  rw [hE, ← hQ0]
  have hS : va_S (fun a => a ∈ zLM q) s9.heap s9.heap [] := va_S.rf
  generalize hH0 : s9.heap = H at hP ⊢
  have hS : va_S (fun a => a ∈ zLM q) s9.heap H [] := by rw [hH0] at hS ⊢; exact hS
  generalize (lg_sl ([.ref (q 0)]) ++ List.replicate (1 - (lg_sl ([.ref (q 0)])).length) Slot.unset).toArray = ls at hl ⊢
  have hl : lv_has ls 1 [(0, .ref (q 0))] := hl
  refine lv_aload_n hx hb dX3_heaviestLoss_0 rfl (lv_at hl 0 rfl) ?_
  refine lv_aload_n hx hb dX3_heaviestLoss_1 rfl (lv_at hl 0 rfl) ?_
  refine zcallV (ci := 3) (q0 := 0) (cq := (RX3, TX3, 12)) (As := []) (rest := [.ref (q 0)]) ⟨hx, hb, hml, hown, hts⟩ hK (kX3_heaviest l D cI cZ q hN pa sp al co da mo st mr th n td wn hpa hsp hal hco hda hmo hst hmr hn htd) (cwV 0 hts gX3_heaviestLoss_X3_heaviest rfl rfl rfl (by decide +kernel) ⟨Nat.le_of_ble_eq_true rfl, Nat.le_of_ble_eq_true rfl⟩) hP hS hA rfl rfl rfl hl.1 rfl (Nat.le_of_ble_eq_true rfl) dX3_heaviestLoss_2 ⟨Nat.zero_le _, Nat.zero_le _⟩ (fun H locs hP hS _ _ => ?_)
  refine W.eq (g2 := F0 m9 5 ls [.int (zI (hbF (heV pa sp al co da mo n td st mr) n)), .ref (q 0)]) rfl ?_
  refine zcallV (ci := 3) (q0 := 0) (cq := (RX3, TX3, 12)) (As := [.int (zI (hbF (heV pa sp al co da mo n td st mr) n))]) (rest := []) ⟨hx, hb, hml, hown, hts⟩ hK (kX3_ok l D cI cZ q hN pa sp al co da mo (heS pa sp al n st n) (heM pa sp al co da n td st mr n) th n td wn (hbF (heV pa sp al co da mo n td st mr) n)) (cwV 1 hts gX3_heaviestLoss_X3_ok rfl rfl rfl (by decide +kernel) ⟨Nat.le_of_ble_eq_true rfl, Nat.le_of_ble_eq_true rfl⟩) hP hS hA rfl rfl rfl hl.1 rfl (Nat.le_of_ble_eq_true rfl) dX3_heaviestLoss_5 ⟨Nat.zero_le _, Nat.zero_le _⟩ (fun H locs hP hS _ _ => ?_)
  refine W.eq (g2 := F0 m9 8 ls [.int (zI (hbF (heV pa sp al co da mo n td st mr) n))]) rfl ?_
  rw [hQ0]
  exact zret_i hx hb hr hlocks (by omega) hP hS dX3_heaviestLoss_8
set_option maxHeartbeats 4000000 in
set_option maxRecDepth 100000 in
theorem kX3_addPersonok (l : Launch) (D : va_G) (cI cZ : ClassId) (q : Nat → Nat) (hN : (zLM q).Nodup) (pa : Int → Int) (sp : Int → Int) (al : Int → Int) (co : Int → Int) (da : Int → Int) (mo : Int → Int) (st : Int → Int) (mr : Int → Int) (th : Int) (n : Nat) (td : Int) (wn : Int) (hn : n ≤ 16) (h1 : n < 16) : zM l yX3_addPerson wsX3_addPerson ({ frames := 1, cells := 0, slots := 0, locals := 21 }) D [(cI, .int), (cZ, .boolean)] [.ref (q 0)] (wM cI cZ q pa sp al co da mo st mr th n td wn) (wM cI cZ q (up pa (n : Int) (-1)) (up sp (n : Int) (-1)) (up al (n : Int) 1) co da mo st mr 0 (n + 1) td wn) (some (.int (zI (n : Int)))) (zLM q) := by
  refine Met.ofW (cc := cX3_addPerson) (maxL := 1) (ret := (some .int)) (by decide) rfl ?_
  intro p0 e9 s9 m9 ag9 below meth c9 s₁ B hml hv
  obtain ⟨hav, hP, hK⟩ := hv
  have hx := B.exec
  have hb := B.bytes
  have hr := B.returns
  have hts := atoms_spec (ws := wsX3_addPerson) B.pre
  have hown : s9.vm.findClass RX3 = some m9.cls := findClass_of_methodNamed B.named
  have hlocks := B.notSynchronized
  have hA : ∀ a ∈ zLM q, (fun a => a ∈ zLM q) a := fun _ h => h
  have hin3 : ∀ w ∈ u_ws RX3 TX3 12, w ∈ wsX3_addPerson := by decide +kernel
  have hl := lv_entry ([.ref (q 0)]) (n := 1) (Nat.le_of_ble_eq_true rfl)
  have hE : entryFrame m9 ag9 1 = F0 m9 0 ((lg_sl ([.ref (q 0)]) ++ List.replicate (1 - (lg_sl ([.ref (q 0)])).length) Slot.unset).toArray) [] := by rw [hav]; exact lg_entry_eq m9 _ _
  obtain ⟨Q0, hQ0⟩ : ∃ Q0, Q0 = MQ below (zQ D (wM cI cZ q (up pa (n : Int) (-1)) (up sp (n : Int) (-1)) (up al (n : Int) 1) co da mo st mr 0 (n + 1) td wn) (some (.int (zI (n : Int)))) (zLM q)) ag9 s9 0 0 (fun a => a ∈ zLM q) := ⟨_, rfl⟩
  show W p0 l e9 ({ frames := 1, cells := 0, slots := 0, locals := 21 }) s9 m9 ag9 below meth c9 s9.heap [] 0 0 (MQ below (zQ D (wM cI cZ q (up pa (n : Int) (-1)) (up sp (n : Int) (-1)) (up al (n : Int) 1) co da mo st mr 0 (n + 1) td wn) (some (.int (zI (n : Int)))) (zLM q)) ag9 s9 0 0 (fun a => a ∈ zLM q)) _
  rw [hE, ← hQ0]
  have hS : va_S (fun a => a ∈ zLM q) s9.heap s9.heap [] := va_S.rf
  generalize hH0 : s9.heap = H at hP ⊢
  have hS : va_S (fun a => a ∈ zLM q) s9.heap H [] := by rw [hH0] at hS ⊢; exact hS
  generalize (lg_sl ([.ref (q 0)]) ++ List.replicate (1 - (lg_sl ([.ref (q 0)])).length) Slot.unset).toArray = ls at hl ⊢
  have hl : lv_has ls 1 [(0, .ref (q 0))] := hl
  refine lv_aload_n hx hb dX3_addPerson_0 rfl (lv_at hl 0 rfl) ?_
  refine zr_iconst hx hb dX3_addPerson_1 ?_
  refine va_put (D := D) (ci := 3) (v := .int (zI 0)) (ty := .int) (C := RX3) (T := TX3) (N := 12) hx hb hts hin3 tyX3 tyX3_ok nmX3 hown hK hP (zD hN rfl hA) hS 0 rfl rfl 0 (by decide) (hts (.fieldLink RX3 35 "MourningRibbonsModel" "thrown" "I") (by decide +kernel)) (fun _ h9 => h9) rfl (by decide +kernel) rfl rfl (Nat.le_of_ble_eq_true rfl) dX3_addPerson_2 (fun H locs hP _ hS => ?_)
  have hP : va_P D vwCl (wM cI cZ q pa sp al co da mo st mr 0 n td wn) H := hP
  refine lv_aload_n hx hb dX3_addPerson_5 rfl (lv_at hl 0 rfl) ?_
  refine va_get (D := D) (ci := 3) (v := .int (zI (n : Int))) (C := RX3) (T := TX3) (N := 12) hx hb hts hin3 hown hK hP 0 rfl rfl 1 (by decide) (hts (.fieldLink RX3 39 "MourningRibbonsModel" "people" "I") (by decide +kernel)) (fun _ h9 => h9) rfl dX3_addPerson_6 ?_
  refine zr_bipush hx hb dX3_addPerson_9 (by decide) ?_
  refine zr_icmp_ne (tgt := 22) hx hb dX3_addPerson_11 (by decide) ⟨by omega, by omega⟩ ⟨by decide, by decide⟩ (fun c_1 => ?_) (fun c_1 => ?_)
  · have c_1 := c_1
    refine lv_aload_n hx hb dX3_addPerson_22 rfl (lv_at hl 0 rfl) ?_
    refine zr_iconst hx hb dX3_addPerson_23 ?_
    refine zcallV (ci := 3) (q0 := 0) (cq := (RX3, TX3, 12)) (As := [.int (zI (-1))]) (rest := []) ⟨hx, hb, hml, hown, hts⟩ hK (kX3_born l D cI cZ q hN pa sp al co da mo st mr 0 n td wn (-1) (by omega)) (cwV 1 hts gX3_addPerson_X3_born rfl rfl rfl (by decide +kernel) ⟨Nat.le_of_ble_eq_true rfl, Nat.le_of_ble_eq_true rfl⟩) hP hS hA rfl rfl rfl hl.1 rfl (Nat.le_of_ble_eq_true rfl) dX3_addPerson_24 ⟨Nat.zero_le _, Nat.zero_le _⟩ (fun H locs hP hS _ _ => ?_)
    refine W.eq (g2 := F0 m9 27 ls [.int (zI (n : Int))]) rfl ?_
    rw [hQ0]
    exact zret_i hx hb hr hlocks (rfl) hP hS dX3_addPerson_27
  · have c_1 := c_1
    refine lv_aload_n hx hb dX3_addPerson_14 rfl (lv_at hl 0 rfl) ?_
    refine zr_iconst hx hb dX3_addPerson_15 ?_
    exfalso; omega
set_option maxHeartbeats 4000000 in
set_option maxRecDepth 100000 in
theorem kX3_addPersone1 (l : Launch) (D : va_G) (cI cZ : ClassId) (q : Nat → Nat) (hN : (zLM q).Nodup) (pa : Int → Int) (sp : Int → Int) (al : Int → Int) (co : Int → Int) (da : Int → Int) (mo : Int → Int) (st : Int → Int) (mr : Int → Int) (th : Int) (n : Nat) (td : Int) (wn : Int) (hn : n ≤ 16) (h1 : n = 16) : zM l yX3_addPerson wsX3_addPerson ({ frames := 1, cells := 0, slots := 0, locals := 21 }) D [(cI, .int), (cZ, .boolean)] [.ref (q 0)] (wM cI cZ q pa sp al co da mo st mr th n td wn) (wM cI cZ q pa sp al co da mo st mr 1 n td wn) (some (.int (zI 0))) (zLM q) := by
  refine Met.ofW (cc := cX3_addPerson) (maxL := 1) (ret := (some .int)) (by decide) rfl ?_
  intro p0 e9 s9 m9 ag9 below meth c9 s₁ B hml hv
  obtain ⟨hav, hP, hK⟩ := hv
  have hx := B.exec
  have hb := B.bytes
  have hr := B.returns
  have hts := atoms_spec (ws := wsX3_addPerson) B.pre
  have hown : s9.vm.findClass RX3 = some m9.cls := findClass_of_methodNamed B.named
  have hlocks := B.notSynchronized
  have hA : ∀ a ∈ zLM q, (fun a => a ∈ zLM q) a := fun _ h => h
  have hin3 : ∀ w ∈ u_ws RX3 TX3 12, w ∈ wsX3_addPerson := by decide +kernel
  have hl := lv_entry ([.ref (q 0)]) (n := 1) (Nat.le_of_ble_eq_true rfl)
  have hE : entryFrame m9 ag9 1 = F0 m9 0 ((lg_sl ([.ref (q 0)]) ++ List.replicate (1 - (lg_sl ([.ref (q 0)])).length) Slot.unset).toArray) [] := by rw [hav]; exact lg_entry_eq m9 _ _
  obtain ⟨Q0, hQ0⟩ : ∃ Q0, Q0 = MQ below (zQ D (wM cI cZ q pa sp al co da mo st mr 1 n td wn) (some (.int (zI 0))) (zLM q)) ag9 s9 0 0 (fun a => a ∈ zLM q) := ⟨_, rfl⟩
  show W p0 l e9 ({ frames := 1, cells := 0, slots := 0, locals := 21 }) s9 m9 ag9 below meth c9 s9.heap [] 0 0 (MQ below (zQ D (wM cI cZ q pa sp al co da mo st mr 1 n td wn) (some (.int (zI 0))) (zLM q)) ag9 s9 0 0 (fun a => a ∈ zLM q)) _
  rw [hE, ← hQ0]
  have hS : va_S (fun a => a ∈ zLM q) s9.heap s9.heap [] := va_S.rf
  generalize hH0 : s9.heap = H at hP ⊢
  have hS : va_S (fun a => a ∈ zLM q) s9.heap H [] := by rw [hH0] at hS ⊢; exact hS
  generalize (lg_sl ([.ref (q 0)]) ++ List.replicate (1 - (lg_sl ([.ref (q 0)])).length) Slot.unset).toArray = ls at hl ⊢
  have hl : lv_has ls 1 [(0, .ref (q 0))] := hl
  refine lv_aload_n hx hb dX3_addPerson_0 rfl (lv_at hl 0 rfl) ?_
  refine zr_iconst hx hb dX3_addPerson_1 ?_
  refine va_put (D := D) (ci := 3) (v := .int (zI 0)) (ty := .int) (C := RX3) (T := TX3) (N := 12) hx hb hts hin3 tyX3 tyX3_ok nmX3 hown hK hP (zD hN rfl hA) hS 0 rfl rfl 0 (by decide) (hts (.fieldLink RX3 35 "MourningRibbonsModel" "thrown" "I") (by decide +kernel)) (fun _ h9 => h9) rfl (by decide +kernel) rfl rfl (Nat.le_of_ble_eq_true rfl) dX3_addPerson_2 (fun H locs hP _ hS => ?_)
  have hP : va_P D vwCl (wM cI cZ q pa sp al co da mo st mr 0 n td wn) H := hP
  refine lv_aload_n hx hb dX3_addPerson_5 rfl (lv_at hl 0 rfl) ?_
  refine va_get (D := D) (ci := 3) (v := .int (zI (n : Int))) (C := RX3) (T := TX3) (N := 12) hx hb hts hin3 hown hK hP 0 rfl rfl 1 (by decide) (hts (.fieldLink RX3 39 "MourningRibbonsModel" "people" "I") (by decide +kernel)) (fun _ h9 => h9) rfl dX3_addPerson_6 ?_
  refine zr_bipush hx hb dX3_addPerson_9 (by decide) ?_
  refine zr_icmp_ne (tgt := 22) hx hb dX3_addPerson_11 (by decide) ⟨by omega, by omega⟩ ⟨by decide, by decide⟩ (fun c_1 => ?_) (fun c_1 => ?_)
  · have c_1 := c_1
    refine lv_aload_n hx hb dX3_addPerson_22 rfl (lv_at hl 0 rfl) ?_
    refine zr_iconst hx hb dX3_addPerson_23 ?_
    exfalso; omega
  · have c_1 := c_1
    refine lv_aload_n hx hb dX3_addPerson_14 rfl (lv_at hl 0 rfl) ?_
    refine zr_iconst hx hb dX3_addPerson_15 ?_
    refine zcallV (ci := 3) (q0 := 0) (cq := (RX3, TX3, 12)) (As := [.int (zI 1)]) (rest := []) ⟨hx, hb, hml, hown, hts⟩ hK (kX3_no l D cI cZ q hN pa sp al co da mo st mr 0 n td wn 1) (cwV 1 hts gX3_addPerson_X3_no rfl rfl rfl (by decide +kernel) ⟨Nat.le_of_ble_eq_true rfl, Nat.le_of_ble_eq_true rfl⟩) hP hS hA rfl rfl rfl hl.1 rfl (Nat.le_of_ble_eq_true rfl) dX3_addPerson_16 ⟨Nat.zero_le _, Nat.zero_le _⟩ (fun H locs hP hS _ _ => ?_)
    refine W.eq (g2 := F0 m9 19 ls [.int (zI 0)]) rfl ?_
    refine lv_goto (tgt := 27) hx hb dX3_addPerson_19 (by decide) ?_
    rw [hQ0]
    exact zret_i hx hb hr hlocks (rfl) hP hS dX3_addPerson_27
set_option maxHeartbeats 4000000 in
set_option maxRecDepth 100000 in
theorem kX3_addChildok (l : Launch) (D : va_G) (cI cZ : ClassId) (q : Nat → Nat) (hN : (zLM q).Nodup) (pa : Int → Int) (sp : Int → Int) (al : Int → Int) (co : Int → Int) (da : Int → Int) (mo : Int → Int) (st : Int → Int) (mr : Int → Int) (th : Int) (n : Nat) (td : Int) (wn : Int) (hn : n ≤ 16) (hal : ∀ j : Int, 0 ≤ al j ∧ al j ≤ 1) (p : Int) (h0 : -2147483648 ≤ p ∧ p ≤ 2147483647) (h1 : 0 ≤ p ∧ p < (n : Int)) (h2 : al p ≠ 0) (h3 : n < 16) : zM l yX3_addChild wsX3_addChild ({ frames := 2, cells := 0, slots := 0, locals := 43 }) D [(cI, .int), (cZ, .boolean)] [.ref (q 0), .int (zI p)] (wM cI cZ q pa sp al co da mo st mr th n td wn) (wM cI cZ q (up pa (n : Int) p) (up sp (n : Int) (-1)) (up al (n : Int) 1) co da mo st mr 0 (n + 1) td wn) (some (.int (zI (n : Int)))) (zLM q) := by
  refine Met.ofW (cc := cX3_addChild) (maxL := 2) (ret := (some .int)) (by decide) rfl ?_
  intro p0 e9 s9 m9 ag9 below meth c9 s₁ B hml hv
  obtain ⟨hav, hP, hK⟩ := hv
  have hx := B.exec
  have hb := B.bytes
  have hr := B.returns
  have hts := atoms_spec (ws := wsX3_addChild) B.pre
  have hown : s9.vm.findClass RX3 = some m9.cls := findClass_of_methodNamed B.named
  have hlocks := B.notSynchronized
  have hA : ∀ a ∈ zLM q, (fun a => a ∈ zLM q) a := fun _ h => h
  have hin3 : ∀ w ∈ u_ws RX3 TX3 12, w ∈ wsX3_addChild := by decide +kernel
  have hl := lv_entry ([.ref (q 0), .int (zI p)]) (n := 2) (Nat.le_of_ble_eq_true rfl)
  have hE : entryFrame m9 ag9 2 = F0 m9 0 ((lg_sl ([.ref (q 0), .int (zI p)]) ++ List.replicate (2 - (lg_sl ([.ref (q 0), .int (zI p)])).length) Slot.unset).toArray) [] := by rw [hav]; exact lg_entry_eq m9 _ _
  obtain ⟨Q0, hQ0⟩ : ∃ Q0, Q0 = MQ below (zQ D (wM cI cZ q (up pa (n : Int) p) (up sp (n : Int) (-1)) (up al (n : Int) 1) co da mo st mr 0 (n + 1) td wn) (some (.int (zI (n : Int)))) (zLM q)) ag9 s9 0 0 (fun a => a ∈ zLM q) := ⟨_, rfl⟩
  show W p0 l e9 ({ frames := 2, cells := 0, slots := 0, locals := 43 }) s9 m9 ag9 below meth c9 s9.heap [] 0 0 (MQ below (zQ D (wM cI cZ q (up pa (n : Int) p) (up sp (n : Int) (-1)) (up al (n : Int) 1) co da mo st mr 0 (n + 1) td wn) (some (.int (zI (n : Int)))) (zLM q)) ag9 s9 0 0 (fun a => a ∈ zLM q)) _
  rw [hE, ← hQ0]
  have hS : va_S (fun a => a ∈ zLM q) s9.heap s9.heap [] := va_S.rf
  generalize hH0 : s9.heap = H at hP ⊢
  have hS : va_S (fun a => a ∈ zLM q) s9.heap H [] := by rw [hH0] at hS ⊢; exact hS
  generalize (lg_sl ([.ref (q 0), .int (zI p)]) ++ List.replicate (2 - (lg_sl ([.ref (q 0), .int (zI p)])).length) Slot.unset).toArray = ls at hl ⊢
  have hl : lv_has ls 2 [(0, .ref (q 0)), (1, .int (zI p))] := hl
  refine lv_aload_n hx hb dX3_addChild_0 rfl (lv_at hl 0 rfl) ?_
  refine zr_iconst hx hb dX3_addChild_1 ?_
  refine va_put (D := D) (ci := 3) (v := .int (zI 0)) (ty := .int) (C := RX3) (T := TX3) (N := 12) hx hb hts hin3 tyX3 tyX3_ok nmX3 hown hK hP (zD hN rfl hA) hS 0 rfl rfl 0 (by decide) (hts (.fieldLink RX3 35 "MourningRibbonsModel" "thrown" "I") (by decide +kernel)) (fun _ h9 => h9) rfl (by decide +kernel) rfl rfl (Nat.le_of_ble_eq_true rfl) dX3_addChild_2 (fun H locs hP _ hS => ?_)
  have hP : va_P D vwCl (wM cI cZ q pa sp al co da mo st mr 0 n td wn) H := hP
  refine lv_aload_n hx hb dX3_addChild_5 rfl (lv_at hl 0 rfl) ?_
  refine lv_iload_n hx hb dX3_addChild_6 rfl (lv_at hl 1 rfl) ?_
  refine zcallV (ci := 3) (q0 := 0) (cq := (RX3, TX3, 12)) (As := [.int (zI p)]) (rest := []) ⟨hx, hb, hml, hown, hts⟩ hK (kX3_isPerson l D cI cZ q hN pa sp al co da mo st mr 0 n td wn hn p (by omega)) (cwV 1 hts gX3_addChild_X3_isPerson rfl rfl rfl (by decide +kernel) ⟨Nat.le_of_ble_eq_true rfl, Nat.le_of_ble_eq_true rfl⟩) hP hS hA rfl rfl rfl hl.1 rfl (Nat.le_of_ble_eq_true rfl) dX3_addChild_7 ⟨Nat.zero_le _, Nat.zero_le _⟩ (fun H locs hP hS _ _ => ?_)
  refine W.eq (g2 := F0 m9 10 ls [.int (zI (bI (0 ≤ p ∧ p ≤ (n : Int) - 1)))]) rfl ?_
  refine zr_if_ne (tgt := 19) hx hb dX3_addChild_10 (by decide) (bI_rg _) (fun c_1 => ?_) (fun c_1 => ?_)
  · have c_1 := bI_n c_1
    refine lv_aload_n hx hb dX3_addChild_19 rfl (lv_at hl 0 rfl) ?_
    refine va_get (D := D) (ci := 3) (v := .int (zI (n : Int))) (C := RX3) (T := TX3) (N := 12) hx hb hts hin3 hown hK hP 0 rfl rfl 1 (by decide) (hts (.fieldLink RX3 39 "MourningRibbonsModel" "people" "I") (by decide +kernel)) (fun _ h9 => h9) rfl dX3_addChild_20 ?_
    refine zr_bipush hx hb dX3_addChild_23 (by decide) ?_
    refine zr_icmp_eq (tgt := 37) hx hb dX3_addChild_25 (by decide) ⟨by omega, by omega⟩ ⟨by decide, by decide⟩ (fun c_2 => ?_) (fun c_2 => ?_)
    · have c_2 := c_2
      refine lv_aload_n hx hb dX3_addChild_37 rfl (lv_at hl 0 rfl) ?_
      refine zr_iconst hx hb dX3_addChild_38 ?_
      exfalso; omega
    · have c_2 := c_2
      refine lv_aload_n hx hb dX3_addChild_28 rfl (lv_at hl 0 rfl) ?_
      refine va_get (D := D) (ci := 3) (v := .ref (q 3)) (C := RX3) (T := TX3) (N := 12) hx hb hts hin3 hown hK hP 0 rfl rfl 4 (by decide) (hts (.fieldLink RX3 16 "MourningRibbonsModel" "isAlive" "[Z") (by decide +kernel)) (fun _ h9 => h9) rfl dX3_addChild_29 ?_
      refine lv_iload_n hx hb dX3_addChild_32 rfl (lv_at hl 1 rfl) ?_
      refine zr_zald (f := al) (n := 16) hx hb hK hP 3 1 rfl rfl (by decide) (i := p) (by omega) (by omega) dX3_addChild_33 ?_
      have b_3 := hal p
      refine zr_if_ne (tgt := 45) hx hb dX3_addChild_34 (by decide) ⟨by omega, by omega⟩ (fun c_4 => ?_) (fun c_4 => ?_)
      · have c_4 := c_4
        refine lv_aload_n hx hb dX3_addChild_45 rfl (lv_at hl 0 rfl) ?_
        refine lv_iload_n hx hb dX3_addChild_46 rfl (lv_at hl 1 rfl) ?_
        refine zcallV (ci := 3) (q0 := 0) (cq := (RX3, TX3, 12)) (As := [.int (zI p)]) (rest := []) ⟨hx, hb, hml, hown, hts⟩ hK (kX3_born l D cI cZ q hN pa sp al co da mo st mr 0 n td wn p (by omega)) (cwV 1 hts gX3_addChild_X3_born rfl rfl rfl (by decide +kernel) ⟨Nat.le_of_ble_eq_true rfl, Nat.le_of_ble_eq_true rfl⟩) hP hS hA rfl rfl rfl hl.1 rfl (Nat.le_of_ble_eq_true rfl) dX3_addChild_47 ⟨Nat.zero_le _, Nat.zero_le _⟩ (fun H locs hP hS _ _ => ?_)
        refine W.eq (g2 := F0 m9 50 ls [.int (zI (n : Int))]) rfl ?_
        rw [hQ0]
        exact zret_i hx hb hr hlocks (rfl) hP hS dX3_addChild_50
      · have c_4 := c_4
        refine lv_aload_n hx hb dX3_addChild_37 rfl (lv_at hl 0 rfl) ?_
        refine zr_iconst hx hb dX3_addChild_38 ?_
        exfalso; omega
  · have c_1 := bI_z c_1
    refine lv_aload_n hx hb dX3_addChild_13 rfl (lv_at hl 0 rfl) ?_
    refine zr_iconst hx hb dX3_addChild_14 ?_
    exfalso; omega
set_option maxHeartbeats 4000000 in
set_option maxRecDepth 100000 in
theorem kX3_addChilde1 (l : Launch) (D : va_G) (cI cZ : ClassId) (q : Nat → Nat) (hN : (zLM q).Nodup) (pa : Int → Int) (sp : Int → Int) (al : Int → Int) (co : Int → Int) (da : Int → Int) (mo : Int → Int) (st : Int → Int) (mr : Int → Int) (th : Int) (n : Nat) (td : Int) (wn : Int) (hn : n ≤ 16) (p : Int) (h0 : -2147483648 ≤ p ∧ p ≤ 2147483647) (h1 : ¬ (0 ≤ p ∧ p < (n : Int))) : zM l yX3_addChild wsX3_addChild ({ frames := 2, cells := 0, slots := 0, locals := 43 }) D [(cI, .int), (cZ, .boolean)] [.ref (q 0), .int (zI p)] (wM cI cZ q pa sp al co da mo st mr th n td wn) (wM cI cZ q pa sp al co da mo st mr 1 n td wn) (some (.int (zI 0))) (zLM q) := by
  refine Met.ofW (cc := cX3_addChild) (maxL := 2) (ret := (some .int)) (by decide) rfl ?_
  intro p0 e9 s9 m9 ag9 below meth c9 s₁ B hml hv
  obtain ⟨hav, hP, hK⟩ := hv
  have hx := B.exec
  have hb := B.bytes
  have hr := B.returns
  have hts := atoms_spec (ws := wsX3_addChild) B.pre
  have hown : s9.vm.findClass RX3 = some m9.cls := findClass_of_methodNamed B.named
  have hlocks := B.notSynchronized
  have hA : ∀ a ∈ zLM q, (fun a => a ∈ zLM q) a := fun _ h => h
  have hin3 : ∀ w ∈ u_ws RX3 TX3 12, w ∈ wsX3_addChild := by decide +kernel
  have hl := lv_entry ([.ref (q 0), .int (zI p)]) (n := 2) (Nat.le_of_ble_eq_true rfl)
  have hE : entryFrame m9 ag9 2 = F0 m9 0 ((lg_sl ([.ref (q 0), .int (zI p)]) ++ List.replicate (2 - (lg_sl ([.ref (q 0), .int (zI p)])).length) Slot.unset).toArray) [] := by rw [hav]; exact lg_entry_eq m9 _ _
  obtain ⟨Q0, hQ0⟩ : ∃ Q0, Q0 = MQ below (zQ D (wM cI cZ q pa sp al co da mo st mr 1 n td wn) (some (.int (zI 0))) (zLM q)) ag9 s9 0 0 (fun a => a ∈ zLM q) := ⟨_, rfl⟩
  show W p0 l e9 ({ frames := 2, cells := 0, slots := 0, locals := 43 }) s9 m9 ag9 below meth c9 s9.heap [] 0 0 (MQ below (zQ D (wM cI cZ q pa sp al co da mo st mr 1 n td wn) (some (.int (zI 0))) (zLM q)) ag9 s9 0 0 (fun a => a ∈ zLM q)) _
  rw [hE, ← hQ0]
  have hS : va_S (fun a => a ∈ zLM q) s9.heap s9.heap [] := va_S.rf
  generalize hH0 : s9.heap = H at hP ⊢
  have hS : va_S (fun a => a ∈ zLM q) s9.heap H [] := by rw [hH0] at hS ⊢; exact hS
  generalize (lg_sl ([.ref (q 0), .int (zI p)]) ++ List.replicate (2 - (lg_sl ([.ref (q 0), .int (zI p)])).length) Slot.unset).toArray = ls at hl ⊢
  have hl : lv_has ls 2 [(0, .ref (q 0)), (1, .int (zI p))] := hl
  refine lv_aload_n hx hb dX3_addChild_0 rfl (lv_at hl 0 rfl) ?_
  refine zr_iconst hx hb dX3_addChild_1 ?_
  refine va_put (D := D) (ci := 3) (v := .int (zI 0)) (ty := .int) (C := RX3) (T := TX3) (N := 12) hx hb hts hin3 tyX3 tyX3_ok nmX3 hown hK hP (zD hN rfl hA) hS 0 rfl rfl 0 (by decide) (hts (.fieldLink RX3 35 "MourningRibbonsModel" "thrown" "I") (by decide +kernel)) (fun _ h9 => h9) rfl (by decide +kernel) rfl rfl (Nat.le_of_ble_eq_true rfl) dX3_addChild_2 (fun H locs hP _ hS => ?_)
  have hP : va_P D vwCl (wM cI cZ q pa sp al co da mo st mr 0 n td wn) H := hP
  refine lv_aload_n hx hb dX3_addChild_5 rfl (lv_at hl 0 rfl) ?_
  refine lv_iload_n hx hb dX3_addChild_6 rfl (lv_at hl 1 rfl) ?_
  refine zcallV (ci := 3) (q0 := 0) (cq := (RX3, TX3, 12)) (As := [.int (zI p)]) (rest := []) ⟨hx, hb, hml, hown, hts⟩ hK (kX3_isPerson l D cI cZ q hN pa sp al co da mo st mr 0 n td wn hn p (by omega)) (cwV 1 hts gX3_addChild_X3_isPerson rfl rfl rfl (by decide +kernel) ⟨Nat.le_of_ble_eq_true rfl, Nat.le_of_ble_eq_true rfl⟩) hP hS hA rfl rfl rfl hl.1 rfl (Nat.le_of_ble_eq_true rfl) dX3_addChild_7 ⟨Nat.zero_le _, Nat.zero_le _⟩ (fun H locs hP hS _ _ => ?_)
  refine W.eq (g2 := F0 m9 10 ls [.int (zI (bI (0 ≤ p ∧ p ≤ (n : Int) - 1)))]) rfl ?_
  refine zr_if_ne (tgt := 19) hx hb dX3_addChild_10 (by decide) (bI_rg _) (fun c_1 => ?_) (fun c_1 => ?_)
  · have c_1 := bI_n c_1
    exfalso; omega
  · have c_1 := bI_z c_1
    refine lv_aload_n hx hb dX3_addChild_13 rfl (lv_at hl 0 rfl) ?_
    refine zr_iconst hx hb dX3_addChild_14 ?_
    refine zcallV (ci := 3) (q0 := 0) (cq := (RX3, TX3, 12)) (As := [.int (zI 1)]) (rest := []) ⟨hx, hb, hml, hown, hts⟩ hK (kX3_no l D cI cZ q hN pa sp al co da mo st mr 0 n td wn 1) (cwV 1 hts gX3_addChild_X3_no rfl rfl rfl (by decide +kernel) ⟨Nat.le_of_ble_eq_true rfl, Nat.le_of_ble_eq_true rfl⟩) hP hS hA rfl rfl rfl hl.1 rfl (Nat.le_of_ble_eq_true rfl) dX3_addChild_15 ⟨Nat.zero_le _, Nat.zero_le _⟩ (fun H locs hP hS _ _ => ?_)
    refine W.eq (g2 := F0 m9 18 ls [.int (zI 0)]) rfl ?_
    rw [hQ0]
    exact zret_i hx hb hr hlocks (rfl) hP hS dX3_addChild_18
set_option maxHeartbeats 4000000 in
set_option maxRecDepth 100000 in
theorem kX3_addChilde2 (l : Launch) (D : va_G) (cI cZ : ClassId) (q : Nat → Nat) (hN : (zLM q).Nodup) (pa : Int → Int) (sp : Int → Int) (al : Int → Int) (co : Int → Int) (da : Int → Int) (mo : Int → Int) (st : Int → Int) (mr : Int → Int) (th : Int) (n : Nat) (td : Int) (wn : Int) (hn : n ≤ 16) (hal : ∀ j : Int, 0 ≤ al j ∧ al j ≤ 1) (p : Int) (h0 : -2147483648 ≤ p ∧ p ≤ 2147483647) (h1 : 0 ≤ p ∧ p < (n : Int)) (h2 : al p = 0 ∨ n = 16) : zM l yX3_addChild wsX3_addChild ({ frames := 2, cells := 0, slots := 0, locals := 43 }) D [(cI, .int), (cZ, .boolean)] [.ref (q 0), .int (zI p)] (wM cI cZ q pa sp al co da mo st mr th n td wn) (wM cI cZ q pa sp al co da mo st mr 2 n td wn) (some (.int (zI 0))) (zLM q) := by
  refine Met.ofW (cc := cX3_addChild) (maxL := 2) (ret := (some .int)) (by decide) rfl ?_
  intro p0 e9 s9 m9 ag9 below meth c9 s₁ B hml hv
  obtain ⟨hav, hP, hK⟩ := hv
  have hx := B.exec
  have hb := B.bytes
  have hr := B.returns
  have hts := atoms_spec (ws := wsX3_addChild) B.pre
  have hown : s9.vm.findClass RX3 = some m9.cls := findClass_of_methodNamed B.named
  have hlocks := B.notSynchronized
  have hA : ∀ a ∈ zLM q, (fun a => a ∈ zLM q) a := fun _ h => h
  have hin3 : ∀ w ∈ u_ws RX3 TX3 12, w ∈ wsX3_addChild := by decide +kernel
  have hl := lv_entry ([.ref (q 0), .int (zI p)]) (n := 2) (Nat.le_of_ble_eq_true rfl)
  have hE : entryFrame m9 ag9 2 = F0 m9 0 ((lg_sl ([.ref (q 0), .int (zI p)]) ++ List.replicate (2 - (lg_sl ([.ref (q 0), .int (zI p)])).length) Slot.unset).toArray) [] := by rw [hav]; exact lg_entry_eq m9 _ _
  obtain ⟨Q0, hQ0⟩ : ∃ Q0, Q0 = MQ below (zQ D (wM cI cZ q pa sp al co da mo st mr 2 n td wn) (some (.int (zI 0))) (zLM q)) ag9 s9 0 0 (fun a => a ∈ zLM q) := ⟨_, rfl⟩
  show W p0 l e9 ({ frames := 2, cells := 0, slots := 0, locals := 43 }) s9 m9 ag9 below meth c9 s9.heap [] 0 0 (MQ below (zQ D (wM cI cZ q pa sp al co da mo st mr 2 n td wn) (some (.int (zI 0))) (zLM q)) ag9 s9 0 0 (fun a => a ∈ zLM q)) _
  rw [hE, ← hQ0]
  have hS : va_S (fun a => a ∈ zLM q) s9.heap s9.heap [] := va_S.rf
  generalize hH0 : s9.heap = H at hP ⊢
  have hS : va_S (fun a => a ∈ zLM q) s9.heap H [] := by rw [hH0] at hS ⊢; exact hS
  generalize (lg_sl ([.ref (q 0), .int (zI p)]) ++ List.replicate (2 - (lg_sl ([.ref (q 0), .int (zI p)])).length) Slot.unset).toArray = ls at hl ⊢
  have hl : lv_has ls 2 [(0, .ref (q 0)), (1, .int (zI p))] := hl
  refine lv_aload_n hx hb dX3_addChild_0 rfl (lv_at hl 0 rfl) ?_
  refine zr_iconst hx hb dX3_addChild_1 ?_
  refine va_put (D := D) (ci := 3) (v := .int (zI 0)) (ty := .int) (C := RX3) (T := TX3) (N := 12) hx hb hts hin3 tyX3 tyX3_ok nmX3 hown hK hP (zD hN rfl hA) hS 0 rfl rfl 0 (by decide) (hts (.fieldLink RX3 35 "MourningRibbonsModel" "thrown" "I") (by decide +kernel)) (fun _ h9 => h9) rfl (by decide +kernel) rfl rfl (Nat.le_of_ble_eq_true rfl) dX3_addChild_2 (fun H locs hP _ hS => ?_)
  have hP : va_P D vwCl (wM cI cZ q pa sp al co da mo st mr 0 n td wn) H := hP
  refine lv_aload_n hx hb dX3_addChild_5 rfl (lv_at hl 0 rfl) ?_
  refine lv_iload_n hx hb dX3_addChild_6 rfl (lv_at hl 1 rfl) ?_
  refine zcallV (ci := 3) (q0 := 0) (cq := (RX3, TX3, 12)) (As := [.int (zI p)]) (rest := []) ⟨hx, hb, hml, hown, hts⟩ hK (kX3_isPerson l D cI cZ q hN pa sp al co da mo st mr 0 n td wn hn p (by omega)) (cwV 1 hts gX3_addChild_X3_isPerson rfl rfl rfl (by decide +kernel) ⟨Nat.le_of_ble_eq_true rfl, Nat.le_of_ble_eq_true rfl⟩) hP hS hA rfl rfl rfl hl.1 rfl (Nat.le_of_ble_eq_true rfl) dX3_addChild_7 ⟨Nat.zero_le _, Nat.zero_le _⟩ (fun H locs hP hS _ _ => ?_)
  refine W.eq (g2 := F0 m9 10 ls [.int (zI (bI (0 ≤ p ∧ p ≤ (n : Int) - 1)))]) rfl ?_
  refine zr_if_ne (tgt := 19) hx hb dX3_addChild_10 (by decide) (bI_rg _) (fun c_1 => ?_) (fun c_1 => ?_)
  · have c_1 := bI_n c_1
    refine lv_aload_n hx hb dX3_addChild_19 rfl (lv_at hl 0 rfl) ?_
    refine va_get (D := D) (ci := 3) (v := .int (zI (n : Int))) (C := RX3) (T := TX3) (N := 12) hx hb hts hin3 hown hK hP 0 rfl rfl 1 (by decide) (hts (.fieldLink RX3 39 "MourningRibbonsModel" "people" "I") (by decide +kernel)) (fun _ h9 => h9) rfl dX3_addChild_20 ?_
    refine zr_bipush hx hb dX3_addChild_23 (by decide) ?_
    refine zr_icmp_eq (tgt := 37) hx hb dX3_addChild_25 (by decide) ⟨by omega, by omega⟩ ⟨by decide, by decide⟩ (fun c_2 => ?_) (fun c_2 => ?_)
    · have c_2 := c_2
      refine lv_aload_n hx hb dX3_addChild_37 rfl (lv_at hl 0 rfl) ?_
      refine zr_iconst hx hb dX3_addChild_38 ?_
      refine zcallV (ci := 3) (q0 := 0) (cq := (RX3, TX3, 12)) (As := [.int (zI 2)]) (rest := []) ⟨hx, hb, hml, hown, hts⟩ hK (kX3_no l D cI cZ q hN pa sp al co da mo st mr 0 n td wn 2) (cwV 1 hts gX3_addChild_X3_no rfl rfl rfl (by decide +kernel) ⟨Nat.le_of_ble_eq_true rfl, Nat.le_of_ble_eq_true rfl⟩) hP hS hA rfl rfl rfl hl.1 rfl (Nat.le_of_ble_eq_true rfl) dX3_addChild_39 ⟨Nat.zero_le _, Nat.zero_le _⟩ (fun H locs hP hS _ _ => ?_)
      refine W.eq (g2 := F0 m9 42 ls [.int (zI 0)]) rfl ?_
      refine lv_goto (tgt := 50) hx hb dX3_addChild_42 (by decide) ?_
      rw [hQ0]
      exact zret_i hx hb hr hlocks (rfl) hP hS dX3_addChild_50
    · have c_2 := c_2
      refine lv_aload_n hx hb dX3_addChild_28 rfl (lv_at hl 0 rfl) ?_
      refine va_get (D := D) (ci := 3) (v := .ref (q 3)) (C := RX3) (T := TX3) (N := 12) hx hb hts hin3 hown hK hP 0 rfl rfl 4 (by decide) (hts (.fieldLink RX3 16 "MourningRibbonsModel" "isAlive" "[Z") (by decide +kernel)) (fun _ h9 => h9) rfl dX3_addChild_29 ?_
      refine lv_iload_n hx hb dX3_addChild_32 rfl (lv_at hl 1 rfl) ?_
      refine zr_zald (f := al) (n := 16) hx hb hK hP 3 1 rfl rfl (by decide) (i := p) (by omega) (by omega) dX3_addChild_33 ?_
      have b_3 := hal p
      refine zr_if_ne (tgt := 45) hx hb dX3_addChild_34 (by decide) ⟨by omega, by omega⟩ (fun c_4 => ?_) (fun c_4 => ?_)
      · have c_4 := c_4
        refine lv_aload_n hx hb dX3_addChild_45 rfl (lv_at hl 0 rfl) ?_
        refine lv_iload_n hx hb dX3_addChild_46 rfl (lv_at hl 1 rfl) ?_
        exfalso; omega
      · have c_4 := c_4
        refine lv_aload_n hx hb dX3_addChild_37 rfl (lv_at hl 0 rfl) ?_
        refine zr_iconst hx hb dX3_addChild_38 ?_
        refine zcallV (ci := 3) (q0 := 0) (cq := (RX3, TX3, 12)) (As := [.int (zI 2)]) (rest := []) ⟨hx, hb, hml, hown, hts⟩ hK (kX3_no l D cI cZ q hN pa sp al co da mo st mr 0 n td wn 2) (cwV 1 hts gX3_addChild_X3_no rfl rfl rfl (by decide +kernel) ⟨Nat.le_of_ble_eq_true rfl, Nat.le_of_ble_eq_true rfl⟩) hP hS hA rfl rfl rfl hl.1 rfl (Nat.le_of_ble_eq_true rfl) dX3_addChild_39 ⟨Nat.zero_le _, Nat.zero_le _⟩ (fun H locs hP hS _ _ => ?_)
        refine W.eq (g2 := F0 m9 42 ls [.int (zI 0)]) rfl ?_
        refine lv_goto (tgt := 50) hx hb dX3_addChild_42 (by decide) ?_
        rw [hQ0]
        exact zret_i hx hb hr hlocks (rfl) hP hS dX3_addChild_50
  · have c_1 := bI_z c_1
    refine lv_aload_n hx hb dX3_addChild_13 rfl (lv_at hl 0 rfl) ?_
    refine zr_iconst hx hb dX3_addChild_14 ?_
    exfalso; omega
set_option maxHeartbeats 4000000 in
set_option maxRecDepth 100000 in
theorem kX3_marryok (l : Launch) (D : va_G) (cI cZ : ClassId) (q : Nat → Nat) (hN : (zLM q).Nodup) (pa : Int → Int) (sp : Int → Int) (al : Int → Int) (co : Int → Int) (da : Int → Int) (mo : Int → Int) (st : Int → Int) (mr : Int → Int) (th : Int) (n : Nat) (td : Int) (wn : Int) (hn : n ≤ 16) (hpa : ∀ j : Int, -1 ≤ pa j ∧ pa j ≤ 15) (hsp : ∀ j : Int, -1 ≤ sp j ∧ sp j ≤ 15) (hal : ∀ j : Int, 0 ≤ al j ∧ al j ≤ 1) (hst : ∀ j : Int, -1 ≤ st j ∧ st j ≤ 4) (a : Int) (b : Int) (h8 : -2147483648 ≤ a ∧ a ≤ 2147483647) (h9 : -2147483648 ≤ b ∧ b ≤ 2147483647) (h1 : 0 ≤ a ∧ a < (n : Int)) (h2 : 0 ≤ b ∧ b < (n : Int)) (h3 : a ≠ b) (h4 : al a ≠ 0 ∧ (sp a = -1 ∨ al (sp a) = 0)) (h5 : al b ≠ 0 ∧ (sp b = -1 ∨ al (sp b) = 0)) : zM l yX3_marry wsX3_marry ({ frames := 3, cells := 0, slots := 0, locals := 68 }) D [(cI, .int), (cZ, .boolean)] [.ref (q 0), .int (zI a), .int (zI b)] (wM cI cZ q pa sp al co da mo st mr th n td wn) (wM cI cZ q pa (up (up (up (lvS (up (lvS sp a) a (-1)) b) b (-1)) a b) b a) al co da mo (goF pa sp n st a) mr 0 n td wn) (some (.int (zI (max 0 (goF pa sp n st a b))))) (zLM q) := by
  refine Met.ofW (cc := cX3_marry) (maxL := 4) (ret := (some .int)) (by decide) rfl ?_
  intro p0 e9 s9 m9 ag9 below meth c9 s₁ B hml hv
  obtain ⟨hav, hP, hK⟩ := hv
  have hx := B.exec
  have hb := B.bytes
  have hr := B.returns
  have hts := atoms_spec (ws := wsX3_marry) B.pre
  have hown : s9.vm.findClass RX3 = some m9.cls := findClass_of_methodNamed B.named
  have hlocks := B.notSynchronized
  have hA : ∀ a ∈ zLM q, (fun a => a ∈ zLM q) a := fun _ h => h
  have hin3 : ∀ w ∈ u_ws RX3 TX3 12, w ∈ wsX3_marry := by decide +kernel
  have hl := lv_entry ([.ref (q 0), .int (zI a), .int (zI b)]) (n := 4) (Nat.le_of_ble_eq_true rfl)
  have hE : entryFrame m9 ag9 4 = F0 m9 0 ((lg_sl ([.ref (q 0), .int (zI a), .int (zI b)]) ++ List.replicate (4 - (lg_sl ([.ref (q 0), .int (zI a), .int (zI b)])).length) Slot.unset).toArray) [] := by rw [hav]; exact lg_entry_eq m9 _ _
  obtain ⟨Q0, hQ0⟩ : ∃ Q0, Q0 = MQ below (zQ D (wM cI cZ q pa (up (up (up (lvS (up (lvS sp a) a (-1)) b) b (-1)) a b) b a) al co da mo (goF pa sp n st a) mr 0 n td wn) (some (.int (zI (max 0 (goF pa sp n st a b))))) (zLM q)) ag9 s9 0 0 (fun a => a ∈ zLM q) := ⟨_, rfl⟩
  show W p0 l e9 ({ frames := 3, cells := 0, slots := 0, locals := 68 }) s9 m9 ag9 below meth c9 s9.heap [] 0 0 (MQ below (zQ D (wM cI cZ q pa (up (up (up (lvS (up (lvS sp a) a (-1)) b) b (-1)) a b) b a) al co da mo (goF pa sp n st a) mr 0 n td wn) (some (.int (zI (max 0 (goF pa sp n st a b))))) (zLM q)) ag9 s9 0 0 (fun a => a ∈ zLM q)) _
  rw [hE, ← hQ0]
  have hS : va_S (fun a => a ∈ zLM q) s9.heap s9.heap [] := va_S.rf
  generalize hH0 : s9.heap = H at hP ⊢
  have hS : va_S (fun a => a ∈ zLM q) s9.heap H [] := by rw [hH0] at hS ⊢; exact hS
  generalize (lg_sl ([.ref (q 0), .int (zI a), .int (zI b)]) ++ List.replicate (4 - (lg_sl ([.ref (q 0), .int (zI a), .int (zI b)])).length) Slot.unset).toArray = ls at hl ⊢
  have hl : lv_has ls 4 [(0, .ref (q 0)), (1, .int (zI a)), (2, .int (zI b))] := hl
  refine lv_aload_n hx hb dX3_marry_0 rfl (lv_at hl 0 rfl) ?_
  refine zr_iconst hx hb dX3_marry_1 ?_
  refine va_put (D := D) (ci := 3) (v := .int (zI 0)) (ty := .int) (C := RX3) (T := TX3) (N := 12) hx hb hts hin3 tyX3 tyX3_ok nmX3 hown hK hP (zD hN rfl hA) hS 0 rfl rfl 0 (by decide) (hts (.fieldLink RX3 35 "MourningRibbonsModel" "thrown" "I") (by decide +kernel)) (fun _ h9 => h9) rfl (by decide +kernel) rfl rfl (Nat.le_of_ble_eq_true rfl) dX3_marry_2 (fun H locs hP _ hS => ?_)
  have hP : va_P D vwCl (wM cI cZ q pa sp al co da mo st mr 0 n td wn) H := hP
  refine lv_aload_n hx hb dX3_marry_5 rfl (lv_at hl 0 rfl) ?_
  refine lv_iload_n hx hb dX3_marry_6 rfl (lv_at hl 1 rfl) ?_
  refine zcallV (ci := 3) (q0 := 0) (cq := (RX3, TX3, 12)) (As := [.int (zI a)]) (rest := []) ⟨hx, hb, hml, hown, hts⟩ hK (kX3_isPerson l D cI cZ q hN pa sp al co da mo st mr 0 n td wn hn a (by omega)) (cwV 1 hts gX3_marry_X3_isPerson rfl rfl rfl (by decide +kernel) ⟨Nat.le_of_ble_eq_true rfl, Nat.le_of_ble_eq_true rfl⟩) hP hS hA rfl rfl rfl hl.1 rfl (Nat.le_of_ble_eq_true rfl) dX3_marry_7 ⟨Nat.zero_le _, Nat.zero_le _⟩ (fun H locs hP hS _ _ => ?_)
  refine W.eq (g2 := F0 m9 10 ls [.int (zI (bI (0 ≤ a ∧ a ≤ (n : Int) - 1)))]) rfl ?_
  refine zr_if_eq (tgt := 21) hx hb dX3_marry_10 (by decide) (bI_rg _) (fun c_1 => ?_) (fun c_1 => ?_)
  · have c_1 := bI_z c_1
    refine lv_aload_n hx hb dX3_marry_21 rfl (lv_at hl 0 rfl) ?_
    refine zr_iconst hx hb dX3_marry_22 ?_
    exfalso; omega
  · have c_1 := bI_n c_1
    refine lv_aload_n hx hb dX3_marry_13 rfl (lv_at hl 0 rfl) ?_
    refine lv_iload_n hx hb dX3_marry_14 rfl (lv_at hl 2 rfl) ?_
    refine zcallV (ci := 3) (q0 := 0) (cq := (RX3, TX3, 12)) (As := [.int (zI b)]) (rest := []) ⟨hx, hb, hml, hown, hts⟩ hK (kX3_isPerson l D cI cZ q hN pa sp al co da mo st mr 0 n td wn hn b (by omega)) (cwV 1 hts gX3_marry_X3_isPerson rfl rfl rfl (by decide +kernel) ⟨Nat.le_of_ble_eq_true rfl, Nat.le_of_ble_eq_true rfl⟩) hP hS hA rfl rfl rfl hl.1 rfl (Nat.le_of_ble_eq_true rfl) dX3_marry_15 ⟨Nat.zero_le _, Nat.zero_le _⟩ (fun H locs hP hS _ _ => ?_)
    refine W.eq (g2 := F0 m9 18 ls [.int (zI (bI (0 ≤ b ∧ b ≤ (n : Int) - 1)))]) rfl ?_
    refine zr_if_ne (tgt := 27) hx hb dX3_marry_18 (by decide) (bI_rg _) (fun c_2 => ?_) (fun c_2 => ?_)
    · have c_2 := bI_n c_2
      refine lv_iload_n hx hb dX3_marry_27 rfl (lv_at hl 1 rfl) ?_
      refine lv_iload_n hx hb dX3_marry_28 rfl (lv_at hl 2 rfl) ?_
      refine zr_icmp_ne (tgt := 38) hx hb dX3_marry_29 (by decide) ⟨by omega, by omega⟩ ⟨by omega, by omega⟩ (fun c_3 => ?_) (fun c_3 => ?_)
      · have c_3 := c_3
        refine lv_aload_n hx hb dX3_marry_38 rfl (lv_at hl 0 rfl) ?_
        refine lv_iload_n hx hb dX3_marry_39 rfl (lv_at hl 1 rfl) ?_
        refine zcallV (ci := 3) (q0 := 0) (cq := (RX3, TX3, 12)) (As := [.int (zI a)]) (rest := []) ⟨hx, hb, hml, hown, hts⟩ hK (kX3_canMarry l D cI cZ q hN pa sp al co da mo st mr 0 n td wn hsp hal a (by omega)) (cwV 1 hts gX3_marry_X3_canMarry rfl rfl rfl (by decide +kernel) ⟨Nat.le_of_ble_eq_true rfl, Nat.le_of_ble_eq_true rfl⟩) hP hS hA rfl rfl rfl hl.1 rfl (Nat.le_of_ble_eq_true rfl) dX3_marry_40 ⟨Nat.zero_le _, Nat.zero_le _⟩ (fun H locs hP hS _ _ => ?_)
        refine W.eq (g2 := F0 m9 43 ls [.int (zI (bI (al a ≠ 0 ∧ (sp a = -1 ∨ al (sp a) = 0))))]) rfl ?_
        refine zr_if_eq (tgt := 54) hx hb dX3_marry_43 (by decide) (bI_rg _) (fun c_4 => ?_) (fun c_4 => ?_)
        · have c_4 := bI_z c_4
          refine lv_aload_n hx hb dX3_marry_54 rfl (lv_at hl 0 rfl) ?_
          refine zr_iconst hx hb dX3_marry_55 ?_
          exfalso; omega
        · have c_4 := bI_n c_4
          refine lv_aload_n hx hb dX3_marry_46 rfl (lv_at hl 0 rfl) ?_
          refine lv_iload_n hx hb dX3_marry_47 rfl (lv_at hl 2 rfl) ?_
          refine zcallV (ci := 3) (q0 := 0) (cq := (RX3, TX3, 12)) (As := [.int (zI b)]) (rest := []) ⟨hx, hb, hml, hown, hts⟩ hK (kX3_canMarry l D cI cZ q hN pa sp al co da mo st mr 0 n td wn hsp hal b (by omega)) (cwV 1 hts gX3_marry_X3_canMarry rfl rfl rfl (by decide +kernel) ⟨Nat.le_of_ble_eq_true rfl, Nat.le_of_ble_eq_true rfl⟩) hP hS hA rfl rfl rfl hl.1 rfl (Nat.le_of_ble_eq_true rfl) dX3_marry_48 ⟨Nat.zero_le _, Nat.zero_le _⟩ (fun H locs hP hS _ _ => ?_)
          refine W.eq (g2 := F0 m9 51 ls [.int (zI (bI (al b ≠ 0 ∧ (sp b = -1 ∨ al (sp b) = 0))))]) rfl ?_
          refine zr_if_ne (tgt := 60) hx hb dX3_marry_51 (by decide) (bI_rg _) (fun c_5 => ?_) (fun c_5 => ?_)
          · have c_5 := bI_n c_5
            refine lv_aload_n hx hb dX3_marry_60 rfl (lv_at hl 0 rfl) ?_
            refine lv_iload_n hx hb dX3_marry_61 rfl (lv_at hl 1 rfl) ?_
            refine lv_iload_n hx hb dX3_marry_62 rfl (lv_at hl 2 rfl) ?_
            refine zcallV (ci := 3) (q0 := 0) (cq := (RX3, TX3, 12)) (As := [.int (zI a), .int (zI b)]) (rest := []) ⟨hx, hb, hml, hown, hts⟩ hK (kX3_degree l D cI cZ q hN pa sp al co da mo st mr 0 n td wn hpa hsp hst hn a b (by omega) (by omega)) (cwV 2 hts gX3_marry_X3_degree rfl rfl rfl (by decide +kernel) ⟨Nat.le_of_ble_eq_true rfl, Nat.le_of_ble_eq_true rfl⟩) hP hS hA rfl rfl rfl hl.1 rfl (Nat.le_of_ble_eq_true rfl) dX3_marry_63 ⟨Nat.zero_le _, Nat.zero_le _⟩ (fun H locs hP hS _ _ => ?_)
            have g_6 : ∀ j : Int, -1 ≤ (goF pa sp n st a) j ∧ (goF pa sp n st a) j ≤ 4 := goF_bd hst pa sp n a
            refine W.eq (g2 := F0 m9 66 ls [.int (zI (max 0 (goF pa sp n st a b)))]) rfl ?_
            refine lv_istore_n (lv' := [(3, .int (zI (max 0 (goF pa sp n st a b)))), (0, .ref (q 0)), (1, .int (zI a)), (2, .int (zI b))]) hx hb dX3_marry_66 rfl hl (by decide) rfl (fun ls hl => ?_)
            refine lv_aload_n hx hb dX3_marry_67 rfl (lv_at hl 1 rfl) ?_
            refine lv_iload_n hx hb dX3_marry_68 rfl (lv_at hl 2 rfl) ?_
            refine zcallV (ci := 3) (q0 := 0) (cq := (RX3, TX3, 12)) (As := [.int (zI a)]) (rest := []) ⟨hx, hb, hml, hown, hts⟩ hK (kX3_part l D cI cZ q hN pa sp al co da mo (goF pa sp n st a) mr 0 n td wn hsp a (by omega)) (cwV 1 hts gX3_marry_X3_part rfl rfl rfl (by decide +kernel) ⟨Nat.le_of_ble_eq_true rfl, Nat.le_of_ble_eq_true rfl⟩) hP hS hA rfl rfl rfl hl.1 rfl (Nat.le_of_ble_eq_true rfl) dX3_marry_69 ⟨Nat.zero_le _, Nat.zero_le _⟩ (fun H locs hP hS _ _ => ?_)
            have g_7 : ∀ j : Int, -1 ≤ (up (lvS sp a) a (-1)) j ∧ (up (lvS sp a) a (-1)) j ≤ 15 := up_bd (lvS_bd hsp a) ⟨by decide, by decide⟩
            refine W.eq (g2 := F0 m9 72 ls []) rfl ?_
            refine lv_aload_n hx hb dX3_marry_72 rfl (lv_at hl 1 rfl) ?_
            refine lv_iload_n hx hb dX3_marry_73 rfl (lv_at hl 3 rfl) ?_
            refine zcallV (ci := 3) (q0 := 0) (cq := (RX3, TX3, 12)) (As := [.int (zI b)]) (rest := []) ⟨hx, hb, hml, hown, hts⟩ hK (kX3_part l D cI cZ q hN pa (up (lvS sp a) a (-1)) al co da mo (goF pa sp n st a) mr 0 n td wn g_7 b (by omega)) (cwV 1 hts gX3_marry_X3_part rfl rfl rfl (by decide +kernel) ⟨Nat.le_of_ble_eq_true rfl, Nat.le_of_ble_eq_true rfl⟩) hP hS hA rfl rfl rfl hl.1 rfl (Nat.le_of_ble_eq_true rfl) dX3_marry_74 ⟨Nat.zero_le _, Nat.zero_le _⟩ (fun H locs hP hS _ _ => ?_)
            have g_8 : ∀ j : Int, -1 ≤ (up (lvS (up (lvS sp a) a (-1)) b) b (-1)) j ∧ (up (lvS (up (lvS sp a) a (-1)) b) b (-1)) j ≤ 15 := up_bd (lvS_bd g_7 b) ⟨by decide, by decide⟩
            refine W.eq (g2 := F0 m9 77 ls []) rfl ?_
            refine lv_aload_n hx hb dX3_marry_77 rfl (lv_at hl 1 rfl) ?_
            refine va_get (D := D) (ci := 3) (v := .ref (q 2)) (C := RX3) (T := TX3) (N := 12) hx hb hts hin3 hown hK hP 0 rfl rfl 3 (by decide) (hts (.fieldLink RX3 13 "MourningRibbonsModel" "married" "[I") (by decide +kernel)) (fun _ h9 => h9) rfl dX3_marry_78 ?_
            refine lv_iload_n hx hb dX3_marry_81 rfl (lv_at hl 2 rfl) ?_
            refine lv_iload_n hx hb dX3_marry_82 rfl (lv_at hl 3 rfl) ?_
            refine zr_iast (f := up (lvS (up (lvS sp a) a (-1)) b) b (-1)) (n := 16) hx hb hK hP hN rfl hA hS 2 0 rfl rfl (by decide) (i := a) (x := b) (by omega) (by omega) dX3_marry_83 (fun H locs hP hS => ?_)
            have hP : va_P D vwCl (wM cI cZ q pa (up (up (lvS (up (lvS sp a) a (-1)) b) b (-1)) a b) al co da mo (goF pa sp n st a) mr 0 n td wn) H := hP
            refine lv_aload_n hx hb dX3_marry_84 rfl (lv_at hl 1 rfl) ?_
            refine va_get (D := D) (ci := 3) (v := .ref (q 2)) (C := RX3) (T := TX3) (N := 12) hx hb hts hin3 hown hK hP 0 rfl rfl 3 (by decide) (hts (.fieldLink RX3 13 "MourningRibbonsModel" "married" "[I") (by decide +kernel)) (fun _ h9 => h9) rfl dX3_marry_85 ?_
            refine lv_iload_n hx hb dX3_marry_88 rfl (lv_at hl 3 rfl) ?_
            refine lv_iload_n hx hb dX3_marry_89 rfl (lv_at hl 2 rfl) ?_
            refine zr_iast (f := up (up (lvS (up (lvS sp a) a (-1)) b) b (-1)) a b) (n := 16) hx hb hK hP hN rfl hA hS 2 0 rfl rfl (by decide) (i := b) (x := a) (by omega) (by omega) dX3_marry_90 (fun H locs hP hS => ?_)
            have hP : va_P D vwCl (wM cI cZ q pa (up (up (up (lvS (up (lvS sp a) a (-1)) b) b (-1)) a b) b a) al co da mo (goF pa sp n st a) mr 0 n td wn) H := hP
            refine lv_iload_n hx hb dX3_marry_91 rfl (lv_at hl 0 rfl) ?_
            rw [hQ0]
            exact zret_i hx hb hr hlocks (rfl) hP hS dX3_marry_92
          · have c_5 := bI_z c_5
            refine lv_aload_n hx hb dX3_marry_54 rfl (lv_at hl 0 rfl) ?_
            refine zr_iconst hx hb dX3_marry_55 ?_
            exfalso; omega
      · have c_3 := c_3
        refine lv_aload_n hx hb dX3_marry_32 rfl (lv_at hl 0 rfl) ?_
        refine zr_iconst hx hb dX3_marry_33 ?_
        exfalso; omega
    · have c_2 := bI_z c_2
      refine lv_aload_n hx hb dX3_marry_21 rfl (lv_at hl 0 rfl) ?_
      refine zr_iconst hx hb dX3_marry_22 ?_
      exfalso; omega
set_option maxHeartbeats 4000000 in
set_option maxRecDepth 100000 in
theorem kX3_marrye1 (l : Launch) (D : va_G) (cI cZ : ClassId) (q : Nat → Nat) (hN : (zLM q).Nodup) (pa : Int → Int) (sp : Int → Int) (al : Int → Int) (co : Int → Int) (da : Int → Int) (mo : Int → Int) (st : Int → Int) (mr : Int → Int) (th : Int) (n : Nat) (td : Int) (wn : Int) (hn : n ≤ 16) (a : Int) (b : Int) (h8 : -2147483648 ≤ a ∧ a ≤ 2147483647) (h9 : -2147483648 ≤ b ∧ b ≤ 2147483647) (h1 : ¬ (0 ≤ a ∧ a < (n : Int)) ∨ ¬ (0 ≤ b ∧ b < (n : Int))) : zM l yX3_marry wsX3_marry ({ frames := 3, cells := 0, slots := 0, locals := 68 }) D [(cI, .int), (cZ, .boolean)] [.ref (q 0), .int (zI a), .int (zI b)] (wM cI cZ q pa sp al co da mo st mr th n td wn) (wM cI cZ q pa sp al co da mo st mr 1 n td wn) (some (.int (zI 0))) (zLM q) := by
  refine Met.ofW (cc := cX3_marry) (maxL := 4) (ret := (some .int)) (by decide) rfl ?_
  intro p0 e9 s9 m9 ag9 below meth c9 s₁ B hml hv
  obtain ⟨hav, hP, hK⟩ := hv
  have hx := B.exec
  have hb := B.bytes
  have hr := B.returns
  have hts := atoms_spec (ws := wsX3_marry) B.pre
  have hown : s9.vm.findClass RX3 = some m9.cls := findClass_of_methodNamed B.named
  have hlocks := B.notSynchronized
  have hA : ∀ a ∈ zLM q, (fun a => a ∈ zLM q) a := fun _ h => h
  have hin3 : ∀ w ∈ u_ws RX3 TX3 12, w ∈ wsX3_marry := by decide +kernel
  have hl := lv_entry ([.ref (q 0), .int (zI a), .int (zI b)]) (n := 4) (Nat.le_of_ble_eq_true rfl)
  have hE : entryFrame m9 ag9 4 = F0 m9 0 ((lg_sl ([.ref (q 0), .int (zI a), .int (zI b)]) ++ List.replicate (4 - (lg_sl ([.ref (q 0), .int (zI a), .int (zI b)])).length) Slot.unset).toArray) [] := by rw [hav]; exact lg_entry_eq m9 _ _
  obtain ⟨Q0, hQ0⟩ : ∃ Q0, Q0 = MQ below (zQ D (wM cI cZ q pa sp al co da mo st mr 1 n td wn) (some (.int (zI 0))) (zLM q)) ag9 s9 0 0 (fun a => a ∈ zLM q) := ⟨_, rfl⟩
  show W p0 l e9 ({ frames := 3, cells := 0, slots := 0, locals := 68 }) s9 m9 ag9 below meth c9 s9.heap [] 0 0 (MQ below (zQ D (wM cI cZ q pa sp al co da mo st mr 1 n td wn) (some (.int (zI 0))) (zLM q)) ag9 s9 0 0 (fun a => a ∈ zLM q)) _
  rw [hE, ← hQ0]
  have hS : va_S (fun a => a ∈ zLM q) s9.heap s9.heap [] := va_S.rf
  generalize hH0 : s9.heap = H at hP ⊢
  have hS : va_S (fun a => a ∈ zLM q) s9.heap H [] := by rw [hH0] at hS ⊢; exact hS
  generalize (lg_sl ([.ref (q 0), .int (zI a), .int (zI b)]) ++ List.replicate (4 - (lg_sl ([.ref (q 0), .int (zI a), .int (zI b)])).length) Slot.unset).toArray = ls at hl ⊢
  have hl : lv_has ls 4 [(0, .ref (q 0)), (1, .int (zI a)), (2, .int (zI b))] := hl
  refine lv_aload_n hx hb dX3_marry_0 rfl (lv_at hl 0 rfl) ?_
  refine zr_iconst hx hb dX3_marry_1 ?_
  refine va_put (D := D) (ci := 3) (v := .int (zI 0)) (ty := .int) (C := RX3) (T := TX3) (N := 12) hx hb hts hin3 tyX3 tyX3_ok nmX3 hown hK hP (zD hN rfl hA) hS 0 rfl rfl 0 (by decide) (hts (.fieldLink RX3 35 "MourningRibbonsModel" "thrown" "I") (by decide +kernel)) (fun _ h9 => h9) rfl (by decide +kernel) rfl rfl (Nat.le_of_ble_eq_true rfl) dX3_marry_2 (fun H locs hP _ hS => ?_)
  have hP : va_P D vwCl (wM cI cZ q pa sp al co da mo st mr 0 n td wn) H := hP
  refine lv_aload_n hx hb dX3_marry_5 rfl (lv_at hl 0 rfl) ?_
  refine lv_iload_n hx hb dX3_marry_6 rfl (lv_at hl 1 rfl) ?_
  refine zcallV (ci := 3) (q0 := 0) (cq := (RX3, TX3, 12)) (As := [.int (zI a)]) (rest := []) ⟨hx, hb, hml, hown, hts⟩ hK (kX3_isPerson l D cI cZ q hN pa sp al co da mo st mr 0 n td wn hn a (by omega)) (cwV 1 hts gX3_marry_X3_isPerson rfl rfl rfl (by decide +kernel) ⟨Nat.le_of_ble_eq_true rfl, Nat.le_of_ble_eq_true rfl⟩) hP hS hA rfl rfl rfl hl.1 rfl (Nat.le_of_ble_eq_true rfl) dX3_marry_7 ⟨Nat.zero_le _, Nat.zero_le _⟩ (fun H locs hP hS _ _ => ?_)
  refine W.eq (g2 := F0 m9 10 ls [.int (zI (bI (0 ≤ a ∧ a ≤ (n : Int) - 1)))]) rfl ?_
  refine zr_if_eq (tgt := 21) hx hb dX3_marry_10 (by decide) (bI_rg _) (fun c_1 => ?_) (fun c_1 => ?_)
  · have c_1 := bI_z c_1
    refine lv_aload_n hx hb dX3_marry_21 rfl (lv_at hl 0 rfl) ?_
    refine zr_iconst hx hb dX3_marry_22 ?_
    refine zcallV (ci := 3) (q0 := 0) (cq := (RX3, TX3, 12)) (As := [.int (zI 1)]) (rest := []) ⟨hx, hb, hml, hown, hts⟩ hK (kX3_no l D cI cZ q hN pa sp al co da mo st mr 0 n td wn 1) (cwV 1 hts gX3_marry_X3_no rfl rfl rfl (by decide +kernel) ⟨Nat.le_of_ble_eq_true rfl, Nat.le_of_ble_eq_true rfl⟩) hP hS hA rfl rfl rfl hl.1 rfl (Nat.le_of_ble_eq_true rfl) dX3_marry_23 ⟨Nat.zero_le _, Nat.zero_le _⟩ (fun H locs hP hS _ _ => ?_)
    refine W.eq (g2 := F0 m9 26 ls [.int (zI 0)]) rfl ?_
    rw [hQ0]
    exact zret_i hx hb hr hlocks (rfl) hP hS dX3_marry_26
  · have c_1 := bI_n c_1
    refine lv_aload_n hx hb dX3_marry_13 rfl (lv_at hl 0 rfl) ?_
    refine lv_iload_n hx hb dX3_marry_14 rfl (lv_at hl 2 rfl) ?_
    refine zcallV (ci := 3) (q0 := 0) (cq := (RX3, TX3, 12)) (As := [.int (zI b)]) (rest := []) ⟨hx, hb, hml, hown, hts⟩ hK (kX3_isPerson l D cI cZ q hN pa sp al co da mo st mr 0 n td wn hn b (by omega)) (cwV 1 hts gX3_marry_X3_isPerson rfl rfl rfl (by decide +kernel) ⟨Nat.le_of_ble_eq_true rfl, Nat.le_of_ble_eq_true rfl⟩) hP hS hA rfl rfl rfl hl.1 rfl (Nat.le_of_ble_eq_true rfl) dX3_marry_15 ⟨Nat.zero_le _, Nat.zero_le _⟩ (fun H locs hP hS _ _ => ?_)
    refine W.eq (g2 := F0 m9 18 ls [.int (zI (bI (0 ≤ b ∧ b ≤ (n : Int) - 1)))]) rfl ?_
    refine zr_if_ne (tgt := 27) hx hb dX3_marry_18 (by decide) (bI_rg _) (fun c_2 => ?_) (fun c_2 => ?_)
    · have c_2 := bI_n c_2
      exfalso; omega
    · have c_2 := bI_z c_2
      refine lv_aload_n hx hb dX3_marry_21 rfl (lv_at hl 0 rfl) ?_
      refine zr_iconst hx hb dX3_marry_22 ?_
      refine zcallV (ci := 3) (q0 := 0) (cq := (RX3, TX3, 12)) (As := [.int (zI 1)]) (rest := []) ⟨hx, hb, hml, hown, hts⟩ hK (kX3_no l D cI cZ q hN pa sp al co da mo st mr 0 n td wn 1) (cwV 1 hts gX3_marry_X3_no rfl rfl rfl (by decide +kernel) ⟨Nat.le_of_ble_eq_true rfl, Nat.le_of_ble_eq_true rfl⟩) hP hS hA rfl rfl rfl hl.1 rfl (Nat.le_of_ble_eq_true rfl) dX3_marry_23 ⟨Nat.zero_le _, Nat.zero_le _⟩ (fun H locs hP hS _ _ => ?_)
      refine W.eq (g2 := F0 m9 26 ls [.int (zI 0)]) rfl ?_
      rw [hQ0]
      exact zret_i hx hb hr hlocks (rfl) hP hS dX3_marry_26
set_option maxHeartbeats 4000000 in
set_option maxRecDepth 100000 in
theorem kX3_marrye2 (l : Launch) (D : va_G) (cI cZ : ClassId) (q : Nat → Nat) (hN : (zLM q).Nodup) (pa : Int → Int) (sp : Int → Int) (al : Int → Int) (co : Int → Int) (da : Int → Int) (mo : Int → Int) (st : Int → Int) (mr : Int → Int) (th : Int) (n : Nat) (td : Int) (wn : Int) (hn : n ≤ 16) (a : Int) (b : Int) (h8 : -2147483648 ≤ a ∧ a ≤ 2147483647) (h9 : -2147483648 ≤ b ∧ b ≤ 2147483647) (h1 : 0 ≤ a ∧ a < (n : Int)) (h2 : 0 ≤ b ∧ b < (n : Int)) (h3 : a = b) : zM l yX3_marry wsX3_marry ({ frames := 3, cells := 0, slots := 0, locals := 68 }) D [(cI, .int), (cZ, .boolean)] [.ref (q 0), .int (zI a), .int (zI b)] (wM cI cZ q pa sp al co da mo st mr th n td wn) (wM cI cZ q pa sp al co da mo st mr 2 n td wn) (some (.int (zI 0))) (zLM q) := by
  refine Met.ofW (cc := cX3_marry) (maxL := 4) (ret := (some .int)) (by decide) rfl ?_
  intro p0 e9 s9 m9 ag9 below meth c9 s₁ B hml hv
  obtain ⟨hav, hP, hK⟩ := hv
  have hx := B.exec
  have hb := B.bytes
  have hr := B.returns
  have hts := atoms_spec (ws := wsX3_marry) B.pre
  have hown : s9.vm.findClass RX3 = some m9.cls := findClass_of_methodNamed B.named
  have hlocks := B.notSynchronized
  have hA : ∀ a ∈ zLM q, (fun a => a ∈ zLM q) a := fun _ h => h
  have hin3 : ∀ w ∈ u_ws RX3 TX3 12, w ∈ wsX3_marry := by decide +kernel
  have hl := lv_entry ([.ref (q 0), .int (zI a), .int (zI b)]) (n := 4) (Nat.le_of_ble_eq_true rfl)
  have hE : entryFrame m9 ag9 4 = F0 m9 0 ((lg_sl ([.ref (q 0), .int (zI a), .int (zI b)]) ++ List.replicate (4 - (lg_sl ([.ref (q 0), .int (zI a), .int (zI b)])).length) Slot.unset).toArray) [] := by rw [hav]; exact lg_entry_eq m9 _ _
  obtain ⟨Q0, hQ0⟩ : ∃ Q0, Q0 = MQ below (zQ D (wM cI cZ q pa sp al co da mo st mr 2 n td wn) (some (.int (zI 0))) (zLM q)) ag9 s9 0 0 (fun a => a ∈ zLM q) := ⟨_, rfl⟩
  show W p0 l e9 ({ frames := 3, cells := 0, slots := 0, locals := 68 }) s9 m9 ag9 below meth c9 s9.heap [] 0 0 (MQ below (zQ D (wM cI cZ q pa sp al co da mo st mr 2 n td wn) (some (.int (zI 0))) (zLM q)) ag9 s9 0 0 (fun a => a ∈ zLM q)) _
  rw [hE, ← hQ0]
  have hS : va_S (fun a => a ∈ zLM q) s9.heap s9.heap [] := va_S.rf
  generalize hH0 : s9.heap = H at hP ⊢
  have hS : va_S (fun a => a ∈ zLM q) s9.heap H [] := by rw [hH0] at hS ⊢; exact hS
  generalize (lg_sl ([.ref (q 0), .int (zI a), .int (zI b)]) ++ List.replicate (4 - (lg_sl ([.ref (q 0), .int (zI a), .int (zI b)])).length) Slot.unset).toArray = ls at hl ⊢
  have hl : lv_has ls 4 [(0, .ref (q 0)), (1, .int (zI a)), (2, .int (zI b))] := hl
  refine lv_aload_n hx hb dX3_marry_0 rfl (lv_at hl 0 rfl) ?_
  refine zr_iconst hx hb dX3_marry_1 ?_
  refine va_put (D := D) (ci := 3) (v := .int (zI 0)) (ty := .int) (C := RX3) (T := TX3) (N := 12) hx hb hts hin3 tyX3 tyX3_ok nmX3 hown hK hP (zD hN rfl hA) hS 0 rfl rfl 0 (by decide) (hts (.fieldLink RX3 35 "MourningRibbonsModel" "thrown" "I") (by decide +kernel)) (fun _ h9 => h9) rfl (by decide +kernel) rfl rfl (Nat.le_of_ble_eq_true rfl) dX3_marry_2 (fun H locs hP _ hS => ?_)
  have hP : va_P D vwCl (wM cI cZ q pa sp al co da mo st mr 0 n td wn) H := hP
  refine lv_aload_n hx hb dX3_marry_5 rfl (lv_at hl 0 rfl) ?_
  refine lv_iload_n hx hb dX3_marry_6 rfl (lv_at hl 1 rfl) ?_
  refine zcallV (ci := 3) (q0 := 0) (cq := (RX3, TX3, 12)) (As := [.int (zI a)]) (rest := []) ⟨hx, hb, hml, hown, hts⟩ hK (kX3_isPerson l D cI cZ q hN pa sp al co da mo st mr 0 n td wn hn a (by omega)) (cwV 1 hts gX3_marry_X3_isPerson rfl rfl rfl (by decide +kernel) ⟨Nat.le_of_ble_eq_true rfl, Nat.le_of_ble_eq_true rfl⟩) hP hS hA rfl rfl rfl hl.1 rfl (Nat.le_of_ble_eq_true rfl) dX3_marry_7 ⟨Nat.zero_le _, Nat.zero_le _⟩ (fun H locs hP hS _ _ => ?_)
  refine W.eq (g2 := F0 m9 10 ls [.int (zI (bI (0 ≤ a ∧ a ≤ (n : Int) - 1)))]) rfl ?_
  refine zr_if_eq (tgt := 21) hx hb dX3_marry_10 (by decide) (bI_rg _) (fun c_1 => ?_) (fun c_1 => ?_)
  · have c_1 := bI_z c_1
    refine lv_aload_n hx hb dX3_marry_21 rfl (lv_at hl 0 rfl) ?_
    refine zr_iconst hx hb dX3_marry_22 ?_
    exfalso; omega
  · have c_1 := bI_n c_1
    refine lv_aload_n hx hb dX3_marry_13 rfl (lv_at hl 0 rfl) ?_
    refine lv_iload_n hx hb dX3_marry_14 rfl (lv_at hl 2 rfl) ?_
    refine zcallV (ci := 3) (q0 := 0) (cq := (RX3, TX3, 12)) (As := [.int (zI b)]) (rest := []) ⟨hx, hb, hml, hown, hts⟩ hK (kX3_isPerson l D cI cZ q hN pa sp al co da mo st mr 0 n td wn hn b (by omega)) (cwV 1 hts gX3_marry_X3_isPerson rfl rfl rfl (by decide +kernel) ⟨Nat.le_of_ble_eq_true rfl, Nat.le_of_ble_eq_true rfl⟩) hP hS hA rfl rfl rfl hl.1 rfl (Nat.le_of_ble_eq_true rfl) dX3_marry_15 ⟨Nat.zero_le _, Nat.zero_le _⟩ (fun H locs hP hS _ _ => ?_)
    refine W.eq (g2 := F0 m9 18 ls [.int (zI (bI (0 ≤ b ∧ b ≤ (n : Int) - 1)))]) rfl ?_
    refine zr_if_ne (tgt := 27) hx hb dX3_marry_18 (by decide) (bI_rg _) (fun c_2 => ?_) (fun c_2 => ?_)
    · have c_2 := bI_n c_2
      refine lv_iload_n hx hb dX3_marry_27 rfl (lv_at hl 1 rfl) ?_
      refine lv_iload_n hx hb dX3_marry_28 rfl (lv_at hl 2 rfl) ?_
      refine zr_icmp_ne (tgt := 38) hx hb dX3_marry_29 (by decide) ⟨by omega, by omega⟩ ⟨by omega, by omega⟩ (fun c_3 => ?_) (fun c_3 => ?_)
      · have c_3 := c_3
        exfalso; omega
      · have c_3 := c_3
        refine lv_aload_n hx hb dX3_marry_32 rfl (lv_at hl 0 rfl) ?_
        refine zr_iconst hx hb dX3_marry_33 ?_
        refine zcallV (ci := 3) (q0 := 0) (cq := (RX3, TX3, 12)) (As := [.int (zI 2)]) (rest := []) ⟨hx, hb, hml, hown, hts⟩ hK (kX3_no l D cI cZ q hN pa sp al co da mo st mr 0 n td wn 2) (cwV 1 hts gX3_marry_X3_no rfl rfl rfl (by decide +kernel) ⟨Nat.le_of_ble_eq_true rfl, Nat.le_of_ble_eq_true rfl⟩) hP hS hA rfl rfl rfl hl.1 rfl (Nat.le_of_ble_eq_true rfl) dX3_marry_34 ⟨Nat.zero_le _, Nat.zero_le _⟩ (fun H locs hP hS _ _ => ?_)
        refine W.eq (g2 := F0 m9 37 ls [.int (zI 0)]) rfl ?_
        rw [hQ0]
        exact zret_i hx hb hr hlocks (rfl) hP hS dX3_marry_37
    · have c_2 := bI_z c_2
      refine lv_aload_n hx hb dX3_marry_21 rfl (lv_at hl 0 rfl) ?_
      refine zr_iconst hx hb dX3_marry_22 ?_
      exfalso; omega
set_option maxHeartbeats 4000000 in
set_option maxRecDepth 100000 in
theorem kX3_marrye3 (l : Launch) (D : va_G) (cI cZ : ClassId) (q : Nat → Nat) (hN : (zLM q).Nodup) (pa : Int → Int) (sp : Int → Int) (al : Int → Int) (co : Int → Int) (da : Int → Int) (mo : Int → Int) (st : Int → Int) (mr : Int → Int) (th : Int) (n : Nat) (td : Int) (wn : Int) (hn : n ≤ 16) (hsp : ∀ j : Int, -1 ≤ sp j ∧ sp j ≤ 15) (hal : ∀ j : Int, 0 ≤ al j ∧ al j ≤ 1) (a : Int) (b : Int) (h8 : -2147483648 ≤ a ∧ a ≤ 2147483647) (h9 : -2147483648 ≤ b ∧ b ≤ 2147483647) (h1 : 0 ≤ a ∧ a < (n : Int)) (h2 : 0 ≤ b ∧ b < (n : Int)) (h3 : a ≠ b) (h4 : ¬ (al a ≠ 0 ∧ (sp a = -1 ∨ al (sp a) = 0)) ∨ ¬ (al b ≠ 0 ∧ (sp b = -1 ∨ al (sp b) = 0))) : zM l yX3_marry wsX3_marry ({ frames := 3, cells := 0, slots := 0, locals := 68 }) D [(cI, .int), (cZ, .boolean)] [.ref (q 0), .int (zI a), .int (zI b)] (wM cI cZ q pa sp al co da mo st mr th n td wn) (wM cI cZ q pa sp al co da mo st mr 3 n td wn) (some (.int (zI 0))) (zLM q) := by
  refine Met.ofW (cc := cX3_marry) (maxL := 4) (ret := (some .int)) (by decide) rfl ?_
  intro p0 e9 s9 m9 ag9 below meth c9 s₁ B hml hv
  obtain ⟨hav, hP, hK⟩ := hv
  have hx := B.exec
  have hb := B.bytes
  have hr := B.returns
  have hts := atoms_spec (ws := wsX3_marry) B.pre
  have hown : s9.vm.findClass RX3 = some m9.cls := findClass_of_methodNamed B.named
  have hlocks := B.notSynchronized
  have hA : ∀ a ∈ zLM q, (fun a => a ∈ zLM q) a := fun _ h => h
  have hin3 : ∀ w ∈ u_ws RX3 TX3 12, w ∈ wsX3_marry := by decide +kernel
  have hl := lv_entry ([.ref (q 0), .int (zI a), .int (zI b)]) (n := 4) (Nat.le_of_ble_eq_true rfl)
  have hE : entryFrame m9 ag9 4 = F0 m9 0 ((lg_sl ([.ref (q 0), .int (zI a), .int (zI b)]) ++ List.replicate (4 - (lg_sl ([.ref (q 0), .int (zI a), .int (zI b)])).length) Slot.unset).toArray) [] := by rw [hav]; exact lg_entry_eq m9 _ _
  obtain ⟨Q0, hQ0⟩ : ∃ Q0, Q0 = MQ below (zQ D (wM cI cZ q pa sp al co da mo st mr 3 n td wn) (some (.int (zI 0))) (zLM q)) ag9 s9 0 0 (fun a => a ∈ zLM q) := ⟨_, rfl⟩
  show W p0 l e9 ({ frames := 3, cells := 0, slots := 0, locals := 68 }) s9 m9 ag9 below meth c9 s9.heap [] 0 0 (MQ below (zQ D (wM cI cZ q pa sp al co da mo st mr 3 n td wn) (some (.int (zI 0))) (zLM q)) ag9 s9 0 0 (fun a => a ∈ zLM q)) _
  rw [hE, ← hQ0]
  have hS : va_S (fun a => a ∈ zLM q) s9.heap s9.heap [] := va_S.rf
  generalize hH0 : s9.heap = H at hP ⊢
  have hS : va_S (fun a => a ∈ zLM q) s9.heap H [] := by rw [hH0] at hS ⊢; exact hS
  generalize (lg_sl ([.ref (q 0), .int (zI a), .int (zI b)]) ++ List.replicate (4 - (lg_sl ([.ref (q 0), .int (zI a), .int (zI b)])).length) Slot.unset).toArray = ls at hl ⊢
  have hl : lv_has ls 4 [(0, .ref (q 0)), (1, .int (zI a)), (2, .int (zI b))] := hl
  refine lv_aload_n hx hb dX3_marry_0 rfl (lv_at hl 0 rfl) ?_
  refine zr_iconst hx hb dX3_marry_1 ?_
  refine va_put (D := D) (ci := 3) (v := .int (zI 0)) (ty := .int) (C := RX3) (T := TX3) (N := 12) hx hb hts hin3 tyX3 tyX3_ok nmX3 hown hK hP (zD hN rfl hA) hS 0 rfl rfl 0 (by decide) (hts (.fieldLink RX3 35 "MourningRibbonsModel" "thrown" "I") (by decide +kernel)) (fun _ h9 => h9) rfl (by decide +kernel) rfl rfl (Nat.le_of_ble_eq_true rfl) dX3_marry_2 (fun H locs hP _ hS => ?_)
  have hP : va_P D vwCl (wM cI cZ q pa sp al co da mo st mr 0 n td wn) H := hP
  refine lv_aload_n hx hb dX3_marry_5 rfl (lv_at hl 0 rfl) ?_
  refine lv_iload_n hx hb dX3_marry_6 rfl (lv_at hl 1 rfl) ?_
  refine zcallV (ci := 3) (q0 := 0) (cq := (RX3, TX3, 12)) (As := [.int (zI a)]) (rest := []) ⟨hx, hb, hml, hown, hts⟩ hK (kX3_isPerson l D cI cZ q hN pa sp al co da mo st mr 0 n td wn hn a (by omega)) (cwV 1 hts gX3_marry_X3_isPerson rfl rfl rfl (by decide +kernel) ⟨Nat.le_of_ble_eq_true rfl, Nat.le_of_ble_eq_true rfl⟩) hP hS hA rfl rfl rfl hl.1 rfl (Nat.le_of_ble_eq_true rfl) dX3_marry_7 ⟨Nat.zero_le _, Nat.zero_le _⟩ (fun H locs hP hS _ _ => ?_)
  refine W.eq (g2 := F0 m9 10 ls [.int (zI (bI (0 ≤ a ∧ a ≤ (n : Int) - 1)))]) rfl ?_
  refine zr_if_eq (tgt := 21) hx hb dX3_marry_10 (by decide) (bI_rg _) (fun c_1 => ?_) (fun c_1 => ?_)
  · have c_1 := bI_z c_1
    refine lv_aload_n hx hb dX3_marry_21 rfl (lv_at hl 0 rfl) ?_
    refine zr_iconst hx hb dX3_marry_22 ?_
    exfalso; omega
  · have c_1 := bI_n c_1
    refine lv_aload_n hx hb dX3_marry_13 rfl (lv_at hl 0 rfl) ?_
    refine lv_iload_n hx hb dX3_marry_14 rfl (lv_at hl 2 rfl) ?_
    refine zcallV (ci := 3) (q0 := 0) (cq := (RX3, TX3, 12)) (As := [.int (zI b)]) (rest := []) ⟨hx, hb, hml, hown, hts⟩ hK (kX3_isPerson l D cI cZ q hN pa sp al co da mo st mr 0 n td wn hn b (by omega)) (cwV 1 hts gX3_marry_X3_isPerson rfl rfl rfl (by decide +kernel) ⟨Nat.le_of_ble_eq_true rfl, Nat.le_of_ble_eq_true rfl⟩) hP hS hA rfl rfl rfl hl.1 rfl (Nat.le_of_ble_eq_true rfl) dX3_marry_15 ⟨Nat.zero_le _, Nat.zero_le _⟩ (fun H locs hP hS _ _ => ?_)
    refine W.eq (g2 := F0 m9 18 ls [.int (zI (bI (0 ≤ b ∧ b ≤ (n : Int) - 1)))]) rfl ?_
    refine zr_if_ne (tgt := 27) hx hb dX3_marry_18 (by decide) (bI_rg _) (fun c_2 => ?_) (fun c_2 => ?_)
    · have c_2 := bI_n c_2
      refine lv_iload_n hx hb dX3_marry_27 rfl (lv_at hl 1 rfl) ?_
      refine lv_iload_n hx hb dX3_marry_28 rfl (lv_at hl 2 rfl) ?_
      refine zr_icmp_ne (tgt := 38) hx hb dX3_marry_29 (by decide) ⟨by omega, by omega⟩ ⟨by omega, by omega⟩ (fun c_3 => ?_) (fun c_3 => ?_)
      · have c_3 := c_3
        refine lv_aload_n hx hb dX3_marry_38 rfl (lv_at hl 0 rfl) ?_
        refine lv_iload_n hx hb dX3_marry_39 rfl (lv_at hl 1 rfl) ?_
        refine zcallV (ci := 3) (q0 := 0) (cq := (RX3, TX3, 12)) (As := [.int (zI a)]) (rest := []) ⟨hx, hb, hml, hown, hts⟩ hK (kX3_canMarry l D cI cZ q hN pa sp al co da mo st mr 0 n td wn hsp hal a (by omega)) (cwV 1 hts gX3_marry_X3_canMarry rfl rfl rfl (by decide +kernel) ⟨Nat.le_of_ble_eq_true rfl, Nat.le_of_ble_eq_true rfl⟩) hP hS hA rfl rfl rfl hl.1 rfl (Nat.le_of_ble_eq_true rfl) dX3_marry_40 ⟨Nat.zero_le _, Nat.zero_le _⟩ (fun H locs hP hS _ _ => ?_)
        refine W.eq (g2 := F0 m9 43 ls [.int (zI (bI (al a ≠ 0 ∧ (sp a = -1 ∨ al (sp a) = 0))))]) rfl ?_
        refine zr_if_eq (tgt := 54) hx hb dX3_marry_43 (by decide) (bI_rg _) (fun c_4 => ?_) (fun c_4 => ?_)
        · have c_4 := bI_z c_4
          refine lv_aload_n hx hb dX3_marry_54 rfl (lv_at hl 0 rfl) ?_
          refine zr_iconst hx hb dX3_marry_55 ?_
          refine zcallV (ci := 3) (q0 := 0) (cq := (RX3, TX3, 12)) (As := [.int (zI 3)]) (rest := []) ⟨hx, hb, hml, hown, hts⟩ hK (kX3_no l D cI cZ q hN pa sp al co da mo st mr 0 n td wn 3) (cwV 1 hts gX3_marry_X3_no rfl rfl rfl (by decide +kernel) ⟨Nat.le_of_ble_eq_true rfl, Nat.le_of_ble_eq_true rfl⟩) hP hS hA rfl rfl rfl hl.1 rfl (Nat.le_of_ble_eq_true rfl) dX3_marry_56 ⟨Nat.zero_le _, Nat.zero_le _⟩ (fun H locs hP hS _ _ => ?_)
          refine W.eq (g2 := F0 m9 59 ls [.int (zI 0)]) rfl ?_
          rw [hQ0]
          exact zret_i hx hb hr hlocks (rfl) hP hS dX3_marry_59
        · have c_4 := bI_n c_4
          refine lv_aload_n hx hb dX3_marry_46 rfl (lv_at hl 0 rfl) ?_
          refine lv_iload_n hx hb dX3_marry_47 rfl (lv_at hl 2 rfl) ?_
          refine zcallV (ci := 3) (q0 := 0) (cq := (RX3, TX3, 12)) (As := [.int (zI b)]) (rest := []) ⟨hx, hb, hml, hown, hts⟩ hK (kX3_canMarry l D cI cZ q hN pa sp al co da mo st mr 0 n td wn hsp hal b (by omega)) (cwV 1 hts gX3_marry_X3_canMarry rfl rfl rfl (by decide +kernel) ⟨Nat.le_of_ble_eq_true rfl, Nat.le_of_ble_eq_true rfl⟩) hP hS hA rfl rfl rfl hl.1 rfl (Nat.le_of_ble_eq_true rfl) dX3_marry_48 ⟨Nat.zero_le _, Nat.zero_le _⟩ (fun H locs hP hS _ _ => ?_)
          refine W.eq (g2 := F0 m9 51 ls [.int (zI (bI (al b ≠ 0 ∧ (sp b = -1 ∨ al (sp b) = 0))))]) rfl ?_
          refine zr_if_ne (tgt := 60) hx hb dX3_marry_51 (by decide) (bI_rg _) (fun c_5 => ?_) (fun c_5 => ?_)
          · have c_5 := bI_n c_5
            exfalso; omega
          · have c_5 := bI_z c_5
            refine lv_aload_n hx hb dX3_marry_54 rfl (lv_at hl 0 rfl) ?_
            refine zr_iconst hx hb dX3_marry_55 ?_
            refine zcallV (ci := 3) (q0 := 0) (cq := (RX3, TX3, 12)) (As := [.int (zI 3)]) (rest := []) ⟨hx, hb, hml, hown, hts⟩ hK (kX3_no l D cI cZ q hN pa sp al co da mo st mr 0 n td wn 3) (cwV 1 hts gX3_marry_X3_no rfl rfl rfl (by decide +kernel) ⟨Nat.le_of_ble_eq_true rfl, Nat.le_of_ble_eq_true rfl⟩) hP hS hA rfl rfl rfl hl.1 rfl (Nat.le_of_ble_eq_true rfl) dX3_marry_56 ⟨Nat.zero_le _, Nat.zero_le _⟩ (fun H locs hP hS _ _ => ?_)
            refine W.eq (g2 := F0 m9 59 ls [.int (zI 0)]) rfl ?_
            rw [hQ0]
            exact zret_i hx hb hr hlocks (rfl) hP hS dX3_marry_59
      · have c_3 := c_3
        refine lv_aload_n hx hb dX3_marry_32 rfl (lv_at hl 0 rfl) ?_
        refine zr_iconst hx hb dX3_marry_33 ?_
        exfalso; omega
    · have c_2 := bI_z c_2
      refine lv_aload_n hx hb dX3_marry_21 rfl (lv_at hl 0 rfl) ?_
      refine zr_iconst hx hb dX3_marry_22 ?_
      exfalso; omega
set_option maxHeartbeats 4000000 in
set_option maxRecDepth 100000 in
theorem kX3_setStageok (l : Launch) (D : va_G) (cI cZ : ClassId) (q : Nat → Nat) (hN : (zLM q).Nodup) (pa : Int → Int) (sp : Int → Int) (al : Int → Int) (co : Int → Int) (da : Int → Int) (mo : Int → Int) (st : Int → Int) (mr : Int → Int) (th : Int) (n : Nat) (td : Int) (wn : Int) (hda : ∀ j : Int, 0 ≤ da j ∧ da j ≤ 60) (g : Int) (s : Int) (c : Int) (k : Int) (h8 : -2147483648 ≤ g ∧ g ≤ 2147483647) (h9 : -2147483648 ≤ s ∧ s ≤ 2147483647) (h1 : 1 ≤ g ∧ g ≤ 4) (h2 : 0 ≤ s ∧ s ≤ 2) (h3 : 0 ≤ c ∧ c ≤ 5) (h4 : 0 ≤ k ∧ k ≤ 60) : zM l yX3_setStage wsX3_setStage ({ frames := 2, cells := 0, slots := 0, locals := 42 }) D [(cI, .int), (cZ, .boolean)] [.ref (q 0), .int (zI g), .int (zI s), .int (zI c), .int (zI k)] (wM cI cZ q pa sp al co da mo st mr th n td wn) (wM cI cZ q pa sp al (up co (3 * (g - 1) + s) c) (up da (3 * (g - 1) + s) k) mo st mr 0 n td wn) (some (.int (zI (lenM (up da (3 * (g - 1) + s) k) g)))) (zLM q) := by
  refine Met.ofW (cc := cX3_setStage) (maxL := 5) (ret := (some .int)) (by decide) rfl ?_
  intro p0 e9 s9 m9 ag9 below meth c9 s₁ B hml hv
  obtain ⟨hav, hP, hK⟩ := hv
  have hx := B.exec
  have hb := B.bytes
  have hr := B.returns
  have hts := atoms_spec (ws := wsX3_setStage) B.pre
  have hown : s9.vm.findClass RX3 = some m9.cls := findClass_of_methodNamed B.named
  have hlocks := B.notSynchronized
  have hA : ∀ a ∈ zLM q, (fun a => a ∈ zLM q) a := fun _ h => h
  have hin3 : ∀ w ∈ u_ws RX3 TX3 12, w ∈ wsX3_setStage := by decide +kernel
  have hl := lv_entry ([.ref (q 0), .int (zI g), .int (zI s), .int (zI c), .int (zI k)]) (n := 5) (Nat.le_of_ble_eq_true rfl)
  have hE : entryFrame m9 ag9 5 = F0 m9 0 ((lg_sl ([.ref (q 0), .int (zI g), .int (zI s), .int (zI c), .int (zI k)]) ++ List.replicate (5 - (lg_sl ([.ref (q 0), .int (zI g), .int (zI s), .int (zI c), .int (zI k)])).length) Slot.unset).toArray) [] := by rw [hav]; exact lg_entry_eq m9 _ _
  obtain ⟨Q0, hQ0⟩ : ∃ Q0, Q0 = MQ below (zQ D (wM cI cZ q pa sp al (up co (3 * (g - 1) + s) c) (up da (3 * (g - 1) + s) k) mo st mr 0 n td wn) (some (.int (zI (lenM (up da (3 * (g - 1) + s) k) g)))) (zLM q)) ag9 s9 0 0 (fun a => a ∈ zLM q) := ⟨_, rfl⟩
  show W p0 l e9 ({ frames := 2, cells := 0, slots := 0, locals := 42 }) s9 m9 ag9 below meth c9 s9.heap [] 0 0 (MQ below (zQ D (wM cI cZ q pa sp al (up co (3 * (g - 1) + s) c) (up da (3 * (g - 1) + s) k) mo st mr 0 n td wn) (some (.int (zI (lenM (up da (3 * (g - 1) + s) k) g)))) (zLM q)) ag9 s9 0 0 (fun a => a ∈ zLM q)) _
  rw [hE, ← hQ0]
  have hS : va_S (fun a => a ∈ zLM q) s9.heap s9.heap [] := va_S.rf
  generalize hH0 : s9.heap = H at hP ⊢
  have hS : va_S (fun a => a ∈ zLM q) s9.heap H [] := by rw [hH0] at hS ⊢; exact hS
  generalize (lg_sl ([.ref (q 0), .int (zI g), .int (zI s), .int (zI c), .int (zI k)]) ++ List.replicate (5 - (lg_sl ([.ref (q 0), .int (zI g), .int (zI s), .int (zI c), .int (zI k)])).length) Slot.unset).toArray = ls at hl ⊢
  have hl : lv_has ls 5 [(0, .ref (q 0)), (1, .int (zI g)), (2, .int (zI s)), (3, .int (zI c)), (4, .int (zI k))] := hl
  refine lv_aload_n hx hb dX3_setStage_0 rfl (lv_at hl 0 rfl) ?_
  refine zr_iconst hx hb dX3_setStage_1 ?_
  refine va_put (D := D) (ci := 3) (v := .int (zI 0)) (ty := .int) (C := RX3) (T := TX3) (N := 12) hx hb hts hin3 tyX3 tyX3_ok nmX3 hown hK hP (zD hN rfl hA) hS 0 rfl rfl 0 (by decide) (hts (.fieldLink RX3 35 "MourningRibbonsModel" "thrown" "I") (by decide +kernel)) (fun _ h9 => h9) rfl (by decide +kernel) rfl rfl (Nat.le_of_ble_eq_true rfl) dX3_setStage_2 (fun H locs hP _ hS => ?_)
  have hP : va_P D vwCl (wM cI cZ q pa sp al co da mo st mr 0 n td wn) H := hP
  refine lv_iload_n hx hb dX3_setStage_5 rfl (lv_at hl 1 rfl) ?_
  refine zcallP (As := [.int (zI g)]) (rest := []) ⟨hx, hb, hml, hown, hts⟩ (kX3_isDegree l D g (by omega)) hK (va_cwS 1 hts gX3_setStage_X3_isDegree rfl rfl rfl (by decide +kernel) ⟨Nat.le_of_ble_eq_true rfl, Nat.le_of_ble_eq_true rfl⟩) hP hS rfl hl.1 rfl (Nat.le_of_ble_eq_true rfl) dX3_setStage_6 ⟨Nat.zero_le _, Nat.zero_le _⟩ (fun H locs hP hS => ?_)
  refine W.eq (g2 := F0 m9 9 ls [.int (zI (bI (1 ≤ g ∧ g ≤ 4)))]) rfl ?_
  refine zr_if_eq (tgt := 19) hx hb dX3_setStage_9 (by decide) (bI_rg _) (fun c_1 => ?_) (fun c_1 => ?_)
  · have c_1 := bI_z c_1
    refine lv_aload_n hx hb dX3_setStage_19 rfl (lv_at hl 0 rfl) ?_
    refine zr_iconst hx hb dX3_setStage_20 ?_
    exfalso; omega
  · have c_1 := bI_n c_1
    refine lv_iload_n hx hb dX3_setStage_12 rfl (lv_at hl 2 rfl) ?_
    refine zcallP (As := [.int (zI s)]) (rest := []) ⟨hx, hb, hml, hown, hts⟩ (kX3_isStage l D s (by omega)) hK (va_cwS 1 hts gX3_setStage_X3_isStage rfl rfl rfl (by decide +kernel) ⟨Nat.le_of_ble_eq_true rfl, Nat.le_of_ble_eq_true rfl⟩) hP hS rfl hl.1 rfl (Nat.le_of_ble_eq_true rfl) dX3_setStage_13 ⟨Nat.zero_le _, Nat.zero_le _⟩ (fun H locs hP hS => ?_)
    refine W.eq (g2 := F0 m9 16 ls [.int (zI (bI (0 ≤ s ∧ s ≤ 2)))]) rfl ?_
    refine zr_if_ne (tgt := 25) hx hb dX3_setStage_16 (by decide) (bI_rg _) (fun c_2 => ?_) (fun c_2 => ?_)
    · have c_2 := bI_n c_2
      refine lv_iload_n hx hb dX3_setStage_25 rfl (lv_at hl 3 rfl) ?_
      refine zr_iconst hx hb dX3_setStage_26 ?_
      refine zr_iconst hx hb dX3_setStage_27 ?_
      refine zcallP (As := [.int (zI c), .int (zI 0), .int (zI 5)]) (rest := []) ⟨hx, hb, hml, hown, hts⟩ (kX3_isIn l D c 0 5 (by omega) (by omega) (by omega)) hK (va_cwS 3 hts gX3_setStage_X3_isIn rfl rfl rfl (by decide +kernel) ⟨Nat.le_of_ble_eq_true rfl, Nat.le_of_ble_eq_true rfl⟩) hP hS rfl hl.1 rfl (Nat.le_of_ble_eq_true rfl) dX3_setStage_28 ⟨Nat.zero_le _, Nat.zero_le _⟩ (fun H locs hP hS => ?_)
      refine W.eq (g2 := F0 m9 31 ls [.int (zI (bI (0 ≤ c ∧ c ≤ 5)))]) rfl ?_
      refine zr_if_eq (tgt := 45) hx hb dX3_setStage_31 (by decide) (bI_rg _) (fun c_3 => ?_) (fun c_3 => ?_)
      · have c_3 := bI_z c_3
        refine lv_aload_n hx hb dX3_setStage_45 rfl (lv_at hl 0 rfl) ?_
        refine zr_iconst hx hb dX3_setStage_46 ?_
        exfalso; omega
      · have c_3 := bI_n c_3
        refine lv_iload hx hb dX3_setStage_34 (lv_at hl 4 rfl) ?_
        refine zr_iconst hx hb dX3_setStage_36 ?_
        refine zr_bipush hx hb dX3_setStage_37 (by decide) ?_
        refine zcallP (As := [.int (zI k), .int (zI 0), .int (zI 60)]) (rest := []) ⟨hx, hb, hml, hown, hts⟩ (kX3_isIn l D k 0 60 (by omega) (by omega) (by omega)) hK (va_cwS 3 hts gX3_setStage_X3_isIn rfl rfl rfl (by decide +kernel) ⟨Nat.le_of_ble_eq_true rfl, Nat.le_of_ble_eq_true rfl⟩) hP hS rfl hl.1 rfl (Nat.le_of_ble_eq_true rfl) dX3_setStage_39 ⟨Nat.zero_le _, Nat.zero_le _⟩ (fun H locs hP hS => ?_)
        refine W.eq (g2 := F0 m9 42 ls [.int (zI (bI (0 ≤ k ∧ k ≤ 60)))]) rfl ?_
        refine zr_if_ne (tgt := 51) hx hb dX3_setStage_42 (by decide) (bI_rg _) (fun c_4 => ?_) (fun c_4 => ?_)
        · have c_4 := bI_n c_4
          refine lv_aload_n hx hb dX3_setStage_51 rfl (lv_at hl 0 rfl) ?_
          refine va_get (D := D) (ci := 3) (v := .ref (q 4)) (C := RX3) (T := TX3) (N := 12) hx hb hts hin3 hown hK hP 0 rfl rfl 5 (by decide) (hts (.fieldLink RX3 20 "MourningRibbonsModel" "colour" "[I") (by decide +kernel)) (fun _ h9 => h9) rfl dX3_setStage_52 ?_
          refine lv_iload_n hx hb dX3_setStage_55 rfl (lv_at hl 1 rfl) ?_
          refine lv_iload_n hx hb dX3_setStage_56 rfl (lv_at hl 2 rfl) ?_
          refine zcallP (As := [.int (zI g), .int (zI s)]) (rest := [.ref (q 4)]) ⟨hx, hb, hml, hown, hts⟩ (kX3_at l D g s) hK (va_cwS 2 hts gX3_setStage_X3_at rfl rfl rfl (by decide +kernel) ⟨Nat.le_of_ble_eq_true rfl, Nat.le_of_ble_eq_true rfl⟩) hP hS rfl hl.1 rfl (Nat.le_of_ble_eq_true rfl) dX3_setStage_57 ⟨Nat.zero_le _, Nat.zero_le _⟩ (fun H locs hP hS => ?_)
          refine W.eq (g2 := F0 m9 60 ls [.int (zI (3 * (g - 1) + s)), .ref (q 4)]) rfl ?_
          refine lv_iload_n hx hb dX3_setStage_60 rfl (lv_at hl 3 rfl) ?_
          refine zr_iast (f := co) (n := 12) hx hb hK hP hN rfl hA hS 4 0 rfl rfl (by decide) (i := 3 * (g - 1) + s) (x := c) (by omega) (by omega) dX3_setStage_61 (fun H locs hP hS => ?_)
          have hP : va_P D vwCl (wM cI cZ q pa sp al (up co (3 * (g - 1) + s) c) da mo st mr 0 n td wn) H := hP
          refine lv_aload_n hx hb dX3_setStage_62 rfl (lv_at hl 0 rfl) ?_
          refine va_get (D := D) (ci := 3) (v := .ref (q 5)) (C := RX3) (T := TX3) (N := 12) hx hb hts hin3 hown hK hP 0 rfl rfl 6 (by decide) (hts (.fieldLink RX3 23 "MourningRibbonsModel" "days" "[I") (by decide +kernel)) (fun _ h9 => h9) rfl dX3_setStage_63 ?_
          refine lv_iload_n hx hb dX3_setStage_66 rfl (lv_at hl 1 rfl) ?_
          refine lv_iload_n hx hb dX3_setStage_67 rfl (lv_at hl 2 rfl) ?_
          refine zcallP (As := [.int (zI g), .int (zI s)]) (rest := [.ref (q 5)]) ⟨hx, hb, hml, hown, hts⟩ (kX3_at l D g s) hK (va_cwS 2 hts gX3_setStage_X3_at rfl rfl rfl (by decide +kernel) ⟨Nat.le_of_ble_eq_true rfl, Nat.le_of_ble_eq_true rfl⟩) hP hS rfl hl.1 rfl (Nat.le_of_ble_eq_true rfl) dX3_setStage_68 ⟨Nat.zero_le _, Nat.zero_le _⟩ (fun H locs hP hS => ?_)
          refine W.eq (g2 := F0 m9 71 ls [.int (zI (3 * (g - 1) + s)), .ref (q 5)]) rfl ?_
          refine lv_iload hx hb dX3_setStage_71 (lv_at hl 4 rfl) ?_
          refine zr_iast (f := da) (n := 12) hx hb hK hP hN rfl hA hS 5 0 rfl rfl (by decide) (i := 3 * (g - 1) + s) (x := k) (by omega) (by omega) dX3_setStage_73 (fun H locs hP hS => ?_)
          have hP : va_P D vwCl (wM cI cZ q pa sp al (up co (3 * (g - 1) + s) c) (up da (3 * (g - 1) + s) k) mo st mr 0 n td wn) H := hP
          refine lv_aload_n hx hb dX3_setStage_74 rfl (lv_at hl 0 rfl) ?_
          refine lv_iload_n hx hb dX3_setStage_75 rfl (lv_at hl 1 rfl) ?_
          refine zcallV (ci := 3) (q0 := 0) (cq := (RX3, TX3, 12)) (As := [.int (zI g)]) (rest := []) ⟨hx, hb, hml, hown, hts⟩ hK (kX3_length l D cI cZ q hN pa sp al (up co (3 * (g - 1) + s) c) (up da (3 * (g - 1) + s) k) mo st mr 0 n td wn (up_bd hda h4) g (by omega)) (cwV 1 hts gX3_setStage_X3_length rfl rfl rfl (by decide +kernel) ⟨Nat.le_of_ble_eq_true rfl, Nat.le_of_ble_eq_true rfl⟩) hP hS hA rfl rfl rfl hl.1 rfl (Nat.le_of_ble_eq_true rfl) dX3_setStage_76 ⟨Nat.zero_le _, Nat.zero_le _⟩ (fun H locs hP hS _ _ => ?_)
          refine W.eq (g2 := F0 m9 79 ls [.int (zI (lenM (up da (3 * (g - 1) + s) k) g))]) rfl ?_
          have f_5 := lenM_bx (up da (3 * (g - 1) + s) k) (up_bd hda h4) g
          rw [hQ0]
          exact zret_i hx hb hr hlocks (rfl) hP hS dX3_setStage_79
        · have c_4 := bI_z c_4
          refine lv_aload_n hx hb dX3_setStage_45 rfl (lv_at hl 0 rfl) ?_
          refine zr_iconst hx hb dX3_setStage_46 ?_
          exfalso; omega
    · have c_2 := bI_z c_2
      refine lv_aload_n hx hb dX3_setStage_19 rfl (lv_at hl 0 rfl) ?_
      refine zr_iconst hx hb dX3_setStage_20 ?_
      exfalso; omega
set_option maxHeartbeats 4000000 in
set_option maxRecDepth 100000 in
theorem kX3_setStagee1 (l : Launch) (D : va_G) (cI cZ : ClassId) (q : Nat → Nat) (hN : (zLM q).Nodup) (pa : Int → Int) (sp : Int → Int) (al : Int → Int) (co : Int → Int) (da : Int → Int) (mo : Int → Int) (st : Int → Int) (mr : Int → Int) (th : Int) (n : Nat) (td : Int) (wn : Int) (g : Int) (s : Int) (c : Int) (k : Int) (h8 : -2147483648 ≤ g ∧ g ≤ 2147483647) (h9 : -2147483648 ≤ s ∧ s ≤ 2147483647) (h1 : ¬ ((1 ≤ g ∧ g ≤ 4) ∧ 0 ≤ s ∧ s ≤ 2)) : zM l yX3_setStage wsX3_setStage ({ frames := 2, cells := 0, slots := 0, locals := 42 }) D [(cI, .int), (cZ, .boolean)] [.ref (q 0), .int (zI g), .int (zI s), .int (zI c), .int (zI k)] (wM cI cZ q pa sp al co da mo st mr th n td wn) (wM cI cZ q pa sp al co da mo st mr 1 n td wn) (some (.int (zI 0))) (zLM q) := by
  refine Met.ofW (cc := cX3_setStage) (maxL := 5) (ret := (some .int)) (by decide) rfl ?_
  intro p0 e9 s9 m9 ag9 below meth c9 s₁ B hml hv
  obtain ⟨hav, hP, hK⟩ := hv
  have hx := B.exec
  have hb := B.bytes
  have hr := B.returns
  have hts := atoms_spec (ws := wsX3_setStage) B.pre
  have hown : s9.vm.findClass RX3 = some m9.cls := findClass_of_methodNamed B.named
  have hlocks := B.notSynchronized
  have hA : ∀ a ∈ zLM q, (fun a => a ∈ zLM q) a := fun _ h => h
  have hin3 : ∀ w ∈ u_ws RX3 TX3 12, w ∈ wsX3_setStage := by decide +kernel
  have hl := lv_entry ([.ref (q 0), .int (zI g), .int (zI s), .int (zI c), .int (zI k)]) (n := 5) (Nat.le_of_ble_eq_true rfl)
  have hE : entryFrame m9 ag9 5 = F0 m9 0 ((lg_sl ([.ref (q 0), .int (zI g), .int (zI s), .int (zI c), .int (zI k)]) ++ List.replicate (5 - (lg_sl ([.ref (q 0), .int (zI g), .int (zI s), .int (zI c), .int (zI k)])).length) Slot.unset).toArray) [] := by rw [hav]; exact lg_entry_eq m9 _ _
  obtain ⟨Q0, hQ0⟩ : ∃ Q0, Q0 = MQ below (zQ D (wM cI cZ q pa sp al co da mo st mr 1 n td wn) (some (.int (zI 0))) (zLM q)) ag9 s9 0 0 (fun a => a ∈ zLM q) := ⟨_, rfl⟩
  show W p0 l e9 ({ frames := 2, cells := 0, slots := 0, locals := 42 }) s9 m9 ag9 below meth c9 s9.heap [] 0 0 (MQ below (zQ D (wM cI cZ q pa sp al co da mo st mr 1 n td wn) (some (.int (zI 0))) (zLM q)) ag9 s9 0 0 (fun a => a ∈ zLM q)) _
  rw [hE, ← hQ0]
  have hS : va_S (fun a => a ∈ zLM q) s9.heap s9.heap [] := va_S.rf
  generalize hH0 : s9.heap = H at hP ⊢
  have hS : va_S (fun a => a ∈ zLM q) s9.heap H [] := by rw [hH0] at hS ⊢; exact hS
  generalize (lg_sl ([.ref (q 0), .int (zI g), .int (zI s), .int (zI c), .int (zI k)]) ++ List.replicate (5 - (lg_sl ([.ref (q 0), .int (zI g), .int (zI s), .int (zI c), .int (zI k)])).length) Slot.unset).toArray = ls at hl ⊢
  have hl : lv_has ls 5 [(0, .ref (q 0)), (1, .int (zI g)), (2, .int (zI s)), (3, .int (zI c)), (4, .int (zI k))] := hl
  refine lv_aload_n hx hb dX3_setStage_0 rfl (lv_at hl 0 rfl) ?_
  refine zr_iconst hx hb dX3_setStage_1 ?_
  refine va_put (D := D) (ci := 3) (v := .int (zI 0)) (ty := .int) (C := RX3) (T := TX3) (N := 12) hx hb hts hin3 tyX3 tyX3_ok nmX3 hown hK hP (zD hN rfl hA) hS 0 rfl rfl 0 (by decide) (hts (.fieldLink RX3 35 "MourningRibbonsModel" "thrown" "I") (by decide +kernel)) (fun _ h9 => h9) rfl (by decide +kernel) rfl rfl (Nat.le_of_ble_eq_true rfl) dX3_setStage_2 (fun H locs hP _ hS => ?_)
  have hP : va_P D vwCl (wM cI cZ q pa sp al co da mo st mr 0 n td wn) H := hP
  refine lv_iload_n hx hb dX3_setStage_5 rfl (lv_at hl 1 rfl) ?_
  refine zcallP (As := [.int (zI g)]) (rest := []) ⟨hx, hb, hml, hown, hts⟩ (kX3_isDegree l D g (by omega)) hK (va_cwS 1 hts gX3_setStage_X3_isDegree rfl rfl rfl (by decide +kernel) ⟨Nat.le_of_ble_eq_true rfl, Nat.le_of_ble_eq_true rfl⟩) hP hS rfl hl.1 rfl (Nat.le_of_ble_eq_true rfl) dX3_setStage_6 ⟨Nat.zero_le _, Nat.zero_le _⟩ (fun H locs hP hS => ?_)
  refine W.eq (g2 := F0 m9 9 ls [.int (zI (bI (1 ≤ g ∧ g ≤ 4)))]) rfl ?_
  refine zr_if_eq (tgt := 19) hx hb dX3_setStage_9 (by decide) (bI_rg _) (fun c_1 => ?_) (fun c_1 => ?_)
  · have c_1 := bI_z c_1
    refine lv_aload_n hx hb dX3_setStage_19 rfl (lv_at hl 0 rfl) ?_
    refine zr_iconst hx hb dX3_setStage_20 ?_
    refine zcallV (ci := 3) (q0 := 0) (cq := (RX3, TX3, 12)) (As := [.int (zI 1)]) (rest := []) ⟨hx, hb, hml, hown, hts⟩ hK (kX3_no l D cI cZ q hN pa sp al co da mo st mr 0 n td wn 1) (cwV 1 hts gX3_setStage_X3_no rfl rfl rfl (by decide +kernel) ⟨Nat.le_of_ble_eq_true rfl, Nat.le_of_ble_eq_true rfl⟩) hP hS hA rfl rfl rfl hl.1 rfl (Nat.le_of_ble_eq_true rfl) dX3_setStage_21 ⟨Nat.zero_le _, Nat.zero_le _⟩ (fun H locs hP hS _ _ => ?_)
    refine W.eq (g2 := F0 m9 24 ls [.int (zI 0)]) rfl ?_
    rw [hQ0]
    exact zret_i hx hb hr hlocks (rfl) hP hS dX3_setStage_24
  · have c_1 := bI_n c_1
    refine lv_iload_n hx hb dX3_setStage_12 rfl (lv_at hl 2 rfl) ?_
    refine zcallP (As := [.int (zI s)]) (rest := []) ⟨hx, hb, hml, hown, hts⟩ (kX3_isStage l D s (by omega)) hK (va_cwS 1 hts gX3_setStage_X3_isStage rfl rfl rfl (by decide +kernel) ⟨Nat.le_of_ble_eq_true rfl, Nat.le_of_ble_eq_true rfl⟩) hP hS rfl hl.1 rfl (Nat.le_of_ble_eq_true rfl) dX3_setStage_13 ⟨Nat.zero_le _, Nat.zero_le _⟩ (fun H locs hP hS => ?_)
    refine W.eq (g2 := F0 m9 16 ls [.int (zI (bI (0 ≤ s ∧ s ≤ 2)))]) rfl ?_
    refine zr_if_ne (tgt := 25) hx hb dX3_setStage_16 (by decide) (bI_rg _) (fun c_2 => ?_) (fun c_2 => ?_)
    · have c_2 := bI_n c_2
      exfalso; omega
    · have c_2 := bI_z c_2
      refine lv_aload_n hx hb dX3_setStage_19 rfl (lv_at hl 0 rfl) ?_
      refine zr_iconst hx hb dX3_setStage_20 ?_
      refine zcallV (ci := 3) (q0 := 0) (cq := (RX3, TX3, 12)) (As := [.int (zI 1)]) (rest := []) ⟨hx, hb, hml, hown, hts⟩ hK (kX3_no l D cI cZ q hN pa sp al co da mo st mr 0 n td wn 1) (cwV 1 hts gX3_setStage_X3_no rfl rfl rfl (by decide +kernel) ⟨Nat.le_of_ble_eq_true rfl, Nat.le_of_ble_eq_true rfl⟩) hP hS hA rfl rfl rfl hl.1 rfl (Nat.le_of_ble_eq_true rfl) dX3_setStage_21 ⟨Nat.zero_le _, Nat.zero_le _⟩ (fun H locs hP hS _ _ => ?_)
      refine W.eq (g2 := F0 m9 24 ls [.int (zI 0)]) rfl ?_
      rw [hQ0]
      exact zret_i hx hb hr hlocks (rfl) hP hS dX3_setStage_24
set_option maxHeartbeats 4000000 in
set_option maxRecDepth 100000 in
theorem kX3_setStagee2 (l : Launch) (D : va_G) (cI cZ : ClassId) (q : Nat → Nat) (hN : (zLM q).Nodup) (pa : Int → Int) (sp : Int → Int) (al : Int → Int) (co : Int → Int) (da : Int → Int) (mo : Int → Int) (st : Int → Int) (mr : Int → Int) (th : Int) (n : Nat) (td : Int) (wn : Int) (g : Int) (s : Int) (c : Int) (k : Int) (h8 : -2147483648 ≤ g ∧ g ≤ 2147483647) (h9 : -2147483648 ≤ s ∧ s ≤ 2147483647) (h1 : 1 ≤ g ∧ g ≤ 4) (h2 : 0 ≤ s ∧ s ≤ 2) (h6 : -2147483648 ≤ c ∧ c ≤ 2147483647) (h7 : -2147483648 ≤ k ∧ k ≤ 2147483647) (h3 : ¬ ((0 ≤ c ∧ c ≤ 5) ∧ 0 ≤ k ∧ k ≤ 60)) : zM l yX3_setStage wsX3_setStage ({ frames := 2, cells := 0, slots := 0, locals := 42 }) D [(cI, .int), (cZ, .boolean)] [.ref (q 0), .int (zI g), .int (zI s), .int (zI c), .int (zI k)] (wM cI cZ q pa sp al co da mo st mr th n td wn) (wM cI cZ q pa sp al co da mo st mr 2 n td wn) (some (.int (zI 0))) (zLM q) := by
  refine Met.ofW (cc := cX3_setStage) (maxL := 5) (ret := (some .int)) (by decide) rfl ?_
  intro p0 e9 s9 m9 ag9 below meth c9 s₁ B hml hv
  obtain ⟨hav, hP, hK⟩ := hv
  have hx := B.exec
  have hb := B.bytes
  have hr := B.returns
  have hts := atoms_spec (ws := wsX3_setStage) B.pre
  have hown : s9.vm.findClass RX3 = some m9.cls := findClass_of_methodNamed B.named
  have hlocks := B.notSynchronized
  have hA : ∀ a ∈ zLM q, (fun a => a ∈ zLM q) a := fun _ h => h
  have hin3 : ∀ w ∈ u_ws RX3 TX3 12, w ∈ wsX3_setStage := by decide +kernel
  have hl := lv_entry ([.ref (q 0), .int (zI g), .int (zI s), .int (zI c), .int (zI k)]) (n := 5) (Nat.le_of_ble_eq_true rfl)
  have hE : entryFrame m9 ag9 5 = F0 m9 0 ((lg_sl ([.ref (q 0), .int (zI g), .int (zI s), .int (zI c), .int (zI k)]) ++ List.replicate (5 - (lg_sl ([.ref (q 0), .int (zI g), .int (zI s), .int (zI c), .int (zI k)])).length) Slot.unset).toArray) [] := by rw [hav]; exact lg_entry_eq m9 _ _
  obtain ⟨Q0, hQ0⟩ : ∃ Q0, Q0 = MQ below (zQ D (wM cI cZ q pa sp al co da mo st mr 2 n td wn) (some (.int (zI 0))) (zLM q)) ag9 s9 0 0 (fun a => a ∈ zLM q) := ⟨_, rfl⟩
  show W p0 l e9 ({ frames := 2, cells := 0, slots := 0, locals := 42 }) s9 m9 ag9 below meth c9 s9.heap [] 0 0 (MQ below (zQ D (wM cI cZ q pa sp al co da mo st mr 2 n td wn) (some (.int (zI 0))) (zLM q)) ag9 s9 0 0 (fun a => a ∈ zLM q)) _
  rw [hE, ← hQ0]
  have hS : va_S (fun a => a ∈ zLM q) s9.heap s9.heap [] := va_S.rf
  generalize hH0 : s9.heap = H at hP ⊢
  have hS : va_S (fun a => a ∈ zLM q) s9.heap H [] := by rw [hH0] at hS ⊢; exact hS
  generalize (lg_sl ([.ref (q 0), .int (zI g), .int (zI s), .int (zI c), .int (zI k)]) ++ List.replicate (5 - (lg_sl ([.ref (q 0), .int (zI g), .int (zI s), .int (zI c), .int (zI k)])).length) Slot.unset).toArray = ls at hl ⊢
  have hl : lv_has ls 5 [(0, .ref (q 0)), (1, .int (zI g)), (2, .int (zI s)), (3, .int (zI c)), (4, .int (zI k))] := hl
  refine lv_aload_n hx hb dX3_setStage_0 rfl (lv_at hl 0 rfl) ?_
  refine zr_iconst hx hb dX3_setStage_1 ?_
  refine va_put (D := D) (ci := 3) (v := .int (zI 0)) (ty := .int) (C := RX3) (T := TX3) (N := 12) hx hb hts hin3 tyX3 tyX3_ok nmX3 hown hK hP (zD hN rfl hA) hS 0 rfl rfl 0 (by decide) (hts (.fieldLink RX3 35 "MourningRibbonsModel" "thrown" "I") (by decide +kernel)) (fun _ h9 => h9) rfl (by decide +kernel) rfl rfl (Nat.le_of_ble_eq_true rfl) dX3_setStage_2 (fun H locs hP _ hS => ?_)
  have hP : va_P D vwCl (wM cI cZ q pa sp al co da mo st mr 0 n td wn) H := hP
  refine lv_iload_n hx hb dX3_setStage_5 rfl (lv_at hl 1 rfl) ?_
  refine zcallP (As := [.int (zI g)]) (rest := []) ⟨hx, hb, hml, hown, hts⟩ (kX3_isDegree l D g (by omega)) hK (va_cwS 1 hts gX3_setStage_X3_isDegree rfl rfl rfl (by decide +kernel) ⟨Nat.le_of_ble_eq_true rfl, Nat.le_of_ble_eq_true rfl⟩) hP hS rfl hl.1 rfl (Nat.le_of_ble_eq_true rfl) dX3_setStage_6 ⟨Nat.zero_le _, Nat.zero_le _⟩ (fun H locs hP hS => ?_)
  refine W.eq (g2 := F0 m9 9 ls [.int (zI (bI (1 ≤ g ∧ g ≤ 4)))]) rfl ?_
  refine zr_if_eq (tgt := 19) hx hb dX3_setStage_9 (by decide) (bI_rg _) (fun c_1 => ?_) (fun c_1 => ?_)
  · have c_1 := bI_z c_1
    refine lv_aload_n hx hb dX3_setStage_19 rfl (lv_at hl 0 rfl) ?_
    refine zr_iconst hx hb dX3_setStage_20 ?_
    exfalso; omega
  · have c_1 := bI_n c_1
    refine lv_iload_n hx hb dX3_setStage_12 rfl (lv_at hl 2 rfl) ?_
    refine zcallP (As := [.int (zI s)]) (rest := []) ⟨hx, hb, hml, hown, hts⟩ (kX3_isStage l D s (by omega)) hK (va_cwS 1 hts gX3_setStage_X3_isStage rfl rfl rfl (by decide +kernel) ⟨Nat.le_of_ble_eq_true rfl, Nat.le_of_ble_eq_true rfl⟩) hP hS rfl hl.1 rfl (Nat.le_of_ble_eq_true rfl) dX3_setStage_13 ⟨Nat.zero_le _, Nat.zero_le _⟩ (fun H locs hP hS => ?_)
    refine W.eq (g2 := F0 m9 16 ls [.int (zI (bI (0 ≤ s ∧ s ≤ 2)))]) rfl ?_
    refine zr_if_ne (tgt := 25) hx hb dX3_setStage_16 (by decide) (bI_rg _) (fun c_2 => ?_) (fun c_2 => ?_)
    · have c_2 := bI_n c_2
      refine lv_iload_n hx hb dX3_setStage_25 rfl (lv_at hl 3 rfl) ?_
      refine zr_iconst hx hb dX3_setStage_26 ?_
      refine zr_iconst hx hb dX3_setStage_27 ?_
      refine zcallP (As := [.int (zI c), .int (zI 0), .int (zI 5)]) (rest := []) ⟨hx, hb, hml, hown, hts⟩ (kX3_isIn l D c 0 5 (by omega) (by omega) (by omega)) hK (va_cwS 3 hts gX3_setStage_X3_isIn rfl rfl rfl (by decide +kernel) ⟨Nat.le_of_ble_eq_true rfl, Nat.le_of_ble_eq_true rfl⟩) hP hS rfl hl.1 rfl (Nat.le_of_ble_eq_true rfl) dX3_setStage_28 ⟨Nat.zero_le _, Nat.zero_le _⟩ (fun H locs hP hS => ?_)
      refine W.eq (g2 := F0 m9 31 ls [.int (zI (bI (0 ≤ c ∧ c ≤ 5)))]) rfl ?_
      refine zr_if_eq (tgt := 45) hx hb dX3_setStage_31 (by decide) (bI_rg _) (fun c_3 => ?_) (fun c_3 => ?_)
      · have c_3 := bI_z c_3
        refine lv_aload_n hx hb dX3_setStage_45 rfl (lv_at hl 0 rfl) ?_
        refine zr_iconst hx hb dX3_setStage_46 ?_
        refine zcallV (ci := 3) (q0 := 0) (cq := (RX3, TX3, 12)) (As := [.int (zI 2)]) (rest := []) ⟨hx, hb, hml, hown, hts⟩ hK (kX3_no l D cI cZ q hN pa sp al co da mo st mr 0 n td wn 2) (cwV 1 hts gX3_setStage_X3_no rfl rfl rfl (by decide +kernel) ⟨Nat.le_of_ble_eq_true rfl, Nat.le_of_ble_eq_true rfl⟩) hP hS hA rfl rfl rfl hl.1 rfl (Nat.le_of_ble_eq_true rfl) dX3_setStage_47 ⟨Nat.zero_le _, Nat.zero_le _⟩ (fun H locs hP hS _ _ => ?_)
        refine W.eq (g2 := F0 m9 50 ls [.int (zI 0)]) rfl ?_
        rw [hQ0]
        exact zret_i hx hb hr hlocks (rfl) hP hS dX3_setStage_50
      · have c_3 := bI_n c_3
        refine lv_iload hx hb dX3_setStage_34 (lv_at hl 4 rfl) ?_
        refine zr_iconst hx hb dX3_setStage_36 ?_
        refine zr_bipush hx hb dX3_setStage_37 (by decide) ?_
        refine zcallP (As := [.int (zI k), .int (zI 0), .int (zI 60)]) (rest := []) ⟨hx, hb, hml, hown, hts⟩ (kX3_isIn l D k 0 60 (by omega) (by omega) (by omega)) hK (va_cwS 3 hts gX3_setStage_X3_isIn rfl rfl rfl (by decide +kernel) ⟨Nat.le_of_ble_eq_true rfl, Nat.le_of_ble_eq_true rfl⟩) hP hS rfl hl.1 rfl (Nat.le_of_ble_eq_true rfl) dX3_setStage_39 ⟨Nat.zero_le _, Nat.zero_le _⟩ (fun H locs hP hS => ?_)
        refine W.eq (g2 := F0 m9 42 ls [.int (zI (bI (0 ≤ k ∧ k ≤ 60)))]) rfl ?_
        refine zr_if_ne (tgt := 51) hx hb dX3_setStage_42 (by decide) (bI_rg _) (fun c_4 => ?_) (fun c_4 => ?_)
        · have c_4 := bI_n c_4
          exfalso; omega
        · have c_4 := bI_z c_4
          refine lv_aload_n hx hb dX3_setStage_45 rfl (lv_at hl 0 rfl) ?_
          refine zr_iconst hx hb dX3_setStage_46 ?_
          refine zcallV (ci := 3) (q0 := 0) (cq := (RX3, TX3, 12)) (As := [.int (zI 2)]) (rest := []) ⟨hx, hb, hml, hown, hts⟩ hK (kX3_no l D cI cZ q hN pa sp al co da mo st mr 0 n td wn 2) (cwV 1 hts gX3_setStage_X3_no rfl rfl rfl (by decide +kernel) ⟨Nat.le_of_ble_eq_true rfl, Nat.le_of_ble_eq_true rfl⟩) hP hS hA rfl rfl rfl hl.1 rfl (Nat.le_of_ble_eq_true rfl) dX3_setStage_47 ⟨Nat.zero_le _, Nat.zero_le _⟩ (fun H locs hP hS _ _ => ?_)
          refine W.eq (g2 := F0 m9 50 ls [.int (zI 0)]) rfl ?_
          rw [hQ0]
          exact zret_i hx hb hr hlocks (rfl) hP hS dX3_setStage_50
    · have c_2 := bI_z c_2
      refine lv_aload_n hx hb dX3_setStage_19 rfl (lv_at hl 0 rfl) ?_
      refine zr_iconst hx hb dX3_setStage_20 ?_
      exfalso; omega
set_option maxHeartbeats 4000000 in
set_option maxRecDepth 100000 in
theorem kX3_dieok (l : Launch) (D : va_G) (cI cZ : ClassId) (q : Nat → Nat) (hN : (zLM q).Nodup) (pa : Int → Int) (sp : Int → Int) (al : Int → Int) (co : Int → Int) (da : Int → Int) (mo : Int → Int) (st : Int → Int) (mr : Int → Int) (th : Int) (n : Nat) (td : Int) (wn : Int) (hpa : ∀ j : Int, -1 ≤ pa j ∧ pa j ≤ 15) (hsp : ∀ j : Int, -1 ≤ sp j ∧ sp j ≤ 15) (hal : ∀ j : Int, 0 ≤ al j ∧ al j ≤ 1) (hco : ∀ j : Int, 0 ≤ co j ∧ co j ≤ 5) (hda : ∀ j : Int, 0 ≤ da j ∧ da j ≤ 60) (hmo : ∀ j : Int, -1 ≤ mo j ∧ mo j ≤ 1000000) (hst : ∀ j : Int, -1 ≤ st j ∧ st j ≤ 4) (hn : n ≤ 16) (htd : 0 ≤ td ∧ td ≤ 1000000) (d : Int) (h0 : -2147483648 ≤ d ∧ d ≤ 2147483647) (h1 : 0 ≤ d ∧ d < (n : Int)) (h2 : al d ≠ 0) : zM l yX3_die wsX3_die ({ frames := 5, cells := 0, slots := 0, locals := 110 }) D [(cI, .int), (cZ, .boolean)] [.ref (q 0), .int (zI d)] (wM cI cZ q pa sp al co da mo st mr th n td wn) (wM cI cZ q pa sp (up al d 0) co da (enM (moF al (goF pa sp n st d) co da td d mo n) d 16) (goF pa sp n st d) mr 0 n td wn) (some (.int (zI (smF (imF al (goF pa sp n st d) da d) n)))) (zLM q) := by
  refine Met.ofW (cc := cX3_die) (maxL := 2) (ret := (some .int)) (by decide) rfl ?_
  intro p0 e9 s9 m9 ag9 below meth c9 s₁ B hml hv
  obtain ⟨hav, hP, hK⟩ := hv
  have hx := B.exec
  have hb := B.bytes
  have hr := B.returns
  have hts := atoms_spec (ws := wsX3_die) B.pre
  have hown : s9.vm.findClass RX3 = some m9.cls := findClass_of_methodNamed B.named
  have hlocks := B.notSynchronized
  have hA : ∀ a ∈ zLM q, (fun a => a ∈ zLM q) a := fun _ h => h
  have hin3 : ∀ w ∈ u_ws RX3 TX3 12, w ∈ wsX3_die := by decide +kernel
  have hl := lv_entry ([.ref (q 0), .int (zI d)]) (n := 2) (Nat.le_of_ble_eq_true rfl)
  have hE : entryFrame m9 ag9 2 = F0 m9 0 ((lg_sl ([.ref (q 0), .int (zI d)]) ++ List.replicate (2 - (lg_sl ([.ref (q 0), .int (zI d)])).length) Slot.unset).toArray) [] := by rw [hav]; exact lg_entry_eq m9 _ _
  obtain ⟨Q0, hQ0⟩ : ∃ Q0, Q0 = MQ below (zQ D (wM cI cZ q pa sp (up al d 0) co da (enM (moF al (goF pa sp n st d) co da td d mo n) d 16) (goF pa sp n st d) mr 0 n td wn) (some (.int (zI (smF (imF al (goF pa sp n st d) da d) n)))) (zLM q)) ag9 s9 0 0 (fun a => a ∈ zLM q) := ⟨_, rfl⟩
  show W p0 l e9 ({ frames := 5, cells := 0, slots := 0, locals := 110 }) s9 m9 ag9 below meth c9 s9.heap [] 0 0 (MQ below (zQ D (wM cI cZ q pa sp (up al d 0) co da (enM (moF al (goF pa sp n st d) co da td d mo n) d 16) (goF pa sp n st d) mr 0 n td wn) (some (.int (zI (smF (imF al (goF pa sp n st d) da d) n)))) (zLM q)) ag9 s9 0 0 (fun a => a ∈ zLM q)) _
  rw [hE, ← hQ0]
  have hS : va_S (fun a => a ∈ zLM q) s9.heap s9.heap [] := va_S.rf
  generalize hH0 : s9.heap = H at hP ⊢
  have hS : va_S (fun a => a ∈ zLM q) s9.heap H [] := by rw [hH0] at hS ⊢; exact hS
  generalize (lg_sl ([.ref (q 0), .int (zI d)]) ++ List.replicate (2 - (lg_sl ([.ref (q 0), .int (zI d)])).length) Slot.unset).toArray = ls at hl ⊢
  have hl : lv_has ls 2 [(0, .ref (q 0)), (1, .int (zI d))] := hl
  refine lv_aload_n hx hb dX3_die_0 rfl (lv_at hl 0 rfl) ?_
  refine zr_iconst hx hb dX3_die_1 ?_
  refine va_put (D := D) (ci := 3) (v := .int (zI 0)) (ty := .int) (C := RX3) (T := TX3) (N := 12) hx hb hts hin3 tyX3 tyX3_ok nmX3 hown hK hP (zD hN rfl hA) hS 0 rfl rfl 0 (by decide) (hts (.fieldLink RX3 35 "MourningRibbonsModel" "thrown" "I") (by decide +kernel)) (fun _ h9 => h9) rfl (by decide +kernel) rfl rfl (Nat.le_of_ble_eq_true rfl) dX3_die_2 (fun H locs hP _ hS => ?_)
  have hP : va_P D vwCl (wM cI cZ q pa sp al co da mo st mr 0 n td wn) H := hP
  refine lv_aload_n hx hb dX3_die_5 rfl (lv_at hl 0 rfl) ?_
  refine lv_iload_n hx hb dX3_die_6 rfl (lv_at hl 1 rfl) ?_
  refine zcallV (ci := 3) (q0 := 0) (cq := (RX3, TX3, 12)) (As := [.int (zI d)]) (rest := []) ⟨hx, hb, hml, hown, hts⟩ hK (kX3_isPerson l D cI cZ q hN pa sp al co da mo st mr 0 n td wn hn d (by omega)) (cwV 1 hts gX3_die_X3_isPerson rfl rfl rfl (by decide +kernel) ⟨Nat.le_of_ble_eq_true rfl, Nat.le_of_ble_eq_true rfl⟩) hP hS hA rfl rfl rfl hl.1 rfl (Nat.le_of_ble_eq_true rfl) dX3_die_7 ⟨Nat.zero_le _, Nat.zero_le _⟩ (fun H locs hP hS _ _ => ?_)
  refine W.eq (g2 := F0 m9 10 ls [.int (zI (bI (0 ≤ d ∧ d ≤ (n : Int) - 1)))]) rfl ?_
  refine zr_if_ne (tgt := 19) hx hb dX3_die_10 (by decide) (bI_rg _) (fun c_1 => ?_) (fun c_1 => ?_)
  · have c_1 := bI_n c_1
    refine lv_aload_n hx hb dX3_die_19 rfl (lv_at hl 0 rfl) ?_
    refine va_get (D := D) (ci := 3) (v := .ref (q 3)) (C := RX3) (T := TX3) (N := 12) hx hb hts hin3 hown hK hP 0 rfl rfl 4 (by decide) (hts (.fieldLink RX3 16 "MourningRibbonsModel" "isAlive" "[Z") (by decide +kernel)) (fun _ h9 => h9) rfl dX3_die_20 ?_
    refine lv_iload_n hx hb dX3_die_23 rfl (lv_at hl 1 rfl) ?_
    refine zr_zald (f := al) (n := 16) hx hb hK hP 3 1 rfl rfl (by decide) (i := d) (by omega) (by omega) dX3_die_24 ?_
    have b_2 := hal d
    refine zr_if_eq (tgt := 36) hx hb dX3_die_25 (by decide) ⟨by omega, by omega⟩ (fun c_3 => ?_) (fun c_3 => ?_)
    · have c_3 := c_3
      refine lv_aload_n hx hb dX3_die_36 rfl (lv_at hl 0 rfl) ?_
      refine zr_iconst hx hb dX3_die_37 ?_
      exfalso; omega
    · have c_3 := c_3
      refine lv_aload_n hx hb dX3_die_28 rfl (lv_at hl 0 rfl) ?_
      refine lv_iload_n hx hb dX3_die_29 rfl (lv_at hl 1 rfl) ?_
      refine zcallV (ci := 3) (q0 := 0) (cq := (RX3, TX3, 12)) (As := [.int (zI d)]) (rest := []) ⟨hx, hb, hml, hown, hts⟩ hK (kX3_lost l D cI cZ q hN pa sp al co da mo st mr 0 n td wn hpa hsp hal hco hda hmo hst hn htd d (by omega)) (cwV 1 hts gX3_die_X3_lost rfl rfl rfl (by decide +kernel) ⟨Nat.le_of_ble_eq_true rfl, Nat.le_of_ble_eq_true rfl⟩) hP hS hA rfl rfl rfl hl.1 rfl (Nat.le_of_ble_eq_true rfl) dX3_die_30 ⟨Nat.zero_le _, Nat.zero_le _⟩ (fun H locs hP hS _ _ => ?_)
      refine W.eq (g2 := F0 m9 33 ls [.int (zI (smF (imF al (goF pa sp n st d) da d) n))]) rfl ?_
      refine lv_goto (tgt := 41) hx hb dX3_die_33 (by decide) ?_
      rw [hQ0]
      exact zret_i hx hb hr hlocks (rfl) hP hS dX3_die_41
  · have c_1 := bI_z c_1
    refine lv_aload_n hx hb dX3_die_13 rfl (lv_at hl 0 rfl) ?_
    refine zr_iconst hx hb dX3_die_14 ?_
    exfalso; omega
set_option maxHeartbeats 4000000 in
set_option maxRecDepth 100000 in
theorem kX3_diee1 (l : Launch) (D : va_G) (cI cZ : ClassId) (q : Nat → Nat) (hN : (zLM q).Nodup) (pa : Int → Int) (sp : Int → Int) (al : Int → Int) (co : Int → Int) (da : Int → Int) (mo : Int → Int) (st : Int → Int) (mr : Int → Int) (th : Int) (n : Nat) (td : Int) (wn : Int) (hn : n ≤ 16) (d : Int) (h0 : -2147483648 ≤ d ∧ d ≤ 2147483647) (h1 : ¬ (0 ≤ d ∧ d < (n : Int))) : zM l yX3_die wsX3_die ({ frames := 5, cells := 0, slots := 0, locals := 110 }) D [(cI, .int), (cZ, .boolean)] [.ref (q 0), .int (zI d)] (wM cI cZ q pa sp al co da mo st mr th n td wn) (wM cI cZ q pa sp al co da mo st mr 1 n td wn) (some (.int (zI 0))) (zLM q) := by
  refine Met.ofW (cc := cX3_die) (maxL := 2) (ret := (some .int)) (by decide) rfl ?_
  intro p0 e9 s9 m9 ag9 below meth c9 s₁ B hml hv
  obtain ⟨hav, hP, hK⟩ := hv
  have hx := B.exec
  have hb := B.bytes
  have hr := B.returns
  have hts := atoms_spec (ws := wsX3_die) B.pre
  have hown : s9.vm.findClass RX3 = some m9.cls := findClass_of_methodNamed B.named
  have hlocks := B.notSynchronized
  have hA : ∀ a ∈ zLM q, (fun a => a ∈ zLM q) a := fun _ h => h
  have hin3 : ∀ w ∈ u_ws RX3 TX3 12, w ∈ wsX3_die := by decide +kernel
  have hl := lv_entry ([.ref (q 0), .int (zI d)]) (n := 2) (Nat.le_of_ble_eq_true rfl)
  have hE : entryFrame m9 ag9 2 = F0 m9 0 ((lg_sl ([.ref (q 0), .int (zI d)]) ++ List.replicate (2 - (lg_sl ([.ref (q 0), .int (zI d)])).length) Slot.unset).toArray) [] := by rw [hav]; exact lg_entry_eq m9 _ _
  obtain ⟨Q0, hQ0⟩ : ∃ Q0, Q0 = MQ below (zQ D (wM cI cZ q pa sp al co da mo st mr 1 n td wn) (some (.int (zI 0))) (zLM q)) ag9 s9 0 0 (fun a => a ∈ zLM q) := ⟨_, rfl⟩
  show W p0 l e9 ({ frames := 5, cells := 0, slots := 0, locals := 110 }) s9 m9 ag9 below meth c9 s9.heap [] 0 0 (MQ below (zQ D (wM cI cZ q pa sp al co da mo st mr 1 n td wn) (some (.int (zI 0))) (zLM q)) ag9 s9 0 0 (fun a => a ∈ zLM q)) _
  rw [hE, ← hQ0]
  have hS : va_S (fun a => a ∈ zLM q) s9.heap s9.heap [] := va_S.rf
  generalize hH0 : s9.heap = H at hP ⊢
  have hS : va_S (fun a => a ∈ zLM q) s9.heap H [] := by rw [hH0] at hS ⊢; exact hS
  generalize (lg_sl ([.ref (q 0), .int (zI d)]) ++ List.replicate (2 - (lg_sl ([.ref (q 0), .int (zI d)])).length) Slot.unset).toArray = ls at hl ⊢
  have hl : lv_has ls 2 [(0, .ref (q 0)), (1, .int (zI d))] := hl
  refine lv_aload_n hx hb dX3_die_0 rfl (lv_at hl 0 rfl) ?_
  refine zr_iconst hx hb dX3_die_1 ?_
  refine va_put (D := D) (ci := 3) (v := .int (zI 0)) (ty := .int) (C := RX3) (T := TX3) (N := 12) hx hb hts hin3 tyX3 tyX3_ok nmX3 hown hK hP (zD hN rfl hA) hS 0 rfl rfl 0 (by decide) (hts (.fieldLink RX3 35 "MourningRibbonsModel" "thrown" "I") (by decide +kernel)) (fun _ h9 => h9) rfl (by decide +kernel) rfl rfl (Nat.le_of_ble_eq_true rfl) dX3_die_2 (fun H locs hP _ hS => ?_)
  have hP : va_P D vwCl (wM cI cZ q pa sp al co da mo st mr 0 n td wn) H := hP
  refine lv_aload_n hx hb dX3_die_5 rfl (lv_at hl 0 rfl) ?_
  refine lv_iload_n hx hb dX3_die_6 rfl (lv_at hl 1 rfl) ?_
  refine zcallV (ci := 3) (q0 := 0) (cq := (RX3, TX3, 12)) (As := [.int (zI d)]) (rest := []) ⟨hx, hb, hml, hown, hts⟩ hK (kX3_isPerson l D cI cZ q hN pa sp al co da mo st mr 0 n td wn hn d (by omega)) (cwV 1 hts gX3_die_X3_isPerson rfl rfl rfl (by decide +kernel) ⟨Nat.le_of_ble_eq_true rfl, Nat.le_of_ble_eq_true rfl⟩) hP hS hA rfl rfl rfl hl.1 rfl (Nat.le_of_ble_eq_true rfl) dX3_die_7 ⟨Nat.zero_le _, Nat.zero_le _⟩ (fun H locs hP hS _ _ => ?_)
  refine W.eq (g2 := F0 m9 10 ls [.int (zI (bI (0 ≤ d ∧ d ≤ (n : Int) - 1)))]) rfl ?_
  refine zr_if_ne (tgt := 19) hx hb dX3_die_10 (by decide) (bI_rg _) (fun c_1 => ?_) (fun c_1 => ?_)
  · have c_1 := bI_n c_1
    exfalso; omega
  · have c_1 := bI_z c_1
    refine lv_aload_n hx hb dX3_die_13 rfl (lv_at hl 0 rfl) ?_
    refine zr_iconst hx hb dX3_die_14 ?_
    refine zcallV (ci := 3) (q0 := 0) (cq := (RX3, TX3, 12)) (As := [.int (zI 1)]) (rest := []) ⟨hx, hb, hml, hown, hts⟩ hK (kX3_no l D cI cZ q hN pa sp al co da mo st mr 0 n td wn 1) (cwV 1 hts gX3_die_X3_no rfl rfl rfl (by decide +kernel) ⟨Nat.le_of_ble_eq_true rfl, Nat.le_of_ble_eq_true rfl⟩) hP hS hA rfl rfl rfl hl.1 rfl (Nat.le_of_ble_eq_true rfl) dX3_die_15 ⟨Nat.zero_le _, Nat.zero_le _⟩ (fun H locs hP hS _ _ => ?_)
    refine W.eq (g2 := F0 m9 18 ls [.int (zI 0)]) rfl ?_
    rw [hQ0]
    exact zret_i hx hb hr hlocks (rfl) hP hS dX3_die_18
set_option maxHeartbeats 4000000 in
set_option maxRecDepth 100000 in
theorem kX3_diee2 (l : Launch) (D : va_G) (cI cZ : ClassId) (q : Nat → Nat) (hN : (zLM q).Nodup) (pa : Int → Int) (sp : Int → Int) (al : Int → Int) (co : Int → Int) (da : Int → Int) (mo : Int → Int) (st : Int → Int) (mr : Int → Int) (th : Int) (n : Nat) (td : Int) (wn : Int) (hn : n ≤ 16) (hal : ∀ j : Int, 0 ≤ al j ∧ al j ≤ 1) (d : Int) (h0 : -2147483648 ≤ d ∧ d ≤ 2147483647) (h1 : 0 ≤ d ∧ d < (n : Int)) (h2 : al d = 0) : zM l yX3_die wsX3_die ({ frames := 5, cells := 0, slots := 0, locals := 110 }) D [(cI, .int), (cZ, .boolean)] [.ref (q 0), .int (zI d)] (wM cI cZ q pa sp al co da mo st mr th n td wn) (wM cI cZ q pa sp al co da mo st mr 2 n td wn) (some (.int (zI 0))) (zLM q) := by
  refine Met.ofW (cc := cX3_die) (maxL := 2) (ret := (some .int)) (by decide) rfl ?_
  intro p0 e9 s9 m9 ag9 below meth c9 s₁ B hml hv
  obtain ⟨hav, hP, hK⟩ := hv
  have hx := B.exec
  have hb := B.bytes
  have hr := B.returns
  have hts := atoms_spec (ws := wsX3_die) B.pre
  have hown : s9.vm.findClass RX3 = some m9.cls := findClass_of_methodNamed B.named
  have hlocks := B.notSynchronized
  have hA : ∀ a ∈ zLM q, (fun a => a ∈ zLM q) a := fun _ h => h
  have hin3 : ∀ w ∈ u_ws RX3 TX3 12, w ∈ wsX3_die := by decide +kernel
  have hl := lv_entry ([.ref (q 0), .int (zI d)]) (n := 2) (Nat.le_of_ble_eq_true rfl)
  have hE : entryFrame m9 ag9 2 = F0 m9 0 ((lg_sl ([.ref (q 0), .int (zI d)]) ++ List.replicate (2 - (lg_sl ([.ref (q 0), .int (zI d)])).length) Slot.unset).toArray) [] := by rw [hav]; exact lg_entry_eq m9 _ _
  obtain ⟨Q0, hQ0⟩ : ∃ Q0, Q0 = MQ below (zQ D (wM cI cZ q pa sp al co da mo st mr 2 n td wn) (some (.int (zI 0))) (zLM q)) ag9 s9 0 0 (fun a => a ∈ zLM q) := ⟨_, rfl⟩
  show W p0 l e9 ({ frames := 5, cells := 0, slots := 0, locals := 110 }) s9 m9 ag9 below meth c9 s9.heap [] 0 0 (MQ below (zQ D (wM cI cZ q pa sp al co da mo st mr 2 n td wn) (some (.int (zI 0))) (zLM q)) ag9 s9 0 0 (fun a => a ∈ zLM q)) _
  rw [hE, ← hQ0]
  have hS : va_S (fun a => a ∈ zLM q) s9.heap s9.heap [] := va_S.rf
  generalize hH0 : s9.heap = H at hP ⊢
  have hS : va_S (fun a => a ∈ zLM q) s9.heap H [] := by rw [hH0] at hS ⊢; exact hS
  generalize (lg_sl ([.ref (q 0), .int (zI d)]) ++ List.replicate (2 - (lg_sl ([.ref (q 0), .int (zI d)])).length) Slot.unset).toArray = ls at hl ⊢
  have hl : lv_has ls 2 [(0, .ref (q 0)), (1, .int (zI d))] := hl
  refine lv_aload_n hx hb dX3_die_0 rfl (lv_at hl 0 rfl) ?_
  refine zr_iconst hx hb dX3_die_1 ?_
  refine va_put (D := D) (ci := 3) (v := .int (zI 0)) (ty := .int) (C := RX3) (T := TX3) (N := 12) hx hb hts hin3 tyX3 tyX3_ok nmX3 hown hK hP (zD hN rfl hA) hS 0 rfl rfl 0 (by decide) (hts (.fieldLink RX3 35 "MourningRibbonsModel" "thrown" "I") (by decide +kernel)) (fun _ h9 => h9) rfl (by decide +kernel) rfl rfl (Nat.le_of_ble_eq_true rfl) dX3_die_2 (fun H locs hP _ hS => ?_)
  have hP : va_P D vwCl (wM cI cZ q pa sp al co da mo st mr 0 n td wn) H := hP
  refine lv_aload_n hx hb dX3_die_5 rfl (lv_at hl 0 rfl) ?_
  refine lv_iload_n hx hb dX3_die_6 rfl (lv_at hl 1 rfl) ?_
  refine zcallV (ci := 3) (q0 := 0) (cq := (RX3, TX3, 12)) (As := [.int (zI d)]) (rest := []) ⟨hx, hb, hml, hown, hts⟩ hK (kX3_isPerson l D cI cZ q hN pa sp al co da mo st mr 0 n td wn hn d (by omega)) (cwV 1 hts gX3_die_X3_isPerson rfl rfl rfl (by decide +kernel) ⟨Nat.le_of_ble_eq_true rfl, Nat.le_of_ble_eq_true rfl⟩) hP hS hA rfl rfl rfl hl.1 rfl (Nat.le_of_ble_eq_true rfl) dX3_die_7 ⟨Nat.zero_le _, Nat.zero_le _⟩ (fun H locs hP hS _ _ => ?_)
  refine W.eq (g2 := F0 m9 10 ls [.int (zI (bI (0 ≤ d ∧ d ≤ (n : Int) - 1)))]) rfl ?_
  refine zr_if_ne (tgt := 19) hx hb dX3_die_10 (by decide) (bI_rg _) (fun c_1 => ?_) (fun c_1 => ?_)
  · have c_1 := bI_n c_1
    refine lv_aload_n hx hb dX3_die_19 rfl (lv_at hl 0 rfl) ?_
    refine va_get (D := D) (ci := 3) (v := .ref (q 3)) (C := RX3) (T := TX3) (N := 12) hx hb hts hin3 hown hK hP 0 rfl rfl 4 (by decide) (hts (.fieldLink RX3 16 "MourningRibbonsModel" "isAlive" "[Z") (by decide +kernel)) (fun _ h9 => h9) rfl dX3_die_20 ?_
    refine lv_iload_n hx hb dX3_die_23 rfl (lv_at hl 1 rfl) ?_
    refine zr_zald (f := al) (n := 16) hx hb hK hP 3 1 rfl rfl (by decide) (i := d) (by omega) (by omega) dX3_die_24 ?_
    have b_2 := hal d
    refine zr_if_eq (tgt := 36) hx hb dX3_die_25 (by decide) ⟨by omega, by omega⟩ (fun c_3 => ?_) (fun c_3 => ?_)
    · have c_3 := c_3
      refine lv_aload_n hx hb dX3_die_36 rfl (lv_at hl 0 rfl) ?_
      refine zr_iconst hx hb dX3_die_37 ?_
      refine zcallV (ci := 3) (q0 := 0) (cq := (RX3, TX3, 12)) (As := [.int (zI 2)]) (rest := []) ⟨hx, hb, hml, hown, hts⟩ hK (kX3_no l D cI cZ q hN pa sp al co da mo st mr 0 n td wn 2) (cwV 1 hts gX3_die_X3_no rfl rfl rfl (by decide +kernel) ⟨Nat.le_of_ble_eq_true rfl, Nat.le_of_ble_eq_true rfl⟩) hP hS hA rfl rfl rfl hl.1 rfl (Nat.le_of_ble_eq_true rfl) dX3_die_38 ⟨Nat.zero_le _, Nat.zero_le _⟩ (fun H locs hP hS _ _ => ?_)
      refine W.eq (g2 := F0 m9 41 ls [.int (zI 0)]) rfl ?_
      rw [hQ0]
      exact zret_i hx hb hr hlocks (rfl) hP hS dX3_die_41
    · have c_3 := c_3
      refine lv_aload_n hx hb dX3_die_28 rfl (lv_at hl 0 rfl) ?_
      refine lv_iload_n hx hb dX3_die_29 rfl (lv_at hl 1 rfl) ?_
      exfalso; omega
  · have c_1 := bI_z c_1
    refine lv_aload_n hx hb dX3_die_13 rfl (lv_at hl 0 rfl) ?_
    refine zr_iconst hx hb dX3_die_14 ?_
    exfalso; omega
set_option maxHeartbeats 4000000 in
set_option maxRecDepth 100000 in
theorem kX3_releaseok (l : Launch) (D : va_G) (cI cZ : ClassId) (q : Nat → Nat) (hN : (zLM q).Nodup) (pa : Int → Int) (sp : Int → Int) (al : Int → Int) (co : Int → Int) (da : Int → Int) (mo : Int → Int) (st : Int → Int) (mr : Int → Int) (th : Int) (n : Nat) (td : Int) (wn : Int) (hn : n ≤ 16) (hmo : ∀ j : Int, -1 ≤ mo j ∧ mo j ≤ 1000000) (htd : 0 ≤ td ∧ td ≤ 1000000) (p : Int) (d : Int) (h8 : -2147483648 ≤ p ∧ p ≤ 2147483647) (h9 : -2147483648 ≤ d ∧ d ≤ 2147483647) (h1 : 0 ≤ p ∧ p < (n : Int)) (h2 : 0 ≤ d ∧ d < (n : Int)) (h3 : lM mo td p d ≠ 0) : zM l yX3_release wsX3_release ({ frames := 2, cells := 0, slots := 0, locals := 53 }) D [(cI, .int), (cZ, .boolean)] [.ref (q 0), .int (zI p), .int (zI d)] (wM cI cZ q pa sp al co da mo st mr th n td wn) (wM cI cZ q pa sp al co da (up mo (7 * (16 * p + d)) (-1)) st mr 0 n td wn) (some (.int (zI (lM mo td p d)))) (zLM q) := by
  refine Met.ofW (cc := cX3_release) (maxL := 4) (ret := (some .int)) (by decide) rfl ?_
  intro p0 e9 s9 m9 ag9 below meth c9 s₁ B hml hv
  obtain ⟨hav, hP, hK⟩ := hv
  have hx := B.exec
  have hb := B.bytes
  have hr := B.returns
  have hts := atoms_spec (ws := wsX3_release) B.pre
  have hown : s9.vm.findClass RX3 = some m9.cls := findClass_of_methodNamed B.named
  have hlocks := B.notSynchronized
  have hA : ∀ a ∈ zLM q, (fun a => a ∈ zLM q) a := fun _ h => h
  have hin3 : ∀ w ∈ u_ws RX3 TX3 12, w ∈ wsX3_release := by decide +kernel
  have hl := lv_entry ([.ref (q 0), .int (zI p), .int (zI d)]) (n := 4) (Nat.le_of_ble_eq_true rfl)
  have hE : entryFrame m9 ag9 4 = F0 m9 0 ((lg_sl ([.ref (q 0), .int (zI p), .int (zI d)]) ++ List.replicate (4 - (lg_sl ([.ref (q 0), .int (zI p), .int (zI d)])).length) Slot.unset).toArray) [] := by rw [hav]; exact lg_entry_eq m9 _ _
  obtain ⟨Q0, hQ0⟩ : ∃ Q0, Q0 = MQ below (zQ D (wM cI cZ q pa sp al co da (up mo (7 * (16 * p + d)) (-1)) st mr 0 n td wn) (some (.int (zI (lM mo td p d)))) (zLM q)) ag9 s9 0 0 (fun a => a ∈ zLM q) := ⟨_, rfl⟩
  show W p0 l e9 ({ frames := 2, cells := 0, slots := 0, locals := 53 }) s9 m9 ag9 below meth c9 s9.heap [] 0 0 (MQ below (zQ D (wM cI cZ q pa sp al co da (up mo (7 * (16 * p + d)) (-1)) st mr 0 n td wn) (some (.int (zI (lM mo td p d)))) (zLM q)) ag9 s9 0 0 (fun a => a ∈ zLM q)) _
  rw [hE, ← hQ0]
  have hS : va_S (fun a => a ∈ zLM q) s9.heap s9.heap [] := va_S.rf
  generalize hH0 : s9.heap = H at hP ⊢
  have hS : va_S (fun a => a ∈ zLM q) s9.heap H [] := by rw [hH0] at hS ⊢; exact hS
  generalize (lg_sl ([.ref (q 0), .int (zI p), .int (zI d)]) ++ List.replicate (4 - (lg_sl ([.ref (q 0), .int (zI p), .int (zI d)])).length) Slot.unset).toArray = ls at hl ⊢
  have hl : lv_has ls 4 [(0, .ref (q 0)), (1, .int (zI p)), (2, .int (zI d))] := hl
  refine lv_aload_n hx hb dX3_release_0 rfl (lv_at hl 0 rfl) ?_
  refine zr_iconst hx hb dX3_release_1 ?_
  refine va_put (D := D) (ci := 3) (v := .int (zI 0)) (ty := .int) (C := RX3) (T := TX3) (N := 12) hx hb hts hin3 tyX3 tyX3_ok nmX3 hown hK hP (zD hN rfl hA) hS 0 rfl rfl 0 (by decide) (hts (.fieldLink RX3 35 "MourningRibbonsModel" "thrown" "I") (by decide +kernel)) (fun _ h9 => h9) rfl (by decide +kernel) rfl rfl (Nat.le_of_ble_eq_true rfl) dX3_release_2 (fun H locs hP _ hS => ?_)
  have hP : va_P D vwCl (wM cI cZ q pa sp al co da mo st mr 0 n td wn) H := hP
  refine lv_aload_n hx hb dX3_release_5 rfl (lv_at hl 0 rfl) ?_
  refine lv_iload_n hx hb dX3_release_6 rfl (lv_at hl 1 rfl) ?_
  refine zcallV (ci := 3) (q0 := 0) (cq := (RX3, TX3, 12)) (As := [.int (zI p)]) (rest := []) ⟨hx, hb, hml, hown, hts⟩ hK (kX3_isPerson l D cI cZ q hN pa sp al co da mo st mr 0 n td wn hn p (by omega)) (cwV 1 hts gX3_release_X3_isPerson rfl rfl rfl (by decide +kernel) ⟨Nat.le_of_ble_eq_true rfl, Nat.le_of_ble_eq_true rfl⟩) hP hS hA rfl rfl rfl hl.1 rfl (Nat.le_of_ble_eq_true rfl) dX3_release_7 ⟨Nat.zero_le _, Nat.zero_le _⟩ (fun H locs hP hS _ _ => ?_)
  refine W.eq (g2 := F0 m9 10 ls [.int (zI (bI (0 ≤ p ∧ p ≤ (n : Int) - 1)))]) rfl ?_
  refine zr_if_eq (tgt := 21) hx hb dX3_release_10 (by decide) (bI_rg _) (fun c_1 => ?_) (fun c_1 => ?_)
  · have c_1 := bI_z c_1
    refine lv_aload_n hx hb dX3_release_21 rfl (lv_at hl 0 rfl) ?_
    refine zr_iconst hx hb dX3_release_22 ?_
    exfalso; omega
  · have c_1 := bI_n c_1
    refine lv_aload_n hx hb dX3_release_13 rfl (lv_at hl 0 rfl) ?_
    refine lv_iload_n hx hb dX3_release_14 rfl (lv_at hl 2 rfl) ?_
    refine zcallV (ci := 3) (q0 := 0) (cq := (RX3, TX3, 12)) (As := [.int (zI d)]) (rest := []) ⟨hx, hb, hml, hown, hts⟩ hK (kX3_isPerson l D cI cZ q hN pa sp al co da mo st mr 0 n td wn hn d (by omega)) (cwV 1 hts gX3_release_X3_isPerson rfl rfl rfl (by decide +kernel) ⟨Nat.le_of_ble_eq_true rfl, Nat.le_of_ble_eq_true rfl⟩) hP hS hA rfl rfl rfl hl.1 rfl (Nat.le_of_ble_eq_true rfl) dX3_release_15 ⟨Nat.zero_le _, Nat.zero_le _⟩ (fun H locs hP hS _ _ => ?_)
    refine W.eq (g2 := F0 m9 18 ls [.int (zI (bI (0 ≤ d ∧ d ≤ (n : Int) - 1)))]) rfl ?_
    refine zr_if_ne (tgt := 27) hx hb dX3_release_18 (by decide) (bI_rg _) (fun c_2 => ?_) (fun c_2 => ?_)
    · have c_2 := bI_n c_2
      refine lv_aload_n hx hb dX3_release_27 rfl (lv_at hl 0 rfl) ?_
      refine lv_iload_n hx hb dX3_release_28 rfl (lv_at hl 1 rfl) ?_
      refine lv_iload_n hx hb dX3_release_29 rfl (lv_at hl 2 rfl) ?_
      refine zcallV (ci := 3) (q0 := 0) (cq := (RX3, TX3, 12)) (As := [.int (zI p), .int (zI d)]) (rest := []) ⟨hx, hb, hml, hown, hts⟩ hK (kX3_left l D cI cZ q hN pa sp al co da mo st mr 0 n td wn hmo htd p d (by omega) (by omega)) (cwV 2 hts gX3_release_X3_left rfl rfl rfl (by decide +kernel) ⟨Nat.le_of_ble_eq_true rfl, Nat.le_of_ble_eq_true rfl⟩) hP hS hA rfl rfl rfl hl.1 rfl (Nat.le_of_ble_eq_true rfl) dX3_release_30 ⟨Nat.zero_le _, Nat.zero_le _⟩ (fun H locs hP hS _ _ => ?_)
      refine W.eq (g2 := F0 m9 33 ls [.int (zI (lM mo td p d))]) rfl ?_
      have f_3 := lM_bd hmo htd p d
      refine lv_istore_n (lv' := [(3, .int (zI (lM mo td p d))), (0, .ref (q 0)), (1, .int (zI p)), (2, .int (zI d))]) hx hb dX3_release_33 rfl hl (by decide) rfl (fun ls hl => ?_)
      refine lv_iload_n hx hb dX3_release_34 rfl (lv_at hl 0 rfl) ?_
      refine zr_if_ne (tgt := 44) hx hb dX3_release_35 (by decide) ⟨by omega, by omega⟩ (fun c_4 => ?_) (fun c_4 => ?_)
      · have c_4 := c_4
        refine lv_aload_n hx hb dX3_release_44 rfl (lv_at hl 1 rfl) ?_
        refine va_get (D := D) (ci := 3) (v := .ref (q 6)) (C := RX3) (T := TX3) (N := 12) hx hb hts hin3 hown hK hP 0 rfl rfl 7 (by decide) (hts (.fieldLink RX3 26 "MourningRibbonsModel" "mourning" "[I") (by decide +kernel)) (fun _ h9 => h9) rfl dX3_release_45 ?_
        refine lv_iload_n hx hb dX3_release_48 rfl (lv_at hl 2 rfl) ?_
        refine lv_iload_n hx hb dX3_release_49 rfl (lv_at hl 3 rfl) ?_
        refine zcallP (As := [.int (zI p), .int (zI d)]) (rest := [.ref (q 6)]) ⟨hx, hb, hml, hown, hts⟩ (kX3_row l D p d) hK (va_cwS 2 hts gX3_release_X3_row rfl rfl rfl (by decide +kernel) ⟨Nat.le_of_ble_eq_true rfl, Nat.le_of_ble_eq_true rfl⟩) hP hS rfl hl.1 rfl (Nat.le_of_ble_eq_true rfl) dX3_release_50 ⟨Nat.zero_le _, Nat.zero_le _⟩ (fun H locs hP hS => ?_)
        refine W.eq (g2 := F0 m9 53 ls [.int (zI (7 * (16 * p + d))), .ref (q 6)]) rfl ?_
        refine zr_iconst hx hb dX3_release_53 ?_
        refine zr_iast (f := mo) (n := 1792) hx hb hK hP hN rfl hA hS 6 0 rfl rfl (by decide) (i := 7 * (16 * p + d)) (x := (-1)) (by omega) (by omega) dX3_release_54 (fun H locs hP hS => ?_)
        have hP : va_P D vwCl (wM cI cZ q pa sp al co da (up mo (7 * (16 * p + d)) (-1)) st mr 0 n td wn) H := hP
        refine lv_iload_n hx hb dX3_release_55 rfl (lv_at hl 0 rfl) ?_
        rw [hQ0]
        exact zret_i hx hb hr hlocks (rfl) hP hS dX3_release_56
      · have c_4 := c_4
        refine lv_aload_n hx hb dX3_release_38 rfl (lv_at hl 1 rfl) ?_
        refine zr_iconst hx hb dX3_release_39 ?_
        exfalso; omega
    · have c_2 := bI_z c_2
      refine lv_aload_n hx hb dX3_release_21 rfl (lv_at hl 0 rfl) ?_
      refine zr_iconst hx hb dX3_release_22 ?_
      exfalso; omega
set_option maxHeartbeats 4000000 in
set_option maxRecDepth 100000 in
theorem kX3_releasee1 (l : Launch) (D : va_G) (cI cZ : ClassId) (q : Nat → Nat) (hN : (zLM q).Nodup) (pa : Int → Int) (sp : Int → Int) (al : Int → Int) (co : Int → Int) (da : Int → Int) (mo : Int → Int) (st : Int → Int) (mr : Int → Int) (th : Int) (n : Nat) (td : Int) (wn : Int) (hn : n ≤ 16) (p : Int) (d : Int) (h8 : -2147483648 ≤ p ∧ p ≤ 2147483647) (h9 : -2147483648 ≤ d ∧ d ≤ 2147483647) (h1 : ¬ (0 ≤ p ∧ p < (n : Int)) ∨ ¬ (0 ≤ d ∧ d < (n : Int))) : zM l yX3_release wsX3_release ({ frames := 2, cells := 0, slots := 0, locals := 53 }) D [(cI, .int), (cZ, .boolean)] [.ref (q 0), .int (zI p), .int (zI d)] (wM cI cZ q pa sp al co da mo st mr th n td wn) (wM cI cZ q pa sp al co da mo st mr 1 n td wn) (some (.int (zI 0))) (zLM q) := by
  refine Met.ofW (cc := cX3_release) (maxL := 4) (ret := (some .int)) (by decide) rfl ?_
  intro p0 e9 s9 m9 ag9 below meth c9 s₁ B hml hv
  obtain ⟨hav, hP, hK⟩ := hv
  have hx := B.exec
  have hb := B.bytes
  have hr := B.returns
  have hts := atoms_spec (ws := wsX3_release) B.pre
  have hown : s9.vm.findClass RX3 = some m9.cls := findClass_of_methodNamed B.named
  have hlocks := B.notSynchronized
  have hA : ∀ a ∈ zLM q, (fun a => a ∈ zLM q) a := fun _ h => h
  have hin3 : ∀ w ∈ u_ws RX3 TX3 12, w ∈ wsX3_release := by decide +kernel
  have hl := lv_entry ([.ref (q 0), .int (zI p), .int (zI d)]) (n := 4) (Nat.le_of_ble_eq_true rfl)
  have hE : entryFrame m9 ag9 4 = F0 m9 0 ((lg_sl ([.ref (q 0), .int (zI p), .int (zI d)]) ++ List.replicate (4 - (lg_sl ([.ref (q 0), .int (zI p), .int (zI d)])).length) Slot.unset).toArray) [] := by rw [hav]; exact lg_entry_eq m9 _ _
  obtain ⟨Q0, hQ0⟩ : ∃ Q0, Q0 = MQ below (zQ D (wM cI cZ q pa sp al co da mo st mr 1 n td wn) (some (.int (zI 0))) (zLM q)) ag9 s9 0 0 (fun a => a ∈ zLM q) := ⟨_, rfl⟩
  show W p0 l e9 ({ frames := 2, cells := 0, slots := 0, locals := 53 }) s9 m9 ag9 below meth c9 s9.heap [] 0 0 (MQ below (zQ D (wM cI cZ q pa sp al co da mo st mr 1 n td wn) (some (.int (zI 0))) (zLM q)) ag9 s9 0 0 (fun a => a ∈ zLM q)) _
  rw [hE, ← hQ0]
  have hS : va_S (fun a => a ∈ zLM q) s9.heap s9.heap [] := va_S.rf
  generalize hH0 : s9.heap = H at hP ⊢
  have hS : va_S (fun a => a ∈ zLM q) s9.heap H [] := by rw [hH0] at hS ⊢; exact hS
  generalize (lg_sl ([.ref (q 0), .int (zI p), .int (zI d)]) ++ List.replicate (4 - (lg_sl ([.ref (q 0), .int (zI p), .int (zI d)])).length) Slot.unset).toArray = ls at hl ⊢
  have hl : lv_has ls 4 [(0, .ref (q 0)), (1, .int (zI p)), (2, .int (zI d))] := hl
  refine lv_aload_n hx hb dX3_release_0 rfl (lv_at hl 0 rfl) ?_
  refine zr_iconst hx hb dX3_release_1 ?_
  refine va_put (D := D) (ci := 3) (v := .int (zI 0)) (ty := .int) (C := RX3) (T := TX3) (N := 12) hx hb hts hin3 tyX3 tyX3_ok nmX3 hown hK hP (zD hN rfl hA) hS 0 rfl rfl 0 (by decide) (hts (.fieldLink RX3 35 "MourningRibbonsModel" "thrown" "I") (by decide +kernel)) (fun _ h9 => h9) rfl (by decide +kernel) rfl rfl (Nat.le_of_ble_eq_true rfl) dX3_release_2 (fun H locs hP _ hS => ?_)
  have hP : va_P D vwCl (wM cI cZ q pa sp al co da mo st mr 0 n td wn) H := hP
  refine lv_aload_n hx hb dX3_release_5 rfl (lv_at hl 0 rfl) ?_
  refine lv_iload_n hx hb dX3_release_6 rfl (lv_at hl 1 rfl) ?_
  refine zcallV (ci := 3) (q0 := 0) (cq := (RX3, TX3, 12)) (As := [.int (zI p)]) (rest := []) ⟨hx, hb, hml, hown, hts⟩ hK (kX3_isPerson l D cI cZ q hN pa sp al co da mo st mr 0 n td wn hn p (by omega)) (cwV 1 hts gX3_release_X3_isPerson rfl rfl rfl (by decide +kernel) ⟨Nat.le_of_ble_eq_true rfl, Nat.le_of_ble_eq_true rfl⟩) hP hS hA rfl rfl rfl hl.1 rfl (Nat.le_of_ble_eq_true rfl) dX3_release_7 ⟨Nat.zero_le _, Nat.zero_le _⟩ (fun H locs hP hS _ _ => ?_)
  refine W.eq (g2 := F0 m9 10 ls [.int (zI (bI (0 ≤ p ∧ p ≤ (n : Int) - 1)))]) rfl ?_
  refine zr_if_eq (tgt := 21) hx hb dX3_release_10 (by decide) (bI_rg _) (fun c_1 => ?_) (fun c_1 => ?_)
  · have c_1 := bI_z c_1
    refine lv_aload_n hx hb dX3_release_21 rfl (lv_at hl 0 rfl) ?_
    refine zr_iconst hx hb dX3_release_22 ?_
    refine zcallV (ci := 3) (q0 := 0) (cq := (RX3, TX3, 12)) (As := [.int (zI 1)]) (rest := []) ⟨hx, hb, hml, hown, hts⟩ hK (kX3_no l D cI cZ q hN pa sp al co da mo st mr 0 n td wn 1) (cwV 1 hts gX3_release_X3_no rfl rfl rfl (by decide +kernel) ⟨Nat.le_of_ble_eq_true rfl, Nat.le_of_ble_eq_true rfl⟩) hP hS hA rfl rfl rfl hl.1 rfl (Nat.le_of_ble_eq_true rfl) dX3_release_23 ⟨Nat.zero_le _, Nat.zero_le _⟩ (fun H locs hP hS _ _ => ?_)
    refine W.eq (g2 := F0 m9 26 ls [.int (zI 0)]) rfl ?_
    rw [hQ0]
    exact zret_i hx hb hr hlocks (rfl) hP hS dX3_release_26
  · have c_1 := bI_n c_1
    refine lv_aload_n hx hb dX3_release_13 rfl (lv_at hl 0 rfl) ?_
    refine lv_iload_n hx hb dX3_release_14 rfl (lv_at hl 2 rfl) ?_
    refine zcallV (ci := 3) (q0 := 0) (cq := (RX3, TX3, 12)) (As := [.int (zI d)]) (rest := []) ⟨hx, hb, hml, hown, hts⟩ hK (kX3_isPerson l D cI cZ q hN pa sp al co da mo st mr 0 n td wn hn d (by omega)) (cwV 1 hts gX3_release_X3_isPerson rfl rfl rfl (by decide +kernel) ⟨Nat.le_of_ble_eq_true rfl, Nat.le_of_ble_eq_true rfl⟩) hP hS hA rfl rfl rfl hl.1 rfl (Nat.le_of_ble_eq_true rfl) dX3_release_15 ⟨Nat.zero_le _, Nat.zero_le _⟩ (fun H locs hP hS _ _ => ?_)
    refine W.eq (g2 := F0 m9 18 ls [.int (zI (bI (0 ≤ d ∧ d ≤ (n : Int) - 1)))]) rfl ?_
    refine zr_if_ne (tgt := 27) hx hb dX3_release_18 (by decide) (bI_rg _) (fun c_2 => ?_) (fun c_2 => ?_)
    · have c_2 := bI_n c_2
      exfalso; omega
    · have c_2 := bI_z c_2
      refine lv_aload_n hx hb dX3_release_21 rfl (lv_at hl 0 rfl) ?_
      refine zr_iconst hx hb dX3_release_22 ?_
      refine zcallV (ci := 3) (q0 := 0) (cq := (RX3, TX3, 12)) (As := [.int (zI 1)]) (rest := []) ⟨hx, hb, hml, hown, hts⟩ hK (kX3_no l D cI cZ q hN pa sp al co da mo st mr 0 n td wn 1) (cwV 1 hts gX3_release_X3_no rfl rfl rfl (by decide +kernel) ⟨Nat.le_of_ble_eq_true rfl, Nat.le_of_ble_eq_true rfl⟩) hP hS hA rfl rfl rfl hl.1 rfl (Nat.le_of_ble_eq_true rfl) dX3_release_23 ⟨Nat.zero_le _, Nat.zero_le _⟩ (fun H locs hP hS _ _ => ?_)
      refine W.eq (g2 := F0 m9 26 ls [.int (zI 0)]) rfl ?_
      rw [hQ0]
      exact zret_i hx hb hr hlocks (rfl) hP hS dX3_release_26
set_option maxHeartbeats 4000000 in
set_option maxRecDepth 100000 in
theorem kX3_releasee2 (l : Launch) (D : va_G) (cI cZ : ClassId) (q : Nat → Nat) (hN : (zLM q).Nodup) (pa : Int → Int) (sp : Int → Int) (al : Int → Int) (co : Int → Int) (da : Int → Int) (mo : Int → Int) (st : Int → Int) (mr : Int → Int) (th : Int) (n : Nat) (td : Int) (wn : Int) (hn : n ≤ 16) (hmo : ∀ j : Int, -1 ≤ mo j ∧ mo j ≤ 1000000) (htd : 0 ≤ td ∧ td ≤ 1000000) (p : Int) (d : Int) (h8 : -2147483648 ≤ p ∧ p ≤ 2147483647) (h9 : -2147483648 ≤ d ∧ d ≤ 2147483647) (h1 : 0 ≤ p ∧ p < (n : Int)) (h2 : 0 ≤ d ∧ d < (n : Int)) (h3 : lM mo td p d = 0) : zM l yX3_release wsX3_release ({ frames := 2, cells := 0, slots := 0, locals := 53 }) D [(cI, .int), (cZ, .boolean)] [.ref (q 0), .int (zI p), .int (zI d)] (wM cI cZ q pa sp al co da mo st mr th n td wn) (wM cI cZ q pa sp al co da mo st mr 2 n td wn) (some (.int (zI 0))) (zLM q) := by
  refine Met.ofW (cc := cX3_release) (maxL := 4) (ret := (some .int)) (by decide) rfl ?_
  intro p0 e9 s9 m9 ag9 below meth c9 s₁ B hml hv
  obtain ⟨hav, hP, hK⟩ := hv
  have hx := B.exec
  have hb := B.bytes
  have hr := B.returns
  have hts := atoms_spec (ws := wsX3_release) B.pre
  have hown : s9.vm.findClass RX3 = some m9.cls := findClass_of_methodNamed B.named
  have hlocks := B.notSynchronized
  have hA : ∀ a ∈ zLM q, (fun a => a ∈ zLM q) a := fun _ h => h
  have hin3 : ∀ w ∈ u_ws RX3 TX3 12, w ∈ wsX3_release := by decide +kernel
  have hl := lv_entry ([.ref (q 0), .int (zI p), .int (zI d)]) (n := 4) (Nat.le_of_ble_eq_true rfl)
  have hE : entryFrame m9 ag9 4 = F0 m9 0 ((lg_sl ([.ref (q 0), .int (zI p), .int (zI d)]) ++ List.replicate (4 - (lg_sl ([.ref (q 0), .int (zI p), .int (zI d)])).length) Slot.unset).toArray) [] := by rw [hav]; exact lg_entry_eq m9 _ _
  obtain ⟨Q0, hQ0⟩ : ∃ Q0, Q0 = MQ below (zQ D (wM cI cZ q pa sp al co da mo st mr 2 n td wn) (some (.int (zI 0))) (zLM q)) ag9 s9 0 0 (fun a => a ∈ zLM q) := ⟨_, rfl⟩
  show W p0 l e9 ({ frames := 2, cells := 0, slots := 0, locals := 53 }) s9 m9 ag9 below meth c9 s9.heap [] 0 0 (MQ below (zQ D (wM cI cZ q pa sp al co da mo st mr 2 n td wn) (some (.int (zI 0))) (zLM q)) ag9 s9 0 0 (fun a => a ∈ zLM q)) _
  rw [hE, ← hQ0]
  have hS : va_S (fun a => a ∈ zLM q) s9.heap s9.heap [] := va_S.rf
  generalize hH0 : s9.heap = H at hP ⊢
  have hS : va_S (fun a => a ∈ zLM q) s9.heap H [] := by rw [hH0] at hS ⊢; exact hS
  generalize (lg_sl ([.ref (q 0), .int (zI p), .int (zI d)]) ++ List.replicate (4 - (lg_sl ([.ref (q 0), .int (zI p), .int (zI d)])).length) Slot.unset).toArray = ls at hl ⊢
  have hl : lv_has ls 4 [(0, .ref (q 0)), (1, .int (zI p)), (2, .int (zI d))] := hl
  refine lv_aload_n hx hb dX3_release_0 rfl (lv_at hl 0 rfl) ?_
  refine zr_iconst hx hb dX3_release_1 ?_
  refine va_put (D := D) (ci := 3) (v := .int (zI 0)) (ty := .int) (C := RX3) (T := TX3) (N := 12) hx hb hts hin3 tyX3 tyX3_ok nmX3 hown hK hP (zD hN rfl hA) hS 0 rfl rfl 0 (by decide) (hts (.fieldLink RX3 35 "MourningRibbonsModel" "thrown" "I") (by decide +kernel)) (fun _ h9 => h9) rfl (by decide +kernel) rfl rfl (Nat.le_of_ble_eq_true rfl) dX3_release_2 (fun H locs hP _ hS => ?_)
  have hP : va_P D vwCl (wM cI cZ q pa sp al co da mo st mr 0 n td wn) H := hP
  refine lv_aload_n hx hb dX3_release_5 rfl (lv_at hl 0 rfl) ?_
  refine lv_iload_n hx hb dX3_release_6 rfl (lv_at hl 1 rfl) ?_
  refine zcallV (ci := 3) (q0 := 0) (cq := (RX3, TX3, 12)) (As := [.int (zI p)]) (rest := []) ⟨hx, hb, hml, hown, hts⟩ hK (kX3_isPerson l D cI cZ q hN pa sp al co da mo st mr 0 n td wn hn p (by omega)) (cwV 1 hts gX3_release_X3_isPerson rfl rfl rfl (by decide +kernel) ⟨Nat.le_of_ble_eq_true rfl, Nat.le_of_ble_eq_true rfl⟩) hP hS hA rfl rfl rfl hl.1 rfl (Nat.le_of_ble_eq_true rfl) dX3_release_7 ⟨Nat.zero_le _, Nat.zero_le _⟩ (fun H locs hP hS _ _ => ?_)
  refine W.eq (g2 := F0 m9 10 ls [.int (zI (bI (0 ≤ p ∧ p ≤ (n : Int) - 1)))]) rfl ?_
  refine zr_if_eq (tgt := 21) hx hb dX3_release_10 (by decide) (bI_rg _) (fun c_1 => ?_) (fun c_1 => ?_)
  · have c_1 := bI_z c_1
    refine lv_aload_n hx hb dX3_release_21 rfl (lv_at hl 0 rfl) ?_
    refine zr_iconst hx hb dX3_release_22 ?_
    exfalso; omega
  · have c_1 := bI_n c_1
    refine lv_aload_n hx hb dX3_release_13 rfl (lv_at hl 0 rfl) ?_
    refine lv_iload_n hx hb dX3_release_14 rfl (lv_at hl 2 rfl) ?_
    refine zcallV (ci := 3) (q0 := 0) (cq := (RX3, TX3, 12)) (As := [.int (zI d)]) (rest := []) ⟨hx, hb, hml, hown, hts⟩ hK (kX3_isPerson l D cI cZ q hN pa sp al co da mo st mr 0 n td wn hn d (by omega)) (cwV 1 hts gX3_release_X3_isPerson rfl rfl rfl (by decide +kernel) ⟨Nat.le_of_ble_eq_true rfl, Nat.le_of_ble_eq_true rfl⟩) hP hS hA rfl rfl rfl hl.1 rfl (Nat.le_of_ble_eq_true rfl) dX3_release_15 ⟨Nat.zero_le _, Nat.zero_le _⟩ (fun H locs hP hS _ _ => ?_)
    refine W.eq (g2 := F0 m9 18 ls [.int (zI (bI (0 ≤ d ∧ d ≤ (n : Int) - 1)))]) rfl ?_
    refine zr_if_ne (tgt := 27) hx hb dX3_release_18 (by decide) (bI_rg _) (fun c_2 => ?_) (fun c_2 => ?_)
    · have c_2 := bI_n c_2
      refine lv_aload_n hx hb dX3_release_27 rfl (lv_at hl 0 rfl) ?_
      refine lv_iload_n hx hb dX3_release_28 rfl (lv_at hl 1 rfl) ?_
      refine lv_iload_n hx hb dX3_release_29 rfl (lv_at hl 2 rfl) ?_
      refine zcallV (ci := 3) (q0 := 0) (cq := (RX3, TX3, 12)) (As := [.int (zI p), .int (zI d)]) (rest := []) ⟨hx, hb, hml, hown, hts⟩ hK (kX3_left l D cI cZ q hN pa sp al co da mo st mr 0 n td wn hmo htd p d (by omega) (by omega)) (cwV 2 hts gX3_release_X3_left rfl rfl rfl (by decide +kernel) ⟨Nat.le_of_ble_eq_true rfl, Nat.le_of_ble_eq_true rfl⟩) hP hS hA rfl rfl rfl hl.1 rfl (Nat.le_of_ble_eq_true rfl) dX3_release_30 ⟨Nat.zero_le _, Nat.zero_le _⟩ (fun H locs hP hS _ _ => ?_)
      refine W.eq (g2 := F0 m9 33 ls [.int (zI (lM mo td p d))]) rfl ?_
      have f_3 := lM_bd hmo htd p d
      refine lv_istore_n (lv' := [(3, .int (zI (lM mo td p d))), (0, .ref (q 0)), (1, .int (zI p)), (2, .int (zI d))]) hx hb dX3_release_33 rfl hl (by decide) rfl (fun ls hl => ?_)
      refine lv_iload_n hx hb dX3_release_34 rfl (lv_at hl 0 rfl) ?_
      refine zr_if_ne (tgt := 44) hx hb dX3_release_35 (by decide) ⟨by omega, by omega⟩ (fun c_4 => ?_) (fun c_4 => ?_)
      · have c_4 := c_4
        exfalso; omega
      · have c_4 := c_4
        refine lv_aload_n hx hb dX3_release_38 rfl (lv_at hl 1 rfl) ?_
        refine zr_iconst hx hb dX3_release_39 ?_
        refine zcallV (ci := 3) (q0 := 0) (cq := (RX3, TX3, 12)) (As := [.int (zI 2)]) (rest := []) ⟨hx, hb, hml, hown, hts⟩ hK (kX3_no l D cI cZ q hN pa sp al co da mo st mr 0 n td wn 2) (cwV 1 hts gX3_release_X3_no rfl rfl rfl (by decide +kernel) ⟨Nat.le_of_ble_eq_true rfl, Nat.le_of_ble_eq_true rfl⟩) hP hS hA rfl rfl rfl hl.1 rfl (Nat.le_of_ble_eq_true rfl) dX3_release_40 ⟨Nat.zero_le _, Nat.zero_le _⟩ (fun H locs hP hS _ _ => ?_)
        refine W.eq (g2 := F0 m9 43 ls [.int (zI 0)]) rfl ?_
        rw [hQ0]
        exact zret_i hx hb hr hlocks (rfl) hP hS dX3_release_43
    · have c_2 := bI_z c_2
      refine lv_aload_n hx hb dX3_release_21 rfl (lv_at hl 0 rfl) ?_
      refine zr_iconst hx hb dX3_release_22 ?_
      exfalso; omega
set_option maxHeartbeats 4000000 in
set_option maxRecDepth 100000 in
theorem kX3_passok (l : Launch) (D : va_G) (cI cZ : ClassId) (q : Nat → Nat) (hN : (zLM q).Nodup) (pa : Int → Int) (sp : Int → Int) (al : Int → Int) (co : Int → Int) (da : Int → Int) (mo : Int → Int) (st : Int → Int) (mr : Int → Int) (th : Int) (n : Nat) (td : Int) (wn : Int) (hn : n ≤ 16) (hmo : ∀ j : Int, -1 ≤ mo j ∧ mo j ≤ 1000000) (htd : 0 ≤ td ∧ td ≤ 1000000) (k : Int) (h0 : -2147483648 ≤ k ∧ k ≤ 2147483647) (h1 : 1 ≤ k ∧ k ≤ 200) (h2 : td ≤ 900000) : zM l yX3_pass wsX3_pass ({ frames := 4, cells := 0, slots := 0, locals := 98 }) D [(cI, .int), (cZ, .boolean)] [.ref (q 0), .int (zI k)] (wM cI cZ q pa sp al co da mo st mr th n td wn) (wM cI cZ q pa sp al co da mo st mr 0 n (td + k) (wn + smF (psF mo n td) k.toNat)) (some (.int (zI (smF (icF mo n (td + k)) n)))) (zLM q) := by
  refine Met.ofW (cc := cX3_pass) (maxL := 2) (ret := (some .int)) (by decide) rfl ?_
  intro p0 e9 s9 m9 ag9 below meth c9 s₁ B hml hv
  obtain ⟨hav, hP, hK⟩ := hv
  have hx := B.exec
  have hb := B.bytes
  have hr := B.returns
  have hts := atoms_spec (ws := wsX3_pass) B.pre
  have hown : s9.vm.findClass RX3 = some m9.cls := findClass_of_methodNamed B.named
  have hlocks := B.notSynchronized
  have hA : ∀ a ∈ zLM q, (fun a => a ∈ zLM q) a := fun _ h => h
  have hin3 : ∀ w ∈ u_ws RX3 TX3 12, w ∈ wsX3_pass := by decide +kernel
  have hl := lv_entry ([.ref (q 0), .int (zI k)]) (n := 2) (Nat.le_of_ble_eq_true rfl)
  have hE : entryFrame m9 ag9 2 = F0 m9 0 ((lg_sl ([.ref (q 0), .int (zI k)]) ++ List.replicate (2 - (lg_sl ([.ref (q 0), .int (zI k)])).length) Slot.unset).toArray) [] := by rw [hav]; exact lg_entry_eq m9 _ _
  obtain ⟨Q0, hQ0⟩ : ∃ Q0, Q0 = MQ below (zQ D (wM cI cZ q pa sp al co da mo st mr 0 n (td + k) (wn + smF (psF mo n td) k.toNat)) (some (.int (zI (smF (icF mo n (td + k)) n)))) (zLM q)) ag9 s9 0 0 (fun a => a ∈ zLM q) := ⟨_, rfl⟩
  show W p0 l e9 ({ frames := 4, cells := 0, slots := 0, locals := 98 }) s9 m9 ag9 below meth c9 s9.heap [] 0 0 (MQ below (zQ D (wM cI cZ q pa sp al co da mo st mr 0 n (td + k) (wn + smF (psF mo n td) k.toNat)) (some (.int (zI (smF (icF mo n (td + k)) n)))) (zLM q)) ag9 s9 0 0 (fun a => a ∈ zLM q)) _
  rw [hE, ← hQ0]
  have hS : va_S (fun a => a ∈ zLM q) s9.heap s9.heap [] := va_S.rf
  generalize hH0 : s9.heap = H at hP ⊢
  have hS : va_S (fun a => a ∈ zLM q) s9.heap H [] := by rw [hH0] at hS ⊢; exact hS
  generalize (lg_sl ([.ref (q 0), .int (zI k)]) ++ List.replicate (2 - (lg_sl ([.ref (q 0), .int (zI k)])).length) Slot.unset).toArray = ls at hl ⊢
  have hl : lv_has ls 2 [(0, .ref (q 0)), (1, .int (zI k))] := hl
  refine lv_aload_n hx hb dX3_pass_0 rfl (lv_at hl 0 rfl) ?_
  refine zr_iconst hx hb dX3_pass_1 ?_
  refine va_put (D := D) (ci := 3) (v := .int (zI 0)) (ty := .int) (C := RX3) (T := TX3) (N := 12) hx hb hts hin3 tyX3 tyX3_ok nmX3 hown hK hP (zD hN rfl hA) hS 0 rfl rfl 0 (by decide) (hts (.fieldLink RX3 35 "MourningRibbonsModel" "thrown" "I") (by decide +kernel)) (fun _ h9 => h9) rfl (by decide +kernel) rfl rfl (Nat.le_of_ble_eq_true rfl) dX3_pass_2 (fun H locs hP _ hS => ?_)
  have hP : va_P D vwCl (wM cI cZ q pa sp al co da mo st mr 0 n td wn) H := hP
  refine lv_iload_n hx hb dX3_pass_5 rfl (lv_at hl 1 rfl) ?_
  refine zr_iconst hx hb dX3_pass_6 ?_
  refine zr_sipush hx hb dX3_pass_7 (by decide) ?_
  refine zcallP (As := [.int (zI k), .int (zI 1), .int (zI 200)]) (rest := []) ⟨hx, hb, hml, hown, hts⟩ (kX3_isIn l D k 1 200 (by omega) (by omega) (by omega)) hK (va_cwS 3 hts gX3_pass_X3_isIn rfl rfl rfl (by decide +kernel) ⟨Nat.le_of_ble_eq_true rfl, Nat.le_of_ble_eq_true rfl⟩) hP hS rfl hl.1 rfl (Nat.le_of_ble_eq_true rfl) dX3_pass_10 ⟨Nat.zero_le _, Nat.zero_le _⟩ (fun H locs hP hS => ?_)
  refine W.eq (g2 := F0 m9 13 ls [.int (zI (bI (1 ≤ k ∧ k ≤ 200)))]) rfl ?_
  refine zr_if_eq (tgt := 24) hx hb dX3_pass_13 (by decide) (bI_rg _) (fun c_1 => ?_) (fun c_1 => ?_)
  · have c_1 := bI_z c_1
    refine lv_aload_n hx hb dX3_pass_24 rfl (lv_at hl 0 rfl) ?_
    refine zr_iconst hx hb dX3_pass_25 ?_
    exfalso; omega
  · have c_1 := bI_n c_1
    refine lv_aload_n hx hb dX3_pass_16 rfl (lv_at hl 0 rfl) ?_
    refine lv_iload_n hx hb dX3_pass_17 rfl (lv_at hl 1 rfl) ?_
    refine zcallV (ci := 3) (q0 := 0) (cq := (RX3, TX3, 12)) (As := [.int (zI k)]) (rest := []) ⟨hx, hb, hml, hown, hts⟩ hK (kX3_passed l D cI cZ q hN pa sp al co da mo st mr 0 n td wn hn hmo htd k (by omega) (by omega)) (cwV 1 hts gX3_pass_X3_passed rfl rfl rfl (by decide +kernel) ⟨Nat.le_of_ble_eq_true rfl, Nat.le_of_ble_eq_true rfl⟩) hP hS hA rfl rfl rfl hl.1 rfl (Nat.le_of_ble_eq_true rfl) dX3_pass_18 ⟨Nat.zero_le _, Nat.zero_le _⟩ (fun H locs hP hS _ _ => ?_)
    refine W.eq (g2 := F0 m9 21 ls [.int (zI (smF (icF mo n (td + k)) n))]) rfl ?_
    refine lv_goto (tgt := 29) hx hb dX3_pass_21 (by decide) ?_
    rw [hQ0]
    exact zret_i hx hb hr hlocks (rfl) hP hS dX3_pass_29
set_option maxHeartbeats 4000000 in
set_option maxRecDepth 100000 in
theorem kX3_passe1 (l : Launch) (D : va_G) (cI cZ : ClassId) (q : Nat → Nat) (hN : (zLM q).Nodup) (pa : Int → Int) (sp : Int → Int) (al : Int → Int) (co : Int → Int) (da : Int → Int) (mo : Int → Int) (st : Int → Int) (mr : Int → Int) (th : Int) (n : Nat) (td : Int) (wn : Int) (k : Int) (h0 : -2147483648 ≤ k ∧ k ≤ 2147483647) (h1 : ¬ (1 ≤ k ∧ k ≤ 200)) : zM l yX3_pass wsX3_pass ({ frames := 4, cells := 0, slots := 0, locals := 98 }) D [(cI, .int), (cZ, .boolean)] [.ref (q 0), .int (zI k)] (wM cI cZ q pa sp al co da mo st mr th n td wn) (wM cI cZ q pa sp al co da mo st mr 1 n td wn) (some (.int (zI 0))) (zLM q) := by
  refine Met.ofW (cc := cX3_pass) (maxL := 2) (ret := (some .int)) (by decide) rfl ?_
  intro p0 e9 s9 m9 ag9 below meth c9 s₁ B hml hv
  obtain ⟨hav, hP, hK⟩ := hv
  have hx := B.exec
  have hb := B.bytes
  have hr := B.returns
  have hts := atoms_spec (ws := wsX3_pass) B.pre
  have hown : s9.vm.findClass RX3 = some m9.cls := findClass_of_methodNamed B.named
  have hlocks := B.notSynchronized
  have hA : ∀ a ∈ zLM q, (fun a => a ∈ zLM q) a := fun _ h => h
  have hin3 : ∀ w ∈ u_ws RX3 TX3 12, w ∈ wsX3_pass := by decide +kernel
  have hl := lv_entry ([.ref (q 0), .int (zI k)]) (n := 2) (Nat.le_of_ble_eq_true rfl)
  have hE : entryFrame m9 ag9 2 = F0 m9 0 ((lg_sl ([.ref (q 0), .int (zI k)]) ++ List.replicate (2 - (lg_sl ([.ref (q 0), .int (zI k)])).length) Slot.unset).toArray) [] := by rw [hav]; exact lg_entry_eq m9 _ _
  obtain ⟨Q0, hQ0⟩ : ∃ Q0, Q0 = MQ below (zQ D (wM cI cZ q pa sp al co da mo st mr 1 n td wn) (some (.int (zI 0))) (zLM q)) ag9 s9 0 0 (fun a => a ∈ zLM q) := ⟨_, rfl⟩
  show W p0 l e9 ({ frames := 4, cells := 0, slots := 0, locals := 98 }) s9 m9 ag9 below meth c9 s9.heap [] 0 0 (MQ below (zQ D (wM cI cZ q pa sp al co da mo st mr 1 n td wn) (some (.int (zI 0))) (zLM q)) ag9 s9 0 0 (fun a => a ∈ zLM q)) _
  rw [hE, ← hQ0]
  have hS : va_S (fun a => a ∈ zLM q) s9.heap s9.heap [] := va_S.rf
  generalize hH0 : s9.heap = H at hP ⊢
  have hS : va_S (fun a => a ∈ zLM q) s9.heap H [] := by rw [hH0] at hS ⊢; exact hS
  generalize (lg_sl ([.ref (q 0), .int (zI k)]) ++ List.replicate (2 - (lg_sl ([.ref (q 0), .int (zI k)])).length) Slot.unset).toArray = ls at hl ⊢
  have hl : lv_has ls 2 [(0, .ref (q 0)), (1, .int (zI k))] := hl
  refine lv_aload_n hx hb dX3_pass_0 rfl (lv_at hl 0 rfl) ?_
  refine zr_iconst hx hb dX3_pass_1 ?_
  refine va_put (D := D) (ci := 3) (v := .int (zI 0)) (ty := .int) (C := RX3) (T := TX3) (N := 12) hx hb hts hin3 tyX3 tyX3_ok nmX3 hown hK hP (zD hN rfl hA) hS 0 rfl rfl 0 (by decide) (hts (.fieldLink RX3 35 "MourningRibbonsModel" "thrown" "I") (by decide +kernel)) (fun _ h9 => h9) rfl (by decide +kernel) rfl rfl (Nat.le_of_ble_eq_true rfl) dX3_pass_2 (fun H locs hP _ hS => ?_)
  have hP : va_P D vwCl (wM cI cZ q pa sp al co da mo st mr 0 n td wn) H := hP
  refine lv_iload_n hx hb dX3_pass_5 rfl (lv_at hl 1 rfl) ?_
  refine zr_iconst hx hb dX3_pass_6 ?_
  refine zr_sipush hx hb dX3_pass_7 (by decide) ?_
  refine zcallP (As := [.int (zI k), .int (zI 1), .int (zI 200)]) (rest := []) ⟨hx, hb, hml, hown, hts⟩ (kX3_isIn l D k 1 200 (by omega) (by omega) (by omega)) hK (va_cwS 3 hts gX3_pass_X3_isIn rfl rfl rfl (by decide +kernel) ⟨Nat.le_of_ble_eq_true rfl, Nat.le_of_ble_eq_true rfl⟩) hP hS rfl hl.1 rfl (Nat.le_of_ble_eq_true rfl) dX3_pass_10 ⟨Nat.zero_le _, Nat.zero_le _⟩ (fun H locs hP hS => ?_)
  refine W.eq (g2 := F0 m9 13 ls [.int (zI (bI (1 ≤ k ∧ k ≤ 200)))]) rfl ?_
  refine zr_if_eq (tgt := 24) hx hb dX3_pass_13 (by decide) (bI_rg _) (fun c_1 => ?_) (fun c_1 => ?_)
  · have c_1 := bI_z c_1
    refine lv_aload_n hx hb dX3_pass_24 rfl (lv_at hl 0 rfl) ?_
    refine zr_iconst hx hb dX3_pass_25 ?_
    refine zcallV (ci := 3) (q0 := 0) (cq := (RX3, TX3, 12)) (As := [.int (zI 1)]) (rest := []) ⟨hx, hb, hml, hown, hts⟩ hK (kX3_no l D cI cZ q hN pa sp al co da mo st mr 0 n td wn 1) (cwV 1 hts gX3_pass_X3_no rfl rfl rfl (by decide +kernel) ⟨Nat.le_of_ble_eq_true rfl, Nat.le_of_ble_eq_true rfl⟩) hP hS hA rfl rfl rfl hl.1 rfl (Nat.le_of_ble_eq_true rfl) dX3_pass_26 ⟨Nat.zero_le _, Nat.zero_le _⟩ (fun H locs hP hS _ _ => ?_)
    refine W.eq (g2 := F0 m9 29 ls [.int (zI 0)]) rfl ?_
    rw [hQ0]
    exact zret_i hx hb hr hlocks (rfl) hP hS dX3_pass_29
  · have c_1 := bI_n c_1
    refine lv_aload_n hx hb dX3_pass_16 rfl (lv_at hl 0 rfl) ?_
    refine lv_iload_n hx hb dX3_pass_17 rfl (lv_at hl 1 rfl) ?_
    exfalso; omega
set_option maxHeartbeats 4000000 in
set_option maxRecDepth 100000 in
theorem kX3_isAliveok (l : Launch) (D : va_G) (cI cZ : ClassId) (q : Nat → Nat) (hN : (zLM q).Nodup) (pa : Int → Int) (sp : Int → Int) (al : Int → Int) (co : Int → Int) (da : Int → Int) (mo : Int → Int) (st : Int → Int) (mr : Int → Int) (th : Int) (n : Nat) (td : Int) (wn : Int) (hn : n ≤ 16) (hal : ∀ j : Int, 0 ≤ al j ∧ al j ≤ 1) (p : Int) (h0 : -2147483648 ≤ p ∧ p ≤ 2147483647) (h1 : 0 ≤ p ∧ p < (n : Int)) : zM l yX3_isAlive wsX3_isAlive ({ frames := 2, cells := 0, slots := 0, locals := 43 }) D [(cI, .int), (cZ, .boolean)] [.ref (q 0), .int (zI p)] (wM cI cZ q pa sp al co da mo st mr th n td wn) (wM cI cZ q pa sp al co da mo st mr 0 n td wn) (some (.int (zI (al p)))) (zLM q) := by
  refine Met.ofW (cc := cX3_isAlive) (maxL := 2) (ret := (some .boolean)) (by decide) rfl ?_
  intro p0 e9 s9 m9 ag9 below meth c9 s₁ B hml hv
  obtain ⟨hav, hP, hK⟩ := hv
  have hx := B.exec
  have hb := B.bytes
  have hr := B.returns
  have hts := atoms_spec (ws := wsX3_isAlive) B.pre
  have hown : s9.vm.findClass RX3 = some m9.cls := findClass_of_methodNamed B.named
  have hlocks := B.notSynchronized
  have hA : ∀ a ∈ zLM q, (fun a => a ∈ zLM q) a := fun _ h => h
  have hin3 : ∀ w ∈ u_ws RX3 TX3 12, w ∈ wsX3_isAlive := by decide +kernel
  have hl := lv_entry ([.ref (q 0), .int (zI p)]) (n := 2) (Nat.le_of_ble_eq_true rfl)
  have hE : entryFrame m9 ag9 2 = F0 m9 0 ((lg_sl ([.ref (q 0), .int (zI p)]) ++ List.replicate (2 - (lg_sl ([.ref (q 0), .int (zI p)])).length) Slot.unset).toArray) [] := by rw [hav]; exact lg_entry_eq m9 _ _
  obtain ⟨Q0, hQ0⟩ : ∃ Q0, Q0 = MQ below (zQ D (wM cI cZ q pa sp al co da mo st mr 0 n td wn) (some (.int (zI (al p)))) (zLM q)) ag9 s9 0 0 (fun a => a ∈ zLM q) := ⟨_, rfl⟩
  show W p0 l e9 ({ frames := 2, cells := 0, slots := 0, locals := 43 }) s9 m9 ag9 below meth c9 s9.heap [] 0 0 (MQ below (zQ D (wM cI cZ q pa sp al co da mo st mr 0 n td wn) (some (.int (zI (al p)))) (zLM q)) ag9 s9 0 0 (fun a => a ∈ zLM q)) _
  rw [hE, ← hQ0]
  have hS : va_S (fun a => a ∈ zLM q) s9.heap s9.heap [] := va_S.rf
  generalize hH0 : s9.heap = H at hP ⊢
  have hS : va_S (fun a => a ∈ zLM q) s9.heap H [] := by rw [hH0] at hS ⊢; exact hS
  generalize (lg_sl ([.ref (q 0), .int (zI p)]) ++ List.replicate (2 - (lg_sl ([.ref (q 0), .int (zI p)])).length) Slot.unset).toArray = ls at hl ⊢
  have hl : lv_has ls 2 [(0, .ref (q 0)), (1, .int (zI p))] := hl
  refine lv_aload_n hx hb dX3_isAlive_0 rfl (lv_at hl 0 rfl) ?_
  refine zr_iconst hx hb dX3_isAlive_1 ?_
  refine va_put (D := D) (ci := 3) (v := .int (zI 0)) (ty := .int) (C := RX3) (T := TX3) (N := 12) hx hb hts hin3 tyX3 tyX3_ok nmX3 hown hK hP (zD hN rfl hA) hS 0 rfl rfl 0 (by decide) (hts (.fieldLink RX3 35 "MourningRibbonsModel" "thrown" "I") (by decide +kernel)) (fun _ h9 => h9) rfl (by decide +kernel) rfl rfl (Nat.le_of_ble_eq_true rfl) dX3_isAlive_2 (fun H locs hP _ hS => ?_)
  have hP : va_P D vwCl (wM cI cZ q pa sp al co da mo st mr 0 n td wn) H := hP
  refine lv_aload_n hx hb dX3_isAlive_5 rfl (lv_at hl 0 rfl) ?_
  refine lv_iload_n hx hb dX3_isAlive_6 rfl (lv_at hl 1 rfl) ?_
  refine zcallV (ci := 3) (q0 := 0) (cq := (RX3, TX3, 12)) (As := [.int (zI p)]) (rest := []) ⟨hx, hb, hml, hown, hts⟩ hK (kX3_isPerson l D cI cZ q hN pa sp al co da mo st mr 0 n td wn hn p (by omega)) (cwV 1 hts gX3_isAlive_X3_isPerson rfl rfl rfl (by decide +kernel) ⟨Nat.le_of_ble_eq_true rfl, Nat.le_of_ble_eq_true rfl⟩) hP hS hA rfl rfl rfl hl.1 rfl (Nat.le_of_ble_eq_true rfl) dX3_isAlive_7 ⟨Nat.zero_le _, Nat.zero_le _⟩ (fun H locs hP hS _ _ => ?_)
  refine W.eq (g2 := F0 m9 10 ls [.int (zI (bI (0 ≤ p ∧ p ≤ (n : Int) - 1)))]) rfl ?_
  refine zr_if_eq (tgt := 22) hx hb dX3_isAlive_10 (by decide) (bI_rg _) (fun c_1 => ?_) (fun c_1 => ?_)
  · have c_1 := bI_z c_1
    refine lv_aload_n hx hb dX3_isAlive_22 rfl (lv_at hl 0 rfl) ?_
    refine zr_iconst hx hb dX3_isAlive_23 ?_
    exfalso; omega
  · have c_1 := bI_n c_1
    refine lv_aload_n hx hb dX3_isAlive_13 rfl (lv_at hl 0 rfl) ?_
    refine va_get (D := D) (ci := 3) (v := .ref (q 3)) (C := RX3) (T := TX3) (N := 12) hx hb hts hin3 hown hK hP 0 rfl rfl 4 (by decide) (hts (.fieldLink RX3 16 "MourningRibbonsModel" "isAlive" "[Z") (by decide +kernel)) (fun _ h9 => h9) rfl dX3_isAlive_14 ?_
    refine lv_iload_n hx hb dX3_isAlive_17 rfl (lv_at hl 1 rfl) ?_
    refine zr_zald (f := al) (n := 16) hx hb hK hP 3 1 rfl rfl (by decide) (i := p) (by omega) (by omega) dX3_isAlive_18 ?_
    have b_2 := hal p
    refine lv_goto (tgt := 27) hx hb dX3_isAlive_19 (by decide) ?_
    rw [hQ0]
    exact zret_z hx hb hr hlocks (zn_bool ⟨by omega, by omega⟩) (rfl) hP hS dX3_isAlive_27
set_option maxHeartbeats 4000000 in
set_option maxRecDepth 100000 in
theorem kX3_isAlivee1 (l : Launch) (D : va_G) (cI cZ : ClassId) (q : Nat → Nat) (hN : (zLM q).Nodup) (pa : Int → Int) (sp : Int → Int) (al : Int → Int) (co : Int → Int) (da : Int → Int) (mo : Int → Int) (st : Int → Int) (mr : Int → Int) (th : Int) (n : Nat) (td : Int) (wn : Int) (hn : n ≤ 16) (p : Int) (h0 : -2147483648 ≤ p ∧ p ≤ 2147483647) (h1 : ¬ (0 ≤ p ∧ p < (n : Int))) : zM l yX3_isAlive wsX3_isAlive ({ frames := 2, cells := 0, slots := 0, locals := 43 }) D [(cI, .int), (cZ, .boolean)] [.ref (q 0), .int (zI p)] (wM cI cZ q pa sp al co da mo st mr th n td wn) (wM cI cZ q pa sp al co da mo st mr 1 n td wn) (some (.int (zI 0))) (zLM q) := by
  refine Met.ofW (cc := cX3_isAlive) (maxL := 2) (ret := (some .boolean)) (by decide) rfl ?_
  intro p0 e9 s9 m9 ag9 below meth c9 s₁ B hml hv
  obtain ⟨hav, hP, hK⟩ := hv
  have hx := B.exec
  have hb := B.bytes
  have hr := B.returns
  have hts := atoms_spec (ws := wsX3_isAlive) B.pre
  have hown : s9.vm.findClass RX3 = some m9.cls := findClass_of_methodNamed B.named
  have hlocks := B.notSynchronized
  have hA : ∀ a ∈ zLM q, (fun a => a ∈ zLM q) a := fun _ h => h
  have hin3 : ∀ w ∈ u_ws RX3 TX3 12, w ∈ wsX3_isAlive := by decide +kernel
  have hl := lv_entry ([.ref (q 0), .int (zI p)]) (n := 2) (Nat.le_of_ble_eq_true rfl)
  have hE : entryFrame m9 ag9 2 = F0 m9 0 ((lg_sl ([.ref (q 0), .int (zI p)]) ++ List.replicate (2 - (lg_sl ([.ref (q 0), .int (zI p)])).length) Slot.unset).toArray) [] := by rw [hav]; exact lg_entry_eq m9 _ _
  obtain ⟨Q0, hQ0⟩ : ∃ Q0, Q0 = MQ below (zQ D (wM cI cZ q pa sp al co da mo st mr 1 n td wn) (some (.int (zI 0))) (zLM q)) ag9 s9 0 0 (fun a => a ∈ zLM q) := ⟨_, rfl⟩
  show W p0 l e9 ({ frames := 2, cells := 0, slots := 0, locals := 43 }) s9 m9 ag9 below meth c9 s9.heap [] 0 0 (MQ below (zQ D (wM cI cZ q pa sp al co da mo st mr 1 n td wn) (some (.int (zI 0))) (zLM q)) ag9 s9 0 0 (fun a => a ∈ zLM q)) _
  rw [hE, ← hQ0]
  have hS : va_S (fun a => a ∈ zLM q) s9.heap s9.heap [] := va_S.rf
  generalize hH0 : s9.heap = H at hP ⊢
  have hS : va_S (fun a => a ∈ zLM q) s9.heap H [] := by rw [hH0] at hS ⊢; exact hS
  generalize (lg_sl ([.ref (q 0), .int (zI p)]) ++ List.replicate (2 - (lg_sl ([.ref (q 0), .int (zI p)])).length) Slot.unset).toArray = ls at hl ⊢
  have hl : lv_has ls 2 [(0, .ref (q 0)), (1, .int (zI p))] := hl
  refine lv_aload_n hx hb dX3_isAlive_0 rfl (lv_at hl 0 rfl) ?_
  refine zr_iconst hx hb dX3_isAlive_1 ?_
  refine va_put (D := D) (ci := 3) (v := .int (zI 0)) (ty := .int) (C := RX3) (T := TX3) (N := 12) hx hb hts hin3 tyX3 tyX3_ok nmX3 hown hK hP (zD hN rfl hA) hS 0 rfl rfl 0 (by decide) (hts (.fieldLink RX3 35 "MourningRibbonsModel" "thrown" "I") (by decide +kernel)) (fun _ h9 => h9) rfl (by decide +kernel) rfl rfl (Nat.le_of_ble_eq_true rfl) dX3_isAlive_2 (fun H locs hP _ hS => ?_)
  have hP : va_P D vwCl (wM cI cZ q pa sp al co da mo st mr 0 n td wn) H := hP
  refine lv_aload_n hx hb dX3_isAlive_5 rfl (lv_at hl 0 rfl) ?_
  refine lv_iload_n hx hb dX3_isAlive_6 rfl (lv_at hl 1 rfl) ?_
  refine zcallV (ci := 3) (q0 := 0) (cq := (RX3, TX3, 12)) (As := [.int (zI p)]) (rest := []) ⟨hx, hb, hml, hown, hts⟩ hK (kX3_isPerson l D cI cZ q hN pa sp al co da mo st mr 0 n td wn hn p (by omega)) (cwV 1 hts gX3_isAlive_X3_isPerson rfl rfl rfl (by decide +kernel) ⟨Nat.le_of_ble_eq_true rfl, Nat.le_of_ble_eq_true rfl⟩) hP hS hA rfl rfl rfl hl.1 rfl (Nat.le_of_ble_eq_true rfl) dX3_isAlive_7 ⟨Nat.zero_le _, Nat.zero_le _⟩ (fun H locs hP hS _ _ => ?_)
  refine W.eq (g2 := F0 m9 10 ls [.int (zI (bI (0 ≤ p ∧ p ≤ (n : Int) - 1)))]) rfl ?_
  refine zr_if_eq (tgt := 22) hx hb dX3_isAlive_10 (by decide) (bI_rg _) (fun c_1 => ?_) (fun c_1 => ?_)
  · have c_1 := bI_z c_1
    refine lv_aload_n hx hb dX3_isAlive_22 rfl (lv_at hl 0 rfl) ?_
    refine zr_iconst hx hb dX3_isAlive_23 ?_
    refine zcallV (ci := 3) (q0 := 0) (cq := (RX3, TX3, 12)) (As := [.int (zI 1)]) (rest := []) ⟨hx, hb, hml, hown, hts⟩ hK (kX3_isNot l D cI cZ q hN pa sp al co da mo st mr 0 n td wn 1) (cwV 1 hts gX3_isAlive_X3_isNot rfl rfl rfl (by decide +kernel) ⟨Nat.le_of_ble_eq_true rfl, Nat.le_of_ble_eq_true rfl⟩) hP hS hA rfl rfl rfl hl.1 rfl (Nat.le_of_ble_eq_true rfl) dX3_isAlive_24 ⟨Nat.zero_le _, Nat.zero_le _⟩ (fun H locs hP hS _ _ => ?_)
    refine W.eq (g2 := F0 m9 27 ls [.int (zI 0)]) rfl ?_
    rw [hQ0]
    exact zret_z hx hb hr hlocks (rfl) (rfl) hP hS dX3_isAlive_27
  · have c_1 := bI_n c_1
    exfalso; omega
set_option maxHeartbeats 4000000 in
set_option maxRecDepth 100000 in
theorem kX3_parentOfok (l : Launch) (D : va_G) (cI cZ : ClassId) (q : Nat → Nat) (hN : (zLM q).Nodup) (pa : Int → Int) (sp : Int → Int) (al : Int → Int) (co : Int → Int) (da : Int → Int) (mo : Int → Int) (st : Int → Int) (mr : Int → Int) (th : Int) (n : Nat) (td : Int) (wn : Int) (hn : n ≤ 16) (hpa : ∀ j : Int, -1 ≤ pa j ∧ pa j ≤ 15) (p : Int) (h0 : -2147483648 ≤ p ∧ p ≤ 2147483647) (h1 : 0 ≤ p ∧ p < (n : Int)) : zM l yX3_parentOf wsX3_parentOf ({ frames := 2, cells := 0, slots := 0, locals := 43 }) D [(cI, .int), (cZ, .boolean)] [.ref (q 0), .int (zI p)] (wM cI cZ q pa sp al co da mo st mr th n td wn) (wM cI cZ q pa sp al co da mo st mr 0 n td wn) (some (.int (zI (pa p)))) (zLM q) := by
  refine Met.ofW (cc := cX3_parentOf) (maxL := 2) (ret := (some .int)) (by decide) rfl ?_
  intro p0 e9 s9 m9 ag9 below meth c9 s₁ B hml hv
  obtain ⟨hav, hP, hK⟩ := hv
  have hx := B.exec
  have hb := B.bytes
  have hr := B.returns
  have hts := atoms_spec (ws := wsX3_parentOf) B.pre
  have hown : s9.vm.findClass RX3 = some m9.cls := findClass_of_methodNamed B.named
  have hlocks := B.notSynchronized
  have hA : ∀ a ∈ zLM q, (fun a => a ∈ zLM q) a := fun _ h => h
  have hin3 : ∀ w ∈ u_ws RX3 TX3 12, w ∈ wsX3_parentOf := by decide +kernel
  have hl := lv_entry ([.ref (q 0), .int (zI p)]) (n := 2) (Nat.le_of_ble_eq_true rfl)
  have hE : entryFrame m9 ag9 2 = F0 m9 0 ((lg_sl ([.ref (q 0), .int (zI p)]) ++ List.replicate (2 - (lg_sl ([.ref (q 0), .int (zI p)])).length) Slot.unset).toArray) [] := by rw [hav]; exact lg_entry_eq m9 _ _
  obtain ⟨Q0, hQ0⟩ : ∃ Q0, Q0 = MQ below (zQ D (wM cI cZ q pa sp al co da mo st mr 0 n td wn) (some (.int (zI (pa p)))) (zLM q)) ag9 s9 0 0 (fun a => a ∈ zLM q) := ⟨_, rfl⟩
  show W p0 l e9 ({ frames := 2, cells := 0, slots := 0, locals := 43 }) s9 m9 ag9 below meth c9 s9.heap [] 0 0 (MQ below (zQ D (wM cI cZ q pa sp al co da mo st mr 0 n td wn) (some (.int (zI (pa p)))) (zLM q)) ag9 s9 0 0 (fun a => a ∈ zLM q)) _
  rw [hE, ← hQ0]
  have hS : va_S (fun a => a ∈ zLM q) s9.heap s9.heap [] := va_S.rf
  generalize hH0 : s9.heap = H at hP ⊢
  have hS : va_S (fun a => a ∈ zLM q) s9.heap H [] := by rw [hH0] at hS ⊢; exact hS
  generalize (lg_sl ([.ref (q 0), .int (zI p)]) ++ List.replicate (2 - (lg_sl ([.ref (q 0), .int (zI p)])).length) Slot.unset).toArray = ls at hl ⊢
  have hl : lv_has ls 2 [(0, .ref (q 0)), (1, .int (zI p))] := hl
  refine lv_aload_n hx hb dX3_parentOf_0 rfl (lv_at hl 0 rfl) ?_
  refine zr_iconst hx hb dX3_parentOf_1 ?_
  refine va_put (D := D) (ci := 3) (v := .int (zI 0)) (ty := .int) (C := RX3) (T := TX3) (N := 12) hx hb hts hin3 tyX3 tyX3_ok nmX3 hown hK hP (zD hN rfl hA) hS 0 rfl rfl 0 (by decide) (hts (.fieldLink RX3 35 "MourningRibbonsModel" "thrown" "I") (by decide +kernel)) (fun _ h9 => h9) rfl (by decide +kernel) rfl rfl (Nat.le_of_ble_eq_true rfl) dX3_parentOf_2 (fun H locs hP _ hS => ?_)
  have hP : va_P D vwCl (wM cI cZ q pa sp al co da mo st mr 0 n td wn) H := hP
  refine lv_aload_n hx hb dX3_parentOf_5 rfl (lv_at hl 0 rfl) ?_
  refine lv_iload_n hx hb dX3_parentOf_6 rfl (lv_at hl 1 rfl) ?_
  refine zcallV (ci := 3) (q0 := 0) (cq := (RX3, TX3, 12)) (As := [.int (zI p)]) (rest := []) ⟨hx, hb, hml, hown, hts⟩ hK (kX3_isPerson l D cI cZ q hN pa sp al co da mo st mr 0 n td wn hn p (by omega)) (cwV 1 hts gX3_parentOf_X3_isPerson rfl rfl rfl (by decide +kernel) ⟨Nat.le_of_ble_eq_true rfl, Nat.le_of_ble_eq_true rfl⟩) hP hS hA rfl rfl rfl hl.1 rfl (Nat.le_of_ble_eq_true rfl) dX3_parentOf_7 ⟨Nat.zero_le _, Nat.zero_le _⟩ (fun H locs hP hS _ _ => ?_)
  refine W.eq (g2 := F0 m9 10 ls [.int (zI (bI (0 ≤ p ∧ p ≤ (n : Int) - 1)))]) rfl ?_
  refine zr_if_eq (tgt := 22) hx hb dX3_parentOf_10 (by decide) (bI_rg _) (fun c_1 => ?_) (fun c_1 => ?_)
  · have c_1 := bI_z c_1
    refine lv_aload_n hx hb dX3_parentOf_22 rfl (lv_at hl 0 rfl) ?_
    refine zr_iconst hx hb dX3_parentOf_23 ?_
    exfalso; omega
  · have c_1 := bI_n c_1
    refine lv_aload_n hx hb dX3_parentOf_13 rfl (lv_at hl 0 rfl) ?_
    refine va_get (D := D) (ci := 3) (v := .ref (q 1)) (C := RX3) (T := TX3) (N := 12) hx hb hts hin3 hown hK hP 0 rfl rfl 2 (by decide) (hts (.fieldLink RX3 9 "MourningRibbonsModel" "parent" "[I") (by decide +kernel)) (fun _ h9 => h9) rfl dX3_parentOf_14 ?_
    refine lv_iload_n hx hb dX3_parentOf_17 rfl (lv_at hl 1 rfl) ?_
    refine zr_iald (f := pa) (n := 16) hx hb hK hP 1 0 rfl rfl (by decide) (i := p) (by omega) (by omega) dX3_parentOf_18 ?_
    have b_2 := hpa p
    refine lv_goto (tgt := 27) hx hb dX3_parentOf_19 (by decide) ?_
    rw [hQ0]
    exact zret_i hx hb hr hlocks (rfl) hP hS dX3_parentOf_27
set_option maxHeartbeats 4000000 in
set_option maxRecDepth 100000 in
theorem kX3_parentOfe1 (l : Launch) (D : va_G) (cI cZ : ClassId) (q : Nat → Nat) (hN : (zLM q).Nodup) (pa : Int → Int) (sp : Int → Int) (al : Int → Int) (co : Int → Int) (da : Int → Int) (mo : Int → Int) (st : Int → Int) (mr : Int → Int) (th : Int) (n : Nat) (td : Int) (wn : Int) (hn : n ≤ 16) (p : Int) (h0 : -2147483648 ≤ p ∧ p ≤ 2147483647) (h1 : ¬ (0 ≤ p ∧ p < (n : Int))) : zM l yX3_parentOf wsX3_parentOf ({ frames := 2, cells := 0, slots := 0, locals := 43 }) D [(cI, .int), (cZ, .boolean)] [.ref (q 0), .int (zI p)] (wM cI cZ q pa sp al co da mo st mr th n td wn) (wM cI cZ q pa sp al co da mo st mr 1 n td wn) (some (.int (zI 0))) (zLM q) := by
  refine Met.ofW (cc := cX3_parentOf) (maxL := 2) (ret := (some .int)) (by decide) rfl ?_
  intro p0 e9 s9 m9 ag9 below meth c9 s₁ B hml hv
  obtain ⟨hav, hP, hK⟩ := hv
  have hx := B.exec
  have hb := B.bytes
  have hr := B.returns
  have hts := atoms_spec (ws := wsX3_parentOf) B.pre
  have hown : s9.vm.findClass RX3 = some m9.cls := findClass_of_methodNamed B.named
  have hlocks := B.notSynchronized
  have hA : ∀ a ∈ zLM q, (fun a => a ∈ zLM q) a := fun _ h => h
  have hin3 : ∀ w ∈ u_ws RX3 TX3 12, w ∈ wsX3_parentOf := by decide +kernel
  have hl := lv_entry ([.ref (q 0), .int (zI p)]) (n := 2) (Nat.le_of_ble_eq_true rfl)
  have hE : entryFrame m9 ag9 2 = F0 m9 0 ((lg_sl ([.ref (q 0), .int (zI p)]) ++ List.replicate (2 - (lg_sl ([.ref (q 0), .int (zI p)])).length) Slot.unset).toArray) [] := by rw [hav]; exact lg_entry_eq m9 _ _
  obtain ⟨Q0, hQ0⟩ : ∃ Q0, Q0 = MQ below (zQ D (wM cI cZ q pa sp al co da mo st mr 1 n td wn) (some (.int (zI 0))) (zLM q)) ag9 s9 0 0 (fun a => a ∈ zLM q) := ⟨_, rfl⟩
  show W p0 l e9 ({ frames := 2, cells := 0, slots := 0, locals := 43 }) s9 m9 ag9 below meth c9 s9.heap [] 0 0 (MQ below (zQ D (wM cI cZ q pa sp al co da mo st mr 1 n td wn) (some (.int (zI 0))) (zLM q)) ag9 s9 0 0 (fun a => a ∈ zLM q)) _
  rw [hE, ← hQ0]
  have hS : va_S (fun a => a ∈ zLM q) s9.heap s9.heap [] := va_S.rf
  generalize hH0 : s9.heap = H at hP ⊢
  have hS : va_S (fun a => a ∈ zLM q) s9.heap H [] := by rw [hH0] at hS ⊢; exact hS
  generalize (lg_sl ([.ref (q 0), .int (zI p)]) ++ List.replicate (2 - (lg_sl ([.ref (q 0), .int (zI p)])).length) Slot.unset).toArray = ls at hl ⊢
  have hl : lv_has ls 2 [(0, .ref (q 0)), (1, .int (zI p))] := hl
  refine lv_aload_n hx hb dX3_parentOf_0 rfl (lv_at hl 0 rfl) ?_
  refine zr_iconst hx hb dX3_parentOf_1 ?_
  refine va_put (D := D) (ci := 3) (v := .int (zI 0)) (ty := .int) (C := RX3) (T := TX3) (N := 12) hx hb hts hin3 tyX3 tyX3_ok nmX3 hown hK hP (zD hN rfl hA) hS 0 rfl rfl 0 (by decide) (hts (.fieldLink RX3 35 "MourningRibbonsModel" "thrown" "I") (by decide +kernel)) (fun _ h9 => h9) rfl (by decide +kernel) rfl rfl (Nat.le_of_ble_eq_true rfl) dX3_parentOf_2 (fun H locs hP _ hS => ?_)
  have hP : va_P D vwCl (wM cI cZ q pa sp al co da mo st mr 0 n td wn) H := hP
  refine lv_aload_n hx hb dX3_parentOf_5 rfl (lv_at hl 0 rfl) ?_
  refine lv_iload_n hx hb dX3_parentOf_6 rfl (lv_at hl 1 rfl) ?_
  refine zcallV (ci := 3) (q0 := 0) (cq := (RX3, TX3, 12)) (As := [.int (zI p)]) (rest := []) ⟨hx, hb, hml, hown, hts⟩ hK (kX3_isPerson l D cI cZ q hN pa sp al co da mo st mr 0 n td wn hn p (by omega)) (cwV 1 hts gX3_parentOf_X3_isPerson rfl rfl rfl (by decide +kernel) ⟨Nat.le_of_ble_eq_true rfl, Nat.le_of_ble_eq_true rfl⟩) hP hS hA rfl rfl rfl hl.1 rfl (Nat.le_of_ble_eq_true rfl) dX3_parentOf_7 ⟨Nat.zero_le _, Nat.zero_le _⟩ (fun H locs hP hS _ _ => ?_)
  refine W.eq (g2 := F0 m9 10 ls [.int (zI (bI (0 ≤ p ∧ p ≤ (n : Int) - 1)))]) rfl ?_
  refine zr_if_eq (tgt := 22) hx hb dX3_parentOf_10 (by decide) (bI_rg _) (fun c_1 => ?_) (fun c_1 => ?_)
  · have c_1 := bI_z c_1
    refine lv_aload_n hx hb dX3_parentOf_22 rfl (lv_at hl 0 rfl) ?_
    refine zr_iconst hx hb dX3_parentOf_23 ?_
    refine zcallV (ci := 3) (q0 := 0) (cq := (RX3, TX3, 12)) (As := [.int (zI 1)]) (rest := []) ⟨hx, hb, hml, hown, hts⟩ hK (kX3_no l D cI cZ q hN pa sp al co da mo st mr 0 n td wn 1) (cwV 1 hts gX3_parentOf_X3_no rfl rfl rfl (by decide +kernel) ⟨Nat.le_of_ble_eq_true rfl, Nat.le_of_ble_eq_true rfl⟩) hP hS hA rfl rfl rfl hl.1 rfl (Nat.le_of_ble_eq_true rfl) dX3_parentOf_24 ⟨Nat.zero_le _, Nat.zero_le _⟩ (fun H locs hP hS _ _ => ?_)
    refine W.eq (g2 := F0 m9 27 ls [.int (zI 0)]) rfl ?_
    rw [hQ0]
    exact zret_i hx hb hr hlocks (rfl) hP hS dX3_parentOf_27
  · have c_1 := bI_n c_1
    exfalso; omega
set_option maxHeartbeats 4000000 in
set_option maxRecDepth 100000 in
theorem kX3_marriedTook (l : Launch) (D : va_G) (cI cZ : ClassId) (q : Nat → Nat) (hN : (zLM q).Nodup) (pa : Int → Int) (sp : Int → Int) (al : Int → Int) (co : Int → Int) (da : Int → Int) (mo : Int → Int) (st : Int → Int) (mr : Int → Int) (th : Int) (n : Nat) (td : Int) (wn : Int) (hn : n ≤ 16) (hsp : ∀ j : Int, -1 ≤ sp j ∧ sp j ≤ 15) (p : Int) (h0 : -2147483648 ≤ p ∧ p ≤ 2147483647) (h1 : 0 ≤ p ∧ p < (n : Int)) : zM l yX3_marriedTo wsX3_marriedTo ({ frames := 2, cells := 0, slots := 0, locals := 43 }) D [(cI, .int), (cZ, .boolean)] [.ref (q 0), .int (zI p)] (wM cI cZ q pa sp al co da mo st mr th n td wn) (wM cI cZ q pa sp al co da mo st mr 0 n td wn) (some (.int (zI (sp p)))) (zLM q) := by
  refine Met.ofW (cc := cX3_marriedTo) (maxL := 2) (ret := (some .int)) (by decide) rfl ?_
  intro p0 e9 s9 m9 ag9 below meth c9 s₁ B hml hv
  obtain ⟨hav, hP, hK⟩ := hv
  have hx := B.exec
  have hb := B.bytes
  have hr := B.returns
  have hts := atoms_spec (ws := wsX3_marriedTo) B.pre
  have hown : s9.vm.findClass RX3 = some m9.cls := findClass_of_methodNamed B.named
  have hlocks := B.notSynchronized
  have hA : ∀ a ∈ zLM q, (fun a => a ∈ zLM q) a := fun _ h => h
  have hin3 : ∀ w ∈ u_ws RX3 TX3 12, w ∈ wsX3_marriedTo := by decide +kernel
  have hl := lv_entry ([.ref (q 0), .int (zI p)]) (n := 2) (Nat.le_of_ble_eq_true rfl)
  have hE : entryFrame m9 ag9 2 = F0 m9 0 ((lg_sl ([.ref (q 0), .int (zI p)]) ++ List.replicate (2 - (lg_sl ([.ref (q 0), .int (zI p)])).length) Slot.unset).toArray) [] := by rw [hav]; exact lg_entry_eq m9 _ _
  obtain ⟨Q0, hQ0⟩ : ∃ Q0, Q0 = MQ below (zQ D (wM cI cZ q pa sp al co da mo st mr 0 n td wn) (some (.int (zI (sp p)))) (zLM q)) ag9 s9 0 0 (fun a => a ∈ zLM q) := ⟨_, rfl⟩
  show W p0 l e9 ({ frames := 2, cells := 0, slots := 0, locals := 43 }) s9 m9 ag9 below meth c9 s9.heap [] 0 0 (MQ below (zQ D (wM cI cZ q pa sp al co da mo st mr 0 n td wn) (some (.int (zI (sp p)))) (zLM q)) ag9 s9 0 0 (fun a => a ∈ zLM q)) _
  rw [hE, ← hQ0]
  have hS : va_S (fun a => a ∈ zLM q) s9.heap s9.heap [] := va_S.rf
  generalize hH0 : s9.heap = H at hP ⊢
  have hS : va_S (fun a => a ∈ zLM q) s9.heap H [] := by rw [hH0] at hS ⊢; exact hS
  generalize (lg_sl ([.ref (q 0), .int (zI p)]) ++ List.replicate (2 - (lg_sl ([.ref (q 0), .int (zI p)])).length) Slot.unset).toArray = ls at hl ⊢
  have hl : lv_has ls 2 [(0, .ref (q 0)), (1, .int (zI p))] := hl
  refine lv_aload_n hx hb dX3_marriedTo_0 rfl (lv_at hl 0 rfl) ?_
  refine zr_iconst hx hb dX3_marriedTo_1 ?_
  refine va_put (D := D) (ci := 3) (v := .int (zI 0)) (ty := .int) (C := RX3) (T := TX3) (N := 12) hx hb hts hin3 tyX3 tyX3_ok nmX3 hown hK hP (zD hN rfl hA) hS 0 rfl rfl 0 (by decide) (hts (.fieldLink RX3 35 "MourningRibbonsModel" "thrown" "I") (by decide +kernel)) (fun _ h9 => h9) rfl (by decide +kernel) rfl rfl (Nat.le_of_ble_eq_true rfl) dX3_marriedTo_2 (fun H locs hP _ hS => ?_)
  have hP : va_P D vwCl (wM cI cZ q pa sp al co da mo st mr 0 n td wn) H := hP
  refine lv_aload_n hx hb dX3_marriedTo_5 rfl (lv_at hl 0 rfl) ?_
  refine lv_iload_n hx hb dX3_marriedTo_6 rfl (lv_at hl 1 rfl) ?_
  refine zcallV (ci := 3) (q0 := 0) (cq := (RX3, TX3, 12)) (As := [.int (zI p)]) (rest := []) ⟨hx, hb, hml, hown, hts⟩ hK (kX3_isPerson l D cI cZ q hN pa sp al co da mo st mr 0 n td wn hn p (by omega)) (cwV 1 hts gX3_marriedTo_X3_isPerson rfl rfl rfl (by decide +kernel) ⟨Nat.le_of_ble_eq_true rfl, Nat.le_of_ble_eq_true rfl⟩) hP hS hA rfl rfl rfl hl.1 rfl (Nat.le_of_ble_eq_true rfl) dX3_marriedTo_7 ⟨Nat.zero_le _, Nat.zero_le _⟩ (fun H locs hP hS _ _ => ?_)
  refine W.eq (g2 := F0 m9 10 ls [.int (zI (bI (0 ≤ p ∧ p ≤ (n : Int) - 1)))]) rfl ?_
  refine zr_if_eq (tgt := 22) hx hb dX3_marriedTo_10 (by decide) (bI_rg _) (fun c_1 => ?_) (fun c_1 => ?_)
  · have c_1 := bI_z c_1
    refine lv_aload_n hx hb dX3_marriedTo_22 rfl (lv_at hl 0 rfl) ?_
    refine zr_iconst hx hb dX3_marriedTo_23 ?_
    exfalso; omega
  · have c_1 := bI_n c_1
    refine lv_aload_n hx hb dX3_marriedTo_13 rfl (lv_at hl 0 rfl) ?_
    refine va_get (D := D) (ci := 3) (v := .ref (q 2)) (C := RX3) (T := TX3) (N := 12) hx hb hts hin3 hown hK hP 0 rfl rfl 3 (by decide) (hts (.fieldLink RX3 13 "MourningRibbonsModel" "married" "[I") (by decide +kernel)) (fun _ h9 => h9) rfl dX3_marriedTo_14 ?_
    refine lv_iload_n hx hb dX3_marriedTo_17 rfl (lv_at hl 1 rfl) ?_
    refine zr_iald (f := sp) (n := 16) hx hb hK hP 2 0 rfl rfl (by decide) (i := p) (by omega) (by omega) dX3_marriedTo_18 ?_
    have b_2 := hsp p
    refine lv_goto (tgt := 27) hx hb dX3_marriedTo_19 (by decide) ?_
    rw [hQ0]
    exact zret_i hx hb hr hlocks (rfl) hP hS dX3_marriedTo_27
set_option maxHeartbeats 4000000 in
set_option maxRecDepth 100000 in
theorem kX3_marriedToe1 (l : Launch) (D : va_G) (cI cZ : ClassId) (q : Nat → Nat) (hN : (zLM q).Nodup) (pa : Int → Int) (sp : Int → Int) (al : Int → Int) (co : Int → Int) (da : Int → Int) (mo : Int → Int) (st : Int → Int) (mr : Int → Int) (th : Int) (n : Nat) (td : Int) (wn : Int) (hn : n ≤ 16) (p : Int) (h0 : -2147483648 ≤ p ∧ p ≤ 2147483647) (h1 : ¬ (0 ≤ p ∧ p < (n : Int))) : zM l yX3_marriedTo wsX3_marriedTo ({ frames := 2, cells := 0, slots := 0, locals := 43 }) D [(cI, .int), (cZ, .boolean)] [.ref (q 0), .int (zI p)] (wM cI cZ q pa sp al co da mo st mr th n td wn) (wM cI cZ q pa sp al co da mo st mr 1 n td wn) (some (.int (zI 0))) (zLM q) := by
  refine Met.ofW (cc := cX3_marriedTo) (maxL := 2) (ret := (some .int)) (by decide) rfl ?_
  intro p0 e9 s9 m9 ag9 below meth c9 s₁ B hml hv
  obtain ⟨hav, hP, hK⟩ := hv
  have hx := B.exec
  have hb := B.bytes
  have hr := B.returns
  have hts := atoms_spec (ws := wsX3_marriedTo) B.pre
  have hown : s9.vm.findClass RX3 = some m9.cls := findClass_of_methodNamed B.named
  have hlocks := B.notSynchronized
  have hA : ∀ a ∈ zLM q, (fun a => a ∈ zLM q) a := fun _ h => h
  have hin3 : ∀ w ∈ u_ws RX3 TX3 12, w ∈ wsX3_marriedTo := by decide +kernel
  have hl := lv_entry ([.ref (q 0), .int (zI p)]) (n := 2) (Nat.le_of_ble_eq_true rfl)
  have hE : entryFrame m9 ag9 2 = F0 m9 0 ((lg_sl ([.ref (q 0), .int (zI p)]) ++ List.replicate (2 - (lg_sl ([.ref (q 0), .int (zI p)])).length) Slot.unset).toArray) [] := by rw [hav]; exact lg_entry_eq m9 _ _
  obtain ⟨Q0, hQ0⟩ : ∃ Q0, Q0 = MQ below (zQ D (wM cI cZ q pa sp al co da mo st mr 1 n td wn) (some (.int (zI 0))) (zLM q)) ag9 s9 0 0 (fun a => a ∈ zLM q) := ⟨_, rfl⟩
  show W p0 l e9 ({ frames := 2, cells := 0, slots := 0, locals := 43 }) s9 m9 ag9 below meth c9 s9.heap [] 0 0 (MQ below (zQ D (wM cI cZ q pa sp al co da mo st mr 1 n td wn) (some (.int (zI 0))) (zLM q)) ag9 s9 0 0 (fun a => a ∈ zLM q)) _
  rw [hE, ← hQ0]
  have hS : va_S (fun a => a ∈ zLM q) s9.heap s9.heap [] := va_S.rf
  generalize hH0 : s9.heap = H at hP ⊢
  have hS : va_S (fun a => a ∈ zLM q) s9.heap H [] := by rw [hH0] at hS ⊢; exact hS
  generalize (lg_sl ([.ref (q 0), .int (zI p)]) ++ List.replicate (2 - (lg_sl ([.ref (q 0), .int (zI p)])).length) Slot.unset).toArray = ls at hl ⊢
  have hl : lv_has ls 2 [(0, .ref (q 0)), (1, .int (zI p))] := hl
  refine lv_aload_n hx hb dX3_marriedTo_0 rfl (lv_at hl 0 rfl) ?_
  refine zr_iconst hx hb dX3_marriedTo_1 ?_
  refine va_put (D := D) (ci := 3) (v := .int (zI 0)) (ty := .int) (C := RX3) (T := TX3) (N := 12) hx hb hts hin3 tyX3 tyX3_ok nmX3 hown hK hP (zD hN rfl hA) hS 0 rfl rfl 0 (by decide) (hts (.fieldLink RX3 35 "MourningRibbonsModel" "thrown" "I") (by decide +kernel)) (fun _ h9 => h9) rfl (by decide +kernel) rfl rfl (Nat.le_of_ble_eq_true rfl) dX3_marriedTo_2 (fun H locs hP _ hS => ?_)
  have hP : va_P D vwCl (wM cI cZ q pa sp al co da mo st mr 0 n td wn) H := hP
  refine lv_aload_n hx hb dX3_marriedTo_5 rfl (lv_at hl 0 rfl) ?_
  refine lv_iload_n hx hb dX3_marriedTo_6 rfl (lv_at hl 1 rfl) ?_
  refine zcallV (ci := 3) (q0 := 0) (cq := (RX3, TX3, 12)) (As := [.int (zI p)]) (rest := []) ⟨hx, hb, hml, hown, hts⟩ hK (kX3_isPerson l D cI cZ q hN pa sp al co da mo st mr 0 n td wn hn p (by omega)) (cwV 1 hts gX3_marriedTo_X3_isPerson rfl rfl rfl (by decide +kernel) ⟨Nat.le_of_ble_eq_true rfl, Nat.le_of_ble_eq_true rfl⟩) hP hS hA rfl rfl rfl hl.1 rfl (Nat.le_of_ble_eq_true rfl) dX3_marriedTo_7 ⟨Nat.zero_le _, Nat.zero_le _⟩ (fun H locs hP hS _ _ => ?_)
  refine W.eq (g2 := F0 m9 10 ls [.int (zI (bI (0 ≤ p ∧ p ≤ (n : Int) - 1)))]) rfl ?_
  refine zr_if_eq (tgt := 22) hx hb dX3_marriedTo_10 (by decide) (bI_rg _) (fun c_1 => ?_) (fun c_1 => ?_)
  · have c_1 := bI_z c_1
    refine lv_aload_n hx hb dX3_marriedTo_22 rfl (lv_at hl 0 rfl) ?_
    refine zr_iconst hx hb dX3_marriedTo_23 ?_
    refine zcallV (ci := 3) (q0 := 0) (cq := (RX3, TX3, 12)) (As := [.int (zI 1)]) (rest := []) ⟨hx, hb, hml, hown, hts⟩ hK (kX3_no l D cI cZ q hN pa sp al co da mo st mr 0 n td wn 1) (cwV 1 hts gX3_marriedTo_X3_no rfl rfl rfl (by decide +kernel) ⟨Nat.le_of_ble_eq_true rfl, Nat.le_of_ble_eq_true rfl⟩) hP hS hA rfl rfl rfl hl.1 rfl (Nat.le_of_ble_eq_true rfl) dX3_marriedTo_24 ⟨Nat.zero_le _, Nat.zero_le _⟩ (fun H locs hP hS _ _ => ?_)
    refine W.eq (g2 := F0 m9 27 ls [.int (zI 0)]) rfl ?_
    rw [hQ0]
    exact zret_i hx hb hr hlocks (rfl) hP hS dX3_marriedTo_27
  · have c_1 := bI_n c_1
    exfalso; omega
set_option maxHeartbeats 4000000 in
set_option maxRecDepth 100000 in
theorem kX3_degreeOfok (l : Launch) (D : va_G) (cI cZ : ClassId) (q : Nat → Nat) (hN : (zLM q).Nodup) (pa : Int → Int) (sp : Int → Int) (al : Int → Int) (co : Int → Int) (da : Int → Int) (mo : Int → Int) (st : Int → Int) (mr : Int → Int) (th : Int) (n : Nat) (td : Int) (wn : Int) (hn : n ≤ 16) (hpa : ∀ j : Int, -1 ≤ pa j ∧ pa j ≤ 15) (hsp : ∀ j : Int, -1 ≤ sp j ∧ sp j ≤ 15) (hst : ∀ j : Int, -1 ≤ st j ∧ st j ≤ 4) (a : Int) (b : Int) (h8 : -2147483648 ≤ a ∧ a ≤ 2147483647) (h9 : -2147483648 ≤ b ∧ b ≤ 2147483647) (h1 : 0 ≤ a ∧ a < (n : Int)) (h2 : 0 ≤ b ∧ b < (n : Int)) : zM l yX3_degreeOf wsX3_degreeOf ({ frames := 3, cells := 0, slots := 0, locals := 68 }) D [(cI, .int), (cZ, .boolean)] [.ref (q 0), .int (zI a), .int (zI b)] (wM cI cZ q pa sp al co da mo st mr th n td wn) (wM cI cZ q pa sp al co da mo (goF pa sp n st a) mr 0 n td wn) (some (.int (zI (max 0 (goF pa sp n st a b))))) (zLM q) := by
  refine Met.ofW (cc := cX3_degreeOf) (maxL := 3) (ret := (some .int)) (by decide) rfl ?_
  intro p0 e9 s9 m9 ag9 below meth c9 s₁ B hml hv
  obtain ⟨hav, hP, hK⟩ := hv
  have hx := B.exec
  have hb := B.bytes
  have hr := B.returns
  have hts := atoms_spec (ws := wsX3_degreeOf) B.pre
  have hown : s9.vm.findClass RX3 = some m9.cls := findClass_of_methodNamed B.named
  have hlocks := B.notSynchronized
  have hA : ∀ a ∈ zLM q, (fun a => a ∈ zLM q) a := fun _ h => h
  have hin3 : ∀ w ∈ u_ws RX3 TX3 12, w ∈ wsX3_degreeOf := by decide +kernel
  have hl := lv_entry ([.ref (q 0), .int (zI a), .int (zI b)]) (n := 3) (Nat.le_of_ble_eq_true rfl)
  have hE : entryFrame m9 ag9 3 = F0 m9 0 ((lg_sl ([.ref (q 0), .int (zI a), .int (zI b)]) ++ List.replicate (3 - (lg_sl ([.ref (q 0), .int (zI a), .int (zI b)])).length) Slot.unset).toArray) [] := by rw [hav]; exact lg_entry_eq m9 _ _
  obtain ⟨Q0, hQ0⟩ : ∃ Q0, Q0 = MQ below (zQ D (wM cI cZ q pa sp al co da mo (goF pa sp n st a) mr 0 n td wn) (some (.int (zI (max 0 (goF pa sp n st a b))))) (zLM q)) ag9 s9 0 0 (fun a => a ∈ zLM q) := ⟨_, rfl⟩
  show W p0 l e9 ({ frames := 3, cells := 0, slots := 0, locals := 68 }) s9 m9 ag9 below meth c9 s9.heap [] 0 0 (MQ below (zQ D (wM cI cZ q pa sp al co da mo (goF pa sp n st a) mr 0 n td wn) (some (.int (zI (max 0 (goF pa sp n st a b))))) (zLM q)) ag9 s9 0 0 (fun a => a ∈ zLM q)) _
  rw [hE, ← hQ0]
  have hS : va_S (fun a => a ∈ zLM q) s9.heap s9.heap [] := va_S.rf
  generalize hH0 : s9.heap = H at hP ⊢
  have hS : va_S (fun a => a ∈ zLM q) s9.heap H [] := by rw [hH0] at hS ⊢; exact hS
  generalize (lg_sl ([.ref (q 0), .int (zI a), .int (zI b)]) ++ List.replicate (3 - (lg_sl ([.ref (q 0), .int (zI a), .int (zI b)])).length) Slot.unset).toArray = ls at hl ⊢
  have hl : lv_has ls 3 [(0, .ref (q 0)), (1, .int (zI a)), (2, .int (zI b))] := hl
  refine lv_aload_n hx hb dX3_degreeOf_0 rfl (lv_at hl 0 rfl) ?_
  refine zr_iconst hx hb dX3_degreeOf_1 ?_
  refine va_put (D := D) (ci := 3) (v := .int (zI 0)) (ty := .int) (C := RX3) (T := TX3) (N := 12) hx hb hts hin3 tyX3 tyX3_ok nmX3 hown hK hP (zD hN rfl hA) hS 0 rfl rfl 0 (by decide) (hts (.fieldLink RX3 35 "MourningRibbonsModel" "thrown" "I") (by decide +kernel)) (fun _ h9 => h9) rfl (by decide +kernel) rfl rfl (Nat.le_of_ble_eq_true rfl) dX3_degreeOf_2 (fun H locs hP _ hS => ?_)
  have hP : va_P D vwCl (wM cI cZ q pa sp al co da mo st mr 0 n td wn) H := hP
  refine lv_aload_n hx hb dX3_degreeOf_5 rfl (lv_at hl 0 rfl) ?_
  refine lv_iload_n hx hb dX3_degreeOf_6 rfl (lv_at hl 1 rfl) ?_
  refine zcallV (ci := 3) (q0 := 0) (cq := (RX3, TX3, 12)) (As := [.int (zI a)]) (rest := []) ⟨hx, hb, hml, hown, hts⟩ hK (kX3_isPerson l D cI cZ q hN pa sp al co da mo st mr 0 n td wn hn a (by omega)) (cwV 1 hts gX3_degreeOf_X3_isPerson rfl rfl rfl (by decide +kernel) ⟨Nat.le_of_ble_eq_true rfl, Nat.le_of_ble_eq_true rfl⟩) hP hS hA rfl rfl rfl hl.1 rfl (Nat.le_of_ble_eq_true rfl) dX3_degreeOf_7 ⟨Nat.zero_le _, Nat.zero_le _⟩ (fun H locs hP hS _ _ => ?_)
  refine W.eq (g2 := F0 m9 10 ls [.int (zI (bI (0 ≤ a ∧ a ≤ (n : Int) - 1)))]) rfl ?_
  refine zr_if_eq (tgt := 30) hx hb dX3_degreeOf_10 (by decide) (bI_rg _) (fun c_1 => ?_) (fun c_1 => ?_)
  · have c_1 := bI_z c_1
    refine lv_aload_n hx hb dX3_degreeOf_30 rfl (lv_at hl 0 rfl) ?_
    refine zr_iconst hx hb dX3_degreeOf_31 ?_
    exfalso; omega
  · have c_1 := bI_n c_1
    refine lv_aload_n hx hb dX3_degreeOf_13 rfl (lv_at hl 0 rfl) ?_
    refine lv_iload_n hx hb dX3_degreeOf_14 rfl (lv_at hl 2 rfl) ?_
    refine zcallV (ci := 3) (q0 := 0) (cq := (RX3, TX3, 12)) (As := [.int (zI b)]) (rest := []) ⟨hx, hb, hml, hown, hts⟩ hK (kX3_isPerson l D cI cZ q hN pa sp al co da mo st mr 0 n td wn hn b (by omega)) (cwV 1 hts gX3_degreeOf_X3_isPerson rfl rfl rfl (by decide +kernel) ⟨Nat.le_of_ble_eq_true rfl, Nat.le_of_ble_eq_true rfl⟩) hP hS hA rfl rfl rfl hl.1 rfl (Nat.le_of_ble_eq_true rfl) dX3_degreeOf_15 ⟨Nat.zero_le _, Nat.zero_le _⟩ (fun H locs hP hS _ _ => ?_)
    refine W.eq (g2 := F0 m9 18 ls [.int (zI (bI (0 ≤ b ∧ b ≤ (n : Int) - 1)))]) rfl ?_
    refine zr_if_eq (tgt := 30) hx hb dX3_degreeOf_18 (by decide) (bI_rg _) (fun c_2 => ?_) (fun c_2 => ?_)
    · have c_2 := bI_z c_2
      refine lv_aload_n hx hb dX3_degreeOf_30 rfl (lv_at hl 0 rfl) ?_
      refine zr_iconst hx hb dX3_degreeOf_31 ?_
      exfalso; omega
    · have c_2 := bI_n c_2
      refine lv_aload_n hx hb dX3_degreeOf_21 rfl (lv_at hl 0 rfl) ?_
      refine lv_iload_n hx hb dX3_degreeOf_22 rfl (lv_at hl 1 rfl) ?_
      refine lv_iload_n hx hb dX3_degreeOf_23 rfl (lv_at hl 2 rfl) ?_
      refine zcallV (ci := 3) (q0 := 0) (cq := (RX3, TX3, 12)) (As := [.int (zI a), .int (zI b)]) (rest := []) ⟨hx, hb, hml, hown, hts⟩ hK (kX3_degree l D cI cZ q hN pa sp al co da mo st mr 0 n td wn hpa hsp hst hn a b (by omega) (by omega)) (cwV 2 hts gX3_degreeOf_X3_degree rfl rfl rfl (by decide +kernel) ⟨Nat.le_of_ble_eq_true rfl, Nat.le_of_ble_eq_true rfl⟩) hP hS hA rfl rfl rfl hl.1 rfl (Nat.le_of_ble_eq_true rfl) dX3_degreeOf_24 ⟨Nat.zero_le _, Nat.zero_le _⟩ (fun H locs hP hS _ _ => ?_)
      have g_3 : ∀ j : Int, -1 ≤ (goF pa sp n st a) j ∧ (goF pa sp n st a) j ≤ 4 := goF_bd hst pa sp n a
      refine W.eq (g2 := F0 m9 27 ls [.int (zI (max 0 (goF pa sp n st a b)))]) rfl ?_
      refine lv_goto (tgt := 35) hx hb dX3_degreeOf_27 (by decide) ?_
      rw [hQ0]
      exact zret_i hx hb hr hlocks (rfl) hP hS dX3_degreeOf_35
set_option maxHeartbeats 4000000 in
set_option maxRecDepth 100000 in
theorem kX3_degreeOfe1 (l : Launch) (D : va_G) (cI cZ : ClassId) (q : Nat → Nat) (hN : (zLM q).Nodup) (pa : Int → Int) (sp : Int → Int) (al : Int → Int) (co : Int → Int) (da : Int → Int) (mo : Int → Int) (st : Int → Int) (mr : Int → Int) (th : Int) (n : Nat) (td : Int) (wn : Int) (hn : n ≤ 16) (a : Int) (b : Int) (h8 : -2147483648 ≤ a ∧ a ≤ 2147483647) (h9 : -2147483648 ≤ b ∧ b ≤ 2147483647) (h1 : ¬ (0 ≤ a ∧ a < (n : Int)) ∨ ¬ (0 ≤ b ∧ b < (n : Int))) : zM l yX3_degreeOf wsX3_degreeOf ({ frames := 3, cells := 0, slots := 0, locals := 68 }) D [(cI, .int), (cZ, .boolean)] [.ref (q 0), .int (zI a), .int (zI b)] (wM cI cZ q pa sp al co da mo st mr th n td wn) (wM cI cZ q pa sp al co da mo st mr 1 n td wn) (some (.int (zI 0))) (zLM q) := by
  refine Met.ofW (cc := cX3_degreeOf) (maxL := 3) (ret := (some .int)) (by decide) rfl ?_
  intro p0 e9 s9 m9 ag9 below meth c9 s₁ B hml hv
  obtain ⟨hav, hP, hK⟩ := hv
  have hx := B.exec
  have hb := B.bytes
  have hr := B.returns
  have hts := atoms_spec (ws := wsX3_degreeOf) B.pre
  have hown : s9.vm.findClass RX3 = some m9.cls := findClass_of_methodNamed B.named
  have hlocks := B.notSynchronized
  have hA : ∀ a ∈ zLM q, (fun a => a ∈ zLM q) a := fun _ h => h
  have hin3 : ∀ w ∈ u_ws RX3 TX3 12, w ∈ wsX3_degreeOf := by decide +kernel
  have hl := lv_entry ([.ref (q 0), .int (zI a), .int (zI b)]) (n := 3) (Nat.le_of_ble_eq_true rfl)
  have hE : entryFrame m9 ag9 3 = F0 m9 0 ((lg_sl ([.ref (q 0), .int (zI a), .int (zI b)]) ++ List.replicate (3 - (lg_sl ([.ref (q 0), .int (zI a), .int (zI b)])).length) Slot.unset).toArray) [] := by rw [hav]; exact lg_entry_eq m9 _ _
  obtain ⟨Q0, hQ0⟩ : ∃ Q0, Q0 = MQ below (zQ D (wM cI cZ q pa sp al co da mo st mr 1 n td wn) (some (.int (zI 0))) (zLM q)) ag9 s9 0 0 (fun a => a ∈ zLM q) := ⟨_, rfl⟩
  show W p0 l e9 ({ frames := 3, cells := 0, slots := 0, locals := 68 }) s9 m9 ag9 below meth c9 s9.heap [] 0 0 (MQ below (zQ D (wM cI cZ q pa sp al co da mo st mr 1 n td wn) (some (.int (zI 0))) (zLM q)) ag9 s9 0 0 (fun a => a ∈ zLM q)) _
  rw [hE, ← hQ0]
  have hS : va_S (fun a => a ∈ zLM q) s9.heap s9.heap [] := va_S.rf
  generalize hH0 : s9.heap = H at hP ⊢
  have hS : va_S (fun a => a ∈ zLM q) s9.heap H [] := by rw [hH0] at hS ⊢; exact hS
  generalize (lg_sl ([.ref (q 0), .int (zI a), .int (zI b)]) ++ List.replicate (3 - (lg_sl ([.ref (q 0), .int (zI a), .int (zI b)])).length) Slot.unset).toArray = ls at hl ⊢
  have hl : lv_has ls 3 [(0, .ref (q 0)), (1, .int (zI a)), (2, .int (zI b))] := hl
  refine lv_aload_n hx hb dX3_degreeOf_0 rfl (lv_at hl 0 rfl) ?_
  refine zr_iconst hx hb dX3_degreeOf_1 ?_
  refine va_put (D := D) (ci := 3) (v := .int (zI 0)) (ty := .int) (C := RX3) (T := TX3) (N := 12) hx hb hts hin3 tyX3 tyX3_ok nmX3 hown hK hP (zD hN rfl hA) hS 0 rfl rfl 0 (by decide) (hts (.fieldLink RX3 35 "MourningRibbonsModel" "thrown" "I") (by decide +kernel)) (fun _ h9 => h9) rfl (by decide +kernel) rfl rfl (Nat.le_of_ble_eq_true rfl) dX3_degreeOf_2 (fun H locs hP _ hS => ?_)
  have hP : va_P D vwCl (wM cI cZ q pa sp al co da mo st mr 0 n td wn) H := hP
  refine lv_aload_n hx hb dX3_degreeOf_5 rfl (lv_at hl 0 rfl) ?_
  refine lv_iload_n hx hb dX3_degreeOf_6 rfl (lv_at hl 1 rfl) ?_
  refine zcallV (ci := 3) (q0 := 0) (cq := (RX3, TX3, 12)) (As := [.int (zI a)]) (rest := []) ⟨hx, hb, hml, hown, hts⟩ hK (kX3_isPerson l D cI cZ q hN pa sp al co da mo st mr 0 n td wn hn a (by omega)) (cwV 1 hts gX3_degreeOf_X3_isPerson rfl rfl rfl (by decide +kernel) ⟨Nat.le_of_ble_eq_true rfl, Nat.le_of_ble_eq_true rfl⟩) hP hS hA rfl rfl rfl hl.1 rfl (Nat.le_of_ble_eq_true rfl) dX3_degreeOf_7 ⟨Nat.zero_le _, Nat.zero_le _⟩ (fun H locs hP hS _ _ => ?_)
  refine W.eq (g2 := F0 m9 10 ls [.int (zI (bI (0 ≤ a ∧ a ≤ (n : Int) - 1)))]) rfl ?_
  refine zr_if_eq (tgt := 30) hx hb dX3_degreeOf_10 (by decide) (bI_rg _) (fun c_1 => ?_) (fun c_1 => ?_)
  · have c_1 := bI_z c_1
    refine lv_aload_n hx hb dX3_degreeOf_30 rfl (lv_at hl 0 rfl) ?_
    refine zr_iconst hx hb dX3_degreeOf_31 ?_
    refine zcallV (ci := 3) (q0 := 0) (cq := (RX3, TX3, 12)) (As := [.int (zI 1)]) (rest := []) ⟨hx, hb, hml, hown, hts⟩ hK (kX3_no l D cI cZ q hN pa sp al co da mo st mr 0 n td wn 1) (cwV 1 hts gX3_degreeOf_X3_no rfl rfl rfl (by decide +kernel) ⟨Nat.le_of_ble_eq_true rfl, Nat.le_of_ble_eq_true rfl⟩) hP hS hA rfl rfl rfl hl.1 rfl (Nat.le_of_ble_eq_true rfl) dX3_degreeOf_32 ⟨Nat.zero_le _, Nat.zero_le _⟩ (fun H locs hP hS _ _ => ?_)
    refine W.eq (g2 := F0 m9 35 ls [.int (zI 0)]) rfl ?_
    rw [hQ0]
    exact zret_i hx hb hr hlocks (rfl) hP hS dX3_degreeOf_35
  · have c_1 := bI_n c_1
    refine lv_aload_n hx hb dX3_degreeOf_13 rfl (lv_at hl 0 rfl) ?_
    refine lv_iload_n hx hb dX3_degreeOf_14 rfl (lv_at hl 2 rfl) ?_
    refine zcallV (ci := 3) (q0 := 0) (cq := (RX3, TX3, 12)) (As := [.int (zI b)]) (rest := []) ⟨hx, hb, hml, hown, hts⟩ hK (kX3_isPerson l D cI cZ q hN pa sp al co da mo st mr 0 n td wn hn b (by omega)) (cwV 1 hts gX3_degreeOf_X3_isPerson rfl rfl rfl (by decide +kernel) ⟨Nat.le_of_ble_eq_true rfl, Nat.le_of_ble_eq_true rfl⟩) hP hS hA rfl rfl rfl hl.1 rfl (Nat.le_of_ble_eq_true rfl) dX3_degreeOf_15 ⟨Nat.zero_le _, Nat.zero_le _⟩ (fun H locs hP hS _ _ => ?_)
    refine W.eq (g2 := F0 m9 18 ls [.int (zI (bI (0 ≤ b ∧ b ≤ (n : Int) - 1)))]) rfl ?_
    refine zr_if_eq (tgt := 30) hx hb dX3_degreeOf_18 (by decide) (bI_rg _) (fun c_2 => ?_) (fun c_2 => ?_)
    · have c_2 := bI_z c_2
      refine lv_aload_n hx hb dX3_degreeOf_30 rfl (lv_at hl 0 rfl) ?_
      refine zr_iconst hx hb dX3_degreeOf_31 ?_
      refine zcallV (ci := 3) (q0 := 0) (cq := (RX3, TX3, 12)) (As := [.int (zI 1)]) (rest := []) ⟨hx, hb, hml, hown, hts⟩ hK (kX3_no l D cI cZ q hN pa sp al co da mo st mr 0 n td wn 1) (cwV 1 hts gX3_degreeOf_X3_no rfl rfl rfl (by decide +kernel) ⟨Nat.le_of_ble_eq_true rfl, Nat.le_of_ble_eq_true rfl⟩) hP hS hA rfl rfl rfl hl.1 rfl (Nat.le_of_ble_eq_true rfl) dX3_degreeOf_32 ⟨Nat.zero_le _, Nat.zero_le _⟩ (fun H locs hP hS _ _ => ?_)
      refine W.eq (g2 := F0 m9 35 ls [.int (zI 0)]) rfl ?_
      rw [hQ0]
      exact zret_i hx hb hr hlocks (rfl) hP hS dX3_degreeOf_35
    · have c_2 := bI_n c_2
      refine lv_aload_n hx hb dX3_degreeOf_21 rfl (lv_at hl 0 rfl) ?_
      refine lv_iload_n hx hb dX3_degreeOf_22 rfl (lv_at hl 1 rfl) ?_
      refine lv_iload_n hx hb dX3_degreeOf_23 rfl (lv_at hl 2 rfl) ?_
      exfalso; omega
set_option maxHeartbeats 4000000 in
set_option maxRecDepth 100000 in
theorem kX3_kinOfok (l : Launch) (D : va_G) (cI cZ : ClassId) (q : Nat → Nat) (hN : (zLM q).Nodup) (pa : Int → Int) (sp : Int → Int) (al : Int → Int) (co : Int → Int) (da : Int → Int) (mo : Int → Int) (st : Int → Int) (mr : Int → Int) (th : Int) (n : Nat) (td : Int) (wn : Int) (hn : n ≤ 16) (hpa : ∀ j : Int, -1 ≤ pa j ∧ pa j ≤ 15) (hsp : ∀ j : Int, -1 ≤ sp j ∧ sp j ≤ 15) (hal : ∀ j : Int, 0 ≤ al j ∧ al j ≤ 1) (hst : ∀ j : Int, -1 ≤ st j ∧ st j ≤ 4) (p : Int) (g : Int) (h0 : -2147483648 ≤ p ∧ p ≤ 2147483647) (h1 : 0 ≤ p ∧ p < (n : Int)) (h9 : -2147483648 ≤ g ∧ g ≤ 2147483647) (h2 : 1 ≤ g ∧ g ≤ 4) : zM l yX3_kinOf wsX3_kinOf ({ frames := 3, cells := 0, slots := 0, locals := 70 }) D [(cI, .int), (cZ, .boolean)] [.ref (q 0), .int (zI p), .int (zI g)] (wM cI cZ q pa sp al co da mo st mr th n td wn) (wM cI cZ q pa sp al co da mo (goF pa sp n st p) mr 0 n td wn) (some (.int (zI (smF (kinF al (goF pa sp n st p) g) n)))) (zLM q) := by
  refine Met.ofW (cc := cX3_kinOf) (maxL := 3) (ret := (some .int)) (by decide) rfl ?_
  intro p0 e9 s9 m9 ag9 below meth c9 s₁ B hml hv
  obtain ⟨hav, hP, hK⟩ := hv
  have hx := B.exec
  have hb := B.bytes
  have hr := B.returns
  have hts := atoms_spec (ws := wsX3_kinOf) B.pre
  have hown : s9.vm.findClass RX3 = some m9.cls := findClass_of_methodNamed B.named
  have hlocks := B.notSynchronized
  have hA : ∀ a ∈ zLM q, (fun a => a ∈ zLM q) a := fun _ h => h
  have hin3 : ∀ w ∈ u_ws RX3 TX3 12, w ∈ wsX3_kinOf := by decide +kernel
  have hl := lv_entry ([.ref (q 0), .int (zI p), .int (zI g)]) (n := 3) (Nat.le_of_ble_eq_true rfl)
  have hE : entryFrame m9 ag9 3 = F0 m9 0 ((lg_sl ([.ref (q 0), .int (zI p), .int (zI g)]) ++ List.replicate (3 - (lg_sl ([.ref (q 0), .int (zI p), .int (zI g)])).length) Slot.unset).toArray) [] := by rw [hav]; exact lg_entry_eq m9 _ _
  obtain ⟨Q0, hQ0⟩ : ∃ Q0, Q0 = MQ below (zQ D (wM cI cZ q pa sp al co da mo (goF pa sp n st p) mr 0 n td wn) (some (.int (zI (smF (kinF al (goF pa sp n st p) g) n)))) (zLM q)) ag9 s9 0 0 (fun a => a ∈ zLM q) := ⟨_, rfl⟩
  show W p0 l e9 ({ frames := 3, cells := 0, slots := 0, locals := 70 }) s9 m9 ag9 below meth c9 s9.heap [] 0 0 (MQ below (zQ D (wM cI cZ q pa sp al co da mo (goF pa sp n st p) mr 0 n td wn) (some (.int (zI (smF (kinF al (goF pa sp n st p) g) n)))) (zLM q)) ag9 s9 0 0 (fun a => a ∈ zLM q)) _
  rw [hE, ← hQ0]
  have hS : va_S (fun a => a ∈ zLM q) s9.heap s9.heap [] := va_S.rf
  generalize hH0 : s9.heap = H at hP ⊢
  have hS : va_S (fun a => a ∈ zLM q) s9.heap H [] := by rw [hH0] at hS ⊢; exact hS
  generalize (lg_sl ([.ref (q 0), .int (zI p), .int (zI g)]) ++ List.replicate (3 - (lg_sl ([.ref (q 0), .int (zI p), .int (zI g)])).length) Slot.unset).toArray = ls at hl ⊢
  have hl : lv_has ls 3 [(0, .ref (q 0)), (1, .int (zI p)), (2, .int (zI g))] := hl
  refine lv_aload_n hx hb dX3_kinOf_0 rfl (lv_at hl 0 rfl) ?_
  refine zr_iconst hx hb dX3_kinOf_1 ?_
  refine va_put (D := D) (ci := 3) (v := .int (zI 0)) (ty := .int) (C := RX3) (T := TX3) (N := 12) hx hb hts hin3 tyX3 tyX3_ok nmX3 hown hK hP (zD hN rfl hA) hS 0 rfl rfl 0 (by decide) (hts (.fieldLink RX3 35 "MourningRibbonsModel" "thrown" "I") (by decide +kernel)) (fun _ h9 => h9) rfl (by decide +kernel) rfl rfl (Nat.le_of_ble_eq_true rfl) dX3_kinOf_2 (fun H locs hP _ hS => ?_)
  have hP : va_P D vwCl (wM cI cZ q pa sp al co da mo st mr 0 n td wn) H := hP
  refine lv_aload_n hx hb dX3_kinOf_5 rfl (lv_at hl 0 rfl) ?_
  refine lv_iload_n hx hb dX3_kinOf_6 rfl (lv_at hl 1 rfl) ?_
  refine zcallV (ci := 3) (q0 := 0) (cq := (RX3, TX3, 12)) (As := [.int (zI p)]) (rest := []) ⟨hx, hb, hml, hown, hts⟩ hK (kX3_isPerson l D cI cZ q hN pa sp al co da mo st mr 0 n td wn hn p (by omega)) (cwV 1 hts gX3_kinOf_X3_isPerson rfl rfl rfl (by decide +kernel) ⟨Nat.le_of_ble_eq_true rfl, Nat.le_of_ble_eq_true rfl⟩) hP hS hA rfl rfl rfl hl.1 rfl (Nat.le_of_ble_eq_true rfl) dX3_kinOf_7 ⟨Nat.zero_le _, Nat.zero_le _⟩ (fun H locs hP hS _ _ => ?_)
  refine W.eq (g2 := F0 m9 10 ls [.int (zI (bI (0 ≤ p ∧ p ≤ (n : Int) - 1)))]) rfl ?_
  refine zr_if_eq (tgt := 29) hx hb dX3_kinOf_10 (by decide) (bI_rg _) (fun c_1 => ?_) (fun c_1 => ?_)
  · have c_1 := bI_z c_1
    refine lv_aload_n hx hb dX3_kinOf_29 rfl (lv_at hl 0 rfl) ?_
    refine zr_iconst hx hb dX3_kinOf_30 ?_
    exfalso; omega
  · have c_1 := bI_n c_1
    refine lv_iload_n hx hb dX3_kinOf_13 rfl (lv_at hl 2 rfl) ?_
    refine zcallP (As := [.int (zI g)]) (rest := []) ⟨hx, hb, hml, hown, hts⟩ (kX3_isDegree l D g (by omega)) hK (va_cwS 1 hts gX3_kinOf_X3_isDegree rfl rfl rfl (by decide +kernel) ⟨Nat.le_of_ble_eq_true rfl, Nat.le_of_ble_eq_true rfl⟩) hP hS rfl hl.1 rfl (Nat.le_of_ble_eq_true rfl) dX3_kinOf_14 ⟨Nat.zero_le _, Nat.zero_le _⟩ (fun H locs hP hS => ?_)
    refine W.eq (g2 := F0 m9 17 ls [.int (zI (bI (1 ≤ g ∧ g ≤ 4)))]) rfl ?_
    refine zr_if_eq (tgt := 29) hx hb dX3_kinOf_17 (by decide) (bI_rg _) (fun c_2 => ?_) (fun c_2 => ?_)
    · have c_2 := bI_z c_2
      refine lv_aload_n hx hb dX3_kinOf_29 rfl (lv_at hl 0 rfl) ?_
      refine zr_iconst hx hb dX3_kinOf_30 ?_
      exfalso; omega
    · have c_2 := bI_n c_2
      refine lv_aload_n hx hb dX3_kinOf_20 rfl (lv_at hl 0 rfl) ?_
      refine lv_iload_n hx hb dX3_kinOf_21 rfl (lv_at hl 1 rfl) ?_
      refine lv_iload_n hx hb dX3_kinOf_22 rfl (lv_at hl 2 rfl) ?_
      refine zcallV (ci := 3) (q0 := 0) (cq := (RX3, TX3, 12)) (As := [.int (zI p), .int (zI g)]) (rest := []) ⟨hx, hb, hml, hown, hts⟩ hK (kX3_kin l D cI cZ q hN pa sp al co da mo st mr 0 n td wn hpa hsp hal hst hn p g (by omega) (by omega)) (cwV 2 hts gX3_kinOf_X3_kin rfl rfl rfl (by decide +kernel) ⟨Nat.le_of_ble_eq_true rfl, Nat.le_of_ble_eq_true rfl⟩) hP hS hA rfl rfl rfl hl.1 rfl (Nat.le_of_ble_eq_true rfl) dX3_kinOf_23 ⟨Nat.zero_le _, Nat.zero_le _⟩ (fun H locs hP hS _ _ => ?_)
      have g_3 : ∀ j : Int, -1 ≤ (goF pa sp n st p) j ∧ (goF pa sp n st p) j ≤ 4 := goF_bd hst pa sp n p
      refine W.eq (g2 := F0 m9 26 ls [.int (zI (smF (kinF al (goF pa sp n st p) g) n))]) rfl ?_
      refine lv_goto (tgt := 34) hx hb dX3_kinOf_26 (by decide) ?_
      rw [hQ0]
      exact zret_i hx hb hr hlocks (rfl) hP hS dX3_kinOf_34
set_option maxHeartbeats 4000000 in
set_option maxRecDepth 100000 in
theorem kX3_kinOfe1 (l : Launch) (D : va_G) (cI cZ : ClassId) (q : Nat → Nat) (hN : (zLM q).Nodup) (pa : Int → Int) (sp : Int → Int) (al : Int → Int) (co : Int → Int) (da : Int → Int) (mo : Int → Int) (st : Int → Int) (mr : Int → Int) (th : Int) (n : Nat) (td : Int) (wn : Int) (hn : n ≤ 16) (p : Int) (g : Int) (h0 : -2147483648 ≤ p ∧ p ≤ 2147483647) (h9 : -2147483648 ≤ g ∧ g ≤ 2147483647) (h1 : ¬ (0 ≤ p ∧ p < (n : Int)) ∨ ¬ (1 ≤ g ∧ g ≤ 4)) : zM l yX3_kinOf wsX3_kinOf ({ frames := 3, cells := 0, slots := 0, locals := 70 }) D [(cI, .int), (cZ, .boolean)] [.ref (q 0), .int (zI p), .int (zI g)] (wM cI cZ q pa sp al co da mo st mr th n td wn) (wM cI cZ q pa sp al co da mo st mr 1 n td wn) (some (.int (zI 0))) (zLM q) := by
  refine Met.ofW (cc := cX3_kinOf) (maxL := 3) (ret := (some .int)) (by decide) rfl ?_
  intro p0 e9 s9 m9 ag9 below meth c9 s₁ B hml hv
  obtain ⟨hav, hP, hK⟩ := hv
  have hx := B.exec
  have hb := B.bytes
  have hr := B.returns
  have hts := atoms_spec (ws := wsX3_kinOf) B.pre
  have hown : s9.vm.findClass RX3 = some m9.cls := findClass_of_methodNamed B.named
  have hlocks := B.notSynchronized
  have hA : ∀ a ∈ zLM q, (fun a => a ∈ zLM q) a := fun _ h => h
  have hin3 : ∀ w ∈ u_ws RX3 TX3 12, w ∈ wsX3_kinOf := by decide +kernel
  have hl := lv_entry ([.ref (q 0), .int (zI p), .int (zI g)]) (n := 3) (Nat.le_of_ble_eq_true rfl)
  have hE : entryFrame m9 ag9 3 = F0 m9 0 ((lg_sl ([.ref (q 0), .int (zI p), .int (zI g)]) ++ List.replicate (3 - (lg_sl ([.ref (q 0), .int (zI p), .int (zI g)])).length) Slot.unset).toArray) [] := by rw [hav]; exact lg_entry_eq m9 _ _
  obtain ⟨Q0, hQ0⟩ : ∃ Q0, Q0 = MQ below (zQ D (wM cI cZ q pa sp al co da mo st mr 1 n td wn) (some (.int (zI 0))) (zLM q)) ag9 s9 0 0 (fun a => a ∈ zLM q) := ⟨_, rfl⟩
  show W p0 l e9 ({ frames := 3, cells := 0, slots := 0, locals := 70 }) s9 m9 ag9 below meth c9 s9.heap [] 0 0 (MQ below (zQ D (wM cI cZ q pa sp al co da mo st mr 1 n td wn) (some (.int (zI 0))) (zLM q)) ag9 s9 0 0 (fun a => a ∈ zLM q)) _
  rw [hE, ← hQ0]
  have hS : va_S (fun a => a ∈ zLM q) s9.heap s9.heap [] := va_S.rf
  generalize hH0 : s9.heap = H at hP ⊢
  have hS : va_S (fun a => a ∈ zLM q) s9.heap H [] := by rw [hH0] at hS ⊢; exact hS
  generalize (lg_sl ([.ref (q 0), .int (zI p), .int (zI g)]) ++ List.replicate (3 - (lg_sl ([.ref (q 0), .int (zI p), .int (zI g)])).length) Slot.unset).toArray = ls at hl ⊢
  have hl : lv_has ls 3 [(0, .ref (q 0)), (1, .int (zI p)), (2, .int (zI g))] := hl
  refine lv_aload_n hx hb dX3_kinOf_0 rfl (lv_at hl 0 rfl) ?_
  refine zr_iconst hx hb dX3_kinOf_1 ?_
  refine va_put (D := D) (ci := 3) (v := .int (zI 0)) (ty := .int) (C := RX3) (T := TX3) (N := 12) hx hb hts hin3 tyX3 tyX3_ok nmX3 hown hK hP (zD hN rfl hA) hS 0 rfl rfl 0 (by decide) (hts (.fieldLink RX3 35 "MourningRibbonsModel" "thrown" "I") (by decide +kernel)) (fun _ h9 => h9) rfl (by decide +kernel) rfl rfl (Nat.le_of_ble_eq_true rfl) dX3_kinOf_2 (fun H locs hP _ hS => ?_)
  have hP : va_P D vwCl (wM cI cZ q pa sp al co da mo st mr 0 n td wn) H := hP
  refine lv_aload_n hx hb dX3_kinOf_5 rfl (lv_at hl 0 rfl) ?_
  refine lv_iload_n hx hb dX3_kinOf_6 rfl (lv_at hl 1 rfl) ?_
  refine zcallV (ci := 3) (q0 := 0) (cq := (RX3, TX3, 12)) (As := [.int (zI p)]) (rest := []) ⟨hx, hb, hml, hown, hts⟩ hK (kX3_isPerson l D cI cZ q hN pa sp al co da mo st mr 0 n td wn hn p (by omega)) (cwV 1 hts gX3_kinOf_X3_isPerson rfl rfl rfl (by decide +kernel) ⟨Nat.le_of_ble_eq_true rfl, Nat.le_of_ble_eq_true rfl⟩) hP hS hA rfl rfl rfl hl.1 rfl (Nat.le_of_ble_eq_true rfl) dX3_kinOf_7 ⟨Nat.zero_le _, Nat.zero_le _⟩ (fun H locs hP hS _ _ => ?_)
  refine W.eq (g2 := F0 m9 10 ls [.int (zI (bI (0 ≤ p ∧ p ≤ (n : Int) - 1)))]) rfl ?_
  refine zr_if_eq (tgt := 29) hx hb dX3_kinOf_10 (by decide) (bI_rg _) (fun c_1 => ?_) (fun c_1 => ?_)
  · have c_1 := bI_z c_1
    refine lv_aload_n hx hb dX3_kinOf_29 rfl (lv_at hl 0 rfl) ?_
    refine zr_iconst hx hb dX3_kinOf_30 ?_
    refine zcallV (ci := 3) (q0 := 0) (cq := (RX3, TX3, 12)) (As := [.int (zI 1)]) (rest := []) ⟨hx, hb, hml, hown, hts⟩ hK (kX3_no l D cI cZ q hN pa sp al co da mo st mr 0 n td wn 1) (cwV 1 hts gX3_kinOf_X3_no rfl rfl rfl (by decide +kernel) ⟨Nat.le_of_ble_eq_true rfl, Nat.le_of_ble_eq_true rfl⟩) hP hS hA rfl rfl rfl hl.1 rfl (Nat.le_of_ble_eq_true rfl) dX3_kinOf_31 ⟨Nat.zero_le _, Nat.zero_le _⟩ (fun H locs hP hS _ _ => ?_)
    refine W.eq (g2 := F0 m9 34 ls [.int (zI 0)]) rfl ?_
    rw [hQ0]
    exact zret_i hx hb hr hlocks (rfl) hP hS dX3_kinOf_34
  · have c_1 := bI_n c_1
    refine lv_iload_n hx hb dX3_kinOf_13 rfl (lv_at hl 2 rfl) ?_
    refine zcallP (As := [.int (zI g)]) (rest := []) ⟨hx, hb, hml, hown, hts⟩ (kX3_isDegree l D g (by omega)) hK (va_cwS 1 hts gX3_kinOf_X3_isDegree rfl rfl rfl (by decide +kernel) ⟨Nat.le_of_ble_eq_true rfl, Nat.le_of_ble_eq_true rfl⟩) hP hS rfl hl.1 rfl (Nat.le_of_ble_eq_true rfl) dX3_kinOf_14 ⟨Nat.zero_le _, Nat.zero_le _⟩ (fun H locs hP hS => ?_)
    refine W.eq (g2 := F0 m9 17 ls [.int (zI (bI (1 ≤ g ∧ g ≤ 4)))]) rfl ?_
    refine zr_if_eq (tgt := 29) hx hb dX3_kinOf_17 (by decide) (bI_rg _) (fun c_2 => ?_) (fun c_2 => ?_)
    · have c_2 := bI_z c_2
      refine lv_aload_n hx hb dX3_kinOf_29 rfl (lv_at hl 0 rfl) ?_
      refine zr_iconst hx hb dX3_kinOf_30 ?_
      refine zcallV (ci := 3) (q0 := 0) (cq := (RX3, TX3, 12)) (As := [.int (zI 1)]) (rest := []) ⟨hx, hb, hml, hown, hts⟩ hK (kX3_no l D cI cZ q hN pa sp al co da mo st mr 0 n td wn 1) (cwV 1 hts gX3_kinOf_X3_no rfl rfl rfl (by decide +kernel) ⟨Nat.le_of_ble_eq_true rfl, Nat.le_of_ble_eq_true rfl⟩) hP hS hA rfl rfl rfl hl.1 rfl (Nat.le_of_ble_eq_true rfl) dX3_kinOf_31 ⟨Nat.zero_le _, Nat.zero_le _⟩ (fun H locs hP hS _ _ => ?_)
      refine W.eq (g2 := F0 m9 34 ls [.int (zI 0)]) rfl ?_
      rw [hQ0]
      exact zret_i hx hb hr hlocks (rfl) hP hS dX3_kinOf_34
    · have c_2 := bI_n c_2
      refine lv_aload_n hx hb dX3_kinOf_20 rfl (lv_at hl 0 rfl) ?_
      refine lv_iload_n hx hb dX3_kinOf_21 rfl (lv_at hl 1 rfl) ?_
      refine lv_iload_n hx hb dX3_kinOf_22 rfl (lv_at hl 2 rfl) ?_
      exfalso; omega
set_option maxHeartbeats 4000000 in
set_option maxRecDepth 100000 in
theorem kX3_stageColourok (l : Launch) (D : va_G) (cI cZ : ClassId) (q : Nat → Nat) (hN : (zLM q).Nodup) (pa : Int → Int) (sp : Int → Int) (al : Int → Int) (co : Int → Int) (da : Int → Int) (mo : Int → Int) (st : Int → Int) (mr : Int → Int) (th : Int) (n : Nat) (td : Int) (wn : Int) (hco : ∀ j : Int, 0 ≤ co j ∧ co j ≤ 5) (g : Int) (s : Int) (h8 : -2147483648 ≤ g ∧ g ≤ 2147483647) (h9 : -2147483648 ≤ s ∧ s ≤ 2147483647) (h1 : 1 ≤ g ∧ g ≤ 4) (h2 : 0 ≤ s ∧ s ≤ 2) : zM l yX3_stageColour wsX3_stageColour ({ frames := 2, cells := 0, slots := 0, locals := 42 }) D [(cI, .int), (cZ, .boolean)] [.ref (q 0), .int (zI g), .int (zI s)] (wM cI cZ q pa sp al co da mo st mr th n td wn) (wM cI cZ q pa sp al co da mo st mr 0 n td wn) (some (.int (zI (co (3 * (g - 1) + s))))) (zLM q) := by
  refine Met.ofW (cc := cX3_stageColour) (maxL := 3) (ret := (some .int)) (by decide) rfl ?_
  intro p0 e9 s9 m9 ag9 below meth c9 s₁ B hml hv
  obtain ⟨hav, hP, hK⟩ := hv
  have hx := B.exec
  have hb := B.bytes
  have hr := B.returns
  have hts := atoms_spec (ws := wsX3_stageColour) B.pre
  have hown : s9.vm.findClass RX3 = some m9.cls := findClass_of_methodNamed B.named
  have hlocks := B.notSynchronized
  have hA : ∀ a ∈ zLM q, (fun a => a ∈ zLM q) a := fun _ h => h
  have hin3 : ∀ w ∈ u_ws RX3 TX3 12, w ∈ wsX3_stageColour := by decide +kernel
  have hl := lv_entry ([.ref (q 0), .int (zI g), .int (zI s)]) (n := 3) (Nat.le_of_ble_eq_true rfl)
  have hE : entryFrame m9 ag9 3 = F0 m9 0 ((lg_sl ([.ref (q 0), .int (zI g), .int (zI s)]) ++ List.replicate (3 - (lg_sl ([.ref (q 0), .int (zI g), .int (zI s)])).length) Slot.unset).toArray) [] := by rw [hav]; exact lg_entry_eq m9 _ _
  obtain ⟨Q0, hQ0⟩ : ∃ Q0, Q0 = MQ below (zQ D (wM cI cZ q pa sp al co da mo st mr 0 n td wn) (some (.int (zI (co (3 * (g - 1) + s))))) (zLM q)) ag9 s9 0 0 (fun a => a ∈ zLM q) := ⟨_, rfl⟩
  show W p0 l e9 ({ frames := 2, cells := 0, slots := 0, locals := 42 }) s9 m9 ag9 below meth c9 s9.heap [] 0 0 (MQ below (zQ D (wM cI cZ q pa sp al co da mo st mr 0 n td wn) (some (.int (zI (co (3 * (g - 1) + s))))) (zLM q)) ag9 s9 0 0 (fun a => a ∈ zLM q)) _
  rw [hE, ← hQ0]
  have hS : va_S (fun a => a ∈ zLM q) s9.heap s9.heap [] := va_S.rf
  generalize hH0 : s9.heap = H at hP ⊢
  have hS : va_S (fun a => a ∈ zLM q) s9.heap H [] := by rw [hH0] at hS ⊢; exact hS
  generalize (lg_sl ([.ref (q 0), .int (zI g), .int (zI s)]) ++ List.replicate (3 - (lg_sl ([.ref (q 0), .int (zI g), .int (zI s)])).length) Slot.unset).toArray = ls at hl ⊢
  have hl : lv_has ls 3 [(0, .ref (q 0)), (1, .int (zI g)), (2, .int (zI s))] := hl
  refine lv_aload_n hx hb dX3_stageColour_0 rfl (lv_at hl 0 rfl) ?_
  refine zr_iconst hx hb dX3_stageColour_1 ?_
  refine va_put (D := D) (ci := 3) (v := .int (zI 0)) (ty := .int) (C := RX3) (T := TX3) (N := 12) hx hb hts hin3 tyX3 tyX3_ok nmX3 hown hK hP (zD hN rfl hA) hS 0 rfl rfl 0 (by decide) (hts (.fieldLink RX3 35 "MourningRibbonsModel" "thrown" "I") (by decide +kernel)) (fun _ h9 => h9) rfl (by decide +kernel) rfl rfl (Nat.le_of_ble_eq_true rfl) dX3_stageColour_2 (fun H locs hP _ hS => ?_)
  have hP : va_P D vwCl (wM cI cZ q pa sp al co da mo st mr 0 n td wn) H := hP
  refine lv_iload_n hx hb dX3_stageColour_5 rfl (lv_at hl 1 rfl) ?_
  refine zcallP (As := [.int (zI g)]) (rest := []) ⟨hx, hb, hml, hown, hts⟩ (kX3_isDegree l D g (by omega)) hK (va_cwS 1 hts gX3_stageColour_X3_isDegree rfl rfl rfl (by decide +kernel) ⟨Nat.le_of_ble_eq_true rfl, Nat.le_of_ble_eq_true rfl⟩) hP hS rfl hl.1 rfl (Nat.le_of_ble_eq_true rfl) dX3_stageColour_6 ⟨Nat.zero_le _, Nat.zero_le _⟩ (fun H locs hP hS => ?_)
  refine W.eq (g2 := F0 m9 9 ls [.int (zI (bI (1 ≤ g ∧ g ≤ 4)))]) rfl ?_
  refine zr_if_eq (tgt := 32) hx hb dX3_stageColour_9 (by decide) (bI_rg _) (fun c_1 => ?_) (fun c_1 => ?_)
  · have c_1 := bI_z c_1
    refine lv_aload_n hx hb dX3_stageColour_32 rfl (lv_at hl 0 rfl) ?_
    refine zr_iconst hx hb dX3_stageColour_33 ?_
    exfalso; omega
  · have c_1 := bI_n c_1
    refine lv_iload_n hx hb dX3_stageColour_12 rfl (lv_at hl 2 rfl) ?_
    refine zcallP (As := [.int (zI s)]) (rest := []) ⟨hx, hb, hml, hown, hts⟩ (kX3_isStage l D s (by omega)) hK (va_cwS 1 hts gX3_stageColour_X3_isStage rfl rfl rfl (by decide +kernel) ⟨Nat.le_of_ble_eq_true rfl, Nat.le_of_ble_eq_true rfl⟩) hP hS rfl hl.1 rfl (Nat.le_of_ble_eq_true rfl) dX3_stageColour_13 ⟨Nat.zero_le _, Nat.zero_le _⟩ (fun H locs hP hS => ?_)
    refine W.eq (g2 := F0 m9 16 ls [.int (zI (bI (0 ≤ s ∧ s ≤ 2)))]) rfl ?_
    refine zr_if_eq (tgt := 32) hx hb dX3_stageColour_16 (by decide) (bI_rg _) (fun c_2 => ?_) (fun c_2 => ?_)
    · have c_2 := bI_z c_2
      refine lv_aload_n hx hb dX3_stageColour_32 rfl (lv_at hl 0 rfl) ?_
      refine zr_iconst hx hb dX3_stageColour_33 ?_
      exfalso; omega
    · have c_2 := bI_n c_2
      refine lv_aload_n hx hb dX3_stageColour_19 rfl (lv_at hl 0 rfl) ?_
      refine va_get (D := D) (ci := 3) (v := .ref (q 4)) (C := RX3) (T := TX3) (N := 12) hx hb hts hin3 hown hK hP 0 rfl rfl 5 (by decide) (hts (.fieldLink RX3 20 "MourningRibbonsModel" "colour" "[I") (by decide +kernel)) (fun _ h9 => h9) rfl dX3_stageColour_20 ?_
      refine lv_iload_n hx hb dX3_stageColour_23 rfl (lv_at hl 1 rfl) ?_
      refine lv_iload_n hx hb dX3_stageColour_24 rfl (lv_at hl 2 rfl) ?_
      refine zcallP (As := [.int (zI g), .int (zI s)]) (rest := [.ref (q 4)]) ⟨hx, hb, hml, hown, hts⟩ (kX3_at l D g s) hK (va_cwS 2 hts gX3_stageColour_X3_at rfl rfl rfl (by decide +kernel) ⟨Nat.le_of_ble_eq_true rfl, Nat.le_of_ble_eq_true rfl⟩) hP hS rfl hl.1 rfl (Nat.le_of_ble_eq_true rfl) dX3_stageColour_25 ⟨Nat.zero_le _, Nat.zero_le _⟩ (fun H locs hP hS => ?_)
      refine W.eq (g2 := F0 m9 28 ls [.int (zI (3 * (g - 1) + s)), .ref (q 4)]) rfl ?_
      refine zr_iald (f := co) (n := 12) hx hb hK hP 4 0 rfl rfl (by decide) (i := 3 * (g - 1) + s) (by omega) (by omega) dX3_stageColour_28 ?_
      have b_3 := hco (3 * (g - 1) + s)
      refine lv_goto (tgt := 37) hx hb dX3_stageColour_29 (by decide) ?_
      rw [hQ0]
      exact zret_i hx hb hr hlocks (rfl) hP hS dX3_stageColour_37
set_option maxHeartbeats 4000000 in
set_option maxRecDepth 100000 in
theorem kX3_stageColoure1 (l : Launch) (D : va_G) (cI cZ : ClassId) (q : Nat → Nat) (hN : (zLM q).Nodup) (pa : Int → Int) (sp : Int → Int) (al : Int → Int) (co : Int → Int) (da : Int → Int) (mo : Int → Int) (st : Int → Int) (mr : Int → Int) (th : Int) (n : Nat) (td : Int) (wn : Int) (g : Int) (s : Int) (h8 : -2147483648 ≤ g ∧ g ≤ 2147483647) (h9 : -2147483648 ≤ s ∧ s ≤ 2147483647) (h1 : ¬ ((1 ≤ g ∧ g ≤ 4) ∧ 0 ≤ s ∧ s ≤ 2)) : zM l yX3_stageColour wsX3_stageColour ({ frames := 2, cells := 0, slots := 0, locals := 42 }) D [(cI, .int), (cZ, .boolean)] [.ref (q 0), .int (zI g), .int (zI s)] (wM cI cZ q pa sp al co da mo st mr th n td wn) (wM cI cZ q pa sp al co da mo st mr 1 n td wn) (some (.int (zI 0))) (zLM q) := by
  refine Met.ofW (cc := cX3_stageColour) (maxL := 3) (ret := (some .int)) (by decide) rfl ?_
  intro p0 e9 s9 m9 ag9 below meth c9 s₁ B hml hv
  obtain ⟨hav, hP, hK⟩ := hv
  have hx := B.exec
  have hb := B.bytes
  have hr := B.returns
  have hts := atoms_spec (ws := wsX3_stageColour) B.pre
  have hown : s9.vm.findClass RX3 = some m9.cls := findClass_of_methodNamed B.named
  have hlocks := B.notSynchronized
  have hA : ∀ a ∈ zLM q, (fun a => a ∈ zLM q) a := fun _ h => h
  have hin3 : ∀ w ∈ u_ws RX3 TX3 12, w ∈ wsX3_stageColour := by decide +kernel
  have hl := lv_entry ([.ref (q 0), .int (zI g), .int (zI s)]) (n := 3) (Nat.le_of_ble_eq_true rfl)
  have hE : entryFrame m9 ag9 3 = F0 m9 0 ((lg_sl ([.ref (q 0), .int (zI g), .int (zI s)]) ++ List.replicate (3 - (lg_sl ([.ref (q 0), .int (zI g), .int (zI s)])).length) Slot.unset).toArray) [] := by rw [hav]; exact lg_entry_eq m9 _ _
  obtain ⟨Q0, hQ0⟩ : ∃ Q0, Q0 = MQ below (zQ D (wM cI cZ q pa sp al co da mo st mr 1 n td wn) (some (.int (zI 0))) (zLM q)) ag9 s9 0 0 (fun a => a ∈ zLM q) := ⟨_, rfl⟩
  show W p0 l e9 ({ frames := 2, cells := 0, slots := 0, locals := 42 }) s9 m9 ag9 below meth c9 s9.heap [] 0 0 (MQ below (zQ D (wM cI cZ q pa sp al co da mo st mr 1 n td wn) (some (.int (zI 0))) (zLM q)) ag9 s9 0 0 (fun a => a ∈ zLM q)) _
  rw [hE, ← hQ0]
  have hS : va_S (fun a => a ∈ zLM q) s9.heap s9.heap [] := va_S.rf
  generalize hH0 : s9.heap = H at hP ⊢
  have hS : va_S (fun a => a ∈ zLM q) s9.heap H [] := by rw [hH0] at hS ⊢; exact hS
  generalize (lg_sl ([.ref (q 0), .int (zI g), .int (zI s)]) ++ List.replicate (3 - (lg_sl ([.ref (q 0), .int (zI g), .int (zI s)])).length) Slot.unset).toArray = ls at hl ⊢
  have hl : lv_has ls 3 [(0, .ref (q 0)), (1, .int (zI g)), (2, .int (zI s))] := hl
  refine lv_aload_n hx hb dX3_stageColour_0 rfl (lv_at hl 0 rfl) ?_
  refine zr_iconst hx hb dX3_stageColour_1 ?_
  refine va_put (D := D) (ci := 3) (v := .int (zI 0)) (ty := .int) (C := RX3) (T := TX3) (N := 12) hx hb hts hin3 tyX3 tyX3_ok nmX3 hown hK hP (zD hN rfl hA) hS 0 rfl rfl 0 (by decide) (hts (.fieldLink RX3 35 "MourningRibbonsModel" "thrown" "I") (by decide +kernel)) (fun _ h9 => h9) rfl (by decide +kernel) rfl rfl (Nat.le_of_ble_eq_true rfl) dX3_stageColour_2 (fun H locs hP _ hS => ?_)
  have hP : va_P D vwCl (wM cI cZ q pa sp al co da mo st mr 0 n td wn) H := hP
  refine lv_iload_n hx hb dX3_stageColour_5 rfl (lv_at hl 1 rfl) ?_
  refine zcallP (As := [.int (zI g)]) (rest := []) ⟨hx, hb, hml, hown, hts⟩ (kX3_isDegree l D g (by omega)) hK (va_cwS 1 hts gX3_stageColour_X3_isDegree rfl rfl rfl (by decide +kernel) ⟨Nat.le_of_ble_eq_true rfl, Nat.le_of_ble_eq_true rfl⟩) hP hS rfl hl.1 rfl (Nat.le_of_ble_eq_true rfl) dX3_stageColour_6 ⟨Nat.zero_le _, Nat.zero_le _⟩ (fun H locs hP hS => ?_)
  refine W.eq (g2 := F0 m9 9 ls [.int (zI (bI (1 ≤ g ∧ g ≤ 4)))]) rfl ?_
  refine zr_if_eq (tgt := 32) hx hb dX3_stageColour_9 (by decide) (bI_rg _) (fun c_1 => ?_) (fun c_1 => ?_)
  · have c_1 := bI_z c_1
    refine lv_aload_n hx hb dX3_stageColour_32 rfl (lv_at hl 0 rfl) ?_
    refine zr_iconst hx hb dX3_stageColour_33 ?_
    refine zcallV (ci := 3) (q0 := 0) (cq := (RX3, TX3, 12)) (As := [.int (zI 1)]) (rest := []) ⟨hx, hb, hml, hown, hts⟩ hK (kX3_no l D cI cZ q hN pa sp al co da mo st mr 0 n td wn 1) (cwV 1 hts gX3_stageColour_X3_no rfl rfl rfl (by decide +kernel) ⟨Nat.le_of_ble_eq_true rfl, Nat.le_of_ble_eq_true rfl⟩) hP hS hA rfl rfl rfl hl.1 rfl (Nat.le_of_ble_eq_true rfl) dX3_stageColour_34 ⟨Nat.zero_le _, Nat.zero_le _⟩ (fun H locs hP hS _ _ => ?_)
    refine W.eq (g2 := F0 m9 37 ls [.int (zI 0)]) rfl ?_
    rw [hQ0]
    exact zret_i hx hb hr hlocks (rfl) hP hS dX3_stageColour_37
  · have c_1 := bI_n c_1
    refine lv_iload_n hx hb dX3_stageColour_12 rfl (lv_at hl 2 rfl) ?_
    refine zcallP (As := [.int (zI s)]) (rest := []) ⟨hx, hb, hml, hown, hts⟩ (kX3_isStage l D s (by omega)) hK (va_cwS 1 hts gX3_stageColour_X3_isStage rfl rfl rfl (by decide +kernel) ⟨Nat.le_of_ble_eq_true rfl, Nat.le_of_ble_eq_true rfl⟩) hP hS rfl hl.1 rfl (Nat.le_of_ble_eq_true rfl) dX3_stageColour_13 ⟨Nat.zero_le _, Nat.zero_le _⟩ (fun H locs hP hS => ?_)
    refine W.eq (g2 := F0 m9 16 ls [.int (zI (bI (0 ≤ s ∧ s ≤ 2)))]) rfl ?_
    refine zr_if_eq (tgt := 32) hx hb dX3_stageColour_16 (by decide) (bI_rg _) (fun c_2 => ?_) (fun c_2 => ?_)
    · have c_2 := bI_z c_2
      refine lv_aload_n hx hb dX3_stageColour_32 rfl (lv_at hl 0 rfl) ?_
      refine zr_iconst hx hb dX3_stageColour_33 ?_
      refine zcallV (ci := 3) (q0 := 0) (cq := (RX3, TX3, 12)) (As := [.int (zI 1)]) (rest := []) ⟨hx, hb, hml, hown, hts⟩ hK (kX3_no l D cI cZ q hN pa sp al co da mo st mr 0 n td wn 1) (cwV 1 hts gX3_stageColour_X3_no rfl rfl rfl (by decide +kernel) ⟨Nat.le_of_ble_eq_true rfl, Nat.le_of_ble_eq_true rfl⟩) hP hS hA rfl rfl rfl hl.1 rfl (Nat.le_of_ble_eq_true rfl) dX3_stageColour_34 ⟨Nat.zero_le _, Nat.zero_le _⟩ (fun H locs hP hS _ _ => ?_)
      refine W.eq (g2 := F0 m9 37 ls [.int (zI 0)]) rfl ?_
      rw [hQ0]
      exact zret_i hx hb hr hlocks (rfl) hP hS dX3_stageColour_37
    · have c_2 := bI_n c_2
      exfalso; omega
set_option maxHeartbeats 4000000 in
set_option maxRecDepth 100000 in
theorem kX3_stageDaysok (l : Launch) (D : va_G) (cI cZ : ClassId) (q : Nat → Nat) (hN : (zLM q).Nodup) (pa : Int → Int) (sp : Int → Int) (al : Int → Int) (co : Int → Int) (da : Int → Int) (mo : Int → Int) (st : Int → Int) (mr : Int → Int) (th : Int) (n : Nat) (td : Int) (wn : Int) (hda : ∀ j : Int, 0 ≤ da j ∧ da j ≤ 60) (g : Int) (s : Int) (h8 : -2147483648 ≤ g ∧ g ≤ 2147483647) (h9 : -2147483648 ≤ s ∧ s ≤ 2147483647) (h1 : 1 ≤ g ∧ g ≤ 4) (h2 : 0 ≤ s ∧ s ≤ 2) : zM l yX3_stageDays wsX3_stageDays ({ frames := 2, cells := 0, slots := 0, locals := 42 }) D [(cI, .int), (cZ, .boolean)] [.ref (q 0), .int (zI g), .int (zI s)] (wM cI cZ q pa sp al co da mo st mr th n td wn) (wM cI cZ q pa sp al co da mo st mr 0 n td wn) (some (.int (zI (da (3 * (g - 1) + s))))) (zLM q) := by
  refine Met.ofW (cc := cX3_stageDays) (maxL := 3) (ret := (some .int)) (by decide) rfl ?_
  intro p0 e9 s9 m9 ag9 below meth c9 s₁ B hml hv
  obtain ⟨hav, hP, hK⟩ := hv
  have hx := B.exec
  have hb := B.bytes
  have hr := B.returns
  have hts := atoms_spec (ws := wsX3_stageDays) B.pre
  have hown : s9.vm.findClass RX3 = some m9.cls := findClass_of_methodNamed B.named
  have hlocks := B.notSynchronized
  have hA : ∀ a ∈ zLM q, (fun a => a ∈ zLM q) a := fun _ h => h
  have hin3 : ∀ w ∈ u_ws RX3 TX3 12, w ∈ wsX3_stageDays := by decide +kernel
  have hl := lv_entry ([.ref (q 0), .int (zI g), .int (zI s)]) (n := 3) (Nat.le_of_ble_eq_true rfl)
  have hE : entryFrame m9 ag9 3 = F0 m9 0 ((lg_sl ([.ref (q 0), .int (zI g), .int (zI s)]) ++ List.replicate (3 - (lg_sl ([.ref (q 0), .int (zI g), .int (zI s)])).length) Slot.unset).toArray) [] := by rw [hav]; exact lg_entry_eq m9 _ _
  obtain ⟨Q0, hQ0⟩ : ∃ Q0, Q0 = MQ below (zQ D (wM cI cZ q pa sp al co da mo st mr 0 n td wn) (some (.int (zI (da (3 * (g - 1) + s))))) (zLM q)) ag9 s9 0 0 (fun a => a ∈ zLM q) := ⟨_, rfl⟩
  show W p0 l e9 ({ frames := 2, cells := 0, slots := 0, locals := 42 }) s9 m9 ag9 below meth c9 s9.heap [] 0 0 (MQ below (zQ D (wM cI cZ q pa sp al co da mo st mr 0 n td wn) (some (.int (zI (da (3 * (g - 1) + s))))) (zLM q)) ag9 s9 0 0 (fun a => a ∈ zLM q)) _
  rw [hE, ← hQ0]
  have hS : va_S (fun a => a ∈ zLM q) s9.heap s9.heap [] := va_S.rf
  generalize hH0 : s9.heap = H at hP ⊢
  have hS : va_S (fun a => a ∈ zLM q) s9.heap H [] := by rw [hH0] at hS ⊢; exact hS
  generalize (lg_sl ([.ref (q 0), .int (zI g), .int (zI s)]) ++ List.replicate (3 - (lg_sl ([.ref (q 0), .int (zI g), .int (zI s)])).length) Slot.unset).toArray = ls at hl ⊢
  have hl : lv_has ls 3 [(0, .ref (q 0)), (1, .int (zI g)), (2, .int (zI s))] := hl
  refine lv_aload_n hx hb dX3_stageDays_0 rfl (lv_at hl 0 rfl) ?_
  refine zr_iconst hx hb dX3_stageDays_1 ?_
  refine va_put (D := D) (ci := 3) (v := .int (zI 0)) (ty := .int) (C := RX3) (T := TX3) (N := 12) hx hb hts hin3 tyX3 tyX3_ok nmX3 hown hK hP (zD hN rfl hA) hS 0 rfl rfl 0 (by decide) (hts (.fieldLink RX3 35 "MourningRibbonsModel" "thrown" "I") (by decide +kernel)) (fun _ h9 => h9) rfl (by decide +kernel) rfl rfl (Nat.le_of_ble_eq_true rfl) dX3_stageDays_2 (fun H locs hP _ hS => ?_)
  have hP : va_P D vwCl (wM cI cZ q pa sp al co da mo st mr 0 n td wn) H := hP
  refine lv_iload_n hx hb dX3_stageDays_5 rfl (lv_at hl 1 rfl) ?_
  refine zcallP (As := [.int (zI g)]) (rest := []) ⟨hx, hb, hml, hown, hts⟩ (kX3_isDegree l D g (by omega)) hK (va_cwS 1 hts gX3_stageDays_X3_isDegree rfl rfl rfl (by decide +kernel) ⟨Nat.le_of_ble_eq_true rfl, Nat.le_of_ble_eq_true rfl⟩) hP hS rfl hl.1 rfl (Nat.le_of_ble_eq_true rfl) dX3_stageDays_6 ⟨Nat.zero_le _, Nat.zero_le _⟩ (fun H locs hP hS => ?_)
  refine W.eq (g2 := F0 m9 9 ls [.int (zI (bI (1 ≤ g ∧ g ≤ 4)))]) rfl ?_
  refine zr_if_eq (tgt := 32) hx hb dX3_stageDays_9 (by decide) (bI_rg _) (fun c_1 => ?_) (fun c_1 => ?_)
  · have c_1 := bI_z c_1
    refine lv_aload_n hx hb dX3_stageDays_32 rfl (lv_at hl 0 rfl) ?_
    refine zr_iconst hx hb dX3_stageDays_33 ?_
    exfalso; omega
  · have c_1 := bI_n c_1
    refine lv_iload_n hx hb dX3_stageDays_12 rfl (lv_at hl 2 rfl) ?_
    refine zcallP (As := [.int (zI s)]) (rest := []) ⟨hx, hb, hml, hown, hts⟩ (kX3_isStage l D s (by omega)) hK (va_cwS 1 hts gX3_stageDays_X3_isStage rfl rfl rfl (by decide +kernel) ⟨Nat.le_of_ble_eq_true rfl, Nat.le_of_ble_eq_true rfl⟩) hP hS rfl hl.1 rfl (Nat.le_of_ble_eq_true rfl) dX3_stageDays_13 ⟨Nat.zero_le _, Nat.zero_le _⟩ (fun H locs hP hS => ?_)
    refine W.eq (g2 := F0 m9 16 ls [.int (zI (bI (0 ≤ s ∧ s ≤ 2)))]) rfl ?_
    refine zr_if_eq (tgt := 32) hx hb dX3_stageDays_16 (by decide) (bI_rg _) (fun c_2 => ?_) (fun c_2 => ?_)
    · have c_2 := bI_z c_2
      refine lv_aload_n hx hb dX3_stageDays_32 rfl (lv_at hl 0 rfl) ?_
      refine zr_iconst hx hb dX3_stageDays_33 ?_
      exfalso; omega
    · have c_2 := bI_n c_2
      refine lv_aload_n hx hb dX3_stageDays_19 rfl (lv_at hl 0 rfl) ?_
      refine va_get (D := D) (ci := 3) (v := .ref (q 5)) (C := RX3) (T := TX3) (N := 12) hx hb hts hin3 hown hK hP 0 rfl rfl 6 (by decide) (hts (.fieldLink RX3 23 "MourningRibbonsModel" "days" "[I") (by decide +kernel)) (fun _ h9 => h9) rfl dX3_stageDays_20 ?_
      refine lv_iload_n hx hb dX3_stageDays_23 rfl (lv_at hl 1 rfl) ?_
      refine lv_iload_n hx hb dX3_stageDays_24 rfl (lv_at hl 2 rfl) ?_
      refine zcallP (As := [.int (zI g), .int (zI s)]) (rest := [.ref (q 5)]) ⟨hx, hb, hml, hown, hts⟩ (kX3_at l D g s) hK (va_cwS 2 hts gX3_stageDays_X3_at rfl rfl rfl (by decide +kernel) ⟨Nat.le_of_ble_eq_true rfl, Nat.le_of_ble_eq_true rfl⟩) hP hS rfl hl.1 rfl (Nat.le_of_ble_eq_true rfl) dX3_stageDays_25 ⟨Nat.zero_le _, Nat.zero_le _⟩ (fun H locs hP hS => ?_)
      refine W.eq (g2 := F0 m9 28 ls [.int (zI (3 * (g - 1) + s)), .ref (q 5)]) rfl ?_
      refine zr_iald (f := da) (n := 12) hx hb hK hP 5 0 rfl rfl (by decide) (i := 3 * (g - 1) + s) (by omega) (by omega) dX3_stageDays_28 ?_
      have b_3 := hda (3 * (g - 1) + s)
      refine lv_goto (tgt := 37) hx hb dX3_stageDays_29 (by decide) ?_
      rw [hQ0]
      exact zret_i hx hb hr hlocks (rfl) hP hS dX3_stageDays_37
set_option maxHeartbeats 4000000 in
set_option maxRecDepth 100000 in
theorem kX3_stageDayse1 (l : Launch) (D : va_G) (cI cZ : ClassId) (q : Nat → Nat) (hN : (zLM q).Nodup) (pa : Int → Int) (sp : Int → Int) (al : Int → Int) (co : Int → Int) (da : Int → Int) (mo : Int → Int) (st : Int → Int) (mr : Int → Int) (th : Int) (n : Nat) (td : Int) (wn : Int) (g : Int) (s : Int) (h8 : -2147483648 ≤ g ∧ g ≤ 2147483647) (h9 : -2147483648 ≤ s ∧ s ≤ 2147483647) (h1 : ¬ ((1 ≤ g ∧ g ≤ 4) ∧ 0 ≤ s ∧ s ≤ 2)) : zM l yX3_stageDays wsX3_stageDays ({ frames := 2, cells := 0, slots := 0, locals := 42 }) D [(cI, .int), (cZ, .boolean)] [.ref (q 0), .int (zI g), .int (zI s)] (wM cI cZ q pa sp al co da mo st mr th n td wn) (wM cI cZ q pa sp al co da mo st mr 1 n td wn) (some (.int (zI 0))) (zLM q) := by
  refine Met.ofW (cc := cX3_stageDays) (maxL := 3) (ret := (some .int)) (by decide) rfl ?_
  intro p0 e9 s9 m9 ag9 below meth c9 s₁ B hml hv
  obtain ⟨hav, hP, hK⟩ := hv
  have hx := B.exec
  have hb := B.bytes
  have hr := B.returns
  have hts := atoms_spec (ws := wsX3_stageDays) B.pre
  have hown : s9.vm.findClass RX3 = some m9.cls := findClass_of_methodNamed B.named
  have hlocks := B.notSynchronized
  have hA : ∀ a ∈ zLM q, (fun a => a ∈ zLM q) a := fun _ h => h
  have hin3 : ∀ w ∈ u_ws RX3 TX3 12, w ∈ wsX3_stageDays := by decide +kernel
  have hl := lv_entry ([.ref (q 0), .int (zI g), .int (zI s)]) (n := 3) (Nat.le_of_ble_eq_true rfl)
  have hE : entryFrame m9 ag9 3 = F0 m9 0 ((lg_sl ([.ref (q 0), .int (zI g), .int (zI s)]) ++ List.replicate (3 - (lg_sl ([.ref (q 0), .int (zI g), .int (zI s)])).length) Slot.unset).toArray) [] := by rw [hav]; exact lg_entry_eq m9 _ _
  obtain ⟨Q0, hQ0⟩ : ∃ Q0, Q0 = MQ below (zQ D (wM cI cZ q pa sp al co da mo st mr 1 n td wn) (some (.int (zI 0))) (zLM q)) ag9 s9 0 0 (fun a => a ∈ zLM q) := ⟨_, rfl⟩
  show W p0 l e9 ({ frames := 2, cells := 0, slots := 0, locals := 42 }) s9 m9 ag9 below meth c9 s9.heap [] 0 0 (MQ below (zQ D (wM cI cZ q pa sp al co da mo st mr 1 n td wn) (some (.int (zI 0))) (zLM q)) ag9 s9 0 0 (fun a => a ∈ zLM q)) _
  rw [hE, ← hQ0]
  have hS : va_S (fun a => a ∈ zLM q) s9.heap s9.heap [] := va_S.rf
  generalize hH0 : s9.heap = H at hP ⊢
  have hS : va_S (fun a => a ∈ zLM q) s9.heap H [] := by rw [hH0] at hS ⊢; exact hS
  generalize (lg_sl ([.ref (q 0), .int (zI g), .int (zI s)]) ++ List.replicate (3 - (lg_sl ([.ref (q 0), .int (zI g), .int (zI s)])).length) Slot.unset).toArray = ls at hl ⊢
  have hl : lv_has ls 3 [(0, .ref (q 0)), (1, .int (zI g)), (2, .int (zI s))] := hl
  refine lv_aload_n hx hb dX3_stageDays_0 rfl (lv_at hl 0 rfl) ?_
  refine zr_iconst hx hb dX3_stageDays_1 ?_
  refine va_put (D := D) (ci := 3) (v := .int (zI 0)) (ty := .int) (C := RX3) (T := TX3) (N := 12) hx hb hts hin3 tyX3 tyX3_ok nmX3 hown hK hP (zD hN rfl hA) hS 0 rfl rfl 0 (by decide) (hts (.fieldLink RX3 35 "MourningRibbonsModel" "thrown" "I") (by decide +kernel)) (fun _ h9 => h9) rfl (by decide +kernel) rfl rfl (Nat.le_of_ble_eq_true rfl) dX3_stageDays_2 (fun H locs hP _ hS => ?_)
  have hP : va_P D vwCl (wM cI cZ q pa sp al co da mo st mr 0 n td wn) H := hP
  refine lv_iload_n hx hb dX3_stageDays_5 rfl (lv_at hl 1 rfl) ?_
  refine zcallP (As := [.int (zI g)]) (rest := []) ⟨hx, hb, hml, hown, hts⟩ (kX3_isDegree l D g (by omega)) hK (va_cwS 1 hts gX3_stageDays_X3_isDegree rfl rfl rfl (by decide +kernel) ⟨Nat.le_of_ble_eq_true rfl, Nat.le_of_ble_eq_true rfl⟩) hP hS rfl hl.1 rfl (Nat.le_of_ble_eq_true rfl) dX3_stageDays_6 ⟨Nat.zero_le _, Nat.zero_le _⟩ (fun H locs hP hS => ?_)
  refine W.eq (g2 := F0 m9 9 ls [.int (zI (bI (1 ≤ g ∧ g ≤ 4)))]) rfl ?_
  refine zr_if_eq (tgt := 32) hx hb dX3_stageDays_9 (by decide) (bI_rg _) (fun c_1 => ?_) (fun c_1 => ?_)
  · have c_1 := bI_z c_1
    refine lv_aload_n hx hb dX3_stageDays_32 rfl (lv_at hl 0 rfl) ?_
    refine zr_iconst hx hb dX3_stageDays_33 ?_
    refine zcallV (ci := 3) (q0 := 0) (cq := (RX3, TX3, 12)) (As := [.int (zI 1)]) (rest := []) ⟨hx, hb, hml, hown, hts⟩ hK (kX3_no l D cI cZ q hN pa sp al co da mo st mr 0 n td wn 1) (cwV 1 hts gX3_stageDays_X3_no rfl rfl rfl (by decide +kernel) ⟨Nat.le_of_ble_eq_true rfl, Nat.le_of_ble_eq_true rfl⟩) hP hS hA rfl rfl rfl hl.1 rfl (Nat.le_of_ble_eq_true rfl) dX3_stageDays_34 ⟨Nat.zero_le _, Nat.zero_le _⟩ (fun H locs hP hS _ _ => ?_)
    refine W.eq (g2 := F0 m9 37 ls [.int (zI 0)]) rfl ?_
    rw [hQ0]
    exact zret_i hx hb hr hlocks (rfl) hP hS dX3_stageDays_37
  · have c_1 := bI_n c_1
    refine lv_iload_n hx hb dX3_stageDays_12 rfl (lv_at hl 2 rfl) ?_
    refine zcallP (As := [.int (zI s)]) (rest := []) ⟨hx, hb, hml, hown, hts⟩ (kX3_isStage l D s (by omega)) hK (va_cwS 1 hts gX3_stageDays_X3_isStage rfl rfl rfl (by decide +kernel) ⟨Nat.le_of_ble_eq_true rfl, Nat.le_of_ble_eq_true rfl⟩) hP hS rfl hl.1 rfl (Nat.le_of_ble_eq_true rfl) dX3_stageDays_13 ⟨Nat.zero_le _, Nat.zero_le _⟩ (fun H locs hP hS => ?_)
    refine W.eq (g2 := F0 m9 16 ls [.int (zI (bI (0 ≤ s ∧ s ≤ 2)))]) rfl ?_
    refine zr_if_eq (tgt := 32) hx hb dX3_stageDays_16 (by decide) (bI_rg _) (fun c_2 => ?_) (fun c_2 => ?_)
    · have c_2 := bI_z c_2
      refine lv_aload_n hx hb dX3_stageDays_32 rfl (lv_at hl 0 rfl) ?_
      refine zr_iconst hx hb dX3_stageDays_33 ?_
      refine zcallV (ci := 3) (q0 := 0) (cq := (RX3, TX3, 12)) (As := [.int (zI 1)]) (rest := []) ⟨hx, hb, hml, hown, hts⟩ hK (kX3_no l D cI cZ q hN pa sp al co da mo st mr 0 n td wn 1) (cwV 1 hts gX3_stageDays_X3_no rfl rfl rfl (by decide +kernel) ⟨Nat.le_of_ble_eq_true rfl, Nat.le_of_ble_eq_true rfl⟩) hP hS hA rfl rfl rfl hl.1 rfl (Nat.le_of_ble_eq_true rfl) dX3_stageDays_34 ⟨Nat.zero_le _, Nat.zero_le _⟩ (fun H locs hP hS _ _ => ?_)
      refine W.eq (g2 := F0 m9 37 ls [.int (zI 0)]) rfl ?_
      rw [hQ0]
      exact zret_i hx hb hr hlocks (rfl) hP hS dX3_stageDays_37
    · have c_2 := bI_n c_2
      exfalso; omega
set_option maxHeartbeats 4000000 in
set_option maxRecDepth 100000 in
theorem kX3_colourOfok (l : Launch) (D : va_G) (cI cZ : ClassId) (q : Nat → Nat) (hN : (zLM q).Nodup) (pa : Int → Int) (sp : Int → Int) (al : Int → Int) (co : Int → Int) (da : Int → Int) (mo : Int → Int) (st : Int → Int) (mr : Int → Int) (th : Int) (n : Nat) (td : Int) (wn : Int) (hn : n ≤ 16) (hmo : ∀ j : Int, -1 ≤ mo j ∧ mo j ≤ 1000000) (htd : 0 ≤ td ∧ td ≤ 1000000) (p : Int) (h0 : -2147483648 ≤ p ∧ p ≤ 2147483647) (h1 : 0 ≤ p ∧ p < (n : Int)) : zM l yX3_colourOf wsX3_colourOf ({ frames := 2, cells := 0, slots := 0, locals := 54 }) D [(cI, .int), (cZ, .boolean)] [.ref (q 0), .int (zI p)] (wM cI cZ q pa sp al co da mo st mr th n td wn) (wM cI cZ q pa sp al co da mo st mr 0 n td wn) (some (.int (zI (wsM mo n p td)))) (zLM q) := by
  refine Met.ofW (cc := cX3_colourOf) (maxL := 2) (ret := (some .int)) (by decide) rfl ?_
  intro p0 e9 s9 m9 ag9 below meth c9 s₁ B hml hv
  obtain ⟨hav, hP, hK⟩ := hv
  have hx := B.exec
  have hb := B.bytes
  have hr := B.returns
  have hts := atoms_spec (ws := wsX3_colourOf) B.pre
  have hown : s9.vm.findClass RX3 = some m9.cls := findClass_of_methodNamed B.named
  have hlocks := B.notSynchronized
  have hA : ∀ a ∈ zLM q, (fun a => a ∈ zLM q) a := fun _ h => h
  have hin3 : ∀ w ∈ u_ws RX3 TX3 12, w ∈ wsX3_colourOf := by decide +kernel
  have hl := lv_entry ([.ref (q 0), .int (zI p)]) (n := 2) (Nat.le_of_ble_eq_true rfl)
  have hE : entryFrame m9 ag9 2 = F0 m9 0 ((lg_sl ([.ref (q 0), .int (zI p)]) ++ List.replicate (2 - (lg_sl ([.ref (q 0), .int (zI p)])).length) Slot.unset).toArray) [] := by rw [hav]; exact lg_entry_eq m9 _ _
  obtain ⟨Q0, hQ0⟩ : ∃ Q0, Q0 = MQ below (zQ D (wM cI cZ q pa sp al co da mo st mr 0 n td wn) (some (.int (zI (wsM mo n p td)))) (zLM q)) ag9 s9 0 0 (fun a => a ∈ zLM q) := ⟨_, rfl⟩
  show W p0 l e9 ({ frames := 2, cells := 0, slots := 0, locals := 54 }) s9 m9 ag9 below meth c9 s9.heap [] 0 0 (MQ below (zQ D (wM cI cZ q pa sp al co da mo st mr 0 n td wn) (some (.int (zI (wsM mo n p td)))) (zLM q)) ag9 s9 0 0 (fun a => a ∈ zLM q)) _
  rw [hE, ← hQ0]
  have hS : va_S (fun a => a ∈ zLM q) s9.heap s9.heap [] := va_S.rf
  generalize hH0 : s9.heap = H at hP ⊢
  have hS : va_S (fun a => a ∈ zLM q) s9.heap H [] := by rw [hH0] at hS ⊢; exact hS
  generalize (lg_sl ([.ref (q 0), .int (zI p)]) ++ List.replicate (2 - (lg_sl ([.ref (q 0), .int (zI p)])).length) Slot.unset).toArray = ls at hl ⊢
  have hl : lv_has ls 2 [(0, .ref (q 0)), (1, .int (zI p))] := hl
  refine lv_aload_n hx hb dX3_colourOf_0 rfl (lv_at hl 0 rfl) ?_
  refine zr_iconst hx hb dX3_colourOf_1 ?_
  refine va_put (D := D) (ci := 3) (v := .int (zI 0)) (ty := .int) (C := RX3) (T := TX3) (N := 12) hx hb hts hin3 tyX3 tyX3_ok nmX3 hown hK hP (zD hN rfl hA) hS 0 rfl rfl 0 (by decide) (hts (.fieldLink RX3 35 "MourningRibbonsModel" "thrown" "I") (by decide +kernel)) (fun _ h9 => h9) rfl (by decide +kernel) rfl rfl (Nat.le_of_ble_eq_true rfl) dX3_colourOf_2 (fun H locs hP _ hS => ?_)
  have hP : va_P D vwCl (wM cI cZ q pa sp al co da mo st mr 0 n td wn) H := hP
  refine lv_aload_n hx hb dX3_colourOf_5 rfl (lv_at hl 0 rfl) ?_
  refine lv_iload_n hx hb dX3_colourOf_6 rfl (lv_at hl 1 rfl) ?_
  refine zcallV (ci := 3) (q0 := 0) (cq := (RX3, TX3, 12)) (As := [.int (zI p)]) (rest := []) ⟨hx, hb, hml, hown, hts⟩ hK (kX3_isPerson l D cI cZ q hN pa sp al co da mo st mr 0 n td wn hn p (by omega)) (cwV 1 hts gX3_colourOf_X3_isPerson rfl rfl rfl (by decide +kernel) ⟨Nat.le_of_ble_eq_true rfl, Nat.le_of_ble_eq_true rfl⟩) hP hS hA rfl rfl rfl hl.1 rfl (Nat.le_of_ble_eq_true rfl) dX3_colourOf_7 ⟨Nat.zero_le _, Nat.zero_le _⟩ (fun H locs hP hS _ _ => ?_)
  refine W.eq (g2 := F0 m9 10 ls [.int (zI (bI (0 ≤ p ∧ p ≤ (n : Int) - 1)))]) rfl ?_
  refine zr_if_eq (tgt := 25) hx hb dX3_colourOf_10 (by decide) (bI_rg _) (fun c_1 => ?_) (fun c_1 => ?_)
  · have c_1 := bI_z c_1
    refine lv_aload_n hx hb dX3_colourOf_25 rfl (lv_at hl 0 rfl) ?_
    refine zr_iconst hx hb dX3_colourOf_26 ?_
    exfalso; omega
  · have c_1 := bI_n c_1
    refine lv_aload_n hx hb dX3_colourOf_13 rfl (lv_at hl 0 rfl) ?_
    refine lv_iload_n hx hb dX3_colourOf_14 rfl (lv_at hl 1 rfl) ?_
    refine lv_aload_n hx hb dX3_colourOf_15 rfl (lv_at hl 0 rfl) ?_
    refine va_get (D := D) (ci := 3) (v := .int (zI td)) (C := RX3) (T := TX3) (N := 12) hx hb hts hin3 hown hK hP 0 rfl rfl 8 (by decide) (hts (.fieldLink RX3 95 "MourningRibbonsModel" "today" "I") (by decide +kernel)) (fun _ h9 => h9) rfl dX3_colourOf_16 ?_
    refine zcallV (ci := 3) (q0 := 0) (cq := (RX3, TX3, 12)) (As := [.int (zI p), .int (zI td)]) (rest := []) ⟨hx, hb, hml, hown, hts⟩ hK (kX3_wears l D cI cZ q hN pa sp al co da mo st mr 0 n td wn hn hmo p td (by omega) (by omega)) (cwV 2 hts gX3_colourOf_X3_wears rfl rfl rfl (by decide +kernel) ⟨Nat.le_of_ble_eq_true rfl, Nat.le_of_ble_eq_true rfl⟩) hP hS hA rfl rfl rfl hl.1 rfl (Nat.le_of_ble_eq_true rfl) dX3_colourOf_19 ⟨Nat.zero_le _, Nat.zero_le _⟩ (fun H locs hP hS _ _ => ?_)
    refine W.eq (g2 := F0 m9 22 ls [.int (zI (wsM mo n p td))]) rfl ?_
    have f_2 := wsM_bd hmo n p td
    refine lv_goto (tgt := 30) hx hb dX3_colourOf_22 (by decide) ?_
    rw [hQ0]
    exact zret_i hx hb hr hlocks (rfl) hP hS dX3_colourOf_30
set_option maxHeartbeats 4000000 in
set_option maxRecDepth 100000 in
theorem kX3_colourOfe1 (l : Launch) (D : va_G) (cI cZ : ClassId) (q : Nat → Nat) (hN : (zLM q).Nodup) (pa : Int → Int) (sp : Int → Int) (al : Int → Int) (co : Int → Int) (da : Int → Int) (mo : Int → Int) (st : Int → Int) (mr : Int → Int) (th : Int) (n : Nat) (td : Int) (wn : Int) (hn : n ≤ 16) (p : Int) (h0 : -2147483648 ≤ p ∧ p ≤ 2147483647) (h1 : ¬ (0 ≤ p ∧ p < (n : Int))) : zM l yX3_colourOf wsX3_colourOf ({ frames := 2, cells := 0, slots := 0, locals := 54 }) D [(cI, .int), (cZ, .boolean)] [.ref (q 0), .int (zI p)] (wM cI cZ q pa sp al co da mo st mr th n td wn) (wM cI cZ q pa sp al co da mo st mr 1 n td wn) (some (.int (zI 0))) (zLM q) := by
  refine Met.ofW (cc := cX3_colourOf) (maxL := 2) (ret := (some .int)) (by decide) rfl ?_
  intro p0 e9 s9 m9 ag9 below meth c9 s₁ B hml hv
  obtain ⟨hav, hP, hK⟩ := hv
  have hx := B.exec
  have hb := B.bytes
  have hr := B.returns
  have hts := atoms_spec (ws := wsX3_colourOf) B.pre
  have hown : s9.vm.findClass RX3 = some m9.cls := findClass_of_methodNamed B.named
  have hlocks := B.notSynchronized
  have hA : ∀ a ∈ zLM q, (fun a => a ∈ zLM q) a := fun _ h => h
  have hin3 : ∀ w ∈ u_ws RX3 TX3 12, w ∈ wsX3_colourOf := by decide +kernel
  have hl := lv_entry ([.ref (q 0), .int (zI p)]) (n := 2) (Nat.le_of_ble_eq_true rfl)
  have hE : entryFrame m9 ag9 2 = F0 m9 0 ((lg_sl ([.ref (q 0), .int (zI p)]) ++ List.replicate (2 - (lg_sl ([.ref (q 0), .int (zI p)])).length) Slot.unset).toArray) [] := by rw [hav]; exact lg_entry_eq m9 _ _
  obtain ⟨Q0, hQ0⟩ : ∃ Q0, Q0 = MQ below (zQ D (wM cI cZ q pa sp al co da mo st mr 1 n td wn) (some (.int (zI 0))) (zLM q)) ag9 s9 0 0 (fun a => a ∈ zLM q) := ⟨_, rfl⟩
  show W p0 l e9 ({ frames := 2, cells := 0, slots := 0, locals := 54 }) s9 m9 ag9 below meth c9 s9.heap [] 0 0 (MQ below (zQ D (wM cI cZ q pa sp al co da mo st mr 1 n td wn) (some (.int (zI 0))) (zLM q)) ag9 s9 0 0 (fun a => a ∈ zLM q)) _
  rw [hE, ← hQ0]
  have hS : va_S (fun a => a ∈ zLM q) s9.heap s9.heap [] := va_S.rf
  generalize hH0 : s9.heap = H at hP ⊢
  have hS : va_S (fun a => a ∈ zLM q) s9.heap H [] := by rw [hH0] at hS ⊢; exact hS
  generalize (lg_sl ([.ref (q 0), .int (zI p)]) ++ List.replicate (2 - (lg_sl ([.ref (q 0), .int (zI p)])).length) Slot.unset).toArray = ls at hl ⊢
  have hl : lv_has ls 2 [(0, .ref (q 0)), (1, .int (zI p))] := hl
  refine lv_aload_n hx hb dX3_colourOf_0 rfl (lv_at hl 0 rfl) ?_
  refine zr_iconst hx hb dX3_colourOf_1 ?_
  refine va_put (D := D) (ci := 3) (v := .int (zI 0)) (ty := .int) (C := RX3) (T := TX3) (N := 12) hx hb hts hin3 tyX3 tyX3_ok nmX3 hown hK hP (zD hN rfl hA) hS 0 rfl rfl 0 (by decide) (hts (.fieldLink RX3 35 "MourningRibbonsModel" "thrown" "I") (by decide +kernel)) (fun _ h9 => h9) rfl (by decide +kernel) rfl rfl (Nat.le_of_ble_eq_true rfl) dX3_colourOf_2 (fun H locs hP _ hS => ?_)
  have hP : va_P D vwCl (wM cI cZ q pa sp al co da mo st mr 0 n td wn) H := hP
  refine lv_aload_n hx hb dX3_colourOf_5 rfl (lv_at hl 0 rfl) ?_
  refine lv_iload_n hx hb dX3_colourOf_6 rfl (lv_at hl 1 rfl) ?_
  refine zcallV (ci := 3) (q0 := 0) (cq := (RX3, TX3, 12)) (As := [.int (zI p)]) (rest := []) ⟨hx, hb, hml, hown, hts⟩ hK (kX3_isPerson l D cI cZ q hN pa sp al co da mo st mr 0 n td wn hn p (by omega)) (cwV 1 hts gX3_colourOf_X3_isPerson rfl rfl rfl (by decide +kernel) ⟨Nat.le_of_ble_eq_true rfl, Nat.le_of_ble_eq_true rfl⟩) hP hS hA rfl rfl rfl hl.1 rfl (Nat.le_of_ble_eq_true rfl) dX3_colourOf_7 ⟨Nat.zero_le _, Nat.zero_le _⟩ (fun H locs hP hS _ _ => ?_)
  refine W.eq (g2 := F0 m9 10 ls [.int (zI (bI (0 ≤ p ∧ p ≤ (n : Int) - 1)))]) rfl ?_
  refine zr_if_eq (tgt := 25) hx hb dX3_colourOf_10 (by decide) (bI_rg _) (fun c_1 => ?_) (fun c_1 => ?_)
  · have c_1 := bI_z c_1
    refine lv_aload_n hx hb dX3_colourOf_25 rfl (lv_at hl 0 rfl) ?_
    refine zr_iconst hx hb dX3_colourOf_26 ?_
    refine zcallV (ci := 3) (q0 := 0) (cq := (RX3, TX3, 12)) (As := [.int (zI 1)]) (rest := []) ⟨hx, hb, hml, hown, hts⟩ hK (kX3_no l D cI cZ q hN pa sp al co da mo st mr 0 n td wn 1) (cwV 1 hts gX3_colourOf_X3_no rfl rfl rfl (by decide +kernel) ⟨Nat.le_of_ble_eq_true rfl, Nat.le_of_ble_eq_true rfl⟩) hP hS hA rfl rfl rfl hl.1 rfl (Nat.le_of_ble_eq_true rfl) dX3_colourOf_27 ⟨Nat.zero_le _, Nat.zero_le _⟩ (fun H locs hP hS _ _ => ?_)
    refine W.eq (g2 := F0 m9 30 ls [.int (zI 0)]) rfl ?_
    rw [hQ0]
    exact zret_i hx hb hr hlocks (rfl) hP hS dX3_colourOf_30
  · have c_1 := bI_n c_1
    refine lv_aload_n hx hb dX3_colourOf_13 rfl (lv_at hl 0 rfl) ?_
    refine lv_iload_n hx hb dX3_colourOf_14 rfl (lv_at hl 1 rfl) ?_
    refine lv_aload_n hx hb dX3_colourOf_15 rfl (lv_at hl 0 rfl) ?_
    refine va_get (D := D) (ci := 3) (v := .int (zI td)) (C := RX3) (T := TX3) (N := 12) hx hb hts hin3 hown hK hP 0 rfl rfl 8 (by decide) (hts (.fieldLink RX3 95 "MourningRibbonsModel" "today" "I") (by decide +kernel)) (fun _ h9 => h9) rfl dX3_colourOf_16 ?_
    exfalso; omega
set_option maxHeartbeats 4000000 in
set_option maxRecDepth 100000 in
theorem kX3_colourInok (l : Launch) (D : va_G) (cI cZ : ClassId) (q : Nat → Nat) (hN : (zLM q).Nodup) (pa : Int → Int) (sp : Int → Int) (al : Int → Int) (co : Int → Int) (da : Int → Int) (mo : Int → Int) (st : Int → Int) (mr : Int → Int) (th : Int) (n : Nat) (td : Int) (wn : Int) (hn : n ≤ 16) (hmo : ∀ j : Int, -1 ≤ mo j ∧ mo j ≤ 1000000) (htd : 0 ≤ td ∧ td ≤ 1000000) (p : Int) (k : Int) (h0 : -2147483648 ≤ p ∧ p ≤ 2147483647) (h1 : 0 ≤ p ∧ p < (n : Int)) (h9 : -2147483648 ≤ k ∧ k ≤ 2147483647) (h2 : 0 ≤ k ∧ k ≤ 200) : zM l yX3_colourIn wsX3_colourIn ({ frames := 2, cells := 0, slots := 0, locals := 54 }) D [(cI, .int), (cZ, .boolean)] [.ref (q 0), .int (zI p), .int (zI k)] (wM cI cZ q pa sp al co da mo st mr th n td wn) (wM cI cZ q pa sp al co da mo st mr 0 n td wn) (some (.int (zI (wsM mo n p (td + k))))) (zLM q) := by
  refine Met.ofW (cc := cX3_colourIn) (maxL := 3) (ret := (some .int)) (by decide) rfl ?_
  intro p0 e9 s9 m9 ag9 below meth c9 s₁ B hml hv
  obtain ⟨hav, hP, hK⟩ := hv
  have hx := B.exec
  have hb := B.bytes
  have hr := B.returns
  have hts := atoms_spec (ws := wsX3_colourIn) B.pre
  have hown : s9.vm.findClass RX3 = some m9.cls := findClass_of_methodNamed B.named
  have hlocks := B.notSynchronized
  have hA : ∀ a ∈ zLM q, (fun a => a ∈ zLM q) a := fun _ h => h
  have hin3 : ∀ w ∈ u_ws RX3 TX3 12, w ∈ wsX3_colourIn := by decide +kernel
  have hl := lv_entry ([.ref (q 0), .int (zI p), .int (zI k)]) (n := 3) (Nat.le_of_ble_eq_true rfl)
  have hE : entryFrame m9 ag9 3 = F0 m9 0 ((lg_sl ([.ref (q 0), .int (zI p), .int (zI k)]) ++ List.replicate (3 - (lg_sl ([.ref (q 0), .int (zI p), .int (zI k)])).length) Slot.unset).toArray) [] := by rw [hav]; exact lg_entry_eq m9 _ _
  obtain ⟨Q0, hQ0⟩ : ∃ Q0, Q0 = MQ below (zQ D (wM cI cZ q pa sp al co da mo st mr 0 n td wn) (some (.int (zI (wsM mo n p (td + k))))) (zLM q)) ag9 s9 0 0 (fun a => a ∈ zLM q) := ⟨_, rfl⟩
  show W p0 l e9 ({ frames := 2, cells := 0, slots := 0, locals := 54 }) s9 m9 ag9 below meth c9 s9.heap [] 0 0 (MQ below (zQ D (wM cI cZ q pa sp al co da mo st mr 0 n td wn) (some (.int (zI (wsM mo n p (td + k))))) (zLM q)) ag9 s9 0 0 (fun a => a ∈ zLM q)) _
  rw [hE, ← hQ0]
  have hS : va_S (fun a => a ∈ zLM q) s9.heap s9.heap [] := va_S.rf
  generalize hH0 : s9.heap = H at hP ⊢
  have hS : va_S (fun a => a ∈ zLM q) s9.heap H [] := by rw [hH0] at hS ⊢; exact hS
  generalize (lg_sl ([.ref (q 0), .int (zI p), .int (zI k)]) ++ List.replicate (3 - (lg_sl ([.ref (q 0), .int (zI p), .int (zI k)])).length) Slot.unset).toArray = ls at hl ⊢
  have hl : lv_has ls 3 [(0, .ref (q 0)), (1, .int (zI p)), (2, .int (zI k))] := hl
  refine lv_aload_n hx hb dX3_colourIn_0 rfl (lv_at hl 0 rfl) ?_
  refine zr_iconst hx hb dX3_colourIn_1 ?_
  refine va_put (D := D) (ci := 3) (v := .int (zI 0)) (ty := .int) (C := RX3) (T := TX3) (N := 12) hx hb hts hin3 tyX3 tyX3_ok nmX3 hown hK hP (zD hN rfl hA) hS 0 rfl rfl 0 (by decide) (hts (.fieldLink RX3 35 "MourningRibbonsModel" "thrown" "I") (by decide +kernel)) (fun _ h9 => h9) rfl (by decide +kernel) rfl rfl (Nat.le_of_ble_eq_true rfl) dX3_colourIn_2 (fun H locs hP _ hS => ?_)
  have hP : va_P D vwCl (wM cI cZ q pa sp al co da mo st mr 0 n td wn) H := hP
  refine lv_aload_n hx hb dX3_colourIn_5 rfl (lv_at hl 0 rfl) ?_
  refine lv_iload_n hx hb dX3_colourIn_6 rfl (lv_at hl 1 rfl) ?_
  refine zcallV (ci := 3) (q0 := 0) (cq := (RX3, TX3, 12)) (As := [.int (zI p)]) (rest := []) ⟨hx, hb, hml, hown, hts⟩ hK (kX3_isPerson l D cI cZ q hN pa sp al co da mo st mr 0 n td wn hn p (by omega)) (cwV 1 hts gX3_colourIn_X3_isPerson rfl rfl rfl (by decide +kernel) ⟨Nat.le_of_ble_eq_true rfl, Nat.le_of_ble_eq_true rfl⟩) hP hS hA rfl rfl rfl hl.1 rfl (Nat.le_of_ble_eq_true rfl) dX3_colourIn_7 ⟨Nat.zero_le _, Nat.zero_le _⟩ (fun H locs hP hS _ _ => ?_)
  refine W.eq (g2 := F0 m9 10 ls [.int (zI (bI (0 ≤ p ∧ p ≤ (n : Int) - 1)))]) rfl ?_
  refine zr_if_ne (tgt := 19) hx hb dX3_colourIn_10 (by decide) (bI_rg _) (fun c_1 => ?_) (fun c_1 => ?_)
  · have c_1 := bI_n c_1
    refine lv_iload_n hx hb dX3_colourIn_19 rfl (lv_at hl 2 rfl) ?_
    refine zr_iconst hx hb dX3_colourIn_20 ?_
    refine zr_sipush hx hb dX3_colourIn_21 (by decide) ?_
    refine zcallP (As := [.int (zI k), .int (zI 0), .int (zI 200)]) (rest := []) ⟨hx, hb, hml, hown, hts⟩ (kX3_isIn l D k 0 200 (by omega) (by omega) (by omega)) hK (va_cwS 3 hts gX3_colourIn_X3_isIn rfl rfl rfl (by decide +kernel) ⟨Nat.le_of_ble_eq_true rfl, Nat.le_of_ble_eq_true rfl⟩) hP hS rfl hl.1 rfl (Nat.le_of_ble_eq_true rfl) dX3_colourIn_24 ⟨Nat.zero_le _, Nat.zero_le _⟩ (fun H locs hP hS => ?_)
    refine W.eq (g2 := F0 m9 27 ls [.int (zI (bI (0 ≤ k ∧ k ≤ 200)))]) rfl ?_
    refine zr_if_eq (tgt := 44) hx hb dX3_colourIn_27 (by decide) (bI_rg _) (fun c_2 => ?_) (fun c_2 => ?_)
    · have c_2 := bI_z c_2
      refine lv_aload_n hx hb dX3_colourIn_44 rfl (lv_at hl 0 rfl) ?_
      refine zr_iconst hx hb dX3_colourIn_45 ?_
      exfalso; omega
    · have c_2 := bI_n c_2
      refine lv_aload_n hx hb dX3_colourIn_30 rfl (lv_at hl 0 rfl) ?_
      refine lv_iload_n hx hb dX3_colourIn_31 rfl (lv_at hl 1 rfl) ?_
      refine lv_aload_n hx hb dX3_colourIn_32 rfl (lv_at hl 0 rfl) ?_
      refine va_get (D := D) (ci := 3) (v := .int (zI td)) (C := RX3) (T := TX3) (N := 12) hx hb hts hin3 hown hK hP 0 rfl rfl 8 (by decide) (hts (.fieldLink RX3 95 "MourningRibbonsModel" "today" "I") (by decide +kernel)) (fun _ h9 => h9) rfl dX3_colourIn_33 ?_
      refine lv_iload_n hx hb dX3_colourIn_36 rfl (lv_at hl 2 rfl) ?_
      refine zr_iadd (v := td + k) hx hb rfl dX3_colourIn_37 ?_
      refine zcallV (ci := 3) (q0 := 0) (cq := (RX3, TX3, 12)) (As := [.int (zI p), .int (zI (td + k))]) (rest := []) ⟨hx, hb, hml, hown, hts⟩ hK (kX3_wears l D cI cZ q hN pa sp al co da mo st mr 0 n td wn hn hmo p (td + k) (by omega) (by omega)) (cwV 2 hts gX3_colourIn_X3_wears rfl rfl rfl (by decide +kernel) ⟨Nat.le_of_ble_eq_true rfl, Nat.le_of_ble_eq_true rfl⟩) hP hS hA rfl rfl rfl hl.1 rfl (Nat.le_of_ble_eq_true rfl) dX3_colourIn_38 ⟨Nat.zero_le _, Nat.zero_le _⟩ (fun H locs hP hS _ _ => ?_)
      refine W.eq (g2 := F0 m9 41 ls [.int (zI (wsM mo n p (td + k)))]) rfl ?_
      have f_3 := wsM_bd hmo n p (td + k)
      refine lv_goto (tgt := 49) hx hb dX3_colourIn_41 (by decide) ?_
      rw [hQ0]
      exact zret_i hx hb hr hlocks (rfl) hP hS dX3_colourIn_49
  · have c_1 := bI_z c_1
    refine lv_aload_n hx hb dX3_colourIn_13 rfl (lv_at hl 0 rfl) ?_
    refine zr_iconst hx hb dX3_colourIn_14 ?_
    exfalso; omega
set_option maxHeartbeats 4000000 in
set_option maxRecDepth 100000 in
theorem kX3_colourIne1 (l : Launch) (D : va_G) (cI cZ : ClassId) (q : Nat → Nat) (hN : (zLM q).Nodup) (pa : Int → Int) (sp : Int → Int) (al : Int → Int) (co : Int → Int) (da : Int → Int) (mo : Int → Int) (st : Int → Int) (mr : Int → Int) (th : Int) (n : Nat) (td : Int) (wn : Int) (hn : n ≤ 16) (p : Int) (k : Int) (h0 : -2147483648 ≤ p ∧ p ≤ 2147483647) (h1 : ¬ (0 ≤ p ∧ p < (n : Int))) : zM l yX3_colourIn wsX3_colourIn ({ frames := 2, cells := 0, slots := 0, locals := 54 }) D [(cI, .int), (cZ, .boolean)] [.ref (q 0), .int (zI p), .int (zI k)] (wM cI cZ q pa sp al co da mo st mr th n td wn) (wM cI cZ q pa sp al co da mo st mr 1 n td wn) (some (.int (zI 0))) (zLM q) := by
  refine Met.ofW (cc := cX3_colourIn) (maxL := 3) (ret := (some .int)) (by decide) rfl ?_
  intro p0 e9 s9 m9 ag9 below meth c9 s₁ B hml hv
  obtain ⟨hav, hP, hK⟩ := hv
  have hx := B.exec
  have hb := B.bytes
  have hr := B.returns
  have hts := atoms_spec (ws := wsX3_colourIn) B.pre
  have hown : s9.vm.findClass RX3 = some m9.cls := findClass_of_methodNamed B.named
  have hlocks := B.notSynchronized
  have hA : ∀ a ∈ zLM q, (fun a => a ∈ zLM q) a := fun _ h => h
  have hin3 : ∀ w ∈ u_ws RX3 TX3 12, w ∈ wsX3_colourIn := by decide +kernel
  have hl := lv_entry ([.ref (q 0), .int (zI p), .int (zI k)]) (n := 3) (Nat.le_of_ble_eq_true rfl)
  have hE : entryFrame m9 ag9 3 = F0 m9 0 ((lg_sl ([.ref (q 0), .int (zI p), .int (zI k)]) ++ List.replicate (3 - (lg_sl ([.ref (q 0), .int (zI p), .int (zI k)])).length) Slot.unset).toArray) [] := by rw [hav]; exact lg_entry_eq m9 _ _
  obtain ⟨Q0, hQ0⟩ : ∃ Q0, Q0 = MQ below (zQ D (wM cI cZ q pa sp al co da mo st mr 1 n td wn) (some (.int (zI 0))) (zLM q)) ag9 s9 0 0 (fun a => a ∈ zLM q) := ⟨_, rfl⟩
  show W p0 l e9 ({ frames := 2, cells := 0, slots := 0, locals := 54 }) s9 m9 ag9 below meth c9 s9.heap [] 0 0 (MQ below (zQ D (wM cI cZ q pa sp al co da mo st mr 1 n td wn) (some (.int (zI 0))) (zLM q)) ag9 s9 0 0 (fun a => a ∈ zLM q)) _
  rw [hE, ← hQ0]
  have hS : va_S (fun a => a ∈ zLM q) s9.heap s9.heap [] := va_S.rf
  generalize hH0 : s9.heap = H at hP ⊢
  have hS : va_S (fun a => a ∈ zLM q) s9.heap H [] := by rw [hH0] at hS ⊢; exact hS
  generalize (lg_sl ([.ref (q 0), .int (zI p), .int (zI k)]) ++ List.replicate (3 - (lg_sl ([.ref (q 0), .int (zI p), .int (zI k)])).length) Slot.unset).toArray = ls at hl ⊢
  have hl : lv_has ls 3 [(0, .ref (q 0)), (1, .int (zI p)), (2, .int (zI k))] := hl
  refine lv_aload_n hx hb dX3_colourIn_0 rfl (lv_at hl 0 rfl) ?_
  refine zr_iconst hx hb dX3_colourIn_1 ?_
  refine va_put (D := D) (ci := 3) (v := .int (zI 0)) (ty := .int) (C := RX3) (T := TX3) (N := 12) hx hb hts hin3 tyX3 tyX3_ok nmX3 hown hK hP (zD hN rfl hA) hS 0 rfl rfl 0 (by decide) (hts (.fieldLink RX3 35 "MourningRibbonsModel" "thrown" "I") (by decide +kernel)) (fun _ h9 => h9) rfl (by decide +kernel) rfl rfl (Nat.le_of_ble_eq_true rfl) dX3_colourIn_2 (fun H locs hP _ hS => ?_)
  have hP : va_P D vwCl (wM cI cZ q pa sp al co da mo st mr 0 n td wn) H := hP
  refine lv_aload_n hx hb dX3_colourIn_5 rfl (lv_at hl 0 rfl) ?_
  refine lv_iload_n hx hb dX3_colourIn_6 rfl (lv_at hl 1 rfl) ?_
  refine zcallV (ci := 3) (q0 := 0) (cq := (RX3, TX3, 12)) (As := [.int (zI p)]) (rest := []) ⟨hx, hb, hml, hown, hts⟩ hK (kX3_isPerson l D cI cZ q hN pa sp al co da mo st mr 0 n td wn hn p (by omega)) (cwV 1 hts gX3_colourIn_X3_isPerson rfl rfl rfl (by decide +kernel) ⟨Nat.le_of_ble_eq_true rfl, Nat.le_of_ble_eq_true rfl⟩) hP hS hA rfl rfl rfl hl.1 rfl (Nat.le_of_ble_eq_true rfl) dX3_colourIn_7 ⟨Nat.zero_le _, Nat.zero_le _⟩ (fun H locs hP hS _ _ => ?_)
  refine W.eq (g2 := F0 m9 10 ls [.int (zI (bI (0 ≤ p ∧ p ≤ (n : Int) - 1)))]) rfl ?_
  refine zr_if_ne (tgt := 19) hx hb dX3_colourIn_10 (by decide) (bI_rg _) (fun c_1 => ?_) (fun c_1 => ?_)
  · have c_1 := bI_n c_1
    exfalso; omega
  · have c_1 := bI_z c_1
    refine lv_aload_n hx hb dX3_colourIn_13 rfl (lv_at hl 0 rfl) ?_
    refine zr_iconst hx hb dX3_colourIn_14 ?_
    refine zcallV (ci := 3) (q0 := 0) (cq := (RX3, TX3, 12)) (As := [.int (zI 1)]) (rest := []) ⟨hx, hb, hml, hown, hts⟩ hK (kX3_no l D cI cZ q hN pa sp al co da mo st mr 0 n td wn 1) (cwV 1 hts gX3_colourIn_X3_no rfl rfl rfl (by decide +kernel) ⟨Nat.le_of_ble_eq_true rfl, Nat.le_of_ble_eq_true rfl⟩) hP hS hA rfl rfl rfl hl.1 rfl (Nat.le_of_ble_eq_true rfl) dX3_colourIn_15 ⟨Nat.zero_le _, Nat.zero_le _⟩ (fun H locs hP hS _ _ => ?_)
    refine W.eq (g2 := F0 m9 18 ls [.int (zI 0)]) rfl ?_
    rw [hQ0]
    exact zret_i hx hb hr hlocks (rfl) hP hS dX3_colourIn_18
set_option maxHeartbeats 4000000 in
set_option maxRecDepth 100000 in
theorem kX3_colourIne2 (l : Launch) (D : va_G) (cI cZ : ClassId) (q : Nat → Nat) (hN : (zLM q).Nodup) (pa : Int → Int) (sp : Int → Int) (al : Int → Int) (co : Int → Int) (da : Int → Int) (mo : Int → Int) (st : Int → Int) (mr : Int → Int) (th : Int) (n : Nat) (td : Int) (wn : Int) (hn : n ≤ 16) (p : Int) (k : Int) (h0 : -2147483648 ≤ p ∧ p ≤ 2147483647) (h1 : 0 ≤ p ∧ p < (n : Int)) (h9 : -2147483648 ≤ k ∧ k ≤ 2147483647) (h2 : ¬ (0 ≤ k ∧ k ≤ 200)) : zM l yX3_colourIn wsX3_colourIn ({ frames := 2, cells := 0, slots := 0, locals := 54 }) D [(cI, .int), (cZ, .boolean)] [.ref (q 0), .int (zI p), .int (zI k)] (wM cI cZ q pa sp al co da mo st mr th n td wn) (wM cI cZ q pa sp al co da mo st mr 2 n td wn) (some (.int (zI 0))) (zLM q) := by
  refine Met.ofW (cc := cX3_colourIn) (maxL := 3) (ret := (some .int)) (by decide) rfl ?_
  intro p0 e9 s9 m9 ag9 below meth c9 s₁ B hml hv
  obtain ⟨hav, hP, hK⟩ := hv
  have hx := B.exec
  have hb := B.bytes
  have hr := B.returns
  have hts := atoms_spec (ws := wsX3_colourIn) B.pre
  have hown : s9.vm.findClass RX3 = some m9.cls := findClass_of_methodNamed B.named
  have hlocks := B.notSynchronized
  have hA : ∀ a ∈ zLM q, (fun a => a ∈ zLM q) a := fun _ h => h
  have hin3 : ∀ w ∈ u_ws RX3 TX3 12, w ∈ wsX3_colourIn := by decide +kernel
  have hl := lv_entry ([.ref (q 0), .int (zI p), .int (zI k)]) (n := 3) (Nat.le_of_ble_eq_true rfl)
  have hE : entryFrame m9 ag9 3 = F0 m9 0 ((lg_sl ([.ref (q 0), .int (zI p), .int (zI k)]) ++ List.replicate (3 - (lg_sl ([.ref (q 0), .int (zI p), .int (zI k)])).length) Slot.unset).toArray) [] := by rw [hav]; exact lg_entry_eq m9 _ _
  obtain ⟨Q0, hQ0⟩ : ∃ Q0, Q0 = MQ below (zQ D (wM cI cZ q pa sp al co da mo st mr 2 n td wn) (some (.int (zI 0))) (zLM q)) ag9 s9 0 0 (fun a => a ∈ zLM q) := ⟨_, rfl⟩
  show W p0 l e9 ({ frames := 2, cells := 0, slots := 0, locals := 54 }) s9 m9 ag9 below meth c9 s9.heap [] 0 0 (MQ below (zQ D (wM cI cZ q pa sp al co da mo st mr 2 n td wn) (some (.int (zI 0))) (zLM q)) ag9 s9 0 0 (fun a => a ∈ zLM q)) _
  rw [hE, ← hQ0]
  have hS : va_S (fun a => a ∈ zLM q) s9.heap s9.heap [] := va_S.rf
  generalize hH0 : s9.heap = H at hP ⊢
  have hS : va_S (fun a => a ∈ zLM q) s9.heap H [] := by rw [hH0] at hS ⊢; exact hS
  generalize (lg_sl ([.ref (q 0), .int (zI p), .int (zI k)]) ++ List.replicate (3 - (lg_sl ([.ref (q 0), .int (zI p), .int (zI k)])).length) Slot.unset).toArray = ls at hl ⊢
  have hl : lv_has ls 3 [(0, .ref (q 0)), (1, .int (zI p)), (2, .int (zI k))] := hl
  refine lv_aload_n hx hb dX3_colourIn_0 rfl (lv_at hl 0 rfl) ?_
  refine zr_iconst hx hb dX3_colourIn_1 ?_
  refine va_put (D := D) (ci := 3) (v := .int (zI 0)) (ty := .int) (C := RX3) (T := TX3) (N := 12) hx hb hts hin3 tyX3 tyX3_ok nmX3 hown hK hP (zD hN rfl hA) hS 0 rfl rfl 0 (by decide) (hts (.fieldLink RX3 35 "MourningRibbonsModel" "thrown" "I") (by decide +kernel)) (fun _ h9 => h9) rfl (by decide +kernel) rfl rfl (Nat.le_of_ble_eq_true rfl) dX3_colourIn_2 (fun H locs hP _ hS => ?_)
  have hP : va_P D vwCl (wM cI cZ q pa sp al co da mo st mr 0 n td wn) H := hP
  refine lv_aload_n hx hb dX3_colourIn_5 rfl (lv_at hl 0 rfl) ?_
  refine lv_iload_n hx hb dX3_colourIn_6 rfl (lv_at hl 1 rfl) ?_
  refine zcallV (ci := 3) (q0 := 0) (cq := (RX3, TX3, 12)) (As := [.int (zI p)]) (rest := []) ⟨hx, hb, hml, hown, hts⟩ hK (kX3_isPerson l D cI cZ q hN pa sp al co da mo st mr 0 n td wn hn p (by omega)) (cwV 1 hts gX3_colourIn_X3_isPerson rfl rfl rfl (by decide +kernel) ⟨Nat.le_of_ble_eq_true rfl, Nat.le_of_ble_eq_true rfl⟩) hP hS hA rfl rfl rfl hl.1 rfl (Nat.le_of_ble_eq_true rfl) dX3_colourIn_7 ⟨Nat.zero_le _, Nat.zero_le _⟩ (fun H locs hP hS _ _ => ?_)
  refine W.eq (g2 := F0 m9 10 ls [.int (zI (bI (0 ≤ p ∧ p ≤ (n : Int) - 1)))]) rfl ?_
  refine zr_if_ne (tgt := 19) hx hb dX3_colourIn_10 (by decide) (bI_rg _) (fun c_1 => ?_) (fun c_1 => ?_)
  · have c_1 := bI_n c_1
    refine lv_iload_n hx hb dX3_colourIn_19 rfl (lv_at hl 2 rfl) ?_
    refine zr_iconst hx hb dX3_colourIn_20 ?_
    refine zr_sipush hx hb dX3_colourIn_21 (by decide) ?_
    refine zcallP (As := [.int (zI k), .int (zI 0), .int (zI 200)]) (rest := []) ⟨hx, hb, hml, hown, hts⟩ (kX3_isIn l D k 0 200 (by omega) (by omega) (by omega)) hK (va_cwS 3 hts gX3_colourIn_X3_isIn rfl rfl rfl (by decide +kernel) ⟨Nat.le_of_ble_eq_true rfl, Nat.le_of_ble_eq_true rfl⟩) hP hS rfl hl.1 rfl (Nat.le_of_ble_eq_true rfl) dX3_colourIn_24 ⟨Nat.zero_le _, Nat.zero_le _⟩ (fun H locs hP hS => ?_)
    refine W.eq (g2 := F0 m9 27 ls [.int (zI (bI (0 ≤ k ∧ k ≤ 200)))]) rfl ?_
    refine zr_if_eq (tgt := 44) hx hb dX3_colourIn_27 (by decide) (bI_rg _) (fun c_2 => ?_) (fun c_2 => ?_)
    · have c_2 := bI_z c_2
      refine lv_aload_n hx hb dX3_colourIn_44 rfl (lv_at hl 0 rfl) ?_
      refine zr_iconst hx hb dX3_colourIn_45 ?_
      refine zcallV (ci := 3) (q0 := 0) (cq := (RX3, TX3, 12)) (As := [.int (zI 2)]) (rest := []) ⟨hx, hb, hml, hown, hts⟩ hK (kX3_no l D cI cZ q hN pa sp al co da mo st mr 0 n td wn 2) (cwV 1 hts gX3_colourIn_X3_no rfl rfl rfl (by decide +kernel) ⟨Nat.le_of_ble_eq_true rfl, Nat.le_of_ble_eq_true rfl⟩) hP hS hA rfl rfl rfl hl.1 rfl (Nat.le_of_ble_eq_true rfl) dX3_colourIn_46 ⟨Nat.zero_le _, Nat.zero_le _⟩ (fun H locs hP hS _ _ => ?_)
      refine W.eq (g2 := F0 m9 49 ls [.int (zI 0)]) rfl ?_
      rw [hQ0]
      exact zret_i hx hb hr hlocks (rfl) hP hS dX3_colourIn_49
    · have c_2 := bI_n c_2
      refine lv_aload_n hx hb dX3_colourIn_30 rfl (lv_at hl 0 rfl) ?_
      refine lv_iload_n hx hb dX3_colourIn_31 rfl (lv_at hl 1 rfl) ?_
      refine lv_aload_n hx hb dX3_colourIn_32 rfl (lv_at hl 0 rfl) ?_
      refine va_get (D := D) (ci := 3) (v := .int (zI td)) (C := RX3) (T := TX3) (N := 12) hx hb hts hin3 hown hK hP 0 rfl rfl 8 (by decide) (hts (.fieldLink RX3 95 "MourningRibbonsModel" "today" "I") (by decide +kernel)) (fun _ h9 => h9) rfl dX3_colourIn_33 ?_
      refine lv_iload_n hx hb dX3_colourIn_36 rfl (lv_at hl 2 rfl) ?_
      refine zr_iadd (v := td + k) hx hb rfl dX3_colourIn_37 ?_
      exfalso; omega
  · have c_1 := bI_z c_1
    refine lv_aload_n hx hb dX3_colourIn_13 rfl (lv_at hl 0 rfl) ?_
    refine zr_iconst hx hb dX3_colourIn_14 ?_
    exfalso; omega
set_option maxHeartbeats 4000000 in
set_option maxRecDepth 100000 in
theorem kX3_mourningsOfok (l : Launch) (D : va_G) (cI cZ : ClassId) (q : Nat → Nat) (hN : (zLM q).Nodup) (pa : Int → Int) (sp : Int → Int) (al : Int → Int) (co : Int → Int) (da : Int → Int) (mo : Int → Int) (st : Int → Int) (mr : Int → Int) (th : Int) (n : Nat) (td : Int) (wn : Int) (hn : n ≤ 16) (hmo : ∀ j : Int, -1 ≤ mo j ∧ mo j ≤ 1000000) (htd : 0 ≤ td ∧ td ≤ 1000000) (p : Int) (h0 : -2147483648 ≤ p ∧ p ≤ 2147483647) (h1 : 0 ≤ p ∧ p < (n : Int)) : zM l yX3_mourningsOf wsX3_mourningsOf ({ frames := 3, cells := 0, slots := 0, locals := 76 }) D [(cI, .int), (cZ, .boolean)] [.ref (q 0), .int (zI p)] (wM cI cZ q pa sp al co da mo st mr th n td wn) (wM cI cZ q pa sp al co da mo st mr 0 n td wn) (some (.int (zI (smF (gtF (lM mo td p)) n)))) (zLM q) := by
  refine Met.ofW (cc := cX3_mourningsOf) (maxL := 2) (ret := (some .int)) (by decide) rfl ?_
  intro p0 e9 s9 m9 ag9 below meth c9 s₁ B hml hv
  obtain ⟨hav, hP, hK⟩ := hv
  have hx := B.exec
  have hb := B.bytes
  have hr := B.returns
  have hts := atoms_spec (ws := wsX3_mourningsOf) B.pre
  have hown : s9.vm.findClass RX3 = some m9.cls := findClass_of_methodNamed B.named
  have hlocks := B.notSynchronized
  have hA : ∀ a ∈ zLM q, (fun a => a ∈ zLM q) a := fun _ h => h
  have hin3 : ∀ w ∈ u_ws RX3 TX3 12, w ∈ wsX3_mourningsOf := by decide +kernel
  have hl := lv_entry ([.ref (q 0), .int (zI p)]) (n := 2) (Nat.le_of_ble_eq_true rfl)
  have hE : entryFrame m9 ag9 2 = F0 m9 0 ((lg_sl ([.ref (q 0), .int (zI p)]) ++ List.replicate (2 - (lg_sl ([.ref (q 0), .int (zI p)])).length) Slot.unset).toArray) [] := by rw [hav]; exact lg_entry_eq m9 _ _
  obtain ⟨Q0, hQ0⟩ : ∃ Q0, Q0 = MQ below (zQ D (wM cI cZ q pa sp al co da mo st mr 0 n td wn) (some (.int (zI (smF (gtF (lM mo td p)) n)))) (zLM q)) ag9 s9 0 0 (fun a => a ∈ zLM q) := ⟨_, rfl⟩
  show W p0 l e9 ({ frames := 3, cells := 0, slots := 0, locals := 76 }) s9 m9 ag9 below meth c9 s9.heap [] 0 0 (MQ below (zQ D (wM cI cZ q pa sp al co da mo st mr 0 n td wn) (some (.int (zI (smF (gtF (lM mo td p)) n)))) (zLM q)) ag9 s9 0 0 (fun a => a ∈ zLM q)) _
  rw [hE, ← hQ0]
  have hS : va_S (fun a => a ∈ zLM q) s9.heap s9.heap [] := va_S.rf
  generalize hH0 : s9.heap = H at hP ⊢
  have hS : va_S (fun a => a ∈ zLM q) s9.heap H [] := by rw [hH0] at hS ⊢; exact hS
  generalize (lg_sl ([.ref (q 0), .int (zI p)]) ++ List.replicate (2 - (lg_sl ([.ref (q 0), .int (zI p)])).length) Slot.unset).toArray = ls at hl ⊢
  have hl : lv_has ls 2 [(0, .ref (q 0)), (1, .int (zI p))] := hl
  refine lv_aload_n hx hb dX3_mourningsOf_0 rfl (lv_at hl 0 rfl) ?_
  refine zr_iconst hx hb dX3_mourningsOf_1 ?_
  refine va_put (D := D) (ci := 3) (v := .int (zI 0)) (ty := .int) (C := RX3) (T := TX3) (N := 12) hx hb hts hin3 tyX3 tyX3_ok nmX3 hown hK hP (zD hN rfl hA) hS 0 rfl rfl 0 (by decide) (hts (.fieldLink RX3 35 "MourningRibbonsModel" "thrown" "I") (by decide +kernel)) (fun _ h9 => h9) rfl (by decide +kernel) rfl rfl (Nat.le_of_ble_eq_true rfl) dX3_mourningsOf_2 (fun H locs hP _ hS => ?_)
  have hP : va_P D vwCl (wM cI cZ q pa sp al co da mo st mr 0 n td wn) H := hP
  refine lv_aload_n hx hb dX3_mourningsOf_5 rfl (lv_at hl 0 rfl) ?_
  refine lv_iload_n hx hb dX3_mourningsOf_6 rfl (lv_at hl 1 rfl) ?_
  refine zcallV (ci := 3) (q0 := 0) (cq := (RX3, TX3, 12)) (As := [.int (zI p)]) (rest := []) ⟨hx, hb, hml, hown, hts⟩ hK (kX3_isPerson l D cI cZ q hN pa sp al co da mo st mr 0 n td wn hn p (by omega)) (cwV 1 hts gX3_mourningsOf_X3_isPerson rfl rfl rfl (by decide +kernel) ⟨Nat.le_of_ble_eq_true rfl, Nat.le_of_ble_eq_true rfl⟩) hP hS hA rfl rfl rfl hl.1 rfl (Nat.le_of_ble_eq_true rfl) dX3_mourningsOf_7 ⟨Nat.zero_le _, Nat.zero_le _⟩ (fun H locs hP hS _ _ => ?_)
  refine W.eq (g2 := F0 m9 10 ls [.int (zI (bI (0 ≤ p ∧ p ≤ (n : Int) - 1)))]) rfl ?_
  refine zr_if_eq (tgt := 21) hx hb dX3_mourningsOf_10 (by decide) (bI_rg _) (fun c_1 => ?_) (fun c_1 => ?_)
  · have c_1 := bI_z c_1
    refine lv_aload_n hx hb dX3_mourningsOf_21 rfl (lv_at hl 0 rfl) ?_
    refine zr_iconst hx hb dX3_mourningsOf_22 ?_
    exfalso; omega
  · have c_1 := bI_n c_1
    refine lv_aload_n hx hb dX3_mourningsOf_13 rfl (lv_at hl 0 rfl) ?_
    refine lv_iload_n hx hb dX3_mourningsOf_14 rfl (lv_at hl 1 rfl) ?_
    refine zcallV (ci := 3) (q0 := 0) (cq := (RX3, TX3, 12)) (As := [.int (zI p)]) (rest := []) ⟨hx, hb, hml, hown, hts⟩ hK (kX3_mournings l D cI cZ q hN pa sp al co da mo st mr 0 n td wn hn hmo htd p (by omega)) (cwV 1 hts gX3_mourningsOf_X3_mournings rfl rfl rfl (by decide +kernel) ⟨Nat.le_of_ble_eq_true rfl, Nat.le_of_ble_eq_true rfl⟩) hP hS hA rfl rfl rfl hl.1 rfl (Nat.le_of_ble_eq_true rfl) dX3_mourningsOf_15 ⟨Nat.zero_le _, Nat.zero_le _⟩ (fun H locs hP hS _ _ => ?_)
    refine W.eq (g2 := F0 m9 18 ls [.int (zI (smF (gtF (lM mo td p)) n))]) rfl ?_
    refine lv_goto (tgt := 26) hx hb dX3_mourningsOf_18 (by decide) ?_
    rw [hQ0]
    exact zret_i hx hb hr hlocks (rfl) hP hS dX3_mourningsOf_26
set_option maxHeartbeats 4000000 in
set_option maxRecDepth 100000 in
theorem kX3_mourningsOfe1 (l : Launch) (D : va_G) (cI cZ : ClassId) (q : Nat → Nat) (hN : (zLM q).Nodup) (pa : Int → Int) (sp : Int → Int) (al : Int → Int) (co : Int → Int) (da : Int → Int) (mo : Int → Int) (st : Int → Int) (mr : Int → Int) (th : Int) (n : Nat) (td : Int) (wn : Int) (hn : n ≤ 16) (p : Int) (h0 : -2147483648 ≤ p ∧ p ≤ 2147483647) (h1 : ¬ (0 ≤ p ∧ p < (n : Int))) : zM l yX3_mourningsOf wsX3_mourningsOf ({ frames := 3, cells := 0, slots := 0, locals := 76 }) D [(cI, .int), (cZ, .boolean)] [.ref (q 0), .int (zI p)] (wM cI cZ q pa sp al co da mo st mr th n td wn) (wM cI cZ q pa sp al co da mo st mr 1 n td wn) (some (.int (zI 0))) (zLM q) := by
  refine Met.ofW (cc := cX3_mourningsOf) (maxL := 2) (ret := (some .int)) (by decide) rfl ?_
  intro p0 e9 s9 m9 ag9 below meth c9 s₁ B hml hv
  obtain ⟨hav, hP, hK⟩ := hv
  have hx := B.exec
  have hb := B.bytes
  have hr := B.returns
  have hts := atoms_spec (ws := wsX3_mourningsOf) B.pre
  have hown : s9.vm.findClass RX3 = some m9.cls := findClass_of_methodNamed B.named
  have hlocks := B.notSynchronized
  have hA : ∀ a ∈ zLM q, (fun a => a ∈ zLM q) a := fun _ h => h
  have hin3 : ∀ w ∈ u_ws RX3 TX3 12, w ∈ wsX3_mourningsOf := by decide +kernel
  have hl := lv_entry ([.ref (q 0), .int (zI p)]) (n := 2) (Nat.le_of_ble_eq_true rfl)
  have hE : entryFrame m9 ag9 2 = F0 m9 0 ((lg_sl ([.ref (q 0), .int (zI p)]) ++ List.replicate (2 - (lg_sl ([.ref (q 0), .int (zI p)])).length) Slot.unset).toArray) [] := by rw [hav]; exact lg_entry_eq m9 _ _
  obtain ⟨Q0, hQ0⟩ : ∃ Q0, Q0 = MQ below (zQ D (wM cI cZ q pa sp al co da mo st mr 1 n td wn) (some (.int (zI 0))) (zLM q)) ag9 s9 0 0 (fun a => a ∈ zLM q) := ⟨_, rfl⟩
  show W p0 l e9 ({ frames := 3, cells := 0, slots := 0, locals := 76 }) s9 m9 ag9 below meth c9 s9.heap [] 0 0 (MQ below (zQ D (wM cI cZ q pa sp al co da mo st mr 1 n td wn) (some (.int (zI 0))) (zLM q)) ag9 s9 0 0 (fun a => a ∈ zLM q)) _
  rw [hE, ← hQ0]
  have hS : va_S (fun a => a ∈ zLM q) s9.heap s9.heap [] := va_S.rf
  generalize hH0 : s9.heap = H at hP ⊢
  have hS : va_S (fun a => a ∈ zLM q) s9.heap H [] := by rw [hH0] at hS ⊢; exact hS
  generalize (lg_sl ([.ref (q 0), .int (zI p)]) ++ List.replicate (2 - (lg_sl ([.ref (q 0), .int (zI p)])).length) Slot.unset).toArray = ls at hl ⊢
  have hl : lv_has ls 2 [(0, .ref (q 0)), (1, .int (zI p))] := hl
  refine lv_aload_n hx hb dX3_mourningsOf_0 rfl (lv_at hl 0 rfl) ?_
  refine zr_iconst hx hb dX3_mourningsOf_1 ?_
  refine va_put (D := D) (ci := 3) (v := .int (zI 0)) (ty := .int) (C := RX3) (T := TX3) (N := 12) hx hb hts hin3 tyX3 tyX3_ok nmX3 hown hK hP (zD hN rfl hA) hS 0 rfl rfl 0 (by decide) (hts (.fieldLink RX3 35 "MourningRibbonsModel" "thrown" "I") (by decide +kernel)) (fun _ h9 => h9) rfl (by decide +kernel) rfl rfl (Nat.le_of_ble_eq_true rfl) dX3_mourningsOf_2 (fun H locs hP _ hS => ?_)
  have hP : va_P D vwCl (wM cI cZ q pa sp al co da mo st mr 0 n td wn) H := hP
  refine lv_aload_n hx hb dX3_mourningsOf_5 rfl (lv_at hl 0 rfl) ?_
  refine lv_iload_n hx hb dX3_mourningsOf_6 rfl (lv_at hl 1 rfl) ?_
  refine zcallV (ci := 3) (q0 := 0) (cq := (RX3, TX3, 12)) (As := [.int (zI p)]) (rest := []) ⟨hx, hb, hml, hown, hts⟩ hK (kX3_isPerson l D cI cZ q hN pa sp al co da mo st mr 0 n td wn hn p (by omega)) (cwV 1 hts gX3_mourningsOf_X3_isPerson rfl rfl rfl (by decide +kernel) ⟨Nat.le_of_ble_eq_true rfl, Nat.le_of_ble_eq_true rfl⟩) hP hS hA rfl rfl rfl hl.1 rfl (Nat.le_of_ble_eq_true rfl) dX3_mourningsOf_7 ⟨Nat.zero_le _, Nat.zero_le _⟩ (fun H locs hP hS _ _ => ?_)
  refine W.eq (g2 := F0 m9 10 ls [.int (zI (bI (0 ≤ p ∧ p ≤ (n : Int) - 1)))]) rfl ?_
  refine zr_if_eq (tgt := 21) hx hb dX3_mourningsOf_10 (by decide) (bI_rg _) (fun c_1 => ?_) (fun c_1 => ?_)
  · have c_1 := bI_z c_1
    refine lv_aload_n hx hb dX3_mourningsOf_21 rfl (lv_at hl 0 rfl) ?_
    refine zr_iconst hx hb dX3_mourningsOf_22 ?_
    refine zcallV (ci := 3) (q0 := 0) (cq := (RX3, TX3, 12)) (As := [.int (zI 1)]) (rest := []) ⟨hx, hb, hml, hown, hts⟩ hK (kX3_no l D cI cZ q hN pa sp al co da mo st mr 0 n td wn 1) (cwV 1 hts gX3_mourningsOf_X3_no rfl rfl rfl (by decide +kernel) ⟨Nat.le_of_ble_eq_true rfl, Nat.le_of_ble_eq_true rfl⟩) hP hS hA rfl rfl rfl hl.1 rfl (Nat.le_of_ble_eq_true rfl) dX3_mourningsOf_23 ⟨Nat.zero_le _, Nat.zero_le _⟩ (fun H locs hP hS _ _ => ?_)
    refine W.eq (g2 := F0 m9 26 ls [.int (zI 0)]) rfl ?_
    rw [hQ0]
    exact zret_i hx hb hr hlocks (rfl) hP hS dX3_mourningsOf_26
  · have c_1 := bI_n c_1
    refine lv_aload_n hx hb dX3_mourningsOf_13 rfl (lv_at hl 0 rfl) ?_
    refine lv_iload_n hx hb dX3_mourningsOf_14 rfl (lv_at hl 1 rfl) ?_
    exfalso; omega
set_option maxHeartbeats 4000000 in
set_option maxRecDepth 100000 in
theorem kX3_daysLeftForok (l : Launch) (D : va_G) (cI cZ : ClassId) (q : Nat → Nat) (hN : (zLM q).Nodup) (pa : Int → Int) (sp : Int → Int) (al : Int → Int) (co : Int → Int) (da : Int → Int) (mo : Int → Int) (st : Int → Int) (mr : Int → Int) (th : Int) (n : Nat) (td : Int) (wn : Int) (hn : n ≤ 16) (hmo : ∀ j : Int, -1 ≤ mo j ∧ mo j ≤ 1000000) (htd : 0 ≤ td ∧ td ≤ 1000000) (p : Int) (d : Int) (h8 : -2147483648 ≤ p ∧ p ≤ 2147483647) (h9 : -2147483648 ≤ d ∧ d ≤ 2147483647) (h1 : 0 ≤ p ∧ p < (n : Int)) (h2 : 0 ≤ d ∧ d < (n : Int)) : zM l yX3_daysLeftFor wsX3_daysLeftFor ({ frames := 2, cells := 0, slots := 0, locals := 53 }) D [(cI, .int), (cZ, .boolean)] [.ref (q 0), .int (zI p), .int (zI d)] (wM cI cZ q pa sp al co da mo st mr th n td wn) (wM cI cZ q pa sp al co da mo st mr 0 n td wn) (some (.int (zI (lM mo td p d)))) (zLM q) := by
  refine Met.ofW (cc := cX3_daysLeftFor) (maxL := 3) (ret := (some .int)) (by decide) rfl ?_
  intro p0 e9 s9 m9 ag9 below meth c9 s₁ B hml hv
  obtain ⟨hav, hP, hK⟩ := hv
  have hx := B.exec
  have hb := B.bytes
  have hr := B.returns
  have hts := atoms_spec (ws := wsX3_daysLeftFor) B.pre
  have hown : s9.vm.findClass RX3 = some m9.cls := findClass_of_methodNamed B.named
  have hlocks := B.notSynchronized
  have hA : ∀ a ∈ zLM q, (fun a => a ∈ zLM q) a := fun _ h => h
  have hin3 : ∀ w ∈ u_ws RX3 TX3 12, w ∈ wsX3_daysLeftFor := by decide +kernel
  have hl := lv_entry ([.ref (q 0), .int (zI p), .int (zI d)]) (n := 3) (Nat.le_of_ble_eq_true rfl)
  have hE : entryFrame m9 ag9 3 = F0 m9 0 ((lg_sl ([.ref (q 0), .int (zI p), .int (zI d)]) ++ List.replicate (3 - (lg_sl ([.ref (q 0), .int (zI p), .int (zI d)])).length) Slot.unset).toArray) [] := by rw [hav]; exact lg_entry_eq m9 _ _
  obtain ⟨Q0, hQ0⟩ : ∃ Q0, Q0 = MQ below (zQ D (wM cI cZ q pa sp al co da mo st mr 0 n td wn) (some (.int (zI (lM mo td p d)))) (zLM q)) ag9 s9 0 0 (fun a => a ∈ zLM q) := ⟨_, rfl⟩
  show W p0 l e9 ({ frames := 2, cells := 0, slots := 0, locals := 53 }) s9 m9 ag9 below meth c9 s9.heap [] 0 0 (MQ below (zQ D (wM cI cZ q pa sp al co da mo st mr 0 n td wn) (some (.int (zI (lM mo td p d)))) (zLM q)) ag9 s9 0 0 (fun a => a ∈ zLM q)) _
  rw [hE, ← hQ0]
  have hS : va_S (fun a => a ∈ zLM q) s9.heap s9.heap [] := va_S.rf
  generalize hH0 : s9.heap = H at hP ⊢
  have hS : va_S (fun a => a ∈ zLM q) s9.heap H [] := by rw [hH0] at hS ⊢; exact hS
  generalize (lg_sl ([.ref (q 0), .int (zI p), .int (zI d)]) ++ List.replicate (3 - (lg_sl ([.ref (q 0), .int (zI p), .int (zI d)])).length) Slot.unset).toArray = ls at hl ⊢
  have hl : lv_has ls 3 [(0, .ref (q 0)), (1, .int (zI p)), (2, .int (zI d))] := hl
  refine lv_aload_n hx hb dX3_daysLeftFor_0 rfl (lv_at hl 0 rfl) ?_
  refine zr_iconst hx hb dX3_daysLeftFor_1 ?_
  refine va_put (D := D) (ci := 3) (v := .int (zI 0)) (ty := .int) (C := RX3) (T := TX3) (N := 12) hx hb hts hin3 tyX3 tyX3_ok nmX3 hown hK hP (zD hN rfl hA) hS 0 rfl rfl 0 (by decide) (hts (.fieldLink RX3 35 "MourningRibbonsModel" "thrown" "I") (by decide +kernel)) (fun _ h9 => h9) rfl (by decide +kernel) rfl rfl (Nat.le_of_ble_eq_true rfl) dX3_daysLeftFor_2 (fun H locs hP _ hS => ?_)
  have hP : va_P D vwCl (wM cI cZ q pa sp al co da mo st mr 0 n td wn) H := hP
  refine lv_aload_n hx hb dX3_daysLeftFor_5 rfl (lv_at hl 0 rfl) ?_
  refine lv_iload_n hx hb dX3_daysLeftFor_6 rfl (lv_at hl 1 rfl) ?_
  refine zcallV (ci := 3) (q0 := 0) (cq := (RX3, TX3, 12)) (As := [.int (zI p)]) (rest := []) ⟨hx, hb, hml, hown, hts⟩ hK (kX3_isPerson l D cI cZ q hN pa sp al co da mo st mr 0 n td wn hn p (by omega)) (cwV 1 hts gX3_daysLeftFor_X3_isPerson rfl rfl rfl (by decide +kernel) ⟨Nat.le_of_ble_eq_true rfl, Nat.le_of_ble_eq_true rfl⟩) hP hS hA rfl rfl rfl hl.1 rfl (Nat.le_of_ble_eq_true rfl) dX3_daysLeftFor_7 ⟨Nat.zero_le _, Nat.zero_le _⟩ (fun H locs hP hS _ _ => ?_)
  refine W.eq (g2 := F0 m9 10 ls [.int (zI (bI (0 ≤ p ∧ p ≤ (n : Int) - 1)))]) rfl ?_
  refine zr_if_eq (tgt := 30) hx hb dX3_daysLeftFor_10 (by decide) (bI_rg _) (fun c_1 => ?_) (fun c_1 => ?_)
  · have c_1 := bI_z c_1
    refine lv_aload_n hx hb dX3_daysLeftFor_30 rfl (lv_at hl 0 rfl) ?_
    refine zr_iconst hx hb dX3_daysLeftFor_31 ?_
    exfalso; omega
  · have c_1 := bI_n c_1
    refine lv_aload_n hx hb dX3_daysLeftFor_13 rfl (lv_at hl 0 rfl) ?_
    refine lv_iload_n hx hb dX3_daysLeftFor_14 rfl (lv_at hl 2 rfl) ?_
    refine zcallV (ci := 3) (q0 := 0) (cq := (RX3, TX3, 12)) (As := [.int (zI d)]) (rest := []) ⟨hx, hb, hml, hown, hts⟩ hK (kX3_isPerson l D cI cZ q hN pa sp al co da mo st mr 0 n td wn hn d (by omega)) (cwV 1 hts gX3_daysLeftFor_X3_isPerson rfl rfl rfl (by decide +kernel) ⟨Nat.le_of_ble_eq_true rfl, Nat.le_of_ble_eq_true rfl⟩) hP hS hA rfl rfl rfl hl.1 rfl (Nat.le_of_ble_eq_true rfl) dX3_daysLeftFor_15 ⟨Nat.zero_le _, Nat.zero_le _⟩ (fun H locs hP hS _ _ => ?_)
    refine W.eq (g2 := F0 m9 18 ls [.int (zI (bI (0 ≤ d ∧ d ≤ (n : Int) - 1)))]) rfl ?_
    refine zr_if_eq (tgt := 30) hx hb dX3_daysLeftFor_18 (by decide) (bI_rg _) (fun c_2 => ?_) (fun c_2 => ?_)
    · have c_2 := bI_z c_2
      refine lv_aload_n hx hb dX3_daysLeftFor_30 rfl (lv_at hl 0 rfl) ?_
      refine zr_iconst hx hb dX3_daysLeftFor_31 ?_
      exfalso; omega
    · have c_2 := bI_n c_2
      refine lv_aload_n hx hb dX3_daysLeftFor_21 rfl (lv_at hl 0 rfl) ?_
      refine lv_iload_n hx hb dX3_daysLeftFor_22 rfl (lv_at hl 1 rfl) ?_
      refine lv_iload_n hx hb dX3_daysLeftFor_23 rfl (lv_at hl 2 rfl) ?_
      refine zcallV (ci := 3) (q0 := 0) (cq := (RX3, TX3, 12)) (As := [.int (zI p), .int (zI d)]) (rest := []) ⟨hx, hb, hml, hown, hts⟩ hK (kX3_left l D cI cZ q hN pa sp al co da mo st mr 0 n td wn hmo htd p d (by omega) (by omega)) (cwV 2 hts gX3_daysLeftFor_X3_left rfl rfl rfl (by decide +kernel) ⟨Nat.le_of_ble_eq_true rfl, Nat.le_of_ble_eq_true rfl⟩) hP hS hA rfl rfl rfl hl.1 rfl (Nat.le_of_ble_eq_true rfl) dX3_daysLeftFor_24 ⟨Nat.zero_le _, Nat.zero_le _⟩ (fun H locs hP hS _ _ => ?_)
      refine W.eq (g2 := F0 m9 27 ls [.int (zI (lM mo td p d))]) rfl ?_
      have f_3 := lM_bd hmo htd p d
      refine lv_goto (tgt := 35) hx hb dX3_daysLeftFor_27 (by decide) ?_
      rw [hQ0]
      exact zret_i hx hb hr hlocks (rfl) hP hS dX3_daysLeftFor_35
set_option maxHeartbeats 4000000 in
set_option maxRecDepth 100000 in
theorem kX3_daysLeftFore1 (l : Launch) (D : va_G) (cI cZ : ClassId) (q : Nat → Nat) (hN : (zLM q).Nodup) (pa : Int → Int) (sp : Int → Int) (al : Int → Int) (co : Int → Int) (da : Int → Int) (mo : Int → Int) (st : Int → Int) (mr : Int → Int) (th : Int) (n : Nat) (td : Int) (wn : Int) (hn : n ≤ 16) (p : Int) (d : Int) (h8 : -2147483648 ≤ p ∧ p ≤ 2147483647) (h9 : -2147483648 ≤ d ∧ d ≤ 2147483647) (h1 : ¬ (0 ≤ p ∧ p < (n : Int)) ∨ ¬ (0 ≤ d ∧ d < (n : Int))) : zM l yX3_daysLeftFor wsX3_daysLeftFor ({ frames := 2, cells := 0, slots := 0, locals := 53 }) D [(cI, .int), (cZ, .boolean)] [.ref (q 0), .int (zI p), .int (zI d)] (wM cI cZ q pa sp al co da mo st mr th n td wn) (wM cI cZ q pa sp al co da mo st mr 1 n td wn) (some (.int (zI 0))) (zLM q) := by
  refine Met.ofW (cc := cX3_daysLeftFor) (maxL := 3) (ret := (some .int)) (by decide) rfl ?_
  intro p0 e9 s9 m9 ag9 below meth c9 s₁ B hml hv
  obtain ⟨hav, hP, hK⟩ := hv
  have hx := B.exec
  have hb := B.bytes
  have hr := B.returns
  have hts := atoms_spec (ws := wsX3_daysLeftFor) B.pre
  have hown : s9.vm.findClass RX3 = some m9.cls := findClass_of_methodNamed B.named
  have hlocks := B.notSynchronized
  have hA : ∀ a ∈ zLM q, (fun a => a ∈ zLM q) a := fun _ h => h
  have hin3 : ∀ w ∈ u_ws RX3 TX3 12, w ∈ wsX3_daysLeftFor := by decide +kernel
  have hl := lv_entry ([.ref (q 0), .int (zI p), .int (zI d)]) (n := 3) (Nat.le_of_ble_eq_true rfl)
  have hE : entryFrame m9 ag9 3 = F0 m9 0 ((lg_sl ([.ref (q 0), .int (zI p), .int (zI d)]) ++ List.replicate (3 - (lg_sl ([.ref (q 0), .int (zI p), .int (zI d)])).length) Slot.unset).toArray) [] := by rw [hav]; exact lg_entry_eq m9 _ _
  obtain ⟨Q0, hQ0⟩ : ∃ Q0, Q0 = MQ below (zQ D (wM cI cZ q pa sp al co da mo st mr 1 n td wn) (some (.int (zI 0))) (zLM q)) ag9 s9 0 0 (fun a => a ∈ zLM q) := ⟨_, rfl⟩
  show W p0 l e9 ({ frames := 2, cells := 0, slots := 0, locals := 53 }) s9 m9 ag9 below meth c9 s9.heap [] 0 0 (MQ below (zQ D (wM cI cZ q pa sp al co da mo st mr 1 n td wn) (some (.int (zI 0))) (zLM q)) ag9 s9 0 0 (fun a => a ∈ zLM q)) _
  rw [hE, ← hQ0]
  have hS : va_S (fun a => a ∈ zLM q) s9.heap s9.heap [] := va_S.rf
  generalize hH0 : s9.heap = H at hP ⊢
  have hS : va_S (fun a => a ∈ zLM q) s9.heap H [] := by rw [hH0] at hS ⊢; exact hS
  generalize (lg_sl ([.ref (q 0), .int (zI p), .int (zI d)]) ++ List.replicate (3 - (lg_sl ([.ref (q 0), .int (zI p), .int (zI d)])).length) Slot.unset).toArray = ls at hl ⊢
  have hl : lv_has ls 3 [(0, .ref (q 0)), (1, .int (zI p)), (2, .int (zI d))] := hl
  refine lv_aload_n hx hb dX3_daysLeftFor_0 rfl (lv_at hl 0 rfl) ?_
  refine zr_iconst hx hb dX3_daysLeftFor_1 ?_
  refine va_put (D := D) (ci := 3) (v := .int (zI 0)) (ty := .int) (C := RX3) (T := TX3) (N := 12) hx hb hts hin3 tyX3 tyX3_ok nmX3 hown hK hP (zD hN rfl hA) hS 0 rfl rfl 0 (by decide) (hts (.fieldLink RX3 35 "MourningRibbonsModel" "thrown" "I") (by decide +kernel)) (fun _ h9 => h9) rfl (by decide +kernel) rfl rfl (Nat.le_of_ble_eq_true rfl) dX3_daysLeftFor_2 (fun H locs hP _ hS => ?_)
  have hP : va_P D vwCl (wM cI cZ q pa sp al co da mo st mr 0 n td wn) H := hP
  refine lv_aload_n hx hb dX3_daysLeftFor_5 rfl (lv_at hl 0 rfl) ?_
  refine lv_iload_n hx hb dX3_daysLeftFor_6 rfl (lv_at hl 1 rfl) ?_
  refine zcallV (ci := 3) (q0 := 0) (cq := (RX3, TX3, 12)) (As := [.int (zI p)]) (rest := []) ⟨hx, hb, hml, hown, hts⟩ hK (kX3_isPerson l D cI cZ q hN pa sp al co da mo st mr 0 n td wn hn p (by omega)) (cwV 1 hts gX3_daysLeftFor_X3_isPerson rfl rfl rfl (by decide +kernel) ⟨Nat.le_of_ble_eq_true rfl, Nat.le_of_ble_eq_true rfl⟩) hP hS hA rfl rfl rfl hl.1 rfl (Nat.le_of_ble_eq_true rfl) dX3_daysLeftFor_7 ⟨Nat.zero_le _, Nat.zero_le _⟩ (fun H locs hP hS _ _ => ?_)
  refine W.eq (g2 := F0 m9 10 ls [.int (zI (bI (0 ≤ p ∧ p ≤ (n : Int) - 1)))]) rfl ?_
  refine zr_if_eq (tgt := 30) hx hb dX3_daysLeftFor_10 (by decide) (bI_rg _) (fun c_1 => ?_) (fun c_1 => ?_)
  · have c_1 := bI_z c_1
    refine lv_aload_n hx hb dX3_daysLeftFor_30 rfl (lv_at hl 0 rfl) ?_
    refine zr_iconst hx hb dX3_daysLeftFor_31 ?_
    refine zcallV (ci := 3) (q0 := 0) (cq := (RX3, TX3, 12)) (As := [.int (zI 1)]) (rest := []) ⟨hx, hb, hml, hown, hts⟩ hK (kX3_no l D cI cZ q hN pa sp al co da mo st mr 0 n td wn 1) (cwV 1 hts gX3_daysLeftFor_X3_no rfl rfl rfl (by decide +kernel) ⟨Nat.le_of_ble_eq_true rfl, Nat.le_of_ble_eq_true rfl⟩) hP hS hA rfl rfl rfl hl.1 rfl (Nat.le_of_ble_eq_true rfl) dX3_daysLeftFor_32 ⟨Nat.zero_le _, Nat.zero_le _⟩ (fun H locs hP hS _ _ => ?_)
    refine W.eq (g2 := F0 m9 35 ls [.int (zI 0)]) rfl ?_
    rw [hQ0]
    exact zret_i hx hb hr hlocks (rfl) hP hS dX3_daysLeftFor_35
  · have c_1 := bI_n c_1
    refine lv_aload_n hx hb dX3_daysLeftFor_13 rfl (lv_at hl 0 rfl) ?_
    refine lv_iload_n hx hb dX3_daysLeftFor_14 rfl (lv_at hl 2 rfl) ?_
    refine zcallV (ci := 3) (q0 := 0) (cq := (RX3, TX3, 12)) (As := [.int (zI d)]) (rest := []) ⟨hx, hb, hml, hown, hts⟩ hK (kX3_isPerson l D cI cZ q hN pa sp al co da mo st mr 0 n td wn hn d (by omega)) (cwV 1 hts gX3_daysLeftFor_X3_isPerson rfl rfl rfl (by decide +kernel) ⟨Nat.le_of_ble_eq_true rfl, Nat.le_of_ble_eq_true rfl⟩) hP hS hA rfl rfl rfl hl.1 rfl (Nat.le_of_ble_eq_true rfl) dX3_daysLeftFor_15 ⟨Nat.zero_le _, Nat.zero_le _⟩ (fun H locs hP hS _ _ => ?_)
    refine W.eq (g2 := F0 m9 18 ls [.int (zI (bI (0 ≤ d ∧ d ≤ (n : Int) - 1)))]) rfl ?_
    refine zr_if_eq (tgt := 30) hx hb dX3_daysLeftFor_18 (by decide) (bI_rg _) (fun c_2 => ?_) (fun c_2 => ?_)
    · have c_2 := bI_z c_2
      refine lv_aload_n hx hb dX3_daysLeftFor_30 rfl (lv_at hl 0 rfl) ?_
      refine zr_iconst hx hb dX3_daysLeftFor_31 ?_
      refine zcallV (ci := 3) (q0 := 0) (cq := (RX3, TX3, 12)) (As := [.int (zI 1)]) (rest := []) ⟨hx, hb, hml, hown, hts⟩ hK (kX3_no l D cI cZ q hN pa sp al co da mo st mr 0 n td wn 1) (cwV 1 hts gX3_daysLeftFor_X3_no rfl rfl rfl (by decide +kernel) ⟨Nat.le_of_ble_eq_true rfl, Nat.le_of_ble_eq_true rfl⟩) hP hS hA rfl rfl rfl hl.1 rfl (Nat.le_of_ble_eq_true rfl) dX3_daysLeftFor_32 ⟨Nat.zero_le _, Nat.zero_le _⟩ (fun H locs hP hS _ _ => ?_)
      refine W.eq (g2 := F0 m9 35 ls [.int (zI 0)]) rfl ?_
      rw [hQ0]
      exact zret_i hx hb hr hlocks (rfl) hP hS dX3_daysLeftFor_35
    · have c_2 := bI_n c_2
      refine lv_aload_n hx hb dX3_daysLeftFor_21 rfl (lv_at hl 0 rfl) ?_
      refine lv_iload_n hx hb dX3_daysLeftFor_22 rfl (lv_at hl 1 rfl) ?_
      refine lv_iload_n hx hb dX3_daysLeftFor_23 rfl (lv_at hl 2 rfl) ?_
      exfalso; omega
set_option maxHeartbeats 4000000 in
set_option maxRecDepth 100000 in
theorem kX3_daysLeftok (l : Launch) (D : va_G) (cI cZ : ClassId) (q : Nat → Nat) (hN : (zLM q).Nodup) (pa : Int → Int) (sp : Int → Int) (al : Int → Int) (co : Int → Int) (da : Int → Int) (mo : Int → Int) (st : Int → Int) (mr : Int → Int) (th : Int) (n : Nat) (td : Int) (wn : Int) (hn : n ≤ 16) (hmo : ∀ j : Int, -1 ≤ mo j ∧ mo j ≤ 1000000) (htd : 0 ≤ td ∧ td ≤ 1000000) (p : Int) (h0 : -2147483648 ≤ p ∧ p ≤ 2147483647) (h1 : 0 ≤ p ∧ p < (n : Int)) : zM l yX3_daysLeft wsX3_daysLeft ({ frames := 3, cells := 0, slots := 0, locals := 76 }) D [(cI, .int), (cZ, .boolean)] [.ref (q 0), .int (zI p)] (wM cI cZ q pa sp al co da mo st mr th n td wn) (wM cI cZ q pa sp al co da mo st mr 0 n td wn) (some (.int (zI (mxF (lM mo td p) n)))) (zLM q) := by
  refine Met.ofW (cc := cX3_daysLeft) (maxL := 2) (ret := (some .int)) (by decide) rfl ?_
  intro p0 e9 s9 m9 ag9 below meth c9 s₁ B hml hv
  obtain ⟨hav, hP, hK⟩ := hv
  have hx := B.exec
  have hb := B.bytes
  have hr := B.returns
  have hts := atoms_spec (ws := wsX3_daysLeft) B.pre
  have hown : s9.vm.findClass RX3 = some m9.cls := findClass_of_methodNamed B.named
  have hlocks := B.notSynchronized
  have hA : ∀ a ∈ zLM q, (fun a => a ∈ zLM q) a := fun _ h => h
  have hin3 : ∀ w ∈ u_ws RX3 TX3 12, w ∈ wsX3_daysLeft := by decide +kernel
  have hl := lv_entry ([.ref (q 0), .int (zI p)]) (n := 2) (Nat.le_of_ble_eq_true rfl)
  have hE : entryFrame m9 ag9 2 = F0 m9 0 ((lg_sl ([.ref (q 0), .int (zI p)]) ++ List.replicate (2 - (lg_sl ([.ref (q 0), .int (zI p)])).length) Slot.unset).toArray) [] := by rw [hav]; exact lg_entry_eq m9 _ _
  obtain ⟨Q0, hQ0⟩ : ∃ Q0, Q0 = MQ below (zQ D (wM cI cZ q pa sp al co da mo st mr 0 n td wn) (some (.int (zI (mxF (lM mo td p) n)))) (zLM q)) ag9 s9 0 0 (fun a => a ∈ zLM q) := ⟨_, rfl⟩
  show W p0 l e9 ({ frames := 3, cells := 0, slots := 0, locals := 76 }) s9 m9 ag9 below meth c9 s9.heap [] 0 0 (MQ below (zQ D (wM cI cZ q pa sp al co da mo st mr 0 n td wn) (some (.int (zI (mxF (lM mo td p) n)))) (zLM q)) ag9 s9 0 0 (fun a => a ∈ zLM q)) _
  rw [hE, ← hQ0]
  have hS : va_S (fun a => a ∈ zLM q) s9.heap s9.heap [] := va_S.rf
  generalize hH0 : s9.heap = H at hP ⊢
  have hS : va_S (fun a => a ∈ zLM q) s9.heap H [] := by rw [hH0] at hS ⊢; exact hS
  generalize (lg_sl ([.ref (q 0), .int (zI p)]) ++ List.replicate (2 - (lg_sl ([.ref (q 0), .int (zI p)])).length) Slot.unset).toArray = ls at hl ⊢
  have hl : lv_has ls 2 [(0, .ref (q 0)), (1, .int (zI p))] := hl
  refine lv_aload_n hx hb dX3_daysLeft_0 rfl (lv_at hl 0 rfl) ?_
  refine zr_iconst hx hb dX3_daysLeft_1 ?_
  refine va_put (D := D) (ci := 3) (v := .int (zI 0)) (ty := .int) (C := RX3) (T := TX3) (N := 12) hx hb hts hin3 tyX3 tyX3_ok nmX3 hown hK hP (zD hN rfl hA) hS 0 rfl rfl 0 (by decide) (hts (.fieldLink RX3 35 "MourningRibbonsModel" "thrown" "I") (by decide +kernel)) (fun _ h9 => h9) rfl (by decide +kernel) rfl rfl (Nat.le_of_ble_eq_true rfl) dX3_daysLeft_2 (fun H locs hP _ hS => ?_)
  have hP : va_P D vwCl (wM cI cZ q pa sp al co da mo st mr 0 n td wn) H := hP
  refine lv_aload_n hx hb dX3_daysLeft_5 rfl (lv_at hl 0 rfl) ?_
  refine lv_iload_n hx hb dX3_daysLeft_6 rfl (lv_at hl 1 rfl) ?_
  refine zcallV (ci := 3) (q0 := 0) (cq := (RX3, TX3, 12)) (As := [.int (zI p)]) (rest := []) ⟨hx, hb, hml, hown, hts⟩ hK (kX3_isPerson l D cI cZ q hN pa sp al co da mo st mr 0 n td wn hn p (by omega)) (cwV 1 hts gX3_daysLeft_X3_isPerson rfl rfl rfl (by decide +kernel) ⟨Nat.le_of_ble_eq_true rfl, Nat.le_of_ble_eq_true rfl⟩) hP hS hA rfl rfl rfl hl.1 rfl (Nat.le_of_ble_eq_true rfl) dX3_daysLeft_7 ⟨Nat.zero_le _, Nat.zero_le _⟩ (fun H locs hP hS _ _ => ?_)
  refine W.eq (g2 := F0 m9 10 ls [.int (zI (bI (0 ≤ p ∧ p ≤ (n : Int) - 1)))]) rfl ?_
  refine zr_if_eq (tgt := 21) hx hb dX3_daysLeft_10 (by decide) (bI_rg _) (fun c_1 => ?_) (fun c_1 => ?_)
  · have c_1 := bI_z c_1
    refine lv_aload_n hx hb dX3_daysLeft_21 rfl (lv_at hl 0 rfl) ?_
    refine zr_iconst hx hb dX3_daysLeft_22 ?_
    exfalso; omega
  · have c_1 := bI_n c_1
    refine lv_aload_n hx hb dX3_daysLeft_13 rfl (lv_at hl 0 rfl) ?_
    refine lv_iload_n hx hb dX3_daysLeft_14 rfl (lv_at hl 1 rfl) ?_
    refine zcallV (ci := 3) (q0 := 0) (cq := (RX3, TX3, 12)) (As := [.int (zI p)]) (rest := []) ⟨hx, hb, hml, hown, hts⟩ hK (kX3_most l D cI cZ q hN pa sp al co da mo st mr 0 n td wn hn hmo htd p (by omega)) (cwV 1 hts gX3_daysLeft_X3_most rfl rfl rfl (by decide +kernel) ⟨Nat.le_of_ble_eq_true rfl, Nat.le_of_ble_eq_true rfl⟩) hP hS hA rfl rfl rfl hl.1 rfl (Nat.le_of_ble_eq_true rfl) dX3_daysLeft_15 ⟨Nat.zero_le _, Nat.zero_le _⟩ (fun H locs hP hS _ _ => ?_)
    refine W.eq (g2 := F0 m9 18 ls [.int (zI (mxF (lM mo td p) n))]) rfl ?_
    have f_2 := mxF_bd (f := lM mo td p) (k := n) (B := 4000000) (by decide) (fun j => (lM_bd hmo htd p j).2)
    refine lv_goto (tgt := 26) hx hb dX3_daysLeft_18 (by decide) ?_
    rw [hQ0]
    exact zret_i hx hb hr hlocks (rfl) hP hS dX3_daysLeft_26
set_option maxHeartbeats 4000000 in
set_option maxRecDepth 100000 in
theorem kX3_daysLefte1 (l : Launch) (D : va_G) (cI cZ : ClassId) (q : Nat → Nat) (hN : (zLM q).Nodup) (pa : Int → Int) (sp : Int → Int) (al : Int → Int) (co : Int → Int) (da : Int → Int) (mo : Int → Int) (st : Int → Int) (mr : Int → Int) (th : Int) (n : Nat) (td : Int) (wn : Int) (hn : n ≤ 16) (p : Int) (h0 : -2147483648 ≤ p ∧ p ≤ 2147483647) (h1 : ¬ (0 ≤ p ∧ p < (n : Int))) : zM l yX3_daysLeft wsX3_daysLeft ({ frames := 3, cells := 0, slots := 0, locals := 76 }) D [(cI, .int), (cZ, .boolean)] [.ref (q 0), .int (zI p)] (wM cI cZ q pa sp al co da mo st mr th n td wn) (wM cI cZ q pa sp al co da mo st mr 1 n td wn) (some (.int (zI 0))) (zLM q) := by
  refine Met.ofW (cc := cX3_daysLeft) (maxL := 2) (ret := (some .int)) (by decide) rfl ?_
  intro p0 e9 s9 m9 ag9 below meth c9 s₁ B hml hv
  obtain ⟨hav, hP, hK⟩ := hv
  have hx := B.exec
  have hb := B.bytes
  have hr := B.returns
  have hts := atoms_spec (ws := wsX3_daysLeft) B.pre
  have hown : s9.vm.findClass RX3 = some m9.cls := findClass_of_methodNamed B.named
  have hlocks := B.notSynchronized
  have hA : ∀ a ∈ zLM q, (fun a => a ∈ zLM q) a := fun _ h => h
  have hin3 : ∀ w ∈ u_ws RX3 TX3 12, w ∈ wsX3_daysLeft := by decide +kernel
  have hl := lv_entry ([.ref (q 0), .int (zI p)]) (n := 2) (Nat.le_of_ble_eq_true rfl)
  have hE : entryFrame m9 ag9 2 = F0 m9 0 ((lg_sl ([.ref (q 0), .int (zI p)]) ++ List.replicate (2 - (lg_sl ([.ref (q 0), .int (zI p)])).length) Slot.unset).toArray) [] := by rw [hav]; exact lg_entry_eq m9 _ _
  obtain ⟨Q0, hQ0⟩ : ∃ Q0, Q0 = MQ below (zQ D (wM cI cZ q pa sp al co da mo st mr 1 n td wn) (some (.int (zI 0))) (zLM q)) ag9 s9 0 0 (fun a => a ∈ zLM q) := ⟨_, rfl⟩
  show W p0 l e9 ({ frames := 3, cells := 0, slots := 0, locals := 76 }) s9 m9 ag9 below meth c9 s9.heap [] 0 0 (MQ below (zQ D (wM cI cZ q pa sp al co da mo st mr 1 n td wn) (some (.int (zI 0))) (zLM q)) ag9 s9 0 0 (fun a => a ∈ zLM q)) _
  rw [hE, ← hQ0]
  have hS : va_S (fun a => a ∈ zLM q) s9.heap s9.heap [] := va_S.rf
  generalize hH0 : s9.heap = H at hP ⊢
  have hS : va_S (fun a => a ∈ zLM q) s9.heap H [] := by rw [hH0] at hS ⊢; exact hS
  generalize (lg_sl ([.ref (q 0), .int (zI p)]) ++ List.replicate (2 - (lg_sl ([.ref (q 0), .int (zI p)])).length) Slot.unset).toArray = ls at hl ⊢
  have hl : lv_has ls 2 [(0, .ref (q 0)), (1, .int (zI p))] := hl
  refine lv_aload_n hx hb dX3_daysLeft_0 rfl (lv_at hl 0 rfl) ?_
  refine zr_iconst hx hb dX3_daysLeft_1 ?_
  refine va_put (D := D) (ci := 3) (v := .int (zI 0)) (ty := .int) (C := RX3) (T := TX3) (N := 12) hx hb hts hin3 tyX3 tyX3_ok nmX3 hown hK hP (zD hN rfl hA) hS 0 rfl rfl 0 (by decide) (hts (.fieldLink RX3 35 "MourningRibbonsModel" "thrown" "I") (by decide +kernel)) (fun _ h9 => h9) rfl (by decide +kernel) rfl rfl (Nat.le_of_ble_eq_true rfl) dX3_daysLeft_2 (fun H locs hP _ hS => ?_)
  have hP : va_P D vwCl (wM cI cZ q pa sp al co da mo st mr 0 n td wn) H := hP
  refine lv_aload_n hx hb dX3_daysLeft_5 rfl (lv_at hl 0 rfl) ?_
  refine lv_iload_n hx hb dX3_daysLeft_6 rfl (lv_at hl 1 rfl) ?_
  refine zcallV (ci := 3) (q0 := 0) (cq := (RX3, TX3, 12)) (As := [.int (zI p)]) (rest := []) ⟨hx, hb, hml, hown, hts⟩ hK (kX3_isPerson l D cI cZ q hN pa sp al co da mo st mr 0 n td wn hn p (by omega)) (cwV 1 hts gX3_daysLeft_X3_isPerson rfl rfl rfl (by decide +kernel) ⟨Nat.le_of_ble_eq_true rfl, Nat.le_of_ble_eq_true rfl⟩) hP hS hA rfl rfl rfl hl.1 rfl (Nat.le_of_ble_eq_true rfl) dX3_daysLeft_7 ⟨Nat.zero_le _, Nat.zero_le _⟩ (fun H locs hP hS _ _ => ?_)
  refine W.eq (g2 := F0 m9 10 ls [.int (zI (bI (0 ≤ p ∧ p ≤ (n : Int) - 1)))]) rfl ?_
  refine zr_if_eq (tgt := 21) hx hb dX3_daysLeft_10 (by decide) (bI_rg _) (fun c_1 => ?_) (fun c_1 => ?_)
  · have c_1 := bI_z c_1
    refine lv_aload_n hx hb dX3_daysLeft_21 rfl (lv_at hl 0 rfl) ?_
    refine zr_iconst hx hb dX3_daysLeft_22 ?_
    refine zcallV (ci := 3) (q0 := 0) (cq := (RX3, TX3, 12)) (As := [.int (zI 1)]) (rest := []) ⟨hx, hb, hml, hown, hts⟩ hK (kX3_no l D cI cZ q hN pa sp al co da mo st mr 0 n td wn 1) (cwV 1 hts gX3_daysLeft_X3_no rfl rfl rfl (by decide +kernel) ⟨Nat.le_of_ble_eq_true rfl, Nat.le_of_ble_eq_true rfl⟩) hP hS hA rfl rfl rfl hl.1 rfl (Nat.le_of_ble_eq_true rfl) dX3_daysLeft_23 ⟨Nat.zero_le _, Nat.zero_le _⟩ (fun H locs hP hS _ _ => ?_)
    refine W.eq (g2 := F0 m9 26 ls [.int (zI 0)]) rfl ?_
    rw [hQ0]
    exact zret_i hx hb hr hlocks (rfl) hP hS dX3_daysLeft_26
  · have c_1 := bI_n c_1
    refine lv_aload_n hx hb dX3_daysLeft_13 rfl (lv_at hl 0 rfl) ?_
    refine lv_iload_n hx hb dX3_daysLeft_14 rfl (lv_at hl 1 rfl) ?_
    exfalso; omega
set_option maxHeartbeats 4000000 in
set_option maxRecDepth 100000 in
theorem kX3_daysUntilLighterok (l : Launch) (D : va_G) (cI cZ : ClassId) (q : Nat → Nat) (hN : (zLM q).Nodup) (pa : Int → Int) (sp : Int → Int) (al : Int → Int) (co : Int → Int) (da : Int → Int) (mo : Int → Int) (st : Int → Int) (mr : Int → Int) (th : Int) (n : Nat) (td : Int) (wn : Int) (hn : n ≤ 16) (hmo : ∀ j : Int, -1 ≤ mo j ∧ mo j ≤ 1000000) (htd : 0 ≤ td ∧ td ≤ 1000000) (p : Int) (h0 : -2147483648 ≤ p ∧ p ≤ 2147483647) (h1 : 0 ≤ p ∧ p < (n : Int)) (hz : ∀ t : Int, 180 ≤ t → wsM mo n p (td + t) = 0) : zM l yX3_daysUntilLighter wsX3_daysUntilLighter ({ frames := 3, cells := 0, slots := 0, locals := 77 }) D [(cI, .int), (cZ, .boolean)] [.ref (q 0), .int (zI p)] (wM cI cZ q pa sp al co da mo st mr th n td wn) (wM cI cZ q pa sp al co da mo st mr 0 n td wn) (some (.int (zI (flD (wT mo n td p))))) (zLM q) := by
  refine Met.ofW (cc := cX3_daysUntilLighter) (maxL := 2) (ret := (some .int)) (by decide) rfl ?_
  intro p0 e9 s9 m9 ag9 below meth c9 s₁ B hml hv
  obtain ⟨hav, hP, hK⟩ := hv
  have hx := B.exec
  have hb := B.bytes
  have hr := B.returns
  have hts := atoms_spec (ws := wsX3_daysUntilLighter) B.pre
  have hown : s9.vm.findClass RX3 = some m9.cls := findClass_of_methodNamed B.named
  have hlocks := B.notSynchronized
  have hA : ∀ a ∈ zLM q, (fun a => a ∈ zLM q) a := fun _ h => h
  have hin3 : ∀ w ∈ u_ws RX3 TX3 12, w ∈ wsX3_daysUntilLighter := by decide +kernel
  have hl := lv_entry ([.ref (q 0), .int (zI p)]) (n := 2) (Nat.le_of_ble_eq_true rfl)
  have hE : entryFrame m9 ag9 2 = F0 m9 0 ((lg_sl ([.ref (q 0), .int (zI p)]) ++ List.replicate (2 - (lg_sl ([.ref (q 0), .int (zI p)])).length) Slot.unset).toArray) [] := by rw [hav]; exact lg_entry_eq m9 _ _
  obtain ⟨Q0, hQ0⟩ : ∃ Q0, Q0 = MQ below (zQ D (wM cI cZ q pa sp al co da mo st mr 0 n td wn) (some (.int (zI (flD (wT mo n td p))))) (zLM q)) ag9 s9 0 0 (fun a => a ∈ zLM q) := ⟨_, rfl⟩
  show W p0 l e9 ({ frames := 3, cells := 0, slots := 0, locals := 77 }) s9 m9 ag9 below meth c9 s9.heap [] 0 0 (MQ below (zQ D (wM cI cZ q pa sp al co da mo st mr 0 n td wn) (some (.int (zI (flD (wT mo n td p))))) (zLM q)) ag9 s9 0 0 (fun a => a ∈ zLM q)) _
  rw [hE, ← hQ0]
  have hS : va_S (fun a => a ∈ zLM q) s9.heap s9.heap [] := va_S.rf
  generalize hH0 : s9.heap = H at hP ⊢
  have hS : va_S (fun a => a ∈ zLM q) s9.heap H [] := by rw [hH0] at hS ⊢; exact hS
  generalize (lg_sl ([.ref (q 0), .int (zI p)]) ++ List.replicate (2 - (lg_sl ([.ref (q 0), .int (zI p)])).length) Slot.unset).toArray = ls at hl ⊢
  have hl : lv_has ls 2 [(0, .ref (q 0)), (1, .int (zI p))] := hl
  refine lv_aload_n hx hb dX3_daysUntilLighter_0 rfl (lv_at hl 0 rfl) ?_
  refine zr_iconst hx hb dX3_daysUntilLighter_1 ?_
  refine va_put (D := D) (ci := 3) (v := .int (zI 0)) (ty := .int) (C := RX3) (T := TX3) (N := 12) hx hb hts hin3 tyX3 tyX3_ok nmX3 hown hK hP (zD hN rfl hA) hS 0 rfl rfl 0 (by decide) (hts (.fieldLink RX3 35 "MourningRibbonsModel" "thrown" "I") (by decide +kernel)) (fun _ h9 => h9) rfl (by decide +kernel) rfl rfl (Nat.le_of_ble_eq_true rfl) dX3_daysUntilLighter_2 (fun H locs hP _ hS => ?_)
  have hP : va_P D vwCl (wM cI cZ q pa sp al co da mo st mr 0 n td wn) H := hP
  refine lv_aload_n hx hb dX3_daysUntilLighter_5 rfl (lv_at hl 0 rfl) ?_
  refine lv_iload_n hx hb dX3_daysUntilLighter_6 rfl (lv_at hl 1 rfl) ?_
  refine zcallV (ci := 3) (q0 := 0) (cq := (RX3, TX3, 12)) (As := [.int (zI p)]) (rest := []) ⟨hx, hb, hml, hown, hts⟩ hK (kX3_isPerson l D cI cZ q hN pa sp al co da mo st mr 0 n td wn hn p (by omega)) (cwV 1 hts gX3_daysUntilLighter_X3_isPerson rfl rfl rfl (by decide +kernel) ⟨Nat.le_of_ble_eq_true rfl, Nat.le_of_ble_eq_true rfl⟩) hP hS hA rfl rfl rfl hl.1 rfl (Nat.le_of_ble_eq_true rfl) dX3_daysUntilLighter_7 ⟨Nat.zero_le _, Nat.zero_le _⟩ (fun H locs hP hS _ _ => ?_)
  refine W.eq (g2 := F0 m9 10 ls [.int (zI (bI (0 ≤ p ∧ p ≤ (n : Int) - 1)))]) rfl ?_
  refine zr_if_eq (tgt := 21) hx hb dX3_daysUntilLighter_10 (by decide) (bI_rg _) (fun c_1 => ?_) (fun c_1 => ?_)
  · have c_1 := bI_z c_1
    refine lv_aload_n hx hb dX3_daysUntilLighter_21 rfl (lv_at hl 0 rfl) ?_
    refine zr_iconst hx hb dX3_daysUntilLighter_22 ?_
    exfalso; omega
  · have c_1 := bI_n c_1
    refine lv_aload_n hx hb dX3_daysUntilLighter_13 rfl (lv_at hl 0 rfl) ?_
    refine lv_iload_n hx hb dX3_daysUntilLighter_14 rfl (lv_at hl 1 rfl) ?_
    refine zcallV (ci := 3) (q0 := 0) (cq := (RX3, TX3, 12)) (As := [.int (zI p)]) (rest := []) ⟨hx, hb, hml, hown, hts⟩ hK (kX3_untilLighter l D cI cZ q hN pa sp al co da mo st mr 0 n td wn hn hmo htd p (by omega) hz) (cwV 1 hts gX3_daysUntilLighter_X3_untilLighter rfl rfl rfl (by decide +kernel) ⟨Nat.le_of_ble_eq_true rfl, Nat.le_of_ble_eq_true rfl⟩) hP hS hA rfl rfl rfl hl.1 rfl (Nat.le_of_ble_eq_true rfl) dX3_daysUntilLighter_15 ⟨Nat.zero_le _, Nat.zero_le _⟩ (fun H locs hP hS _ _ => ?_)
    refine W.eq (g2 := F0 m9 18 ls [.int (zI (flD (wT mo n td p)))]) rfl ?_
    refine lv_goto (tgt := 26) hx hb dX3_daysUntilLighter_18 (by decide) ?_
    rw [hQ0]
    exact zret_i hx hb hr hlocks (rfl) hP hS dX3_daysUntilLighter_26
set_option maxHeartbeats 4000000 in
set_option maxRecDepth 100000 in
theorem kX3_daysUntilLightere1 (l : Launch) (D : va_G) (cI cZ : ClassId) (q : Nat → Nat) (hN : (zLM q).Nodup) (pa : Int → Int) (sp : Int → Int) (al : Int → Int) (co : Int → Int) (da : Int → Int) (mo : Int → Int) (st : Int → Int) (mr : Int → Int) (th : Int) (n : Nat) (td : Int) (wn : Int) (hn : n ≤ 16) (p : Int) (h0 : -2147483648 ≤ p ∧ p ≤ 2147483647) (h1 : ¬ (0 ≤ p ∧ p < (n : Int))) : zM l yX3_daysUntilLighter wsX3_daysUntilLighter ({ frames := 3, cells := 0, slots := 0, locals := 77 }) D [(cI, .int), (cZ, .boolean)] [.ref (q 0), .int (zI p)] (wM cI cZ q pa sp al co da mo st mr th n td wn) (wM cI cZ q pa sp al co da mo st mr 1 n td wn) (some (.int (zI 0))) (zLM q) := by
  refine Met.ofW (cc := cX3_daysUntilLighter) (maxL := 2) (ret := (some .int)) (by decide) rfl ?_
  intro p0 e9 s9 m9 ag9 below meth c9 s₁ B hml hv
  obtain ⟨hav, hP, hK⟩ := hv
  have hx := B.exec
  have hb := B.bytes
  have hr := B.returns
  have hts := atoms_spec (ws := wsX3_daysUntilLighter) B.pre
  have hown : s9.vm.findClass RX3 = some m9.cls := findClass_of_methodNamed B.named
  have hlocks := B.notSynchronized
  have hA : ∀ a ∈ zLM q, (fun a => a ∈ zLM q) a := fun _ h => h
  have hin3 : ∀ w ∈ u_ws RX3 TX3 12, w ∈ wsX3_daysUntilLighter := by decide +kernel
  have hl := lv_entry ([.ref (q 0), .int (zI p)]) (n := 2) (Nat.le_of_ble_eq_true rfl)
  have hE : entryFrame m9 ag9 2 = F0 m9 0 ((lg_sl ([.ref (q 0), .int (zI p)]) ++ List.replicate (2 - (lg_sl ([.ref (q 0), .int (zI p)])).length) Slot.unset).toArray) [] := by rw [hav]; exact lg_entry_eq m9 _ _
  obtain ⟨Q0, hQ0⟩ : ∃ Q0, Q0 = MQ below (zQ D (wM cI cZ q pa sp al co da mo st mr 1 n td wn) (some (.int (zI 0))) (zLM q)) ag9 s9 0 0 (fun a => a ∈ zLM q) := ⟨_, rfl⟩
  show W p0 l e9 ({ frames := 3, cells := 0, slots := 0, locals := 77 }) s9 m9 ag9 below meth c9 s9.heap [] 0 0 (MQ below (zQ D (wM cI cZ q pa sp al co da mo st mr 1 n td wn) (some (.int (zI 0))) (zLM q)) ag9 s9 0 0 (fun a => a ∈ zLM q)) _
  rw [hE, ← hQ0]
  have hS : va_S (fun a => a ∈ zLM q) s9.heap s9.heap [] := va_S.rf
  generalize hH0 : s9.heap = H at hP ⊢
  have hS : va_S (fun a => a ∈ zLM q) s9.heap H [] := by rw [hH0] at hS ⊢; exact hS
  generalize (lg_sl ([.ref (q 0), .int (zI p)]) ++ List.replicate (2 - (lg_sl ([.ref (q 0), .int (zI p)])).length) Slot.unset).toArray = ls at hl ⊢
  have hl : lv_has ls 2 [(0, .ref (q 0)), (1, .int (zI p))] := hl
  refine lv_aload_n hx hb dX3_daysUntilLighter_0 rfl (lv_at hl 0 rfl) ?_
  refine zr_iconst hx hb dX3_daysUntilLighter_1 ?_
  refine va_put (D := D) (ci := 3) (v := .int (zI 0)) (ty := .int) (C := RX3) (T := TX3) (N := 12) hx hb hts hin3 tyX3 tyX3_ok nmX3 hown hK hP (zD hN rfl hA) hS 0 rfl rfl 0 (by decide) (hts (.fieldLink RX3 35 "MourningRibbonsModel" "thrown" "I") (by decide +kernel)) (fun _ h9 => h9) rfl (by decide +kernel) rfl rfl (Nat.le_of_ble_eq_true rfl) dX3_daysUntilLighter_2 (fun H locs hP _ hS => ?_)
  have hP : va_P D vwCl (wM cI cZ q pa sp al co da mo st mr 0 n td wn) H := hP
  refine lv_aload_n hx hb dX3_daysUntilLighter_5 rfl (lv_at hl 0 rfl) ?_
  refine lv_iload_n hx hb dX3_daysUntilLighter_6 rfl (lv_at hl 1 rfl) ?_
  refine zcallV (ci := 3) (q0 := 0) (cq := (RX3, TX3, 12)) (As := [.int (zI p)]) (rest := []) ⟨hx, hb, hml, hown, hts⟩ hK (kX3_isPerson l D cI cZ q hN pa sp al co da mo st mr 0 n td wn hn p (by omega)) (cwV 1 hts gX3_daysUntilLighter_X3_isPerson rfl rfl rfl (by decide +kernel) ⟨Nat.le_of_ble_eq_true rfl, Nat.le_of_ble_eq_true rfl⟩) hP hS hA rfl rfl rfl hl.1 rfl (Nat.le_of_ble_eq_true rfl) dX3_daysUntilLighter_7 ⟨Nat.zero_le _, Nat.zero_le _⟩ (fun H locs hP hS _ _ => ?_)
  refine W.eq (g2 := F0 m9 10 ls [.int (zI (bI (0 ≤ p ∧ p ≤ (n : Int) - 1)))]) rfl ?_
  refine zr_if_eq (tgt := 21) hx hb dX3_daysUntilLighter_10 (by decide) (bI_rg _) (fun c_1 => ?_) (fun c_1 => ?_)
  · have c_1 := bI_z c_1
    refine lv_aload_n hx hb dX3_daysUntilLighter_21 rfl (lv_at hl 0 rfl) ?_
    refine zr_iconst hx hb dX3_daysUntilLighter_22 ?_
    refine zcallV (ci := 3) (q0 := 0) (cq := (RX3, TX3, 12)) (As := [.int (zI 1)]) (rest := []) ⟨hx, hb, hml, hown, hts⟩ hK (kX3_no l D cI cZ q hN pa sp al co da mo st mr 0 n td wn 1) (cwV 1 hts gX3_daysUntilLighter_X3_no rfl rfl rfl (by decide +kernel) ⟨Nat.le_of_ble_eq_true rfl, Nat.le_of_ble_eq_true rfl⟩) hP hS hA rfl rfl rfl hl.1 rfl (Nat.le_of_ble_eq_true rfl) dX3_daysUntilLighter_23 ⟨Nat.zero_le _, Nat.zero_le _⟩ (fun H locs hP hS _ _ => ?_)
    refine W.eq (g2 := F0 m9 26 ls [.int (zI 0)]) rfl ?_
    rw [hQ0]
    exact zret_i hx hb hr hlocks (rfl) hP hS dX3_daysUntilLighter_26
  · have c_1 := bI_n c_1
    refine lv_aload_n hx hb dX3_daysUntilLighter_13 rfl (lv_at hl 0 rfl) ?_
    refine lv_iload_n hx hb dX3_daysUntilLighter_14 rfl (lv_at hl 1 rfl) ?_
    exfalso; omega
set_option maxHeartbeats 4000000 in
set_option maxRecDepth 100000 in
theorem kX3_daysInok (l : Launch) (D : va_G) (cI cZ : ClassId) (q : Nat → Nat) (hN : (zLM q).Nodup) (pa : Int → Int) (sp : Int → Int) (al : Int → Int) (co : Int → Int) (da : Int → Int) (mo : Int → Int) (st : Int → Int) (mr : Int → Int) (th : Int) (n : Nat) (td : Int) (wn : Int) (hn : n ≤ 16) (hmo : ∀ j : Int, -1 ≤ mo j ∧ mo j ≤ 1000000) (htd : 0 ≤ td ∧ td ≤ 1000000) (p : Int) (c : Int) (h0 : -2147483648 ≤ p ∧ p ≤ 2147483647) (h1 : 0 ≤ p ∧ p < (n : Int)) (h9 : -2147483648 ≤ c ∧ c ≤ 2147483647) (h2 : 1 ≤ c ∧ c ≤ 5) (h3 : mxF (lM mo td p) n ≤ 1000) : zM l yX3_daysIn wsX3_daysIn ({ frames := 4, cells := 0, slots := 0, locals := 101 }) D [(cI, .int), (cZ, .boolean)] [.ref (q 0), .int (zI p), .int (zI c)] (wM cI cZ q pa sp al co da mo st mr th n td wn) (wM cI cZ q pa sp al co da mo st mr 0 n td wn) (some (.int (zI (smF (eqF (wT mo n td p) c) (mxF (lM mo td p) n).toNat)))) (zLM q) := by
  refine Met.ofW (cc := cX3_daysIn) (maxL := 3) (ret := (some .int)) (by decide) rfl ?_
  intro p0 e9 s9 m9 ag9 below meth c9 s₁ B hml hv
  obtain ⟨hav, hP, hK⟩ := hv
  have hx := B.exec
  have hb := B.bytes
  have hr := B.returns
  have hts := atoms_spec (ws := wsX3_daysIn) B.pre
  have hown : s9.vm.findClass RX3 = some m9.cls := findClass_of_methodNamed B.named
  have hlocks := B.notSynchronized
  have hA : ∀ a ∈ zLM q, (fun a => a ∈ zLM q) a := fun _ h => h
  have hin3 : ∀ w ∈ u_ws RX3 TX3 12, w ∈ wsX3_daysIn := by decide +kernel
  have hl := lv_entry ([.ref (q 0), .int (zI p), .int (zI c)]) (n := 3) (Nat.le_of_ble_eq_true rfl)
  have hE : entryFrame m9 ag9 3 = F0 m9 0 ((lg_sl ([.ref (q 0), .int (zI p), .int (zI c)]) ++ List.replicate (3 - (lg_sl ([.ref (q 0), .int (zI p), .int (zI c)])).length) Slot.unset).toArray) [] := by rw [hav]; exact lg_entry_eq m9 _ _
  obtain ⟨Q0, hQ0⟩ : ∃ Q0, Q0 = MQ below (zQ D (wM cI cZ q pa sp al co da mo st mr 0 n td wn) (some (.int (zI (smF (eqF (wT mo n td p) c) (mxF (lM mo td p) n).toNat)))) (zLM q)) ag9 s9 0 0 (fun a => a ∈ zLM q) := ⟨_, rfl⟩
  show W p0 l e9 ({ frames := 4, cells := 0, slots := 0, locals := 101 }) s9 m9 ag9 below meth c9 s9.heap [] 0 0 (MQ below (zQ D (wM cI cZ q pa sp al co da mo st mr 0 n td wn) (some (.int (zI (smF (eqF (wT mo n td p) c) (mxF (lM mo td p) n).toNat)))) (zLM q)) ag9 s9 0 0 (fun a => a ∈ zLM q)) _
  rw [hE, ← hQ0]
  have hS : va_S (fun a => a ∈ zLM q) s9.heap s9.heap [] := va_S.rf
  generalize hH0 : s9.heap = H at hP ⊢
  have hS : va_S (fun a => a ∈ zLM q) s9.heap H [] := by rw [hH0] at hS ⊢; exact hS
  generalize (lg_sl ([.ref (q 0), .int (zI p), .int (zI c)]) ++ List.replicate (3 - (lg_sl ([.ref (q 0), .int (zI p), .int (zI c)])).length) Slot.unset).toArray = ls at hl ⊢
  have hl : lv_has ls 3 [(0, .ref (q 0)), (1, .int (zI p)), (2, .int (zI c))] := hl
  refine lv_aload_n hx hb dX3_daysIn_0 rfl (lv_at hl 0 rfl) ?_
  refine zr_iconst hx hb dX3_daysIn_1 ?_
  refine va_put (D := D) (ci := 3) (v := .int (zI 0)) (ty := .int) (C := RX3) (T := TX3) (N := 12) hx hb hts hin3 tyX3 tyX3_ok nmX3 hown hK hP (zD hN rfl hA) hS 0 rfl rfl 0 (by decide) (hts (.fieldLink RX3 35 "MourningRibbonsModel" "thrown" "I") (by decide +kernel)) (fun _ h9 => h9) rfl (by decide +kernel) rfl rfl (Nat.le_of_ble_eq_true rfl) dX3_daysIn_2 (fun H locs hP _ hS => ?_)
  have hP : va_P D vwCl (wM cI cZ q pa sp al co da mo st mr 0 n td wn) H := hP
  refine lv_aload_n hx hb dX3_daysIn_5 rfl (lv_at hl 0 rfl) ?_
  refine lv_iload_n hx hb dX3_daysIn_6 rfl (lv_at hl 1 rfl) ?_
  refine zcallV (ci := 3) (q0 := 0) (cq := (RX3, TX3, 12)) (As := [.int (zI p)]) (rest := []) ⟨hx, hb, hml, hown, hts⟩ hK (kX3_isPerson l D cI cZ q hN pa sp al co da mo st mr 0 n td wn hn p (by omega)) (cwV 1 hts gX3_daysIn_X3_isPerson rfl rfl rfl (by decide +kernel) ⟨Nat.le_of_ble_eq_true rfl, Nat.le_of_ble_eq_true rfl⟩) hP hS hA rfl rfl rfl hl.1 rfl (Nat.le_of_ble_eq_true rfl) dX3_daysIn_7 ⟨Nat.zero_le _, Nat.zero_le _⟩ (fun H locs hP hS _ _ => ?_)
  refine W.eq (g2 := F0 m9 10 ls [.int (zI (bI (0 ≤ p ∧ p ≤ (n : Int) - 1)))]) rfl ?_
  refine zr_if_eq (tgt := 31) hx hb dX3_daysIn_10 (by decide) (bI_rg _) (fun c_1 => ?_) (fun c_1 => ?_)
  · have c_1 := bI_z c_1
    refine lv_aload_n hx hb dX3_daysIn_31 rfl (lv_at hl 0 rfl) ?_
    refine zr_iconst hx hb dX3_daysIn_32 ?_
    exfalso; omega
  · have c_1 := bI_n c_1
    refine lv_iload_n hx hb dX3_daysIn_13 rfl (lv_at hl 2 rfl) ?_
    refine zr_iconst hx hb dX3_daysIn_14 ?_
    refine zr_iconst hx hb dX3_daysIn_15 ?_
    refine zcallP (As := [.int (zI c), .int (zI 1), .int (zI 5)]) (rest := []) ⟨hx, hb, hml, hown, hts⟩ (kX3_isIn l D c 1 5 (by omega) (by omega) (by omega)) hK (va_cwS 3 hts gX3_daysIn_X3_isIn rfl rfl rfl (by decide +kernel) ⟨Nat.le_of_ble_eq_true rfl, Nat.le_of_ble_eq_true rfl⟩) hP hS rfl hl.1 rfl (Nat.le_of_ble_eq_true rfl) dX3_daysIn_16 ⟨Nat.zero_le _, Nat.zero_le _⟩ (fun H locs hP hS => ?_)
    refine W.eq (g2 := F0 m9 19 ls [.int (zI (bI (1 ≤ c ∧ c ≤ 5)))]) rfl ?_
    refine zr_if_eq (tgt := 31) hx hb dX3_daysIn_19 (by decide) (bI_rg _) (fun c_2 => ?_) (fun c_2 => ?_)
    · have c_2 := bI_z c_2
      refine lv_aload_n hx hb dX3_daysIn_31 rfl (lv_at hl 0 rfl) ?_
      refine zr_iconst hx hb dX3_daysIn_32 ?_
      exfalso; omega
    · have c_2 := bI_n c_2
      refine lv_aload_n hx hb dX3_daysIn_22 rfl (lv_at hl 0 rfl) ?_
      refine lv_iload_n hx hb dX3_daysIn_23 rfl (lv_at hl 1 rfl) ?_
      refine lv_iload_n hx hb dX3_daysIn_24 rfl (lv_at hl 2 rfl) ?_
      refine zcallV (ci := 3) (q0 := 0) (cq := (RX3, TX3, 12)) (As := [.int (zI p), .int (zI c)]) (rest := []) ⟨hx, hb, hml, hown, hts⟩ hK (kX3_daysWith l D cI cZ q hN pa sp al co da mo st mr 0 n td wn hn hmo htd p c (by omega) (by omega) (by omega)) (cwV 2 hts gX3_daysIn_X3_daysWith rfl rfl rfl (by decide +kernel) ⟨Nat.le_of_ble_eq_true rfl, Nat.le_of_ble_eq_true rfl⟩) hP hS hA rfl rfl rfl hl.1 rfl (Nat.le_of_ble_eq_true rfl) dX3_daysIn_25 ⟨Nat.zero_le _, Nat.zero_le _⟩ (fun H locs hP hS _ _ => ?_)
      refine W.eq (g2 := F0 m9 28 ls [.int (zI (smF (eqF (wT mo n td p) c) (mxF (lM mo td p) n).toNat))]) rfl ?_
      refine lv_goto (tgt := 36) hx hb dX3_daysIn_28 (by decide) ?_
      rw [hQ0]
      exact zret_i hx hb hr hlocks (rfl) hP hS dX3_daysIn_36
set_option maxHeartbeats 4000000 in
set_option maxRecDepth 100000 in
theorem kX3_daysIne1 (l : Launch) (D : va_G) (cI cZ : ClassId) (q : Nat → Nat) (hN : (zLM q).Nodup) (pa : Int → Int) (sp : Int → Int) (al : Int → Int) (co : Int → Int) (da : Int → Int) (mo : Int → Int) (st : Int → Int) (mr : Int → Int) (th : Int) (n : Nat) (td : Int) (wn : Int) (hn : n ≤ 16) (p : Int) (c : Int) (h0 : -2147483648 ≤ p ∧ p ≤ 2147483647) (h9 : -2147483648 ≤ c ∧ c ≤ 2147483647) (h1 : ¬ (0 ≤ p ∧ p < (n : Int)) ∨ ¬ (1 ≤ c ∧ c ≤ 5)) : zM l yX3_daysIn wsX3_daysIn ({ frames := 4, cells := 0, slots := 0, locals := 101 }) D [(cI, .int), (cZ, .boolean)] [.ref (q 0), .int (zI p), .int (zI c)] (wM cI cZ q pa sp al co da mo st mr th n td wn) (wM cI cZ q pa sp al co da mo st mr 1 n td wn) (some (.int (zI 0))) (zLM q) := by
  refine Met.ofW (cc := cX3_daysIn) (maxL := 3) (ret := (some .int)) (by decide) rfl ?_
  intro p0 e9 s9 m9 ag9 below meth c9 s₁ B hml hv
  obtain ⟨hav, hP, hK⟩ := hv
  have hx := B.exec
  have hb := B.bytes
  have hr := B.returns
  have hts := atoms_spec (ws := wsX3_daysIn) B.pre
  have hown : s9.vm.findClass RX3 = some m9.cls := findClass_of_methodNamed B.named
  have hlocks := B.notSynchronized
  have hA : ∀ a ∈ zLM q, (fun a => a ∈ zLM q) a := fun _ h => h
  have hin3 : ∀ w ∈ u_ws RX3 TX3 12, w ∈ wsX3_daysIn := by decide +kernel
  have hl := lv_entry ([.ref (q 0), .int (zI p), .int (zI c)]) (n := 3) (Nat.le_of_ble_eq_true rfl)
  have hE : entryFrame m9 ag9 3 = F0 m9 0 ((lg_sl ([.ref (q 0), .int (zI p), .int (zI c)]) ++ List.replicate (3 - (lg_sl ([.ref (q 0), .int (zI p), .int (zI c)])).length) Slot.unset).toArray) [] := by rw [hav]; exact lg_entry_eq m9 _ _
  obtain ⟨Q0, hQ0⟩ : ∃ Q0, Q0 = MQ below (zQ D (wM cI cZ q pa sp al co da mo st mr 1 n td wn) (some (.int (zI 0))) (zLM q)) ag9 s9 0 0 (fun a => a ∈ zLM q) := ⟨_, rfl⟩
  show W p0 l e9 ({ frames := 4, cells := 0, slots := 0, locals := 101 }) s9 m9 ag9 below meth c9 s9.heap [] 0 0 (MQ below (zQ D (wM cI cZ q pa sp al co da mo st mr 1 n td wn) (some (.int (zI 0))) (zLM q)) ag9 s9 0 0 (fun a => a ∈ zLM q)) _
  rw [hE, ← hQ0]
  have hS : va_S (fun a => a ∈ zLM q) s9.heap s9.heap [] := va_S.rf
  generalize hH0 : s9.heap = H at hP ⊢
  have hS : va_S (fun a => a ∈ zLM q) s9.heap H [] := by rw [hH0] at hS ⊢; exact hS
  generalize (lg_sl ([.ref (q 0), .int (zI p), .int (zI c)]) ++ List.replicate (3 - (lg_sl ([.ref (q 0), .int (zI p), .int (zI c)])).length) Slot.unset).toArray = ls at hl ⊢
  have hl : lv_has ls 3 [(0, .ref (q 0)), (1, .int (zI p)), (2, .int (zI c))] := hl
  refine lv_aload_n hx hb dX3_daysIn_0 rfl (lv_at hl 0 rfl) ?_
  refine zr_iconst hx hb dX3_daysIn_1 ?_
  refine va_put (D := D) (ci := 3) (v := .int (zI 0)) (ty := .int) (C := RX3) (T := TX3) (N := 12) hx hb hts hin3 tyX3 tyX3_ok nmX3 hown hK hP (zD hN rfl hA) hS 0 rfl rfl 0 (by decide) (hts (.fieldLink RX3 35 "MourningRibbonsModel" "thrown" "I") (by decide +kernel)) (fun _ h9 => h9) rfl (by decide +kernel) rfl rfl (Nat.le_of_ble_eq_true rfl) dX3_daysIn_2 (fun H locs hP _ hS => ?_)
  have hP : va_P D vwCl (wM cI cZ q pa sp al co da mo st mr 0 n td wn) H := hP
  refine lv_aload_n hx hb dX3_daysIn_5 rfl (lv_at hl 0 rfl) ?_
  refine lv_iload_n hx hb dX3_daysIn_6 rfl (lv_at hl 1 rfl) ?_
  refine zcallV (ci := 3) (q0 := 0) (cq := (RX3, TX3, 12)) (As := [.int (zI p)]) (rest := []) ⟨hx, hb, hml, hown, hts⟩ hK (kX3_isPerson l D cI cZ q hN pa sp al co da mo st mr 0 n td wn hn p (by omega)) (cwV 1 hts gX3_daysIn_X3_isPerson rfl rfl rfl (by decide +kernel) ⟨Nat.le_of_ble_eq_true rfl, Nat.le_of_ble_eq_true rfl⟩) hP hS hA rfl rfl rfl hl.1 rfl (Nat.le_of_ble_eq_true rfl) dX3_daysIn_7 ⟨Nat.zero_le _, Nat.zero_le _⟩ (fun H locs hP hS _ _ => ?_)
  refine W.eq (g2 := F0 m9 10 ls [.int (zI (bI (0 ≤ p ∧ p ≤ (n : Int) - 1)))]) rfl ?_
  refine zr_if_eq (tgt := 31) hx hb dX3_daysIn_10 (by decide) (bI_rg _) (fun c_1 => ?_) (fun c_1 => ?_)
  · have c_1 := bI_z c_1
    refine lv_aload_n hx hb dX3_daysIn_31 rfl (lv_at hl 0 rfl) ?_
    refine zr_iconst hx hb dX3_daysIn_32 ?_
    refine zcallV (ci := 3) (q0 := 0) (cq := (RX3, TX3, 12)) (As := [.int (zI 1)]) (rest := []) ⟨hx, hb, hml, hown, hts⟩ hK (kX3_no l D cI cZ q hN pa sp al co da mo st mr 0 n td wn 1) (cwV 1 hts gX3_daysIn_X3_no rfl rfl rfl (by decide +kernel) ⟨Nat.le_of_ble_eq_true rfl, Nat.le_of_ble_eq_true rfl⟩) hP hS hA rfl rfl rfl hl.1 rfl (Nat.le_of_ble_eq_true rfl) dX3_daysIn_33 ⟨Nat.zero_le _, Nat.zero_le _⟩ (fun H locs hP hS _ _ => ?_)
    refine W.eq (g2 := F0 m9 36 ls [.int (zI 0)]) rfl ?_
    rw [hQ0]
    exact zret_i hx hb hr hlocks (rfl) hP hS dX3_daysIn_36
  · have c_1 := bI_n c_1
    refine lv_iload_n hx hb dX3_daysIn_13 rfl (lv_at hl 2 rfl) ?_
    refine zr_iconst hx hb dX3_daysIn_14 ?_
    refine zr_iconst hx hb dX3_daysIn_15 ?_
    refine zcallP (As := [.int (zI c), .int (zI 1), .int (zI 5)]) (rest := []) ⟨hx, hb, hml, hown, hts⟩ (kX3_isIn l D c 1 5 (by omega) (by omega) (by omega)) hK (va_cwS 3 hts gX3_daysIn_X3_isIn rfl rfl rfl (by decide +kernel) ⟨Nat.le_of_ble_eq_true rfl, Nat.le_of_ble_eq_true rfl⟩) hP hS rfl hl.1 rfl (Nat.le_of_ble_eq_true rfl) dX3_daysIn_16 ⟨Nat.zero_le _, Nat.zero_le _⟩ (fun H locs hP hS => ?_)
    refine W.eq (g2 := F0 m9 19 ls [.int (zI (bI (1 ≤ c ∧ c ≤ 5)))]) rfl ?_
    refine zr_if_eq (tgt := 31) hx hb dX3_daysIn_19 (by decide) (bI_rg _) (fun c_2 => ?_) (fun c_2 => ?_)
    · have c_2 := bI_z c_2
      refine lv_aload_n hx hb dX3_daysIn_31 rfl (lv_at hl 0 rfl) ?_
      refine zr_iconst hx hb dX3_daysIn_32 ?_
      refine zcallV (ci := 3) (q0 := 0) (cq := (RX3, TX3, 12)) (As := [.int (zI 1)]) (rest := []) ⟨hx, hb, hml, hown, hts⟩ hK (kX3_no l D cI cZ q hN pa sp al co da mo st mr 0 n td wn 1) (cwV 1 hts gX3_daysIn_X3_no rfl rfl rfl (by decide +kernel) ⟨Nat.le_of_ble_eq_true rfl, Nat.le_of_ble_eq_true rfl⟩) hP hS hA rfl rfl rfl hl.1 rfl (Nat.le_of_ble_eq_true rfl) dX3_daysIn_33 ⟨Nat.zero_le _, Nat.zero_le _⟩ (fun H locs hP hS _ _ => ?_)
      refine W.eq (g2 := F0 m9 36 ls [.int (zI 0)]) rfl ?_
      rw [hQ0]
      exact zret_i hx hb hr hlocks (rfl) hP hS dX3_daysIn_36
    · have c_2 := bI_n c_2
      refine lv_aload_n hx hb dX3_daysIn_22 rfl (lv_at hl 0 rfl) ?_
      refine lv_iload_n hx hb dX3_daysIn_23 rfl (lv_at hl 1 rfl) ?_
      refine lv_iload_n hx hb dX3_daysIn_24 rfl (lv_at hl 2 rfl) ?_
      exfalso; omega
set_option maxHeartbeats 4000000 in
set_option maxRecDepth 100000 in
theorem kX3_wearingok (l : Launch) (D : va_G) (cI cZ : ClassId) (q : Nat → Nat) (hN : (zLM q).Nodup) (pa : Int → Int) (sp : Int → Int) (al : Int → Int) (co : Int → Int) (da : Int → Int) (mo : Int → Int) (st : Int → Int) (mr : Int → Int) (th : Int) (n : Nat) (td : Int) (wn : Int) (hn : n ≤ 16) (hmo : ∀ j : Int, -1 ≤ mo j ∧ mo j ≤ 1000000) (htd : 0 ≤ td ∧ td ≤ 1000000) (hal : ∀ j : Int, 0 ≤ al j ∧ al j ≤ 1) (c : Int) (h0 : -2147483648 ≤ c ∧ c ≤ 2147483647) (h1 : 0 ≤ c ∧ c ≤ 5) : zM l yX3_wearing wsX3_wearing ({ frames := 2, cells := 0, slots := 0, locals := 54 }) D [(cI, .int), (cZ, .boolean)] [.ref (q 0), .int (zI c)] (wM cI cZ q pa sp al co da mo st mr th n td wn) (wM cI cZ q pa sp al co da mo st mr 0 n td wn) (some (.int (zI (smF (weM al mo n td c) n)))) (zLM q) := by
  refine Met.ofW (cc := cX3_wearing) (maxL := 4) (ret := (some .int)) (by decide) rfl ?_
  intro p0 e9 s9 m9 ag9 below meth c9 s₁ B hml hv
  obtain ⟨hav, hP, hK⟩ := hv
  have hx := B.exec
  have hb := B.bytes
  have hr := B.returns
  have hts := atoms_spec (ws := wsX3_wearing) B.pre
  have hown : s9.vm.findClass RX3 = some m9.cls := findClass_of_methodNamed B.named
  have hlocks := B.notSynchronized
  have hA : ∀ a ∈ zLM q, (fun a => a ∈ zLM q) a := fun _ h => h
  have hin3 : ∀ w ∈ u_ws RX3 TX3 12, w ∈ wsX3_wearing := by decide +kernel
  have hl := lv_entry ([.ref (q 0), .int (zI c)]) (n := 4) (Nat.le_of_ble_eq_true rfl)
  have hE : entryFrame m9 ag9 4 = F0 m9 0 ((lg_sl ([.ref (q 0), .int (zI c)]) ++ List.replicate (4 - (lg_sl ([.ref (q 0), .int (zI c)])).length) Slot.unset).toArray) [] := by rw [hav]; exact lg_entry_eq m9 _ _
  obtain ⟨Q0, hQ0⟩ : ∃ Q0, Q0 = MQ below (zQ D (wM cI cZ q pa sp al co da mo st mr 0 n td wn) (some (.int (zI (smF (weM al mo n td c) n)))) (zLM q)) ag9 s9 0 0 (fun a => a ∈ zLM q) := ⟨_, rfl⟩
  show W p0 l e9 ({ frames := 2, cells := 0, slots := 0, locals := 54 }) s9 m9 ag9 below meth c9 s9.heap [] 0 0 (MQ below (zQ D (wM cI cZ q pa sp al co da mo st mr 0 n td wn) (some (.int (zI (smF (weM al mo n td c) n)))) (zLM q)) ag9 s9 0 0 (fun a => a ∈ zLM q)) _
  rw [hE, ← hQ0]
  have hS : va_S (fun a => a ∈ zLM q) s9.heap s9.heap [] := va_S.rf
  generalize hH0 : s9.heap = H at hP ⊢
  have hS : va_S (fun a => a ∈ zLM q) s9.heap H [] := by rw [hH0] at hS ⊢; exact hS
  generalize (lg_sl ([.ref (q 0), .int (zI c)]) ++ List.replicate (4 - (lg_sl ([.ref (q 0), .int (zI c)])).length) Slot.unset).toArray = ls at hl ⊢
  have hl : lv_has ls 4 [(0, .ref (q 0)), (1, .int (zI c))] := hl
  refine lv_aload_n hx hb dX3_wearing_0 rfl (lv_at hl 0 rfl) ?_
  refine zr_iconst hx hb dX3_wearing_1 ?_
  refine va_put (D := D) (ci := 3) (v := .int (zI 0)) (ty := .int) (C := RX3) (T := TX3) (N := 12) hx hb hts hin3 tyX3 tyX3_ok nmX3 hown hK hP (zD hN rfl hA) hS 0 rfl rfl 0 (by decide) (hts (.fieldLink RX3 35 "MourningRibbonsModel" "thrown" "I") (by decide +kernel)) (fun _ h9 => h9) rfl (by decide +kernel) rfl rfl (Nat.le_of_ble_eq_true rfl) dX3_wearing_2 (fun H locs hP _ hS => ?_)
  have hP : va_P D vwCl (wM cI cZ q pa sp al co da mo st mr 0 n td wn) H := hP
  refine lv_iload_n hx hb dX3_wearing_5 rfl (lv_at hl 1 rfl) ?_
  refine zr_iconst hx hb dX3_wearing_6 ?_
  refine zr_iconst hx hb dX3_wearing_7 ?_
  refine zcallP (As := [.int (zI c), .int (zI 0), .int (zI 5)]) (rest := []) ⟨hx, hb, hml, hown, hts⟩ (kX3_isIn l D c 0 5 (by omega) (by omega) (by omega)) hK (va_cwS 3 hts gX3_wearing_X3_isIn rfl rfl rfl (by decide +kernel) ⟨Nat.le_of_ble_eq_true rfl, Nat.le_of_ble_eq_true rfl⟩) hP hS rfl hl.1 rfl (Nat.le_of_ble_eq_true rfl) dX3_wearing_8 ⟨Nat.zero_le _, Nat.zero_le _⟩ (fun H locs hP hS => ?_)
  refine W.eq (g2 := F0 m9 11 ls [.int (zI (bI (0 ≤ c ∧ c ≤ 5)))]) rfl ?_
  refine zr_if_ne (tgt := 20) hx hb dX3_wearing_11 (by decide) (bI_rg _) (fun c_1 => ?_) (fun c_1 => ?_)
  · have c_1 := bI_n c_1
    refine zr_iconst hx hb dX3_wearing_20 ?_
    refine lv_istore_n (lv' := [(2, .int (zI 0)), (0, .ref (q 0)), (1, .int (zI c))]) hx hb dX3_wearing_21 rfl hl (by decide) rfl (fun ls hl => ?_)
    refine zr_iconst hx hb dX3_wearing_22 ?_
    refine lv_istore_n (lv' := [(3, .int (zI 0)), (2, .int (zI 0)), (0, .ref (q 0)), (1, .int (zI c))]) hx hb dX3_wearing_23 rfl hl (by decide) rfl (fun ls hl => ?_)
    have L24_2 : ∀ (kf i : Nat), i ≤ n → n - i < kf → ∀ (H : Heap) (locs : List Loc) (ls : Array Slot), va_P D vwCl (wM cI cZ q pa sp al co da mo st mr 0 n td wn) H → va_S (fun a => a ∈ zLM q) s9.heap H locs → lv_has ls 4 [(3, .int (zI (i : Int))), (2, .int (zI (smF (weM al mo n td c) i))), (0, .ref (q 0)), (1, .int (zI c))] → W p0 l e9 ({ frames := 2, cells := 0, slots := 0, locals := 54 }) s9 m9 ag9 below meth c9 H locs 0 0 Q0 (F0 m9 24 ls []) := by
      intro kf
      induction kf with
      | zero => intro i h1 h2; omega
      | succ kf ih =>
        intro i hi_i hk_i H locs ls hP hS hl
        have ih_i := ih
        clear ih
        refine lv_iload_n hx hb dX3_wearing_24 rfl (lv_at hl 0 rfl) ?_
        refine lv_aload_n hx hb dX3_wearing_25 rfl (lv_at hl 2 rfl) ?_
        refine va_get (D := D) (ci := 3) (v := .int (zI (n : Int))) (C := RX3) (T := TX3) (N := 12) hx hb hts hin3 hown hK hP 0 rfl rfl 1 (by decide) (hts (.fieldLink RX3 39 "MourningRibbonsModel" "people" "I") (by decide +kernel)) (fun _ h9 => h9) rfl dX3_wearing_26 ?_
        refine zr_icmp_ge (tgt := 68) hx hb dX3_wearing_29 (by decide) ⟨by omega, by omega⟩ ⟨by omega, by omega⟩ (fun c_3 => ?_) (fun c_3 => ?_)
        · have c_3 := c_3
          have x_4 : i = n := by omega
          try rw [x_4] at hP
          try rw [x_4] at hl
          refine lv_iload_n hx hb dX3_wearing_68 rfl (lv_at hl 1 rfl) ?_
          rw [hQ0]
          exact zret_i hx hb hr hlocks (rfl) hP hS dX3_wearing_69
        · have c_3 := c_3
          refine lv_iload_n hx hb dX3_wearing_32 rfl (lv_at hl 1 rfl) ?_
          refine lv_aload_n hx hb dX3_wearing_33 rfl (lv_at hl 2 rfl) ?_
          refine va_get (D := D) (ci := 3) (v := .ref (q 3)) (C := RX3) (T := TX3) (N := 12) hx hb hts hin3 hown hK hP 0 rfl rfl 4 (by decide) (hts (.fieldLink RX3 16 "MourningRibbonsModel" "isAlive" "[Z") (by decide +kernel)) (fun _ h9 => h9) rfl dX3_wearing_34 ?_
          refine lv_iload_n hx hb dX3_wearing_37 rfl (lv_at hl 0 rfl) ?_
          refine zr_zald (f := al) (n := 16) hx hb hK hP 3 1 rfl rfl (by decide) (i := (i : Int)) (by omega) (by omega) dX3_wearing_38 ?_
          have b_5 := hal (i : Int)
          refine zr_if_eq (tgt := 59) hx hb dX3_wearing_39 (by decide) ⟨by omega, by omega⟩ (fun c_6 => ?_) (fun c_6 => ?_)
          · have c_6 := c_6
            refine zr_iconst hx hb dX3_wearing_59 ?_
            refine zr_iadd (v := smF (weM al mo n td c) i) hx hb (by omega) dX3_wearing_60 ?_
            refine lv_istore_n (lv' := [(2, .int (zI (smF (weM al mo n td c) i))), (3, .int (zI (i : Int))), (0, .ref (q 0)), (1, .int (zI c))]) hx hb dX3_wearing_61 rfl hl (by decide) rfl (fun ls hl => ?_)
            refine zr_iinc (v := (i : Int) + 1) (lv' := [(3, .int (zI ((i : Int) + 1))), (2, .int (zI (smF (weM al mo n td c) i))), (0, .ref (q 0)), (1, .int (zI c))]) hx hb dX3_wearing_62 hl (k := 1) rfl rfl (by decide) rfl (fun ls hl => ?_)
            refine lv_goto (tgt := 24) hx hb dX3_wearing_65 (by decide) ?_
            have hl := lv_sub hl (l' := [(3, .int (zI ((i : Int) + 1))), (2, .int (zI (smF (weM al mo n td c) i))), (0, .ref (q 0)), (1, .int (zI c))]) [0, 1, 2, 3] rfl
            have e_7 : ((((i + 1) : Nat) : Int) : Int) = (i : Int) + 1 := by omega
            have e_8 : (smF (weM al mo n td c) (i + 1) : Int) = smF (weM al mo n td c) i := by rw [smF_s]; unfold weM; split <;> omega
            have hl : lv_has ls 4 [(3, .int (zI (((i + 1) : Nat) : Int))), (2, .int (zI (smF (weM al mo n td c) (i + 1)))), (0, .ref (q 0)), (1, .int (zI c))] := by rw [e_7, e_8]; exact hl
            exact ih_i (i + 1) (by omega) (by omega) _ _ _ hP hS hl
          · have c_6 := c_6
            refine lv_aload_n hx hb dX3_wearing_42 rfl (lv_at hl 2 rfl) ?_
            refine lv_iload_n hx hb dX3_wearing_43 rfl (lv_at hl 0 rfl) ?_
            refine lv_aload_n hx hb dX3_wearing_44 rfl (lv_at hl 2 rfl) ?_
            refine va_get (D := D) (ci := 3) (v := .int (zI td)) (C := RX3) (T := TX3) (N := 12) hx hb hts hin3 hown hK hP 0 rfl rfl 8 (by decide) (hts (.fieldLink RX3 95 "MourningRibbonsModel" "today" "I") (by decide +kernel)) (fun _ h9 => h9) rfl dX3_wearing_45 ?_
            refine zcallV (ci := 3) (q0 := 0) (cq := (RX3, TX3, 12)) (As := [.int (zI (i : Int)), .int (zI td)]) (rest := [.int (zI (smF (weM al mo n td c) i))]) ⟨hx, hb, hml, hown, hts⟩ hK (kX3_wears l D cI cZ q hN pa sp al co da mo st mr 0 n td wn hn hmo (i : Int) td (by omega) (by omega)) (cwV 2 hts gX3_wearing_X3_wears rfl rfl rfl (by decide +kernel) ⟨Nat.le_of_ble_eq_true rfl, Nat.le_of_ble_eq_true rfl⟩) hP hS hA rfl rfl rfl hl.1 rfl (Nat.le_of_ble_eq_true rfl) dX3_wearing_48 ⟨Nat.zero_le _, Nat.zero_le _⟩ (fun H locs hP hS _ _ => ?_)
            refine W.eq (g2 := F0 m9 51 ls [.int (zI (wsM mo n (i : Int) td)), .int (zI (smF (weM al mo n td c) i))]) rfl ?_
            have f_9 := wsM_bd hmo n (i : Int) td
            refine lv_iload_n hx hb dX3_wearing_51 rfl (lv_at hl 3 rfl) ?_
            refine zr_icmp_ne (tgt := 59) hx hb dX3_wearing_52 (by decide) ⟨by omega, by omega⟩ ⟨by omega, by omega⟩ (fun c_10 => ?_) (fun c_10 => ?_)
            · have c_10 := c_10
              refine zr_iconst hx hb dX3_wearing_59 ?_
              refine zr_iadd (v := smF (weM al mo n td c) i) hx hb (by omega) dX3_wearing_60 ?_
              refine lv_istore_n (lv' := [(2, .int (zI (smF (weM al mo n td c) i))), (3, .int (zI (i : Int))), (0, .ref (q 0)), (1, .int (zI c))]) hx hb dX3_wearing_61 rfl hl (by decide) rfl (fun ls hl => ?_)
              refine zr_iinc (v := (i : Int) + 1) (lv' := [(3, .int (zI ((i : Int) + 1))), (2, .int (zI (smF (weM al mo n td c) i))), (0, .ref (q 0)), (1, .int (zI c))]) hx hb dX3_wearing_62 hl (k := 1) rfl rfl (by decide) rfl (fun ls hl => ?_)
              refine lv_goto (tgt := 24) hx hb dX3_wearing_65 (by decide) ?_
              have hl := lv_sub hl (l' := [(3, .int (zI ((i : Int) + 1))), (2, .int (zI (smF (weM al mo n td c) i))), (0, .ref (q 0)), (1, .int (zI c))]) [0, 1, 2, 3] rfl
              have e_11 : ((((i + 1) : Nat) : Int) : Int) = (i : Int) + 1 := by omega
              have e_12 : (smF (weM al mo n td c) (i + 1) : Int) = smF (weM al mo n td c) i := by rw [smF_s]; unfold weM; split <;> omega
              have hl : lv_has ls 4 [(3, .int (zI (((i + 1) : Nat) : Int))), (2, .int (zI (smF (weM al mo n td c) (i + 1)))), (0, .ref (q 0)), (1, .int (zI c))] := by rw [e_11, e_12]; exact hl
              exact ih_i (i + 1) (by omega) (by omega) _ _ _ hP hS hl
            · have c_10 := c_10
              refine zr_iconst hx hb dX3_wearing_55 ?_
              refine lv_goto (tgt := 60) hx hb dX3_wearing_56 (by decide) ?_
              refine zr_iadd (v := (smF (weM al mo n td c) i) + 1) hx hb rfl dX3_wearing_60 ?_
              refine lv_istore_n (lv' := [(2, .int (zI ((smF (weM al mo n td c) i) + 1))), (3, .int (zI (i : Int))), (0, .ref (q 0)), (1, .int (zI c))]) hx hb dX3_wearing_61 rfl hl (by decide) rfl (fun ls hl => ?_)
              refine zr_iinc (v := (i : Int) + 1) (lv' := [(3, .int (zI ((i : Int) + 1))), (2, .int (zI ((smF (weM al mo n td c) i) + 1))), (0, .ref (q 0)), (1, .int (zI c))]) hx hb dX3_wearing_62 hl (k := 1) rfl rfl (by decide) rfl (fun ls hl => ?_)
              refine lv_goto (tgt := 24) hx hb dX3_wearing_65 (by decide) ?_
              have hl := lv_sub hl (l' := [(3, .int (zI ((i : Int) + 1))), (2, .int (zI ((smF (weM al mo n td c) i) + 1))), (0, .ref (q 0)), (1, .int (zI c))]) [0, 1, 2, 3] rfl
              have e_13 : ((((i + 1) : Nat) : Int) : Int) = (i : Int) + 1 := by omega
              have e_14 : (smF (weM al mo n td c) (i + 1) : Int) = (smF (weM al mo n td c) i) + 1 := by rw [smF_s]; unfold weM; split <;> omega
              have hl : lv_has ls 4 [(3, .int (zI (((i + 1) : Nat) : Int))), (2, .int (zI (smF (weM al mo n td c) (i + 1)))), (0, .ref (q 0)), (1, .int (zI c))] := by rw [e_13, e_14]; exact hl
              exact ih_i (i + 1) (by omega) (by omega) _ _ _ hP hS hl
    have hl := lv_sub hl (l' := [(3, .int (zI 0)), (2, .int (zI 0)), (0, .ref (q 0)), (1, .int (zI c))]) [0, 1, 2, 3] rfl
    have e_15 : (smF (weM al mo n td c) 0 : Int) = 0 := rfl
    have hl : lv_has ls 4 [(3, .int (zI 0)), (2, .int (zI (smF (weM al mo n td c) 0))), (0, .ref (q 0)), (1, .int (zI c))] := by rw [e_15]; exact hl
    exact L24_2 (n + 1) 0 (Nat.zero_le _) (by omega) _ _ _ hP hS hl
  · have c_1 := bI_z c_1
    refine lv_aload_n hx hb dX3_wearing_14 rfl (lv_at hl 0 rfl) ?_
    refine zr_iconst hx hb dX3_wearing_15 ?_
    exfalso; omega
set_option maxHeartbeats 4000000 in
set_option maxRecDepth 100000 in
theorem kX3_wearinge1 (l : Launch) (D : va_G) (cI cZ : ClassId) (q : Nat → Nat) (hN : (zLM q).Nodup) (pa : Int → Int) (sp : Int → Int) (al : Int → Int) (co : Int → Int) (da : Int → Int) (mo : Int → Int) (st : Int → Int) (mr : Int → Int) (th : Int) (n : Nat) (td : Int) (wn : Int) (c : Int) (h0 : -2147483648 ≤ c ∧ c ≤ 2147483647) (h1 : ¬ (0 ≤ c ∧ c ≤ 5)) : zM l yX3_wearing wsX3_wearing ({ frames := 2, cells := 0, slots := 0, locals := 54 }) D [(cI, .int), (cZ, .boolean)] [.ref (q 0), .int (zI c)] (wM cI cZ q pa sp al co da mo st mr th n td wn) (wM cI cZ q pa sp al co da mo st mr 1 n td wn) (some (.int (zI 0))) (zLM q) := by
  refine Met.ofW (cc := cX3_wearing) (maxL := 4) (ret := (some .int)) (by decide) rfl ?_
  intro p0 e9 s9 m9 ag9 below meth c9 s₁ B hml hv
  obtain ⟨hav, hP, hK⟩ := hv
  have hx := B.exec
  have hb := B.bytes
  have hr := B.returns
  have hts := atoms_spec (ws := wsX3_wearing) B.pre
  have hown : s9.vm.findClass RX3 = some m9.cls := findClass_of_methodNamed B.named
  have hlocks := B.notSynchronized
  have hA : ∀ a ∈ zLM q, (fun a => a ∈ zLM q) a := fun _ h => h
  have hin3 : ∀ w ∈ u_ws RX3 TX3 12, w ∈ wsX3_wearing := by decide +kernel
  have hl := lv_entry ([.ref (q 0), .int (zI c)]) (n := 4) (Nat.le_of_ble_eq_true rfl)
  have hE : entryFrame m9 ag9 4 = F0 m9 0 ((lg_sl ([.ref (q 0), .int (zI c)]) ++ List.replicate (4 - (lg_sl ([.ref (q 0), .int (zI c)])).length) Slot.unset).toArray) [] := by rw [hav]; exact lg_entry_eq m9 _ _
  obtain ⟨Q0, hQ0⟩ : ∃ Q0, Q0 = MQ below (zQ D (wM cI cZ q pa sp al co da mo st mr 1 n td wn) (some (.int (zI 0))) (zLM q)) ag9 s9 0 0 (fun a => a ∈ zLM q) := ⟨_, rfl⟩
  show W p0 l e9 ({ frames := 2, cells := 0, slots := 0, locals := 54 }) s9 m9 ag9 below meth c9 s9.heap [] 0 0 (MQ below (zQ D (wM cI cZ q pa sp al co da mo st mr 1 n td wn) (some (.int (zI 0))) (zLM q)) ag9 s9 0 0 (fun a => a ∈ zLM q)) _
  rw [hE, ← hQ0]
  have hS : va_S (fun a => a ∈ zLM q) s9.heap s9.heap [] := va_S.rf
  generalize hH0 : s9.heap = H at hP ⊢
  have hS : va_S (fun a => a ∈ zLM q) s9.heap H [] := by rw [hH0] at hS ⊢; exact hS
  generalize (lg_sl ([.ref (q 0), .int (zI c)]) ++ List.replicate (4 - (lg_sl ([.ref (q 0), .int (zI c)])).length) Slot.unset).toArray = ls at hl ⊢
  have hl : lv_has ls 4 [(0, .ref (q 0)), (1, .int (zI c))] := hl
  refine lv_aload_n hx hb dX3_wearing_0 rfl (lv_at hl 0 rfl) ?_
  refine zr_iconst hx hb dX3_wearing_1 ?_
  refine va_put (D := D) (ci := 3) (v := .int (zI 0)) (ty := .int) (C := RX3) (T := TX3) (N := 12) hx hb hts hin3 tyX3 tyX3_ok nmX3 hown hK hP (zD hN rfl hA) hS 0 rfl rfl 0 (by decide) (hts (.fieldLink RX3 35 "MourningRibbonsModel" "thrown" "I") (by decide +kernel)) (fun _ h9 => h9) rfl (by decide +kernel) rfl rfl (Nat.le_of_ble_eq_true rfl) dX3_wearing_2 (fun H locs hP _ hS => ?_)
  have hP : va_P D vwCl (wM cI cZ q pa sp al co da mo st mr 0 n td wn) H := hP
  refine lv_iload_n hx hb dX3_wearing_5 rfl (lv_at hl 1 rfl) ?_
  refine zr_iconst hx hb dX3_wearing_6 ?_
  refine zr_iconst hx hb dX3_wearing_7 ?_
  refine zcallP (As := [.int (zI c), .int (zI 0), .int (zI 5)]) (rest := []) ⟨hx, hb, hml, hown, hts⟩ (kX3_isIn l D c 0 5 (by omega) (by omega) (by omega)) hK (va_cwS 3 hts gX3_wearing_X3_isIn rfl rfl rfl (by decide +kernel) ⟨Nat.le_of_ble_eq_true rfl, Nat.le_of_ble_eq_true rfl⟩) hP hS rfl hl.1 rfl (Nat.le_of_ble_eq_true rfl) dX3_wearing_8 ⟨Nat.zero_le _, Nat.zero_le _⟩ (fun H locs hP hS => ?_)
  refine W.eq (g2 := F0 m9 11 ls [.int (zI (bI (0 ≤ c ∧ c ≤ 5)))]) rfl ?_
  refine zr_if_ne (tgt := 20) hx hb dX3_wearing_11 (by decide) (bI_rg _) (fun c_1 => ?_) (fun c_1 => ?_)
  · have c_1 := bI_n c_1
    exfalso; omega
  · have c_1 := bI_z c_1
    refine lv_aload_n hx hb dX3_wearing_14 rfl (lv_at hl 0 rfl) ?_
    refine zr_iconst hx hb dX3_wearing_15 ?_
    refine zcallV (ci := 3) (q0 := 0) (cq := (RX3, TX3, 12)) (As := [.int (zI 1)]) (rest := []) ⟨hx, hb, hml, hown, hts⟩ hK (kX3_no l D cI cZ q hN pa sp al co da mo st mr 0 n td wn 1) (cwV 1 hts gX3_wearing_X3_no rfl rfl rfl (by decide +kernel) ⟨Nat.le_of_ble_eq_true rfl, Nat.le_of_ble_eq_true rfl⟩) hP hS hA rfl rfl rfl hl.1 rfl (Nat.le_of_ble_eq_true rfl) dX3_wearing_16 ⟨Nat.zero_le _, Nat.zero_le _⟩ (fun H locs hP hS _ _ => ?_)
    refine W.eq (g2 := F0 m9 19 ls [.int (zI 0)]) rfl ?_
    rw [hQ0]
    exact zret_i hx hb hr hlocks (rfl) hP hS dX3_wearing_19
set_option maxHeartbeats 4000000 in
set_option maxRecDepth 100000 in
theorem kX3_wouldMournok (l : Launch) (D : va_G) (cI cZ : ClassId) (q : Nat → Nat) (hN : (zLM q).Nodup) (pa : Int → Int) (sp : Int → Int) (al : Int → Int) (co : Int → Int) (da : Int → Int) (mo : Int → Int) (st : Int → Int) (mr : Int → Int) (th : Int) (n : Nat) (td : Int) (wn : Int) (hpa : ∀ j : Int, -1 ≤ pa j ∧ pa j ≤ 15) (hsp : ∀ j : Int, -1 ≤ sp j ∧ sp j ≤ 15) (hal : ∀ j : Int, 0 ≤ al j ∧ al j ≤ 1) (hst : ∀ j : Int, -1 ≤ st j ∧ st j ≤ 4) (hda : ∀ j : Int, 0 ≤ da j ∧ da j ≤ 60) (hn : n ≤ 16) (d : Int) (h0 : -2147483648 ≤ d ∧ d ≤ 2147483647) (h1 : 0 ≤ d ∧ d < (n : Int)) (h2 : al d ≠ 0) : zM l yX3_wouldMourn wsX3_wouldMourn ({ frames := 4, cells := 0, slots := 0, locals := 87 }) D [(cI, .int), (cZ, .boolean)] [.ref (q 0), .int (zI d)] (wM cI cZ q pa sp al co da mo st mr th n td wn) (wM cI cZ q pa sp al co da mo (goF pa sp n st d) mr 0 n td wn) (some (.int (zI (smF (imF al (goF pa sp n st d) da d) n)))) (zLM q) := by
  refine Met.ofW (cc := cX3_wouldMourn) (maxL := 2) (ret := (some .int)) (by decide) rfl ?_
  intro p0 e9 s9 m9 ag9 below meth c9 s₁ B hml hv
  obtain ⟨hav, hP, hK⟩ := hv
  have hx := B.exec
  have hb := B.bytes
  have hr := B.returns
  have hts := atoms_spec (ws := wsX3_wouldMourn) B.pre
  have hown : s9.vm.findClass RX3 = some m9.cls := findClass_of_methodNamed B.named
  have hlocks := B.notSynchronized
  have hA : ∀ a ∈ zLM q, (fun a => a ∈ zLM q) a := fun _ h => h
  have hin3 : ∀ w ∈ u_ws RX3 TX3 12, w ∈ wsX3_wouldMourn := by decide +kernel
  have hl := lv_entry ([.ref (q 0), .int (zI d)]) (n := 2) (Nat.le_of_ble_eq_true rfl)
  have hE : entryFrame m9 ag9 2 = F0 m9 0 ((lg_sl ([.ref (q 0), .int (zI d)]) ++ List.replicate (2 - (lg_sl ([.ref (q 0), .int (zI d)])).length) Slot.unset).toArray) [] := by rw [hav]; exact lg_entry_eq m9 _ _
  obtain ⟨Q0, hQ0⟩ : ∃ Q0, Q0 = MQ below (zQ D (wM cI cZ q pa sp al co da mo (goF pa sp n st d) mr 0 n td wn) (some (.int (zI (smF (imF al (goF pa sp n st d) da d) n)))) (zLM q)) ag9 s9 0 0 (fun a => a ∈ zLM q) := ⟨_, rfl⟩
  show W p0 l e9 ({ frames := 4, cells := 0, slots := 0, locals := 87 }) s9 m9 ag9 below meth c9 s9.heap [] 0 0 (MQ below (zQ D (wM cI cZ q pa sp al co da mo (goF pa sp n st d) mr 0 n td wn) (some (.int (zI (smF (imF al (goF pa sp n st d) da d) n)))) (zLM q)) ag9 s9 0 0 (fun a => a ∈ zLM q)) _
  rw [hE, ← hQ0]
  have hS : va_S (fun a => a ∈ zLM q) s9.heap s9.heap [] := va_S.rf
  generalize hH0 : s9.heap = H at hP ⊢
  have hS : va_S (fun a => a ∈ zLM q) s9.heap H [] := by rw [hH0] at hS ⊢; exact hS
  generalize (lg_sl ([.ref (q 0), .int (zI d)]) ++ List.replicate (2 - (lg_sl ([.ref (q 0), .int (zI d)])).length) Slot.unset).toArray = ls at hl ⊢
  have hl : lv_has ls 2 [(0, .ref (q 0)), (1, .int (zI d))] := hl
  refine lv_aload_n hx hb dX3_wouldMourn_0 rfl (lv_at hl 0 rfl) ?_
  refine zr_iconst hx hb dX3_wouldMourn_1 ?_
  refine va_put (D := D) (ci := 3) (v := .int (zI 0)) (ty := .int) (C := RX3) (T := TX3) (N := 12) hx hb hts hin3 tyX3 tyX3_ok nmX3 hown hK hP (zD hN rfl hA) hS 0 rfl rfl 0 (by decide) (hts (.fieldLink RX3 35 "MourningRibbonsModel" "thrown" "I") (by decide +kernel)) (fun _ h9 => h9) rfl (by decide +kernel) rfl rfl (Nat.le_of_ble_eq_true rfl) dX3_wouldMourn_2 (fun H locs hP _ hS => ?_)
  have hP : va_P D vwCl (wM cI cZ q pa sp al co da mo st mr 0 n td wn) H := hP
  refine lv_aload_n hx hb dX3_wouldMourn_5 rfl (lv_at hl 0 rfl) ?_
  refine lv_iload_n hx hb dX3_wouldMourn_6 rfl (lv_at hl 1 rfl) ?_
  refine zcallV (ci := 3) (q0 := 0) (cq := (RX3, TX3, 12)) (As := [.int (zI d)]) (rest := []) ⟨hx, hb, hml, hown, hts⟩ hK (kX3_isPerson l D cI cZ q hN pa sp al co da mo st mr 0 n td wn hn d (by omega)) (cwV 1 hts gX3_wouldMourn_X3_isPerson rfl rfl rfl (by decide +kernel) ⟨Nat.le_of_ble_eq_true rfl, Nat.le_of_ble_eq_true rfl⟩) hP hS hA rfl rfl rfl hl.1 rfl (Nat.le_of_ble_eq_true rfl) dX3_wouldMourn_7 ⟨Nat.zero_le _, Nat.zero_le _⟩ (fun H locs hP hS _ _ => ?_)
  refine W.eq (g2 := F0 m9 10 ls [.int (zI (bI (0 ≤ d ∧ d ≤ (n : Int) - 1)))]) rfl ?_
  refine zr_if_ne (tgt := 19) hx hb dX3_wouldMourn_10 (by decide) (bI_rg _) (fun c_1 => ?_) (fun c_1 => ?_)
  · have c_1 := bI_n c_1
    refine lv_aload_n hx hb dX3_wouldMourn_19 rfl (lv_at hl 0 rfl) ?_
    refine va_get (D := D) (ci := 3) (v := .ref (q 3)) (C := RX3) (T := TX3) (N := 12) hx hb hts hin3 hown hK hP 0 rfl rfl 4 (by decide) (hts (.fieldLink RX3 16 "MourningRibbonsModel" "isAlive" "[Z") (by decide +kernel)) (fun _ h9 => h9) rfl dX3_wouldMourn_20 ?_
    refine lv_iload_n hx hb dX3_wouldMourn_23 rfl (lv_at hl 1 rfl) ?_
    refine zr_zald (f := al) (n := 16) hx hb hK hP 3 1 rfl rfl (by decide) (i := d) (by omega) (by omega) dX3_wouldMourn_24 ?_
    have b_2 := hal d
    refine zr_if_eq (tgt := 36) hx hb dX3_wouldMourn_25 (by decide) ⟨by omega, by omega⟩ (fun c_3 => ?_) (fun c_3 => ?_)
    · have c_3 := c_3
      refine lv_aload_n hx hb dX3_wouldMourn_36 rfl (lv_at hl 0 rfl) ?_
      refine zr_iconst hx hb dX3_wouldMourn_37 ?_
      exfalso; omega
    · have c_3 := c_3
      refine lv_aload_n hx hb dX3_wouldMourn_28 rfl (lv_at hl 0 rfl) ?_
      refine lv_iload_n hx hb dX3_wouldMourn_29 rfl (lv_at hl 1 rfl) ?_
      refine zcallV (ci := 3) (q0 := 0) (cq := (RX3, TX3, 12)) (As := [.int (zI d)]) (rest := []) ⟨hx, hb, hml, hown, hts⟩ hK (kX3_mourners l D cI cZ q hN pa sp al co da mo st mr 0 n td wn hpa hsp hal hst hda hn d (by omega)) (cwV 1 hts gX3_wouldMourn_X3_mourners rfl rfl rfl (by decide +kernel) ⟨Nat.le_of_ble_eq_true rfl, Nat.le_of_ble_eq_true rfl⟩) hP hS hA rfl rfl rfl hl.1 rfl (Nat.le_of_ble_eq_true rfl) dX3_wouldMourn_30 ⟨Nat.zero_le _, Nat.zero_le _⟩ (fun H locs hP hS _ _ => ?_)
      have g_4 : ∀ j : Int, -1 ≤ (goF pa sp n st d) j ∧ (goF pa sp n st d) j ≤ 4 := goF_bd hst pa sp n d
      refine W.eq (g2 := F0 m9 33 ls [.int (zI (smF (imF al (goF pa sp n st d) da d) n))]) rfl ?_
      refine lv_goto (tgt := 41) hx hb dX3_wouldMourn_33 (by decide) ?_
      rw [hQ0]
      exact zret_i hx hb hr hlocks (rfl) hP hS dX3_wouldMourn_41
  · have c_1 := bI_z c_1
    refine lv_aload_n hx hb dX3_wouldMourn_13 rfl (lv_at hl 0 rfl) ?_
    refine zr_iconst hx hb dX3_wouldMourn_14 ?_
    exfalso; omega
set_option maxHeartbeats 4000000 in
set_option maxRecDepth 100000 in
theorem kX3_wouldMourne1 (l : Launch) (D : va_G) (cI cZ : ClassId) (q : Nat → Nat) (hN : (zLM q).Nodup) (pa : Int → Int) (sp : Int → Int) (al : Int → Int) (co : Int → Int) (da : Int → Int) (mo : Int → Int) (st : Int → Int) (mr : Int → Int) (th : Int) (n : Nat) (td : Int) (wn : Int) (hn : n ≤ 16) (d : Int) (h0 : -2147483648 ≤ d ∧ d ≤ 2147483647) (h1 : ¬ (0 ≤ d ∧ d < (n : Int))) : zM l yX3_wouldMourn wsX3_wouldMourn ({ frames := 4, cells := 0, slots := 0, locals := 87 }) D [(cI, .int), (cZ, .boolean)] [.ref (q 0), .int (zI d)] (wM cI cZ q pa sp al co da mo st mr th n td wn) (wM cI cZ q pa sp al co da mo st mr 1 n td wn) (some (.int (zI 0))) (zLM q) := by
  refine Met.ofW (cc := cX3_wouldMourn) (maxL := 2) (ret := (some .int)) (by decide) rfl ?_
  intro p0 e9 s9 m9 ag9 below meth c9 s₁ B hml hv
  obtain ⟨hav, hP, hK⟩ := hv
  have hx := B.exec
  have hb := B.bytes
  have hr := B.returns
  have hts := atoms_spec (ws := wsX3_wouldMourn) B.pre
  have hown : s9.vm.findClass RX3 = some m9.cls := findClass_of_methodNamed B.named
  have hlocks := B.notSynchronized
  have hA : ∀ a ∈ zLM q, (fun a => a ∈ zLM q) a := fun _ h => h
  have hin3 : ∀ w ∈ u_ws RX3 TX3 12, w ∈ wsX3_wouldMourn := by decide +kernel
  have hl := lv_entry ([.ref (q 0), .int (zI d)]) (n := 2) (Nat.le_of_ble_eq_true rfl)
  have hE : entryFrame m9 ag9 2 = F0 m9 0 ((lg_sl ([.ref (q 0), .int (zI d)]) ++ List.replicate (2 - (lg_sl ([.ref (q 0), .int (zI d)])).length) Slot.unset).toArray) [] := by rw [hav]; exact lg_entry_eq m9 _ _
  obtain ⟨Q0, hQ0⟩ : ∃ Q0, Q0 = MQ below (zQ D (wM cI cZ q pa sp al co da mo st mr 1 n td wn) (some (.int (zI 0))) (zLM q)) ag9 s9 0 0 (fun a => a ∈ zLM q) := ⟨_, rfl⟩
  show W p0 l e9 ({ frames := 4, cells := 0, slots := 0, locals := 87 }) s9 m9 ag9 below meth c9 s9.heap [] 0 0 (MQ below (zQ D (wM cI cZ q pa sp al co da mo st mr 1 n td wn) (some (.int (zI 0))) (zLM q)) ag9 s9 0 0 (fun a => a ∈ zLM q)) _
  rw [hE, ← hQ0]
  have hS : va_S (fun a => a ∈ zLM q) s9.heap s9.heap [] := va_S.rf
  generalize hH0 : s9.heap = H at hP ⊢
  have hS : va_S (fun a => a ∈ zLM q) s9.heap H [] := by rw [hH0] at hS ⊢; exact hS
  generalize (lg_sl ([.ref (q 0), .int (zI d)]) ++ List.replicate (2 - (lg_sl ([.ref (q 0), .int (zI d)])).length) Slot.unset).toArray = ls at hl ⊢
  have hl : lv_has ls 2 [(0, .ref (q 0)), (1, .int (zI d))] := hl
  refine lv_aload_n hx hb dX3_wouldMourn_0 rfl (lv_at hl 0 rfl) ?_
  refine zr_iconst hx hb dX3_wouldMourn_1 ?_
  refine va_put (D := D) (ci := 3) (v := .int (zI 0)) (ty := .int) (C := RX3) (T := TX3) (N := 12) hx hb hts hin3 tyX3 tyX3_ok nmX3 hown hK hP (zD hN rfl hA) hS 0 rfl rfl 0 (by decide) (hts (.fieldLink RX3 35 "MourningRibbonsModel" "thrown" "I") (by decide +kernel)) (fun _ h9 => h9) rfl (by decide +kernel) rfl rfl (Nat.le_of_ble_eq_true rfl) dX3_wouldMourn_2 (fun H locs hP _ hS => ?_)
  have hP : va_P D vwCl (wM cI cZ q pa sp al co da mo st mr 0 n td wn) H := hP
  refine lv_aload_n hx hb dX3_wouldMourn_5 rfl (lv_at hl 0 rfl) ?_
  refine lv_iload_n hx hb dX3_wouldMourn_6 rfl (lv_at hl 1 rfl) ?_
  refine zcallV (ci := 3) (q0 := 0) (cq := (RX3, TX3, 12)) (As := [.int (zI d)]) (rest := []) ⟨hx, hb, hml, hown, hts⟩ hK (kX3_isPerson l D cI cZ q hN pa sp al co da mo st mr 0 n td wn hn d (by omega)) (cwV 1 hts gX3_wouldMourn_X3_isPerson rfl rfl rfl (by decide +kernel) ⟨Nat.le_of_ble_eq_true rfl, Nat.le_of_ble_eq_true rfl⟩) hP hS hA rfl rfl rfl hl.1 rfl (Nat.le_of_ble_eq_true rfl) dX3_wouldMourn_7 ⟨Nat.zero_le _, Nat.zero_le _⟩ (fun H locs hP hS _ _ => ?_)
  refine W.eq (g2 := F0 m9 10 ls [.int (zI (bI (0 ≤ d ∧ d ≤ (n : Int) - 1)))]) rfl ?_
  refine zr_if_ne (tgt := 19) hx hb dX3_wouldMourn_10 (by decide) (bI_rg _) (fun c_1 => ?_) (fun c_1 => ?_)
  · have c_1 := bI_n c_1
    exfalso; omega
  · have c_1 := bI_z c_1
    refine lv_aload_n hx hb dX3_wouldMourn_13 rfl (lv_at hl 0 rfl) ?_
    refine zr_iconst hx hb dX3_wouldMourn_14 ?_
    refine zcallV (ci := 3) (q0 := 0) (cq := (RX3, TX3, 12)) (As := [.int (zI 1)]) (rest := []) ⟨hx, hb, hml, hown, hts⟩ hK (kX3_no l D cI cZ q hN pa sp al co da mo st mr 0 n td wn 1) (cwV 1 hts gX3_wouldMourn_X3_no rfl rfl rfl (by decide +kernel) ⟨Nat.le_of_ble_eq_true rfl, Nat.le_of_ble_eq_true rfl⟩) hP hS hA rfl rfl rfl hl.1 rfl (Nat.le_of_ble_eq_true rfl) dX3_wouldMourn_15 ⟨Nat.zero_le _, Nat.zero_le _⟩ (fun H locs hP hS _ _ => ?_)
    refine W.eq (g2 := F0 m9 18 ls [.int (zI 0)]) rfl ?_
    rw [hQ0]
    exact zret_i hx hb hr hlocks (rfl) hP hS dX3_wouldMourn_18
set_option maxHeartbeats 4000000 in
set_option maxRecDepth 100000 in
theorem kX3_wouldMourne2 (l : Launch) (D : va_G) (cI cZ : ClassId) (q : Nat → Nat) (hN : (zLM q).Nodup) (pa : Int → Int) (sp : Int → Int) (al : Int → Int) (co : Int → Int) (da : Int → Int) (mo : Int → Int) (st : Int → Int) (mr : Int → Int) (th : Int) (n : Nat) (td : Int) (wn : Int) (hn : n ≤ 16) (hal : ∀ j : Int, 0 ≤ al j ∧ al j ≤ 1) (d : Int) (h0 : -2147483648 ≤ d ∧ d ≤ 2147483647) (h1 : 0 ≤ d ∧ d < (n : Int)) (h2 : al d = 0) : zM l yX3_wouldMourn wsX3_wouldMourn ({ frames := 4, cells := 0, slots := 0, locals := 87 }) D [(cI, .int), (cZ, .boolean)] [.ref (q 0), .int (zI d)] (wM cI cZ q pa sp al co da mo st mr th n td wn) (wM cI cZ q pa sp al co da mo st mr 2 n td wn) (some (.int (zI 0))) (zLM q) := by
  refine Met.ofW (cc := cX3_wouldMourn) (maxL := 2) (ret := (some .int)) (by decide) rfl ?_
  intro p0 e9 s9 m9 ag9 below meth c9 s₁ B hml hv
  obtain ⟨hav, hP, hK⟩ := hv
  have hx := B.exec
  have hb := B.bytes
  have hr := B.returns
  have hts := atoms_spec (ws := wsX3_wouldMourn) B.pre
  have hown : s9.vm.findClass RX3 = some m9.cls := findClass_of_methodNamed B.named
  have hlocks := B.notSynchronized
  have hA : ∀ a ∈ zLM q, (fun a => a ∈ zLM q) a := fun _ h => h
  have hin3 : ∀ w ∈ u_ws RX3 TX3 12, w ∈ wsX3_wouldMourn := by decide +kernel
  have hl := lv_entry ([.ref (q 0), .int (zI d)]) (n := 2) (Nat.le_of_ble_eq_true rfl)
  have hE : entryFrame m9 ag9 2 = F0 m9 0 ((lg_sl ([.ref (q 0), .int (zI d)]) ++ List.replicate (2 - (lg_sl ([.ref (q 0), .int (zI d)])).length) Slot.unset).toArray) [] := by rw [hav]; exact lg_entry_eq m9 _ _
  obtain ⟨Q0, hQ0⟩ : ∃ Q0, Q0 = MQ below (zQ D (wM cI cZ q pa sp al co da mo st mr 2 n td wn) (some (.int (zI 0))) (zLM q)) ag9 s9 0 0 (fun a => a ∈ zLM q) := ⟨_, rfl⟩
  show W p0 l e9 ({ frames := 4, cells := 0, slots := 0, locals := 87 }) s9 m9 ag9 below meth c9 s9.heap [] 0 0 (MQ below (zQ D (wM cI cZ q pa sp al co da mo st mr 2 n td wn) (some (.int (zI 0))) (zLM q)) ag9 s9 0 0 (fun a => a ∈ zLM q)) _
  rw [hE, ← hQ0]
  have hS : va_S (fun a => a ∈ zLM q) s9.heap s9.heap [] := va_S.rf
  generalize hH0 : s9.heap = H at hP ⊢
  have hS : va_S (fun a => a ∈ zLM q) s9.heap H [] := by rw [hH0] at hS ⊢; exact hS
  generalize (lg_sl ([.ref (q 0), .int (zI d)]) ++ List.replicate (2 - (lg_sl ([.ref (q 0), .int (zI d)])).length) Slot.unset).toArray = ls at hl ⊢
  have hl : lv_has ls 2 [(0, .ref (q 0)), (1, .int (zI d))] := hl
  refine lv_aload_n hx hb dX3_wouldMourn_0 rfl (lv_at hl 0 rfl) ?_
  refine zr_iconst hx hb dX3_wouldMourn_1 ?_
  refine va_put (D := D) (ci := 3) (v := .int (zI 0)) (ty := .int) (C := RX3) (T := TX3) (N := 12) hx hb hts hin3 tyX3 tyX3_ok nmX3 hown hK hP (zD hN rfl hA) hS 0 rfl rfl 0 (by decide) (hts (.fieldLink RX3 35 "MourningRibbonsModel" "thrown" "I") (by decide +kernel)) (fun _ h9 => h9) rfl (by decide +kernel) rfl rfl (Nat.le_of_ble_eq_true rfl) dX3_wouldMourn_2 (fun H locs hP _ hS => ?_)
  have hP : va_P D vwCl (wM cI cZ q pa sp al co da mo st mr 0 n td wn) H := hP
  refine lv_aload_n hx hb dX3_wouldMourn_5 rfl (lv_at hl 0 rfl) ?_
  refine lv_iload_n hx hb dX3_wouldMourn_6 rfl (lv_at hl 1 rfl) ?_
  refine zcallV (ci := 3) (q0 := 0) (cq := (RX3, TX3, 12)) (As := [.int (zI d)]) (rest := []) ⟨hx, hb, hml, hown, hts⟩ hK (kX3_isPerson l D cI cZ q hN pa sp al co da mo st mr 0 n td wn hn d (by omega)) (cwV 1 hts gX3_wouldMourn_X3_isPerson rfl rfl rfl (by decide +kernel) ⟨Nat.le_of_ble_eq_true rfl, Nat.le_of_ble_eq_true rfl⟩) hP hS hA rfl rfl rfl hl.1 rfl (Nat.le_of_ble_eq_true rfl) dX3_wouldMourn_7 ⟨Nat.zero_le _, Nat.zero_le _⟩ (fun H locs hP hS _ _ => ?_)
  refine W.eq (g2 := F0 m9 10 ls [.int (zI (bI (0 ≤ d ∧ d ≤ (n : Int) - 1)))]) rfl ?_
  refine zr_if_ne (tgt := 19) hx hb dX3_wouldMourn_10 (by decide) (bI_rg _) (fun c_1 => ?_) (fun c_1 => ?_)
  · have c_1 := bI_n c_1
    refine lv_aload_n hx hb dX3_wouldMourn_19 rfl (lv_at hl 0 rfl) ?_
    refine va_get (D := D) (ci := 3) (v := .ref (q 3)) (C := RX3) (T := TX3) (N := 12) hx hb hts hin3 hown hK hP 0 rfl rfl 4 (by decide) (hts (.fieldLink RX3 16 "MourningRibbonsModel" "isAlive" "[Z") (by decide +kernel)) (fun _ h9 => h9) rfl dX3_wouldMourn_20 ?_
    refine lv_iload_n hx hb dX3_wouldMourn_23 rfl (lv_at hl 1 rfl) ?_
    refine zr_zald (f := al) (n := 16) hx hb hK hP 3 1 rfl rfl (by decide) (i := d) (by omega) (by omega) dX3_wouldMourn_24 ?_
    have b_2 := hal d
    refine zr_if_eq (tgt := 36) hx hb dX3_wouldMourn_25 (by decide) ⟨by omega, by omega⟩ (fun c_3 => ?_) (fun c_3 => ?_)
    · have c_3 := c_3
      refine lv_aload_n hx hb dX3_wouldMourn_36 rfl (lv_at hl 0 rfl) ?_
      refine zr_iconst hx hb dX3_wouldMourn_37 ?_
      refine zcallV (ci := 3) (q0 := 0) (cq := (RX3, TX3, 12)) (As := [.int (zI 2)]) (rest := []) ⟨hx, hb, hml, hown, hts⟩ hK (kX3_no l D cI cZ q hN pa sp al co da mo st mr 0 n td wn 2) (cwV 1 hts gX3_wouldMourn_X3_no rfl rfl rfl (by decide +kernel) ⟨Nat.le_of_ble_eq_true rfl, Nat.le_of_ble_eq_true rfl⟩) hP hS hA rfl rfl rfl hl.1 rfl (Nat.le_of_ble_eq_true rfl) dX3_wouldMourn_38 ⟨Nat.zero_le _, Nat.zero_le _⟩ (fun H locs hP hS _ _ => ?_)
      refine W.eq (g2 := F0 m9 41 ls [.int (zI 0)]) rfl ?_
      rw [hQ0]
      exact zret_i hx hb hr hlocks (rfl) hP hS dX3_wouldMourn_41
    · have c_3 := c_3
      refine lv_aload_n hx hb dX3_wouldMourn_28 rfl (lv_at hl 0 rfl) ?_
      refine lv_iload_n hx hb dX3_wouldMourn_29 rfl (lv_at hl 1 rfl) ?_
      exfalso; omega
  · have c_1 := bI_z c_1
    refine lv_aload_n hx hb dX3_wouldMourn_13 rfl (lv_at hl 0 rfl) ?_
    refine zr_iconst hx hb dX3_wouldMourn_14 ?_
    exfalso; omega
set_option maxHeartbeats 4000000 in
set_option maxRecDepth 100000 in
theorem kX3_wouldWearok (l : Launch) (D : va_G) (cI cZ : ClassId) (q : Nat → Nat) (hN : (zLM q).Nodup) (pa : Int → Int) (sp : Int → Int) (al : Int → Int) (co : Int → Int) (da : Int → Int) (mo : Int → Int) (st : Int → Int) (mr : Int → Int) (th : Int) (n : Nat) (td : Int) (wn : Int) (hpa : ∀ j : Int, -1 ≤ pa j ∧ pa j ≤ 15) (hsp : ∀ j : Int, -1 ≤ sp j ∧ sp j ≤ 15) (hal : ∀ j : Int, 0 ≤ al j ∧ al j ≤ 1) (hco : ∀ j : Int, 0 ≤ co j ∧ co j ≤ 5) (hda : ∀ j : Int, 0 ≤ da j ∧ da j ≤ 60) (hmo : ∀ j : Int, -1 ≤ mo j ∧ mo j ≤ 1000000) (hst : ∀ j : Int, -1 ≤ st j ∧ st j ≤ 4) (hmr : ∀ j : Int, -1 ≤ mr j ∧ mr j ≤ 1000000) (hn : n ≤ 16) (htd : 0 ≤ td ∧ td ≤ 1000000) (p : Int) (d : Int) (h8 : -2147483648 ≤ p ∧ p ≤ 2147483647) (h9 : -2147483648 ≤ d ∧ d ≤ 2147483647) (h1 : 0 ≤ p ∧ p < (n : Int)) (h2 : 0 ≤ d ∧ d < (n : Int)) (h3 : p ≠ d) (h4 : al p ≠ 0) (h5 : al d ≠ 0) : zM l yX3_wouldWear wsX3_wouldWear ({ frames := 5, cells := 0, slots := 0, locals := 108 }) D [(cI, .int), (cZ, .boolean)] [.ref (q 0), .int (zI p), .int (zI d)] (wM cI cZ q pa sp al co da mo st mr th n td wn) (wM cI cZ q pa sp al co da mo (goF pa sp n st d) (lmM mr (goF pa sp n st d) al co da td p d) 0 n td wn) (some (.int (zI (wtM mo (lmM mr (goF pa sp n st d) al co da td p d) n p td)))) (zLM q) := by
  refine Met.ofW (cc := cX3_wouldWear) (maxL := 3) (ret := (some .int)) (by decide) rfl ?_
  intro p0 e9 s9 m9 ag9 below meth c9 s₁ B hml hv
  obtain ⟨hav, hP, hK⟩ := hv
  have hx := B.exec
  have hb := B.bytes
  have hr := B.returns
  have hts := atoms_spec (ws := wsX3_wouldWear) B.pre
  have hown : s9.vm.findClass RX3 = some m9.cls := findClass_of_methodNamed B.named
  have hlocks := B.notSynchronized
  have hA : ∀ a ∈ zLM q, (fun a => a ∈ zLM q) a := fun _ h => h
  have hin3 : ∀ w ∈ u_ws RX3 TX3 12, w ∈ wsX3_wouldWear := by decide +kernel
  have hl := lv_entry ([.ref (q 0), .int (zI p), .int (zI d)]) (n := 3) (Nat.le_of_ble_eq_true rfl)
  have hE : entryFrame m9 ag9 3 = F0 m9 0 ((lg_sl ([.ref (q 0), .int (zI p), .int (zI d)]) ++ List.replicate (3 - (lg_sl ([.ref (q 0), .int (zI p), .int (zI d)])).length) Slot.unset).toArray) [] := by rw [hav]; exact lg_entry_eq m9 _ _
  obtain ⟨Q0, hQ0⟩ : ∃ Q0, Q0 = MQ below (zQ D (wM cI cZ q pa sp al co da mo (goF pa sp n st d) (lmM mr (goF pa sp n st d) al co da td p d) 0 n td wn) (some (.int (zI (wtM mo (lmM mr (goF pa sp n st d) al co da td p d) n p td)))) (zLM q)) ag9 s9 0 0 (fun a => a ∈ zLM q) := ⟨_, rfl⟩
  show W p0 l e9 ({ frames := 5, cells := 0, slots := 0, locals := 108 }) s9 m9 ag9 below meth c9 s9.heap [] 0 0 (MQ below (zQ D (wM cI cZ q pa sp al co da mo (goF pa sp n st d) (lmM mr (goF pa sp n st d) al co da td p d) 0 n td wn) (some (.int (zI (wtM mo (lmM mr (goF pa sp n st d) al co da td p d) n p td)))) (zLM q)) ag9 s9 0 0 (fun a => a ∈ zLM q)) _
  rw [hE, ← hQ0]
  have hS : va_S (fun a => a ∈ zLM q) s9.heap s9.heap [] := va_S.rf
  generalize hH0 : s9.heap = H at hP ⊢
  have hS : va_S (fun a => a ∈ zLM q) s9.heap H [] := by rw [hH0] at hS ⊢; exact hS
  generalize (lg_sl ([.ref (q 0), .int (zI p), .int (zI d)]) ++ List.replicate (3 - (lg_sl ([.ref (q 0), .int (zI p), .int (zI d)])).length) Slot.unset).toArray = ls at hl ⊢
  have hl : lv_has ls 3 [(0, .ref (q 0)), (1, .int (zI p)), (2, .int (zI d))] := hl
  refine lv_aload_n hx hb dX3_wouldWear_0 rfl (lv_at hl 0 rfl) ?_
  refine zr_iconst hx hb dX3_wouldWear_1 ?_
  refine va_put (D := D) (ci := 3) (v := .int (zI 0)) (ty := .int) (C := RX3) (T := TX3) (N := 12) hx hb hts hin3 tyX3 tyX3_ok nmX3 hown hK hP (zD hN rfl hA) hS 0 rfl rfl 0 (by decide) (hts (.fieldLink RX3 35 "MourningRibbonsModel" "thrown" "I") (by decide +kernel)) (fun _ h9 => h9) rfl (by decide +kernel) rfl rfl (Nat.le_of_ble_eq_true rfl) dX3_wouldWear_2 (fun H locs hP _ hS => ?_)
  have hP : va_P D vwCl (wM cI cZ q pa sp al co da mo st mr 0 n td wn) H := hP
  refine lv_aload_n hx hb dX3_wouldWear_5 rfl (lv_at hl 0 rfl) ?_
  refine lv_iload_n hx hb dX3_wouldWear_6 rfl (lv_at hl 1 rfl) ?_
  refine zcallV (ci := 3) (q0 := 0) (cq := (RX3, TX3, 12)) (As := [.int (zI p)]) (rest := []) ⟨hx, hb, hml, hown, hts⟩ hK (kX3_isPerson l D cI cZ q hN pa sp al co da mo st mr 0 n td wn hn p (by omega)) (cwV 1 hts gX3_wouldWear_X3_isPerson rfl rfl rfl (by decide +kernel) ⟨Nat.le_of_ble_eq_true rfl, Nat.le_of_ble_eq_true rfl⟩) hP hS hA rfl rfl rfl hl.1 rfl (Nat.le_of_ble_eq_true rfl) dX3_wouldWear_7 ⟨Nat.zero_le _, Nat.zero_le _⟩ (fun H locs hP hS _ _ => ?_)
  refine W.eq (g2 := F0 m9 10 ls [.int (zI (bI (0 ≤ p ∧ p ≤ (n : Int) - 1)))]) rfl ?_
  refine zr_if_eq (tgt := 21) hx hb dX3_wouldWear_10 (by decide) (bI_rg _) (fun c_1 => ?_) (fun c_1 => ?_)
  · have c_1 := bI_z c_1
    refine lv_aload_n hx hb dX3_wouldWear_21 rfl (lv_at hl 0 rfl) ?_
    refine zr_iconst hx hb dX3_wouldWear_22 ?_
    exfalso; omega
  · have c_1 := bI_n c_1
    refine lv_aload_n hx hb dX3_wouldWear_13 rfl (lv_at hl 0 rfl) ?_
    refine lv_iload_n hx hb dX3_wouldWear_14 rfl (lv_at hl 2 rfl) ?_
    refine zcallV (ci := 3) (q0 := 0) (cq := (RX3, TX3, 12)) (As := [.int (zI d)]) (rest := []) ⟨hx, hb, hml, hown, hts⟩ hK (kX3_isPerson l D cI cZ q hN pa sp al co da mo st mr 0 n td wn hn d (by omega)) (cwV 1 hts gX3_wouldWear_X3_isPerson rfl rfl rfl (by decide +kernel) ⟨Nat.le_of_ble_eq_true rfl, Nat.le_of_ble_eq_true rfl⟩) hP hS hA rfl rfl rfl hl.1 rfl (Nat.le_of_ble_eq_true rfl) dX3_wouldWear_15 ⟨Nat.zero_le _, Nat.zero_le _⟩ (fun H locs hP hS _ _ => ?_)
    refine W.eq (g2 := F0 m9 18 ls [.int (zI (bI (0 ≤ d ∧ d ≤ (n : Int) - 1)))]) rfl ?_
    refine zr_if_ne (tgt := 27) hx hb dX3_wouldWear_18 (by decide) (bI_rg _) (fun c_2 => ?_) (fun c_2 => ?_)
    · have c_2 := bI_n c_2
      refine lv_iload_n hx hb dX3_wouldWear_27 rfl (lv_at hl 1 rfl) ?_
      refine lv_iload_n hx hb dX3_wouldWear_28 rfl (lv_at hl 2 rfl) ?_
      refine zr_icmp_ne (tgt := 38) hx hb dX3_wouldWear_29 (by decide) ⟨by omega, by omega⟩ ⟨by omega, by omega⟩ (fun c_3 => ?_) (fun c_3 => ?_)
      · have c_3 := c_3
        refine lv_aload_n hx hb dX3_wouldWear_38 rfl (lv_at hl 0 rfl) ?_
        refine va_get (D := D) (ci := 3) (v := .ref (q 3)) (C := RX3) (T := TX3) (N := 12) hx hb hts hin3 hown hK hP 0 rfl rfl 4 (by decide) (hts (.fieldLink RX3 16 "MourningRibbonsModel" "isAlive" "[Z") (by decide +kernel)) (fun _ h9 => h9) rfl dX3_wouldWear_39 ?_
        refine lv_iload_n hx hb dX3_wouldWear_42 rfl (lv_at hl 1 rfl) ?_
        refine zr_zald (f := al) (n := 16) hx hb hK hP 3 1 rfl rfl (by decide) (i := p) (by omega) (by omega) dX3_wouldWear_43 ?_
        have b_4 := hal p
        refine zr_if_eq (tgt := 65) hx hb dX3_wouldWear_44 (by decide) ⟨by omega, by omega⟩ (fun c_5 => ?_) (fun c_5 => ?_)
        · have c_5 := c_5
          refine lv_aload_n hx hb dX3_wouldWear_65 rfl (lv_at hl 0 rfl) ?_
          refine zr_iconst hx hb dX3_wouldWear_66 ?_
          exfalso; omega
        · have c_5 := c_5
          refine lv_aload_n hx hb dX3_wouldWear_47 rfl (lv_at hl 0 rfl) ?_
          refine va_get (D := D) (ci := 3) (v := .ref (q 3)) (C := RX3) (T := TX3) (N := 12) hx hb hts hin3 hown hK hP 0 rfl rfl 4 (by decide) (hts (.fieldLink RX3 16 "MourningRibbonsModel" "isAlive" "[Z") (by decide +kernel)) (fun _ h9 => h9) rfl dX3_wouldWear_48 ?_
          refine lv_iload_n hx hb dX3_wouldWear_51 rfl (lv_at hl 2 rfl) ?_
          refine zr_zald (f := al) (n := 16) hx hb hK hP 3 1 rfl rfl (by decide) (i := d) (by omega) (by omega) dX3_wouldWear_52 ?_
          have b_6 := hal d
          refine zr_if_eq (tgt := 65) hx hb dX3_wouldWear_53 (by decide) ⟨by omega, by omega⟩ (fun c_7 => ?_) (fun c_7 => ?_)
          · have c_7 := c_7
            refine lv_aload_n hx hb dX3_wouldWear_65 rfl (lv_at hl 0 rfl) ?_
            refine zr_iconst hx hb dX3_wouldWear_66 ?_
            exfalso; omega
          · have c_7 := c_7
            refine lv_aload_n hx hb dX3_wouldWear_56 rfl (lv_at hl 0 rfl) ?_
            refine lv_iload_n hx hb dX3_wouldWear_57 rfl (lv_at hl 1 rfl) ?_
            refine lv_iload_n hx hb dX3_wouldWear_58 rfl (lv_at hl 2 rfl) ?_
            refine zcallV (ci := 3) (q0 := 0) (cq := (RX3, TX3, 12)) (As := [.int (zI p), .int (zI d)]) (rest := []) ⟨hx, hb, hml, hown, hts⟩ hK (kX3_worn_ l D cI cZ q hN pa sp al co da mo st mr 0 n td wn hpa hsp hal hco hda hmo hst hmr hn htd p d (by omega) (by omega)) (cwV 2 hts gX3_wouldWear_X3_worn_ rfl rfl rfl (by decide +kernel) ⟨Nat.le_of_ble_eq_true rfl, Nat.le_of_ble_eq_true rfl⟩) hP hS hA rfl rfl rfl hl.1 rfl (Nat.le_of_ble_eq_true rfl) dX3_wouldWear_59 ⟨Nat.zero_le _, Nat.zero_le _⟩ (fun H locs hP hS _ _ => ?_)
            refine W.eq (g2 := F0 m9 62 ls [.int (zI (wtM mo (lmM mr (goF pa sp n st d) al co da td p d) n p td))]) rfl ?_
            refine lv_goto (tgt := 70) hx hb dX3_wouldWear_62 (by decide) ?_
            rw [hQ0]
            exact zret_i hx hb hr hlocks (rfl) hP hS dX3_wouldWear_70
      · have c_3 := c_3
        refine lv_aload_n hx hb dX3_wouldWear_32 rfl (lv_at hl 0 rfl) ?_
        refine zr_iconst hx hb dX3_wouldWear_33 ?_
        exfalso; omega
    · have c_2 := bI_z c_2
      refine lv_aload_n hx hb dX3_wouldWear_21 rfl (lv_at hl 0 rfl) ?_
      refine zr_iconst hx hb dX3_wouldWear_22 ?_
      exfalso; omega
set_option maxHeartbeats 4000000 in
set_option maxRecDepth 100000 in
theorem kX3_wouldWeare1 (l : Launch) (D : va_G) (cI cZ : ClassId) (q : Nat → Nat) (hN : (zLM q).Nodup) (pa : Int → Int) (sp : Int → Int) (al : Int → Int) (co : Int → Int) (da : Int → Int) (mo : Int → Int) (st : Int → Int) (mr : Int → Int) (th : Int) (n : Nat) (td : Int) (wn : Int) (hn : n ≤ 16) (p : Int) (d : Int) (h8 : -2147483648 ≤ p ∧ p ≤ 2147483647) (h9 : -2147483648 ≤ d ∧ d ≤ 2147483647) (h1 : ¬ (0 ≤ p ∧ p < (n : Int)) ∨ ¬ (0 ≤ d ∧ d < (n : Int))) : zM l yX3_wouldWear wsX3_wouldWear ({ frames := 5, cells := 0, slots := 0, locals := 108 }) D [(cI, .int), (cZ, .boolean)] [.ref (q 0), .int (zI p), .int (zI d)] (wM cI cZ q pa sp al co da mo st mr th n td wn) (wM cI cZ q pa sp al co da mo st mr 1 n td wn) (some (.int (zI 0))) (zLM q) := by
  refine Met.ofW (cc := cX3_wouldWear) (maxL := 3) (ret := (some .int)) (by decide) rfl ?_
  intro p0 e9 s9 m9 ag9 below meth c9 s₁ B hml hv
  obtain ⟨hav, hP, hK⟩ := hv
  have hx := B.exec
  have hb := B.bytes
  have hr := B.returns
  have hts := atoms_spec (ws := wsX3_wouldWear) B.pre
  have hown : s9.vm.findClass RX3 = some m9.cls := findClass_of_methodNamed B.named
  have hlocks := B.notSynchronized
  have hA : ∀ a ∈ zLM q, (fun a => a ∈ zLM q) a := fun _ h => h
  have hin3 : ∀ w ∈ u_ws RX3 TX3 12, w ∈ wsX3_wouldWear := by decide +kernel
  have hl := lv_entry ([.ref (q 0), .int (zI p), .int (zI d)]) (n := 3) (Nat.le_of_ble_eq_true rfl)
  have hE : entryFrame m9 ag9 3 = F0 m9 0 ((lg_sl ([.ref (q 0), .int (zI p), .int (zI d)]) ++ List.replicate (3 - (lg_sl ([.ref (q 0), .int (zI p), .int (zI d)])).length) Slot.unset).toArray) [] := by rw [hav]; exact lg_entry_eq m9 _ _
  obtain ⟨Q0, hQ0⟩ : ∃ Q0, Q0 = MQ below (zQ D (wM cI cZ q pa sp al co da mo st mr 1 n td wn) (some (.int (zI 0))) (zLM q)) ag9 s9 0 0 (fun a => a ∈ zLM q) := ⟨_, rfl⟩
  show W p0 l e9 ({ frames := 5, cells := 0, slots := 0, locals := 108 }) s9 m9 ag9 below meth c9 s9.heap [] 0 0 (MQ below (zQ D (wM cI cZ q pa sp al co da mo st mr 1 n td wn) (some (.int (zI 0))) (zLM q)) ag9 s9 0 0 (fun a => a ∈ zLM q)) _
  rw [hE, ← hQ0]
  have hS : va_S (fun a => a ∈ zLM q) s9.heap s9.heap [] := va_S.rf
  generalize hH0 : s9.heap = H at hP ⊢
  have hS : va_S (fun a => a ∈ zLM q) s9.heap H [] := by rw [hH0] at hS ⊢; exact hS
  generalize (lg_sl ([.ref (q 0), .int (zI p), .int (zI d)]) ++ List.replicate (3 - (lg_sl ([.ref (q 0), .int (zI p), .int (zI d)])).length) Slot.unset).toArray = ls at hl ⊢
  have hl : lv_has ls 3 [(0, .ref (q 0)), (1, .int (zI p)), (2, .int (zI d))] := hl
  refine lv_aload_n hx hb dX3_wouldWear_0 rfl (lv_at hl 0 rfl) ?_
  refine zr_iconst hx hb dX3_wouldWear_1 ?_
  refine va_put (D := D) (ci := 3) (v := .int (zI 0)) (ty := .int) (C := RX3) (T := TX3) (N := 12) hx hb hts hin3 tyX3 tyX3_ok nmX3 hown hK hP (zD hN rfl hA) hS 0 rfl rfl 0 (by decide) (hts (.fieldLink RX3 35 "MourningRibbonsModel" "thrown" "I") (by decide +kernel)) (fun _ h9 => h9) rfl (by decide +kernel) rfl rfl (Nat.le_of_ble_eq_true rfl) dX3_wouldWear_2 (fun H locs hP _ hS => ?_)
  have hP : va_P D vwCl (wM cI cZ q pa sp al co da mo st mr 0 n td wn) H := hP
  refine lv_aload_n hx hb dX3_wouldWear_5 rfl (lv_at hl 0 rfl) ?_
  refine lv_iload_n hx hb dX3_wouldWear_6 rfl (lv_at hl 1 rfl) ?_
  refine zcallV (ci := 3) (q0 := 0) (cq := (RX3, TX3, 12)) (As := [.int (zI p)]) (rest := []) ⟨hx, hb, hml, hown, hts⟩ hK (kX3_isPerson l D cI cZ q hN pa sp al co da mo st mr 0 n td wn hn p (by omega)) (cwV 1 hts gX3_wouldWear_X3_isPerson rfl rfl rfl (by decide +kernel) ⟨Nat.le_of_ble_eq_true rfl, Nat.le_of_ble_eq_true rfl⟩) hP hS hA rfl rfl rfl hl.1 rfl (Nat.le_of_ble_eq_true rfl) dX3_wouldWear_7 ⟨Nat.zero_le _, Nat.zero_le _⟩ (fun H locs hP hS _ _ => ?_)
  refine W.eq (g2 := F0 m9 10 ls [.int (zI (bI (0 ≤ p ∧ p ≤ (n : Int) - 1)))]) rfl ?_
  refine zr_if_eq (tgt := 21) hx hb dX3_wouldWear_10 (by decide) (bI_rg _) (fun c_1 => ?_) (fun c_1 => ?_)
  · have c_1 := bI_z c_1
    refine lv_aload_n hx hb dX3_wouldWear_21 rfl (lv_at hl 0 rfl) ?_
    refine zr_iconst hx hb dX3_wouldWear_22 ?_
    refine zcallV (ci := 3) (q0 := 0) (cq := (RX3, TX3, 12)) (As := [.int (zI 1)]) (rest := []) ⟨hx, hb, hml, hown, hts⟩ hK (kX3_no l D cI cZ q hN pa sp al co da mo st mr 0 n td wn 1) (cwV 1 hts gX3_wouldWear_X3_no rfl rfl rfl (by decide +kernel) ⟨Nat.le_of_ble_eq_true rfl, Nat.le_of_ble_eq_true rfl⟩) hP hS hA rfl rfl rfl hl.1 rfl (Nat.le_of_ble_eq_true rfl) dX3_wouldWear_23 ⟨Nat.zero_le _, Nat.zero_le _⟩ (fun H locs hP hS _ _ => ?_)
    refine W.eq (g2 := F0 m9 26 ls [.int (zI 0)]) rfl ?_
    rw [hQ0]
    exact zret_i hx hb hr hlocks (rfl) hP hS dX3_wouldWear_26
  · have c_1 := bI_n c_1
    refine lv_aload_n hx hb dX3_wouldWear_13 rfl (lv_at hl 0 rfl) ?_
    refine lv_iload_n hx hb dX3_wouldWear_14 rfl (lv_at hl 2 rfl) ?_
    refine zcallV (ci := 3) (q0 := 0) (cq := (RX3, TX3, 12)) (As := [.int (zI d)]) (rest := []) ⟨hx, hb, hml, hown, hts⟩ hK (kX3_isPerson l D cI cZ q hN pa sp al co da mo st mr 0 n td wn hn d (by omega)) (cwV 1 hts gX3_wouldWear_X3_isPerson rfl rfl rfl (by decide +kernel) ⟨Nat.le_of_ble_eq_true rfl, Nat.le_of_ble_eq_true rfl⟩) hP hS hA rfl rfl rfl hl.1 rfl (Nat.le_of_ble_eq_true rfl) dX3_wouldWear_15 ⟨Nat.zero_le _, Nat.zero_le _⟩ (fun H locs hP hS _ _ => ?_)
    refine W.eq (g2 := F0 m9 18 ls [.int (zI (bI (0 ≤ d ∧ d ≤ (n : Int) - 1)))]) rfl ?_
    refine zr_if_ne (tgt := 27) hx hb dX3_wouldWear_18 (by decide) (bI_rg _) (fun c_2 => ?_) (fun c_2 => ?_)
    · have c_2 := bI_n c_2
      exfalso; omega
    · have c_2 := bI_z c_2
      refine lv_aload_n hx hb dX3_wouldWear_21 rfl (lv_at hl 0 rfl) ?_
      refine zr_iconst hx hb dX3_wouldWear_22 ?_
      refine zcallV (ci := 3) (q0 := 0) (cq := (RX3, TX3, 12)) (As := [.int (zI 1)]) (rest := []) ⟨hx, hb, hml, hown, hts⟩ hK (kX3_no l D cI cZ q hN pa sp al co da mo st mr 0 n td wn 1) (cwV 1 hts gX3_wouldWear_X3_no rfl rfl rfl (by decide +kernel) ⟨Nat.le_of_ble_eq_true rfl, Nat.le_of_ble_eq_true rfl⟩) hP hS hA rfl rfl rfl hl.1 rfl (Nat.le_of_ble_eq_true rfl) dX3_wouldWear_23 ⟨Nat.zero_le _, Nat.zero_le _⟩ (fun H locs hP hS _ _ => ?_)
      refine W.eq (g2 := F0 m9 26 ls [.int (zI 0)]) rfl ?_
      rw [hQ0]
      exact zret_i hx hb hr hlocks (rfl) hP hS dX3_wouldWear_26
set_option maxHeartbeats 4000000 in
set_option maxRecDepth 100000 in
theorem kX3_wouldWeare2 (l : Launch) (D : va_G) (cI cZ : ClassId) (q : Nat → Nat) (hN : (zLM q).Nodup) (pa : Int → Int) (sp : Int → Int) (al : Int → Int) (co : Int → Int) (da : Int → Int) (mo : Int → Int) (st : Int → Int) (mr : Int → Int) (th : Int) (n : Nat) (td : Int) (wn : Int) (hn : n ≤ 16) (p : Int) (d : Int) (h8 : -2147483648 ≤ p ∧ p ≤ 2147483647) (h9 : -2147483648 ≤ d ∧ d ≤ 2147483647) (h1 : 0 ≤ p ∧ p < (n : Int)) (h2 : 0 ≤ d ∧ d < (n : Int)) (h3 : p = d) : zM l yX3_wouldWear wsX3_wouldWear ({ frames := 5, cells := 0, slots := 0, locals := 108 }) D [(cI, .int), (cZ, .boolean)] [.ref (q 0), .int (zI p), .int (zI d)] (wM cI cZ q pa sp al co da mo st mr th n td wn) (wM cI cZ q pa sp al co da mo st mr 2 n td wn) (some (.int (zI 0))) (zLM q) := by
  refine Met.ofW (cc := cX3_wouldWear) (maxL := 3) (ret := (some .int)) (by decide) rfl ?_
  intro p0 e9 s9 m9 ag9 below meth c9 s₁ B hml hv
  obtain ⟨hav, hP, hK⟩ := hv
  have hx := B.exec
  have hb := B.bytes
  have hr := B.returns
  have hts := atoms_spec (ws := wsX3_wouldWear) B.pre
  have hown : s9.vm.findClass RX3 = some m9.cls := findClass_of_methodNamed B.named
  have hlocks := B.notSynchronized
  have hA : ∀ a ∈ zLM q, (fun a => a ∈ zLM q) a := fun _ h => h
  have hin3 : ∀ w ∈ u_ws RX3 TX3 12, w ∈ wsX3_wouldWear := by decide +kernel
  have hl := lv_entry ([.ref (q 0), .int (zI p), .int (zI d)]) (n := 3) (Nat.le_of_ble_eq_true rfl)
  have hE : entryFrame m9 ag9 3 = F0 m9 0 ((lg_sl ([.ref (q 0), .int (zI p), .int (zI d)]) ++ List.replicate (3 - (lg_sl ([.ref (q 0), .int (zI p), .int (zI d)])).length) Slot.unset).toArray) [] := by rw [hav]; exact lg_entry_eq m9 _ _
  obtain ⟨Q0, hQ0⟩ : ∃ Q0, Q0 = MQ below (zQ D (wM cI cZ q pa sp al co da mo st mr 2 n td wn) (some (.int (zI 0))) (zLM q)) ag9 s9 0 0 (fun a => a ∈ zLM q) := ⟨_, rfl⟩
  show W p0 l e9 ({ frames := 5, cells := 0, slots := 0, locals := 108 }) s9 m9 ag9 below meth c9 s9.heap [] 0 0 (MQ below (zQ D (wM cI cZ q pa sp al co da mo st mr 2 n td wn) (some (.int (zI 0))) (zLM q)) ag9 s9 0 0 (fun a => a ∈ zLM q)) _
  rw [hE, ← hQ0]
  have hS : va_S (fun a => a ∈ zLM q) s9.heap s9.heap [] := va_S.rf
  generalize hH0 : s9.heap = H at hP ⊢
  have hS : va_S (fun a => a ∈ zLM q) s9.heap H [] := by rw [hH0] at hS ⊢; exact hS
  generalize (lg_sl ([.ref (q 0), .int (zI p), .int (zI d)]) ++ List.replicate (3 - (lg_sl ([.ref (q 0), .int (zI p), .int (zI d)])).length) Slot.unset).toArray = ls at hl ⊢
  have hl : lv_has ls 3 [(0, .ref (q 0)), (1, .int (zI p)), (2, .int (zI d))] := hl
  refine lv_aload_n hx hb dX3_wouldWear_0 rfl (lv_at hl 0 rfl) ?_
  refine zr_iconst hx hb dX3_wouldWear_1 ?_
  refine va_put (D := D) (ci := 3) (v := .int (zI 0)) (ty := .int) (C := RX3) (T := TX3) (N := 12) hx hb hts hin3 tyX3 tyX3_ok nmX3 hown hK hP (zD hN rfl hA) hS 0 rfl rfl 0 (by decide) (hts (.fieldLink RX3 35 "MourningRibbonsModel" "thrown" "I") (by decide +kernel)) (fun _ h9 => h9) rfl (by decide +kernel) rfl rfl (Nat.le_of_ble_eq_true rfl) dX3_wouldWear_2 (fun H locs hP _ hS => ?_)
  have hP : va_P D vwCl (wM cI cZ q pa sp al co da mo st mr 0 n td wn) H := hP
  refine lv_aload_n hx hb dX3_wouldWear_5 rfl (lv_at hl 0 rfl) ?_
  refine lv_iload_n hx hb dX3_wouldWear_6 rfl (lv_at hl 1 rfl) ?_
  refine zcallV (ci := 3) (q0 := 0) (cq := (RX3, TX3, 12)) (As := [.int (zI p)]) (rest := []) ⟨hx, hb, hml, hown, hts⟩ hK (kX3_isPerson l D cI cZ q hN pa sp al co da mo st mr 0 n td wn hn p (by omega)) (cwV 1 hts gX3_wouldWear_X3_isPerson rfl rfl rfl (by decide +kernel) ⟨Nat.le_of_ble_eq_true rfl, Nat.le_of_ble_eq_true rfl⟩) hP hS hA rfl rfl rfl hl.1 rfl (Nat.le_of_ble_eq_true rfl) dX3_wouldWear_7 ⟨Nat.zero_le _, Nat.zero_le _⟩ (fun H locs hP hS _ _ => ?_)
  refine W.eq (g2 := F0 m9 10 ls [.int (zI (bI (0 ≤ p ∧ p ≤ (n : Int) - 1)))]) rfl ?_
  refine zr_if_eq (tgt := 21) hx hb dX3_wouldWear_10 (by decide) (bI_rg _) (fun c_1 => ?_) (fun c_1 => ?_)
  · have c_1 := bI_z c_1
    refine lv_aload_n hx hb dX3_wouldWear_21 rfl (lv_at hl 0 rfl) ?_
    refine zr_iconst hx hb dX3_wouldWear_22 ?_
    exfalso; omega
  · have c_1 := bI_n c_1
    refine lv_aload_n hx hb dX3_wouldWear_13 rfl (lv_at hl 0 rfl) ?_
    refine lv_iload_n hx hb dX3_wouldWear_14 rfl (lv_at hl 2 rfl) ?_
    refine zcallV (ci := 3) (q0 := 0) (cq := (RX3, TX3, 12)) (As := [.int (zI d)]) (rest := []) ⟨hx, hb, hml, hown, hts⟩ hK (kX3_isPerson l D cI cZ q hN pa sp al co da mo st mr 0 n td wn hn d (by omega)) (cwV 1 hts gX3_wouldWear_X3_isPerson rfl rfl rfl (by decide +kernel) ⟨Nat.le_of_ble_eq_true rfl, Nat.le_of_ble_eq_true rfl⟩) hP hS hA rfl rfl rfl hl.1 rfl (Nat.le_of_ble_eq_true rfl) dX3_wouldWear_15 ⟨Nat.zero_le _, Nat.zero_le _⟩ (fun H locs hP hS _ _ => ?_)
    refine W.eq (g2 := F0 m9 18 ls [.int (zI (bI (0 ≤ d ∧ d ≤ (n : Int) - 1)))]) rfl ?_
    refine zr_if_ne (tgt := 27) hx hb dX3_wouldWear_18 (by decide) (bI_rg _) (fun c_2 => ?_) (fun c_2 => ?_)
    · have c_2 := bI_n c_2
      refine lv_iload_n hx hb dX3_wouldWear_27 rfl (lv_at hl 1 rfl) ?_
      refine lv_iload_n hx hb dX3_wouldWear_28 rfl (lv_at hl 2 rfl) ?_
      refine zr_icmp_ne (tgt := 38) hx hb dX3_wouldWear_29 (by decide) ⟨by omega, by omega⟩ ⟨by omega, by omega⟩ (fun c_3 => ?_) (fun c_3 => ?_)
      · have c_3 := c_3
        exfalso; omega
      · have c_3 := c_3
        refine lv_aload_n hx hb dX3_wouldWear_32 rfl (lv_at hl 0 rfl) ?_
        refine zr_iconst hx hb dX3_wouldWear_33 ?_
        refine zcallV (ci := 3) (q0 := 0) (cq := (RX3, TX3, 12)) (As := [.int (zI 2)]) (rest := []) ⟨hx, hb, hml, hown, hts⟩ hK (kX3_no l D cI cZ q hN pa sp al co da mo st mr 0 n td wn 2) (cwV 1 hts gX3_wouldWear_X3_no rfl rfl rfl (by decide +kernel) ⟨Nat.le_of_ble_eq_true rfl, Nat.le_of_ble_eq_true rfl⟩) hP hS hA rfl rfl rfl hl.1 rfl (Nat.le_of_ble_eq_true rfl) dX3_wouldWear_34 ⟨Nat.zero_le _, Nat.zero_le _⟩ (fun H locs hP hS _ _ => ?_)
        refine W.eq (g2 := F0 m9 37 ls [.int (zI 0)]) rfl ?_
        rw [hQ0]
        exact zret_i hx hb hr hlocks (rfl) hP hS dX3_wouldWear_37
    · have c_2 := bI_z c_2
      refine lv_aload_n hx hb dX3_wouldWear_21 rfl (lv_at hl 0 rfl) ?_
      refine zr_iconst hx hb dX3_wouldWear_22 ?_
      exfalso; omega
set_option maxHeartbeats 4000000 in
set_option maxRecDepth 100000 in
theorem kX3_wouldWeare3 (l : Launch) (D : va_G) (cI cZ : ClassId) (q : Nat → Nat) (hN : (zLM q).Nodup) (pa : Int → Int) (sp : Int → Int) (al : Int → Int) (co : Int → Int) (da : Int → Int) (mo : Int → Int) (st : Int → Int) (mr : Int → Int) (th : Int) (n : Nat) (td : Int) (wn : Int) (hn : n ≤ 16) (hal : ∀ j : Int, 0 ≤ al j ∧ al j ≤ 1) (p : Int) (d : Int) (h8 : -2147483648 ≤ p ∧ p ≤ 2147483647) (h9 : -2147483648 ≤ d ∧ d ≤ 2147483647) (h1 : 0 ≤ p ∧ p < (n : Int)) (h2 : 0 ≤ d ∧ d < (n : Int)) (h3 : p ≠ d) (h4 : al p = 0 ∨ al d = 0) : zM l yX3_wouldWear wsX3_wouldWear ({ frames := 5, cells := 0, slots := 0, locals := 108 }) D [(cI, .int), (cZ, .boolean)] [.ref (q 0), .int (zI p), .int (zI d)] (wM cI cZ q pa sp al co da mo st mr th n td wn) (wM cI cZ q pa sp al co da mo st mr 3 n td wn) (some (.int (zI 0))) (zLM q) := by
  refine Met.ofW (cc := cX3_wouldWear) (maxL := 3) (ret := (some .int)) (by decide) rfl ?_
  intro p0 e9 s9 m9 ag9 below meth c9 s₁ B hml hv
  obtain ⟨hav, hP, hK⟩ := hv
  have hx := B.exec
  have hb := B.bytes
  have hr := B.returns
  have hts := atoms_spec (ws := wsX3_wouldWear) B.pre
  have hown : s9.vm.findClass RX3 = some m9.cls := findClass_of_methodNamed B.named
  have hlocks := B.notSynchronized
  have hA : ∀ a ∈ zLM q, (fun a => a ∈ zLM q) a := fun _ h => h
  have hin3 : ∀ w ∈ u_ws RX3 TX3 12, w ∈ wsX3_wouldWear := by decide +kernel
  have hl := lv_entry ([.ref (q 0), .int (zI p), .int (zI d)]) (n := 3) (Nat.le_of_ble_eq_true rfl)
  have hE : entryFrame m9 ag9 3 = F0 m9 0 ((lg_sl ([.ref (q 0), .int (zI p), .int (zI d)]) ++ List.replicate (3 - (lg_sl ([.ref (q 0), .int (zI p), .int (zI d)])).length) Slot.unset).toArray) [] := by rw [hav]; exact lg_entry_eq m9 _ _
  obtain ⟨Q0, hQ0⟩ : ∃ Q0, Q0 = MQ below (zQ D (wM cI cZ q pa sp al co da mo st mr 3 n td wn) (some (.int (zI 0))) (zLM q)) ag9 s9 0 0 (fun a => a ∈ zLM q) := ⟨_, rfl⟩
  show W p0 l e9 ({ frames := 5, cells := 0, slots := 0, locals := 108 }) s9 m9 ag9 below meth c9 s9.heap [] 0 0 (MQ below (zQ D (wM cI cZ q pa sp al co da mo st mr 3 n td wn) (some (.int (zI 0))) (zLM q)) ag9 s9 0 0 (fun a => a ∈ zLM q)) _
  rw [hE, ← hQ0]
  have hS : va_S (fun a => a ∈ zLM q) s9.heap s9.heap [] := va_S.rf
  generalize hH0 : s9.heap = H at hP ⊢
  have hS : va_S (fun a => a ∈ zLM q) s9.heap H [] := by rw [hH0] at hS ⊢; exact hS
  generalize (lg_sl ([.ref (q 0), .int (zI p), .int (zI d)]) ++ List.replicate (3 - (lg_sl ([.ref (q 0), .int (zI p), .int (zI d)])).length) Slot.unset).toArray = ls at hl ⊢
  have hl : lv_has ls 3 [(0, .ref (q 0)), (1, .int (zI p)), (2, .int (zI d))] := hl
  refine lv_aload_n hx hb dX3_wouldWear_0 rfl (lv_at hl 0 rfl) ?_
  refine zr_iconst hx hb dX3_wouldWear_1 ?_
  refine va_put (D := D) (ci := 3) (v := .int (zI 0)) (ty := .int) (C := RX3) (T := TX3) (N := 12) hx hb hts hin3 tyX3 tyX3_ok nmX3 hown hK hP (zD hN rfl hA) hS 0 rfl rfl 0 (by decide) (hts (.fieldLink RX3 35 "MourningRibbonsModel" "thrown" "I") (by decide +kernel)) (fun _ h9 => h9) rfl (by decide +kernel) rfl rfl (Nat.le_of_ble_eq_true rfl) dX3_wouldWear_2 (fun H locs hP _ hS => ?_)
  have hP : va_P D vwCl (wM cI cZ q pa sp al co da mo st mr 0 n td wn) H := hP
  refine lv_aload_n hx hb dX3_wouldWear_5 rfl (lv_at hl 0 rfl) ?_
  refine lv_iload_n hx hb dX3_wouldWear_6 rfl (lv_at hl 1 rfl) ?_
  refine zcallV (ci := 3) (q0 := 0) (cq := (RX3, TX3, 12)) (As := [.int (zI p)]) (rest := []) ⟨hx, hb, hml, hown, hts⟩ hK (kX3_isPerson l D cI cZ q hN pa sp al co da mo st mr 0 n td wn hn p (by omega)) (cwV 1 hts gX3_wouldWear_X3_isPerson rfl rfl rfl (by decide +kernel) ⟨Nat.le_of_ble_eq_true rfl, Nat.le_of_ble_eq_true rfl⟩) hP hS hA rfl rfl rfl hl.1 rfl (Nat.le_of_ble_eq_true rfl) dX3_wouldWear_7 ⟨Nat.zero_le _, Nat.zero_le _⟩ (fun H locs hP hS _ _ => ?_)
  refine W.eq (g2 := F0 m9 10 ls [.int (zI (bI (0 ≤ p ∧ p ≤ (n : Int) - 1)))]) rfl ?_
  refine zr_if_eq (tgt := 21) hx hb dX3_wouldWear_10 (by decide) (bI_rg _) (fun c_1 => ?_) (fun c_1 => ?_)
  · have c_1 := bI_z c_1
    refine lv_aload_n hx hb dX3_wouldWear_21 rfl (lv_at hl 0 rfl) ?_
    refine zr_iconst hx hb dX3_wouldWear_22 ?_
    exfalso; omega
  · have c_1 := bI_n c_1
    refine lv_aload_n hx hb dX3_wouldWear_13 rfl (lv_at hl 0 rfl) ?_
    refine lv_iload_n hx hb dX3_wouldWear_14 rfl (lv_at hl 2 rfl) ?_
    refine zcallV (ci := 3) (q0 := 0) (cq := (RX3, TX3, 12)) (As := [.int (zI d)]) (rest := []) ⟨hx, hb, hml, hown, hts⟩ hK (kX3_isPerson l D cI cZ q hN pa sp al co da mo st mr 0 n td wn hn d (by omega)) (cwV 1 hts gX3_wouldWear_X3_isPerson rfl rfl rfl (by decide +kernel) ⟨Nat.le_of_ble_eq_true rfl, Nat.le_of_ble_eq_true rfl⟩) hP hS hA rfl rfl rfl hl.1 rfl (Nat.le_of_ble_eq_true rfl) dX3_wouldWear_15 ⟨Nat.zero_le _, Nat.zero_le _⟩ (fun H locs hP hS _ _ => ?_)
    refine W.eq (g2 := F0 m9 18 ls [.int (zI (bI (0 ≤ d ∧ d ≤ (n : Int) - 1)))]) rfl ?_
    refine zr_if_ne (tgt := 27) hx hb dX3_wouldWear_18 (by decide) (bI_rg _) (fun c_2 => ?_) (fun c_2 => ?_)
    · have c_2 := bI_n c_2
      refine lv_iload_n hx hb dX3_wouldWear_27 rfl (lv_at hl 1 rfl) ?_
      refine lv_iload_n hx hb dX3_wouldWear_28 rfl (lv_at hl 2 rfl) ?_
      refine zr_icmp_ne (tgt := 38) hx hb dX3_wouldWear_29 (by decide) ⟨by omega, by omega⟩ ⟨by omega, by omega⟩ (fun c_3 => ?_) (fun c_3 => ?_)
      · have c_3 := c_3
        refine lv_aload_n hx hb dX3_wouldWear_38 rfl (lv_at hl 0 rfl) ?_
        refine va_get (D := D) (ci := 3) (v := .ref (q 3)) (C := RX3) (T := TX3) (N := 12) hx hb hts hin3 hown hK hP 0 rfl rfl 4 (by decide) (hts (.fieldLink RX3 16 "MourningRibbonsModel" "isAlive" "[Z") (by decide +kernel)) (fun _ h9 => h9) rfl dX3_wouldWear_39 ?_
        refine lv_iload_n hx hb dX3_wouldWear_42 rfl (lv_at hl 1 rfl) ?_
        refine zr_zald (f := al) (n := 16) hx hb hK hP 3 1 rfl rfl (by decide) (i := p) (by omega) (by omega) dX3_wouldWear_43 ?_
        have b_4 := hal p
        refine zr_if_eq (tgt := 65) hx hb dX3_wouldWear_44 (by decide) ⟨by omega, by omega⟩ (fun c_5 => ?_) (fun c_5 => ?_)
        · have c_5 := c_5
          refine lv_aload_n hx hb dX3_wouldWear_65 rfl (lv_at hl 0 rfl) ?_
          refine zr_iconst hx hb dX3_wouldWear_66 ?_
          refine zcallV (ci := 3) (q0 := 0) (cq := (RX3, TX3, 12)) (As := [.int (zI 3)]) (rest := []) ⟨hx, hb, hml, hown, hts⟩ hK (kX3_no l D cI cZ q hN pa sp al co da mo st mr 0 n td wn 3) (cwV 1 hts gX3_wouldWear_X3_no rfl rfl rfl (by decide +kernel) ⟨Nat.le_of_ble_eq_true rfl, Nat.le_of_ble_eq_true rfl⟩) hP hS hA rfl rfl rfl hl.1 rfl (Nat.le_of_ble_eq_true rfl) dX3_wouldWear_67 ⟨Nat.zero_le _, Nat.zero_le _⟩ (fun H locs hP hS _ _ => ?_)
          refine W.eq (g2 := F0 m9 70 ls [.int (zI 0)]) rfl ?_
          rw [hQ0]
          exact zret_i hx hb hr hlocks (rfl) hP hS dX3_wouldWear_70
        · have c_5 := c_5
          refine lv_aload_n hx hb dX3_wouldWear_47 rfl (lv_at hl 0 rfl) ?_
          refine va_get (D := D) (ci := 3) (v := .ref (q 3)) (C := RX3) (T := TX3) (N := 12) hx hb hts hin3 hown hK hP 0 rfl rfl 4 (by decide) (hts (.fieldLink RX3 16 "MourningRibbonsModel" "isAlive" "[Z") (by decide +kernel)) (fun _ h9 => h9) rfl dX3_wouldWear_48 ?_
          refine lv_iload_n hx hb dX3_wouldWear_51 rfl (lv_at hl 2 rfl) ?_
          refine zr_zald (f := al) (n := 16) hx hb hK hP 3 1 rfl rfl (by decide) (i := d) (by omega) (by omega) dX3_wouldWear_52 ?_
          have b_6 := hal d
          refine zr_if_eq (tgt := 65) hx hb dX3_wouldWear_53 (by decide) ⟨by omega, by omega⟩ (fun c_7 => ?_) (fun c_7 => ?_)
          · have c_7 := c_7
            refine lv_aload_n hx hb dX3_wouldWear_65 rfl (lv_at hl 0 rfl) ?_
            refine zr_iconst hx hb dX3_wouldWear_66 ?_
            refine zcallV (ci := 3) (q0 := 0) (cq := (RX3, TX3, 12)) (As := [.int (zI 3)]) (rest := []) ⟨hx, hb, hml, hown, hts⟩ hK (kX3_no l D cI cZ q hN pa sp al co da mo st mr 0 n td wn 3) (cwV 1 hts gX3_wouldWear_X3_no rfl rfl rfl (by decide +kernel) ⟨Nat.le_of_ble_eq_true rfl, Nat.le_of_ble_eq_true rfl⟩) hP hS hA rfl rfl rfl hl.1 rfl (Nat.le_of_ble_eq_true rfl) dX3_wouldWear_67 ⟨Nat.zero_le _, Nat.zero_le _⟩ (fun H locs hP hS _ _ => ?_)
            refine W.eq (g2 := F0 m9 70 ls [.int (zI 0)]) rfl ?_
            rw [hQ0]
            exact zret_i hx hb hr hlocks (rfl) hP hS dX3_wouldWear_70
          · have c_7 := c_7
            refine lv_aload_n hx hb dX3_wouldWear_56 rfl (lv_at hl 0 rfl) ?_
            refine lv_iload_n hx hb dX3_wouldWear_57 rfl (lv_at hl 1 rfl) ?_
            refine lv_iload_n hx hb dX3_wouldWear_58 rfl (lv_at hl 2 rfl) ?_
            exfalso; omega
      · have c_3 := c_3
        refine lv_aload_n hx hb dX3_wouldWear_32 rfl (lv_at hl 0 rfl) ?_
        refine zr_iconst hx hb dX3_wouldWear_33 ?_
        exfalso; omega
    · have c_2 := bI_z c_2
      refine lv_aload_n hx hb dX3_wouldWear_21 rfl (lv_at hl 0 rfl) ?_
      refine zr_iconst hx hb dX3_wouldWear_22 ?_
      exfalso; omega
