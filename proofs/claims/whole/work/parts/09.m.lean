set_option maxHeartbeats 4000000 in
set_option maxRecDepth 100000 in
theorem kX3_thrown (l : Launch) (D : va_G) (cI cZ : ClassId) (q : Nat → Nat) (hN : (zLM q).Nodup) (pa : Int → Int) (sp : Int → Int) (al : Int → Int) (co : Int → Int) (da : Int → Int) (mo : Int → Int) (st : Int → Int) (mr : Int → Int) (th : Int) (n : Nat) (td : Int) (wn : Int) : zM l yX3_thrown wsX3_thrown ({ frames := 0, cells := 0, slots := 0, locals := 0 }) D [(cI, .int), (cZ, .boolean)] [.ref (q 0)] (wM cI cZ q pa sp al co da mo st mr th n td wn) (wM cI cZ q pa sp al co da mo st mr th n td wn) (some (.int (zI th))) (zLM q) := by
  refine Met.ofW (cc := cX3_thrown) (maxL := 1) (ret := (some .int)) (by decide) rfl ?_
  intro p0 e9 s9 m9 ag9 below meth c9 s₁ B hml hv
  obtain ⟨hav, hP, hK⟩ := hv
  have hx := B.exec
  have hb := B.bytes
  have hr := B.returns
  have hts := atoms_spec (ws := wsX3_thrown) B.pre
  have hown : s9.vm.findClass RX3 = some m9.cls := findClass_of_methodNamed B.named
  have hlocks := B.notSynchronized
  have hA : ∀ a ∈ zLM q, (fun a => a ∈ zLM q) a := fun _ h => h
  have hin3 : ∀ w ∈ u_ws RX3 TX3 12, w ∈ wsX3_thrown := by decide +kernel
  have hl := lv_entry ([.ref (q 0)]) (n := 1) (Nat.le_of_ble_eq_true rfl)
  have hE : entryFrame m9 ag9 1 = F0 m9 0 ((lg_sl ([.ref (q 0)]) ++ List.replicate (1 - (lg_sl ([.ref (q 0)])).length) Slot.unset).toArray) [] := by rw [hav]; exact lg_entry_eq m9 _ _
  obtain ⟨Q0, hQ0⟩ : ∃ Q0, Q0 = MQ below (zQ D (wM cI cZ q pa sp al co da mo st mr th n td wn) (some (.int (zI th))) (zLM q)) ag9 s9 0 0 (fun a => a ∈ zLM q) := ⟨_, rfl⟩
  show W p0 l e9 ({ frames := 0, cells := 0, slots := 0, locals := 0 }) s9 m9 ag9 below meth c9 s9.heap [] 0 0 (MQ below (zQ D (wM cI cZ q pa sp al co da mo st mr th n td wn) (some (.int (zI th))) (zLM q)) ag9 s9 0 0 (fun a => a ∈ zLM q)) _
  rw [hE, ← hQ0]
  have hS : va_S (fun a => a ∈ zLM q) s9.heap s9.heap [] := va_S.rf
  generalize hH0 : s9.heap = H at hP ⊢
  have hS : va_S (fun a => a ∈ zLM q) s9.heap H [] := by rw [hH0] at hS ⊢; exact hS
  generalize (lg_sl ([.ref (q 0)]) ++ List.replicate (1 - (lg_sl ([.ref (q 0)])).length) Slot.unset).toArray = ls at hl ⊢
  have hl : lv_has ls 1 [(0, .ref (q 0))] := hl
  refine lv_aload_n hx hb dX3_thrown_0 rfl (lv_at hl 0 rfl) ?_
  refine va_get (D := D) (ci := 3) (v := .int (zI th)) (C := RX3) (T := TX3) (N := 12) hx hb hts hin3 hown hK hP 0 rfl rfl 0 (by decide) (hts (.fieldLink RX3 35 "MourningRibbonsModel" "thrown" "I") (by decide +kernel)) (fun _ h9 => h9) rfl dX3_thrown_1 ?_
  rw [hQ0]
  exact zret_i hx hb hr hlocks (rfl) hP hS dX3_thrown_4
set_option maxHeartbeats 4000000 in
set_option maxRecDepth 100000 in
theorem kX3_no (l : Launch) (D : va_G) (cI cZ : ClassId) (q : Nat → Nat) (hN : (zLM q).Nodup) (pa : Int → Int) (sp : Int → Int) (al : Int → Int) (co : Int → Int) (da : Int → Int) (mo : Int → Int) (st : Int → Int) (mr : Int → Int) (th : Int) (n : Nat) (td : Int) (wn : Int) (k : Int) : zM l yX3_no wsX3_no ({ frames := 0, cells := 0, slots := 0, locals := 0 }) D [(cI, .int), (cZ, .boolean)] [.ref (q 0), .int (zI k)] (wM cI cZ q pa sp al co da mo st mr th n td wn) (wM cI cZ q pa sp al co da mo st mr k n td wn) (some (.int (zI 0))) (zLM q) := by
  refine Met.ofW (cc := cX3_no) (maxL := 2) (ret := (some .int)) (by decide) rfl ?_
  intro p0 e9 s9 m9 ag9 below meth c9 s₁ B hml hv
  obtain ⟨hav, hP, hK⟩ := hv
  have hx := B.exec
  have hb := B.bytes
  have hr := B.returns
  have hts := atoms_spec (ws := wsX3_no) B.pre
  have hown : s9.vm.findClass RX3 = some m9.cls := findClass_of_methodNamed B.named
  have hlocks := B.notSynchronized
  have hA : ∀ a ∈ zLM q, (fun a => a ∈ zLM q) a := fun _ h => h
  have hin3 : ∀ w ∈ u_ws RX3 TX3 12, w ∈ wsX3_no := by decide +kernel
  have hl := lv_entry ([.ref (q 0), .int (zI k)]) (n := 2) (Nat.le_of_ble_eq_true rfl)
  have hE : entryFrame m9 ag9 2 = F0 m9 0 ((lg_sl ([.ref (q 0), .int (zI k)]) ++ List.replicate (2 - (lg_sl ([.ref (q 0), .int (zI k)])).length) Slot.unset).toArray) [] := by rw [hav]; exact lg_entry_eq m9 _ _
  obtain ⟨Q0, hQ0⟩ : ∃ Q0, Q0 = MQ below (zQ D (wM cI cZ q pa sp al co da mo st mr k n td wn) (some (.int (zI 0))) (zLM q)) ag9 s9 0 0 (fun a => a ∈ zLM q) := ⟨_, rfl⟩
  show W p0 l e9 ({ frames := 0, cells := 0, slots := 0, locals := 0 }) s9 m9 ag9 below meth c9 s9.heap [] 0 0 (MQ below (zQ D (wM cI cZ q pa sp al co da mo st mr k n td wn) (some (.int (zI 0))) (zLM q)) ag9 s9 0 0 (fun a => a ∈ zLM q)) _
  rw [hE, ← hQ0]
  have hS : va_S (fun a => a ∈ zLM q) s9.heap s9.heap [] := va_S.rf
  generalize hH0 : s9.heap = H at hP ⊢
  have hS : va_S (fun a => a ∈ zLM q) s9.heap H [] := by rw [hH0] at hS ⊢; exact hS
  generalize (lg_sl ([.ref (q 0), .int (zI k)]) ++ List.replicate (2 - (lg_sl ([.ref (q 0), .int (zI k)])).length) Slot.unset).toArray = ls at hl ⊢
  have hl : lv_has ls 2 [(0, .ref (q 0)), (1, .int (zI k))] := hl
  refine lv_aload_n hx hb dX3_no_0 rfl (lv_at hl 0 rfl) ?_
  refine lv_iload_n hx hb dX3_no_1 rfl (lv_at hl 1 rfl) ?_
  refine va_put (D := D) (ci := 3) (v := .int (zI k)) (ty := .int) (C := RX3) (T := TX3) (N := 12) hx hb hts hin3 tyX3 tyX3_ok nmX3 hown hK hP (zD hN rfl hA) hS 0 rfl rfl 0 (by decide) (hts (.fieldLink RX3 35 "MourningRibbonsModel" "thrown" "I") (by decide +kernel)) (fun _ h9 => h9) rfl (by decide +kernel) rfl rfl (Nat.le_of_ble_eq_true rfl) dX3_no_2 (fun H locs hP _ hS => ?_)
  have hP : va_P D vwCl (wM cI cZ q pa sp al co da mo st mr k n td wn) H := hP
  refine zr_iconst hx hb dX3_no_5 ?_
  rw [hQ0]
  exact zret_i hx hb hr hlocks (rfl) hP hS dX3_no_6
set_option maxHeartbeats 4000000 in
set_option maxRecDepth 100000 in
theorem kX3_isNot (l : Launch) (D : va_G) (cI cZ : ClassId) (q : Nat → Nat) (hN : (zLM q).Nodup) (pa : Int → Int) (sp : Int → Int) (al : Int → Int) (co : Int → Int) (da : Int → Int) (mo : Int → Int) (st : Int → Int) (mr : Int → Int) (th : Int) (n : Nat) (td : Int) (wn : Int) (k : Int) : zM l yX3_isNot wsX3_isNot ({ frames := 0, cells := 0, slots := 0, locals := 0 }) D [(cI, .int), (cZ, .boolean)] [.ref (q 0), .int (zI k)] (wM cI cZ q pa sp al co da mo st mr th n td wn) (wM cI cZ q pa sp al co da mo st mr k n td wn) (some (.int (zI 0))) (zLM q) := by
  refine Met.ofW (cc := cX3_isNot) (maxL := 2) (ret := (some .boolean)) (by decide) rfl ?_
  intro p0 e9 s9 m9 ag9 below meth c9 s₁ B hml hv
  obtain ⟨hav, hP, hK⟩ := hv
  have hx := B.exec
  have hb := B.bytes
  have hr := B.returns
  have hts := atoms_spec (ws := wsX3_isNot) B.pre
  have hown : s9.vm.findClass RX3 = some m9.cls := findClass_of_methodNamed B.named
  have hlocks := B.notSynchronized
  have hA : ∀ a ∈ zLM q, (fun a => a ∈ zLM q) a := fun _ h => h
  have hin3 : ∀ w ∈ u_ws RX3 TX3 12, w ∈ wsX3_isNot := by decide +kernel
  have hl := lv_entry ([.ref (q 0), .int (zI k)]) (n := 2) (Nat.le_of_ble_eq_true rfl)
  have hE : entryFrame m9 ag9 2 = F0 m9 0 ((lg_sl ([.ref (q 0), .int (zI k)]) ++ List.replicate (2 - (lg_sl ([.ref (q 0), .int (zI k)])).length) Slot.unset).toArray) [] := by rw [hav]; exact lg_entry_eq m9 _ _
  obtain ⟨Q0, hQ0⟩ : ∃ Q0, Q0 = MQ below (zQ D (wM cI cZ q pa sp al co da mo st mr k n td wn) (some (.int (zI 0))) (zLM q)) ag9 s9 0 0 (fun a => a ∈ zLM q) := ⟨_, rfl⟩
  show W p0 l e9 ({ frames := 0, cells := 0, slots := 0, locals := 0 }) s9 m9 ag9 below meth c9 s9.heap [] 0 0 (MQ below (zQ D (wM cI cZ q pa sp al co da mo st mr k n td wn) (some (.int (zI 0))) (zLM q)) ag9 s9 0 0 (fun a => a ∈ zLM q)) _
  rw [hE, ← hQ0]
  have hS : va_S (fun a => a ∈ zLM q) s9.heap s9.heap [] := va_S.rf
  generalize hH0 : s9.heap = H at hP ⊢
  have hS : va_S (fun a => a ∈ zLM q) s9.heap H [] := by rw [hH0] at hS ⊢; exact hS
  generalize (lg_sl ([.ref (q 0), .int (zI k)]) ++ List.replicate (2 - (lg_sl ([.ref (q 0), .int (zI k)])).length) Slot.unset).toArray = ls at hl ⊢
  have hl : lv_has ls 2 [(0, .ref (q 0)), (1, .int (zI k))] := hl
  refine lv_aload_n hx hb dX3_isNot_0 rfl (lv_at hl 0 rfl) ?_
  refine lv_iload_n hx hb dX3_isNot_1 rfl (lv_at hl 1 rfl) ?_
  refine va_put (D := D) (ci := 3) (v := .int (zI k)) (ty := .int) (C := RX3) (T := TX3) (N := 12) hx hb hts hin3 tyX3 tyX3_ok nmX3 hown hK hP (zD hN rfl hA) hS 0 rfl rfl 0 (by decide) (hts (.fieldLink RX3 35 "MourningRibbonsModel" "thrown" "I") (by decide +kernel)) (fun _ h9 => h9) rfl (by decide +kernel) rfl rfl (Nat.le_of_ble_eq_true rfl) dX3_isNot_2 (fun H locs hP _ hS => ?_)
  have hP : va_P D vwCl (wM cI cZ q pa sp al co da mo st mr k n td wn) H := hP
  refine zr_iconst hx hb dX3_isNot_5 ?_
  rw [hQ0]
  exact zret_z hx hb hr hlocks (rfl) (rfl) hP hS dX3_isNot_6
set_option maxHeartbeats 4000000 in
set_option maxRecDepth 100000 in
theorem kX3_ok (l : Launch) (D : va_G) (cI cZ : ClassId) (q : Nat → Nat) (hN : (zLM q).Nodup) (pa : Int → Int) (sp : Int → Int) (al : Int → Int) (co : Int → Int) (da : Int → Int) (mo : Int → Int) (st : Int → Int) (mr : Int → Int) (th : Int) (n : Nat) (td : Int) (wn : Int) (k : Int) : zM l yX3_ok wsX3_ok ({ frames := 0, cells := 0, slots := 0, locals := 0 }) D [(cI, .int), (cZ, .boolean)] [.ref (q 0), .int (zI k)] (wM cI cZ q pa sp al co da mo st mr th n td wn) (wM cI cZ q pa sp al co da mo st mr 0 n td wn) (some (.int (zI k))) (zLM q) := by
  refine Met.ofW (cc := cX3_ok) (maxL := 2) (ret := (some .int)) (by decide) rfl ?_
  intro p0 e9 s9 m9 ag9 below meth c9 s₁ B hml hv
  obtain ⟨hav, hP, hK⟩ := hv
  have hx := B.exec
  have hb := B.bytes
  have hr := B.returns
  have hts := atoms_spec (ws := wsX3_ok) B.pre
  have hown : s9.vm.findClass RX3 = some m9.cls := findClass_of_methodNamed B.named
  have hlocks := B.notSynchronized
  have hA : ∀ a ∈ zLM q, (fun a => a ∈ zLM q) a := fun _ h => h
  have hin3 : ∀ w ∈ u_ws RX3 TX3 12, w ∈ wsX3_ok := by decide +kernel
  have hl := lv_entry ([.ref (q 0), .int (zI k)]) (n := 2) (Nat.le_of_ble_eq_true rfl)
  have hE : entryFrame m9 ag9 2 = F0 m9 0 ((lg_sl ([.ref (q 0), .int (zI k)]) ++ List.replicate (2 - (lg_sl ([.ref (q 0), .int (zI k)])).length) Slot.unset).toArray) [] := by rw [hav]; exact lg_entry_eq m9 _ _
  obtain ⟨Q0, hQ0⟩ : ∃ Q0, Q0 = MQ below (zQ D (wM cI cZ q pa sp al co da mo st mr 0 n td wn) (some (.int (zI k))) (zLM q)) ag9 s9 0 0 (fun a => a ∈ zLM q) := ⟨_, rfl⟩
  show W p0 l e9 ({ frames := 0, cells := 0, slots := 0, locals := 0 }) s9 m9 ag9 below meth c9 s9.heap [] 0 0 (MQ below (zQ D (wM cI cZ q pa sp al co da mo st mr 0 n td wn) (some (.int (zI k))) (zLM q)) ag9 s9 0 0 (fun a => a ∈ zLM q)) _
  rw [hE, ← hQ0]
  have hS : va_S (fun a => a ∈ zLM q) s9.heap s9.heap [] := va_S.rf
  generalize hH0 : s9.heap = H at hP ⊢
  have hS : va_S (fun a => a ∈ zLM q) s9.heap H [] := by rw [hH0] at hS ⊢; exact hS
  generalize (lg_sl ([.ref (q 0), .int (zI k)]) ++ List.replicate (2 - (lg_sl ([.ref (q 0), .int (zI k)])).length) Slot.unset).toArray = ls at hl ⊢
  have hl : lv_has ls 2 [(0, .ref (q 0)), (1, .int (zI k))] := hl
  refine lv_aload_n hx hb dX3_ok_0 rfl (lv_at hl 0 rfl) ?_
  refine zr_iconst hx hb dX3_ok_1 ?_
  refine va_put (D := D) (ci := 3) (v := .int (zI 0)) (ty := .int) (C := RX3) (T := TX3) (N := 12) hx hb hts hin3 tyX3 tyX3_ok nmX3 hown hK hP (zD hN rfl hA) hS 0 rfl rfl 0 (by decide) (hts (.fieldLink RX3 35 "MourningRibbonsModel" "thrown" "I") (by decide +kernel)) (fun _ h9 => h9) rfl (by decide +kernel) rfl rfl (Nat.le_of_ble_eq_true rfl) dX3_ok_2 (fun H locs hP _ hS => ?_)
  have hP : va_P D vwCl (wM cI cZ q pa sp al co da mo st mr 0 n td wn) H := hP
  refine lv_iload_n hx hb dX3_ok_5 rfl (lv_at hl 1 rfl) ?_
  rw [hQ0]
  exact zret_i hx hb hr hlocks (rfl) hP hS dX3_ok_6
set_option maxHeartbeats 4000000 in
set_option maxRecDepth 100000 in
theorem kX3_isIn (l : Launch) (D : va_G) (v : Int) (lo : Int) (hi : Int) (h1 : -2147483648 ≤ v ∧ v ≤ 2147483647) (h2 : -2147483648 ≤ lo ∧ lo ≤ 2147483647) (h3 : -2147483648 ≤ hi ∧ hi ≤ 2147483647) : ∀ tys, zM l yX3_isIn wsX3_isIn ({ frames := 0, cells := 0, slots := 0, locals := 0 }) D tys [.int (zI v), .int (zI lo), .int (zI hi)] [] [] (some (.int (zI (bI (lo ≤ v ∧ v ≤ hi))))) (([] : List Nat)) := by
  intro tys
  refine Met.ofW (cc := cX3_isIn) (maxL := 3) (ret := (some .boolean)) (by decide) rfl ?_
  intro p0 e9 s9 m9 ag9 below meth c9 s₁ B hml hv
  obtain ⟨hav, hP, hK⟩ := hv
  have hx := B.exec
  have hb := B.bytes
  have hr := B.returns
  have hts := atoms_spec (ws := wsX3_isIn) B.pre
  have hown : s9.vm.findClass RX3 = some m9.cls := findClass_of_methodNamed B.named
  have hlocks := B.notSynchronized
  have hA : ∀ a ∈ ([] : List Nat), (fun a => a ∈ ([] : List Nat)) a := fun _ h => h
  have hl := lv_entry ([.int (zI v), .int (zI lo), .int (zI hi)]) (n := 3) (Nat.le_of_ble_eq_true rfl)
  have hE : entryFrame m9 ag9 3 = F0 m9 0 ((lg_sl ([.int (zI v), .int (zI lo), .int (zI hi)]) ++ List.replicate (3 - (lg_sl ([.int (zI v), .int (zI lo), .int (zI hi)])).length) Slot.unset).toArray) [] := by rw [hav]; exact lg_entry_eq m9 _ _
  obtain ⟨Q0, hQ0⟩ : ∃ Q0, Q0 = MQ below (zQ D [] (some (.int (zI (bI (lo ≤ v ∧ v ≤ hi))))) (([] : List Nat))) ag9 s9 0 0 (fun a => a ∈ ([] : List Nat)) := ⟨_, rfl⟩
  show W p0 l e9 ({ frames := 0, cells := 0, slots := 0, locals := 0 }) s9 m9 ag9 below meth c9 s9.heap [] 0 0 (MQ below (zQ D [] (some (.int (zI (bI (lo ≤ v ∧ v ≤ hi))))) (([] : List Nat))) ag9 s9 0 0 (fun a => a ∈ ([] : List Nat))) _
  rw [hE, ← hQ0]
  have hS : va_S (fun a => a ∈ ([] : List Nat)) s9.heap s9.heap [] := va_S.rf
  generalize hH0 : s9.heap = H at hP ⊢
  have hS : va_S (fun a => a ∈ ([] : List Nat)) s9.heap H [] := by rw [hH0] at hS ⊢; exact hS
  generalize (lg_sl ([.int (zI v), .int (zI lo), .int (zI hi)]) ++ List.replicate (3 - (lg_sl ([.int (zI v), .int (zI lo), .int (zI hi)])).length) Slot.unset).toArray = ls at hl ⊢
  have hl : lv_has ls 3 [(0, .int (zI v)), (1, .int (zI lo)), (2, .int (zI hi))] := hl
  refine lv_iload_n hx hb dX3_isIn_0 rfl (lv_at hl 0 rfl) ?_
  refine lv_iload_n hx hb dX3_isIn_1 rfl (lv_at hl 1 rfl) ?_
  refine zr_icmp_lt (tgt := 14) hx hb dX3_isIn_2 (by decide) ⟨by omega, by omega⟩ ⟨by omega, by omega⟩ (fun c_1 => ?_) (fun c_1 => ?_)
  · have c_1 := c_1
    refine zr_iconst hx hb dX3_isIn_14 ?_
    rw [hQ0]
    exact zret_z hx hb hr hlocks (rfl) ((bI_f (by omega)).symm) hP hS dX3_isIn_15
  · have c_1 := c_1
    refine lv_iload_n hx hb dX3_isIn_5 rfl (lv_at hl 0 rfl) ?_
    refine lv_iload_n hx hb dX3_isIn_6 rfl (lv_at hl 2 rfl) ?_
    refine zr_icmp_gt (tgt := 14) hx hb dX3_isIn_7 (by decide) ⟨by omega, by omega⟩ ⟨by omega, by omega⟩ (fun c_2 => ?_) (fun c_2 => ?_)
    · have c_2 := c_2
      refine zr_iconst hx hb dX3_isIn_14 ?_
      rw [hQ0]
      exact zret_z hx hb hr hlocks (rfl) ((bI_f (by omega)).symm) hP hS dX3_isIn_15
    · have c_2 := c_2
      refine zr_iconst hx hb dX3_isIn_10 ?_
      refine lv_goto (tgt := 15) hx hb dX3_isIn_11 (by decide) ?_
      rw [hQ0]
      exact zret_z hx hb hr hlocks (rfl) ((bI_t (by omega)).symm) hP hS dX3_isIn_15
set_option maxHeartbeats 4000000 in
set_option maxRecDepth 100000 in
theorem kX3_isPerson (l : Launch) (D : va_G) (cI cZ : ClassId) (q : Nat → Nat) (hN : (zLM q).Nodup) (pa : Int → Int) (sp : Int → Int) (al : Int → Int) (co : Int → Int) (da : Int → Int) (mo : Int → Int) (st : Int → Int) (mr : Int → Int) (th : Int) (n : Nat) (td : Int) (wn : Int) (hn : n ≤ 16) (p : Int) (h1 : -2147483648 ≤ p ∧ p ≤ 2147483647) : zM l yX3_isPerson wsX3_isPerson ({ frames := 1, cells := 0, slots := 0, locals := 22 }) D [(cI, .int), (cZ, .boolean)] [.ref (q 0), .int (zI p)] (wM cI cZ q pa sp al co da mo st mr th n td wn) (wM cI cZ q pa sp al co da mo st mr th n td wn) (some (.int (zI (bI (0 ≤ p ∧ p ≤ (n : Int) - 1))))) (zLM q) := by
  refine Met.ofW (cc := cX3_isPerson) (maxL := 2) (ret := (some .boolean)) (by decide) rfl ?_
  intro p0 e9 s9 m9 ag9 below meth c9 s₁ B hml hv
  obtain ⟨hav, hP, hK⟩ := hv
  have hx := B.exec
  have hb := B.bytes
  have hr := B.returns
  have hts := atoms_spec (ws := wsX3_isPerson) B.pre
  have hown : s9.vm.findClass RX3 = some m9.cls := findClass_of_methodNamed B.named
  have hlocks := B.notSynchronized
  have hA : ∀ a ∈ zLM q, (fun a => a ∈ zLM q) a := fun _ h => h
  have hin3 : ∀ w ∈ u_ws RX3 TX3 12, w ∈ wsX3_isPerson := by decide +kernel
  have hl := lv_entry ([.ref (q 0), .int (zI p)]) (n := 2) (Nat.le_of_ble_eq_true rfl)
  have hE : entryFrame m9 ag9 2 = F0 m9 0 ((lg_sl ([.ref (q 0), .int (zI p)]) ++ List.replicate (2 - (lg_sl ([.ref (q 0), .int (zI p)])).length) Slot.unset).toArray) [] := by rw [hav]; exact lg_entry_eq m9 _ _
  obtain ⟨Q0, hQ0⟩ : ∃ Q0, Q0 = MQ below (zQ D (wM cI cZ q pa sp al co da mo st mr th n td wn) (some (.int (zI (bI (0 ≤ p ∧ p ≤ (n : Int) - 1))))) (zLM q)) ag9 s9 0 0 (fun a => a ∈ zLM q) := ⟨_, rfl⟩
  show W p0 l e9 ({ frames := 1, cells := 0, slots := 0, locals := 22 }) s9 m9 ag9 below meth c9 s9.heap [] 0 0 (MQ below (zQ D (wM cI cZ q pa sp al co da mo st mr th n td wn) (some (.int (zI (bI (0 ≤ p ∧ p ≤ (n : Int) - 1))))) (zLM q)) ag9 s9 0 0 (fun a => a ∈ zLM q)) _
  rw [hE, ← hQ0]
  have hS : va_S (fun a => a ∈ zLM q) s9.heap s9.heap [] := va_S.rf
  generalize hH0 : s9.heap = H at hP ⊢
  have hS : va_S (fun a => a ∈ zLM q) s9.heap H [] := by rw [hH0] at hS ⊢; exact hS
  generalize (lg_sl ([.ref (q 0), .int (zI p)]) ++ List.replicate (2 - (lg_sl ([.ref (q 0), .int (zI p)])).length) Slot.unset).toArray = ls at hl ⊢
  have hl : lv_has ls 2 [(0, .ref (q 0)), (1, .int (zI p))] := hl
  refine lv_iload_n hx hb dX3_isPerson_0 rfl (lv_at hl 1 rfl) ?_
  refine zr_iconst hx hb dX3_isPerson_1 ?_
  refine lv_aload_n hx hb dX3_isPerson_2 rfl (lv_at hl 0 rfl) ?_
  refine va_get (D := D) (ci := 3) (v := .int (zI (n : Int))) (C := RX3) (T := TX3) (N := 12) hx hb hts hin3 hown hK hP 0 rfl rfl 1 (by decide) (hts (.fieldLink RX3 39 "MourningRibbonsModel" "people" "I") (by decide +kernel)) (fun _ h9 => h9) rfl dX3_isPerson_3 ?_
  refine zr_iconst hx hb dX3_isPerson_6 ?_
  refine zr_isub (v := (n : Int) - 1) hx hb rfl dX3_isPerson_7 ?_
  refine zcallP (As := [.int (zI p), .int (zI 0), .int (zI ((n : Int) - 1))]) (rest := []) ⟨hx, hb, hml, hown, hts⟩ (kX3_isIn l D p 0 ((n : Int) - 1) (by omega) (by omega) (by omega)) hK (va_cwS 3 hts gX3_isPerson_X3_isIn rfl rfl rfl (by decide +kernel) ⟨Nat.le_of_ble_eq_true rfl, Nat.le_of_ble_eq_true rfl⟩) hP hS rfl hl.1 rfl (Nat.le_of_ble_eq_true rfl) dX3_isPerson_8 ⟨Nat.zero_le _, Nat.zero_le _⟩ (fun H locs hP hS => ?_)
  refine W.eq (g2 := F0 m9 11 ls [.int (zI (bI (0 ≤ p ∧ p ≤ ((n : Int) - 1))))]) rfl ?_
  rw [hQ0]
  exact zret_z hx hb hr hlocks (zn_bool (bI_01 _)) (rfl) hP hS dX3_isPerson_11
set_option maxHeartbeats 4000000 in
set_option maxRecDepth 100000 in
theorem kX3_isDegree (l : Launch) (D : va_G) (d : Int) (h1 : -2147483648 ≤ d ∧ d ≤ 2147483647) : ∀ tys, zM l yX3_isDegree wsX3_isDegree ({ frames := 1, cells := 0, slots := 0, locals := 22 }) D tys [.int (zI d)] [] [] (some (.int (zI (bI (1 ≤ d ∧ d ≤ 4))))) (([] : List Nat)) := by
  intro tys
  refine Met.ofW (cc := cX3_isDegree) (maxL := 1) (ret := (some .boolean)) (by decide) rfl ?_
  intro p0 e9 s9 m9 ag9 below meth c9 s₁ B hml hv
  obtain ⟨hav, hP, hK⟩ := hv
  have hx := B.exec
  have hb := B.bytes
  have hr := B.returns
  have hts := atoms_spec (ws := wsX3_isDegree) B.pre
  have hown : s9.vm.findClass RX3 = some m9.cls := findClass_of_methodNamed B.named
  have hlocks := B.notSynchronized
  have hA : ∀ a ∈ ([] : List Nat), (fun a => a ∈ ([] : List Nat)) a := fun _ h => h
  have hl := lv_entry ([.int (zI d)]) (n := 1) (Nat.le_of_ble_eq_true rfl)
  have hE : entryFrame m9 ag9 1 = F0 m9 0 ((lg_sl ([.int (zI d)]) ++ List.replicate (1 - (lg_sl ([.int (zI d)])).length) Slot.unset).toArray) [] := by rw [hav]; exact lg_entry_eq m9 _ _
  obtain ⟨Q0, hQ0⟩ : ∃ Q0, Q0 = MQ below (zQ D [] (some (.int (zI (bI (1 ≤ d ∧ d ≤ 4))))) (([] : List Nat))) ag9 s9 0 0 (fun a => a ∈ ([] : List Nat)) := ⟨_, rfl⟩
  show W p0 l e9 ({ frames := 1, cells := 0, slots := 0, locals := 22 }) s9 m9 ag9 below meth c9 s9.heap [] 0 0 (MQ below (zQ D [] (some (.int (zI (bI (1 ≤ d ∧ d ≤ 4))))) (([] : List Nat))) ag9 s9 0 0 (fun a => a ∈ ([] : List Nat))) _
  rw [hE, ← hQ0]
  have hS : va_S (fun a => a ∈ ([] : List Nat)) s9.heap s9.heap [] := va_S.rf
  generalize hH0 : s9.heap = H at hP ⊢
  have hS : va_S (fun a => a ∈ ([] : List Nat)) s9.heap H [] := by rw [hH0] at hS ⊢; exact hS
  generalize (lg_sl ([.int (zI d)]) ++ List.replicate (1 - (lg_sl ([.int (zI d)])).length) Slot.unset).toArray = ls at hl ⊢
  have hl : lv_has ls 1 [(0, .int (zI d))] := hl
  refine lv_iload_n hx hb dX3_isDegree_0 rfl (lv_at hl 0 rfl) ?_
  refine zr_iconst hx hb dX3_isDegree_1 ?_
  refine zr_iconst hx hb dX3_isDegree_2 ?_
  refine zcallP (As := [.int (zI d), .int (zI 1), .int (zI 4)]) (rest := []) ⟨hx, hb, hml, hown, hts⟩ (kX3_isIn l D d 1 4 (by omega) (by omega) (by omega)) hK (va_cwS 3 hts gX3_isDegree_X3_isIn rfl rfl rfl (by decide +kernel) ⟨Nat.le_of_ble_eq_true rfl, Nat.le_of_ble_eq_true rfl⟩) hP hS rfl hl.1 rfl (Nat.le_of_ble_eq_true rfl) dX3_isDegree_3 ⟨Nat.zero_le _, Nat.zero_le _⟩ (fun H locs hP hS => ?_)
  refine W.eq (g2 := F0 m9 6 ls [.int (zI (bI (1 ≤ d ∧ d ≤ 4)))]) rfl ?_
  rw [hQ0]
  exact zret_z hx hb hr hlocks (zn_bool (bI_01 _)) (rfl) hP hS dX3_isDegree_6
set_option maxHeartbeats 4000000 in
set_option maxRecDepth 100000 in
theorem kX3_isStage (l : Launch) (D : va_G) (s : Int) (h1 : -2147483648 ≤ s ∧ s ≤ 2147483647) : ∀ tys, zM l yX3_isStage wsX3_isStage ({ frames := 1, cells := 0, slots := 0, locals := 22 }) D tys [.int (zI s)] [] [] (some (.int (zI (bI (0 ≤ s ∧ s ≤ 2))))) (([] : List Nat)) := by
  intro tys
  refine Met.ofW (cc := cX3_isStage) (maxL := 1) (ret := (some .boolean)) (by decide) rfl ?_
  intro p0 e9 s9 m9 ag9 below meth c9 s₁ B hml hv
  obtain ⟨hav, hP, hK⟩ := hv
  have hx := B.exec
  have hb := B.bytes
  have hr := B.returns
  have hts := atoms_spec (ws := wsX3_isStage) B.pre
  have hown : s9.vm.findClass RX3 = some m9.cls := findClass_of_methodNamed B.named
  have hlocks := B.notSynchronized
  have hA : ∀ a ∈ ([] : List Nat), (fun a => a ∈ ([] : List Nat)) a := fun _ h => h
  have hl := lv_entry ([.int (zI s)]) (n := 1) (Nat.le_of_ble_eq_true rfl)
  have hE : entryFrame m9 ag9 1 = F0 m9 0 ((lg_sl ([.int (zI s)]) ++ List.replicate (1 - (lg_sl ([.int (zI s)])).length) Slot.unset).toArray) [] := by rw [hav]; exact lg_entry_eq m9 _ _
  obtain ⟨Q0, hQ0⟩ : ∃ Q0, Q0 = MQ below (zQ D [] (some (.int (zI (bI (0 ≤ s ∧ s ≤ 2))))) (([] : List Nat))) ag9 s9 0 0 (fun a => a ∈ ([] : List Nat)) := ⟨_, rfl⟩
  show W p0 l e9 ({ frames := 1, cells := 0, slots := 0, locals := 22 }) s9 m9 ag9 below meth c9 s9.heap [] 0 0 (MQ below (zQ D [] (some (.int (zI (bI (0 ≤ s ∧ s ≤ 2))))) (([] : List Nat))) ag9 s9 0 0 (fun a => a ∈ ([] : List Nat))) _
  rw [hE, ← hQ0]
  have hS : va_S (fun a => a ∈ ([] : List Nat)) s9.heap s9.heap [] := va_S.rf
  generalize hH0 : s9.heap = H at hP ⊢
  have hS : va_S (fun a => a ∈ ([] : List Nat)) s9.heap H [] := by rw [hH0] at hS ⊢; exact hS
  generalize (lg_sl ([.int (zI s)]) ++ List.replicate (1 - (lg_sl ([.int (zI s)])).length) Slot.unset).toArray = ls at hl ⊢
  have hl : lv_has ls 1 [(0, .int (zI s))] := hl
  refine lv_iload_n hx hb dX3_isStage_0 rfl (lv_at hl 0 rfl) ?_
  refine zr_iconst hx hb dX3_isStage_1 ?_
  refine zr_iconst hx hb dX3_isStage_2 ?_
  refine zcallP (As := [.int (zI s), .int (zI 0), .int (zI 2)]) (rest := []) ⟨hx, hb, hml, hown, hts⟩ (kX3_isIn l D s 0 2 (by omega) (by omega) (by omega)) hK (va_cwS 3 hts gX3_isStage_X3_isIn rfl rfl rfl (by decide +kernel) ⟨Nat.le_of_ble_eq_true rfl, Nat.le_of_ble_eq_true rfl⟩) hP hS rfl hl.1 rfl (Nat.le_of_ble_eq_true rfl) dX3_isStage_3 ⟨Nat.zero_le _, Nat.zero_le _⟩ (fun H locs hP hS => ?_)
  refine W.eq (g2 := F0 m9 6 ls [.int (zI (bI (0 ≤ s ∧ s ≤ 2)))]) rfl ?_
  rw [hQ0]
  exact zret_z hx hb hr hlocks (zn_bool (bI_01 _)) (rfl) hP hS dX3_isStage_6
set_option maxHeartbeats 4000000 in
set_option maxRecDepth 100000 in
theorem kX3_at (l : Launch) (D : va_G) (g : Int) (s : Int) : ∀ tys, zM l yX3_at wsX3_at ({ frames := 0, cells := 0, slots := 0, locals := 0 }) D tys [.int (zI g), .int (zI s)] [] [] (some (.int (zI (3 * (g - 1) + s)))) (([] : List Nat)) := by
  intro tys
  refine Met.ofW (cc := cX3_at) (maxL := 2) (ret := (some .int)) (by decide) rfl ?_
  intro p0 e9 s9 m9 ag9 below meth c9 s₁ B hml hv
  obtain ⟨hav, hP, hK⟩ := hv
  have hx := B.exec
  have hb := B.bytes
  have hr := B.returns
  have hts := atoms_spec (ws := wsX3_at) B.pre
  have hown : s9.vm.findClass RX3 = some m9.cls := findClass_of_methodNamed B.named
  have hlocks := B.notSynchronized
  have hA : ∀ a ∈ ([] : List Nat), (fun a => a ∈ ([] : List Nat)) a := fun _ h => h
  have hl := lv_entry ([.int (zI g), .int (zI s)]) (n := 2) (Nat.le_of_ble_eq_true rfl)
  have hE : entryFrame m9 ag9 2 = F0 m9 0 ((lg_sl ([.int (zI g), .int (zI s)]) ++ List.replicate (2 - (lg_sl ([.int (zI g), .int (zI s)])).length) Slot.unset).toArray) [] := by rw [hav]; exact lg_entry_eq m9 _ _
  obtain ⟨Q0, hQ0⟩ : ∃ Q0, Q0 = MQ below (zQ D [] (some (.int (zI (3 * (g - 1) + s)))) (([] : List Nat))) ag9 s9 0 0 (fun a => a ∈ ([] : List Nat)) := ⟨_, rfl⟩
  show W p0 l e9 ({ frames := 0, cells := 0, slots := 0, locals := 0 }) s9 m9 ag9 below meth c9 s9.heap [] 0 0 (MQ below (zQ D [] (some (.int (zI (3 * (g - 1) + s)))) (([] : List Nat))) ag9 s9 0 0 (fun a => a ∈ ([] : List Nat))) _
  rw [hE, ← hQ0]
  have hS : va_S (fun a => a ∈ ([] : List Nat)) s9.heap s9.heap [] := va_S.rf
  generalize hH0 : s9.heap = H at hP ⊢
  have hS : va_S (fun a => a ∈ ([] : List Nat)) s9.heap H [] := by rw [hH0] at hS ⊢; exact hS
  generalize (lg_sl ([.int (zI g), .int (zI s)]) ++ List.replicate (2 - (lg_sl ([.int (zI g), .int (zI s)])).length) Slot.unset).toArray = ls at hl ⊢
  have hl : lv_has ls 2 [(0, .int (zI g)), (1, .int (zI s))] := hl
  refine zr_iconst hx hb dX3_at_0 ?_
  refine lv_iload_n hx hb dX3_at_1 rfl (lv_at hl 0 rfl) ?_
  refine zr_iconst hx hb dX3_at_2 ?_
  refine zr_isub (v := g - 1) hx hb rfl dX3_at_3 ?_
  refine zr_imul (v := 3 * (g - 1)) hx hb rfl dX3_at_4 ?_
  refine lv_iload_n hx hb dX3_at_5 rfl (lv_at hl 1 rfl) ?_
  refine zr_iadd (v := (3 * (g - 1)) + s) hx hb rfl dX3_at_6 ?_
  rw [hQ0]
  exact zret_i hx hb hr hlocks (by omega) hP hS dX3_at_7
set_option maxHeartbeats 4000000 in
set_option maxRecDepth 100000 in
theorem kX3_row (l : Launch) (D : va_G) (p : Int) (d : Int) : ∀ tys, zM l yX3_row wsX3_row ({ frames := 0, cells := 0, slots := 0, locals := 0 }) D tys [.int (zI p), .int (zI d)] [] [] (some (.int (zI (7 * (16 * p + d))))) (([] : List Nat)) := by
  intro tys
  refine Met.ofW (cc := cX3_row) (maxL := 2) (ret := (some .int)) (by decide) rfl ?_
  intro p0 e9 s9 m9 ag9 below meth c9 s₁ B hml hv
  obtain ⟨hav, hP, hK⟩ := hv
  have hx := B.exec
  have hb := B.bytes
  have hr := B.returns
  have hts := atoms_spec (ws := wsX3_row) B.pre
  have hown : s9.vm.findClass RX3 = some m9.cls := findClass_of_methodNamed B.named
  have hlocks := B.notSynchronized
  have hA : ∀ a ∈ ([] : List Nat), (fun a => a ∈ ([] : List Nat)) a := fun _ h => h
  have hl := lv_entry ([.int (zI p), .int (zI d)]) (n := 2) (Nat.le_of_ble_eq_true rfl)
  have hE : entryFrame m9 ag9 2 = F0 m9 0 ((lg_sl ([.int (zI p), .int (zI d)]) ++ List.replicate (2 - (lg_sl ([.int (zI p), .int (zI d)])).length) Slot.unset).toArray) [] := by rw [hav]; exact lg_entry_eq m9 _ _
  obtain ⟨Q0, hQ0⟩ : ∃ Q0, Q0 = MQ below (zQ D [] (some (.int (zI (7 * (16 * p + d))))) (([] : List Nat))) ag9 s9 0 0 (fun a => a ∈ ([] : List Nat)) := ⟨_, rfl⟩
  show W p0 l e9 ({ frames := 0, cells := 0, slots := 0, locals := 0 }) s9 m9 ag9 below meth c9 s9.heap [] 0 0 (MQ below (zQ D [] (some (.int (zI (7 * (16 * p + d))))) (([] : List Nat))) ag9 s9 0 0 (fun a => a ∈ ([] : List Nat))) _
  rw [hE, ← hQ0]
  have hS : va_S (fun a => a ∈ ([] : List Nat)) s9.heap s9.heap [] := va_S.rf
  generalize hH0 : s9.heap = H at hP ⊢
  have hS : va_S (fun a => a ∈ ([] : List Nat)) s9.heap H [] := by rw [hH0] at hS ⊢; exact hS
  generalize (lg_sl ([.int (zI p), .int (zI d)]) ++ List.replicate (2 - (lg_sl ([.int (zI p), .int (zI d)])).length) Slot.unset).toArray = ls at hl ⊢
  have hl : lv_has ls 2 [(0, .int (zI p)), (1, .int (zI d))] := hl
  refine zr_bipush hx hb dX3_row_0 (by decide) ?_
  refine zr_bipush hx hb dX3_row_2 (by decide) ?_
  refine lv_iload_n hx hb dX3_row_4 rfl (lv_at hl 0 rfl) ?_
  refine zr_imul (v := 16 * p) hx hb rfl dX3_row_5 ?_
  refine lv_iload_n hx hb dX3_row_6 rfl (lv_at hl 1 rfl) ?_
  refine zr_iadd (v := (16 * p) + d) hx hb rfl dX3_row_7 ?_
  refine zr_imul (v := 7 * ((16 * p) + d)) hx hb rfl dX3_row_8 ?_
  rw [hQ0]
  exact zret_i hx hb hr hlocks (by omega) hP hS dX3_row_9
set_option maxHeartbeats 4000000 in
set_option maxRecDepth 100000 in
theorem kX3_isStep (l : Launch) (D : va_G) (cI cZ : ClassId) (q : Nat → Nat) (hN : (zLM q).Nodup) (pa : Int → Int) (sp : Int → Int) (al : Int → Int) (co : Int → Int) (da : Int → Int) (mo : Int → Int) (st : Int → Int) (mr : Int → Int) (th : Int) (n : Nat) (td : Int) (wn : Int) (hpa : ∀ j : Int, -1 ≤ pa j ∧ pa j ≤ 15) (hsp : ∀ j : Int, -1 ≤ sp j ∧ sp j ≤ 15) (a : Int) (b : Int) (h1 : 0 ≤ a ∧ a < 16) (h2 : 0 ≤ b ∧ b < 16) : zM l yX3_isStep wsX3_isStep ({ frames := 0, cells := 0, slots := 0, locals := 0 }) D [(cI, .int), (cZ, .boolean)] [.ref (q 0), .int (zI a), .int (zI b)] (wM cI cZ q pa sp al co da mo st mr th n td wn) (wM cI cZ q pa sp al co da mo st mr th n td wn) (some (.int (zI (bI (stp pa sp a b))))) (zLM q) := by
  refine Met.ofW (cc := cX3_isStep) (maxL := 3) (ret := (some .boolean)) (by decide) rfl ?_
  intro p0 e9 s9 m9 ag9 below meth c9 s₁ B hml hv
  obtain ⟨hav, hP, hK⟩ := hv
  have hx := B.exec
  have hb := B.bytes
  have hr := B.returns
  have hts := atoms_spec (ws := wsX3_isStep) B.pre
  have hown : s9.vm.findClass RX3 = some m9.cls := findClass_of_methodNamed B.named
  have hlocks := B.notSynchronized
  have hA : ∀ a ∈ zLM q, (fun a => a ∈ zLM q) a := fun _ h => h
  have hin3 : ∀ w ∈ u_ws RX3 TX3 12, w ∈ wsX3_isStep := by decide +kernel
  have hl := lv_entry ([.ref (q 0), .int (zI a), .int (zI b)]) (n := 3) (Nat.le_of_ble_eq_true rfl)
  have hE : entryFrame m9 ag9 3 = F0 m9 0 ((lg_sl ([.ref (q 0), .int (zI a), .int (zI b)]) ++ List.replicate (3 - (lg_sl ([.ref (q 0), .int (zI a), .int (zI b)])).length) Slot.unset).toArray) [] := by rw [hav]; exact lg_entry_eq m9 _ _
  obtain ⟨Q0, hQ0⟩ : ∃ Q0, Q0 = MQ below (zQ D (wM cI cZ q pa sp al co da mo st mr th n td wn) (some (.int (zI (bI (stp pa sp a b))))) (zLM q)) ag9 s9 0 0 (fun a => a ∈ zLM q) := ⟨_, rfl⟩
  show W p0 l e9 ({ frames := 0, cells := 0, slots := 0, locals := 0 }) s9 m9 ag9 below meth c9 s9.heap [] 0 0 (MQ below (zQ D (wM cI cZ q pa sp al co da mo st mr th n td wn) (some (.int (zI (bI (stp pa sp a b))))) (zLM q)) ag9 s9 0 0 (fun a => a ∈ zLM q)) _
  rw [hE, ← hQ0]
  have hS : va_S (fun a => a ∈ zLM q) s9.heap s9.heap [] := va_S.rf
  generalize hH0 : s9.heap = H at hP ⊢
  have hS : va_S (fun a => a ∈ zLM q) s9.heap H [] := by rw [hH0] at hS ⊢; exact hS
  generalize (lg_sl ([.ref (q 0), .int (zI a), .int (zI b)]) ++ List.replicate (3 - (lg_sl ([.ref (q 0), .int (zI a), .int (zI b)])).length) Slot.unset).toArray = ls at hl ⊢
  have hl : lv_has ls 3 [(0, .ref (q 0)), (1, .int (zI a)), (2, .int (zI b))] := hl
  refine lv_aload_n hx hb dX3_isStep_0 rfl (lv_at hl 0 rfl) ?_
  refine va_get (D := D) (ci := 3) (v := .ref (q 1)) (C := RX3) (T := TX3) (N := 12) hx hb hts hin3 hown hK hP 0 rfl rfl 2 (by decide) (hts (.fieldLink RX3 9 "MourningRibbonsModel" "parent" "[I") (by decide +kernel)) (fun _ h9 => h9) rfl dX3_isStep_1 ?_
  refine lv_iload_n hx hb dX3_isStep_4 rfl (lv_at hl 1 rfl) ?_
  refine zr_iald (f := pa) (n := 16) hx hb hK hP 1 0 rfl rfl (by decide) (i := a) (by omega) (by omega) dX3_isStep_5 ?_
  have b_1 := hpa a
  refine lv_iload_n hx hb dX3_isStep_6 rfl (lv_at hl 2 rfl) ?_
  refine zr_icmp_eq (tgt := 30) hx hb dX3_isStep_7 (by decide) ⟨by omega, by omega⟩ ⟨by omega, by omega⟩ (fun c_2 => ?_) (fun c_2 => ?_)
  · have c_2 := c_2
    refine zr_iconst hx hb dX3_isStep_30 ?_
    refine lv_goto (tgt := 35) hx hb dX3_isStep_31 (by decide) ?_
    rw [hQ0]
    exact zret_z hx hb hr hlocks (rfl) ((bI_t (show stp pa sp a b from by unfold stp; omega)).symm) hP hS dX3_isStep_35
  · have c_2 := c_2
    refine lv_aload_n hx hb dX3_isStep_10 rfl (lv_at hl 0 rfl) ?_
    refine va_get (D := D) (ci := 3) (v := .ref (q 1)) (C := RX3) (T := TX3) (N := 12) hx hb hts hin3 hown hK hP 0 rfl rfl 2 (by decide) (hts (.fieldLink RX3 9 "MourningRibbonsModel" "parent" "[I") (by decide +kernel)) (fun _ h9 => h9) rfl dX3_isStep_11 ?_
    refine lv_iload_n hx hb dX3_isStep_14 rfl (lv_at hl 2 rfl) ?_
    refine zr_iald (f := pa) (n := 16) hx hb hK hP 1 0 rfl rfl (by decide) (i := b) (by omega) (by omega) dX3_isStep_15 ?_
    have b_3 := hpa b
    refine lv_iload_n hx hb dX3_isStep_16 rfl (lv_at hl 1 rfl) ?_
    refine zr_icmp_eq (tgt := 30) hx hb dX3_isStep_17 (by decide) ⟨by omega, by omega⟩ ⟨by omega, by omega⟩ (fun c_4 => ?_) (fun c_4 => ?_)
    · have c_4 := c_4
      refine zr_iconst hx hb dX3_isStep_30 ?_
      refine lv_goto (tgt := 35) hx hb dX3_isStep_31 (by decide) ?_
      rw [hQ0]
      exact zret_z hx hb hr hlocks (rfl) ((bI_t (show stp pa sp a b from by unfold stp; omega)).symm) hP hS dX3_isStep_35
    · have c_4 := c_4
      refine lv_aload_n hx hb dX3_isStep_20 rfl (lv_at hl 0 rfl) ?_
      refine va_get (D := D) (ci := 3) (v := .ref (q 2)) (C := RX3) (T := TX3) (N := 12) hx hb hts hin3 hown hK hP 0 rfl rfl 3 (by decide) (hts (.fieldLink RX3 13 "MourningRibbonsModel" "married" "[I") (by decide +kernel)) (fun _ h9 => h9) rfl dX3_isStep_21 ?_
      refine lv_iload_n hx hb dX3_isStep_24 rfl (lv_at hl 1 rfl) ?_
      refine zr_iald (f := sp) (n := 16) hx hb hK hP 2 0 rfl rfl (by decide) (i := a) (by omega) (by omega) dX3_isStep_25 ?_
      have b_5 := hsp a
      refine lv_iload_n hx hb dX3_isStep_26 rfl (lv_at hl 2 rfl) ?_
      refine zr_icmp_ne (tgt := 34) hx hb dX3_isStep_27 (by decide) ⟨by omega, by omega⟩ ⟨by omega, by omega⟩ (fun c_6 => ?_) (fun c_6 => ?_)
      · have c_6 := c_6
        refine zr_iconst hx hb dX3_isStep_34 ?_
        rw [hQ0]
        exact zret_z hx hb hr hlocks (rfl) ((bI_f (show ¬ stp pa sp a b from by unfold stp; omega)).symm) hP hS dX3_isStep_35
      · have c_6 := c_6
        refine zr_iconst hx hb dX3_isStep_30 ?_
        refine lv_goto (tgt := 35) hx hb dX3_isStep_31 (by decide) ?_
        rw [hQ0]
        exact zret_z hx hb hr hlocks (rfl) ((bI_t (show stp pa sp a b from by unfold stp; omega)).symm) hP hS dX3_isStep_35
set_option maxHeartbeats 4000000 in
set_option maxRecDepth 100000 in
theorem kX3_go (l : Launch) (D : va_G) (cI cZ : ClassId) (q : Nat → Nat) (hN : (zLM q).Nodup) (pa : Int → Int) (sp : Int → Int) (al : Int → Int) (co : Int → Int) (da : Int → Int) (mo : Int → Int) (st : Int → Int) (mr : Int → Int) (th : Int) (n : Nat) (td : Int) (wn : Int) (hpa : ∀ j : Int, -1 ≤ pa j ∧ pa j ≤ 15) (hsp : ∀ j : Int, -1 ≤ sp j ∧ sp j ≤ 15) (hst : ∀ j : Int, -1 ≤ st j ∧ st j ≤ 4) (hn : n ≤ 16) (f : Int) (h1 : 0 ≤ f ∧ f < 16) : zM l yX3_go wsX3_go ({ frames := 1, cells := 0, slots := 0, locals := 22 }) D [(cI, .int), (cZ, .boolean)] [.ref (q 0), .int (zI f)] (wM cI cZ q pa sp al co da mo st mr th n td wn) (wM cI cZ q pa sp al co da mo (goF pa sp n st f) mr th n td wn) none (zLM q) := by
  refine Met.ofW (cc := cX3_go) (maxL := 5) (ret := none) (by decide) rfl ?_
  intro p0 e9 s9 m9 ag9 below meth c9 s₁ B hml hv
  obtain ⟨hav, hP, hK⟩ := hv
  have hx := B.exec
  have hb := B.bytes
  have hr := B.returns
  have hts := atoms_spec (ws := wsX3_go) B.pre
  have hown : s9.vm.findClass RX3 = some m9.cls := findClass_of_methodNamed B.named
  have hlocks := B.notSynchronized
  have hA : ∀ a ∈ zLM q, (fun a => a ∈ zLM q) a := fun _ h => h
  have hin3 : ∀ w ∈ u_ws RX3 TX3 12, w ∈ wsX3_go := by decide +kernel
  have hl := lv_entry ([.ref (q 0), .int (zI f)]) (n := 5) (Nat.le_of_ble_eq_true rfl)
  have hE : entryFrame m9 ag9 5 = F0 m9 0 ((lg_sl ([.ref (q 0), .int (zI f)]) ++ List.replicate (5 - (lg_sl ([.ref (q 0), .int (zI f)])).length) Slot.unset).toArray) [] := by rw [hav]; exact lg_entry_eq m9 _ _
  obtain ⟨Q0, hQ0⟩ : ∃ Q0, Q0 = MQ below (zQ D (wM cI cZ q pa sp al co da mo (goF pa sp n st f) mr th n td wn) none (zLM q)) ag9 s9 0 0 (fun a => a ∈ zLM q) := ⟨_, rfl⟩
  show W p0 l e9 ({ frames := 1, cells := 0, slots := 0, locals := 22 }) s9 m9 ag9 below meth c9 s9.heap [] 0 0 (MQ below (zQ D (wM cI cZ q pa sp al co da mo (goF pa sp n st f) mr th n td wn) none (zLM q)) ag9 s9 0 0 (fun a => a ∈ zLM q)) _
  rw [hE, ← hQ0]
  have hS : va_S (fun a => a ∈ zLM q) s9.heap s9.heap [] := va_S.rf
  generalize hH0 : s9.heap = H at hP ⊢
  have hS : va_S (fun a => a ∈ zLM q) s9.heap H [] := by rw [hH0] at hS ⊢; exact hS
  generalize (lg_sl ([.ref (q 0), .int (zI f)]) ++ List.replicate (5 - (lg_sl ([.ref (q 0), .int (zI f)])).length) Slot.unset).toArray = ls at hl ⊢
  have hl : lv_has ls 5 [(0, .ref (q 0)), (1, .int (zI f))] := hl
  refine zr_iconst hx hb dX3_go_0 ?_
  refine lv_istore_n (lv' := [(2, .int (zI 0)), (0, .ref (q 0)), (1, .int (zI f))]) hx hb dX3_go_1 rfl hl (by decide) rfl (fun ls hl => ?_)
  have L2_1 : ∀ (kf i : Nat), i ≤ n → n - i < kf → ∀ (H : Heap) (locs : List Loc) (ls : Array Slot), va_P D vwCl (wM cI cZ q pa sp al co da mo (stI st f i) mr th n td wn) H → va_S (fun a => a ∈ zLM q) s9.heap H locs → lv_has ls 5 [(2, .int (zI (i : Int))), (0, .ref (q 0)), (1, .int (zI f))] → W p0 l e9 ({ frames := 1, cells := 0, slots := 0, locals := 22 }) s9 m9 ag9 below meth c9 H locs 0 0 Q0 (F0 m9 2 ls []) := by
    intro kf
    induction kf with
    | zero => intro i h1 h2; omega
    | succ kf ih =>
      intro i hi_i hk_i H locs ls hP hS hl
      have ih_i := ih
      clear ih
      refine lv_iload_n hx hb dX3_go_2 rfl (lv_at hl 0 rfl) ?_
      refine lv_aload_n hx hb dX3_go_3 rfl (lv_at hl 1 rfl) ?_
      refine va_get (D := D) (ci := 3) (v := .int (zI (n : Int))) (C := RX3) (T := TX3) (N := 12) hx hb hts hin3 hown hK hP 0 rfl rfl 1 (by decide) (hts (.fieldLink RX3 39 "MourningRibbonsModel" "people" "I") (by decide +kernel)) (fun _ h9 => h9) rfl dX3_go_4 ?_
      refine zr_icmp_ge (tgt := 32) hx hb dX3_go_7 (by decide) ⟨by omega, by omega⟩ ⟨by omega, by omega⟩ (fun c_2 => ?_) (fun c_2 => ?_)
      · have c_2 := c_2
        have x_3 : i = n := by omega
        try rw [x_3] at hP
        try rw [x_3] at hl
        refine zr_iconst hx hb dX3_go_32 ?_
        refine lv_istore_n (lv' := [(2, .int (zI 0)), (0, .ref (q 0)), (1, .int (zI f))]) hx hb dX3_go_33 rfl hl (by decide) rfl (fun ls hl => ?_)
        refine lv_iload_n hx hb dX3_go_34 rfl (lv_at hl 0 rfl) ?_
        refine zr_iconst hx hb dX3_go_35 ?_
        refine zr_icmp_ge (tgt := 123) hx hb dX3_go_36 (by decide) ⟨by decide, by decide⟩ ⟨by decide, by decide⟩ (fun c_4 => by exfalso; revert c_4; decide) (fun c_4 => ?_)
        have hst9 : ∀ j : Int, -1 ≤ (stI st f n) j ∧ (stI st f n) j ≤ 4 := go0_bd hst pa sp n f
        refine zr_iconst hx hb dX3_go_39 ?_
        refine lv_istore_n (lv' := [(3, .int (zI 0)), (2, .int (zI 0)), (0, .ref (q 0)), (1, .int (zI f))]) hx hb dX3_go_40 rfl hl (by decide) rfl (fun ls hl => ?_)
        have L41_5 : ∀ (kf j : Nat), j ≤ n → n - j < kf → ∀ (H : Heap) (locs : List Loc) (ls : Array Slot), va_P D vwCl (wM cI cZ q pa sp al co da mo (mdF pa sp n 0 (stI st f n) j) mr th n td wn) H → va_S (fun a => a ∈ zLM q) s9.heap H locs → lv_has ls 5 [(3, .int (zI (j : Int))), (2, .int (zI 0)), (0, .ref (q 0)), (1, .int (zI f))] → W p0 l e9 ({ frames := 1, cells := 0, slots := 0, locals := 22 }) s9 m9 ag9 below meth c9 H locs 0 0 Q0 (F0 m9 41 ls []) := by
          intro kf
          induction kf with
          | zero => intro j h1 h2; omega
          | succ kf ih =>
            intro j hi_j hk_j H locs ls hP hS hl
            have ih_j := ih
            clear ih
            refine lv_iload_n hx hb dX3_go_41 rfl (lv_at hl 0 rfl) ?_
            refine lv_aload_n hx hb dX3_go_42 rfl (lv_at hl 2 rfl) ?_
            refine va_get (D := D) (ci := 3) (v := .int (zI (n : Int))) (C := RX3) (T := TX3) (N := 12) hx hb hts hin3 hown hK hP 0 rfl rfl 1 (by decide) (hts (.fieldLink RX3 39 "MourningRibbonsModel" "people" "I") (by decide +kernel)) (fun _ h9 => h9) rfl dX3_go_43 ?_
            refine zr_icmp_ge (tgt := 117) hx hb dX3_go_46 (by decide) ⟨by omega, by omega⟩ ⟨by omega, by omega⟩ (fun c_6 => ?_) (fun c_6 => ?_)
            · have c_6 := c_6
              have x_7 : j = n := by omega
              try rw [x_7] at hP
              try rw [x_7] at hl
              refine zr_iinc (v := 1) (lv' := [(2, .int (zI 1)), (3, .int (zI (n : Int))), (0, .ref (q 0)), (1, .int (zI f))]) hx hb dX3_go_117 hl (k := 1) rfl (by decide) (by decide) rfl (fun ls hl => ?_)
              refine lv_goto (tgt := 34) hx hb dX3_go_120 (by decide) ?_
              refine lv_iload_n hx hb dX3_go_34 rfl (lv_at hl 0 rfl) ?_
              refine zr_iconst hx hb dX3_go_35 ?_
              refine zr_icmp_ge (tgt := 123) hx hb dX3_go_36 (by decide) ⟨by decide, by decide⟩ ⟨by decide, by decide⟩ (fun c_8 => by exfalso; revert c_8; decide) (fun c_8 => ?_)
              have hst9 : ∀ j : Int, -1 ≤ (mdF pa sp n 0 (stI st f n) n) j ∧ (mdF pa sp n 0 (stI st f n) n) j ≤ 4 := go1_bd hst pa sp n f
              refine zr_iconst hx hb dX3_go_39 ?_
              refine lv_istore_n (lv' := [(3, .int (zI 0)), (2, .int (zI 1)), (0, .ref (q 0)), (1, .int (zI f))]) hx hb dX3_go_40 rfl hl (by decide) rfl (fun ls hl => ?_)
              have L41_9 : ∀ (kf j : Nat), j ≤ n → n - j < kf → ∀ (H : Heap) (locs : List Loc) (ls : Array Slot), va_P D vwCl (wM cI cZ q pa sp al co da mo (mdF pa sp n 1 (mdF pa sp n 0 (stI st f n) n) j) mr th n td wn) H → va_S (fun a => a ∈ zLM q) s9.heap H locs → lv_has ls 5 [(3, .int (zI (j : Int))), (2, .int (zI 1)), (0, .ref (q 0)), (1, .int (zI f))] → W p0 l e9 ({ frames := 1, cells := 0, slots := 0, locals := 22 }) s9 m9 ag9 below meth c9 H locs 0 0 Q0 (F0 m9 41 ls []) := by
                intro kf
                induction kf with
                | zero => intro j h1 h2; omega
                | succ kf ih =>
                  intro j hi_j hk_j H locs ls hP hS hl
                  have ih_j := ih
                  clear ih
                  refine lv_iload_n hx hb dX3_go_41 rfl (lv_at hl 0 rfl) ?_
                  refine lv_aload_n hx hb dX3_go_42 rfl (lv_at hl 2 rfl) ?_
                  refine va_get (D := D) (ci := 3) (v := .int (zI (n : Int))) (C := RX3) (T := TX3) (N := 12) hx hb hts hin3 hown hK hP 0 rfl rfl 1 (by decide) (hts (.fieldLink RX3 39 "MourningRibbonsModel" "people" "I") (by decide +kernel)) (fun _ h9 => h9) rfl dX3_go_43 ?_
                  refine zr_icmp_ge (tgt := 117) hx hb dX3_go_46 (by decide) ⟨by omega, by omega⟩ ⟨by omega, by omega⟩ (fun c_10 => ?_) (fun c_10 => ?_)
                  · have c_10 := c_10
                    have x_11 : j = n := by omega
                    try rw [x_11] at hP
                    try rw [x_11] at hl
                    refine zr_iinc (v := 2) (lv' := [(2, .int (zI 2)), (3, .int (zI (n : Int))), (0, .ref (q 0)), (1, .int (zI f))]) hx hb dX3_go_117 hl (k := 1) rfl (by decide) (by decide) rfl (fun ls hl => ?_)
                    refine lv_goto (tgt := 34) hx hb dX3_go_120 (by decide) ?_
                    refine lv_iload_n hx hb dX3_go_34 rfl (lv_at hl 0 rfl) ?_
                    refine zr_iconst hx hb dX3_go_35 ?_
                    refine zr_icmp_ge (tgt := 123) hx hb dX3_go_36 (by decide) ⟨by decide, by decide⟩ ⟨by decide, by decide⟩ (fun c_12 => by exfalso; revert c_12; decide) (fun c_12 => ?_)
                    have hst9 : ∀ j : Int, -1 ≤ (mdF pa sp n 1 (mdF pa sp n 0 (stI st f n) n) n) j ∧ (mdF pa sp n 1 (mdF pa sp n 0 (stI st f n) n) n) j ≤ 4 := go2_bd hst pa sp n f
                    refine zr_iconst hx hb dX3_go_39 ?_
                    refine lv_istore_n (lv' := [(3, .int (zI 0)), (2, .int (zI 2)), (0, .ref (q 0)), (1, .int (zI f))]) hx hb dX3_go_40 rfl hl (by decide) rfl (fun ls hl => ?_)
                    have L41_13 : ∀ (kf j : Nat), j ≤ n → n - j < kf → ∀ (H : Heap) (locs : List Loc) (ls : Array Slot), va_P D vwCl (wM cI cZ q pa sp al co da mo (mdF pa sp n 2 (mdF pa sp n 1 (mdF pa sp n 0 (stI st f n) n) n) j) mr th n td wn) H → va_S (fun a => a ∈ zLM q) s9.heap H locs → lv_has ls 5 [(3, .int (zI (j : Int))), (2, .int (zI 2)), (0, .ref (q 0)), (1, .int (zI f))] → W p0 l e9 ({ frames := 1, cells := 0, slots := 0, locals := 22 }) s9 m9 ag9 below meth c9 H locs 0 0 Q0 (F0 m9 41 ls []) := by
                      intro kf
                      induction kf with
                      | zero => intro j h1 h2; omega
                      | succ kf ih =>
                        intro j hi_j hk_j H locs ls hP hS hl
                        have ih_j := ih
                        clear ih
                        refine lv_iload_n hx hb dX3_go_41 rfl (lv_at hl 0 rfl) ?_
                        refine lv_aload_n hx hb dX3_go_42 rfl (lv_at hl 2 rfl) ?_
                        refine va_get (D := D) (ci := 3) (v := .int (zI (n : Int))) (C := RX3) (T := TX3) (N := 12) hx hb hts hin3 hown hK hP 0 rfl rfl 1 (by decide) (hts (.fieldLink RX3 39 "MourningRibbonsModel" "people" "I") (by decide +kernel)) (fun _ h9 => h9) rfl dX3_go_43 ?_
                        refine zr_icmp_ge (tgt := 117) hx hb dX3_go_46 (by decide) ⟨by omega, by omega⟩ ⟨by omega, by omega⟩ (fun c_14 => ?_) (fun c_14 => ?_)
                        · have c_14 := c_14
                          have x_15 : j = n := by omega
                          try rw [x_15] at hP
                          try rw [x_15] at hl
                          refine zr_iinc (v := 3) (lv' := [(2, .int (zI 3)), (3, .int (zI (n : Int))), (0, .ref (q 0)), (1, .int (zI f))]) hx hb dX3_go_117 hl (k := 1) rfl (by decide) (by decide) rfl (fun ls hl => ?_)
                          refine lv_goto (tgt := 34) hx hb dX3_go_120 (by decide) ?_
                          refine lv_iload_n hx hb dX3_go_34 rfl (lv_at hl 0 rfl) ?_
                          refine zr_iconst hx hb dX3_go_35 ?_
                          refine zr_icmp_ge (tgt := 123) hx hb dX3_go_36 (by decide) ⟨by decide, by decide⟩ ⟨by decide, by decide⟩ (fun c_16 => by exfalso; revert c_16; decide) (fun c_16 => ?_)
                          have hst9 : ∀ j : Int, -1 ≤ (mdF pa sp n 2 (mdF pa sp n 1 (mdF pa sp n 0 (stI st f n) n) n) n) j ∧ (mdF pa sp n 2 (mdF pa sp n 1 (mdF pa sp n 0 (stI st f n) n) n) n) j ≤ 4 := go3_bd hst pa sp n f
                          refine zr_iconst hx hb dX3_go_39 ?_
                          refine lv_istore_n (lv' := [(3, .int (zI 0)), (2, .int (zI 3)), (0, .ref (q 0)), (1, .int (zI f))]) hx hb dX3_go_40 rfl hl (by decide) rfl (fun ls hl => ?_)
                          have L41_17 : ∀ (kf j : Nat), j ≤ n → n - j < kf → ∀ (H : Heap) (locs : List Loc) (ls : Array Slot), va_P D vwCl (wM cI cZ q pa sp al co da mo (mdF pa sp n 3 (mdF pa sp n 2 (mdF pa sp n 1 (mdF pa sp n 0 (stI st f n) n) n) n) j) mr th n td wn) H → va_S (fun a => a ∈ zLM q) s9.heap H locs → lv_has ls 5 [(3, .int (zI (j : Int))), (2, .int (zI 3)), (0, .ref (q 0)), (1, .int (zI f))] → W p0 l e9 ({ frames := 1, cells := 0, slots := 0, locals := 22 }) s9 m9 ag9 below meth c9 H locs 0 0 Q0 (F0 m9 41 ls []) := by
                            intro kf
                            induction kf with
                            | zero => intro j h1 h2; omega
                            | succ kf ih =>
                              intro j hi_j hk_j H locs ls hP hS hl
                              have ih_j := ih
                              clear ih
                              refine lv_iload_n hx hb dX3_go_41 rfl (lv_at hl 0 rfl) ?_
                              refine lv_aload_n hx hb dX3_go_42 rfl (lv_at hl 2 rfl) ?_
                              refine va_get (D := D) (ci := 3) (v := .int (zI (n : Int))) (C := RX3) (T := TX3) (N := 12) hx hb hts hin3 hown hK hP 0 rfl rfl 1 (by decide) (hts (.fieldLink RX3 39 "MourningRibbonsModel" "people" "I") (by decide +kernel)) (fun _ h9 => h9) rfl dX3_go_43 ?_
                              refine zr_icmp_ge (tgt := 117) hx hb dX3_go_46 (by decide) ⟨by omega, by omega⟩ ⟨by omega, by omega⟩ (fun c_18 => ?_) (fun c_18 => ?_)
                              · have c_18 := c_18
                                have x_19 : j = n := by omega
                                try rw [x_19] at hP
                                try rw [x_19] at hl
                                refine zr_iinc (v := 4) (lv' := [(2, .int (zI 4)), (3, .int (zI (n : Int))), (0, .ref (q 0)), (1, .int (zI f))]) hx hb dX3_go_117 hl (k := 1) rfl (by decide) (by decide) rfl (fun ls hl => ?_)
                                refine lv_goto (tgt := 34) hx hb dX3_go_120 (by decide) ?_
                                refine lv_iload_n hx hb dX3_go_34 rfl (lv_at hl 0 rfl) ?_
                                refine zr_iconst hx hb dX3_go_35 ?_
                                refine zr_icmp_ge (tgt := 123) hx hb dX3_go_36 (by decide) ⟨by decide, by decide⟩ ⟨by decide, by decide⟩ (fun c_20 => ?_) (fun c_20 => by exfalso; revert c_20; decide)
                                have e_21 : (goF pa sp n st f : Int → Int) = mdF pa sp n 3 (mdF pa sp n 2 (mdF pa sp n 1 (mdF pa sp n 0 (stI st f n) n) n) n) n := rfl
                                have hP : va_P D vwCl (wM cI cZ q pa sp al co da mo (goF pa sp n st f) mr th n td wn) H := by rw [e_21]; exact hP
                                rw [hQ0]
                                exact zret_v hx hb hr hlocks hP hS dX3_go_123
                              · have c_18 := c_18
                                refine lv_aload_n hx hb dX3_go_49 rfl (lv_at hl 2 rfl) ?_
                                refine va_get (D := D) (ci := 3) (v := .ref (q 7)) (C := RX3) (T := TX3) (N := 12) hx hb hts hin3 hown hK hP 0 rfl rfl 10 (by decide) (hts (.fieldLink RX3 29 "MourningRibbonsModel" "steps" "[I") (by decide +kernel)) (fun _ h9 => h9) rfl dX3_go_50 ?_
                                refine lv_iload_n hx hb dX3_go_53 rfl (lv_at hl 0 rfl) ?_
                                refine zr_iald (f := mdF pa sp n 3 (mdF pa sp n 2 (mdF pa sp n 1 (mdF pa sp n 0 (stI st f n) n) n) n) j) (n := 16) hx hb hK hP 7 0 rfl rfl (by decide) (i := (j : Int)) (by omega) (by omega) dX3_go_54 ?_
                                have b_22 := (mdF_bd (pa := pa) (sp := sp) (n := n) (r := 3) hst9 ⟨by decide, by decide⟩ j) (j : Int)
                                refine lv_iload_n hx hb dX3_go_55 rfl (lv_at hl 1 rfl) ?_
                                refine zr_icmp_eq (tgt := 62) hx hb dX3_go_56 (by decide) ⟨by omega, by omega⟩ ⟨by decide, by decide⟩ (fun c_23 => ?_) (fun c_23 => ?_)
                                · have c_23 := c_23
                                  refine zr_iconst hx hb dX3_go_62 ?_
                                  refine lv_istore (lv' := [(4, .int (zI 0)), (3, .int (zI (j : Int))), (2, .int (zI 3)), (0, .ref (q 0)), (1, .int (zI f))]) hx hb dX3_go_63 hl (by decide) rfl (fun ls hl => ?_)
                                  have L65_24 : ∀ (kf k2 : Nat), k2 ≤ n → n - k2 < kf → ∀ (H : Heap) (locs : List Loc) (ls : Array Slot), va_P D vwCl (wM cI cZ q pa sp al co da mo (msB pa sp (mdF pa sp n 3 (mdF pa sp n 2 (mdF pa sp n 1 (mdF pa sp n 0 (stI st f n) n) n) n) j) (j : Int) 3 k2) mr th n td wn) H → va_S (fun a => a ∈ zLM q) s9.heap H locs → lv_has ls 5 [(4, .int (zI (k2 : Int))), (3, .int (zI (j : Int))), (2, .int (zI 3)), (0, .ref (q 0)), (1, .int (zI f))] → W p0 l e9 ({ frames := 1, cells := 0, slots := 0, locals := 22 }) s9 m9 ag9 below meth c9 H locs 0 0 Q0 (F0 m9 65 ls []) := by
                                    intro kf
                                    induction kf with
                                    | zero => intro k2 h1 h2; omega
                                    | succ kf ih =>
                                      intro k2 hi_k2 hk_k2 H locs ls hP hS hl
                                      have ih_k2 := ih
                                      clear ih
                                      have hk9 := fun a9 : Int → Int => fun r9 : Int => msB_k pa sp a9 (j : Int) r9 k2
                                      refine lv_iload hx hb dX3_go_65 (lv_at hl 0 rfl) ?_
                                      refine lv_aload_n hx hb dX3_go_67 rfl (lv_at hl 3 rfl) ?_
                                      refine va_get (D := D) (ci := 3) (v := .int (zI (n : Int))) (C := RX3) (T := TX3) (N := 12) hx hb hts hin3 hown hK hP 0 rfl rfl 1 (by decide) (hts (.fieldLink RX3 39 "MourningRibbonsModel" "people" "I") (by decide +kernel)) (fun _ h9 => h9) rfl dX3_go_68 ?_
                                      refine zr_icmp_ge (tgt := 111) hx hb dX3_go_71 (by decide) ⟨by omega, by omega⟩ ⟨by omega, by omega⟩ (fun c_25 => ?_) (fun c_25 => ?_)
                                      · have c_25 := c_25
                                        have x_26 : k2 = n := by omega
                                        try rw [x_26] at hP
                                        try rw [x_26] at hl
                                        refine zr_iinc (v := (j : Int) + 1) (lv' := [(3, .int (zI ((j : Int) + 1))), (4, .int (zI (n : Int))), (2, .int (zI 3)), (0, .ref (q 0)), (1, .int (zI f))]) hx hb dX3_go_111 hl (k := 1) rfl rfl (by decide) rfl (fun ls hl => ?_)
                                        refine lv_goto (tgt := 41) hx hb dX3_go_114 (by decide) ?_
                                        have hl := lv_sub hl (l' := [(3, .int (zI ((j : Int) + 1))), (2, .int (zI 3)), (0, .ref (q 0)), (1, .int (zI f))]) [0, 2, 3, 4] rfl
                                        have e_27 : ((((j + 1) : Nat) : Int) : Int) = (j : Int) + 1 := by omega
                                        have hl : lv_has ls 5 [(3, .int (zI (((j + 1) : Nat) : Int))), (2, .int (zI 3)), (0, .ref (q 0)), (1, .int (zI f))] := by rw [e_27]; exact hl
                                        have e_28 : (mdF pa sp n 3 (mdF pa sp n 2 (mdF pa sp n 1 (mdF pa sp n 0 (stI st f n) n) n) n) (j + 1) : Int → Int) = msB pa sp (mdF pa sp n 3 (mdF pa sp n 2 (mdF pa sp n 1 (mdF pa sp n 0 (stI st f n) n) n) n) j) (j : Int) 3 n := by first | exact mdF_y (by omega) | exact mdF_n (by omega)
                                        have hP : va_P D vwCl (wM cI cZ q pa sp al co da mo (mdF pa sp n 3 (mdF pa sp n 2 (mdF pa sp n 1 (mdF pa sp n 0 (stI st f n) n) n) n) (j + 1)) mr th n td wn) H := by rw [e_28]; exact hP
                                        exact ih_j (j + 1) (by omega) (by omega) _ _ _ hP hS hl
                                      · have c_25 := c_25
                                        refine lv_aload_n hx hb dX3_go_74 rfl (lv_at hl 3 rfl) ?_
                                        refine va_get (D := D) (ci := 3) (v := .ref (q 7)) (C := RX3) (T := TX3) (N := 12) hx hb hts hin3 hown hK hP 0 rfl rfl 10 (by decide) (hts (.fieldLink RX3 29 "MourningRibbonsModel" "steps" "[I") (by decide +kernel)) (fun _ h9 => h9) rfl dX3_go_75 ?_
                                        refine lv_iload hx hb dX3_go_78 (lv_at hl 0 rfl) ?_
                                        refine zr_iald (f := msB pa sp (mdF pa sp n 3 (mdF pa sp n 2 (mdF pa sp n 1 (mdF pa sp n 0 (stI st f n) n) n) n) j) (j : Int) 3 k2) (n := 16) hx hb hK hP 7 0 rfl rfl (by decide) (i := (k2 : Int)) (by omega) (by omega) dX3_go_80 ?_
                                        have b_29 := (msB_bd (pa := pa) (sp := sp) (a := (j : Int)) (r := 3) (mdF_bd (pa := pa) (sp := sp) (n := n) (r := 3) hst9 ⟨by decide, by decide⟩ j) ⟨by decide, by decide⟩ k2) (k2 : Int)
                                        refine zr_iconst hx hb dX3_go_81 ?_
                                        refine zr_icmp_ne (tgt := 105) hx hb dX3_go_82 (by decide) ⟨by omega, by omega⟩ ⟨by decide, by decide⟩ (fun c_30 => ?_) (fun c_30 => ?_)
                                        · have c_30 := c_30
                                          refine zr_iinc (v := (k2 : Int) + 1) (lv' := [(4, .int (zI ((k2 : Int) + 1))), (3, .int (zI (j : Int))), (2, .int (zI 3)), (0, .ref (q 0)), (1, .int (zI f))]) hx hb dX3_go_105 hl (k := 0) rfl rfl (by decide) rfl (fun ls hl => ?_)
                                          refine lv_goto (tgt := 65) hx hb dX3_go_108 (by decide) ?_
                                          have hl := lv_sub hl (l' := [(4, .int (zI ((k2 : Int) + 1))), (3, .int (zI (j : Int))), (2, .int (zI 3)), (0, .ref (q 0)), (1, .int (zI f))]) [0, 1, 2, 3, 4] rfl
                                          have e_31 : ((((k2 + 1) : Nat) : Int) : Int) = (k2 : Int) + 1 := by omega
                                          have hl : lv_has ls 5 [(4, .int (zI (((k2 + 1) : Nat) : Int))), (3, .int (zI (j : Int))), (2, .int (zI 3)), (0, .ref (q 0)), (1, .int (zI f))] := by rw [e_31]; exact hl
                                          have e_32 : (msB pa sp (mdF pa sp n 3 (mdF pa sp n 2 (mdF pa sp n 1 (mdF pa sp n 0 (stI st f n) n) n) n) j) (j : Int) 3 (k2 + 1) : Int → Int) = msB pa sp (mdF pa sp n 3 (mdF pa sp n 2 (mdF pa sp n 1 (mdF pa sp n 0 (stI st f n) n) n) n) j) (j : Int) 3 k2 := by have hk9 := msB_k pa sp (mdF pa sp n 3 (mdF pa sp n 2 (mdF pa sp n 1 (mdF pa sp n 0 (stI st f n) n) n) n) j) (j : Int) 3 k2; first | exact msB_y (by omega) (by assumption) (by decide) | (refine msB_n (fun hh => ?_); first | exact absurd hh.2 (by assumption) | (have h99 := hh.1; omega))
                                          have hP : va_P D vwCl (wM cI cZ q pa sp al co da mo (msB pa sp (mdF pa sp n 3 (mdF pa sp n 2 (mdF pa sp n 1 (mdF pa sp n 0 (stI st f n) n) n) n) j) (j : Int) 3 (k2 + 1)) mr th n td wn) H := by rw [e_32]; exact hP
                                          exact ih_k2 (k2 + 1) (by omega) (by omega) _ _ _ hP hS hl
                                        · have c_30 := c_30
                                          refine lv_aload_n hx hb dX3_go_85 rfl (lv_at hl 3 rfl) ?_
                                          refine lv_iload_n hx hb dX3_go_86 rfl (lv_at hl 1 rfl) ?_
                                          refine lv_iload hx hb dX3_go_87 (lv_at hl 0 rfl) ?_
                                          refine zcallV (ci := 3) (q0 := 0) (cq := (RX3, TX3, 12)) (As := [.int (zI (j : Int)), .int (zI (k2 : Int))]) (rest := []) ⟨hx, hb, hml, hown, hts⟩ hK (kX3_isStep l D cI cZ q hN pa sp al co da mo (msB pa sp (mdF pa sp n 3 (mdF pa sp n 2 (mdF pa sp n 1 (mdF pa sp n 0 (stI st f n) n) n) n) j) (j : Int) 3 k2) mr th n td wn hpa hsp (j : Int) (k2 : Int) (by omega) (by omega)) (cwV 2 hts gX3_go_X3_isStep rfl rfl rfl (by decide +kernel) ⟨Nat.le_of_ble_eq_true rfl, Nat.le_of_ble_eq_true rfl⟩) hP hS hA rfl rfl rfl hl.1 rfl (Nat.le_of_ble_eq_true rfl) dX3_go_89 ⟨Nat.zero_le _, Nat.zero_le _⟩ (fun H locs hP hS _ _ => ?_)
                                          refine W.eq (g2 := F0 m9 92 ls [.int (zI (bI (stp pa sp (j : Int) (k2 : Int))))]) rfl ?_
                                          refine zr_if_eq (tgt := 105) hx hb dX3_go_92 (by decide) (bI_rg _) (fun c_33 => ?_) (fun c_33 => ?_)
                                          · have c_33 := bI_z c_33
                                            refine zr_iinc (v := (k2 : Int) + 1) (lv' := [(4, .int (zI ((k2 : Int) + 1))), (3, .int (zI (j : Int))), (2, .int (zI 3)), (0, .ref (q 0)), (1, .int (zI f))]) hx hb dX3_go_105 hl (k := 0) rfl rfl (by decide) rfl (fun ls hl => ?_)
                                            refine lv_goto (tgt := 65) hx hb dX3_go_108 (by decide) ?_
                                            have hl := lv_sub hl (l' := [(4, .int (zI ((k2 : Int) + 1))), (3, .int (zI (j : Int))), (2, .int (zI 3)), (0, .ref (q 0)), (1, .int (zI f))]) [0, 1, 2, 3, 4] rfl
                                            have e_34 : ((((k2 + 1) : Nat) : Int) : Int) = (k2 : Int) + 1 := by omega
                                            have hl : lv_has ls 5 [(4, .int (zI (((k2 + 1) : Nat) : Int))), (3, .int (zI (j : Int))), (2, .int (zI 3)), (0, .ref (q 0)), (1, .int (zI f))] := by rw [e_34]; exact hl
                                            have e_35 : (msB pa sp (mdF pa sp n 3 (mdF pa sp n 2 (mdF pa sp n 1 (mdF pa sp n 0 (stI st f n) n) n) n) j) (j : Int) 3 (k2 + 1) : Int → Int) = msB pa sp (mdF pa sp n 3 (mdF pa sp n 2 (mdF pa sp n 1 (mdF pa sp n 0 (stI st f n) n) n) n) j) (j : Int) 3 k2 := by have hk9 := msB_k pa sp (mdF pa sp n 3 (mdF pa sp n 2 (mdF pa sp n 1 (mdF pa sp n 0 (stI st f n) n) n) n) j) (j : Int) 3 k2; first | exact msB_y (by omega) (by assumption) (by decide) | (refine msB_n (fun hh => ?_); first | exact absurd hh.2 (by assumption) | (have h99 := hh.1; omega))
                                            have hP : va_P D vwCl (wM cI cZ q pa sp al co da mo (msB pa sp (mdF pa sp n 3 (mdF pa sp n 2 (mdF pa sp n 1 (mdF pa sp n 0 (stI st f n) n) n) n) j) (j : Int) 3 (k2 + 1)) mr th n td wn) H := by rw [e_35]; exact hP
                                            exact ih_k2 (k2 + 1) (by omega) (by omega) _ _ _ hP hS hl
                                          · have c_33 := bI_n c_33
                                            refine lv_aload_n hx hb dX3_go_95 rfl (lv_at hl 3 rfl) ?_
                                            refine va_get (D := D) (ci := 3) (v := .ref (q 7)) (C := RX3) (T := TX3) (N := 12) hx hb hts hin3 hown hK hP 0 rfl rfl 10 (by decide) (hts (.fieldLink RX3 29 "MourningRibbonsModel" "steps" "[I") (by decide +kernel)) (fun _ h9 => h9) rfl dX3_go_96 ?_
                                            refine lv_iload hx hb dX3_go_99 (lv_at hl 0 rfl) ?_
                                            refine lv_iload_n hx hb dX3_go_101 rfl (lv_at hl 2 rfl) ?_
                                            refine zr_iconst hx hb dX3_go_102 ?_
                                            refine zr_iadd (v := 4) hx hb (by decide) dX3_go_103 ?_
                                            refine zr_iast (f := msB pa sp (mdF pa sp n 3 (mdF pa sp n 2 (mdF pa sp n 1 (mdF pa sp n 0 (stI st f n) n) n) n) j) (j : Int) 3 k2) (n := 16) hx hb hK hP hN rfl hA hS 7 0 rfl rfl (by decide) (i := (k2 : Int)) (x := 4) (by omega) (by omega) dX3_go_104 (fun H locs hP hS => ?_)
                                            have hP : va_P D vwCl (wM cI cZ q pa sp al co da mo (up (msB pa sp (mdF pa sp n 3 (mdF pa sp n 2 (mdF pa sp n 1 (mdF pa sp n 0 (stI st f n) n) n) n) j) (j : Int) 3 k2) (k2 : Int) 4) mr th n td wn) H := hP
                                            refine zr_iinc (v := (k2 : Int) + 1) (lv' := [(4, .int (zI ((k2 : Int) + 1))), (3, .int (zI (j : Int))), (2, .int (zI 3)), (0, .ref (q 0)), (1, .int (zI f))]) hx hb dX3_go_105 hl (k := 0) rfl rfl (by decide) rfl (fun ls hl => ?_)
                                            refine lv_goto (tgt := 65) hx hb dX3_go_108 (by decide) ?_
                                            have hl := lv_sub hl (l' := [(4, .int (zI ((k2 : Int) + 1))), (3, .int (zI (j : Int))), (2, .int (zI 3)), (0, .ref (q 0)), (1, .int (zI f))]) [0, 1, 2, 3, 4] rfl
                                            have e_36 : ((((k2 + 1) : Nat) : Int) : Int) = (k2 : Int) + 1 := by omega
                                            have hl : lv_has ls 5 [(4, .int (zI (((k2 + 1) : Nat) : Int))), (3, .int (zI (j : Int))), (2, .int (zI 3)), (0, .ref (q 0)), (1, .int (zI f))] := by rw [e_36]; exact hl
                                            have e_37 : (msB pa sp (mdF pa sp n 3 (mdF pa sp n 2 (mdF pa sp n 1 (mdF pa sp n 0 (stI st f n) n) n) n) j) (j : Int) 3 (k2 + 1) : Int → Int) = up (msB pa sp (mdF pa sp n 3 (mdF pa sp n 2 (mdF pa sp n 1 (mdF pa sp n 0 (stI st f n) n) n) n) j) (j : Int) 3 k2) (k2 : Int) 4 := by have hk9 := msB_k pa sp (mdF pa sp n 3 (mdF pa sp n 2 (mdF pa sp n 1 (mdF pa sp n 0 (stI st f n) n) n) n) j) (j : Int) 3 k2; first | exact msB_y (by omega) (by assumption) (by decide) | (refine msB_n (fun hh => ?_); first | exact absurd hh.2 (by assumption) | (have h99 := hh.1; omega))
                                            have hP : va_P D vwCl (wM cI cZ q pa sp al co da mo (msB pa sp (mdF pa sp n 3 (mdF pa sp n 2 (mdF pa sp n 1 (mdF pa sp n 0 (stI st f n) n) n) n) j) (j : Int) 3 (k2 + 1)) mr th n td wn) H := by rw [e_37]; exact hP
                                            exact ih_k2 (k2 + 1) (by omega) (by omega) _ _ _ hP hS hl
                                  have hl := lv_sub hl (l' := [(4, .int (zI 0)), (3, .int (zI (j : Int))), (2, .int (zI 3)), (0, .ref (q 0)), (1, .int (zI f))]) [0, 1, 2, 3, 4] rfl
                                  have e_38 : (msB pa sp (mdF pa sp n 3 (mdF pa sp n 2 (mdF pa sp n 1 (mdF pa sp n 0 (stI st f n) n) n) n) j) (j : Int) 3 0 : Int → Int) = mdF pa sp n 3 (mdF pa sp n 2 (mdF pa sp n 1 (mdF pa sp n 0 (stI st f n) n) n) n) j := msB_0 _ _ _ _ _
                                  have hP : va_P D vwCl (wM cI cZ q pa sp al co da mo (msB pa sp (mdF pa sp n 3 (mdF pa sp n 2 (mdF pa sp n 1 (mdF pa sp n 0 (stI st f n) n) n) n) j) (j : Int) 3 0) mr th n td wn) H := by rw [e_38]; exact hP
                                  exact L65_24 (n + 1) 0 (Nat.zero_le _) (by omega) _ _ _ hP hS hl
                                · have c_23 := c_23
                                  refine lv_goto (tgt := 111) hx hb dX3_go_59 (by decide) ?_
                                  refine zr_iinc (v := (j : Int) + 1) (lv' := [(3, .int (zI ((j : Int) + 1))), (2, .int (zI 3)), (0, .ref (q 0)), (1, .int (zI f))]) hx hb dX3_go_111 hl (k := 0) rfl rfl (by decide) rfl (fun ls hl => ?_)
                                  refine lv_goto (tgt := 41) hx hb dX3_go_114 (by decide) ?_
                                  have hl := lv_sub hl (l' := [(3, .int (zI ((j : Int) + 1))), (2, .int (zI 3)), (0, .ref (q 0)), (1, .int (zI f))]) [0, 1, 2, 3] rfl
                                  have e_39 : ((((j + 1) : Nat) : Int) : Int) = (j : Int) + 1 := by omega
                                  have hl : lv_has ls 5 [(3, .int (zI (((j + 1) : Nat) : Int))), (2, .int (zI 3)), (0, .ref (q 0)), (1, .int (zI f))] := by rw [e_39]; exact hl
                                  have e_40 : (mdF pa sp n 3 (mdF pa sp n 2 (mdF pa sp n 1 (mdF pa sp n 0 (stI st f n) n) n) n) (j + 1) : Int → Int) = mdF pa sp n 3 (mdF pa sp n 2 (mdF pa sp n 1 (mdF pa sp n 0 (stI st f n) n) n) n) j := by first | exact mdF_y (by omega) | exact mdF_n (by omega)
                                  have hP : va_P D vwCl (wM cI cZ q pa sp al co da mo (mdF pa sp n 3 (mdF pa sp n 2 (mdF pa sp n 1 (mdF pa sp n 0 (stI st f n) n) n) n) (j + 1)) mr th n td wn) H := by rw [e_40]; exact hP
                                  exact ih_j (j + 1) (by omega) (by omega) _ _ _ hP hS hl
                          have hl := lv_sub hl (l' := [(3, .int (zI 0)), (2, .int (zI 3)), (0, .ref (q 0)), (1, .int (zI f))]) [0, 1, 2, 3] rfl
                          have e_41 : (mdF pa sp n 3 (mdF pa sp n 2 (mdF pa sp n 1 (mdF pa sp n 0 (stI st f n) n) n) n) 0 : Int → Int) = mdF pa sp n 2 (mdF pa sp n 1 (mdF pa sp n 0 (stI st f n) n) n) n := rfl
                          have hP : va_P D vwCl (wM cI cZ q pa sp al co da mo (mdF pa sp n 3 (mdF pa sp n 2 (mdF pa sp n 1 (mdF pa sp n 0 (stI st f n) n) n) n) 0) mr th n td wn) H := by rw [e_41]; exact hP
                          exact L41_17 (n + 1) 0 (Nat.zero_le _) (by omega) _ _ _ hP hS hl
                        · have c_14 := c_14
                          refine lv_aload_n hx hb dX3_go_49 rfl (lv_at hl 2 rfl) ?_
                          refine va_get (D := D) (ci := 3) (v := .ref (q 7)) (C := RX3) (T := TX3) (N := 12) hx hb hts hin3 hown hK hP 0 rfl rfl 10 (by decide) (hts (.fieldLink RX3 29 "MourningRibbonsModel" "steps" "[I") (by decide +kernel)) (fun _ h9 => h9) rfl dX3_go_50 ?_
                          refine lv_iload_n hx hb dX3_go_53 rfl (lv_at hl 0 rfl) ?_
                          refine zr_iald (f := mdF pa sp n 2 (mdF pa sp n 1 (mdF pa sp n 0 (stI st f n) n) n) j) (n := 16) hx hb hK hP 7 0 rfl rfl (by decide) (i := (j : Int)) (by omega) (by omega) dX3_go_54 ?_
                          have b_42 := (mdF_bd (pa := pa) (sp := sp) (n := n) (r := 2) hst9 ⟨by decide, by decide⟩ j) (j : Int)
                          refine lv_iload_n hx hb dX3_go_55 rfl (lv_at hl 1 rfl) ?_
                          refine zr_icmp_eq (tgt := 62) hx hb dX3_go_56 (by decide) ⟨by omega, by omega⟩ ⟨by decide, by decide⟩ (fun c_43 => ?_) (fun c_43 => ?_)
                          · have c_43 := c_43
                            refine zr_iconst hx hb dX3_go_62 ?_
                            refine lv_istore (lv' := [(4, .int (zI 0)), (3, .int (zI (j : Int))), (2, .int (zI 2)), (0, .ref (q 0)), (1, .int (zI f))]) hx hb dX3_go_63 hl (by decide) rfl (fun ls hl => ?_)
                            have L65_44 : ∀ (kf k2 : Nat), k2 ≤ n → n - k2 < kf → ∀ (H : Heap) (locs : List Loc) (ls : Array Slot), va_P D vwCl (wM cI cZ q pa sp al co da mo (msB pa sp (mdF pa sp n 2 (mdF pa sp n 1 (mdF pa sp n 0 (stI st f n) n) n) j) (j : Int) 2 k2) mr th n td wn) H → va_S (fun a => a ∈ zLM q) s9.heap H locs → lv_has ls 5 [(4, .int (zI (k2 : Int))), (3, .int (zI (j : Int))), (2, .int (zI 2)), (0, .ref (q 0)), (1, .int (zI f))] → W p0 l e9 ({ frames := 1, cells := 0, slots := 0, locals := 22 }) s9 m9 ag9 below meth c9 H locs 0 0 Q0 (F0 m9 65 ls []) := by
                              intro kf
                              induction kf with
                              | zero => intro k2 h1 h2; omega
                              | succ kf ih =>
                                intro k2 hi_k2 hk_k2 H locs ls hP hS hl
                                have ih_k2 := ih
                                clear ih
                                have hk9 := fun a9 : Int → Int => fun r9 : Int => msB_k pa sp a9 (j : Int) r9 k2
                                refine lv_iload hx hb dX3_go_65 (lv_at hl 0 rfl) ?_
                                refine lv_aload_n hx hb dX3_go_67 rfl (lv_at hl 3 rfl) ?_
                                refine va_get (D := D) (ci := 3) (v := .int (zI (n : Int))) (C := RX3) (T := TX3) (N := 12) hx hb hts hin3 hown hK hP 0 rfl rfl 1 (by decide) (hts (.fieldLink RX3 39 "MourningRibbonsModel" "people" "I") (by decide +kernel)) (fun _ h9 => h9) rfl dX3_go_68 ?_
                                refine zr_icmp_ge (tgt := 111) hx hb dX3_go_71 (by decide) ⟨by omega, by omega⟩ ⟨by omega, by omega⟩ (fun c_45 => ?_) (fun c_45 => ?_)
                                · have c_45 := c_45
                                  have x_46 : k2 = n := by omega
                                  try rw [x_46] at hP
                                  try rw [x_46] at hl
                                  refine zr_iinc (v := (j : Int) + 1) (lv' := [(3, .int (zI ((j : Int) + 1))), (4, .int (zI (n : Int))), (2, .int (zI 2)), (0, .ref (q 0)), (1, .int (zI f))]) hx hb dX3_go_111 hl (k := 1) rfl rfl (by decide) rfl (fun ls hl => ?_)
                                  refine lv_goto (tgt := 41) hx hb dX3_go_114 (by decide) ?_
                                  have hl := lv_sub hl (l' := [(3, .int (zI ((j : Int) + 1))), (2, .int (zI 2)), (0, .ref (q 0)), (1, .int (zI f))]) [0, 2, 3, 4] rfl
                                  have e_47 : ((((j + 1) : Nat) : Int) : Int) = (j : Int) + 1 := by omega
                                  have hl : lv_has ls 5 [(3, .int (zI (((j + 1) : Nat) : Int))), (2, .int (zI 2)), (0, .ref (q 0)), (1, .int (zI f))] := by rw [e_47]; exact hl
                                  have e_48 : (mdF pa sp n 2 (mdF pa sp n 1 (mdF pa sp n 0 (stI st f n) n) n) (j + 1) : Int → Int) = msB pa sp (mdF pa sp n 2 (mdF pa sp n 1 (mdF pa sp n 0 (stI st f n) n) n) j) (j : Int) 2 n := by first | exact mdF_y (by omega) | exact mdF_n (by omega)
                                  have hP : va_P D vwCl (wM cI cZ q pa sp al co da mo (mdF pa sp n 2 (mdF pa sp n 1 (mdF pa sp n 0 (stI st f n) n) n) (j + 1)) mr th n td wn) H := by rw [e_48]; exact hP
                                  exact ih_j (j + 1) (by omega) (by omega) _ _ _ hP hS hl
                                · have c_45 := c_45
                                  refine lv_aload_n hx hb dX3_go_74 rfl (lv_at hl 3 rfl) ?_
                                  refine va_get (D := D) (ci := 3) (v := .ref (q 7)) (C := RX3) (T := TX3) (N := 12) hx hb hts hin3 hown hK hP 0 rfl rfl 10 (by decide) (hts (.fieldLink RX3 29 "MourningRibbonsModel" "steps" "[I") (by decide +kernel)) (fun _ h9 => h9) rfl dX3_go_75 ?_
                                  refine lv_iload hx hb dX3_go_78 (lv_at hl 0 rfl) ?_
                                  refine zr_iald (f := msB pa sp (mdF pa sp n 2 (mdF pa sp n 1 (mdF pa sp n 0 (stI st f n) n) n) j) (j : Int) 2 k2) (n := 16) hx hb hK hP 7 0 rfl rfl (by decide) (i := (k2 : Int)) (by omega) (by omega) dX3_go_80 ?_
                                  have b_49 := (msB_bd (pa := pa) (sp := sp) (a := (j : Int)) (r := 2) (mdF_bd (pa := pa) (sp := sp) (n := n) (r := 2) hst9 ⟨by decide, by decide⟩ j) ⟨by decide, by decide⟩ k2) (k2 : Int)
                                  refine zr_iconst hx hb dX3_go_81 ?_
                                  refine zr_icmp_ne (tgt := 105) hx hb dX3_go_82 (by decide) ⟨by omega, by omega⟩ ⟨by decide, by decide⟩ (fun c_50 => ?_) (fun c_50 => ?_)
                                  · have c_50 := c_50
                                    refine zr_iinc (v := (k2 : Int) + 1) (lv' := [(4, .int (zI ((k2 : Int) + 1))), (3, .int (zI (j : Int))), (2, .int (zI 2)), (0, .ref (q 0)), (1, .int (zI f))]) hx hb dX3_go_105 hl (k := 0) rfl rfl (by decide) rfl (fun ls hl => ?_)
                                    refine lv_goto (tgt := 65) hx hb dX3_go_108 (by decide) ?_
                                    have hl := lv_sub hl (l' := [(4, .int (zI ((k2 : Int) + 1))), (3, .int (zI (j : Int))), (2, .int (zI 2)), (0, .ref (q 0)), (1, .int (zI f))]) [0, 1, 2, 3, 4] rfl
                                    have e_51 : ((((k2 + 1) : Nat) : Int) : Int) = (k2 : Int) + 1 := by omega
                                    have hl : lv_has ls 5 [(4, .int (zI (((k2 + 1) : Nat) : Int))), (3, .int (zI (j : Int))), (2, .int (zI 2)), (0, .ref (q 0)), (1, .int (zI f))] := by rw [e_51]; exact hl
                                    have e_52 : (msB pa sp (mdF pa sp n 2 (mdF pa sp n 1 (mdF pa sp n 0 (stI st f n) n) n) j) (j : Int) 2 (k2 + 1) : Int → Int) = msB pa sp (mdF pa sp n 2 (mdF pa sp n 1 (mdF pa sp n 0 (stI st f n) n) n) j) (j : Int) 2 k2 := by have hk9 := msB_k pa sp (mdF pa sp n 2 (mdF pa sp n 1 (mdF pa sp n 0 (stI st f n) n) n) j) (j : Int) 2 k2; first | exact msB_y (by omega) (by assumption) (by decide) | (refine msB_n (fun hh => ?_); first | exact absurd hh.2 (by assumption) | (have h99 := hh.1; omega))
                                    have hP : va_P D vwCl (wM cI cZ q pa sp al co da mo (msB pa sp (mdF pa sp n 2 (mdF pa sp n 1 (mdF pa sp n 0 (stI st f n) n) n) j) (j : Int) 2 (k2 + 1)) mr th n td wn) H := by rw [e_52]; exact hP
                                    exact ih_k2 (k2 + 1) (by omega) (by omega) _ _ _ hP hS hl
                                  · have c_50 := c_50
                                    refine lv_aload_n hx hb dX3_go_85 rfl (lv_at hl 3 rfl) ?_
                                    refine lv_iload_n hx hb dX3_go_86 rfl (lv_at hl 1 rfl) ?_
                                    refine lv_iload hx hb dX3_go_87 (lv_at hl 0 rfl) ?_
                                    refine zcallV (ci := 3) (q0 := 0) (cq := (RX3, TX3, 12)) (As := [.int (zI (j : Int)), .int (zI (k2 : Int))]) (rest := []) ⟨hx, hb, hml, hown, hts⟩ hK (kX3_isStep l D cI cZ q hN pa sp al co da mo (msB pa sp (mdF pa sp n 2 (mdF pa sp n 1 (mdF pa sp n 0 (stI st f n) n) n) j) (j : Int) 2 k2) mr th n td wn hpa hsp (j : Int) (k2 : Int) (by omega) (by omega)) (cwV 2 hts gX3_go_X3_isStep rfl rfl rfl (by decide +kernel) ⟨Nat.le_of_ble_eq_true rfl, Nat.le_of_ble_eq_true rfl⟩) hP hS hA rfl rfl rfl hl.1 rfl (Nat.le_of_ble_eq_true rfl) dX3_go_89 ⟨Nat.zero_le _, Nat.zero_le _⟩ (fun H locs hP hS _ _ => ?_)
                                    refine W.eq (g2 := F0 m9 92 ls [.int (zI (bI (stp pa sp (j : Int) (k2 : Int))))]) rfl ?_
                                    refine zr_if_eq (tgt := 105) hx hb dX3_go_92 (by decide) (bI_rg _) (fun c_53 => ?_) (fun c_53 => ?_)
                                    · have c_53 := bI_z c_53
                                      refine zr_iinc (v := (k2 : Int) + 1) (lv' := [(4, .int (zI ((k2 : Int) + 1))), (3, .int (zI (j : Int))), (2, .int (zI 2)), (0, .ref (q 0)), (1, .int (zI f))]) hx hb dX3_go_105 hl (k := 0) rfl rfl (by decide) rfl (fun ls hl => ?_)
                                      refine lv_goto (tgt := 65) hx hb dX3_go_108 (by decide) ?_
                                      have hl := lv_sub hl (l' := [(4, .int (zI ((k2 : Int) + 1))), (3, .int (zI (j : Int))), (2, .int (zI 2)), (0, .ref (q 0)), (1, .int (zI f))]) [0, 1, 2, 3, 4] rfl
                                      have e_54 : ((((k2 + 1) : Nat) : Int) : Int) = (k2 : Int) + 1 := by omega
                                      have hl : lv_has ls 5 [(4, .int (zI (((k2 + 1) : Nat) : Int))), (3, .int (zI (j : Int))), (2, .int (zI 2)), (0, .ref (q 0)), (1, .int (zI f))] := by rw [e_54]; exact hl
                                      have e_55 : (msB pa sp (mdF pa sp n 2 (mdF pa sp n 1 (mdF pa sp n 0 (stI st f n) n) n) j) (j : Int) 2 (k2 + 1) : Int → Int) = msB pa sp (mdF pa sp n 2 (mdF pa sp n 1 (mdF pa sp n 0 (stI st f n) n) n) j) (j : Int) 2 k2 := by have hk9 := msB_k pa sp (mdF pa sp n 2 (mdF pa sp n 1 (mdF pa sp n 0 (stI st f n) n) n) j) (j : Int) 2 k2; first | exact msB_y (by omega) (by assumption) (by decide) | (refine msB_n (fun hh => ?_); first | exact absurd hh.2 (by assumption) | (have h99 := hh.1; omega))
                                      have hP : va_P D vwCl (wM cI cZ q pa sp al co da mo (msB pa sp (mdF pa sp n 2 (mdF pa sp n 1 (mdF pa sp n 0 (stI st f n) n) n) j) (j : Int) 2 (k2 + 1)) mr th n td wn) H := by rw [e_55]; exact hP
                                      exact ih_k2 (k2 + 1) (by omega) (by omega) _ _ _ hP hS hl
                                    · have c_53 := bI_n c_53
                                      refine lv_aload_n hx hb dX3_go_95 rfl (lv_at hl 3 rfl) ?_
                                      refine va_get (D := D) (ci := 3) (v := .ref (q 7)) (C := RX3) (T := TX3) (N := 12) hx hb hts hin3 hown hK hP 0 rfl rfl 10 (by decide) (hts (.fieldLink RX3 29 "MourningRibbonsModel" "steps" "[I") (by decide +kernel)) (fun _ h9 => h9) rfl dX3_go_96 ?_
                                      refine lv_iload hx hb dX3_go_99 (lv_at hl 0 rfl) ?_
                                      refine lv_iload_n hx hb dX3_go_101 rfl (lv_at hl 2 rfl) ?_
                                      refine zr_iconst hx hb dX3_go_102 ?_
                                      refine zr_iadd (v := 3) hx hb (by decide) dX3_go_103 ?_
                                      refine zr_iast (f := msB pa sp (mdF pa sp n 2 (mdF pa sp n 1 (mdF pa sp n 0 (stI st f n) n) n) j) (j : Int) 2 k2) (n := 16) hx hb hK hP hN rfl hA hS 7 0 rfl rfl (by decide) (i := (k2 : Int)) (x := 3) (by omega) (by omega) dX3_go_104 (fun H locs hP hS => ?_)
                                      have hP : va_P D vwCl (wM cI cZ q pa sp al co da mo (up (msB pa sp (mdF pa sp n 2 (mdF pa sp n 1 (mdF pa sp n 0 (stI st f n) n) n) j) (j : Int) 2 k2) (k2 : Int) 3) mr th n td wn) H := hP
                                      refine zr_iinc (v := (k2 : Int) + 1) (lv' := [(4, .int (zI ((k2 : Int) + 1))), (3, .int (zI (j : Int))), (2, .int (zI 2)), (0, .ref (q 0)), (1, .int (zI f))]) hx hb dX3_go_105 hl (k := 0) rfl rfl (by decide) rfl (fun ls hl => ?_)
                                      refine lv_goto (tgt := 65) hx hb dX3_go_108 (by decide) ?_
                                      have hl := lv_sub hl (l' := [(4, .int (zI ((k2 : Int) + 1))), (3, .int (zI (j : Int))), (2, .int (zI 2)), (0, .ref (q 0)), (1, .int (zI f))]) [0, 1, 2, 3, 4] rfl
                                      have e_56 : ((((k2 + 1) : Nat) : Int) : Int) = (k2 : Int) + 1 := by omega
                                      have hl : lv_has ls 5 [(4, .int (zI (((k2 + 1) : Nat) : Int))), (3, .int (zI (j : Int))), (2, .int (zI 2)), (0, .ref (q 0)), (1, .int (zI f))] := by rw [e_56]; exact hl
                                      have e_57 : (msB pa sp (mdF pa sp n 2 (mdF pa sp n 1 (mdF pa sp n 0 (stI st f n) n) n) j) (j : Int) 2 (k2 + 1) : Int → Int) = up (msB pa sp (mdF pa sp n 2 (mdF pa sp n 1 (mdF pa sp n 0 (stI st f n) n) n) j) (j : Int) 2 k2) (k2 : Int) 3 := by have hk9 := msB_k pa sp (mdF pa sp n 2 (mdF pa sp n 1 (mdF pa sp n 0 (stI st f n) n) n) j) (j : Int) 2 k2; first | exact msB_y (by omega) (by assumption) (by decide) | (refine msB_n (fun hh => ?_); first | exact absurd hh.2 (by assumption) | (have h99 := hh.1; omega))
                                      have hP : va_P D vwCl (wM cI cZ q pa sp al co da mo (msB pa sp (mdF pa sp n 2 (mdF pa sp n 1 (mdF pa sp n 0 (stI st f n) n) n) j) (j : Int) 2 (k2 + 1)) mr th n td wn) H := by rw [e_57]; exact hP
                                      exact ih_k2 (k2 + 1) (by omega) (by omega) _ _ _ hP hS hl
                            have hl := lv_sub hl (l' := [(4, .int (zI 0)), (3, .int (zI (j : Int))), (2, .int (zI 2)), (0, .ref (q 0)), (1, .int (zI f))]) [0, 1, 2, 3, 4] rfl
                            have e_58 : (msB pa sp (mdF pa sp n 2 (mdF pa sp n 1 (mdF pa sp n 0 (stI st f n) n) n) j) (j : Int) 2 0 : Int → Int) = mdF pa sp n 2 (mdF pa sp n 1 (mdF pa sp n 0 (stI st f n) n) n) j := msB_0 _ _ _ _ _
                            have hP : va_P D vwCl (wM cI cZ q pa sp al co da mo (msB pa sp (mdF pa sp n 2 (mdF pa sp n 1 (mdF pa sp n 0 (stI st f n) n) n) j) (j : Int) 2 0) mr th n td wn) H := by rw [e_58]; exact hP
                            exact L65_44 (n + 1) 0 (Nat.zero_le _) (by omega) _ _ _ hP hS hl
                          · have c_43 := c_43
                            refine lv_goto (tgt := 111) hx hb dX3_go_59 (by decide) ?_
                            refine zr_iinc (v := (j : Int) + 1) (lv' := [(3, .int (zI ((j : Int) + 1))), (2, .int (zI 2)), (0, .ref (q 0)), (1, .int (zI f))]) hx hb dX3_go_111 hl (k := 0) rfl rfl (by decide) rfl (fun ls hl => ?_)
                            refine lv_goto (tgt := 41) hx hb dX3_go_114 (by decide) ?_
                            have hl := lv_sub hl (l' := [(3, .int (zI ((j : Int) + 1))), (2, .int (zI 2)), (0, .ref (q 0)), (1, .int (zI f))]) [0, 1, 2, 3] rfl
                            have e_59 : ((((j + 1) : Nat) : Int) : Int) = (j : Int) + 1 := by omega
                            have hl : lv_has ls 5 [(3, .int (zI (((j + 1) : Nat) : Int))), (2, .int (zI 2)), (0, .ref (q 0)), (1, .int (zI f))] := by rw [e_59]; exact hl
                            have e_60 : (mdF pa sp n 2 (mdF pa sp n 1 (mdF pa sp n 0 (stI st f n) n) n) (j + 1) : Int → Int) = mdF pa sp n 2 (mdF pa sp n 1 (mdF pa sp n 0 (stI st f n) n) n) j := by first | exact mdF_y (by omega) | exact mdF_n (by omega)
                            have hP : va_P D vwCl (wM cI cZ q pa sp al co da mo (mdF pa sp n 2 (mdF pa sp n 1 (mdF pa sp n 0 (stI st f n) n) n) (j + 1)) mr th n td wn) H := by rw [e_60]; exact hP
                            exact ih_j (j + 1) (by omega) (by omega) _ _ _ hP hS hl
                    have hl := lv_sub hl (l' := [(3, .int (zI 0)), (2, .int (zI 2)), (0, .ref (q 0)), (1, .int (zI f))]) [0, 1, 2, 3] rfl
                    have e_61 : (mdF pa sp n 2 (mdF pa sp n 1 (mdF pa sp n 0 (stI st f n) n) n) 0 : Int → Int) = mdF pa sp n 1 (mdF pa sp n 0 (stI st f n) n) n := rfl
                    have hP : va_P D vwCl (wM cI cZ q pa sp al co da mo (mdF pa sp n 2 (mdF pa sp n 1 (mdF pa sp n 0 (stI st f n) n) n) 0) mr th n td wn) H := by rw [e_61]; exact hP
                    exact L41_13 (n + 1) 0 (Nat.zero_le _) (by omega) _ _ _ hP hS hl
                  · have c_10 := c_10
                    refine lv_aload_n hx hb dX3_go_49 rfl (lv_at hl 2 rfl) ?_
                    refine va_get (D := D) (ci := 3) (v := .ref (q 7)) (C := RX3) (T := TX3) (N := 12) hx hb hts hin3 hown hK hP 0 rfl rfl 10 (by decide) (hts (.fieldLink RX3 29 "MourningRibbonsModel" "steps" "[I") (by decide +kernel)) (fun _ h9 => h9) rfl dX3_go_50 ?_
                    refine lv_iload_n hx hb dX3_go_53 rfl (lv_at hl 0 rfl) ?_
                    refine zr_iald (f := mdF pa sp n 1 (mdF pa sp n 0 (stI st f n) n) j) (n := 16) hx hb hK hP 7 0 rfl rfl (by decide) (i := (j : Int)) (by omega) (by omega) dX3_go_54 ?_
                    have b_62 := (mdF_bd (pa := pa) (sp := sp) (n := n) (r := 1) hst9 ⟨by decide, by decide⟩ j) (j : Int)
                    refine lv_iload_n hx hb dX3_go_55 rfl (lv_at hl 1 rfl) ?_
                    refine zr_icmp_eq (tgt := 62) hx hb dX3_go_56 (by decide) ⟨by omega, by omega⟩ ⟨by decide, by decide⟩ (fun c_63 => ?_) (fun c_63 => ?_)
                    · have c_63 := c_63
                      refine zr_iconst hx hb dX3_go_62 ?_
                      refine lv_istore (lv' := [(4, .int (zI 0)), (3, .int (zI (j : Int))), (2, .int (zI 1)), (0, .ref (q 0)), (1, .int (zI f))]) hx hb dX3_go_63 hl (by decide) rfl (fun ls hl => ?_)
                      have L65_64 : ∀ (kf k2 : Nat), k2 ≤ n → n - k2 < kf → ∀ (H : Heap) (locs : List Loc) (ls : Array Slot), va_P D vwCl (wM cI cZ q pa sp al co da mo (msB pa sp (mdF pa sp n 1 (mdF pa sp n 0 (stI st f n) n) j) (j : Int) 1 k2) mr th n td wn) H → va_S (fun a => a ∈ zLM q) s9.heap H locs → lv_has ls 5 [(4, .int (zI (k2 : Int))), (3, .int (zI (j : Int))), (2, .int (zI 1)), (0, .ref (q 0)), (1, .int (zI f))] → W p0 l e9 ({ frames := 1, cells := 0, slots := 0, locals := 22 }) s9 m9 ag9 below meth c9 H locs 0 0 Q0 (F0 m9 65 ls []) := by
                        intro kf
                        induction kf with
                        | zero => intro k2 h1 h2; omega
                        | succ kf ih =>
                          intro k2 hi_k2 hk_k2 H locs ls hP hS hl
                          have ih_k2 := ih
                          clear ih
                          have hk9 := fun a9 : Int → Int => fun r9 : Int => msB_k pa sp a9 (j : Int) r9 k2
                          refine lv_iload hx hb dX3_go_65 (lv_at hl 0 rfl) ?_
                          refine lv_aload_n hx hb dX3_go_67 rfl (lv_at hl 3 rfl) ?_
                          refine va_get (D := D) (ci := 3) (v := .int (zI (n : Int))) (C := RX3) (T := TX3) (N := 12) hx hb hts hin3 hown hK hP 0 rfl rfl 1 (by decide) (hts (.fieldLink RX3 39 "MourningRibbonsModel" "people" "I") (by decide +kernel)) (fun _ h9 => h9) rfl dX3_go_68 ?_
                          refine zr_icmp_ge (tgt := 111) hx hb dX3_go_71 (by decide) ⟨by omega, by omega⟩ ⟨by omega, by omega⟩ (fun c_65 => ?_) (fun c_65 => ?_)
                          · have c_65 := c_65
                            have x_66 : k2 = n := by omega
                            try rw [x_66] at hP
                            try rw [x_66] at hl
                            refine zr_iinc (v := (j : Int) + 1) (lv' := [(3, .int (zI ((j : Int) + 1))), (4, .int (zI (n : Int))), (2, .int (zI 1)), (0, .ref (q 0)), (1, .int (zI f))]) hx hb dX3_go_111 hl (k := 1) rfl rfl (by decide) rfl (fun ls hl => ?_)
                            refine lv_goto (tgt := 41) hx hb dX3_go_114 (by decide) ?_
                            have hl := lv_sub hl (l' := [(3, .int (zI ((j : Int) + 1))), (2, .int (zI 1)), (0, .ref (q 0)), (1, .int (zI f))]) [0, 2, 3, 4] rfl
                            have e_67 : ((((j + 1) : Nat) : Int) : Int) = (j : Int) + 1 := by omega
                            have hl : lv_has ls 5 [(3, .int (zI (((j + 1) : Nat) : Int))), (2, .int (zI 1)), (0, .ref (q 0)), (1, .int (zI f))] := by rw [e_67]; exact hl
                            have e_68 : (mdF pa sp n 1 (mdF pa sp n 0 (stI st f n) n) (j + 1) : Int → Int) = msB pa sp (mdF pa sp n 1 (mdF pa sp n 0 (stI st f n) n) j) (j : Int) 1 n := by first | exact mdF_y (by omega) | exact mdF_n (by omega)
                            have hP : va_P D vwCl (wM cI cZ q pa sp al co da mo (mdF pa sp n 1 (mdF pa sp n 0 (stI st f n) n) (j + 1)) mr th n td wn) H := by rw [e_68]; exact hP
                            exact ih_j (j + 1) (by omega) (by omega) _ _ _ hP hS hl
                          · have c_65 := c_65
                            refine lv_aload_n hx hb dX3_go_74 rfl (lv_at hl 3 rfl) ?_
                            refine va_get (D := D) (ci := 3) (v := .ref (q 7)) (C := RX3) (T := TX3) (N := 12) hx hb hts hin3 hown hK hP 0 rfl rfl 10 (by decide) (hts (.fieldLink RX3 29 "MourningRibbonsModel" "steps" "[I") (by decide +kernel)) (fun _ h9 => h9) rfl dX3_go_75 ?_
                            refine lv_iload hx hb dX3_go_78 (lv_at hl 0 rfl) ?_
                            refine zr_iald (f := msB pa sp (mdF pa sp n 1 (mdF pa sp n 0 (stI st f n) n) j) (j : Int) 1 k2) (n := 16) hx hb hK hP 7 0 rfl rfl (by decide) (i := (k2 : Int)) (by omega) (by omega) dX3_go_80 ?_
                            have b_69 := (msB_bd (pa := pa) (sp := sp) (a := (j : Int)) (r := 1) (mdF_bd (pa := pa) (sp := sp) (n := n) (r := 1) hst9 ⟨by decide, by decide⟩ j) ⟨by decide, by decide⟩ k2) (k2 : Int)
                            refine zr_iconst hx hb dX3_go_81 ?_
                            refine zr_icmp_ne (tgt := 105) hx hb dX3_go_82 (by decide) ⟨by omega, by omega⟩ ⟨by decide, by decide⟩ (fun c_70 => ?_) (fun c_70 => ?_)
                            · have c_70 := c_70
                              refine zr_iinc (v := (k2 : Int) + 1) (lv' := [(4, .int (zI ((k2 : Int) + 1))), (3, .int (zI (j : Int))), (2, .int (zI 1)), (0, .ref (q 0)), (1, .int (zI f))]) hx hb dX3_go_105 hl (k := 0) rfl rfl (by decide) rfl (fun ls hl => ?_)
                              refine lv_goto (tgt := 65) hx hb dX3_go_108 (by decide) ?_
                              have hl := lv_sub hl (l' := [(4, .int (zI ((k2 : Int) + 1))), (3, .int (zI (j : Int))), (2, .int (zI 1)), (0, .ref (q 0)), (1, .int (zI f))]) [0, 1, 2, 3, 4] rfl
                              have e_71 : ((((k2 + 1) : Nat) : Int) : Int) = (k2 : Int) + 1 := by omega
                              have hl : lv_has ls 5 [(4, .int (zI (((k2 + 1) : Nat) : Int))), (3, .int (zI (j : Int))), (2, .int (zI 1)), (0, .ref (q 0)), (1, .int (zI f))] := by rw [e_71]; exact hl
                              have e_72 : (msB pa sp (mdF pa sp n 1 (mdF pa sp n 0 (stI st f n) n) j) (j : Int) 1 (k2 + 1) : Int → Int) = msB pa sp (mdF pa sp n 1 (mdF pa sp n 0 (stI st f n) n) j) (j : Int) 1 k2 := by have hk9 := msB_k pa sp (mdF pa sp n 1 (mdF pa sp n 0 (stI st f n) n) j) (j : Int) 1 k2; first | exact msB_y (by omega) (by assumption) (by decide) | (refine msB_n (fun hh => ?_); first | exact absurd hh.2 (by assumption) | (have h99 := hh.1; omega))
                              have hP : va_P D vwCl (wM cI cZ q pa sp al co da mo (msB pa sp (mdF pa sp n 1 (mdF pa sp n 0 (stI st f n) n) j) (j : Int) 1 (k2 + 1)) mr th n td wn) H := by rw [e_72]; exact hP
                              exact ih_k2 (k2 + 1) (by omega) (by omega) _ _ _ hP hS hl
                            · have c_70 := c_70
                              refine lv_aload_n hx hb dX3_go_85 rfl (lv_at hl 3 rfl) ?_
                              refine lv_iload_n hx hb dX3_go_86 rfl (lv_at hl 1 rfl) ?_
                              refine lv_iload hx hb dX3_go_87 (lv_at hl 0 rfl) ?_
                              refine zcallV (ci := 3) (q0 := 0) (cq := (RX3, TX3, 12)) (As := [.int (zI (j : Int)), .int (zI (k2 : Int))]) (rest := []) ⟨hx, hb, hml, hown, hts⟩ hK (kX3_isStep l D cI cZ q hN pa sp al co da mo (msB pa sp (mdF pa sp n 1 (mdF pa sp n 0 (stI st f n) n) j) (j : Int) 1 k2) mr th n td wn hpa hsp (j : Int) (k2 : Int) (by omega) (by omega)) (cwV 2 hts gX3_go_X3_isStep rfl rfl rfl (by decide +kernel) ⟨Nat.le_of_ble_eq_true rfl, Nat.le_of_ble_eq_true rfl⟩) hP hS hA rfl rfl rfl hl.1 rfl (Nat.le_of_ble_eq_true rfl) dX3_go_89 ⟨Nat.zero_le _, Nat.zero_le _⟩ (fun H locs hP hS _ _ => ?_)
                              refine W.eq (g2 := F0 m9 92 ls [.int (zI (bI (stp pa sp (j : Int) (k2 : Int))))]) rfl ?_
                              refine zr_if_eq (tgt := 105) hx hb dX3_go_92 (by decide) (bI_rg _) (fun c_73 => ?_) (fun c_73 => ?_)
                              · have c_73 := bI_z c_73
                                refine zr_iinc (v := (k2 : Int) + 1) (lv' := [(4, .int (zI ((k2 : Int) + 1))), (3, .int (zI (j : Int))), (2, .int (zI 1)), (0, .ref (q 0)), (1, .int (zI f))]) hx hb dX3_go_105 hl (k := 0) rfl rfl (by decide) rfl (fun ls hl => ?_)
                                refine lv_goto (tgt := 65) hx hb dX3_go_108 (by decide) ?_
                                have hl := lv_sub hl (l' := [(4, .int (zI ((k2 : Int) + 1))), (3, .int (zI (j : Int))), (2, .int (zI 1)), (0, .ref (q 0)), (1, .int (zI f))]) [0, 1, 2, 3, 4] rfl
                                have e_74 : ((((k2 + 1) : Nat) : Int) : Int) = (k2 : Int) + 1 := by omega
                                have hl : lv_has ls 5 [(4, .int (zI (((k2 + 1) : Nat) : Int))), (3, .int (zI (j : Int))), (2, .int (zI 1)), (0, .ref (q 0)), (1, .int (zI f))] := by rw [e_74]; exact hl
                                have e_75 : (msB pa sp (mdF pa sp n 1 (mdF pa sp n 0 (stI st f n) n) j) (j : Int) 1 (k2 + 1) : Int → Int) = msB pa sp (mdF pa sp n 1 (mdF pa sp n 0 (stI st f n) n) j) (j : Int) 1 k2 := by have hk9 := msB_k pa sp (mdF pa sp n 1 (mdF pa sp n 0 (stI st f n) n) j) (j : Int) 1 k2; first | exact msB_y (by omega) (by assumption) (by decide) | (refine msB_n (fun hh => ?_); first | exact absurd hh.2 (by assumption) | (have h99 := hh.1; omega))
                                have hP : va_P D vwCl (wM cI cZ q pa sp al co da mo (msB pa sp (mdF pa sp n 1 (mdF pa sp n 0 (stI st f n) n) j) (j : Int) 1 (k2 + 1)) mr th n td wn) H := by rw [e_75]; exact hP
                                exact ih_k2 (k2 + 1) (by omega) (by omega) _ _ _ hP hS hl
                              · have c_73 := bI_n c_73
                                refine lv_aload_n hx hb dX3_go_95 rfl (lv_at hl 3 rfl) ?_
                                refine va_get (D := D) (ci := 3) (v := .ref (q 7)) (C := RX3) (T := TX3) (N := 12) hx hb hts hin3 hown hK hP 0 rfl rfl 10 (by decide) (hts (.fieldLink RX3 29 "MourningRibbonsModel" "steps" "[I") (by decide +kernel)) (fun _ h9 => h9) rfl dX3_go_96 ?_
                                refine lv_iload hx hb dX3_go_99 (lv_at hl 0 rfl) ?_
                                refine lv_iload_n hx hb dX3_go_101 rfl (lv_at hl 2 rfl) ?_
                                refine zr_iconst hx hb dX3_go_102 ?_
                                refine zr_iadd (v := 2) hx hb (by decide) dX3_go_103 ?_
                                refine zr_iast (f := msB pa sp (mdF pa sp n 1 (mdF pa sp n 0 (stI st f n) n) j) (j : Int) 1 k2) (n := 16) hx hb hK hP hN rfl hA hS 7 0 rfl rfl (by decide) (i := (k2 : Int)) (x := 2) (by omega) (by omega) dX3_go_104 (fun H locs hP hS => ?_)
                                have hP : va_P D vwCl (wM cI cZ q pa sp al co da mo (up (msB pa sp (mdF pa sp n 1 (mdF pa sp n 0 (stI st f n) n) j) (j : Int) 1 k2) (k2 : Int) 2) mr th n td wn) H := hP
                                refine zr_iinc (v := (k2 : Int) + 1) (lv' := [(4, .int (zI ((k2 : Int) + 1))), (3, .int (zI (j : Int))), (2, .int (zI 1)), (0, .ref (q 0)), (1, .int (zI f))]) hx hb dX3_go_105 hl (k := 0) rfl rfl (by decide) rfl (fun ls hl => ?_)
                                refine lv_goto (tgt := 65) hx hb dX3_go_108 (by decide) ?_
                                have hl := lv_sub hl (l' := [(4, .int (zI ((k2 : Int) + 1))), (3, .int (zI (j : Int))), (2, .int (zI 1)), (0, .ref (q 0)), (1, .int (zI f))]) [0, 1, 2, 3, 4] rfl
                                have e_76 : ((((k2 + 1) : Nat) : Int) : Int) = (k2 : Int) + 1 := by omega
                                have hl : lv_has ls 5 [(4, .int (zI (((k2 + 1) : Nat) : Int))), (3, .int (zI (j : Int))), (2, .int (zI 1)), (0, .ref (q 0)), (1, .int (zI f))] := by rw [e_76]; exact hl
                                have e_77 : (msB pa sp (mdF pa sp n 1 (mdF pa sp n 0 (stI st f n) n) j) (j : Int) 1 (k2 + 1) : Int → Int) = up (msB pa sp (mdF pa sp n 1 (mdF pa sp n 0 (stI st f n) n) j) (j : Int) 1 k2) (k2 : Int) 2 := by have hk9 := msB_k pa sp (mdF pa sp n 1 (mdF pa sp n 0 (stI st f n) n) j) (j : Int) 1 k2; first | exact msB_y (by omega) (by assumption) (by decide) | (refine msB_n (fun hh => ?_); first | exact absurd hh.2 (by assumption) | (have h99 := hh.1; omega))
                                have hP : va_P D vwCl (wM cI cZ q pa sp al co da mo (msB pa sp (mdF pa sp n 1 (mdF pa sp n 0 (stI st f n) n) j) (j : Int) 1 (k2 + 1)) mr th n td wn) H := by rw [e_77]; exact hP
                                exact ih_k2 (k2 + 1) (by omega) (by omega) _ _ _ hP hS hl
                      have hl := lv_sub hl (l' := [(4, .int (zI 0)), (3, .int (zI (j : Int))), (2, .int (zI 1)), (0, .ref (q 0)), (1, .int (zI f))]) [0, 1, 2, 3, 4] rfl
                      have e_78 : (msB pa sp (mdF pa sp n 1 (mdF pa sp n 0 (stI st f n) n) j) (j : Int) 1 0 : Int → Int) = mdF pa sp n 1 (mdF pa sp n 0 (stI st f n) n) j := msB_0 _ _ _ _ _
                      have hP : va_P D vwCl (wM cI cZ q pa sp al co da mo (msB pa sp (mdF pa sp n 1 (mdF pa sp n 0 (stI st f n) n) j) (j : Int) 1 0) mr th n td wn) H := by rw [e_78]; exact hP
                      exact L65_64 (n + 1) 0 (Nat.zero_le _) (by omega) _ _ _ hP hS hl
                    · have c_63 := c_63
                      refine lv_goto (tgt := 111) hx hb dX3_go_59 (by decide) ?_
                      refine zr_iinc (v := (j : Int) + 1) (lv' := [(3, .int (zI ((j : Int) + 1))), (2, .int (zI 1)), (0, .ref (q 0)), (1, .int (zI f))]) hx hb dX3_go_111 hl (k := 0) rfl rfl (by decide) rfl (fun ls hl => ?_)
                      refine lv_goto (tgt := 41) hx hb dX3_go_114 (by decide) ?_
                      have hl := lv_sub hl (l' := [(3, .int (zI ((j : Int) + 1))), (2, .int (zI 1)), (0, .ref (q 0)), (1, .int (zI f))]) [0, 1, 2, 3] rfl
                      have e_79 : ((((j + 1) : Nat) : Int) : Int) = (j : Int) + 1 := by omega
                      have hl : lv_has ls 5 [(3, .int (zI (((j + 1) : Nat) : Int))), (2, .int (zI 1)), (0, .ref (q 0)), (1, .int (zI f))] := by rw [e_79]; exact hl
                      have e_80 : (mdF pa sp n 1 (mdF pa sp n 0 (stI st f n) n) (j + 1) : Int → Int) = mdF pa sp n 1 (mdF pa sp n 0 (stI st f n) n) j := by first | exact mdF_y (by omega) | exact mdF_n (by omega)
                      have hP : va_P D vwCl (wM cI cZ q pa sp al co da mo (mdF pa sp n 1 (mdF pa sp n 0 (stI st f n) n) (j + 1)) mr th n td wn) H := by rw [e_80]; exact hP
                      exact ih_j (j + 1) (by omega) (by omega) _ _ _ hP hS hl
              have hl := lv_sub hl (l' := [(3, .int (zI 0)), (2, .int (zI 1)), (0, .ref (q 0)), (1, .int (zI f))]) [0, 1, 2, 3] rfl
              have e_81 : (mdF pa sp n 1 (mdF pa sp n 0 (stI st f n) n) 0 : Int → Int) = mdF pa sp n 0 (stI st f n) n := rfl
              have hP : va_P D vwCl (wM cI cZ q pa sp al co da mo (mdF pa sp n 1 (mdF pa sp n 0 (stI st f n) n) 0) mr th n td wn) H := by rw [e_81]; exact hP
              exact L41_9 (n + 1) 0 (Nat.zero_le _) (by omega) _ _ _ hP hS hl
            · have c_6 := c_6
              refine lv_aload_n hx hb dX3_go_49 rfl (lv_at hl 2 rfl) ?_
              refine va_get (D := D) (ci := 3) (v := .ref (q 7)) (C := RX3) (T := TX3) (N := 12) hx hb hts hin3 hown hK hP 0 rfl rfl 10 (by decide) (hts (.fieldLink RX3 29 "MourningRibbonsModel" "steps" "[I") (by decide +kernel)) (fun _ h9 => h9) rfl dX3_go_50 ?_
              refine lv_iload_n hx hb dX3_go_53 rfl (lv_at hl 0 rfl) ?_
              refine zr_iald (f := mdF pa sp n 0 (stI st f n) j) (n := 16) hx hb hK hP 7 0 rfl rfl (by decide) (i := (j : Int)) (by omega) (by omega) dX3_go_54 ?_
              have b_82 := (mdF_bd (pa := pa) (sp := sp) (n := n) (r := 0) hst9 ⟨by decide, by decide⟩ j) (j : Int)
              refine lv_iload_n hx hb dX3_go_55 rfl (lv_at hl 1 rfl) ?_
              refine zr_icmp_eq (tgt := 62) hx hb dX3_go_56 (by decide) ⟨by omega, by omega⟩ ⟨by decide, by decide⟩ (fun c_83 => ?_) (fun c_83 => ?_)
              · have c_83 := c_83
                refine zr_iconst hx hb dX3_go_62 ?_
                refine lv_istore (lv' := [(4, .int (zI 0)), (3, .int (zI (j : Int))), (2, .int (zI 0)), (0, .ref (q 0)), (1, .int (zI f))]) hx hb dX3_go_63 hl (by decide) rfl (fun ls hl => ?_)
                have L65_84 : ∀ (kf k2 : Nat), k2 ≤ n → n - k2 < kf → ∀ (H : Heap) (locs : List Loc) (ls : Array Slot), va_P D vwCl (wM cI cZ q pa sp al co da mo (msB pa sp (mdF pa sp n 0 (stI st f n) j) (j : Int) 0 k2) mr th n td wn) H → va_S (fun a => a ∈ zLM q) s9.heap H locs → lv_has ls 5 [(4, .int (zI (k2 : Int))), (3, .int (zI (j : Int))), (2, .int (zI 0)), (0, .ref (q 0)), (1, .int (zI f))] → W p0 l e9 ({ frames := 1, cells := 0, slots := 0, locals := 22 }) s9 m9 ag9 below meth c9 H locs 0 0 Q0 (F0 m9 65 ls []) := by
                  intro kf
                  induction kf with
                  | zero => intro k2 h1 h2; omega
                  | succ kf ih =>
                    intro k2 hi_k2 hk_k2 H locs ls hP hS hl
                    have ih_k2 := ih
                    clear ih
                    have hk9 := fun a9 : Int → Int => fun r9 : Int => msB_k pa sp a9 (j : Int) r9 k2
                    refine lv_iload hx hb dX3_go_65 (lv_at hl 0 rfl) ?_
                    refine lv_aload_n hx hb dX3_go_67 rfl (lv_at hl 3 rfl) ?_
                    refine va_get (D := D) (ci := 3) (v := .int (zI (n : Int))) (C := RX3) (T := TX3) (N := 12) hx hb hts hin3 hown hK hP 0 rfl rfl 1 (by decide) (hts (.fieldLink RX3 39 "MourningRibbonsModel" "people" "I") (by decide +kernel)) (fun _ h9 => h9) rfl dX3_go_68 ?_
                    refine zr_icmp_ge (tgt := 111) hx hb dX3_go_71 (by decide) ⟨by omega, by omega⟩ ⟨by omega, by omega⟩ (fun c_85 => ?_) (fun c_85 => ?_)
                    · have c_85 := c_85
                      have x_86 : k2 = n := by omega
                      try rw [x_86] at hP
                      try rw [x_86] at hl
                      refine zr_iinc (v := (j : Int) + 1) (lv' := [(3, .int (zI ((j : Int) + 1))), (4, .int (zI (n : Int))), (2, .int (zI 0)), (0, .ref (q 0)), (1, .int (zI f))]) hx hb dX3_go_111 hl (k := 1) rfl rfl (by decide) rfl (fun ls hl => ?_)
                      refine lv_goto (tgt := 41) hx hb dX3_go_114 (by decide) ?_
                      have hl := lv_sub hl (l' := [(3, .int (zI ((j : Int) + 1))), (2, .int (zI 0)), (0, .ref (q 0)), (1, .int (zI f))]) [0, 2, 3, 4] rfl
                      have e_87 : ((((j + 1) : Nat) : Int) : Int) = (j : Int) + 1 := by omega
                      have hl : lv_has ls 5 [(3, .int (zI (((j + 1) : Nat) : Int))), (2, .int (zI 0)), (0, .ref (q 0)), (1, .int (zI f))] := by rw [e_87]; exact hl
                      have e_88 : (mdF pa sp n 0 (stI st f n) (j + 1) : Int → Int) = msB pa sp (mdF pa sp n 0 (stI st f n) j) (j : Int) 0 n := by first | exact mdF_y (by omega) | exact mdF_n (by omega)
                      have hP : va_P D vwCl (wM cI cZ q pa sp al co da mo (mdF pa sp n 0 (stI st f n) (j + 1)) mr th n td wn) H := by rw [e_88]; exact hP
                      exact ih_j (j + 1) (by omega) (by omega) _ _ _ hP hS hl
                    · have c_85 := c_85
                      refine lv_aload_n hx hb dX3_go_74 rfl (lv_at hl 3 rfl) ?_
                      refine va_get (D := D) (ci := 3) (v := .ref (q 7)) (C := RX3) (T := TX3) (N := 12) hx hb hts hin3 hown hK hP 0 rfl rfl 10 (by decide) (hts (.fieldLink RX3 29 "MourningRibbonsModel" "steps" "[I") (by decide +kernel)) (fun _ h9 => h9) rfl dX3_go_75 ?_
                      refine lv_iload hx hb dX3_go_78 (lv_at hl 0 rfl) ?_
                      refine zr_iald (f := msB pa sp (mdF pa sp n 0 (stI st f n) j) (j : Int) 0 k2) (n := 16) hx hb hK hP 7 0 rfl rfl (by decide) (i := (k2 : Int)) (by omega) (by omega) dX3_go_80 ?_
                      have b_89 := (msB_bd (pa := pa) (sp := sp) (a := (j : Int)) (r := 0) (mdF_bd (pa := pa) (sp := sp) (n := n) (r := 0) hst9 ⟨by decide, by decide⟩ j) ⟨by decide, by decide⟩ k2) (k2 : Int)
                      refine zr_iconst hx hb dX3_go_81 ?_
                      refine zr_icmp_ne (tgt := 105) hx hb dX3_go_82 (by decide) ⟨by omega, by omega⟩ ⟨by decide, by decide⟩ (fun c_90 => ?_) (fun c_90 => ?_)
                      · have c_90 := c_90
                        refine zr_iinc (v := (k2 : Int) + 1) (lv' := [(4, .int (zI ((k2 : Int) + 1))), (3, .int (zI (j : Int))), (2, .int (zI 0)), (0, .ref (q 0)), (1, .int (zI f))]) hx hb dX3_go_105 hl (k := 0) rfl rfl (by decide) rfl (fun ls hl => ?_)
                        refine lv_goto (tgt := 65) hx hb dX3_go_108 (by decide) ?_
                        have hl := lv_sub hl (l' := [(4, .int (zI ((k2 : Int) + 1))), (3, .int (zI (j : Int))), (2, .int (zI 0)), (0, .ref (q 0)), (1, .int (zI f))]) [0, 1, 2, 3, 4] rfl
                        have e_91 : ((((k2 + 1) : Nat) : Int) : Int) = (k2 : Int) + 1 := by omega
                        have hl : lv_has ls 5 [(4, .int (zI (((k2 + 1) : Nat) : Int))), (3, .int (zI (j : Int))), (2, .int (zI 0)), (0, .ref (q 0)), (1, .int (zI f))] := by rw [e_91]; exact hl
                        have e_92 : (msB pa sp (mdF pa sp n 0 (stI st f n) j) (j : Int) 0 (k2 + 1) : Int → Int) = msB pa sp (mdF pa sp n 0 (stI st f n) j) (j : Int) 0 k2 := by have hk9 := msB_k pa sp (mdF pa sp n 0 (stI st f n) j) (j : Int) 0 k2; first | exact msB_y (by omega) (by assumption) (by decide) | (refine msB_n (fun hh => ?_); first | exact absurd hh.2 (by assumption) | (have h99 := hh.1; omega))
                        have hP : va_P D vwCl (wM cI cZ q pa sp al co da mo (msB pa sp (mdF pa sp n 0 (stI st f n) j) (j : Int) 0 (k2 + 1)) mr th n td wn) H := by rw [e_92]; exact hP
                        exact ih_k2 (k2 + 1) (by omega) (by omega) _ _ _ hP hS hl
                      · have c_90 := c_90
                        refine lv_aload_n hx hb dX3_go_85 rfl (lv_at hl 3 rfl) ?_
                        refine lv_iload_n hx hb dX3_go_86 rfl (lv_at hl 1 rfl) ?_
                        refine lv_iload hx hb dX3_go_87 (lv_at hl 0 rfl) ?_
                        refine zcallV (ci := 3) (q0 := 0) (cq := (RX3, TX3, 12)) (As := [.int (zI (j : Int)), .int (zI (k2 : Int))]) (rest := []) ⟨hx, hb, hml, hown, hts⟩ hK (kX3_isStep l D cI cZ q hN pa sp al co da mo (msB pa sp (mdF pa sp n 0 (stI st f n) j) (j : Int) 0 k2) mr th n td wn hpa hsp (j : Int) (k2 : Int) (by omega) (by omega)) (cwV 2 hts gX3_go_X3_isStep rfl rfl rfl (by decide +kernel) ⟨Nat.le_of_ble_eq_true rfl, Nat.le_of_ble_eq_true rfl⟩) hP hS hA rfl rfl rfl hl.1 rfl (Nat.le_of_ble_eq_true rfl) dX3_go_89 ⟨Nat.zero_le _, Nat.zero_le _⟩ (fun H locs hP hS _ _ => ?_)
                        refine W.eq (g2 := F0 m9 92 ls [.int (zI (bI (stp pa sp (j : Int) (k2 : Int))))]) rfl ?_
                        refine zr_if_eq (tgt := 105) hx hb dX3_go_92 (by decide) (bI_rg _) (fun c_93 => ?_) (fun c_93 => ?_)
                        · have c_93 := bI_z c_93
                          refine zr_iinc (v := (k2 : Int) + 1) (lv' := [(4, .int (zI ((k2 : Int) + 1))), (3, .int (zI (j : Int))), (2, .int (zI 0)), (0, .ref (q 0)), (1, .int (zI f))]) hx hb dX3_go_105 hl (k := 0) rfl rfl (by decide) rfl (fun ls hl => ?_)
                          refine lv_goto (tgt := 65) hx hb dX3_go_108 (by decide) ?_
                          have hl := lv_sub hl (l' := [(4, .int (zI ((k2 : Int) + 1))), (3, .int (zI (j : Int))), (2, .int (zI 0)), (0, .ref (q 0)), (1, .int (zI f))]) [0, 1, 2, 3, 4] rfl
                          have e_94 : ((((k2 + 1) : Nat) : Int) : Int) = (k2 : Int) + 1 := by omega
                          have hl : lv_has ls 5 [(4, .int (zI (((k2 + 1) : Nat) : Int))), (3, .int (zI (j : Int))), (2, .int (zI 0)), (0, .ref (q 0)), (1, .int (zI f))] := by rw [e_94]; exact hl
                          have e_95 : (msB pa sp (mdF pa sp n 0 (stI st f n) j) (j : Int) 0 (k2 + 1) : Int → Int) = msB pa sp (mdF pa sp n 0 (stI st f n) j) (j : Int) 0 k2 := by have hk9 := msB_k pa sp (mdF pa sp n 0 (stI st f n) j) (j : Int) 0 k2; first | exact msB_y (by omega) (by assumption) (by decide) | (refine msB_n (fun hh => ?_); first | exact absurd hh.2 (by assumption) | (have h99 := hh.1; omega))
                          have hP : va_P D vwCl (wM cI cZ q pa sp al co da mo (msB pa sp (mdF pa sp n 0 (stI st f n) j) (j : Int) 0 (k2 + 1)) mr th n td wn) H := by rw [e_95]; exact hP
                          exact ih_k2 (k2 + 1) (by omega) (by omega) _ _ _ hP hS hl
                        · have c_93 := bI_n c_93
                          refine lv_aload_n hx hb dX3_go_95 rfl (lv_at hl 3 rfl) ?_
                          refine va_get (D := D) (ci := 3) (v := .ref (q 7)) (C := RX3) (T := TX3) (N := 12) hx hb hts hin3 hown hK hP 0 rfl rfl 10 (by decide) (hts (.fieldLink RX3 29 "MourningRibbonsModel" "steps" "[I") (by decide +kernel)) (fun _ h9 => h9) rfl dX3_go_96 ?_
                          refine lv_iload hx hb dX3_go_99 (lv_at hl 0 rfl) ?_
                          refine lv_iload_n hx hb dX3_go_101 rfl (lv_at hl 2 rfl) ?_
                          refine zr_iconst hx hb dX3_go_102 ?_
                          refine zr_iadd (v := 1) hx hb (by decide) dX3_go_103 ?_
                          refine zr_iast (f := msB pa sp (mdF pa sp n 0 (stI st f n) j) (j : Int) 0 k2) (n := 16) hx hb hK hP hN rfl hA hS 7 0 rfl rfl (by decide) (i := (k2 : Int)) (x := 1) (by omega) (by omega) dX3_go_104 (fun H locs hP hS => ?_)
                          have hP : va_P D vwCl (wM cI cZ q pa sp al co da mo (up (msB pa sp (mdF pa sp n 0 (stI st f n) j) (j : Int) 0 k2) (k2 : Int) 1) mr th n td wn) H := hP
                          refine zr_iinc (v := (k2 : Int) + 1) (lv' := [(4, .int (zI ((k2 : Int) + 1))), (3, .int (zI (j : Int))), (2, .int (zI 0)), (0, .ref (q 0)), (1, .int (zI f))]) hx hb dX3_go_105 hl (k := 0) rfl rfl (by decide) rfl (fun ls hl => ?_)
                          refine lv_goto (tgt := 65) hx hb dX3_go_108 (by decide) ?_
                          have hl := lv_sub hl (l' := [(4, .int (zI ((k2 : Int) + 1))), (3, .int (zI (j : Int))), (2, .int (zI 0)), (0, .ref (q 0)), (1, .int (zI f))]) [0, 1, 2, 3, 4] rfl
                          have e_96 : ((((k2 + 1) : Nat) : Int) : Int) = (k2 : Int) + 1 := by omega
                          have hl : lv_has ls 5 [(4, .int (zI (((k2 + 1) : Nat) : Int))), (3, .int (zI (j : Int))), (2, .int (zI 0)), (0, .ref (q 0)), (1, .int (zI f))] := by rw [e_96]; exact hl
                          have e_97 : (msB pa sp (mdF pa sp n 0 (stI st f n) j) (j : Int) 0 (k2 + 1) : Int → Int) = up (msB pa sp (mdF pa sp n 0 (stI st f n) j) (j : Int) 0 k2) (k2 : Int) 1 := by have hk9 := msB_k pa sp (mdF pa sp n 0 (stI st f n) j) (j : Int) 0 k2; first | exact msB_y (by omega) (by assumption) (by decide) | (refine msB_n (fun hh => ?_); first | exact absurd hh.2 (by assumption) | (have h99 := hh.1; omega))
                          have hP : va_P D vwCl (wM cI cZ q pa sp al co da mo (msB pa sp (mdF pa sp n 0 (stI st f n) j) (j : Int) 0 (k2 + 1)) mr th n td wn) H := by rw [e_97]; exact hP
                          exact ih_k2 (k2 + 1) (by omega) (by omega) _ _ _ hP hS hl
                have hl := lv_sub hl (l' := [(4, .int (zI 0)), (3, .int (zI (j : Int))), (2, .int (zI 0)), (0, .ref (q 0)), (1, .int (zI f))]) [0, 1, 2, 3, 4] rfl
                have e_98 : (msB pa sp (mdF pa sp n 0 (stI st f n) j) (j : Int) 0 0 : Int → Int) = mdF pa sp n 0 (stI st f n) j := msB_0 _ _ _ _ _
                have hP : va_P D vwCl (wM cI cZ q pa sp al co da mo (msB pa sp (mdF pa sp n 0 (stI st f n) j) (j : Int) 0 0) mr th n td wn) H := by rw [e_98]; exact hP
                exact L65_84 (n + 1) 0 (Nat.zero_le _) (by omega) _ _ _ hP hS hl
              · have c_83 := c_83
                refine lv_goto (tgt := 111) hx hb dX3_go_59 (by decide) ?_
                refine zr_iinc (v := (j : Int) + 1) (lv' := [(3, .int (zI ((j : Int) + 1))), (2, .int (zI 0)), (0, .ref (q 0)), (1, .int (zI f))]) hx hb dX3_go_111 hl (k := 0) rfl rfl (by decide) rfl (fun ls hl => ?_)
                refine lv_goto (tgt := 41) hx hb dX3_go_114 (by decide) ?_
                have hl := lv_sub hl (l' := [(3, .int (zI ((j : Int) + 1))), (2, .int (zI 0)), (0, .ref (q 0)), (1, .int (zI f))]) [0, 1, 2, 3] rfl
                have e_99 : ((((j + 1) : Nat) : Int) : Int) = (j : Int) + 1 := by omega
                have hl : lv_has ls 5 [(3, .int (zI (((j + 1) : Nat) : Int))), (2, .int (zI 0)), (0, .ref (q 0)), (1, .int (zI f))] := by rw [e_99]; exact hl
                have e_100 : (mdF pa sp n 0 (stI st f n) (j + 1) : Int → Int) = mdF pa sp n 0 (stI st f n) j := by first | exact mdF_y (by omega) | exact mdF_n (by omega)
                have hP : va_P D vwCl (wM cI cZ q pa sp al co da mo (mdF pa sp n 0 (stI st f n) (j + 1)) mr th n td wn) H := by rw [e_100]; exact hP
                exact ih_j (j + 1) (by omega) (by omega) _ _ _ hP hS hl
        have hl := lv_sub hl (l' := [(3, .int (zI 0)), (2, .int (zI 0)), (0, .ref (q 0)), (1, .int (zI f))]) [0, 1, 2, 3] rfl
        have e_101 : (mdF pa sp n 0 (stI st f n) 0 : Int → Int) = stI st f n := rfl
        have hP : va_P D vwCl (wM cI cZ q pa sp al co da mo (mdF pa sp n 0 (stI st f n) 0) mr th n td wn) H := by rw [e_101]; exact hP
        exact L41_5 (n + 1) 0 (Nat.zero_le _) (by omega) _ _ _ hP hS hl
      · have c_2 := c_2
        refine lv_aload_n hx hb dX3_go_10 rfl (lv_at hl 1 rfl) ?_
        refine va_get (D := D) (ci := 3) (v := .ref (q 7)) (C := RX3) (T := TX3) (N := 12) hx hb hts hin3 hown hK hP 0 rfl rfl 10 (by decide) (hts (.fieldLink RX3 29 "MourningRibbonsModel" "steps" "[I") (by decide +kernel)) (fun _ h9 => h9) rfl dX3_go_11 ?_
        refine lv_iload_n hx hb dX3_go_14 rfl (lv_at hl 0 rfl) ?_
        refine lv_iload_n hx hb dX3_go_15 rfl (lv_at hl 0 rfl) ?_
        refine lv_iload_n hx hb dX3_go_16 rfl (lv_at hl 2 rfl) ?_
        refine zr_icmp_ne (tgt := 24) hx hb dX3_go_17 (by decide) ⟨by omega, by omega⟩ ⟨by omega, by omega⟩ (fun c_102 => ?_) (fun c_102 => ?_)
        · have c_102 := c_102
          refine zr_iconst hx hb dX3_go_24 ?_
          refine zr_iast (f := stI st f i) (n := 16) hx hb hK hP hN rfl hA hS 7 0 rfl rfl (by decide) (i := (i : Int)) (x := (-1)) (by omega) (by omega) dX3_go_25 (fun H locs hP hS => ?_)
          have hP : va_P D vwCl (wM cI cZ q pa sp al co da mo (up (stI st f i) (i : Int) (-1)) mr th n td wn) H := hP
          refine zr_iinc (v := (i : Int) + 1) (lv' := [(2, .int (zI ((i : Int) + 1))), (0, .ref (q 0)), (1, .int (zI f))]) hx hb dX3_go_26 hl (k := 0) rfl rfl (by decide) rfl (fun ls hl => ?_)
          refine lv_goto (tgt := 2) hx hb dX3_go_29 (by decide) ?_
          have hl := lv_sub hl (l' := [(2, .int (zI ((i : Int) + 1))), (0, .ref (q 0)), (1, .int (zI f))]) [0, 1, 2] rfl
          have e_103 : ((((i + 1) : Nat) : Int) : Int) = (i : Int) + 1 := by omega
          have hl : lv_has ls 5 [(2, .int (zI (((i + 1) : Nat) : Int))), (0, .ref (q 0)), (1, .int (zI f))] := by rw [e_103]; exact hl
          have e_104 : (stI st f (i + 1) : Int → Int) = up (stI st f i) (i : Int) (-1) := stI_s (by first | exact (if_pos (by omega)).symm | exact (if_neg (by omega)).symm)
          have hP : va_P D vwCl (wM cI cZ q pa sp al co da mo (stI st f (i + 1)) mr th n td wn) H := by rw [e_104]; exact hP
          exact ih_i (i + 1) (by omega) (by omega) _ _ _ hP hS hl
        · have c_102 := c_102
          refine zr_iconst hx hb dX3_go_20 ?_
          refine lv_goto (tgt := 25) hx hb dX3_go_21 (by decide) ?_
          refine zr_iast (f := stI st f i) (n := 16) hx hb hK hP hN rfl hA hS 7 0 rfl rfl (by decide) (i := (i : Int)) (x := 0) (by omega) (by omega) dX3_go_25 (fun H locs hP hS => ?_)
          have hP : va_P D vwCl (wM cI cZ q pa sp al co da mo (up (stI st f i) (i : Int) 0) mr th n td wn) H := hP
          refine zr_iinc (v := (i : Int) + 1) (lv' := [(2, .int (zI ((i : Int) + 1))), (0, .ref (q 0)), (1, .int (zI f))]) hx hb dX3_go_26 hl (k := 0) rfl rfl (by decide) rfl (fun ls hl => ?_)
          refine lv_goto (tgt := 2) hx hb dX3_go_29 (by decide) ?_
          have hl := lv_sub hl (l' := [(2, .int (zI ((i : Int) + 1))), (0, .ref (q 0)), (1, .int (zI f))]) [0, 1, 2] rfl
          have e_105 : ((((i + 1) : Nat) : Int) : Int) = (i : Int) + 1 := by omega
          have hl : lv_has ls 5 [(2, .int (zI (((i + 1) : Nat) : Int))), (0, .ref (q 0)), (1, .int (zI f))] := by rw [e_105]; exact hl
          have e_106 : (stI st f (i + 1) : Int → Int) = up (stI st f i) (i : Int) 0 := stI_s (by first | exact (if_pos (by omega)).symm | exact (if_neg (by omega)).symm)
          have hP : va_P D vwCl (wM cI cZ q pa sp al co da mo (stI st f (i + 1)) mr th n td wn) H := by rw [e_106]; exact hP
          exact ih_i (i + 1) (by omega) (by omega) _ _ _ hP hS hl
  have hl := lv_sub hl (l' := [(2, .int (zI 0)), (0, .ref (q 0)), (1, .int (zI f))]) [0, 1, 2] rfl
  have e_107 : (stI st f 0 : Int → Int) = st := stI_0 st f
  have hP : va_P D vwCl (wM cI cZ q pa sp al co da mo (stI st f 0) mr th n td wn) H := by rw [e_107]; exact hP
  exact L2_1 (n + 1) 0 (Nat.zero_le _) (by omega) _ _ _ hP hS hl
set_option maxHeartbeats 4000000 in
set_option maxRecDepth 100000 in
theorem kX3_degree (l : Launch) (D : va_G) (cI cZ : ClassId) (q : Nat → Nat) (hN : (zLM q).Nodup) (pa : Int → Int) (sp : Int → Int) (al : Int → Int) (co : Int → Int) (da : Int → Int) (mo : Int → Int) (st : Int → Int) (mr : Int → Int) (th : Int) (n : Nat) (td : Int) (wn : Int) (hpa : ∀ j : Int, -1 ≤ pa j ∧ pa j ≤ 15) (hsp : ∀ j : Int, -1 ≤ sp j ∧ sp j ≤ 15) (hst : ∀ j : Int, -1 ≤ st j ∧ st j ≤ 4) (hn : n ≤ 16) (a : Int) (b : Int) (h1 : 0 ≤ a ∧ a < 16) (h2 : 0 ≤ b ∧ b < 16) : zM l yX3_degree wsX3_degree ({ frames := 2, cells := 0, slots := 0, locals := 46 }) D [(cI, .int), (cZ, .boolean)] [.ref (q 0), .int (zI a), .int (zI b)] (wM cI cZ q pa sp al co da mo st mr th n td wn) (wM cI cZ q pa sp al co da mo (goF pa sp n st a) mr th n td wn) (some (.int (zI (max 0 (goF pa sp n st a b))))) (zLM q) := by
  refine Met.ofW (cc := cX3_degree) (maxL := 3) (ret := (some .int)) (by decide) rfl ?_
  intro p0 e9 s9 m9 ag9 below meth c9 s₁ B hml hv
  obtain ⟨hav, hP, hK⟩ := hv
  have hx := B.exec
  have hb := B.bytes
  have hr := B.returns
  have hts := atoms_spec (ws := wsX3_degree) B.pre
  have hown : s9.vm.findClass RX3 = some m9.cls := findClass_of_methodNamed B.named
  have hlocks := B.notSynchronized
  have hA : ∀ a ∈ zLM q, (fun a => a ∈ zLM q) a := fun _ h => h
  have hin3 : ∀ w ∈ u_ws RX3 TX3 12, w ∈ wsX3_degree := by decide +kernel
  have hl := lv_entry ([.ref (q 0), .int (zI a), .int (zI b)]) (n := 3) (Nat.le_of_ble_eq_true rfl)
  have hE : entryFrame m9 ag9 3 = F0 m9 0 ((lg_sl ([.ref (q 0), .int (zI a), .int (zI b)]) ++ List.replicate (3 - (lg_sl ([.ref (q 0), .int (zI a), .int (zI b)])).length) Slot.unset).toArray) [] := by rw [hav]; exact lg_entry_eq m9 _ _
  obtain ⟨Q0, hQ0⟩ : ∃ Q0, Q0 = MQ below (zQ D (wM cI cZ q pa sp al co da mo (goF pa sp n st a) mr th n td wn) (some (.int (zI (max 0 (goF pa sp n st a b))))) (zLM q)) ag9 s9 0 0 (fun a => a ∈ zLM q) := ⟨_, rfl⟩
  show W p0 l e9 ({ frames := 2, cells := 0, slots := 0, locals := 46 }) s9 m9 ag9 below meth c9 s9.heap [] 0 0 (MQ below (zQ D (wM cI cZ q pa sp al co da mo (goF pa sp n st a) mr th n td wn) (some (.int (zI (max 0 (goF pa sp n st a b))))) (zLM q)) ag9 s9 0 0 (fun a => a ∈ zLM q)) _
  rw [hE, ← hQ0]
  have hS : va_S (fun a => a ∈ zLM q) s9.heap s9.heap [] := va_S.rf
  generalize hH0 : s9.heap = H at hP ⊢
  have hS : va_S (fun a => a ∈ zLM q) s9.heap H [] := by rw [hH0] at hS ⊢; exact hS
  generalize (lg_sl ([.ref (q 0), .int (zI a), .int (zI b)]) ++ List.replicate (3 - (lg_sl ([.ref (q 0), .int (zI a), .int (zI b)])).length) Slot.unset).toArray = ls at hl ⊢
  have hl : lv_has ls 3 [(0, .ref (q 0)), (1, .int (zI a)), (2, .int (zI b))] := hl
  refine lv_aload_n hx hb dX3_degree_0 rfl (lv_at hl 0 rfl) ?_
  refine lv_iload_n hx hb dX3_degree_1 rfl (lv_at hl 1 rfl) ?_
  refine zcallV (ci := 3) (q0 := 0) (cq := (RX3, TX3, 12)) (As := [.int (zI a)]) (rest := []) ⟨hx, hb, hml, hown, hts⟩ hK (kX3_go l D cI cZ q hN pa sp al co da mo st mr th n td wn hpa hsp hst hn a (by omega)) (cwV 1 hts gX3_degree_X3_go rfl rfl rfl (by decide +kernel) ⟨Nat.le_of_ble_eq_true rfl, Nat.le_of_ble_eq_true rfl⟩) hP hS hA rfl rfl rfl hl.1 rfl (Nat.le_of_ble_eq_true rfl) dX3_degree_2 ⟨Nat.zero_le _, Nat.zero_le _⟩ (fun H locs hP hS _ _ => ?_)
  have g_1 : ∀ j : Int, -1 ≤ (goF pa sp n st a) j ∧ (goF pa sp n st a) j ≤ 4 := goF_bd hst pa sp n a
  refine W.eq (g2 := F0 m9 5 ls []) rfl ?_
  refine zr_iconst hx hb dX3_degree_5 ?_
  refine lv_aload_n hx hb dX3_degree_6 rfl (lv_at hl 0 rfl) ?_
  refine va_get (D := D) (ci := 3) (v := .ref (q 7)) (C := RX3) (T := TX3) (N := 12) hx hb hts hin3 hown hK hP 0 rfl rfl 10 (by decide) (hts (.fieldLink RX3 29 "MourningRibbonsModel" "steps" "[I") (by decide +kernel)) (fun _ h9 => h9) rfl dX3_degree_7 ?_
  refine lv_iload_n hx hb dX3_degree_10 rfl (lv_at hl 2 rfl) ?_
  refine zr_iald (f := goF pa sp n st a) (n := 16) hx hb hK hP 7 0 rfl rfl (by decide) (i := b) (by omega) (by omega) dX3_degree_11 ?_
  have b_2 := g_1 b
  refine zr_mmax hx hb (by rw [hml, hl.1]) hown (hts (.methodLink RX3 54 Lib.Math.max.name) (by decide +kernel)) (hts (.static Lib.Math.max.name) (by decide +kernel)) (hts (.initialized "java/lang/Math") (by decide +kernel)) (hts (.code Lib.Math.max.name Lib.Math.max.code 2 (some .int)) (by decide +kernel)) (Nat.le_of_ble_eq_true rfl) (Nat.le_of_ble_eq_true rfl) (Nat.zero_le _) (Nat.zero_le _) ⟨by decide, by decide⟩ ⟨by omega, by omega⟩ dX3_degree_12 ?_
  rw [hQ0]
  exact zret_i hx hb hr hlocks (rfl) hP hS dX3_degree_15
set_option maxHeartbeats 4000000 in
set_option maxRecDepth 100000 in
theorem kX3_born (l : Launch) (D : va_G) (cI cZ : ClassId) (q : Nat → Nat) (hN : (zLM q).Nodup) (pa : Int → Int) (sp : Int → Int) (al : Int → Int) (co : Int → Int) (da : Int → Int) (mo : Int → Int) (st : Int → Int) (mr : Int → Int) (th : Int) (n : Nat) (td : Int) (wn : Int) (f : Int) (h1 : n < 16) : zM l yX3_born wsX3_born ({ frames := 0, cells := 0, slots := 0, locals := 0 }) D [(cI, .int), (cZ, .boolean)] [.ref (q 0), .int (zI f)] (wM cI cZ q pa sp al co da mo st mr th n td wn) (wM cI cZ q (up pa (n : Int) f) (up sp (n : Int) (-1)) (up al (n : Int) 1) co da mo st mr th (n + 1) td wn) (some (.int (zI (n : Int)))) (zLM q) := by
  refine Met.ofW (cc := cX3_born) (maxL := 2) (ret := (some .int)) (by decide) rfl ?_
  intro p0 e9 s9 m9 ag9 below meth c9 s₁ B hml hv
  obtain ⟨hav, hP, hK⟩ := hv
  have hx := B.exec
  have hb := B.bytes
  have hr := B.returns
  have hts := atoms_spec (ws := wsX3_born) B.pre
  have hown : s9.vm.findClass RX3 = some m9.cls := findClass_of_methodNamed B.named
  have hlocks := B.notSynchronized
  have hA : ∀ a ∈ zLM q, (fun a => a ∈ zLM q) a := fun _ h => h
  have hin3 : ∀ w ∈ u_ws RX3 TX3 12, w ∈ wsX3_born := by decide +kernel
  have hl := lv_entry ([.ref (q 0), .int (zI f)]) (n := 2) (Nat.le_of_ble_eq_true rfl)
  have hE : entryFrame m9 ag9 2 = F0 m9 0 ((lg_sl ([.ref (q 0), .int (zI f)]) ++ List.replicate (2 - (lg_sl ([.ref (q 0), .int (zI f)])).length) Slot.unset).toArray) [] := by rw [hav]; exact lg_entry_eq m9 _ _
  obtain ⟨Q0, hQ0⟩ : ∃ Q0, Q0 = MQ below (zQ D (wM cI cZ q (up pa (n : Int) f) (up sp (n : Int) (-1)) (up al (n : Int) 1) co da mo st mr th (n + 1) td wn) (some (.int (zI (n : Int)))) (zLM q)) ag9 s9 0 0 (fun a => a ∈ zLM q) := ⟨_, rfl⟩
  show W p0 l e9 ({ frames := 0, cells := 0, slots := 0, locals := 0 }) s9 m9 ag9 below meth c9 s9.heap [] 0 0 (MQ below (zQ D (wM cI cZ q (up pa (n : Int) f) (up sp (n : Int) (-1)) (up al (n : Int) 1) co da mo st mr th (n + 1) td wn) (some (.int (zI (n : Int)))) (zLM q)) ag9 s9 0 0 (fun a => a ∈ zLM q)) _
  rw [hE, ← hQ0]
  have hS : va_S (fun a => a ∈ zLM q) s9.heap s9.heap [] := va_S.rf
  generalize hH0 : s9.heap = H at hP ⊢
  have hS : va_S (fun a => a ∈ zLM q) s9.heap H [] := by rw [hH0] at hS ⊢; exact hS
  generalize (lg_sl ([.ref (q 0), .int (zI f)]) ++ List.replicate (2 - (lg_sl ([.ref (q 0), .int (zI f)])).length) Slot.unset).toArray = ls at hl ⊢
  have hl : lv_has ls 2 [(0, .ref (q 0)), (1, .int (zI f))] := hl
  refine lv_aload_n hx hb dX3_born_0 rfl (lv_at hl 0 rfl) ?_
  refine va_get (D := D) (ci := 3) (v := .ref (q 1)) (C := RX3) (T := TX3) (N := 12) hx hb hts hin3 hown hK hP 0 rfl rfl 2 (by decide) (hts (.fieldLink RX3 9 "MourningRibbonsModel" "parent" "[I") (by decide +kernel)) (fun _ h9 => h9) rfl dX3_born_1 ?_
  refine lv_aload_n hx hb dX3_born_4 rfl (lv_at hl 0 rfl) ?_
  refine va_get (D := D) (ci := 3) (v := .int (zI (n : Int))) (C := RX3) (T := TX3) (N := 12) hx hb hts hin3 hown hK hP 0 rfl rfl 1 (by decide) (hts (.fieldLink RX3 39 "MourningRibbonsModel" "people" "I") (by decide +kernel)) (fun _ h9 => h9) rfl dX3_born_5 ?_
  refine lv_iload_n hx hb dX3_born_8 rfl (lv_at hl 1 rfl) ?_
  refine zr_iast (f := pa) (n := 16) hx hb hK hP hN rfl hA hS 1 0 rfl rfl (by decide) (i := (n : Int)) (x := f) (by omega) (by omega) dX3_born_9 (fun H locs hP hS => ?_)
  have hP : va_P D vwCl (wM cI cZ q (up pa (n : Int) f) sp al co da mo st mr th n td wn) H := hP
  refine lv_aload_n hx hb dX3_born_10 rfl (lv_at hl 0 rfl) ?_
  refine va_get (D := D) (ci := 3) (v := .ref (q 2)) (C := RX3) (T := TX3) (N := 12) hx hb hts hin3 hown hK hP 0 rfl rfl 3 (by decide) (hts (.fieldLink RX3 13 "MourningRibbonsModel" "married" "[I") (by decide +kernel)) (fun _ h9 => h9) rfl dX3_born_11 ?_
  refine lv_aload_n hx hb dX3_born_14 rfl (lv_at hl 0 rfl) ?_
  refine va_get (D := D) (ci := 3) (v := .int (zI (n : Int))) (C := RX3) (T := TX3) (N := 12) hx hb hts hin3 hown hK hP 0 rfl rfl 1 (by decide) (hts (.fieldLink RX3 39 "MourningRibbonsModel" "people" "I") (by decide +kernel)) (fun _ h9 => h9) rfl dX3_born_15 ?_
  refine zr_iconst hx hb dX3_born_18 ?_
  refine zr_iast (f := sp) (n := 16) hx hb hK hP hN rfl hA hS 2 0 rfl rfl (by decide) (i := (n : Int)) (x := (-1)) (by omega) (by omega) dX3_born_19 (fun H locs hP hS => ?_)
  have hP : va_P D vwCl (wM cI cZ q (up pa (n : Int) f) (up sp (n : Int) (-1)) al co da mo st mr th n td wn) H := hP
  refine lv_aload_n hx hb dX3_born_20 rfl (lv_at hl 0 rfl) ?_
  refine va_get (D := D) (ci := 3) (v := .ref (q 3)) (C := RX3) (T := TX3) (N := 12) hx hb hts hin3 hown hK hP 0 rfl rfl 4 (by decide) (hts (.fieldLink RX3 16 "MourningRibbonsModel" "isAlive" "[Z") (by decide +kernel)) (fun _ h9 => h9) rfl dX3_born_21 ?_
  refine lv_aload_n hx hb dX3_born_24 rfl (lv_at hl 0 rfl) ?_
  refine va_get (D := D) (ci := 3) (v := .int (zI (n : Int))) (C := RX3) (T := TX3) (N := 12) hx hb hts hin3 hown hK hP 0 rfl rfl 1 (by decide) (hts (.fieldLink RX3 39 "MourningRibbonsModel" "people" "I") (by decide +kernel)) (fun _ h9 => h9) rfl dX3_born_25 ?_
  refine zr_iconst hx hb dX3_born_28 ?_
  refine zr_zast (f := al) (n := 16) hx hb hK hP hN rfl hA hS 3 1 rfl rfl (by decide) (i := (n : Int)) (x := 1) rfl (by omega) (by omega) dX3_born_29 (fun H locs hP hS => ?_)
  have hP : va_P D vwCl (wM cI cZ q (up pa (n : Int) f) (up sp (n : Int) (-1)) (up al (n : Int) 1) co da mo st mr th n td wn) H := hP
  refine lv_aload_n hx hb dX3_born_30 rfl (lv_at hl 0 rfl) ?_
  refine lv_dup hx hb dX3_born_31 rfl ?_
  refine va_get (D := D) (ci := 3) (v := .int (zI (n : Int))) (C := RX3) (T := TX3) (N := 12) hx hb hts hin3 hown hK hP 0 rfl rfl 1 (by decide) (hts (.fieldLink RX3 39 "MourningRibbonsModel" "people" "I") (by decide +kernel)) (fun _ h9 => h9) rfl dX3_born_32 ?_
  refine zr_iconst hx hb dX3_born_35 ?_
  refine zr_iadd (v := (n : Int) + 1) hx hb rfl dX3_born_36 ?_
  refine va_put (D := D) (ci := 3) (v := .int (zI ((n : Int) + 1))) (ty := .int) (C := RX3) (T := TX3) (N := 12) hx hb hts hin3 tyX3 tyX3_ok nmX3 hown hK hP (zD hN rfl hA) hS 0 rfl rfl 1 (by decide) (hts (.fieldLink RX3 39 "MourningRibbonsModel" "people" "I") (by decide +kernel)) (fun _ h9 => h9) rfl (by decide +kernel) rfl rfl (Nat.le_of_ble_eq_true rfl) dX3_born_37 (fun H locs hP _ hS => ?_)
  have hP : va_P D vwCl (wM cI cZ q (up pa (n : Int) f) (up sp (n : Int) (-1)) (up al (n : Int) 1) co da mo st mr th (n + 1) td wn) H := hP
  refine lv_aload_n hx hb dX3_born_40 rfl (lv_at hl 0 rfl) ?_
  refine va_get (D := D) (ci := 3) (v := .int (zI (n + 1))) (C := RX3) (T := TX3) (N := 12) hx hb hts hin3 hown hK hP 0 rfl rfl 1 (by decide) (hts (.fieldLink RX3 39 "MourningRibbonsModel" "people" "I") (by decide +kernel)) (fun _ h9 => h9) rfl dX3_born_41 ?_
  refine zr_iconst hx hb dX3_born_44 ?_
  refine zr_isub (v := (n + 1) - 1) hx hb rfl dX3_born_45 ?_
  rw [hQ0]
  exact zret_i hx hb hr hlocks (by omega) hP hS dX3_born_46
set_option maxHeartbeats 4000000 in
set_option maxRecDepth 100000 in
theorem kX3_canMarry (l : Launch) (D : va_G) (cI cZ : ClassId) (q : Nat → Nat) (hN : (zLM q).Nodup) (pa : Int → Int) (sp : Int → Int) (al : Int → Int) (co : Int → Int) (da : Int → Int) (mo : Int → Int) (st : Int → Int) (mr : Int → Int) (th : Int) (n : Nat) (td : Int) (wn : Int) (hsp : ∀ j : Int, -1 ≤ sp j ∧ sp j ≤ 15) (hal : ∀ j : Int, 0 ≤ al j ∧ al j ≤ 1) (p : Int) (h1 : 0 ≤ p ∧ p < 16) : zM l yX3_canMarry wsX3_canMarry ({ frames := 0, cells := 0, slots := 0, locals := 0 }) D [(cI, .int), (cZ, .boolean)] [.ref (q 0), .int (zI p)] (wM cI cZ q pa sp al co da mo st mr th n td wn) (wM cI cZ q pa sp al co da mo st mr th n td wn) (some (.int (zI (bI (al p ≠ 0 ∧ (sp p = -1 ∨ al (sp p) = 0)))))) (zLM q) := by
  refine Met.ofW (cc := cX3_canMarry) (maxL := 2) (ret := (some .boolean)) (by decide) rfl ?_
  intro p0 e9 s9 m9 ag9 below meth c9 s₁ B hml hv
  obtain ⟨hav, hP, hK⟩ := hv
  have hx := B.exec
  have hb := B.bytes
  have hr := B.returns
  have hts := atoms_spec (ws := wsX3_canMarry) B.pre
  have hown : s9.vm.findClass RX3 = some m9.cls := findClass_of_methodNamed B.named
  have hlocks := B.notSynchronized
  have hA : ∀ a ∈ zLM q, (fun a => a ∈ zLM q) a := fun _ h => h
  have hin3 : ∀ w ∈ u_ws RX3 TX3 12, w ∈ wsX3_canMarry := by decide +kernel
  have hl := lv_entry ([.ref (q 0), .int (zI p)]) (n := 2) (Nat.le_of_ble_eq_true rfl)
  have hE : entryFrame m9 ag9 2 = F0 m9 0 ((lg_sl ([.ref (q 0), .int (zI p)]) ++ List.replicate (2 - (lg_sl ([.ref (q 0), .int (zI p)])).length) Slot.unset).toArray) [] := by rw [hav]; exact lg_entry_eq m9 _ _
  obtain ⟨Q0, hQ0⟩ : ∃ Q0, Q0 = MQ below (zQ D (wM cI cZ q pa sp al co da mo st mr th n td wn) (some (.int (zI (bI (al p ≠ 0 ∧ (sp p = -1 ∨ al (sp p) = 0)))))) (zLM q)) ag9 s9 0 0 (fun a => a ∈ zLM q) := ⟨_, rfl⟩
  show W p0 l e9 ({ frames := 0, cells := 0, slots := 0, locals := 0 }) s9 m9 ag9 below meth c9 s9.heap [] 0 0 (MQ below (zQ D (wM cI cZ q pa sp al co da mo st mr th n td wn) (some (.int (zI (bI (al p ≠ 0 ∧ (sp p = -1 ∨ al (sp p) = 0)))))) (zLM q)) ag9 s9 0 0 (fun a => a ∈ zLM q)) _
  rw [hE, ← hQ0]
  have hS : va_S (fun a => a ∈ zLM q) s9.heap s9.heap [] := va_S.rf
  generalize hH0 : s9.heap = H at hP ⊢
  have hS : va_S (fun a => a ∈ zLM q) s9.heap H [] := by rw [hH0] at hS ⊢; exact hS
  generalize (lg_sl ([.ref (q 0), .int (zI p)]) ++ List.replicate (2 - (lg_sl ([.ref (q 0), .int (zI p)])).length) Slot.unset).toArray = ls at hl ⊢
  have hl : lv_has ls 2 [(0, .ref (q 0)), (1, .int (zI p))] := hl
  refine lv_aload_n hx hb dX3_canMarry_0 rfl (lv_at hl 0 rfl) ?_
  refine va_get (D := D) (ci := 3) (v := .ref (q 3)) (C := RX3) (T := TX3) (N := 12) hx hb hts hin3 hown hK hP 0 rfl rfl 4 (by decide) (hts (.fieldLink RX3 16 "MourningRibbonsModel" "isAlive" "[Z") (by decide +kernel)) (fun _ h9 => h9) rfl dX3_canMarry_1 ?_
  refine lv_iload_n hx hb dX3_canMarry_4 rfl (lv_at hl 1 rfl) ?_
  refine zr_zald (f := al) (n := 16) hx hb hK hP 3 1 rfl rfl (by decide) (i := p) (by omega) (by omega) dX3_canMarry_5 ?_
  have b_1 := hal p
  refine zr_if_eq (tgt := 37) hx hb dX3_canMarry_6 (by decide) ⟨by omega, by omega⟩ (fun c_2 => ?_) (fun c_2 => ?_)
  · have c_2 := c_2
    refine zr_iconst hx hb dX3_canMarry_37 ?_
    rw [hQ0]
    exact zret_z hx hb hr hlocks (rfl) ((bI_f (by omega)).symm) hP hS dX3_canMarry_38
  · have c_2 := c_2
    refine lv_aload_n hx hb dX3_canMarry_9 rfl (lv_at hl 0 rfl) ?_
    refine va_get (D := D) (ci := 3) (v := .ref (q 2)) (C := RX3) (T := TX3) (N := 12) hx hb hts hin3 hown hK hP 0 rfl rfl 3 (by decide) (hts (.fieldLink RX3 13 "MourningRibbonsModel" "married" "[I") (by decide +kernel)) (fun _ h9 => h9) rfl dX3_canMarry_10 ?_
    refine lv_iload_n hx hb dX3_canMarry_13 rfl (lv_at hl 1 rfl) ?_
    refine zr_iald (f := sp) (n := 16) hx hb hK hP 2 0 rfl rfl (by decide) (i := p) (by omega) (by omega) dX3_canMarry_14 ?_
    have b_3 := hsp p
    refine zr_iconst hx hb dX3_canMarry_15 ?_
    refine zr_icmp_eq (tgt := 33) hx hb dX3_canMarry_16 (by decide) ⟨by omega, by omega⟩ ⟨by decide, by decide⟩ (fun c_4 => ?_) (fun c_4 => ?_)
    · have c_4 := c_4
      refine zr_iconst hx hb dX3_canMarry_33 ?_
      refine lv_goto (tgt := 38) hx hb dX3_canMarry_34 (by decide) ?_
      rw [hQ0]
      exact zret_z hx hb hr hlocks (rfl) ((bI_t (by omega)).symm) hP hS dX3_canMarry_38
    · have c_4 := c_4
      refine lv_aload_n hx hb dX3_canMarry_19 rfl (lv_at hl 0 rfl) ?_
      refine va_get (D := D) (ci := 3) (v := .ref (q 3)) (C := RX3) (T := TX3) (N := 12) hx hb hts hin3 hown hK hP 0 rfl rfl 4 (by decide) (hts (.fieldLink RX3 16 "MourningRibbonsModel" "isAlive" "[Z") (by decide +kernel)) (fun _ h9 => h9) rfl dX3_canMarry_20 ?_
      refine lv_aload_n hx hb dX3_canMarry_23 rfl (lv_at hl 0 rfl) ?_
      refine va_get (D := D) (ci := 3) (v := .ref (q 2)) (C := RX3) (T := TX3) (N := 12) hx hb hts hin3 hown hK hP 0 rfl rfl 3 (by decide) (hts (.fieldLink RX3 13 "MourningRibbonsModel" "married" "[I") (by decide +kernel)) (fun _ h9 => h9) rfl dX3_canMarry_24 ?_
      refine lv_iload_n hx hb dX3_canMarry_27 rfl (lv_at hl 1 rfl) ?_
      refine zr_iald (f := sp) (n := 16) hx hb hK hP 2 0 rfl rfl (by decide) (i := p) (by omega) (by omega) dX3_canMarry_28 ?_
      have b_5 := hsp p
      refine zr_zald (f := al) (n := 16) hx hb hK hP 3 1 rfl rfl (by decide) (i := sp p) (by omega) (by omega) dX3_canMarry_29 ?_
      have b_6 := hal (sp p)
      refine zr_if_ne (tgt := 37) hx hb dX3_canMarry_30 (by decide) ⟨by omega, by omega⟩ (fun c_7 => ?_) (fun c_7 => ?_)
      · have c_7 := c_7
        refine zr_iconst hx hb dX3_canMarry_37 ?_
        rw [hQ0]
        exact zret_z hx hb hr hlocks (rfl) ((bI_f (by omega)).symm) hP hS dX3_canMarry_38
      · have c_7 := c_7
        refine zr_iconst hx hb dX3_canMarry_33 ?_
        refine lv_goto (tgt := 38) hx hb dX3_canMarry_34 (by decide) ?_
        rw [hQ0]
        exact zret_z hx hb hr hlocks (rfl) ((bI_t (by omega)).symm) hP hS dX3_canMarry_38
set_option maxHeartbeats 4000000 in
set_option maxRecDepth 100000 in
theorem kX3_part (l : Launch) (D : va_G) (cI cZ : ClassId) (q : Nat → Nat) (hN : (zLM q).Nodup) (pa : Int → Int) (sp : Int → Int) (al : Int → Int) (co : Int → Int) (da : Int → Int) (mo : Int → Int) (st : Int → Int) (mr : Int → Int) (th : Int) (n : Nat) (td : Int) (wn : Int) (hsp : ∀ j : Int, -1 ≤ sp j ∧ sp j ≤ 15) (p : Int) (h1 : 0 ≤ p ∧ p < 16) : zM l yX3_part wsX3_part ({ frames := 0, cells := 0, slots := 0, locals := 0 }) D [(cI, .int), (cZ, .boolean)] [.ref (q 0), .int (zI p)] (wM cI cZ q pa sp al co da mo st mr th n td wn) (wM cI cZ q pa (up (lvS sp p) p (-1)) al co da mo st mr th n td wn) none (zLM q) := by
  refine Met.ofW (cc := cX3_part) (maxL := 2) (ret := none) (by decide) rfl ?_
  intro p0 e9 s9 m9 ag9 below meth c9 s₁ B hml hv
  obtain ⟨hav, hP, hK⟩ := hv
  have hx := B.exec
  have hb := B.bytes
  have hr := B.returns
  have hts := atoms_spec (ws := wsX3_part) B.pre
  have hown : s9.vm.findClass RX3 = some m9.cls := findClass_of_methodNamed B.named
  have hlocks := B.notSynchronized
  have hA : ∀ a ∈ zLM q, (fun a => a ∈ zLM q) a := fun _ h => h
  have hin3 : ∀ w ∈ u_ws RX3 TX3 12, w ∈ wsX3_part := by decide +kernel
  have hl := lv_entry ([.ref (q 0), .int (zI p)]) (n := 2) (Nat.le_of_ble_eq_true rfl)
  have hE : entryFrame m9 ag9 2 = F0 m9 0 ((lg_sl ([.ref (q 0), .int (zI p)]) ++ List.replicate (2 - (lg_sl ([.ref (q 0), .int (zI p)])).length) Slot.unset).toArray) [] := by rw [hav]; exact lg_entry_eq m9 _ _
  obtain ⟨Q0, hQ0⟩ : ∃ Q0, Q0 = MQ below (zQ D (wM cI cZ q pa (up (lvS sp p) p (-1)) al co da mo st mr th n td wn) none (zLM q)) ag9 s9 0 0 (fun a => a ∈ zLM q) := ⟨_, rfl⟩
  show W p0 l e9 ({ frames := 0, cells := 0, slots := 0, locals := 0 }) s9 m9 ag9 below meth c9 s9.heap [] 0 0 (MQ below (zQ D (wM cI cZ q pa (up (lvS sp p) p (-1)) al co da mo st mr th n td wn) none (zLM q)) ag9 s9 0 0 (fun a => a ∈ zLM q)) _
  rw [hE, ← hQ0]
  have hS : va_S (fun a => a ∈ zLM q) s9.heap s9.heap [] := va_S.rf
  generalize hH0 : s9.heap = H at hP ⊢
  have hS : va_S (fun a => a ∈ zLM q) s9.heap H [] := by rw [hH0] at hS ⊢; exact hS
  generalize (lg_sl ([.ref (q 0), .int (zI p)]) ++ List.replicate (2 - (lg_sl ([.ref (q 0), .int (zI p)])).length) Slot.unset).toArray = ls at hl ⊢
  have hl : lv_has ls 2 [(0, .ref (q 0)), (1, .int (zI p))] := hl
  refine lv_aload_n hx hb dX3_part_0 rfl (lv_at hl 0 rfl) ?_
  refine va_get (D := D) (ci := 3) (v := .ref (q 2)) (C := RX3) (T := TX3) (N := 12) hx hb hts hin3 hown hK hP 0 rfl rfl 3 (by decide) (hts (.fieldLink RX3 13 "MourningRibbonsModel" "married" "[I") (by decide +kernel)) (fun _ h9 => h9) rfl dX3_part_1 ?_
  refine lv_iload_n hx hb dX3_part_4 rfl (lv_at hl 1 rfl) ?_
  refine zr_iald (f := sp) (n := 16) hx hb hK hP 2 0 rfl rfl (by decide) (i := p) (by omega) (by omega) dX3_part_5 ?_
  have b_1 := hsp p
  refine zr_iconst hx hb dX3_part_6 ?_
  refine zr_icmp_eq (tgt := 22) hx hb dX3_part_7 (by decide) ⟨by omega, by omega⟩ ⟨by decide, by decide⟩ (fun c_2 => ?_) (fun c_2 => ?_)
  · have c_2 := c_2
    refine lv_aload_n hx hb dX3_part_22 rfl (lv_at hl 0 rfl) ?_
    refine va_get (D := D) (ci := 3) (v := .ref (q 2)) (C := RX3) (T := TX3) (N := 12) hx hb hts hin3 hown hK hP 0 rfl rfl 3 (by decide) (hts (.fieldLink RX3 13 "MourningRibbonsModel" "married" "[I") (by decide +kernel)) (fun _ h9 => h9) rfl dX3_part_23 ?_
    refine lv_iload_n hx hb dX3_part_26 rfl (lv_at hl 1 rfl) ?_
    refine zr_iconst hx hb dX3_part_27 ?_
    refine zr_iast (f := sp) (n := 16) hx hb hK hP hN rfl hA hS 2 0 rfl rfl (by decide) (i := p) (x := (-1)) (by omega) (by omega) dX3_part_28 (fun H locs hP hS => ?_)
    have hP : va_P D vwCl (wM cI cZ q pa (up sp p (-1)) al co da mo st mr th n td wn) H := hP
    have e_3 : (up (lvS sp p) p (-1) : Int → Int) = up sp p (-1) := congrArg (fun z => up z p (-1)) (show lvS sp p = _ from by unfold lvS; first | exact if_pos (by omega) | exact if_neg (by omega))
    have hP : va_P D vwCl (wM cI cZ q pa (up (lvS sp p) p (-1)) al co da mo st mr th n td wn) H := by rw [e_3]; exact hP
    rw [hQ0]
    exact zret_v hx hb hr hlocks hP hS dX3_part_29
  · have c_2 := c_2
    refine lv_aload_n hx hb dX3_part_10 rfl (lv_at hl 0 rfl) ?_
    refine va_get (D := D) (ci := 3) (v := .ref (q 2)) (C := RX3) (T := TX3) (N := 12) hx hb hts hin3 hown hK hP 0 rfl rfl 3 (by decide) (hts (.fieldLink RX3 13 "MourningRibbonsModel" "married" "[I") (by decide +kernel)) (fun _ h9 => h9) rfl dX3_part_11 ?_
    refine lv_aload_n hx hb dX3_part_14 rfl (lv_at hl 0 rfl) ?_
    refine va_get (D := D) (ci := 3) (v := .ref (q 2)) (C := RX3) (T := TX3) (N := 12) hx hb hts hin3 hown hK hP 0 rfl rfl 3 (by decide) (hts (.fieldLink RX3 13 "MourningRibbonsModel" "married" "[I") (by decide +kernel)) (fun _ h9 => h9) rfl dX3_part_15 ?_
    refine lv_iload_n hx hb dX3_part_18 rfl (lv_at hl 1 rfl) ?_
    refine zr_iald (f := sp) (n := 16) hx hb hK hP 2 0 rfl rfl (by decide) (i := p) (by omega) (by omega) dX3_part_19 ?_
    have b_4 := hsp p
    refine zr_iconst hx hb dX3_part_20 ?_
    refine zr_iast (f := sp) (n := 16) hx hb hK hP hN rfl hA hS 2 0 rfl rfl (by decide) (i := sp p) (x := (-1)) (by omega) (by omega) dX3_part_21 (fun H locs hP hS => ?_)
    have hP : va_P D vwCl (wM cI cZ q pa (up sp (sp p) (-1)) al co da mo st mr th n td wn) H := hP
    refine lv_aload_n hx hb dX3_part_22 rfl (lv_at hl 0 rfl) ?_
    refine va_get (D := D) (ci := 3) (v := .ref (q 2)) (C := RX3) (T := TX3) (N := 12) hx hb hts hin3 hown hK hP 0 rfl rfl 3 (by decide) (hts (.fieldLink RX3 13 "MourningRibbonsModel" "married" "[I") (by decide +kernel)) (fun _ h9 => h9) rfl dX3_part_23 ?_
    refine lv_iload_n hx hb dX3_part_26 rfl (lv_at hl 1 rfl) ?_
    refine zr_iconst hx hb dX3_part_27 ?_
    refine zr_iast (f := up sp (sp p) (-1)) (n := 16) hx hb hK hP hN rfl hA hS 2 0 rfl rfl (by decide) (i := p) (x := (-1)) (by omega) (by omega) dX3_part_28 (fun H locs hP hS => ?_)
    have hP : va_P D vwCl (wM cI cZ q pa (up (up sp (sp p) (-1)) p (-1)) al co da mo st mr th n td wn) H := hP
    have e_5 : (up (lvS sp p) p (-1) : Int → Int) = up (up sp (sp p) (-1)) p (-1) := congrArg (fun z => up z p (-1)) (show lvS sp p = _ from by unfold lvS; first | exact if_pos (by omega) | exact if_neg (by omega))
    have hP : va_P D vwCl (wM cI cZ q pa (up (lvS sp p) p (-1)) al co da mo st mr th n td wn) H := by rw [e_5]; exact hP
    rw [hQ0]
    exact zret_v hx hb hr hlocks hP hS dX3_part_29
set_option maxHeartbeats 4000000 in
set_option maxRecDepth 100000 in
theorem kX3_length (l : Launch) (D : va_G) (cI cZ : ClassId) (q : Nat → Nat) (hN : (zLM q).Nodup) (pa : Int → Int) (sp : Int → Int) (al : Int → Int) (co : Int → Int) (da : Int → Int) (mo : Int → Int) (st : Int → Int) (mr : Int → Int) (th : Int) (n : Nat) (td : Int) (wn : Int) (hda : ∀ j : Int, 0 ≤ da j ∧ da j ≤ 60) (g : Int) (h1 : 1 ≤ g ∧ g ≤ 4) : zM l yX3_length wsX3_length ({ frames := 1, cells := 0, slots := 0, locals := 21 }) D [(cI, .int), (cZ, .boolean)] [.ref (q 0), .int (zI g)] (wM cI cZ q pa sp al co da mo st mr th n td wn) (wM cI cZ q pa sp al co da mo st mr th n td wn) (some (.int (zI (lenM da g)))) (zLM q) := by
  refine Met.ofW (cc := cX3_length) (maxL := 2) (ret := (some .int)) (by decide) rfl ?_
  intro p0 e9 s9 m9 ag9 below meth c9 s₁ B hml hv
  obtain ⟨hav, hP, hK⟩ := hv
  have hx := B.exec
  have hb := B.bytes
  have hr := B.returns
  have hts := atoms_spec (ws := wsX3_length) B.pre
  have hown : s9.vm.findClass RX3 = some m9.cls := findClass_of_methodNamed B.named
  have hlocks := B.notSynchronized
  have hA : ∀ a ∈ zLM q, (fun a => a ∈ zLM q) a := fun _ h => h
  have hin3 : ∀ w ∈ u_ws RX3 TX3 12, w ∈ wsX3_length := by decide +kernel
  have hl := lv_entry ([.ref (q 0), .int (zI g)]) (n := 2) (Nat.le_of_ble_eq_true rfl)
  have hE : entryFrame m9 ag9 2 = F0 m9 0 ((lg_sl ([.ref (q 0), .int (zI g)]) ++ List.replicate (2 - (lg_sl ([.ref (q 0), .int (zI g)])).length) Slot.unset).toArray) [] := by rw [hav]; exact lg_entry_eq m9 _ _
  obtain ⟨Q0, hQ0⟩ : ∃ Q0, Q0 = MQ below (zQ D (wM cI cZ q pa sp al co da mo st mr th n td wn) (some (.int (zI (lenM da g)))) (zLM q)) ag9 s9 0 0 (fun a => a ∈ zLM q) := ⟨_, rfl⟩
  show W p0 l e9 ({ frames := 1, cells := 0, slots := 0, locals := 21 }) s9 m9 ag9 below meth c9 s9.heap [] 0 0 (MQ below (zQ D (wM cI cZ q pa sp al co da mo st mr th n td wn) (some (.int (zI (lenM da g)))) (zLM q)) ag9 s9 0 0 (fun a => a ∈ zLM q)) _
  rw [hE, ← hQ0]
  have hS : va_S (fun a => a ∈ zLM q) s9.heap s9.heap [] := va_S.rf
  generalize hH0 : s9.heap = H at hP ⊢
  have hS : va_S (fun a => a ∈ zLM q) s9.heap H [] := by rw [hH0] at hS ⊢; exact hS
  generalize (lg_sl ([.ref (q 0), .int (zI g)]) ++ List.replicate (2 - (lg_sl ([.ref (q 0), .int (zI g)])).length) Slot.unset).toArray = ls at hl ⊢
  have hl : lv_has ls 2 [(0, .ref (q 0)), (1, .int (zI g))] := hl
  refine lv_aload_n hx hb dX3_length_0 rfl (lv_at hl 0 rfl) ?_
  refine va_get (D := D) (ci := 3) (v := .ref (q 5)) (C := RX3) (T := TX3) (N := 12) hx hb hts hin3 hown hK hP 0 rfl rfl 6 (by decide) (hts (.fieldLink RX3 23 "MourningRibbonsModel" "days" "[I") (by decide +kernel)) (fun _ h9 => h9) rfl dX3_length_1 ?_
  refine lv_iload_n hx hb dX3_length_4 rfl (lv_at hl 1 rfl) ?_
  refine zr_iconst hx hb dX3_length_5 ?_
  refine zcallP (As := [.int (zI g), .int (zI 0)]) (rest := [.ref (q 5)]) ⟨hx, hb, hml, hown, hts⟩ (kX3_at l D g 0) hK (va_cwS 2 hts gX3_length_X3_at rfl rfl rfl (by decide +kernel) ⟨Nat.le_of_ble_eq_true rfl, Nat.le_of_ble_eq_true rfl⟩) hP hS rfl hl.1 rfl (Nat.le_of_ble_eq_true rfl) dX3_length_6 ⟨Nat.zero_le _, Nat.zero_le _⟩ (fun H locs hP hS => ?_)
  refine W.eq (g2 := F0 m9 9 ls [.int (zI (3 * (g - 1) + 0)), .ref (q 5)]) rfl ?_
  refine zr_iald (f := da) (n := 12) hx hb hK hP 5 0 rfl rfl (by decide) (i := 3 * (g - 1) + 0) (by omega) (by omega) dX3_length_9 ?_
  have b_1 := hda (3 * (g - 1) + 0)
  refine lv_aload_n hx hb dX3_length_10 rfl (lv_at hl 0 rfl) ?_
  refine va_get (D := D) (ci := 3) (v := .ref (q 5)) (C := RX3) (T := TX3) (N := 12) hx hb hts hin3 hown hK hP 0 rfl rfl 6 (by decide) (hts (.fieldLink RX3 23 "MourningRibbonsModel" "days" "[I") (by decide +kernel)) (fun _ h9 => h9) rfl dX3_length_11 ?_
  refine lv_iload_n hx hb dX3_length_14 rfl (lv_at hl 1 rfl) ?_
  refine zr_iconst hx hb dX3_length_15 ?_
  refine zcallP (As := [.int (zI g), .int (zI 1)]) (rest := [.ref (q 5), .int (zI (da (3 * (g - 1) + 0)))]) ⟨hx, hb, hml, hown, hts⟩ (kX3_at l D g 1) hK (va_cwS 2 hts gX3_length_X3_at rfl rfl rfl (by decide +kernel) ⟨Nat.le_of_ble_eq_true rfl, Nat.le_of_ble_eq_true rfl⟩) hP hS rfl hl.1 rfl (Nat.le_of_ble_eq_true rfl) dX3_length_16 ⟨Nat.zero_le _, Nat.zero_le _⟩ (fun H locs hP hS => ?_)
  refine W.eq (g2 := F0 m9 19 ls [.int (zI (3 * (g - 1) + 1)), .ref (q 5), .int (zI (da (3 * (g - 1) + 0)))]) rfl ?_
  refine zr_iald (f := da) (n := 12) hx hb hK hP 5 0 rfl rfl (by decide) (i := 3 * (g - 1) + 1) (by omega) (by omega) dX3_length_19 ?_
  have b_2 := hda (3 * (g - 1) + 1)
  refine zr_iadd (v := (da (3 * (g - 1) + 0)) + (da (3 * (g - 1) + 1))) hx hb rfl dX3_length_20 ?_
  refine lv_aload_n hx hb dX3_length_21 rfl (lv_at hl 0 rfl) ?_
  refine va_get (D := D) (ci := 3) (v := .ref (q 5)) (C := RX3) (T := TX3) (N := 12) hx hb hts hin3 hown hK hP 0 rfl rfl 6 (by decide) (hts (.fieldLink RX3 23 "MourningRibbonsModel" "days" "[I") (by decide +kernel)) (fun _ h9 => h9) rfl dX3_length_22 ?_
  refine lv_iload_n hx hb dX3_length_25 rfl (lv_at hl 1 rfl) ?_
  refine zr_iconst hx hb dX3_length_26 ?_
  refine zcallP (As := [.int (zI g), .int (zI 2)]) (rest := [.ref (q 5), .int (zI ((da (3 * (g - 1) + 0)) + (da (3 * (g - 1) + 1))))]) ⟨hx, hb, hml, hown, hts⟩ (kX3_at l D g 2) hK (va_cwS 2 hts gX3_length_X3_at rfl rfl rfl (by decide +kernel) ⟨Nat.le_of_ble_eq_true rfl, Nat.le_of_ble_eq_true rfl⟩) hP hS rfl hl.1 rfl (Nat.le_of_ble_eq_true rfl) dX3_length_27 ⟨Nat.zero_le _, Nat.zero_le _⟩ (fun H locs hP hS => ?_)
  refine W.eq (g2 := F0 m9 30 ls [.int (zI (3 * (g - 1) + 2)), .ref (q 5), .int (zI ((da (3 * (g - 1) + 0)) + (da (3 * (g - 1) + 1))))]) rfl ?_
  refine zr_iald (f := da) (n := 12) hx hb hK hP 5 0 rfl rfl (by decide) (i := 3 * (g - 1) + 2) (by omega) (by omega) dX3_length_30 ?_
  have b_3 := hda (3 * (g - 1) + 2)
  refine zr_iadd (v := ((da (3 * (g - 1) + 0)) + (da (3 * (g - 1) + 1))) + (da (3 * (g - 1) + 2))) hx hb rfl dX3_length_31 ?_
  rw [hQ0]
  exact zret_i hx hb hr hlocks (rfl) hP hS dX3_length_32
set_option maxHeartbeats 4000000 in
set_option maxRecDepth 100000 in
theorem kX3_wornmo (l : Launch) (D : va_G) (cI cZ : ClassId) (q : Nat → Nat) (hN : (zLM q).Nodup) (pa : Int → Int) (sp : Int → Int) (al : Int → Int) (co : Int → Int) (da : Int → Int) (mo : Int → Int) (st : Int → Int) (mr : Int → Int) (th : Int) (n : Nat) (td : Int) (wn : Int) (hmo : ∀ j : Int, -1 ≤ mo j ∧ mo j ≤ 1000000) (k : Int) (t : Int) (h1 : 0 ≤ k ∧ k + 6 < 1792) (h2 : 0 ≤ t ∧ t ≤ 2000000) : zM l yX3_worn wsX3_worn ({ frames := 0, cells := 0, slots := 0, locals := 0 }) D [(cI, .int), (cZ, .boolean)] [.ref (q 6), .int (zI k), .int (zI t)] (wM cI cZ q pa sp al co da mo st mr th n td wn) (wM cI cZ q pa sp al co da mo st mr th n td wn) (some (.int (zI (wnM mo k t)))) (zLM q) := by
  refine Met.ofW (cc := cX3_worn) (maxL := 5) (ret := (some .int)) (by decide) rfl ?_
  intro p0 e9 s9 m9 ag9 below meth c9 s₁ B hml hv
  obtain ⟨hav, hP, hK⟩ := hv
  have hx := B.exec
  have hb := B.bytes
  have hr := B.returns
  have hts := atoms_spec (ws := wsX3_worn) B.pre
  have hown : s9.vm.findClass RX3 = some m9.cls := findClass_of_methodNamed B.named
  have hlocks := B.notSynchronized
  have hA : ∀ a ∈ zLM q, (fun a => a ∈ zLM q) a := fun _ h => h
  have hl := lv_entry ([.ref (q 6), .int (zI k), .int (zI t)]) (n := 5) (Nat.le_of_ble_eq_true rfl)
  have hE : entryFrame m9 ag9 5 = F0 m9 0 ((lg_sl ([.ref (q 6), .int (zI k), .int (zI t)]) ++ List.replicate (5 - (lg_sl ([.ref (q 6), .int (zI k), .int (zI t)])).length) Slot.unset).toArray) [] := by rw [hav]; exact lg_entry_eq m9 _ _
  obtain ⟨Q0, hQ0⟩ : ∃ Q0, Q0 = MQ below (zQ D (wM cI cZ q pa sp al co da mo st mr th n td wn) (some (.int (zI (wnM mo k t)))) (zLM q)) ag9 s9 0 0 (fun a => a ∈ zLM q) := ⟨_, rfl⟩
  show W p0 l e9 ({ frames := 0, cells := 0, slots := 0, locals := 0 }) s9 m9 ag9 below meth c9 s9.heap [] 0 0 (MQ below (zQ D (wM cI cZ q pa sp al co da mo st mr th n td wn) (some (.int (zI (wnM mo k t)))) (zLM q)) ag9 s9 0 0 (fun a => a ∈ zLM q)) _
  rw [hE, ← hQ0]
  have hS : va_S (fun a => a ∈ zLM q) s9.heap s9.heap [] := va_S.rf
  generalize hH0 : s9.heap = H at hP ⊢
  have hS : va_S (fun a => a ∈ zLM q) s9.heap H [] := by rw [hH0] at hS ⊢; exact hS
  generalize (lg_sl ([.ref (q 6), .int (zI k), .int (zI t)]) ++ List.replicate (5 - (lg_sl ([.ref (q 6), .int (zI k), .int (zI t)])).length) Slot.unset).toArray = ls at hl ⊢
  have hl : lv_has ls 5 [(0, .ref (q 6)), (1, .int (zI k)), (2, .int (zI t))] := hl
  refine lv_aload_n hx hb dX3_worn_0 rfl (lv_at hl 0 rfl) ?_
  refine lv_iload_n hx hb dX3_worn_1 rfl (lv_at hl 1 rfl) ?_
  refine zr_iald (f := mo) (n := 1792) hx hb hK hP 6 0 rfl rfl (by decide) (i := k) (by omega) (by omega) dX3_worn_2 ?_
  have b_1 := hmo k
  refine zr_iconst hx hb dX3_worn_3 ?_
  refine zr_icmp_ne (tgt := 9) hx hb dX3_worn_4 (by decide) ⟨by omega, by omega⟩ ⟨by decide, by decide⟩ (fun c_2 => ?_) (fun c_2 => ?_)
  · have c_2 := c_2
    refine lv_iload_n hx hb dX3_worn_9 rfl (lv_at hl 2 rfl) ?_
    refine lv_aload_n hx hb dX3_worn_10 rfl (lv_at hl 0 rfl) ?_
    refine lv_iload_n hx hb dX3_worn_11 rfl (lv_at hl 1 rfl) ?_
    refine zr_iald (f := mo) (n := 1792) hx hb hK hP 6 0 rfl rfl (by decide) (i := k) (by omega) (by omega) dX3_worn_12 ?_
    have b_3 := hmo k
    refine zr_isub (v := t - (mo k)) hx hb rfl dX3_worn_13 ?_
    refine lv_istore_n (lv' := [(3, .int (zI (t - (mo k)))), (0, .ref (q 6)), (1, .int (zI k)), (2, .int (zI t))]) hx hb dX3_worn_14 rfl hl (by decide) rfl (fun ls hl => ?_)
    refine zr_iconst hx hb dX3_worn_15 ?_
    refine lv_istore (lv' := [(4, .int (zI 0)), (3, .int (zI (t - (mo k)))), (0, .ref (q 6)), (1, .int (zI k)), (2, .int (zI t))]) hx hb dX3_worn_16 hl (by decide) rfl (fun ls hl => ?_)
    refine lv_iload hx hb dX3_worn_18 (lv_at hl 0 rfl) ?_
    refine zr_iconst hx hb dX3_worn_20 ?_
    refine zr_icmp_ge (tgt := 62) hx hb dX3_worn_21 (by decide) ⟨by decide, by decide⟩ ⟨by decide, by decide⟩ (fun c_4 => by exfalso; revert c_4; decide) (fun c_4 => ?_)
    refine lv_iload_n hx hb dX3_worn_24 rfl (lv_at hl 1 rfl) ?_
    refine lv_aload_n hx hb dX3_worn_25 rfl (lv_at hl 2 rfl) ?_
    refine lv_iload_n hx hb dX3_worn_26 rfl (lv_at hl 3 rfl) ?_
    refine zr_iconst hx hb dX3_worn_27 ?_
    refine zr_iadd (v := k + 4) hx hb rfl dX3_worn_28 ?_
    refine lv_iload hx hb dX3_worn_29 (lv_at hl 0 rfl) ?_
    refine zr_iadd (v := k + 4) hx hb (by omega) dX3_worn_31 ?_
    refine zr_iald (f := mo) (n := 1792) hx hb hK hP 6 0 rfl rfl (by decide) (i := k + 4) (by omega) (by omega) dX3_worn_32 ?_
    have b_5 := hmo (k + 4)
    refine zr_icmp_ge (tgt := 45) hx hb dX3_worn_33 (by decide) ⟨by omega, by omega⟩ ⟨by omega, by omega⟩ (fun c_6 => ?_) (fun c_6 => ?_)
    · have c_6 := c_6
      refine lv_iload_n hx hb dX3_worn_45 rfl (lv_at hl 1 rfl) ?_
      refine lv_aload_n hx hb dX3_worn_46 rfl (lv_at hl 2 rfl) ?_
      refine lv_iload_n hx hb dX3_worn_47 rfl (lv_at hl 3 rfl) ?_
      refine zr_iconst hx hb dX3_worn_48 ?_
      refine zr_iadd (v := k + 4) hx hb rfl dX3_worn_49 ?_
      refine lv_iload hx hb dX3_worn_50 (lv_at hl 0 rfl) ?_
      refine zr_iadd (v := k + 4) hx hb (by omega) dX3_worn_52 ?_
      refine zr_iald (f := mo) (n := 1792) hx hb hK hP 6 0 rfl rfl (by decide) (i := k + 4) (by omega) (by omega) dX3_worn_53 ?_
      have b_7 := hmo (k + 4)
      refine zr_isub (v := (t - (mo k)) - (mo (k + 4))) hx hb rfl dX3_worn_54 ?_
      refine lv_istore_n (lv' := [(3, .int (zI ((t - (mo k)) - (mo (k + 4))))), (4, .int (zI 0)), (0, .ref (q 6)), (1, .int (zI k)), (2, .int (zI t))]) hx hb dX3_worn_55 rfl hl (by decide) rfl (fun ls hl => ?_)
      refine zr_iinc (v := 1) (lv' := [(4, .int (zI 1)), (3, .int (zI ((t - (mo k)) - (mo (k + 4))))), (0, .ref (q 6)), (1, .int (zI k)), (2, .int (zI t))]) hx hb dX3_worn_56 hl (k := 1) rfl (by decide) (by decide) rfl (fun ls hl => ?_)
      refine lv_goto (tgt := 18) hx hb dX3_worn_59 (by decide) ?_
      refine lv_iload hx hb dX3_worn_18 (lv_at hl 0 rfl) ?_
      refine zr_iconst hx hb dX3_worn_20 ?_
      refine zr_icmp_ge (tgt := 62) hx hb dX3_worn_21 (by decide) ⟨by decide, by decide⟩ ⟨by decide, by decide⟩ (fun c_8 => by exfalso; revert c_8; decide) (fun c_8 => ?_)
      refine lv_iload_n hx hb dX3_worn_24 rfl (lv_at hl 1 rfl) ?_
      refine lv_aload_n hx hb dX3_worn_25 rfl (lv_at hl 2 rfl) ?_
      refine lv_iload_n hx hb dX3_worn_26 rfl (lv_at hl 3 rfl) ?_
      refine zr_iconst hx hb dX3_worn_27 ?_
      refine zr_iadd (v := k + 4) hx hb rfl dX3_worn_28 ?_
      refine lv_iload hx hb dX3_worn_29 (lv_at hl 0 rfl) ?_
      refine zr_iadd (v := (k + 4) + 1) hx hb rfl dX3_worn_31 ?_
      refine zr_iald (f := mo) (n := 1792) hx hb hK hP 6 0 rfl rfl (by decide) (i := (k + 4) + 1) (by omega) (by omega) dX3_worn_32 ?_
      have b_9 := hmo ((k + 4) + 1)
      refine zr_icmp_ge (tgt := 45) hx hb dX3_worn_33 (by decide) ⟨by omega, by omega⟩ ⟨by omega, by omega⟩ (fun c_10 => ?_) (fun c_10 => ?_)
      · have c_10 := c_10
        refine lv_iload_n hx hb dX3_worn_45 rfl (lv_at hl 1 rfl) ?_
        refine lv_aload_n hx hb dX3_worn_46 rfl (lv_at hl 2 rfl) ?_
        refine lv_iload_n hx hb dX3_worn_47 rfl (lv_at hl 3 rfl) ?_
        refine zr_iconst hx hb dX3_worn_48 ?_
        refine zr_iadd (v := k + 4) hx hb rfl dX3_worn_49 ?_
        refine lv_iload hx hb dX3_worn_50 (lv_at hl 0 rfl) ?_
        refine zr_iadd (v := (k + 4) + 1) hx hb rfl dX3_worn_52 ?_
        refine zr_iald (f := mo) (n := 1792) hx hb hK hP 6 0 rfl rfl (by decide) (i := (k + 4) + 1) (by omega) (by omega) dX3_worn_53 ?_
        have b_11 := hmo ((k + 4) + 1)
        refine zr_isub (v := ((t - (mo k)) - (mo (k + 4))) - (mo ((k + 4) + 1))) hx hb rfl dX3_worn_54 ?_
        refine lv_istore_n (lv' := [(3, .int (zI (((t - (mo k)) - (mo (k + 4))) - (mo ((k + 4) + 1))))), (4, .int (zI 1)), (0, .ref (q 6)), (1, .int (zI k)), (2, .int (zI t))]) hx hb dX3_worn_55 rfl hl (by decide) rfl (fun ls hl => ?_)
        refine zr_iinc (v := 2) (lv' := [(4, .int (zI 2)), (3, .int (zI (((t - (mo k)) - (mo (k + 4))) - (mo ((k + 4) + 1))))), (0, .ref (q 6)), (1, .int (zI k)), (2, .int (zI t))]) hx hb dX3_worn_56 hl (k := 1) rfl (by decide) (by decide) rfl (fun ls hl => ?_)
        refine lv_goto (tgt := 18) hx hb dX3_worn_59 (by decide) ?_
        refine lv_iload hx hb dX3_worn_18 (lv_at hl 0 rfl) ?_
        refine zr_iconst hx hb dX3_worn_20 ?_
        refine zr_icmp_ge (tgt := 62) hx hb dX3_worn_21 (by decide) ⟨by decide, by decide⟩ ⟨by decide, by decide⟩ (fun c_12 => by exfalso; revert c_12; decide) (fun c_12 => ?_)
        refine lv_iload_n hx hb dX3_worn_24 rfl (lv_at hl 1 rfl) ?_
        refine lv_aload_n hx hb dX3_worn_25 rfl (lv_at hl 2 rfl) ?_
        refine lv_iload_n hx hb dX3_worn_26 rfl (lv_at hl 3 rfl) ?_
        refine zr_iconst hx hb dX3_worn_27 ?_
        refine zr_iadd (v := k + 4) hx hb rfl dX3_worn_28 ?_
        refine lv_iload hx hb dX3_worn_29 (lv_at hl 0 rfl) ?_
        refine zr_iadd (v := (k + 4) + 2) hx hb rfl dX3_worn_31 ?_
        refine zr_iald (f := mo) (n := 1792) hx hb hK hP 6 0 rfl rfl (by decide) (i := (k + 4) + 2) (by omega) (by omega) dX3_worn_32 ?_
        have b_13 := hmo ((k + 4) + 2)
        refine zr_icmp_ge (tgt := 45) hx hb dX3_worn_33 (by decide) ⟨by omega, by omega⟩ ⟨by omega, by omega⟩ (fun c_14 => ?_) (fun c_14 => ?_)
        · have c_14 := c_14
          refine lv_iload_n hx hb dX3_worn_45 rfl (lv_at hl 1 rfl) ?_
          refine lv_aload_n hx hb dX3_worn_46 rfl (lv_at hl 2 rfl) ?_
          refine lv_iload_n hx hb dX3_worn_47 rfl (lv_at hl 3 rfl) ?_
          refine zr_iconst hx hb dX3_worn_48 ?_
          refine zr_iadd (v := k + 4) hx hb rfl dX3_worn_49 ?_
          refine lv_iload hx hb dX3_worn_50 (lv_at hl 0 rfl) ?_
          refine zr_iadd (v := (k + 4) + 2) hx hb rfl dX3_worn_52 ?_
          refine zr_iald (f := mo) (n := 1792) hx hb hK hP 6 0 rfl rfl (by decide) (i := (k + 4) + 2) (by omega) (by omega) dX3_worn_53 ?_
          have b_15 := hmo ((k + 4) + 2)
          refine zr_isub (v := (((t - (mo k)) - (mo (k + 4))) - (mo ((k + 4) + 1))) - (mo ((k + 4) + 2))) hx hb rfl dX3_worn_54 ?_
          refine lv_istore_n (lv' := [(3, .int (zI ((((t - (mo k)) - (mo (k + 4))) - (mo ((k + 4) + 1))) - (mo ((k + 4) + 2))))), (4, .int (zI 2)), (0, .ref (q 6)), (1, .int (zI k)), (2, .int (zI t))]) hx hb dX3_worn_55 rfl hl (by decide) rfl (fun ls hl => ?_)
          refine zr_iinc (v := 3) (lv' := [(4, .int (zI 3)), (3, .int (zI ((((t - (mo k)) - (mo (k + 4))) - (mo ((k + 4) + 1))) - (mo ((k + 4) + 2))))), (0, .ref (q 6)), (1, .int (zI k)), (2, .int (zI t))]) hx hb dX3_worn_56 hl (k := 1) rfl (by decide) (by decide) rfl (fun ls hl => ?_)
          refine lv_goto (tgt := 18) hx hb dX3_worn_59 (by decide) ?_
          refine lv_iload hx hb dX3_worn_18 (lv_at hl 0 rfl) ?_
          refine zr_iconst hx hb dX3_worn_20 ?_
          refine zr_icmp_ge (tgt := 62) hx hb dX3_worn_21 (by decide) ⟨by decide, by decide⟩ ⟨by decide, by decide⟩ (fun c_16 => ?_) (fun c_16 => by exfalso; revert c_16; decide)
          refine zr_iconst hx hb dX3_worn_62 ?_
          rw [hQ0]
          exact zret_i hx hb hr hlocks (by unfold wnM; (repeat first | rw [if_pos (by omega)] | rw [if_neg (by omega)]) <;> omega) hP hS dX3_worn_63
        · have c_14 := c_14
          refine lv_aload_n hx hb dX3_worn_36 rfl (lv_at hl 2 rfl) ?_
          refine lv_iload_n hx hb dX3_worn_37 rfl (lv_at hl 3 rfl) ?_
          refine zr_iconst hx hb dX3_worn_38 ?_
          refine zr_iadd (v := k + 1) hx hb rfl dX3_worn_39 ?_
          refine lv_iload hx hb dX3_worn_40 (lv_at hl 0 rfl) ?_
          refine zr_iadd (v := (k + 1) + 2) hx hb rfl dX3_worn_42 ?_
          refine zr_iald (f := mo) (n := 1792) hx hb hK hP 6 0 rfl rfl (by decide) (i := (k + 1) + 2) (by omega) (by omega) dX3_worn_43 ?_
          have b_17 := hmo ((k + 1) + 2)
          rw [hQ0]
          exact zret_i hx hb hr hlocks (by unfold wnM; (repeat first | rw [if_pos (by omega)] | rw [if_neg (by omega)]) <;> omega) hP hS dX3_worn_44
      · have c_10 := c_10
        refine lv_aload_n hx hb dX3_worn_36 rfl (lv_at hl 2 rfl) ?_
        refine lv_iload_n hx hb dX3_worn_37 rfl (lv_at hl 3 rfl) ?_
        refine zr_iconst hx hb dX3_worn_38 ?_
        refine zr_iadd (v := k + 1) hx hb rfl dX3_worn_39 ?_
        refine lv_iload hx hb dX3_worn_40 (lv_at hl 0 rfl) ?_
        refine zr_iadd (v := (k + 1) + 1) hx hb rfl dX3_worn_42 ?_
        refine zr_iald (f := mo) (n := 1792) hx hb hK hP 6 0 rfl rfl (by decide) (i := (k + 1) + 1) (by omega) (by omega) dX3_worn_43 ?_
        have b_18 := hmo ((k + 1) + 1)
        rw [hQ0]
        exact zret_i hx hb hr hlocks (by unfold wnM; (repeat first | rw [if_pos (by omega)] | rw [if_neg (by omega)]) <;> omega) hP hS dX3_worn_44
    · have c_6 := c_6
      refine lv_aload_n hx hb dX3_worn_36 rfl (lv_at hl 2 rfl) ?_
      refine lv_iload_n hx hb dX3_worn_37 rfl (lv_at hl 3 rfl) ?_
      refine zr_iconst hx hb dX3_worn_38 ?_
      refine zr_iadd (v := k + 1) hx hb rfl dX3_worn_39 ?_
      refine lv_iload hx hb dX3_worn_40 (lv_at hl 0 rfl) ?_
      refine zr_iadd (v := k + 1) hx hb (by omega) dX3_worn_42 ?_
      refine zr_iald (f := mo) (n := 1792) hx hb hK hP 6 0 rfl rfl (by decide) (i := k + 1) (by omega) (by omega) dX3_worn_43 ?_
      have b_19 := hmo (k + 1)
      rw [hQ0]
      exact zret_i hx hb hr hlocks (by unfold wnM; (repeat first | rw [if_pos (by omega)] | rw [if_neg (by omega)]) <;> omega) hP hS dX3_worn_44
  · have c_2 := c_2
    refine zr_iconst hx hb dX3_worn_7 ?_
    rw [hQ0]
    exact zret_i hx hb hr hlocks (by unfold wnM; (repeat first | rw [if_pos (by omega)] | rw [if_neg (by omega)]) <;> omega) hP hS dX3_worn_8
set_option maxHeartbeats 4000000 in
set_option maxRecDepth 100000 in
theorem kX3_writemo (l : Launch) (D : va_G) (cI cZ : ClassId) (q : Nat → Nat) (hN : (zLM q).Nodup) (pa : Int → Int) (sp : Int → Int) (al : Int → Int) (co : Int → Int) (da : Int → Int) (mo : Int → Int) (st : Int → Int) (mr : Int → Int) (th : Int) (n : Nat) (td : Int) (wn : Int) (hco : ∀ j : Int, 0 ≤ co j ∧ co j ≤ 5) (hda : ∀ j : Int, 0 ≤ da j ∧ da j ≤ 60) (hmo : ∀ j : Int, -1 ≤ mo j ∧ mo j ≤ 1000000) (htd : 0 ≤ td ∧ td ≤ 1000000) (k : Int) (g : Int) (h1 : 0 ≤ k ∧ k + 6 < 1792) (h2 : 1 ≤ g ∧ g ≤ 4) : zM l yX3_write wsX3_write ({ frames := 1, cells := 0, slots := 0, locals := 21 }) D [(cI, .int), (cZ, .boolean)] [.ref (q 0), .ref (q 6), .int (zI k), .int (zI g)] (wM cI cZ q pa sp al co da mo st mr th n td wn) (wM cI cZ q pa sp al co da (wrM mo k td co da g) st mr th n td wn) none (zLM q) := by
  refine Met.ofW (cc := cX3_write) (maxL := 5) (ret := none) (by decide) rfl ?_
  intro p0 e9 s9 m9 ag9 below meth c9 s₁ B hml hv
  obtain ⟨hav, hP, hK⟩ := hv
  have hx := B.exec
  have hb := B.bytes
  have hr := B.returns
  have hts := atoms_spec (ws := wsX3_write) B.pre
  have hown : s9.vm.findClass RX3 = some m9.cls := findClass_of_methodNamed B.named
  have hlocks := B.notSynchronized
  have hA : ∀ a ∈ zLM q, (fun a => a ∈ zLM q) a := fun _ h => h
  have hin3 : ∀ w ∈ u_ws RX3 TX3 12, w ∈ wsX3_write := by decide +kernel
  have hl := lv_entry ([.ref (q 0), .ref (q 6), .int (zI k), .int (zI g)]) (n := 5) (Nat.le_of_ble_eq_true rfl)
  have hE : entryFrame m9 ag9 5 = F0 m9 0 ((lg_sl ([.ref (q 0), .ref (q 6), .int (zI k), .int (zI g)]) ++ List.replicate (5 - (lg_sl ([.ref (q 0), .ref (q 6), .int (zI k), .int (zI g)])).length) Slot.unset).toArray) [] := by rw [hav]; exact lg_entry_eq m9 _ _
  obtain ⟨Q0, hQ0⟩ : ∃ Q0, Q0 = MQ below (zQ D (wM cI cZ q pa sp al co da (wrM mo k td co da g) st mr th n td wn) none (zLM q)) ag9 s9 0 0 (fun a => a ∈ zLM q) := ⟨_, rfl⟩
  show W p0 l e9 ({ frames := 1, cells := 0, slots := 0, locals := 21 }) s9 m9 ag9 below meth c9 s9.heap [] 0 0 (MQ below (zQ D (wM cI cZ q pa sp al co da (wrM mo k td co da g) st mr th n td wn) none (zLM q)) ag9 s9 0 0 (fun a => a ∈ zLM q)) _
  rw [hE, ← hQ0]
  have hS : va_S (fun a => a ∈ zLM q) s9.heap s9.heap [] := va_S.rf
  generalize hH0 : s9.heap = H at hP ⊢
  have hS : va_S (fun a => a ∈ zLM q) s9.heap H [] := by rw [hH0] at hS ⊢; exact hS
  generalize (lg_sl ([.ref (q 0), .ref (q 6), .int (zI k), .int (zI g)]) ++ List.replicate (5 - (lg_sl ([.ref (q 0), .ref (q 6), .int (zI k), .int (zI g)])).length) Slot.unset).toArray = ls at hl ⊢
  have hl : lv_has ls 5 [(0, .ref (q 0)), (1, .ref (q 6)), (2, .int (zI k)), (3, .int (zI g))] := hl
  refine lv_aload_n hx hb dX3_write_0 rfl (lv_at hl 1 rfl) ?_
  refine lv_iload_n hx hb dX3_write_1 rfl (lv_at hl 2 rfl) ?_
  refine lv_aload_n hx hb dX3_write_2 rfl (lv_at hl 0 rfl) ?_
  refine va_get (D := D) (ci := 3) (v := .int (zI td)) (C := RX3) (T := TX3) (N := 12) hx hb hts hin3 hown hK hP 0 rfl rfl 8 (by decide) (hts (.fieldLink RX3 95 "MourningRibbonsModel" "today" "I") (by decide +kernel)) (fun _ h9 => h9) rfl dX3_write_3 ?_
  refine zr_iast (f := mo) (n := 1792) hx hb hK hP hN rfl hA hS 6 0 rfl rfl (by decide) (i := k) (x := td) (by omega) (by omega) dX3_write_6 (fun H locs hP hS => ?_)
  have hP : va_P D vwCl (wM cI cZ q pa sp al co da (up mo k td) st mr th n td wn) H := hP
  refine zr_iconst hx hb dX3_write_7 ?_
  refine lv_istore (lv' := [(4, .int (zI 0)), (0, .ref (q 0)), (1, .ref (q 6)), (2, .int (zI k)), (3, .int (zI g))]) hx hb dX3_write_8 hl (by decide) rfl (fun ls hl => ?_)
  refine lv_iload hx hb dX3_write_10 (lv_at hl 0 rfl) ?_
  refine zr_iconst hx hb dX3_write_12 ?_
  refine zr_icmp_ge (tgt := 60) hx hb dX3_write_13 (by decide) ⟨by decide, by decide⟩ ⟨by decide, by decide⟩ (fun c_1 => by exfalso; revert c_1; decide) (fun c_1 => ?_)
  refine lv_aload_n hx hb dX3_write_16 rfl (lv_at hl 2 rfl) ?_
  refine lv_iload_n hx hb dX3_write_17 rfl (lv_at hl 3 rfl) ?_
  refine zr_iconst hx hb dX3_write_18 ?_
  refine zr_iadd (v := k + 1) hx hb rfl dX3_write_19 ?_
  refine lv_iload hx hb dX3_write_20 (lv_at hl 0 rfl) ?_
  refine zr_iadd (v := k + 1) hx hb (by omega) dX3_write_22 ?_
  refine lv_aload_n hx hb dX3_write_23 rfl (lv_at hl 1 rfl) ?_
  refine va_get (D := D) (ci := 3) (v := .ref (q 4)) (C := RX3) (T := TX3) (N := 12) hx hb hts hin3 hown hK hP 0 rfl rfl 5 (by decide) (hts (.fieldLink RX3 20 "MourningRibbonsModel" "colour" "[I") (by decide +kernel)) (fun _ h9 => h9) rfl dX3_write_24 ?_
  refine lv_iload_n hx hb dX3_write_27 rfl (lv_at hl 4 rfl) ?_
  refine lv_iload hx hb dX3_write_28 (lv_at hl 0 rfl) ?_
  refine zcallP (As := [.int (zI g), .int (zI 0)]) (rest := [.ref (q 4), .int (zI (k + 1)), .ref (q 6)]) ⟨hx, hb, hml, hown, hts⟩ (kX3_at l D g 0) hK (va_cwS 2 hts gX3_write_X3_at rfl rfl rfl (by decide +kernel) ⟨Nat.le_of_ble_eq_true rfl, Nat.le_of_ble_eq_true rfl⟩) hP hS rfl hl.1 rfl (Nat.le_of_ble_eq_true rfl) dX3_write_30 ⟨Nat.zero_le _, Nat.zero_le _⟩ (fun H locs hP hS => ?_)
  refine W.eq (g2 := F0 m9 33 ls [.int (zI (3 * (g - 1) + 0)), .ref (q 4), .int (zI (k + 1)), .ref (q 6)]) rfl ?_
  refine zr_iald (f := co) (n := 12) hx hb hK hP 4 0 rfl rfl (by decide) (i := 3 * (g - 1) + 0) (by omega) (by omega) dX3_write_33 ?_
  refine zr_iast (f := up mo k td) (n := 1792) hx hb hK hP hN rfl hA hS 6 0 rfl rfl (by decide) (i := k + 1) (x := co (3 * (g - 1) + 0)) (by omega) (by omega) dX3_write_34 (fun H locs hP hS => ?_)
  have hP : va_P D vwCl (wM cI cZ q pa sp al co da (up (up mo k td) (k + 1) (co (3 * (g - 1) + 0))) st mr th n td wn) H := hP
  refine lv_aload_n hx hb dX3_write_35 rfl (lv_at hl 2 rfl) ?_
  refine lv_iload_n hx hb dX3_write_36 rfl (lv_at hl 3 rfl) ?_
  refine zr_iconst hx hb dX3_write_37 ?_
  refine zr_iadd (v := k + 4) hx hb rfl dX3_write_38 ?_
  refine lv_iload hx hb dX3_write_39 (lv_at hl 0 rfl) ?_
  refine zr_iadd (v := k + 4) hx hb (by omega) dX3_write_41 ?_
  refine lv_aload_n hx hb dX3_write_42 rfl (lv_at hl 1 rfl) ?_
  refine va_get (D := D) (ci := 3) (v := .ref (q 5)) (C := RX3) (T := TX3) (N := 12) hx hb hts hin3 hown hK hP 0 rfl rfl 6 (by decide) (hts (.fieldLink RX3 23 "MourningRibbonsModel" "days" "[I") (by decide +kernel)) (fun _ h9 => h9) rfl dX3_write_43 ?_
  refine lv_iload_n hx hb dX3_write_46 rfl (lv_at hl 4 rfl) ?_
  refine lv_iload hx hb dX3_write_47 (lv_at hl 0 rfl) ?_
  refine zcallP (As := [.int (zI g), .int (zI 0)]) (rest := [.ref (q 5), .int (zI (k + 4)), .ref (q 6)]) ⟨hx, hb, hml, hown, hts⟩ (kX3_at l D g 0) hK (va_cwS 2 hts gX3_write_X3_at rfl rfl rfl (by decide +kernel) ⟨Nat.le_of_ble_eq_true rfl, Nat.le_of_ble_eq_true rfl⟩) hP hS rfl hl.1 rfl (Nat.le_of_ble_eq_true rfl) dX3_write_49 ⟨Nat.zero_le _, Nat.zero_le _⟩ (fun H locs hP hS => ?_)
  refine W.eq (g2 := F0 m9 52 ls [.int (zI (3 * (g - 1) + 0)), .ref (q 5), .int (zI (k + 4)), .ref (q 6)]) rfl ?_
  refine zr_iald (f := da) (n := 12) hx hb hK hP 5 0 rfl rfl (by decide) (i := 3 * (g - 1) + 0) (by omega) (by omega) dX3_write_52 ?_
  refine zr_iast (f := up (up mo k td) (k + 1) (co (3 * (g - 1) + 0))) (n := 1792) hx hb hK hP hN rfl hA hS 6 0 rfl rfl (by decide) (i := k + 4) (x := da (3 * (g - 1) + 0)) (by omega) (by omega) dX3_write_53 (fun H locs hP hS => ?_)
  have hP : va_P D vwCl (wM cI cZ q pa sp al co da (up (up (up mo k td) (k + 1) (co (3 * (g - 1) + 0))) (k + 4) (da (3 * (g - 1) + 0))) st mr th n td wn) H := hP
  refine zr_iinc (v := 1) (lv' := [(4, .int (zI 1)), (0, .ref (q 0)), (1, .ref (q 6)), (2, .int (zI k)), (3, .int (zI g))]) hx hb dX3_write_54 hl (k := 0) rfl (by decide) (by decide) rfl (fun ls hl => ?_)
  refine lv_goto (tgt := 10) hx hb dX3_write_57 (by decide) ?_
  refine lv_iload hx hb dX3_write_10 (lv_at hl 0 rfl) ?_
  refine zr_iconst hx hb dX3_write_12 ?_
  refine zr_icmp_ge (tgt := 60) hx hb dX3_write_13 (by decide) ⟨by decide, by decide⟩ ⟨by decide, by decide⟩ (fun c_2 => by exfalso; revert c_2; decide) (fun c_2 => ?_)
  refine lv_aload_n hx hb dX3_write_16 rfl (lv_at hl 2 rfl) ?_
  refine lv_iload_n hx hb dX3_write_17 rfl (lv_at hl 3 rfl) ?_
  refine zr_iconst hx hb dX3_write_18 ?_
  refine zr_iadd (v := k + 1) hx hb rfl dX3_write_19 ?_
  refine lv_iload hx hb dX3_write_20 (lv_at hl 0 rfl) ?_
  refine zr_iadd (v := (k + 1) + 1) hx hb rfl dX3_write_22 ?_
  refine lv_aload_n hx hb dX3_write_23 rfl (lv_at hl 1 rfl) ?_
  refine va_get (D := D) (ci := 3) (v := .ref (q 4)) (C := RX3) (T := TX3) (N := 12) hx hb hts hin3 hown hK hP 0 rfl rfl 5 (by decide) (hts (.fieldLink RX3 20 "MourningRibbonsModel" "colour" "[I") (by decide +kernel)) (fun _ h9 => h9) rfl dX3_write_24 ?_
  refine lv_iload_n hx hb dX3_write_27 rfl (lv_at hl 4 rfl) ?_
  refine lv_iload hx hb dX3_write_28 (lv_at hl 0 rfl) ?_
  refine zcallP (As := [.int (zI g), .int (zI 1)]) (rest := [.ref (q 4), .int (zI ((k + 1) + 1)), .ref (q 6)]) ⟨hx, hb, hml, hown, hts⟩ (kX3_at l D g 1) hK (va_cwS 2 hts gX3_write_X3_at rfl rfl rfl (by decide +kernel) ⟨Nat.le_of_ble_eq_true rfl, Nat.le_of_ble_eq_true rfl⟩) hP hS rfl hl.1 rfl (Nat.le_of_ble_eq_true rfl) dX3_write_30 ⟨Nat.zero_le _, Nat.zero_le _⟩ (fun H locs hP hS => ?_)
  refine W.eq (g2 := F0 m9 33 ls [.int (zI (3 * (g - 1) + 1)), .ref (q 4), .int (zI ((k + 1) + 1)), .ref (q 6)]) rfl ?_
  refine zr_iald (f := co) (n := 12) hx hb hK hP 4 0 rfl rfl (by decide) (i := 3 * (g - 1) + 1) (by omega) (by omega) dX3_write_33 ?_
  refine zr_iast (f := up (up (up mo k td) (k + 1) (co (3 * (g - 1) + 0))) (k + 4) (da (3 * (g - 1) + 0))) (n := 1792) hx hb hK hP hN rfl hA hS 6 0 rfl rfl (by decide) (i := (k + 1) + 1) (x := co (3 * (g - 1) + 1)) (by omega) (by omega) dX3_write_34 (fun H locs hP hS => ?_)
  have hP : va_P D vwCl (wM cI cZ q pa sp al co da (up (up (up (up mo k td) (k + 1) (co (3 * (g - 1) + 0))) (k + 4) (da (3 * (g - 1) + 0))) ((k + 1) + 1) (co (3 * (g - 1) + 1))) st mr th n td wn) H := hP
  refine lv_aload_n hx hb dX3_write_35 rfl (lv_at hl 2 rfl) ?_
  refine lv_iload_n hx hb dX3_write_36 rfl (lv_at hl 3 rfl) ?_
  refine zr_iconst hx hb dX3_write_37 ?_
  refine zr_iadd (v := k + 4) hx hb rfl dX3_write_38 ?_
  refine lv_iload hx hb dX3_write_39 (lv_at hl 0 rfl) ?_
  refine zr_iadd (v := (k + 4) + 1) hx hb rfl dX3_write_41 ?_
  refine lv_aload_n hx hb dX3_write_42 rfl (lv_at hl 1 rfl) ?_
  refine va_get (D := D) (ci := 3) (v := .ref (q 5)) (C := RX3) (T := TX3) (N := 12) hx hb hts hin3 hown hK hP 0 rfl rfl 6 (by decide) (hts (.fieldLink RX3 23 "MourningRibbonsModel" "days" "[I") (by decide +kernel)) (fun _ h9 => h9) rfl dX3_write_43 ?_
  refine lv_iload_n hx hb dX3_write_46 rfl (lv_at hl 4 rfl) ?_
  refine lv_iload hx hb dX3_write_47 (lv_at hl 0 rfl) ?_
  refine zcallP (As := [.int (zI g), .int (zI 1)]) (rest := [.ref (q 5), .int (zI ((k + 4) + 1)), .ref (q 6)]) ⟨hx, hb, hml, hown, hts⟩ (kX3_at l D g 1) hK (va_cwS 2 hts gX3_write_X3_at rfl rfl rfl (by decide +kernel) ⟨Nat.le_of_ble_eq_true rfl, Nat.le_of_ble_eq_true rfl⟩) hP hS rfl hl.1 rfl (Nat.le_of_ble_eq_true rfl) dX3_write_49 ⟨Nat.zero_le _, Nat.zero_le _⟩ (fun H locs hP hS => ?_)
  refine W.eq (g2 := F0 m9 52 ls [.int (zI (3 * (g - 1) + 1)), .ref (q 5), .int (zI ((k + 4) + 1)), .ref (q 6)]) rfl ?_
  refine zr_iald (f := da) (n := 12) hx hb hK hP 5 0 rfl rfl (by decide) (i := 3 * (g - 1) + 1) (by omega) (by omega) dX3_write_52 ?_
  refine zr_iast (f := up (up (up (up mo k td) (k + 1) (co (3 * (g - 1) + 0))) (k + 4) (da (3 * (g - 1) + 0))) ((k + 1) + 1) (co (3 * (g - 1) + 1))) (n := 1792) hx hb hK hP hN rfl hA hS 6 0 rfl rfl (by decide) (i := (k + 4) + 1) (x := da (3 * (g - 1) + 1)) (by omega) (by omega) dX3_write_53 (fun H locs hP hS => ?_)
  have hP : va_P D vwCl (wM cI cZ q pa sp al co da (up (up (up (up (up mo k td) (k + 1) (co (3 * (g - 1) + 0))) (k + 4) (da (3 * (g - 1) + 0))) ((k + 1) + 1) (co (3 * (g - 1) + 1))) ((k + 4) + 1) (da (3 * (g - 1) + 1))) st mr th n td wn) H := hP
  refine zr_iinc (v := 2) (lv' := [(4, .int (zI 2)), (0, .ref (q 0)), (1, .ref (q 6)), (2, .int (zI k)), (3, .int (zI g))]) hx hb dX3_write_54 hl (k := 0) rfl (by decide) (by decide) rfl (fun ls hl => ?_)
  refine lv_goto (tgt := 10) hx hb dX3_write_57 (by decide) ?_
  refine lv_iload hx hb dX3_write_10 (lv_at hl 0 rfl) ?_
  refine zr_iconst hx hb dX3_write_12 ?_
  refine zr_icmp_ge (tgt := 60) hx hb dX3_write_13 (by decide) ⟨by decide, by decide⟩ ⟨by decide, by decide⟩ (fun c_3 => by exfalso; revert c_3; decide) (fun c_3 => ?_)
  refine lv_aload_n hx hb dX3_write_16 rfl (lv_at hl 2 rfl) ?_
  refine lv_iload_n hx hb dX3_write_17 rfl (lv_at hl 3 rfl) ?_
  refine zr_iconst hx hb dX3_write_18 ?_
  refine zr_iadd (v := k + 1) hx hb rfl dX3_write_19 ?_
  refine lv_iload hx hb dX3_write_20 (lv_at hl 0 rfl) ?_
  refine zr_iadd (v := (k + 1) + 2) hx hb rfl dX3_write_22 ?_
  refine lv_aload_n hx hb dX3_write_23 rfl (lv_at hl 1 rfl) ?_
  refine va_get (D := D) (ci := 3) (v := .ref (q 4)) (C := RX3) (T := TX3) (N := 12) hx hb hts hin3 hown hK hP 0 rfl rfl 5 (by decide) (hts (.fieldLink RX3 20 "MourningRibbonsModel" "colour" "[I") (by decide +kernel)) (fun _ h9 => h9) rfl dX3_write_24 ?_
  refine lv_iload_n hx hb dX3_write_27 rfl (lv_at hl 4 rfl) ?_
  refine lv_iload hx hb dX3_write_28 (lv_at hl 0 rfl) ?_
  refine zcallP (As := [.int (zI g), .int (zI 2)]) (rest := [.ref (q 4), .int (zI ((k + 1) + 2)), .ref (q 6)]) ⟨hx, hb, hml, hown, hts⟩ (kX3_at l D g 2) hK (va_cwS 2 hts gX3_write_X3_at rfl rfl rfl (by decide +kernel) ⟨Nat.le_of_ble_eq_true rfl, Nat.le_of_ble_eq_true rfl⟩) hP hS rfl hl.1 rfl (Nat.le_of_ble_eq_true rfl) dX3_write_30 ⟨Nat.zero_le _, Nat.zero_le _⟩ (fun H locs hP hS => ?_)
  refine W.eq (g2 := F0 m9 33 ls [.int (zI (3 * (g - 1) + 2)), .ref (q 4), .int (zI ((k + 1) + 2)), .ref (q 6)]) rfl ?_
  refine zr_iald (f := co) (n := 12) hx hb hK hP 4 0 rfl rfl (by decide) (i := 3 * (g - 1) + 2) (by omega) (by omega) dX3_write_33 ?_
  refine zr_iast (f := up (up (up (up (up mo k td) (k + 1) (co (3 * (g - 1) + 0))) (k + 4) (da (3 * (g - 1) + 0))) ((k + 1) + 1) (co (3 * (g - 1) + 1))) ((k + 4) + 1) (da (3 * (g - 1) + 1))) (n := 1792) hx hb hK hP hN rfl hA hS 6 0 rfl rfl (by decide) (i := (k + 1) + 2) (x := co (3 * (g - 1) + 2)) (by omega) (by omega) dX3_write_34 (fun H locs hP hS => ?_)
  have hP : va_P D vwCl (wM cI cZ q pa sp al co da (up (up (up (up (up (up mo k td) (k + 1) (co (3 * (g - 1) + 0))) (k + 4) (da (3 * (g - 1) + 0))) ((k + 1) + 1) (co (3 * (g - 1) + 1))) ((k + 4) + 1) (da (3 * (g - 1) + 1))) ((k + 1) + 2) (co (3 * (g - 1) + 2))) st mr th n td wn) H := hP
  refine lv_aload_n hx hb dX3_write_35 rfl (lv_at hl 2 rfl) ?_
  refine lv_iload_n hx hb dX3_write_36 rfl (lv_at hl 3 rfl) ?_
  refine zr_iconst hx hb dX3_write_37 ?_
  refine zr_iadd (v := k + 4) hx hb rfl dX3_write_38 ?_
  refine lv_iload hx hb dX3_write_39 (lv_at hl 0 rfl) ?_
  refine zr_iadd (v := (k + 4) + 2) hx hb rfl dX3_write_41 ?_
  refine lv_aload_n hx hb dX3_write_42 rfl (lv_at hl 1 rfl) ?_
  refine va_get (D := D) (ci := 3) (v := .ref (q 5)) (C := RX3) (T := TX3) (N := 12) hx hb hts hin3 hown hK hP 0 rfl rfl 6 (by decide) (hts (.fieldLink RX3 23 "MourningRibbonsModel" "days" "[I") (by decide +kernel)) (fun _ h9 => h9) rfl dX3_write_43 ?_
  refine lv_iload_n hx hb dX3_write_46 rfl (lv_at hl 4 rfl) ?_
  refine lv_iload hx hb dX3_write_47 (lv_at hl 0 rfl) ?_
  refine zcallP (As := [.int (zI g), .int (zI 2)]) (rest := [.ref (q 5), .int (zI ((k + 4) + 2)), .ref (q 6)]) ⟨hx, hb, hml, hown, hts⟩ (kX3_at l D g 2) hK (va_cwS 2 hts gX3_write_X3_at rfl rfl rfl (by decide +kernel) ⟨Nat.le_of_ble_eq_true rfl, Nat.le_of_ble_eq_true rfl⟩) hP hS rfl hl.1 rfl (Nat.le_of_ble_eq_true rfl) dX3_write_49 ⟨Nat.zero_le _, Nat.zero_le _⟩ (fun H locs hP hS => ?_)
  refine W.eq (g2 := F0 m9 52 ls [.int (zI (3 * (g - 1) + 2)), .ref (q 5), .int (zI ((k + 4) + 2)), .ref (q 6)]) rfl ?_
  refine zr_iald (f := da) (n := 12) hx hb hK hP 5 0 rfl rfl (by decide) (i := 3 * (g - 1) + 2) (by omega) (by omega) dX3_write_52 ?_
  refine zr_iast (f := up (up (up (up (up (up mo k td) (k + 1) (co (3 * (g - 1) + 0))) (k + 4) (da (3 * (g - 1) + 0))) ((k + 1) + 1) (co (3 * (g - 1) + 1))) ((k + 4) + 1) (da (3 * (g - 1) + 1))) ((k + 1) + 2) (co (3 * (g - 1) + 2))) (n := 1792) hx hb hK hP hN rfl hA hS 6 0 rfl rfl (by decide) (i := (k + 4) + 2) (x := da (3 * (g - 1) + 2)) (by omega) (by omega) dX3_write_53 (fun H locs hP hS => ?_)
  have hP : va_P D vwCl (wM cI cZ q pa sp al co da (up (up (up (up (up (up (up mo k td) (k + 1) (co (3 * (g - 1) + 0))) (k + 4) (da (3 * (g - 1) + 0))) ((k + 1) + 1) (co (3 * (g - 1) + 1))) ((k + 4) + 1) (da (3 * (g - 1) + 1))) ((k + 1) + 2) (co (3 * (g - 1) + 2))) ((k + 4) + 2) (da (3 * (g - 1) + 2))) st mr th n td wn) H := hP
  refine zr_iinc (v := 3) (lv' := [(4, .int (zI 3)), (0, .ref (q 0)), (1, .ref (q 6)), (2, .int (zI k)), (3, .int (zI g))]) hx hb dX3_write_54 hl (k := 0) rfl (by decide) (by decide) rfl (fun ls hl => ?_)
  refine lv_goto (tgt := 10) hx hb dX3_write_57 (by decide) ?_
  refine lv_iload hx hb dX3_write_10 (lv_at hl 0 rfl) ?_
  refine zr_iconst hx hb dX3_write_12 ?_
  refine zr_icmp_ge (tgt := 60) hx hb dX3_write_13 (by decide) ⟨by decide, by decide⟩ ⟨by decide, by decide⟩ (fun c_4 => ?_) (fun c_4 => by exfalso; revert c_4; decide)
  have e_5 : (wrM mo k td co da g : Int → Int) = up (up (up (up (up (up (up mo k td) (k + 1) (co (3 * (g - 1) + 0))) (k + 4) (da (3 * (g - 1) + 0))) ((k + 1) + 1) (co (3 * (g - 1) + 1))) ((k + 4) + 1) (da (3 * (g - 1) + 1))) ((k + 1) + 2) (co (3 * (g - 1) + 2))) ((k + 4) + 2) (da (3 * (g - 1) + 2)) := rfl
  have hP : va_P D vwCl (wM cI cZ q pa sp al co da (wrM mo k td co da g) st mr th n td wn) H := by rw [e_5]; exact hP
  rw [hQ0]
  exact zret_v hx hb hr hlocks hP hS dX3_write_60
set_option maxHeartbeats 4000000 in
set_option maxRecDepth 100000 in
theorem kX3_wornmr (l : Launch) (D : va_G) (cI cZ : ClassId) (q : Nat → Nat) (hN : (zLM q).Nodup) (pa : Int → Int) (sp : Int → Int) (al : Int → Int) (co : Int → Int) (da : Int → Int) (mo : Int → Int) (st : Int → Int) (mr : Int → Int) (th : Int) (n : Nat) (td : Int) (wn : Int) (hmr : ∀ j : Int, -1 ≤ mr j ∧ mr j ≤ 1000000) (k : Int) (t : Int) (h1 : 0 ≤ k ∧ k + 6 < 7) (h2 : 0 ≤ t ∧ t ≤ 2000000) : zM l yX3_worn wsX3_worn ({ frames := 0, cells := 0, slots := 0, locals := 0 }) D [(cI, .int), (cZ, .boolean)] [.ref (q 8), .int (zI k), .int (zI t)] (wM cI cZ q pa sp al co da mo st mr th n td wn) (wM cI cZ q pa sp al co da mo st mr th n td wn) (some (.int (zI (wnM mr k t)))) (zLM q) := by
  refine Met.ofW (cc := cX3_worn) (maxL := 5) (ret := (some .int)) (by decide) rfl ?_
  intro p0 e9 s9 m9 ag9 below meth c9 s₁ B hml hv
  obtain ⟨hav, hP, hK⟩ := hv
  have hx := B.exec
  have hb := B.bytes
  have hr := B.returns
  have hts := atoms_spec (ws := wsX3_worn) B.pre
  have hown : s9.vm.findClass RX3 = some m9.cls := findClass_of_methodNamed B.named
  have hlocks := B.notSynchronized
  have hA : ∀ a ∈ zLM q, (fun a => a ∈ zLM q) a := fun _ h => h
  have hl := lv_entry ([.ref (q 8), .int (zI k), .int (zI t)]) (n := 5) (Nat.le_of_ble_eq_true rfl)
  have hE : entryFrame m9 ag9 5 = F0 m9 0 ((lg_sl ([.ref (q 8), .int (zI k), .int (zI t)]) ++ List.replicate (5 - (lg_sl ([.ref (q 8), .int (zI k), .int (zI t)])).length) Slot.unset).toArray) [] := by rw [hav]; exact lg_entry_eq m9 _ _
  obtain ⟨Q0, hQ0⟩ : ∃ Q0, Q0 = MQ below (zQ D (wM cI cZ q pa sp al co da mo st mr th n td wn) (some (.int (zI (wnM mr k t)))) (zLM q)) ag9 s9 0 0 (fun a => a ∈ zLM q) := ⟨_, rfl⟩
  show W p0 l e9 ({ frames := 0, cells := 0, slots := 0, locals := 0 }) s9 m9 ag9 below meth c9 s9.heap [] 0 0 (MQ below (zQ D (wM cI cZ q pa sp al co da mo st mr th n td wn) (some (.int (zI (wnM mr k t)))) (zLM q)) ag9 s9 0 0 (fun a => a ∈ zLM q)) _
  rw [hE, ← hQ0]
  have hS : va_S (fun a => a ∈ zLM q) s9.heap s9.heap [] := va_S.rf
  generalize hH0 : s9.heap = H at hP ⊢
  have hS : va_S (fun a => a ∈ zLM q) s9.heap H [] := by rw [hH0] at hS ⊢; exact hS
  generalize (lg_sl ([.ref (q 8), .int (zI k), .int (zI t)]) ++ List.replicate (5 - (lg_sl ([.ref (q 8), .int (zI k), .int (zI t)])).length) Slot.unset).toArray = ls at hl ⊢
  have hl : lv_has ls 5 [(0, .ref (q 8)), (1, .int (zI k)), (2, .int (zI t))] := hl
  refine lv_aload_n hx hb dX3_worn_0 rfl (lv_at hl 0 rfl) ?_
  refine lv_iload_n hx hb dX3_worn_1 rfl (lv_at hl 1 rfl) ?_
  refine zr_iald (f := mr) (n := 7) hx hb hK hP 8 0 rfl rfl (by decide) (i := k) (by omega) (by omega) dX3_worn_2 ?_
  have b_1 := hmr k
  refine zr_iconst hx hb dX3_worn_3 ?_
  refine zr_icmp_ne (tgt := 9) hx hb dX3_worn_4 (by decide) ⟨by omega, by omega⟩ ⟨by decide, by decide⟩ (fun c_2 => ?_) (fun c_2 => ?_)
  · have c_2 := c_2
    refine lv_iload_n hx hb dX3_worn_9 rfl (lv_at hl 2 rfl) ?_
    refine lv_aload_n hx hb dX3_worn_10 rfl (lv_at hl 0 rfl) ?_
    refine lv_iload_n hx hb dX3_worn_11 rfl (lv_at hl 1 rfl) ?_
    refine zr_iald (f := mr) (n := 7) hx hb hK hP 8 0 rfl rfl (by decide) (i := k) (by omega) (by omega) dX3_worn_12 ?_
    have b_3 := hmr k
    refine zr_isub (v := t - (mr k)) hx hb rfl dX3_worn_13 ?_
    refine lv_istore_n (lv' := [(3, .int (zI (t - (mr k)))), (0, .ref (q 8)), (1, .int (zI k)), (2, .int (zI t))]) hx hb dX3_worn_14 rfl hl (by decide) rfl (fun ls hl => ?_)
    refine zr_iconst hx hb dX3_worn_15 ?_
    refine lv_istore (lv' := [(4, .int (zI 0)), (3, .int (zI (t - (mr k)))), (0, .ref (q 8)), (1, .int (zI k)), (2, .int (zI t))]) hx hb dX3_worn_16 hl (by decide) rfl (fun ls hl => ?_)
    refine lv_iload hx hb dX3_worn_18 (lv_at hl 0 rfl) ?_
    refine zr_iconst hx hb dX3_worn_20 ?_
    refine zr_icmp_ge (tgt := 62) hx hb dX3_worn_21 (by decide) ⟨by decide, by decide⟩ ⟨by decide, by decide⟩ (fun c_4 => by exfalso; revert c_4; decide) (fun c_4 => ?_)
    refine lv_iload_n hx hb dX3_worn_24 rfl (lv_at hl 1 rfl) ?_
    refine lv_aload_n hx hb dX3_worn_25 rfl (lv_at hl 2 rfl) ?_
    refine lv_iload_n hx hb dX3_worn_26 rfl (lv_at hl 3 rfl) ?_
    refine zr_iconst hx hb dX3_worn_27 ?_
    refine zr_iadd (v := k + 4) hx hb rfl dX3_worn_28 ?_
    refine lv_iload hx hb dX3_worn_29 (lv_at hl 0 rfl) ?_
    refine zr_iadd (v := k + 4) hx hb (by omega) dX3_worn_31 ?_
    refine zr_iald (f := mr) (n := 7) hx hb hK hP 8 0 rfl rfl (by decide) (i := k + 4) (by omega) (by omega) dX3_worn_32 ?_
    have b_5 := hmr (k + 4)
    refine zr_icmp_ge (tgt := 45) hx hb dX3_worn_33 (by decide) ⟨by omega, by omega⟩ ⟨by omega, by omega⟩ (fun c_6 => ?_) (fun c_6 => ?_)
    · have c_6 := c_6
      refine lv_iload_n hx hb dX3_worn_45 rfl (lv_at hl 1 rfl) ?_
      refine lv_aload_n hx hb dX3_worn_46 rfl (lv_at hl 2 rfl) ?_
      refine lv_iload_n hx hb dX3_worn_47 rfl (lv_at hl 3 rfl) ?_
      refine zr_iconst hx hb dX3_worn_48 ?_
      refine zr_iadd (v := k + 4) hx hb rfl dX3_worn_49 ?_
      refine lv_iload hx hb dX3_worn_50 (lv_at hl 0 rfl) ?_
      refine zr_iadd (v := k + 4) hx hb (by omega) dX3_worn_52 ?_
      refine zr_iald (f := mr) (n := 7) hx hb hK hP 8 0 rfl rfl (by decide) (i := k + 4) (by omega) (by omega) dX3_worn_53 ?_
      have b_7 := hmr (k + 4)
      refine zr_isub (v := (t - (mr k)) - (mr (k + 4))) hx hb rfl dX3_worn_54 ?_
      refine lv_istore_n (lv' := [(3, .int (zI ((t - (mr k)) - (mr (k + 4))))), (4, .int (zI 0)), (0, .ref (q 8)), (1, .int (zI k)), (2, .int (zI t))]) hx hb dX3_worn_55 rfl hl (by decide) rfl (fun ls hl => ?_)
      refine zr_iinc (v := 1) (lv' := [(4, .int (zI 1)), (3, .int (zI ((t - (mr k)) - (mr (k + 4))))), (0, .ref (q 8)), (1, .int (zI k)), (2, .int (zI t))]) hx hb dX3_worn_56 hl (k := 1) rfl (by decide) (by decide) rfl (fun ls hl => ?_)
      refine lv_goto (tgt := 18) hx hb dX3_worn_59 (by decide) ?_
      refine lv_iload hx hb dX3_worn_18 (lv_at hl 0 rfl) ?_
      refine zr_iconst hx hb dX3_worn_20 ?_
      refine zr_icmp_ge (tgt := 62) hx hb dX3_worn_21 (by decide) ⟨by decide, by decide⟩ ⟨by decide, by decide⟩ (fun c_8 => by exfalso; revert c_8; decide) (fun c_8 => ?_)
      refine lv_iload_n hx hb dX3_worn_24 rfl (lv_at hl 1 rfl) ?_
      refine lv_aload_n hx hb dX3_worn_25 rfl (lv_at hl 2 rfl) ?_
      refine lv_iload_n hx hb dX3_worn_26 rfl (lv_at hl 3 rfl) ?_
      refine zr_iconst hx hb dX3_worn_27 ?_
      refine zr_iadd (v := k + 4) hx hb rfl dX3_worn_28 ?_
      refine lv_iload hx hb dX3_worn_29 (lv_at hl 0 rfl) ?_
      refine zr_iadd (v := (k + 4) + 1) hx hb rfl dX3_worn_31 ?_
      refine zr_iald (f := mr) (n := 7) hx hb hK hP 8 0 rfl rfl (by decide) (i := (k + 4) + 1) (by omega) (by omega) dX3_worn_32 ?_
      have b_9 := hmr ((k + 4) + 1)
      refine zr_icmp_ge (tgt := 45) hx hb dX3_worn_33 (by decide) ⟨by omega, by omega⟩ ⟨by omega, by omega⟩ (fun c_10 => ?_) (fun c_10 => ?_)
      · have c_10 := c_10
        refine lv_iload_n hx hb dX3_worn_45 rfl (lv_at hl 1 rfl) ?_
        refine lv_aload_n hx hb dX3_worn_46 rfl (lv_at hl 2 rfl) ?_
        refine lv_iload_n hx hb dX3_worn_47 rfl (lv_at hl 3 rfl) ?_
        refine zr_iconst hx hb dX3_worn_48 ?_
        refine zr_iadd (v := k + 4) hx hb rfl dX3_worn_49 ?_
        refine lv_iload hx hb dX3_worn_50 (lv_at hl 0 rfl) ?_
        refine zr_iadd (v := (k + 4) + 1) hx hb rfl dX3_worn_52 ?_
        refine zr_iald (f := mr) (n := 7) hx hb hK hP 8 0 rfl rfl (by decide) (i := (k + 4) + 1) (by omega) (by omega) dX3_worn_53 ?_
        have b_11 := hmr ((k + 4) + 1)
        refine zr_isub (v := ((t - (mr k)) - (mr (k + 4))) - (mr ((k + 4) + 1))) hx hb rfl dX3_worn_54 ?_
        refine lv_istore_n (lv' := [(3, .int (zI (((t - (mr k)) - (mr (k + 4))) - (mr ((k + 4) + 1))))), (4, .int (zI 1)), (0, .ref (q 8)), (1, .int (zI k)), (2, .int (zI t))]) hx hb dX3_worn_55 rfl hl (by decide) rfl (fun ls hl => ?_)
        refine zr_iinc (v := 2) (lv' := [(4, .int (zI 2)), (3, .int (zI (((t - (mr k)) - (mr (k + 4))) - (mr ((k + 4) + 1))))), (0, .ref (q 8)), (1, .int (zI k)), (2, .int (zI t))]) hx hb dX3_worn_56 hl (k := 1) rfl (by decide) (by decide) rfl (fun ls hl => ?_)
        refine lv_goto (tgt := 18) hx hb dX3_worn_59 (by decide) ?_
        refine lv_iload hx hb dX3_worn_18 (lv_at hl 0 rfl) ?_
        refine zr_iconst hx hb dX3_worn_20 ?_
        refine zr_icmp_ge (tgt := 62) hx hb dX3_worn_21 (by decide) ⟨by decide, by decide⟩ ⟨by decide, by decide⟩ (fun c_12 => by exfalso; revert c_12; decide) (fun c_12 => ?_)
        refine lv_iload_n hx hb dX3_worn_24 rfl (lv_at hl 1 rfl) ?_
        refine lv_aload_n hx hb dX3_worn_25 rfl (lv_at hl 2 rfl) ?_
        refine lv_iload_n hx hb dX3_worn_26 rfl (lv_at hl 3 rfl) ?_
        refine zr_iconst hx hb dX3_worn_27 ?_
        refine zr_iadd (v := k + 4) hx hb rfl dX3_worn_28 ?_
        refine lv_iload hx hb dX3_worn_29 (lv_at hl 0 rfl) ?_
        refine zr_iadd (v := (k + 4) + 2) hx hb rfl dX3_worn_31 ?_
        refine zr_iald (f := mr) (n := 7) hx hb hK hP 8 0 rfl rfl (by decide) (i := (k + 4) + 2) (by omega) (by omega) dX3_worn_32 ?_
        have b_13 := hmr ((k + 4) + 2)
        refine zr_icmp_ge (tgt := 45) hx hb dX3_worn_33 (by decide) ⟨by omega, by omega⟩ ⟨by omega, by omega⟩ (fun c_14 => ?_) (fun c_14 => ?_)
        · have c_14 := c_14
          refine lv_iload_n hx hb dX3_worn_45 rfl (lv_at hl 1 rfl) ?_
          refine lv_aload_n hx hb dX3_worn_46 rfl (lv_at hl 2 rfl) ?_
          refine lv_iload_n hx hb dX3_worn_47 rfl (lv_at hl 3 rfl) ?_
          refine zr_iconst hx hb dX3_worn_48 ?_
          refine zr_iadd (v := k + 4) hx hb rfl dX3_worn_49 ?_
          refine lv_iload hx hb dX3_worn_50 (lv_at hl 0 rfl) ?_
          refine zr_iadd (v := (k + 4) + 2) hx hb rfl dX3_worn_52 ?_
          refine zr_iald (f := mr) (n := 7) hx hb hK hP 8 0 rfl rfl (by decide) (i := (k + 4) + 2) (by omega) (by omega) dX3_worn_53 ?_
          have b_15 := hmr ((k + 4) + 2)
          refine zr_isub (v := (((t - (mr k)) - (mr (k + 4))) - (mr ((k + 4) + 1))) - (mr ((k + 4) + 2))) hx hb rfl dX3_worn_54 ?_
          refine lv_istore_n (lv' := [(3, .int (zI ((((t - (mr k)) - (mr (k + 4))) - (mr ((k + 4) + 1))) - (mr ((k + 4) + 2))))), (4, .int (zI 2)), (0, .ref (q 8)), (1, .int (zI k)), (2, .int (zI t))]) hx hb dX3_worn_55 rfl hl (by decide) rfl (fun ls hl => ?_)
          refine zr_iinc (v := 3) (lv' := [(4, .int (zI 3)), (3, .int (zI ((((t - (mr k)) - (mr (k + 4))) - (mr ((k + 4) + 1))) - (mr ((k + 4) + 2))))), (0, .ref (q 8)), (1, .int (zI k)), (2, .int (zI t))]) hx hb dX3_worn_56 hl (k := 1) rfl (by decide) (by decide) rfl (fun ls hl => ?_)
          refine lv_goto (tgt := 18) hx hb dX3_worn_59 (by decide) ?_
          refine lv_iload hx hb dX3_worn_18 (lv_at hl 0 rfl) ?_
          refine zr_iconst hx hb dX3_worn_20 ?_
          refine zr_icmp_ge (tgt := 62) hx hb dX3_worn_21 (by decide) ⟨by decide, by decide⟩ ⟨by decide, by decide⟩ (fun c_16 => ?_) (fun c_16 => by exfalso; revert c_16; decide)
          refine zr_iconst hx hb dX3_worn_62 ?_
          rw [hQ0]
          exact zret_i hx hb hr hlocks (by unfold wnM; (repeat first | rw [if_pos (by omega)] | rw [if_neg (by omega)]) <;> omega) hP hS dX3_worn_63
        · have c_14 := c_14
          refine lv_aload_n hx hb dX3_worn_36 rfl (lv_at hl 2 rfl) ?_
          refine lv_iload_n hx hb dX3_worn_37 rfl (lv_at hl 3 rfl) ?_
          refine zr_iconst hx hb dX3_worn_38 ?_
          refine zr_iadd (v := k + 1) hx hb rfl dX3_worn_39 ?_
          refine lv_iload hx hb dX3_worn_40 (lv_at hl 0 rfl) ?_
          refine zr_iadd (v := (k + 1) + 2) hx hb rfl dX3_worn_42 ?_
          refine zr_iald (f := mr) (n := 7) hx hb hK hP 8 0 rfl rfl (by decide) (i := (k + 1) + 2) (by omega) (by omega) dX3_worn_43 ?_
          have b_17 := hmr ((k + 1) + 2)
          rw [hQ0]
          exact zret_i hx hb hr hlocks (by unfold wnM; (repeat first | rw [if_pos (by omega)] | rw [if_neg (by omega)]) <;> omega) hP hS dX3_worn_44
      · have c_10 := c_10
        refine lv_aload_n hx hb dX3_worn_36 rfl (lv_at hl 2 rfl) ?_
        refine lv_iload_n hx hb dX3_worn_37 rfl (lv_at hl 3 rfl) ?_
        refine zr_iconst hx hb dX3_worn_38 ?_
        refine zr_iadd (v := k + 1) hx hb rfl dX3_worn_39 ?_
        refine lv_iload hx hb dX3_worn_40 (lv_at hl 0 rfl) ?_
        refine zr_iadd (v := (k + 1) + 1) hx hb rfl dX3_worn_42 ?_
        refine zr_iald (f := mr) (n := 7) hx hb hK hP 8 0 rfl rfl (by decide) (i := (k + 1) + 1) (by omega) (by omega) dX3_worn_43 ?_
        have b_18 := hmr ((k + 1) + 1)
        rw [hQ0]
        exact zret_i hx hb hr hlocks (by unfold wnM; (repeat first | rw [if_pos (by omega)] | rw [if_neg (by omega)]) <;> omega) hP hS dX3_worn_44
    · have c_6 := c_6
      refine lv_aload_n hx hb dX3_worn_36 rfl (lv_at hl 2 rfl) ?_
      refine lv_iload_n hx hb dX3_worn_37 rfl (lv_at hl 3 rfl) ?_
      refine zr_iconst hx hb dX3_worn_38 ?_
      refine zr_iadd (v := k + 1) hx hb rfl dX3_worn_39 ?_
      refine lv_iload hx hb dX3_worn_40 (lv_at hl 0 rfl) ?_
      refine zr_iadd (v := k + 1) hx hb (by omega) dX3_worn_42 ?_
      refine zr_iald (f := mr) (n := 7) hx hb hK hP 8 0 rfl rfl (by decide) (i := k + 1) (by omega) (by omega) dX3_worn_43 ?_
      have b_19 := hmr (k + 1)
      rw [hQ0]
      exact zret_i hx hb hr hlocks (by unfold wnM; (repeat first | rw [if_pos (by omega)] | rw [if_neg (by omega)]) <;> omega) hP hS dX3_worn_44
  · have c_2 := c_2
    refine zr_iconst hx hb dX3_worn_7 ?_
    rw [hQ0]
    exact zret_i hx hb hr hlocks (by unfold wnM; (repeat first | rw [if_pos (by omega)] | rw [if_neg (by omega)]) <;> omega) hP hS dX3_worn_8
set_option maxHeartbeats 4000000 in
set_option maxRecDepth 100000 in
theorem kX3_writemr (l : Launch) (D : va_G) (cI cZ : ClassId) (q : Nat → Nat) (hN : (zLM q).Nodup) (pa : Int → Int) (sp : Int → Int) (al : Int → Int) (co : Int → Int) (da : Int → Int) (mo : Int → Int) (st : Int → Int) (mr : Int → Int) (th : Int) (n : Nat) (td : Int) (wn : Int) (hco : ∀ j : Int, 0 ≤ co j ∧ co j ≤ 5) (hda : ∀ j : Int, 0 ≤ da j ∧ da j ≤ 60) (hmr : ∀ j : Int, -1 ≤ mr j ∧ mr j ≤ 1000000) (htd : 0 ≤ td ∧ td ≤ 1000000) (k : Int) (g : Int) (h1 : 0 ≤ k ∧ k + 6 < 7) (h2 : 1 ≤ g ∧ g ≤ 4) : zM l yX3_write wsX3_write ({ frames := 1, cells := 0, slots := 0, locals := 21 }) D [(cI, .int), (cZ, .boolean)] [.ref (q 0), .ref (q 8), .int (zI k), .int (zI g)] (wM cI cZ q pa sp al co da mo st mr th n td wn) (wM cI cZ q pa sp al co da mo st (wrM mr k td co da g) th n td wn) none (zLM q) := by
  refine Met.ofW (cc := cX3_write) (maxL := 5) (ret := none) (by decide) rfl ?_
  intro p0 e9 s9 m9 ag9 below meth c9 s₁ B hml hv
  obtain ⟨hav, hP, hK⟩ := hv
  have hx := B.exec
  have hb := B.bytes
  have hr := B.returns
  have hts := atoms_spec (ws := wsX3_write) B.pre
  have hown : s9.vm.findClass RX3 = some m9.cls := findClass_of_methodNamed B.named
  have hlocks := B.notSynchronized
  have hA : ∀ a ∈ zLM q, (fun a => a ∈ zLM q) a := fun _ h => h
  have hin3 : ∀ w ∈ u_ws RX3 TX3 12, w ∈ wsX3_write := by decide +kernel
  have hl := lv_entry ([.ref (q 0), .ref (q 8), .int (zI k), .int (zI g)]) (n := 5) (Nat.le_of_ble_eq_true rfl)
  have hE : entryFrame m9 ag9 5 = F0 m9 0 ((lg_sl ([.ref (q 0), .ref (q 8), .int (zI k), .int (zI g)]) ++ List.replicate (5 - (lg_sl ([.ref (q 0), .ref (q 8), .int (zI k), .int (zI g)])).length) Slot.unset).toArray) [] := by rw [hav]; exact lg_entry_eq m9 _ _
  obtain ⟨Q0, hQ0⟩ : ∃ Q0, Q0 = MQ below (zQ D (wM cI cZ q pa sp al co da mo st (wrM mr k td co da g) th n td wn) none (zLM q)) ag9 s9 0 0 (fun a => a ∈ zLM q) := ⟨_, rfl⟩
  show W p0 l e9 ({ frames := 1, cells := 0, slots := 0, locals := 21 }) s9 m9 ag9 below meth c9 s9.heap [] 0 0 (MQ below (zQ D (wM cI cZ q pa sp al co da mo st (wrM mr k td co da g) th n td wn) none (zLM q)) ag9 s9 0 0 (fun a => a ∈ zLM q)) _
  rw [hE, ← hQ0]
  have hS : va_S (fun a => a ∈ zLM q) s9.heap s9.heap [] := va_S.rf
  generalize hH0 : s9.heap = H at hP ⊢
  have hS : va_S (fun a => a ∈ zLM q) s9.heap H [] := by rw [hH0] at hS ⊢; exact hS
  generalize (lg_sl ([.ref (q 0), .ref (q 8), .int (zI k), .int (zI g)]) ++ List.replicate (5 - (lg_sl ([.ref (q 0), .ref (q 8), .int (zI k), .int (zI g)])).length) Slot.unset).toArray = ls at hl ⊢
  have hl : lv_has ls 5 [(0, .ref (q 0)), (1, .ref (q 8)), (2, .int (zI k)), (3, .int (zI g))] := hl
  refine lv_aload_n hx hb dX3_write_0 rfl (lv_at hl 1 rfl) ?_
  refine lv_iload_n hx hb dX3_write_1 rfl (lv_at hl 2 rfl) ?_
  refine lv_aload_n hx hb dX3_write_2 rfl (lv_at hl 0 rfl) ?_
  refine va_get (D := D) (ci := 3) (v := .int (zI td)) (C := RX3) (T := TX3) (N := 12) hx hb hts hin3 hown hK hP 0 rfl rfl 8 (by decide) (hts (.fieldLink RX3 95 "MourningRibbonsModel" "today" "I") (by decide +kernel)) (fun _ h9 => h9) rfl dX3_write_3 ?_
  refine zr_iast (f := mr) (n := 7) hx hb hK hP hN rfl hA hS 8 0 rfl rfl (by decide) (i := k) (x := td) (by omega) (by omega) dX3_write_6 (fun H locs hP hS => ?_)
  have hP : va_P D vwCl (wM cI cZ q pa sp al co da mo st (up mr k td) th n td wn) H := hP
  refine zr_iconst hx hb dX3_write_7 ?_
  refine lv_istore (lv' := [(4, .int (zI 0)), (0, .ref (q 0)), (1, .ref (q 8)), (2, .int (zI k)), (3, .int (zI g))]) hx hb dX3_write_8 hl (by decide) rfl (fun ls hl => ?_)
  refine lv_iload hx hb dX3_write_10 (lv_at hl 0 rfl) ?_
  refine zr_iconst hx hb dX3_write_12 ?_
  refine zr_icmp_ge (tgt := 60) hx hb dX3_write_13 (by decide) ⟨by decide, by decide⟩ ⟨by decide, by decide⟩ (fun c_1 => by exfalso; revert c_1; decide) (fun c_1 => ?_)
  refine lv_aload_n hx hb dX3_write_16 rfl (lv_at hl 2 rfl) ?_
  refine lv_iload_n hx hb dX3_write_17 rfl (lv_at hl 3 rfl) ?_
  refine zr_iconst hx hb dX3_write_18 ?_
  refine zr_iadd (v := k + 1) hx hb rfl dX3_write_19 ?_
  refine lv_iload hx hb dX3_write_20 (lv_at hl 0 rfl) ?_
  refine zr_iadd (v := k + 1) hx hb (by omega) dX3_write_22 ?_
  refine lv_aload_n hx hb dX3_write_23 rfl (lv_at hl 1 rfl) ?_
  refine va_get (D := D) (ci := 3) (v := .ref (q 4)) (C := RX3) (T := TX3) (N := 12) hx hb hts hin3 hown hK hP 0 rfl rfl 5 (by decide) (hts (.fieldLink RX3 20 "MourningRibbonsModel" "colour" "[I") (by decide +kernel)) (fun _ h9 => h9) rfl dX3_write_24 ?_
  refine lv_iload_n hx hb dX3_write_27 rfl (lv_at hl 4 rfl) ?_
  refine lv_iload hx hb dX3_write_28 (lv_at hl 0 rfl) ?_
  refine zcallP (As := [.int (zI g), .int (zI 0)]) (rest := [.ref (q 4), .int (zI (k + 1)), .ref (q 8)]) ⟨hx, hb, hml, hown, hts⟩ (kX3_at l D g 0) hK (va_cwS 2 hts gX3_write_X3_at rfl rfl rfl (by decide +kernel) ⟨Nat.le_of_ble_eq_true rfl, Nat.le_of_ble_eq_true rfl⟩) hP hS rfl hl.1 rfl (Nat.le_of_ble_eq_true rfl) dX3_write_30 ⟨Nat.zero_le _, Nat.zero_le _⟩ (fun H locs hP hS => ?_)
  refine W.eq (g2 := F0 m9 33 ls [.int (zI (3 * (g - 1) + 0)), .ref (q 4), .int (zI (k + 1)), .ref (q 8)]) rfl ?_
  refine zr_iald (f := co) (n := 12) hx hb hK hP 4 0 rfl rfl (by decide) (i := 3 * (g - 1) + 0) (by omega) (by omega) dX3_write_33 ?_
  refine zr_iast (f := up mr k td) (n := 7) hx hb hK hP hN rfl hA hS 8 0 rfl rfl (by decide) (i := k + 1) (x := co (3 * (g - 1) + 0)) (by omega) (by omega) dX3_write_34 (fun H locs hP hS => ?_)
  have hP : va_P D vwCl (wM cI cZ q pa sp al co da mo st (up (up mr k td) (k + 1) (co (3 * (g - 1) + 0))) th n td wn) H := hP
  refine lv_aload_n hx hb dX3_write_35 rfl (lv_at hl 2 rfl) ?_
  refine lv_iload_n hx hb dX3_write_36 rfl (lv_at hl 3 rfl) ?_
  refine zr_iconst hx hb dX3_write_37 ?_
  refine zr_iadd (v := k + 4) hx hb rfl dX3_write_38 ?_
  refine lv_iload hx hb dX3_write_39 (lv_at hl 0 rfl) ?_
  refine zr_iadd (v := k + 4) hx hb (by omega) dX3_write_41 ?_
  refine lv_aload_n hx hb dX3_write_42 rfl (lv_at hl 1 rfl) ?_
  refine va_get (D := D) (ci := 3) (v := .ref (q 5)) (C := RX3) (T := TX3) (N := 12) hx hb hts hin3 hown hK hP 0 rfl rfl 6 (by decide) (hts (.fieldLink RX3 23 "MourningRibbonsModel" "days" "[I") (by decide +kernel)) (fun _ h9 => h9) rfl dX3_write_43 ?_
  refine lv_iload_n hx hb dX3_write_46 rfl (lv_at hl 4 rfl) ?_
  refine lv_iload hx hb dX3_write_47 (lv_at hl 0 rfl) ?_
  refine zcallP (As := [.int (zI g), .int (zI 0)]) (rest := [.ref (q 5), .int (zI (k + 4)), .ref (q 8)]) ⟨hx, hb, hml, hown, hts⟩ (kX3_at l D g 0) hK (va_cwS 2 hts gX3_write_X3_at rfl rfl rfl (by decide +kernel) ⟨Nat.le_of_ble_eq_true rfl, Nat.le_of_ble_eq_true rfl⟩) hP hS rfl hl.1 rfl (Nat.le_of_ble_eq_true rfl) dX3_write_49 ⟨Nat.zero_le _, Nat.zero_le _⟩ (fun H locs hP hS => ?_)
  refine W.eq (g2 := F0 m9 52 ls [.int (zI (3 * (g - 1) + 0)), .ref (q 5), .int (zI (k + 4)), .ref (q 8)]) rfl ?_
  refine zr_iald (f := da) (n := 12) hx hb hK hP 5 0 rfl rfl (by decide) (i := 3 * (g - 1) + 0) (by omega) (by omega) dX3_write_52 ?_
  refine zr_iast (f := up (up mr k td) (k + 1) (co (3 * (g - 1) + 0))) (n := 7) hx hb hK hP hN rfl hA hS 8 0 rfl rfl (by decide) (i := k + 4) (x := da (3 * (g - 1) + 0)) (by omega) (by omega) dX3_write_53 (fun H locs hP hS => ?_)
  have hP : va_P D vwCl (wM cI cZ q pa sp al co da mo st (up (up (up mr k td) (k + 1) (co (3 * (g - 1) + 0))) (k + 4) (da (3 * (g - 1) + 0))) th n td wn) H := hP
  refine zr_iinc (v := 1) (lv' := [(4, .int (zI 1)), (0, .ref (q 0)), (1, .ref (q 8)), (2, .int (zI k)), (3, .int (zI g))]) hx hb dX3_write_54 hl (k := 0) rfl (by decide) (by decide) rfl (fun ls hl => ?_)
  refine lv_goto (tgt := 10) hx hb dX3_write_57 (by decide) ?_
  refine lv_iload hx hb dX3_write_10 (lv_at hl 0 rfl) ?_
  refine zr_iconst hx hb dX3_write_12 ?_
  refine zr_icmp_ge (tgt := 60) hx hb dX3_write_13 (by decide) ⟨by decide, by decide⟩ ⟨by decide, by decide⟩ (fun c_2 => by exfalso; revert c_2; decide) (fun c_2 => ?_)
  refine lv_aload_n hx hb dX3_write_16 rfl (lv_at hl 2 rfl) ?_
  refine lv_iload_n hx hb dX3_write_17 rfl (lv_at hl 3 rfl) ?_
  refine zr_iconst hx hb dX3_write_18 ?_
  refine zr_iadd (v := k + 1) hx hb rfl dX3_write_19 ?_
  refine lv_iload hx hb dX3_write_20 (lv_at hl 0 rfl) ?_
  refine zr_iadd (v := (k + 1) + 1) hx hb rfl dX3_write_22 ?_
  refine lv_aload_n hx hb dX3_write_23 rfl (lv_at hl 1 rfl) ?_
  refine va_get (D := D) (ci := 3) (v := .ref (q 4)) (C := RX3) (T := TX3) (N := 12) hx hb hts hin3 hown hK hP 0 rfl rfl 5 (by decide) (hts (.fieldLink RX3 20 "MourningRibbonsModel" "colour" "[I") (by decide +kernel)) (fun _ h9 => h9) rfl dX3_write_24 ?_
  refine lv_iload_n hx hb dX3_write_27 rfl (lv_at hl 4 rfl) ?_
  refine lv_iload hx hb dX3_write_28 (lv_at hl 0 rfl) ?_
  refine zcallP (As := [.int (zI g), .int (zI 1)]) (rest := [.ref (q 4), .int (zI ((k + 1) + 1)), .ref (q 8)]) ⟨hx, hb, hml, hown, hts⟩ (kX3_at l D g 1) hK (va_cwS 2 hts gX3_write_X3_at rfl rfl rfl (by decide +kernel) ⟨Nat.le_of_ble_eq_true rfl, Nat.le_of_ble_eq_true rfl⟩) hP hS rfl hl.1 rfl (Nat.le_of_ble_eq_true rfl) dX3_write_30 ⟨Nat.zero_le _, Nat.zero_le _⟩ (fun H locs hP hS => ?_)
  refine W.eq (g2 := F0 m9 33 ls [.int (zI (3 * (g - 1) + 1)), .ref (q 4), .int (zI ((k + 1) + 1)), .ref (q 8)]) rfl ?_
  refine zr_iald (f := co) (n := 12) hx hb hK hP 4 0 rfl rfl (by decide) (i := 3 * (g - 1) + 1) (by omega) (by omega) dX3_write_33 ?_
  refine zr_iast (f := up (up (up mr k td) (k + 1) (co (3 * (g - 1) + 0))) (k + 4) (da (3 * (g - 1) + 0))) (n := 7) hx hb hK hP hN rfl hA hS 8 0 rfl rfl (by decide) (i := (k + 1) + 1) (x := co (3 * (g - 1) + 1)) (by omega) (by omega) dX3_write_34 (fun H locs hP hS => ?_)
  have hP : va_P D vwCl (wM cI cZ q pa sp al co da mo st (up (up (up (up mr k td) (k + 1) (co (3 * (g - 1) + 0))) (k + 4) (da (3 * (g - 1) + 0))) ((k + 1) + 1) (co (3 * (g - 1) + 1))) th n td wn) H := hP
  refine lv_aload_n hx hb dX3_write_35 rfl (lv_at hl 2 rfl) ?_
  refine lv_iload_n hx hb dX3_write_36 rfl (lv_at hl 3 rfl) ?_
  refine zr_iconst hx hb dX3_write_37 ?_
  refine zr_iadd (v := k + 4) hx hb rfl dX3_write_38 ?_
  refine lv_iload hx hb dX3_write_39 (lv_at hl 0 rfl) ?_
  refine zr_iadd (v := (k + 4) + 1) hx hb rfl dX3_write_41 ?_
  refine lv_aload_n hx hb dX3_write_42 rfl (lv_at hl 1 rfl) ?_
  refine va_get (D := D) (ci := 3) (v := .ref (q 5)) (C := RX3) (T := TX3) (N := 12) hx hb hts hin3 hown hK hP 0 rfl rfl 6 (by decide) (hts (.fieldLink RX3 23 "MourningRibbonsModel" "days" "[I") (by decide +kernel)) (fun _ h9 => h9) rfl dX3_write_43 ?_
  refine lv_iload_n hx hb dX3_write_46 rfl (lv_at hl 4 rfl) ?_
  refine lv_iload hx hb dX3_write_47 (lv_at hl 0 rfl) ?_
  refine zcallP (As := [.int (zI g), .int (zI 1)]) (rest := [.ref (q 5), .int (zI ((k + 4) + 1)), .ref (q 8)]) ⟨hx, hb, hml, hown, hts⟩ (kX3_at l D g 1) hK (va_cwS 2 hts gX3_write_X3_at rfl rfl rfl (by decide +kernel) ⟨Nat.le_of_ble_eq_true rfl, Nat.le_of_ble_eq_true rfl⟩) hP hS rfl hl.1 rfl (Nat.le_of_ble_eq_true rfl) dX3_write_49 ⟨Nat.zero_le _, Nat.zero_le _⟩ (fun H locs hP hS => ?_)
  refine W.eq (g2 := F0 m9 52 ls [.int (zI (3 * (g - 1) + 1)), .ref (q 5), .int (zI ((k + 4) + 1)), .ref (q 8)]) rfl ?_
  refine zr_iald (f := da) (n := 12) hx hb hK hP 5 0 rfl rfl (by decide) (i := 3 * (g - 1) + 1) (by omega) (by omega) dX3_write_52 ?_
  refine zr_iast (f := up (up (up (up mr k td) (k + 1) (co (3 * (g - 1) + 0))) (k + 4) (da (3 * (g - 1) + 0))) ((k + 1) + 1) (co (3 * (g - 1) + 1))) (n := 7) hx hb hK hP hN rfl hA hS 8 0 rfl rfl (by decide) (i := (k + 4) + 1) (x := da (3 * (g - 1) + 1)) (by omega) (by omega) dX3_write_53 (fun H locs hP hS => ?_)
  have hP : va_P D vwCl (wM cI cZ q pa sp al co da mo st (up (up (up (up (up mr k td) (k + 1) (co (3 * (g - 1) + 0))) (k + 4) (da (3 * (g - 1) + 0))) ((k + 1) + 1) (co (3 * (g - 1) + 1))) ((k + 4) + 1) (da (3 * (g - 1) + 1))) th n td wn) H := hP
  refine zr_iinc (v := 2) (lv' := [(4, .int (zI 2)), (0, .ref (q 0)), (1, .ref (q 8)), (2, .int (zI k)), (3, .int (zI g))]) hx hb dX3_write_54 hl (k := 0) rfl (by decide) (by decide) rfl (fun ls hl => ?_)
  refine lv_goto (tgt := 10) hx hb dX3_write_57 (by decide) ?_
  refine lv_iload hx hb dX3_write_10 (lv_at hl 0 rfl) ?_
  refine zr_iconst hx hb dX3_write_12 ?_
  refine zr_icmp_ge (tgt := 60) hx hb dX3_write_13 (by decide) ⟨by decide, by decide⟩ ⟨by decide, by decide⟩ (fun c_3 => by exfalso; revert c_3; decide) (fun c_3 => ?_)
  refine lv_aload_n hx hb dX3_write_16 rfl (lv_at hl 2 rfl) ?_
  refine lv_iload_n hx hb dX3_write_17 rfl (lv_at hl 3 rfl) ?_
  refine zr_iconst hx hb dX3_write_18 ?_
  refine zr_iadd (v := k + 1) hx hb rfl dX3_write_19 ?_
  refine lv_iload hx hb dX3_write_20 (lv_at hl 0 rfl) ?_
  refine zr_iadd (v := (k + 1) + 2) hx hb rfl dX3_write_22 ?_
  refine lv_aload_n hx hb dX3_write_23 rfl (lv_at hl 1 rfl) ?_
  refine va_get (D := D) (ci := 3) (v := .ref (q 4)) (C := RX3) (T := TX3) (N := 12) hx hb hts hin3 hown hK hP 0 rfl rfl 5 (by decide) (hts (.fieldLink RX3 20 "MourningRibbonsModel" "colour" "[I") (by decide +kernel)) (fun _ h9 => h9) rfl dX3_write_24 ?_
  refine lv_iload_n hx hb dX3_write_27 rfl (lv_at hl 4 rfl) ?_
  refine lv_iload hx hb dX3_write_28 (lv_at hl 0 rfl) ?_
  refine zcallP (As := [.int (zI g), .int (zI 2)]) (rest := [.ref (q 4), .int (zI ((k + 1) + 2)), .ref (q 8)]) ⟨hx, hb, hml, hown, hts⟩ (kX3_at l D g 2) hK (va_cwS 2 hts gX3_write_X3_at rfl rfl rfl (by decide +kernel) ⟨Nat.le_of_ble_eq_true rfl, Nat.le_of_ble_eq_true rfl⟩) hP hS rfl hl.1 rfl (Nat.le_of_ble_eq_true rfl) dX3_write_30 ⟨Nat.zero_le _, Nat.zero_le _⟩ (fun H locs hP hS => ?_)
  refine W.eq (g2 := F0 m9 33 ls [.int (zI (3 * (g - 1) + 2)), .ref (q 4), .int (zI ((k + 1) + 2)), .ref (q 8)]) rfl ?_
  refine zr_iald (f := co) (n := 12) hx hb hK hP 4 0 rfl rfl (by decide) (i := 3 * (g - 1) + 2) (by omega) (by omega) dX3_write_33 ?_
  refine zr_iast (f := up (up (up (up (up mr k td) (k + 1) (co (3 * (g - 1) + 0))) (k + 4) (da (3 * (g - 1) + 0))) ((k + 1) + 1) (co (3 * (g - 1) + 1))) ((k + 4) + 1) (da (3 * (g - 1) + 1))) (n := 7) hx hb hK hP hN rfl hA hS 8 0 rfl rfl (by decide) (i := (k + 1) + 2) (x := co (3 * (g - 1) + 2)) (by omega) (by omega) dX3_write_34 (fun H locs hP hS => ?_)
  have hP : va_P D vwCl (wM cI cZ q pa sp al co da mo st (up (up (up (up (up (up mr k td) (k + 1) (co (3 * (g - 1) + 0))) (k + 4) (da (3 * (g - 1) + 0))) ((k + 1) + 1) (co (3 * (g - 1) + 1))) ((k + 4) + 1) (da (3 * (g - 1) + 1))) ((k + 1) + 2) (co (3 * (g - 1) + 2))) th n td wn) H := hP
  refine lv_aload_n hx hb dX3_write_35 rfl (lv_at hl 2 rfl) ?_
  refine lv_iload_n hx hb dX3_write_36 rfl (lv_at hl 3 rfl) ?_
  refine zr_iconst hx hb dX3_write_37 ?_
  refine zr_iadd (v := k + 4) hx hb rfl dX3_write_38 ?_
  refine lv_iload hx hb dX3_write_39 (lv_at hl 0 rfl) ?_
  refine zr_iadd (v := (k + 4) + 2) hx hb rfl dX3_write_41 ?_
  refine lv_aload_n hx hb dX3_write_42 rfl (lv_at hl 1 rfl) ?_
  refine va_get (D := D) (ci := 3) (v := .ref (q 5)) (C := RX3) (T := TX3) (N := 12) hx hb hts hin3 hown hK hP 0 rfl rfl 6 (by decide) (hts (.fieldLink RX3 23 "MourningRibbonsModel" "days" "[I") (by decide +kernel)) (fun _ h9 => h9) rfl dX3_write_43 ?_
  refine lv_iload_n hx hb dX3_write_46 rfl (lv_at hl 4 rfl) ?_
  refine lv_iload hx hb dX3_write_47 (lv_at hl 0 rfl) ?_
  refine zcallP (As := [.int (zI g), .int (zI 2)]) (rest := [.ref (q 5), .int (zI ((k + 4) + 2)), .ref (q 8)]) ⟨hx, hb, hml, hown, hts⟩ (kX3_at l D g 2) hK (va_cwS 2 hts gX3_write_X3_at rfl rfl rfl (by decide +kernel) ⟨Nat.le_of_ble_eq_true rfl, Nat.le_of_ble_eq_true rfl⟩) hP hS rfl hl.1 rfl (Nat.le_of_ble_eq_true rfl) dX3_write_49 ⟨Nat.zero_le _, Nat.zero_le _⟩ (fun H locs hP hS => ?_)
  refine W.eq (g2 := F0 m9 52 ls [.int (zI (3 * (g - 1) + 2)), .ref (q 5), .int (zI ((k + 4) + 2)), .ref (q 8)]) rfl ?_
  refine zr_iald (f := da) (n := 12) hx hb hK hP 5 0 rfl rfl (by decide) (i := 3 * (g - 1) + 2) (by omega) (by omega) dX3_write_52 ?_
  refine zr_iast (f := up (up (up (up (up (up mr k td) (k + 1) (co (3 * (g - 1) + 0))) (k + 4) (da (3 * (g - 1) + 0))) ((k + 1) + 1) (co (3 * (g - 1) + 1))) ((k + 4) + 1) (da (3 * (g - 1) + 1))) ((k + 1) + 2) (co (3 * (g - 1) + 2))) (n := 7) hx hb hK hP hN rfl hA hS 8 0 rfl rfl (by decide) (i := (k + 4) + 2) (x := da (3 * (g - 1) + 2)) (by omega) (by omega) dX3_write_53 (fun H locs hP hS => ?_)
  have hP : va_P D vwCl (wM cI cZ q pa sp al co da mo st (up (up (up (up (up (up (up mr k td) (k + 1) (co (3 * (g - 1) + 0))) (k + 4) (da (3 * (g - 1) + 0))) ((k + 1) + 1) (co (3 * (g - 1) + 1))) ((k + 4) + 1) (da (3 * (g - 1) + 1))) ((k + 1) + 2) (co (3 * (g - 1) + 2))) ((k + 4) + 2) (da (3 * (g - 1) + 2))) th n td wn) H := hP
  refine zr_iinc (v := 3) (lv' := [(4, .int (zI 3)), (0, .ref (q 0)), (1, .ref (q 8)), (2, .int (zI k)), (3, .int (zI g))]) hx hb dX3_write_54 hl (k := 0) rfl (by decide) (by decide) rfl (fun ls hl => ?_)
  refine lv_goto (tgt := 10) hx hb dX3_write_57 (by decide) ?_
  refine lv_iload hx hb dX3_write_10 (lv_at hl 0 rfl) ?_
  refine zr_iconst hx hb dX3_write_12 ?_
  refine zr_icmp_ge (tgt := 60) hx hb dX3_write_13 (by decide) ⟨by decide, by decide⟩ ⟨by decide, by decide⟩ (fun c_4 => ?_) (fun c_4 => by exfalso; revert c_4; decide)
  have e_5 : (wrM mr k td co da g : Int → Int) = up (up (up (up (up (up (up mr k td) (k + 1) (co (3 * (g - 1) + 0))) (k + 4) (da (3 * (g - 1) + 0))) ((k + 1) + 1) (co (3 * (g - 1) + 1))) ((k + 4) + 1) (da (3 * (g - 1) + 1))) ((k + 1) + 2) (co (3 * (g - 1) + 2))) ((k + 4) + 2) (da (3 * (g - 1) + 2)) := rfl
  have hP : va_P D vwCl (wM cI cZ q pa sp al co da mo st (wrM mr k td co da g) th n td wn) H := by rw [e_5]; exact hP
  rw [hQ0]
  exact zret_v hx hb hr hlocks hP hS dX3_write_60
set_option maxHeartbeats 4000000 in
set_option maxRecDepth 100000 in
theorem kX3_left (l : Launch) (D : va_G) (cI cZ : ClassId) (q : Nat → Nat) (hN : (zLM q).Nodup) (pa : Int → Int) (sp : Int → Int) (al : Int → Int) (co : Int → Int) (da : Int → Int) (mo : Int → Int) (st : Int → Int) (mr : Int → Int) (th : Int) (n : Nat) (td : Int) (wn : Int) (hmo : ∀ j : Int, -1 ≤ mo j ∧ mo j ≤ 1000000) (htd : 0 ≤ td ∧ td ≤ 1000000) (p : Int) (d : Int) (h1 : 0 ≤ p ∧ p < 16) (h2 : 0 ≤ d ∧ d < 16) : zM l yX3_left wsX3_left ({ frames := 1, cells := 0, slots := 0, locals := 30 }) D [(cI, .int), (cZ, .boolean)] [.ref (q 0), .int (zI p), .int (zI d)] (wM cI cZ q pa sp al co da mo st mr th n td wn) (wM cI cZ q pa sp al co da mo st mr th n td wn) (some (.int (zI (lM mo td p d)))) (zLM q) := by
  refine Met.ofW (cc := cX3_left) (maxL := 4) (ret := (some .int)) (by decide) rfl ?_
  intro p0 e9 s9 m9 ag9 below meth c9 s₁ B hml hv
  obtain ⟨hav, hP, hK⟩ := hv
  have hx := B.exec
  have hb := B.bytes
  have hr := B.returns
  have hts := atoms_spec (ws := wsX3_left) B.pre
  have hown : s9.vm.findClass RX3 = some m9.cls := findClass_of_methodNamed B.named
  have hlocks := B.notSynchronized
  have hA : ∀ a ∈ zLM q, (fun a => a ∈ zLM q) a := fun _ h => h
  have hin3 : ∀ w ∈ u_ws RX3 TX3 12, w ∈ wsX3_left := by decide +kernel
  have hl := lv_entry ([.ref (q 0), .int (zI p), .int (zI d)]) (n := 4) (Nat.le_of_ble_eq_true rfl)
  have hE : entryFrame m9 ag9 4 = F0 m9 0 ((lg_sl ([.ref (q 0), .int (zI p), .int (zI d)]) ++ List.replicate (4 - (lg_sl ([.ref (q 0), .int (zI p), .int (zI d)])).length) Slot.unset).toArray) [] := by rw [hav]; exact lg_entry_eq m9 _ _
  obtain ⟨Q0, hQ0⟩ : ∃ Q0, Q0 = MQ below (zQ D (wM cI cZ q pa sp al co da mo st mr th n td wn) (some (.int (zI (lM mo td p d)))) (zLM q)) ag9 s9 0 0 (fun a => a ∈ zLM q) := ⟨_, rfl⟩
  show W p0 l e9 ({ frames := 1, cells := 0, slots := 0, locals := 30 }) s9 m9 ag9 below meth c9 s9.heap [] 0 0 (MQ below (zQ D (wM cI cZ q pa sp al co da mo st mr th n td wn) (some (.int (zI (lM mo td p d)))) (zLM q)) ag9 s9 0 0 (fun a => a ∈ zLM q)) _
  rw [hE, ← hQ0]
  have hS : va_S (fun a => a ∈ zLM q) s9.heap s9.heap [] := va_S.rf
  generalize hH0 : s9.heap = H at hP ⊢
  have hS : va_S (fun a => a ∈ zLM q) s9.heap H [] := by rw [hH0] at hS ⊢; exact hS
  generalize (lg_sl ([.ref (q 0), .int (zI p), .int (zI d)]) ++ List.replicate (4 - (lg_sl ([.ref (q 0), .int (zI p), .int (zI d)])).length) Slot.unset).toArray = ls at hl ⊢
  have hl : lv_has ls 4 [(0, .ref (q 0)), (1, .int (zI p)), (2, .int (zI d))] := hl
  refine lv_iload_n hx hb dX3_left_0 rfl (lv_at hl 1 rfl) ?_
  refine lv_iload_n hx hb dX3_left_1 rfl (lv_at hl 2 rfl) ?_
  refine zcallP (As := [.int (zI p), .int (zI d)]) (rest := []) ⟨hx, hb, hml, hown, hts⟩ (kX3_row l D p d) hK (va_cwS 2 hts gX3_left_X3_row rfl rfl rfl (by decide +kernel) ⟨Nat.le_of_ble_eq_true rfl, Nat.le_of_ble_eq_true rfl⟩) hP hS rfl hl.1 rfl (Nat.le_of_ble_eq_true rfl) dX3_left_2 ⟨Nat.zero_le _, Nat.zero_le _⟩ (fun H locs hP hS => ?_)
  refine W.eq (g2 := F0 m9 5 ls [.int (zI (7 * (16 * p + d)))]) rfl ?_
  refine lv_istore_n (lv' := [(3, .int (zI (7 * (16 * p + d)))), (0, .ref (q 0)), (1, .int (zI p)), (2, .int (zI d))]) hx hb dX3_left_5 rfl hl (by decide) rfl (fun ls hl => ?_)
  refine lv_aload_n hx hb dX3_left_6 rfl (lv_at hl 1 rfl) ?_
  refine va_get (D := D) (ci := 3) (v := .ref (q 6)) (C := RX3) (T := TX3) (N := 12) hx hb hts hin3 hown hK hP 0 rfl rfl 7 (by decide) (hts (.fieldLink RX3 26 "MourningRibbonsModel" "mourning" "[I") (by decide +kernel)) (fun _ h9 => h9) rfl dX3_left_7 ?_
  refine lv_iload_n hx hb dX3_left_10 rfl (lv_at hl 0 rfl) ?_
  refine zr_iald (f := mo) (n := 1792) hx hb hK hP 6 0 rfl rfl (by decide) (i := 7 * (16 * p + d)) (by omega) (by omega) dX3_left_11 ?_
  have b_1 := hmo (7 * (16 * p + d))
  refine zr_iconst hx hb dX3_left_12 ?_
  refine zr_icmp_ne (tgt := 20) hx hb dX3_left_13 (by decide) ⟨by omega, by omega⟩ ⟨by decide, by decide⟩ (fun c_2 => ?_) (fun c_2 => ?_)
  · have c_2 := c_2
    refine zr_iconst hx hb dX3_left_20 ?_
    refine lv_aload_n hx hb dX3_left_21 rfl (lv_at hl 1 rfl) ?_
    refine va_get (D := D) (ci := 3) (v := .ref (q 6)) (C := RX3) (T := TX3) (N := 12) hx hb hts hin3 hown hK hP 0 rfl rfl 7 (by decide) (hts (.fieldLink RX3 26 "MourningRibbonsModel" "mourning" "[I") (by decide +kernel)) (fun _ h9 => h9) rfl dX3_left_22 ?_
    refine lv_iload_n hx hb dX3_left_25 rfl (lv_at hl 0 rfl) ?_
    refine zr_iald (f := mo) (n := 1792) hx hb hK hP 6 0 rfl rfl (by decide) (i := 7 * (16 * p + d)) (by omega) (by omega) dX3_left_26 ?_
    have b_3 := hmo (7 * (16 * p + d))
    refine lv_aload_n hx hb dX3_left_27 rfl (lv_at hl 1 rfl) ?_
    refine va_get (D := D) (ci := 3) (v := .ref (q 6)) (C := RX3) (T := TX3) (N := 12) hx hb hts hin3 hown hK hP 0 rfl rfl 7 (by decide) (hts (.fieldLink RX3 26 "MourningRibbonsModel" "mourning" "[I") (by decide +kernel)) (fun _ h9 => h9) rfl dX3_left_28 ?_
    refine lv_iload_n hx hb dX3_left_31 rfl (lv_at hl 0 rfl) ?_
    refine zr_iconst hx hb dX3_left_32 ?_
    refine zr_iadd (v := (7 * (16 * p + d)) + 4) hx hb rfl dX3_left_33 ?_
    refine zr_iald (f := mo) (n := 1792) hx hb hK hP 6 0 rfl rfl (by decide) (i := (7 * (16 * p + d)) + 4) (by omega) (by omega) dX3_left_34 ?_
    have b_4 := hmo ((7 * (16 * p + d)) + 4)
    refine zr_iadd (v := (mo (7 * (16 * p + d))) + (mo ((7 * (16 * p + d)) + 4))) hx hb rfl dX3_left_35 ?_
    refine lv_aload_n hx hb dX3_left_36 rfl (lv_at hl 1 rfl) ?_
    refine va_get (D := D) (ci := 3) (v := .ref (q 6)) (C := RX3) (T := TX3) (N := 12) hx hb hts hin3 hown hK hP 0 rfl rfl 7 (by decide) (hts (.fieldLink RX3 26 "MourningRibbonsModel" "mourning" "[I") (by decide +kernel)) (fun _ h9 => h9) rfl dX3_left_37 ?_
    refine lv_iload_n hx hb dX3_left_40 rfl (lv_at hl 0 rfl) ?_
    refine zr_iconst hx hb dX3_left_41 ?_
    refine zr_iadd (v := (7 * (16 * p + d)) + 5) hx hb rfl dX3_left_42 ?_
    refine zr_iald (f := mo) (n := 1792) hx hb hK hP 6 0 rfl rfl (by decide) (i := (7 * (16 * p + d)) + 5) (by omega) (by omega) dX3_left_43 ?_
    have b_5 := hmo ((7 * (16 * p + d)) + 5)
    refine zr_iadd (v := ((mo (7 * (16 * p + d))) + (mo ((7 * (16 * p + d)) + 4))) + (mo ((7 * (16 * p + d)) + 5))) hx hb rfl dX3_left_44 ?_
    refine lv_aload_n hx hb dX3_left_45 rfl (lv_at hl 1 rfl) ?_
    refine va_get (D := D) (ci := 3) (v := .ref (q 6)) (C := RX3) (T := TX3) (N := 12) hx hb hts hin3 hown hK hP 0 rfl rfl 7 (by decide) (hts (.fieldLink RX3 26 "MourningRibbonsModel" "mourning" "[I") (by decide +kernel)) (fun _ h9 => h9) rfl dX3_left_46 ?_
    refine lv_iload_n hx hb dX3_left_49 rfl (lv_at hl 0 rfl) ?_
    refine zr_bipush hx hb dX3_left_50 (by decide) ?_
    refine zr_iadd (v := (7 * (16 * p + d)) + 6) hx hb rfl dX3_left_52 ?_
    refine zr_iald (f := mo) (n := 1792) hx hb hK hP 6 0 rfl rfl (by decide) (i := (7 * (16 * p + d)) + 6) (by omega) (by omega) dX3_left_53 ?_
    have b_6 := hmo ((7 * (16 * p + d)) + 6)
    refine zr_iadd (v := (((mo (7 * (16 * p + d))) + (mo ((7 * (16 * p + d)) + 4))) + (mo ((7 * (16 * p + d)) + 5))) + (mo ((7 * (16 * p + d)) + 6))) hx hb rfl dX3_left_54 ?_
    refine lv_aload_n hx hb dX3_left_55 rfl (lv_at hl 1 rfl) ?_
    refine va_get (D := D) (ci := 3) (v := .int (zI td)) (C := RX3) (T := TX3) (N := 12) hx hb hts hin3 hown hK hP 0 rfl rfl 8 (by decide) (hts (.fieldLink RX3 95 "MourningRibbonsModel" "today" "I") (by decide +kernel)) (fun _ h9 => h9) rfl dX3_left_56 ?_
    refine zr_isub (v := ((((mo (7 * (16 * p + d))) + (mo ((7 * (16 * p + d)) + 4))) + (mo ((7 * (16 * p + d)) + 5))) + (mo ((7 * (16 * p + d)) + 6))) - td) hx hb rfl dX3_left_59 ?_
    refine zr_mmax hx hb (by rw [hml, hl.1]) hown (hts (.methodLink RX3 54 Lib.Math.max.name) (by decide +kernel)) (hts (.static Lib.Math.max.name) (by decide +kernel)) (hts (.initialized "java/lang/Math") (by decide +kernel)) (hts (.code Lib.Math.max.name Lib.Math.max.code 2 (some .int)) (by decide +kernel)) (Nat.le_of_ble_eq_true rfl) (Nat.le_of_ble_eq_true rfl) (Nat.zero_le _) (Nat.zero_le _) ⟨by decide, by decide⟩ ⟨by omega, by omega⟩ dX3_left_60 ?_
    rw [hQ0]
    exact zret_i hx hb hr hlocks (by unfold lM; first | rw [if_pos (by omega)] | rw [if_neg (by omega)]) hP hS dX3_left_63
  · have c_2 := c_2
    refine zr_iconst hx hb dX3_left_16 ?_
    refine lv_goto (tgt := 63) hx hb dX3_left_17 (by decide) ?_
    rw [hQ0]
    exact zret_i hx hb hr hlocks (by unfold lM; first | rw [if_pos (by omega)] | rw [if_neg (by omega)]) hP hS dX3_left_63
set_option maxHeartbeats 4000000 in
set_option maxRecDepth 100000 in
theorem kX3_wears (l : Launch) (D : va_G) (cI cZ : ClassId) (q : Nat → Nat) (hN : (zLM q).Nodup) (pa : Int → Int) (sp : Int → Int) (al : Int → Int) (co : Int → Int) (da : Int → Int) (mo : Int → Int) (st : Int → Int) (mr : Int → Int) (th : Int) (n : Nat) (td : Int) (wn : Int) (hn : n ≤ 16) (hmo : ∀ j : Int, -1 ≤ mo j ∧ mo j ≤ 1000000) (p : Int) (t : Int) (h1 : 0 ≤ p ∧ p < 16) (h2 : 0 ≤ t ∧ t ≤ 2000000) : zM l yX3_wears wsX3_wears ({ frames := 1, cells := 0, slots := 0, locals := 30 }) D [(cI, .int), (cZ, .boolean)] [.ref (q 0), .int (zI p), .int (zI t)] (wM cI cZ q pa sp al co da mo st mr th n td wn) (wM cI cZ q pa sp al co da mo st mr th n td wn) (some (.int (zI (wsM mo n p t)))) (zLM q) := by
  refine Met.ofW (cc := cX3_wears) (maxL := 5) (ret := (some .int)) (by decide) rfl ?_
  intro p0 e9 s9 m9 ag9 below meth c9 s₁ B hml hv
  obtain ⟨hav, hP, hK⟩ := hv
  have hx := B.exec
  have hb := B.bytes
  have hr := B.returns
  have hts := atoms_spec (ws := wsX3_wears) B.pre
  have hown : s9.vm.findClass RX3 = some m9.cls := findClass_of_methodNamed B.named
  have hlocks := B.notSynchronized
  have hA : ∀ a ∈ zLM q, (fun a => a ∈ zLM q) a := fun _ h => h
  have hin3 : ∀ w ∈ u_ws RX3 TX3 12, w ∈ wsX3_wears := by decide +kernel
  have hl := lv_entry ([.ref (q 0), .int (zI p), .int (zI t)]) (n := 5) (Nat.le_of_ble_eq_true rfl)
  have hE : entryFrame m9 ag9 5 = F0 m9 0 ((lg_sl ([.ref (q 0), .int (zI p), .int (zI t)]) ++ List.replicate (5 - (lg_sl ([.ref (q 0), .int (zI p), .int (zI t)])).length) Slot.unset).toArray) [] := by rw [hav]; exact lg_entry_eq m9 _ _
  obtain ⟨Q0, hQ0⟩ : ∃ Q0, Q0 = MQ below (zQ D (wM cI cZ q pa sp al co da mo st mr th n td wn) (some (.int (zI (wsM mo n p t)))) (zLM q)) ag9 s9 0 0 (fun a => a ∈ zLM q) := ⟨_, rfl⟩
  show W p0 l e9 ({ frames := 1, cells := 0, slots := 0, locals := 30 }) s9 m9 ag9 below meth c9 s9.heap [] 0 0 (MQ below (zQ D (wM cI cZ q pa sp al co da mo st mr th n td wn) (some (.int (zI (wsM mo n p t)))) (zLM q)) ag9 s9 0 0 (fun a => a ∈ zLM q)) _
  rw [hE, ← hQ0]
  have hS : va_S (fun a => a ∈ zLM q) s9.heap s9.heap [] := va_S.rf
  generalize hH0 : s9.heap = H at hP ⊢
  have hS : va_S (fun a => a ∈ zLM q) s9.heap H [] := by rw [hH0] at hS ⊢; exact hS
  generalize (lg_sl ([.ref (q 0), .int (zI p), .int (zI t)]) ++ List.replicate (5 - (lg_sl ([.ref (q 0), .int (zI p), .int (zI t)])).length) Slot.unset).toArray = ls at hl ⊢
  have hl : lv_has ls 5 [(0, .ref (q 0)), (1, .int (zI p)), (2, .int (zI t))] := hl
  refine zr_iconst hx hb dX3_wears_0 ?_
  refine lv_istore_n (lv' := [(3, .int (zI 0)), (0, .ref (q 0)), (1, .int (zI p)), (2, .int (zI t))]) hx hb dX3_wears_1 rfl hl (by decide) rfl (fun ls hl => ?_)
  refine zr_iconst hx hb dX3_wears_2 ?_
  refine lv_istore (lv' := [(4, .int (zI 0)), (3, .int (zI 0)), (0, .ref (q 0)), (1, .int (zI p)), (2, .int (zI t))]) hx hb dX3_wears_3 hl (by decide) rfl (fun ls hl => ?_)
  have L5_1 : ∀ (kf i : Nat), i ≤ n → n - i < kf → ∀ (H : Heap) (locs : List Loc) (ls : Array Slot), va_P D vwCl (wM cI cZ q pa sp al co da mo st mr th n td wn) H → va_S (fun a => a ∈ zLM q) s9.heap H locs → lv_has ls 5 [(4, .int (zI (i : Int))), (3, .int (zI (wsM mo i p t))), (0, .ref (q 0)), (1, .int (zI p)), (2, .int (zI t))] → W p0 l e9 ({ frames := 1, cells := 0, slots := 0, locals := 30 }) s9 m9 ag9 below meth c9 H locs 0 0 Q0 (F0 m9 5 ls []) := by
    intro kf
    induction kf with
    | zero => intro i h1 h2; omega
    | succ kf ih =>
      intro i hi_i hk_i H locs ls hP hS hl
      have ih_i := ih
      clear ih
      have hm := wsM_bd hmo i p t
      refine lv_iload hx hb dX3_wears_5 (lv_at hl 0 rfl) ?_
      refine lv_aload_n hx hb dX3_wears_7 rfl (lv_at hl 2 rfl) ?_
      refine va_get (D := D) (ci := 3) (v := .int (zI (n : Int))) (C := RX3) (T := TX3) (N := 12) hx hb hts hin3 hown hK hP 0 rfl rfl 1 (by decide) (hts (.fieldLink RX3 39 "MourningRibbonsModel" "people" "I") (by decide +kernel)) (fun _ h9 => h9) rfl dX3_wears_8 ?_
      refine zr_icmp_ge (tgt := 39) hx hb dX3_wears_11 (by decide) ⟨by omega, by omega⟩ ⟨by omega, by omega⟩ (fun c_2 => ?_) (fun c_2 => ?_)
      · have c_2 := c_2
        have x_3 : i = n := by omega
        try rw [x_3] at hP
        try rw [x_3] at hl
        refine lv_iload_n hx hb dX3_wears_39 rfl (lv_at hl 1 rfl) ?_
        rw [hQ0]
        exact zret_i hx hb hr hlocks (rfl) hP hS dX3_wears_40
      · have c_2 := c_2
        refine lv_iload_n hx hb dX3_wears_14 rfl (lv_at hl 1 rfl) ?_
        refine lv_aload_n hx hb dX3_wears_15 rfl (lv_at hl 2 rfl) ?_
        refine va_get (D := D) (ci := 3) (v := .ref (q 6)) (C := RX3) (T := TX3) (N := 12) hx hb hts hin3 hown hK hP 0 rfl rfl 7 (by decide) (hts (.fieldLink RX3 26 "MourningRibbonsModel" "mourning" "[I") (by decide +kernel)) (fun _ h9 => h9) rfl dX3_wears_16 ?_
        refine lv_iload_n hx hb dX3_wears_19 rfl (lv_at hl 3 rfl) ?_
        refine lv_iload hx hb dX3_wears_20 (lv_at hl 0 rfl) ?_
        refine zcallP (As := [.int (zI p), .int (zI (i : Int))]) (rest := [.ref (q 6), .int (zI (wsM mo i p t))]) ⟨hx, hb, hml, hown, hts⟩ (kX3_row l D p (i : Int)) hK (va_cwS 2 hts gX3_wears_X3_row rfl rfl rfl (by decide +kernel) ⟨Nat.le_of_ble_eq_true rfl, Nat.le_of_ble_eq_true rfl⟩) hP hS rfl hl.1 rfl (Nat.le_of_ble_eq_true rfl) dX3_wears_22 ⟨Nat.zero_le _, Nat.zero_le _⟩ (fun H locs hP hS => ?_)
        refine W.eq (g2 := F0 m9 25 ls [.int (zI (7 * (16 * p + (i : Int)))), .ref (q 6), .int (zI (wsM mo i p t))]) rfl ?_
        refine lv_iload_n hx hb dX3_wears_25 rfl (lv_at hl 4 rfl) ?_
        refine zcallS (As := [.ref (q 6), .int (zI (7 * (16 * p + (i : Int)))), .int (zI t)]) (rest := [.int (zI (wsM mo i p t))]) ⟨hx, hb, hml, hown, hts⟩ hK (kX3_wornmo l D cI cZ q hN pa sp al co da mo st mr th n td wn hmo (7 * (16 * p + (i : Int))) t (by omega) (by omega)) (va_cwS 3 hts gX3_wears_X3_worn rfl rfl rfl (by decide +kernel) ⟨Nat.le_of_ble_eq_true rfl, Nat.le_of_ble_eq_true rfl⟩) hP hS hA rfl hl.1 rfl (Nat.le_of_ble_eq_true rfl) dX3_wears_26 ⟨Nat.zero_le _, Nat.zero_le _⟩ (fun H locs hP hS _ _ => ?_)
        refine W.eq (g2 := F0 m9 29 ls [.int (zI (wnM mo (7 * (16 * p + (i : Int))) t)), .int (zI (wsM mo i p t))]) rfl ?_
        have f_4 := wnM_bd hmo (7 * (16 * p + (i : Int))) t
        refine zr_mmax hx hb (by rw [hml, hl.1]) hown (hts (.methodLink RX3 54 Lib.Math.max.name) (by decide +kernel)) (hts (.static Lib.Math.max.name) (by decide +kernel)) (hts (.initialized "java/lang/Math") (by decide +kernel)) (hts (.code Lib.Math.max.name Lib.Math.max.code 2 (some .int)) (by decide +kernel)) (Nat.le_of_ble_eq_true rfl) (Nat.le_of_ble_eq_true rfl) (Nat.zero_le _) (Nat.zero_le _) ⟨by omega, by omega⟩ ⟨by omega, by omega⟩ dX3_wears_29 ?_
        refine lv_istore_n (lv' := [(3, .int (zI (max (wsM mo i p t) (wnM mo (7 * (16 * p + (i : Int))) t)))), (4, .int (zI (i : Int))), (0, .ref (q 0)), (1, .int (zI p)), (2, .int (zI t))]) hx hb dX3_wears_32 rfl hl (by decide) rfl (fun ls hl => ?_)
        refine zr_iinc (v := (i : Int) + 1) (lv' := [(4, .int (zI ((i : Int) + 1))), (3, .int (zI (max (wsM mo i p t) (wnM mo (7 * (16 * p + (i : Int))) t)))), (0, .ref (q 0)), (1, .int (zI p)), (2, .int (zI t))]) hx hb dX3_wears_33 hl (k := 1) rfl rfl (by decide) rfl (fun ls hl => ?_)
        refine lv_goto (tgt := 5) hx hb dX3_wears_36 (by decide) ?_
        have hl := lv_sub hl (l' := [(4, .int (zI ((i : Int) + 1))), (3, .int (zI (max (wsM mo i p t) (wnM mo (7 * (16 * p + (i : Int))) t)))), (0, .ref (q 0)), (1, .int (zI p)), (2, .int (zI t))]) [0, 1, 2, 3, 4] rfl
        have e_5 : ((((i + 1) : Nat) : Int) : Int) = (i : Int) + 1 := by omega
        have e_6 : (wsM mo (i + 1) p t : Int) = max (wsM mo i p t) (wnM mo (7 * (16 * p + (i : Int))) t) := rfl
        have hl : lv_has ls 5 [(4, .int (zI (((i + 1) : Nat) : Int))), (3, .int (zI (wsM mo (i + 1) p t))), (0, .ref (q 0)), (1, .int (zI p)), (2, .int (zI t))] := by rw [e_5, e_6]; exact hl
        exact ih_i (i + 1) (by omega) (by omega) _ _ _ hP hS hl
  have hl := lv_sub hl (l' := [(4, .int (zI 0)), (3, .int (zI 0)), (0, .ref (q 0)), (1, .int (zI p)), (2, .int (zI t))]) [0, 1, 2, 3, 4] rfl
  have e_7 : (wsM mo 0 p t : Int) = 0 := rfl
  have hl : lv_has ls 5 [(4, .int (zI 0)), (3, .int (zI (wsM mo 0 p t))), (0, .ref (q 0)), (1, .int (zI p)), (2, .int (zI t))] := by rw [e_7]; exact hl
  exact L5_1 (n + 1) 0 (Nat.zero_le _) (by omega) _ _ _ hP hS hl
set_option maxHeartbeats 4000000 in
set_option maxRecDepth 100000 in
theorem kX3_isMourner (l : Launch) (D : va_G) (cI cZ : ClassId) (q : Nat → Nat) (hN : (zLM q).Nodup) (pa : Int → Int) (sp : Int → Int) (al : Int → Int) (co : Int → Int) (da : Int → Int) (mo : Int → Int) (st : Int → Int) (mr : Int → Int) (th : Int) (n : Nat) (td : Int) (wn : Int) (hal : ∀ j : Int, 0 ≤ al j ∧ al j ≤ 1) (hst : ∀ j : Int, -1 ≤ st j ∧ st j ≤ 4) (hda : ∀ j : Int, 0 ≤ da j ∧ da j ≤ 60) (p : Int) (d : Int) (h1 : 0 ≤ p ∧ p < 16) (h2 : 0 ≤ d ∧ d < 16) : zM l yX3_isMourner wsX3_isMourner ({ frames := 2, cells := 0, slots := 0, locals := 42 }) D [(cI, .int), (cZ, .boolean)] [.ref (q 0), .int (zI p), .int (zI d)] (wM cI cZ q pa sp al co da mo st mr th n td wn) (wM cI cZ q pa sp al co da mo st mr th n td wn) (some (.int (zI (bI (imP al st da d p))))) (zLM q) := by
  refine Met.ofW (cc := cX3_isMourner) (maxL := 3) (ret := (some .boolean)) (by decide) rfl ?_
  intro p0 e9 s9 m9 ag9 below meth c9 s₁ B hml hv
  obtain ⟨hav, hP, hK⟩ := hv
  have hx := B.exec
  have hb := B.bytes
  have hr := B.returns
  have hts := atoms_spec (ws := wsX3_isMourner) B.pre
  have hown : s9.vm.findClass RX3 = some m9.cls := findClass_of_methodNamed B.named
  have hlocks := B.notSynchronized
  have hA : ∀ a ∈ zLM q, (fun a => a ∈ zLM q) a := fun _ h => h
  have hin3 : ∀ w ∈ u_ws RX3 TX3 12, w ∈ wsX3_isMourner := by decide +kernel
  have hl := lv_entry ([.ref (q 0), .int (zI p), .int (zI d)]) (n := 3) (Nat.le_of_ble_eq_true rfl)
  have hE : entryFrame m9 ag9 3 = F0 m9 0 ((lg_sl ([.ref (q 0), .int (zI p), .int (zI d)]) ++ List.replicate (3 - (lg_sl ([.ref (q 0), .int (zI p), .int (zI d)])).length) Slot.unset).toArray) [] := by rw [hav]; exact lg_entry_eq m9 _ _
  obtain ⟨Q0, hQ0⟩ : ∃ Q0, Q0 = MQ below (zQ D (wM cI cZ q pa sp al co da mo st mr th n td wn) (some (.int (zI (bI (imP al st da d p))))) (zLM q)) ag9 s9 0 0 (fun a => a ∈ zLM q) := ⟨_, rfl⟩
  show W p0 l e9 ({ frames := 2, cells := 0, slots := 0, locals := 42 }) s9 m9 ag9 below meth c9 s9.heap [] 0 0 (MQ below (zQ D (wM cI cZ q pa sp al co da mo st mr th n td wn) (some (.int (zI (bI (imP al st da d p))))) (zLM q)) ag9 s9 0 0 (fun a => a ∈ zLM q)) _
  rw [hE, ← hQ0]
  have hS : va_S (fun a => a ∈ zLM q) s9.heap s9.heap [] := va_S.rf
  generalize hH0 : s9.heap = H at hP ⊢
  have hS : va_S (fun a => a ∈ zLM q) s9.heap H [] := by rw [hH0] at hS ⊢; exact hS
  generalize (lg_sl ([.ref (q 0), .int (zI p), .int (zI d)]) ++ List.replicate (3 - (lg_sl ([.ref (q 0), .int (zI p), .int (zI d)])).length) Slot.unset).toArray = ls at hl ⊢
  have hl : lv_has ls 3 [(0, .ref (q 0)), (1, .int (zI p)), (2, .int (zI d))] := hl
  refine lv_iload_n hx hb dX3_isMourner_0 rfl (lv_at hl 1 rfl) ?_
  refine lv_iload_n hx hb dX3_isMourner_1 rfl (lv_at hl 2 rfl) ?_
  refine zr_icmp_eq (tgt := 40) hx hb dX3_isMourner_2 (by decide) ⟨by omega, by omega⟩ ⟨by omega, by omega⟩ (fun c_1 => ?_) (fun c_1 => ?_)
  · have c_1 := c_1
    refine zr_iconst hx hb dX3_isMourner_40 ?_
    rw [hQ0]
    exact zret_z hx hb hr hlocks (rfl) ((bI_f (show ¬ imP al st da d p from fun hh => by have h91 := hh.1; have h92 := hh.2.1; have h93 := hh.2.2.1; have h94 := hh.2.2.2; omega)).symm) hP hS dX3_isMourner_41
  · have c_1 := c_1
    refine lv_aload_n hx hb dX3_isMourner_5 rfl (lv_at hl 0 rfl) ?_
    refine va_get (D := D) (ci := 3) (v := .ref (q 3)) (C := RX3) (T := TX3) (N := 12) hx hb hts hin3 hown hK hP 0 rfl rfl 4 (by decide) (hts (.fieldLink RX3 16 "MourningRibbonsModel" "isAlive" "[Z") (by decide +kernel)) (fun _ h9 => h9) rfl dX3_isMourner_6 ?_
    refine lv_iload_n hx hb dX3_isMourner_9 rfl (lv_at hl 1 rfl) ?_
    refine zr_zald (f := al) (n := 16) hx hb hK hP 3 1 rfl rfl (by decide) (i := p) (by omega) (by omega) dX3_isMourner_10 ?_
    have b_2 := hal p
    refine zr_if_eq (tgt := 40) hx hb dX3_isMourner_11 (by decide) ⟨by omega, by omega⟩ (fun c_3 => ?_) (fun c_3 => ?_)
    · have c_3 := c_3
      refine zr_iconst hx hb dX3_isMourner_40 ?_
      rw [hQ0]
      exact zret_z hx hb hr hlocks (rfl) ((bI_f (show ¬ imP al st da d p from fun hh => by have h91 := hh.1; have h92 := hh.2.1; have h93 := hh.2.2.1; have h94 := hh.2.2.2; omega)).symm) hP hS dX3_isMourner_41
    · have c_3 := c_3
      refine lv_aload_n hx hb dX3_isMourner_14 rfl (lv_at hl 0 rfl) ?_
      refine va_get (D := D) (ci := 3) (v := .ref (q 7)) (C := RX3) (T := TX3) (N := 12) hx hb hts hin3 hown hK hP 0 rfl rfl 10 (by decide) (hts (.fieldLink RX3 29 "MourningRibbonsModel" "steps" "[I") (by decide +kernel)) (fun _ h9 => h9) rfl dX3_isMourner_15 ?_
      refine lv_iload_n hx hb dX3_isMourner_18 rfl (lv_at hl 1 rfl) ?_
      refine zr_iald (f := st) (n := 16) hx hb hK hP 7 0 rfl rfl (by decide) (i := p) (by omega) (by omega) dX3_isMourner_19 ?_
      have b_4 := hst p
      refine zr_if_le (tgt := 40) hx hb dX3_isMourner_20 (by decide) ⟨by omega, by omega⟩ (fun c_5 => ?_) (fun c_5 => ?_)
      · have c_5 := c_5
        refine zr_iconst hx hb dX3_isMourner_40 ?_
        rw [hQ0]
        exact zret_z hx hb hr hlocks (rfl) ((bI_f (show ¬ imP al st da d p from fun hh => by have h91 := hh.1; have h92 := hh.2.1; have h93 := hh.2.2.1; have h94 := hh.2.2.2; omega)).symm) hP hS dX3_isMourner_41
      · have c_5 := c_5
        refine lv_aload_n hx hb dX3_isMourner_23 rfl (lv_at hl 0 rfl) ?_
        refine lv_aload_n hx hb dX3_isMourner_24 rfl (lv_at hl 0 rfl) ?_
        refine va_get (D := D) (ci := 3) (v := .ref (q 7)) (C := RX3) (T := TX3) (N := 12) hx hb hts hin3 hown hK hP 0 rfl rfl 10 (by decide) (hts (.fieldLink RX3 29 "MourningRibbonsModel" "steps" "[I") (by decide +kernel)) (fun _ h9 => h9) rfl dX3_isMourner_25 ?_
        refine lv_iload_n hx hb dX3_isMourner_28 rfl (lv_at hl 1 rfl) ?_
        refine zr_iald (f := st) (n := 16) hx hb hK hP 7 0 rfl rfl (by decide) (i := p) (by omega) (by omega) dX3_isMourner_29 ?_
        have b_6 := hst p
        refine zcallV (ci := 3) (q0 := 0) (cq := (RX3, TX3, 12)) (As := [.int (zI (st p))]) (rest := []) ⟨hx, hb, hml, hown, hts⟩ hK (kX3_length l D cI cZ q hN pa sp al co da mo st mr th n td wn hda (st p) (by omega)) (cwV 1 hts gX3_isMourner_X3_length rfl rfl rfl (by decide +kernel) ⟨Nat.le_of_ble_eq_true rfl, Nat.le_of_ble_eq_true rfl⟩) hP hS hA rfl rfl rfl hl.1 rfl (Nat.le_of_ble_eq_true rfl) dX3_isMourner_30 ⟨Nat.zero_le _, Nat.zero_le _⟩ (fun H locs hP hS _ _ => ?_)
        refine W.eq (g2 := F0 m9 33 ls [.int (zI (lenM da (st p)))]) rfl ?_
        have f_7 := lenM_bx da hda (st p)
        refine zr_if_le (tgt := 40) hx hb dX3_isMourner_33 (by decide) ⟨by omega, by omega⟩ (fun c_8 => ?_) (fun c_8 => ?_)
        · have c_8 := c_8
          refine zr_iconst hx hb dX3_isMourner_40 ?_
          rw [hQ0]
          exact zret_z hx hb hr hlocks (rfl) ((bI_f (show ¬ imP al st da d p from fun hh => by have h91 := hh.1; have h92 := hh.2.1; have h93 := hh.2.2.1; have h94 := hh.2.2.2; omega)).symm) hP hS dX3_isMourner_41
        · have c_8 := c_8
          refine zr_iconst hx hb dX3_isMourner_36 ?_
          refine lv_goto (tgt := 41) hx hb dX3_isMourner_37 (by decide) ?_
          rw [hQ0]
          exact zret_z hx hb hr hlocks (rfl) ((bI_t (show imP al st da d p from ⟨by omega, by omega, by omega, by omega⟩)).symm) hP hS dX3_isMourner_41
set_option maxHeartbeats 4000000 in
set_option maxRecDepth 100000 in
theorem kX3_mourners (l : Launch) (D : va_G) (cI cZ : ClassId) (q : Nat → Nat) (hN : (zLM q).Nodup) (pa : Int → Int) (sp : Int → Int) (al : Int → Int) (co : Int → Int) (da : Int → Int) (mo : Int → Int) (st : Int → Int) (mr : Int → Int) (th : Int) (n : Nat) (td : Int) (wn : Int) (hpa : ∀ j : Int, -1 ≤ pa j ∧ pa j ≤ 15) (hsp : ∀ j : Int, -1 ≤ sp j ∧ sp j ≤ 15) (hal : ∀ j : Int, 0 ≤ al j ∧ al j ≤ 1) (hst : ∀ j : Int, -1 ≤ st j ∧ st j ≤ 4) (hda : ∀ j : Int, 0 ≤ da j ∧ da j ≤ 60) (hn : n ≤ 16) (d : Int) (h1 : 0 ≤ d ∧ d < 16) : zM l yX3_mourners wsX3_mourners ({ frames := 3, cells := 0, slots := 0, locals := 64 }) D [(cI, .int), (cZ, .boolean)] [.ref (q 0), .int (zI d)] (wM cI cZ q pa sp al co da mo st mr th n td wn) (wM cI cZ q pa sp al co da mo (goF pa sp n st d) mr th n td wn) (some (.int (zI (smF (imF al (goF pa sp n st d) da d) n)))) (zLM q) := by
  refine Met.ofW (cc := cX3_mourners) (maxL := 4) (ret := (some .int)) (by decide) rfl ?_
  intro p0 e9 s9 m9 ag9 below meth c9 s₁ B hml hv
  obtain ⟨hav, hP, hK⟩ := hv
  have hx := B.exec
  have hb := B.bytes
  have hr := B.returns
  have hts := atoms_spec (ws := wsX3_mourners) B.pre
  have hown : s9.vm.findClass RX3 = some m9.cls := findClass_of_methodNamed B.named
  have hlocks := B.notSynchronized
  have hA : ∀ a ∈ zLM q, (fun a => a ∈ zLM q) a := fun _ h => h
  have hin3 : ∀ w ∈ u_ws RX3 TX3 12, w ∈ wsX3_mourners := by decide +kernel
  have hl := lv_entry ([.ref (q 0), .int (zI d)]) (n := 4) (Nat.le_of_ble_eq_true rfl)
  have hE : entryFrame m9 ag9 4 = F0 m9 0 ((lg_sl ([.ref (q 0), .int (zI d)]) ++ List.replicate (4 - (lg_sl ([.ref (q 0), .int (zI d)])).length) Slot.unset).toArray) [] := by rw [hav]; exact lg_entry_eq m9 _ _
  obtain ⟨Q0, hQ0⟩ : ∃ Q0, Q0 = MQ below (zQ D (wM cI cZ q pa sp al co da mo (goF pa sp n st d) mr th n td wn) (some (.int (zI (smF (imF al (goF pa sp n st d) da d) n)))) (zLM q)) ag9 s9 0 0 (fun a => a ∈ zLM q) := ⟨_, rfl⟩
  show W p0 l e9 ({ frames := 3, cells := 0, slots := 0, locals := 64 }) s9 m9 ag9 below meth c9 s9.heap [] 0 0 (MQ below (zQ D (wM cI cZ q pa sp al co da mo (goF pa sp n st d) mr th n td wn) (some (.int (zI (smF (imF al (goF pa sp n st d) da d) n)))) (zLM q)) ag9 s9 0 0 (fun a => a ∈ zLM q)) _
  rw [hE, ← hQ0]
  have hS : va_S (fun a => a ∈ zLM q) s9.heap s9.heap [] := va_S.rf
  generalize hH0 : s9.heap = H at hP ⊢
  have hS : va_S (fun a => a ∈ zLM q) s9.heap H [] := by rw [hH0] at hS ⊢; exact hS
  generalize (lg_sl ([.ref (q 0), .int (zI d)]) ++ List.replicate (4 - (lg_sl ([.ref (q 0), .int (zI d)])).length) Slot.unset).toArray = ls at hl ⊢
  have hl : lv_has ls 4 [(0, .ref (q 0)), (1, .int (zI d))] := hl
  refine lv_aload_n hx hb dX3_mourners_0 rfl (lv_at hl 0 rfl) ?_
  refine lv_iload_n hx hb dX3_mourners_1 rfl (lv_at hl 1 rfl) ?_
  refine zcallV (ci := 3) (q0 := 0) (cq := (RX3, TX3, 12)) (As := [.int (zI d)]) (rest := []) ⟨hx, hb, hml, hown, hts⟩ hK (kX3_go l D cI cZ q hN pa sp al co da mo st mr th n td wn hpa hsp hst hn d (by omega)) (cwV 1 hts gX3_mourners_X3_go rfl rfl rfl (by decide +kernel) ⟨Nat.le_of_ble_eq_true rfl, Nat.le_of_ble_eq_true rfl⟩) hP hS hA rfl rfl rfl hl.1 rfl (Nat.le_of_ble_eq_true rfl) dX3_mourners_2 ⟨Nat.zero_le _, Nat.zero_le _⟩ (fun H locs hP hS _ _ => ?_)
  have g_1 : ∀ j : Int, -1 ≤ (goF pa sp n st d) j ∧ (goF pa sp n st d) j ≤ 4 := goF_bd hst pa sp n d
  refine W.eq (g2 := F0 m9 5 ls []) rfl ?_
  refine zr_iconst hx hb dX3_mourners_5 ?_
  refine lv_istore_n (lv' := [(2, .int (zI 0)), (0, .ref (q 0)), (1, .int (zI d))]) hx hb dX3_mourners_6 rfl hl (by decide) rfl (fun ls hl => ?_)
  refine zr_iconst hx hb dX3_mourners_7 ?_
  refine lv_istore_n (lv' := [(3, .int (zI 0)), (2, .int (zI 0)), (0, .ref (q 0)), (1, .int (zI d))]) hx hb dX3_mourners_8 rfl hl (by decide) rfl (fun ls hl => ?_)
  have L9_2 : ∀ (kf i : Nat), i ≤ n → n - i < kf → ∀ (H : Heap) (locs : List Loc) (ls : Array Slot), va_P D vwCl (wM cI cZ q pa sp al co da mo (goF pa sp n st d) mr th n td wn) H → va_S (fun a => a ∈ zLM q) s9.heap H locs → lv_has ls 4 [(3, .int (zI (i : Int))), (2, .int (zI (smF (imF al (goF pa sp n st d) da d) i))), (0, .ref (q 0)), (1, .int (zI d))] → W p0 l e9 ({ frames := 3, cells := 0, slots := 0, locals := 64 }) s9 m9 ag9 below meth c9 H locs 0 0 Q0 (F0 m9 9 ls []) := by
    intro kf
    induction kf with
    | zero => intro i h1 h2; omega
    | succ kf ih =>
      intro i hi_i hk_i H locs ls hP hS hl
      have ih_i := ih
      clear ih
      refine lv_iload_n hx hb dX3_mourners_9 rfl (lv_at hl 0 rfl) ?_
      refine lv_aload_n hx hb dX3_mourners_10 rfl (lv_at hl 2 rfl) ?_
      refine va_get (D := D) (ci := 3) (v := .int (zI (n : Int))) (C := RX3) (T := TX3) (N := 12) hx hb hts hin3 hown hK hP 0 rfl rfl 1 (by decide) (hts (.fieldLink RX3 39 "MourningRibbonsModel" "people" "I") (by decide +kernel)) (fun _ h9 => h9) rfl dX3_mourners_11 ?_
      refine zr_icmp_ge (tgt := 40) hx hb dX3_mourners_14 (by decide) ⟨by omega, by omega⟩ ⟨by omega, by omega⟩ (fun c_3 => ?_) (fun c_3 => ?_)
      · have c_3 := c_3
        have x_4 : i = n := by omega
        try rw [x_4] at hP
        try rw [x_4] at hl
        refine lv_iload_n hx hb dX3_mourners_40 rfl (lv_at hl 1 rfl) ?_
        rw [hQ0]
        exact zret_i hx hb hr hlocks (rfl) hP hS dX3_mourners_41
      · have c_3 := c_3
        refine lv_iload_n hx hb dX3_mourners_17 rfl (lv_at hl 1 rfl) ?_
        refine lv_aload_n hx hb dX3_mourners_18 rfl (lv_at hl 2 rfl) ?_
        refine lv_iload_n hx hb dX3_mourners_19 rfl (lv_at hl 0 rfl) ?_
        refine lv_iload_n hx hb dX3_mourners_20 rfl (lv_at hl 3 rfl) ?_
        refine zcallV (ci := 3) (q0 := 0) (cq := (RX3, TX3, 12)) (As := [.int (zI (i : Int)), .int (zI d)]) (rest := [.int (zI (smF (imF al (goF pa sp n st d) da d) i))]) ⟨hx, hb, hml, hown, hts⟩ hK (kX3_isMourner l D cI cZ q hN pa sp al co da mo (goF pa sp n st d) mr th n td wn hal g_1 hda (i : Int) d (by omega) (by omega)) (cwV 2 hts gX3_mourners_X3_isMourner rfl rfl rfl (by decide +kernel) ⟨Nat.le_of_ble_eq_true rfl, Nat.le_of_ble_eq_true rfl⟩) hP hS hA rfl rfl rfl hl.1 rfl (Nat.le_of_ble_eq_true rfl) dX3_mourners_21 ⟨Nat.zero_le _, Nat.zero_le _⟩ (fun H locs hP hS _ _ => ?_)
        refine W.eq (g2 := F0 m9 24 ls [.int (zI (bI (imP al (goF pa sp n st d) da d (i : Int)))), .int (zI (smF (imF al (goF pa sp n st d) da d) i))]) rfl ?_
        refine zr_if_eq (tgt := 31) hx hb dX3_mourners_24 (by decide) (bI_rg _) (fun c_5 => ?_) (fun c_5 => ?_)
        · have c_5 := bI_z c_5
          refine zr_iconst hx hb dX3_mourners_31 ?_
          refine zr_iadd (v := smF (imF al (goF pa sp n st d) da d) i) hx hb (by omega) dX3_mourners_32 ?_
          refine lv_istore_n (lv' := [(2, .int (zI (smF (imF al (goF pa sp n st d) da d) i))), (3, .int (zI (i : Int))), (0, .ref (q 0)), (1, .int (zI d))]) hx hb dX3_mourners_33 rfl hl (by decide) rfl (fun ls hl => ?_)
          refine zr_iinc (v := (i : Int) + 1) (lv' := [(3, .int (zI ((i : Int) + 1))), (2, .int (zI (smF (imF al (goF pa sp n st d) da d) i))), (0, .ref (q 0)), (1, .int (zI d))]) hx hb dX3_mourners_34 hl (k := 1) rfl rfl (by decide) rfl (fun ls hl => ?_)
          refine lv_goto (tgt := 9) hx hb dX3_mourners_37 (by decide) ?_
          have hl := lv_sub hl (l' := [(3, .int (zI ((i : Int) + 1))), (2, .int (zI (smF (imF al (goF pa sp n st d) da d) i))), (0, .ref (q 0)), (1, .int (zI d))]) [0, 1, 2, 3] rfl
          have e_6 : ((((i + 1) : Nat) : Int) : Int) = (i : Int) + 1 := by omega
          have e_7 : (smF (imF al (goF pa sp n st d) da d) (i + 1) : Int) = smF (imF al (goF pa sp n st d) da d) i := by rw [smF_s]; unfold imF; first | (rw [if_pos (by assumption)]) | (rw [if_neg (by assumption)]; omega)
          have hl : lv_has ls 4 [(3, .int (zI (((i + 1) : Nat) : Int))), (2, .int (zI (smF (imF al (goF pa sp n st d) da d) (i + 1)))), (0, .ref (q 0)), (1, .int (zI d))] := by rw [e_6, e_7]; exact hl
          exact ih_i (i + 1) (by omega) (by omega) _ _ _ hP hS hl
        · have c_5 := bI_n c_5
          refine zr_iconst hx hb dX3_mourners_27 ?_
          refine lv_goto (tgt := 32) hx hb dX3_mourners_28 (by decide) ?_
          refine zr_iadd (v := (smF (imF al (goF pa sp n st d) da d) i) + 1) hx hb rfl dX3_mourners_32 ?_
          refine lv_istore_n (lv' := [(2, .int (zI ((smF (imF al (goF pa sp n st d) da d) i) + 1))), (3, .int (zI (i : Int))), (0, .ref (q 0)), (1, .int (zI d))]) hx hb dX3_mourners_33 rfl hl (by decide) rfl (fun ls hl => ?_)
          refine zr_iinc (v := (i : Int) + 1) (lv' := [(3, .int (zI ((i : Int) + 1))), (2, .int (zI ((smF (imF al (goF pa sp n st d) da d) i) + 1))), (0, .ref (q 0)), (1, .int (zI d))]) hx hb dX3_mourners_34 hl (k := 1) rfl rfl (by decide) rfl (fun ls hl => ?_)
          refine lv_goto (tgt := 9) hx hb dX3_mourners_37 (by decide) ?_
          have hl := lv_sub hl (l' := [(3, .int (zI ((i : Int) + 1))), (2, .int (zI ((smF (imF al (goF pa sp n st d) da d) i) + 1))), (0, .ref (q 0)), (1, .int (zI d))]) [0, 1, 2, 3] rfl
          have e_8 : ((((i + 1) : Nat) : Int) : Int) = (i : Int) + 1 := by omega
          have e_9 : (smF (imF al (goF pa sp n st d) da d) (i + 1) : Int) = (smF (imF al (goF pa sp n st d) da d) i) + 1 := by rw [smF_s]; unfold imF; first | (rw [if_pos (by assumption)]) | (rw [if_neg (by assumption)]; omega)
          have hl : lv_has ls 4 [(3, .int (zI (((i + 1) : Nat) : Int))), (2, .int (zI (smF (imF al (goF pa sp n st d) da d) (i + 1)))), (0, .ref (q 0)), (1, .int (zI d))] := by rw [e_8, e_9]; exact hl
          exact ih_i (i + 1) (by omega) (by omega) _ _ _ hP hS hl
  have hl := lv_sub hl (l' := [(3, .int (zI 0)), (2, .int (zI 0)), (0, .ref (q 0)), (1, .int (zI d))]) [0, 1, 2, 3] rfl
  have e_10 : (smF (imF al (goF pa sp n st d) da d) 0 : Int) = 0 := rfl
  have hl : lv_has ls 4 [(3, .int (zI 0)), (2, .int (zI (smF (imF al (goF pa sp n st d) da d) 0))), (0, .ref (q 0)), (1, .int (zI d))] := by rw [e_10]; exact hl
  exact L9_2 (n + 1) 0 (Nat.zero_le _) (by omega) _ _ _ hP hS hl
set_option maxHeartbeats 4000000 in
set_option maxRecDepth 100000 in
theorem kX3_lost (l : Launch) (D : va_G) (cI cZ : ClassId) (q : Nat → Nat) (hN : (zLM q).Nodup) (pa : Int → Int) (sp : Int → Int) (al : Int → Int) (co : Int → Int) (da : Int → Int) (mo : Int → Int) (st : Int → Int) (mr : Int → Int) (th : Int) (n : Nat) (td : Int) (wn : Int) (hpa : ∀ j : Int, -1 ≤ pa j ∧ pa j ≤ 15) (hsp : ∀ j : Int, -1 ≤ sp j ∧ sp j ≤ 15) (hal : ∀ j : Int, 0 ≤ al j ∧ al j ≤ 1) (hco : ∀ j : Int, 0 ≤ co j ∧ co j ≤ 5) (hda : ∀ j : Int, 0 ≤ da j ∧ da j ≤ 60) (hmo : ∀ j : Int, -1 ≤ mo j ∧ mo j ≤ 1000000) (hst : ∀ j : Int, -1 ≤ st j ∧ st j ≤ 4) (hn : n ≤ 16) (htd : 0 ≤ td ∧ td ≤ 1000000) (d : Int) (h1 : 0 ≤ d ∧ d < 16) : zM l yX3_lost wsX3_lost ({ frames := 4, cells := 0, slots := 0, locals := 87 }) D [(cI, .int), (cZ, .boolean)] [.ref (q 0), .int (zI d)] (wM cI cZ q pa sp al co da mo st mr th n td wn) (wM cI cZ q pa sp (up al d 0) co da (enM (moF al (goF pa sp n st d) co da td d mo n) d 16) (goF pa sp n st d) mr th n td wn) (some (.int (zI (smF (imF al (goF pa sp n st d) da d) n)))) (zLM q) := by
  refine Met.ofW (cc := cX3_lost) (maxL := 4) (ret := (some .int)) (by decide) rfl ?_
  intro p0 e9 s9 m9 ag9 below meth c9 s₁ B hml hv
  obtain ⟨hav, hP, hK⟩ := hv
  have hx := B.exec
  have hb := B.bytes
  have hr := B.returns
  have hts := atoms_spec (ws := wsX3_lost) B.pre
  have hown : s9.vm.findClass RX3 = some m9.cls := findClass_of_methodNamed B.named
  have hlocks := B.notSynchronized
  have hA : ∀ a ∈ zLM q, (fun a => a ∈ zLM q) a := fun _ h => h
  have hin3 : ∀ w ∈ u_ws RX3 TX3 12, w ∈ wsX3_lost := by decide +kernel
  have hl := lv_entry ([.ref (q 0), .int (zI d)]) (n := 4) (Nat.le_of_ble_eq_true rfl)
  have hE : entryFrame m9 ag9 4 = F0 m9 0 ((lg_sl ([.ref (q 0), .int (zI d)]) ++ List.replicate (4 - (lg_sl ([.ref (q 0), .int (zI d)])).length) Slot.unset).toArray) [] := by rw [hav]; exact lg_entry_eq m9 _ _
  obtain ⟨Q0, hQ0⟩ : ∃ Q0, Q0 = MQ below (zQ D (wM cI cZ q pa sp (up al d 0) co da (enM (moF al (goF pa sp n st d) co da td d mo n) d 16) (goF pa sp n st d) mr th n td wn) (some (.int (zI (smF (imF al (goF pa sp n st d) da d) n)))) (zLM q)) ag9 s9 0 0 (fun a => a ∈ zLM q) := ⟨_, rfl⟩
  show W p0 l e9 ({ frames := 4, cells := 0, slots := 0, locals := 87 }) s9 m9 ag9 below meth c9 s9.heap [] 0 0 (MQ below (zQ D (wM cI cZ q pa sp (up al d 0) co da (enM (moF al (goF pa sp n st d) co da td d mo n) d 16) (goF pa sp n st d) mr th n td wn) (some (.int (zI (smF (imF al (goF pa sp n st d) da d) n)))) (zLM q)) ag9 s9 0 0 (fun a => a ∈ zLM q)) _
  rw [hE, ← hQ0]
  have hS : va_S (fun a => a ∈ zLM q) s9.heap s9.heap [] := va_S.rf
  generalize hH0 : s9.heap = H at hP ⊢
  have hS : va_S (fun a => a ∈ zLM q) s9.heap H [] := by rw [hH0] at hS ⊢; exact hS
  generalize (lg_sl ([.ref (q 0), .int (zI d)]) ++ List.replicate (4 - (lg_sl ([.ref (q 0), .int (zI d)])).length) Slot.unset).toArray = ls at hl ⊢
  have hl : lv_has ls 4 [(0, .ref (q 0)), (1, .int (zI d))] := hl
  refine lv_aload_n hx hb dX3_lost_0 rfl (lv_at hl 0 rfl) ?_
  refine lv_iload_n hx hb dX3_lost_1 rfl (lv_at hl 1 rfl) ?_
  refine zcallV (ci := 3) (q0 := 0) (cq := (RX3, TX3, 12)) (As := [.int (zI d)]) (rest := []) ⟨hx, hb, hml, hown, hts⟩ hK (kX3_mourners l D cI cZ q hN pa sp al co da mo st mr th n td wn hpa hsp hal hst hda hn d (by omega)) (cwV 1 hts gX3_lost_X3_mourners rfl rfl rfl (by decide +kernel) ⟨Nat.le_of_ble_eq_true rfl, Nat.le_of_ble_eq_true rfl⟩) hP hS hA rfl rfl rfl hl.1 rfl (Nat.le_of_ble_eq_true rfl) dX3_lost_2 ⟨Nat.zero_le _, Nat.zero_le _⟩ (fun H locs hP hS _ _ => ?_)
  have g_1 : ∀ j : Int, -1 ≤ (goF pa sp n st d) j ∧ (goF pa sp n st d) j ≤ 4 := goF_bd hst pa sp n d
  refine W.eq (g2 := F0 m9 5 ls [.int (zI (smF (imF al (goF pa sp n st d) da d) n))]) rfl ?_
  refine lv_istore_n (lv' := [(2, .int (zI (smF (imF al (goF pa sp n st d) da d) n))), (0, .ref (q 0)), (1, .int (zI d))]) hx hb dX3_lost_5 rfl hl (by decide) rfl (fun ls hl => ?_)
  refine zr_iconst hx hb dX3_lost_6 ?_
  refine lv_istore_n (lv' := [(3, .int (zI 0)), (2, .int (zI (smF (imF al (goF pa sp n st d) da d) n))), (0, .ref (q 0)), (1, .int (zI d))]) hx hb dX3_lost_7 rfl hl (by decide) rfl (fun ls hl => ?_)
  have L8_2 : ∀ (kf i : Nat), i ≤ n → n - i < kf → ∀ (H : Heap) (locs : List Loc) (ls : Array Slot), va_P D vwCl (wM cI cZ q pa sp al co da (moF al (goF pa sp n st d) co da td d mo i) (goF pa sp n st d) mr th n td wn) H → va_S (fun a => a ∈ zLM q) s9.heap H locs → lv_has ls 4 [(3, .int (zI (i : Int))), (2, .int (zI (smF (imF al (goF pa sp n st d) da d) n))), (0, .ref (q 0)), (1, .int (zI d))] → W p0 l e9 ({ frames := 4, cells := 0, slots := 0, locals := 87 }) s9 m9 ag9 below meth c9 H locs 0 0 Q0 (F0 m9 8 ls []) := by
    intro kf
    induction kf with
    | zero => intro i h1 h2; omega
    | succ kf ih =>
      intro i hi_i hk_i H locs ls hP hS hl
      have ih_i := ih
      clear ih
      refine lv_iload_n hx hb dX3_lost_8 rfl (lv_at hl 0 rfl) ?_
      refine lv_aload_n hx hb dX3_lost_9 rfl (lv_at hl 2 rfl) ?_
      refine va_get (D := D) (ci := 3) (v := .int (zI (n : Int))) (C := RX3) (T := TX3) (N := 12) hx hb hts hin3 hown hK hP 0 rfl rfl 1 (by decide) (hts (.fieldLink RX3 39 "MourningRibbonsModel" "people" "I") (by decide +kernel)) (fun _ h9 => h9) rfl dX3_lost_10 ?_
      refine zr_icmp_ge (tgt := 50) hx hb dX3_lost_13 (by decide) ⟨by omega, by omega⟩ ⟨by omega, by omega⟩ (fun c_3 => ?_) (fun c_3 => ?_)
      · have c_3 := c_3
        have x_4 : i = n := by omega
        try rw [x_4] at hP
        try rw [x_4] at hl
        refine zr_iconst hx hb dX3_lost_50 ?_
        refine lv_istore_n (lv' := [(3, .int (zI 0)), (2, .int (zI (smF (imF al (goF pa sp n st d) da d) n))), (0, .ref (q 0)), (1, .int (zI d))]) hx hb dX3_lost_51 rfl hl (by decide) rfl (fun ls hl => ?_)
        have L52_5 : ∀ (kf j : Nat), j ≤ 16 → 16 - j < kf → ∀ (H : Heap) (locs : List Loc) (ls : Array Slot), va_P D vwCl (wM cI cZ q pa sp al co da (enM (moF al (goF pa sp n st d) co da td d mo n) d j) (goF pa sp n st d) mr th n td wn) H → va_S (fun a => a ∈ zLM q) s9.heap H locs → lv_has ls 4 [(3, .int (zI (j : Int))), (2, .int (zI (smF (imF al (goF pa sp n st d) da d) n))), (0, .ref (q 0)), (1, .int (zI d))] → W p0 l e9 ({ frames := 4, cells := 0, slots := 0, locals := 87 }) s9 m9 ag9 below meth c9 H locs 0 0 Q0 (F0 m9 52 ls []) := by
          intro kf
          induction kf with
          | zero => intro j h1 h2; omega
          | succ kf ih =>
            intro j hi_j hk_j H locs ls hP hS hl
            have ih_j := ih
            clear ih
            refine lv_iload_n hx hb dX3_lost_52 rfl (lv_at hl 0 rfl) ?_
            refine zr_bipush hx hb dX3_lost_53 (by decide) ?_
            refine zr_icmp_ge (tgt := 75) hx hb dX3_lost_55 (by decide) ⟨by omega, by omega⟩ ⟨by decide, by decide⟩ (fun c_6 => ?_) (fun c_6 => ?_)
            · have c_6 := c_6
              have x_7 : j = 16 := by omega
              try rw [x_7] at hP
              try rw [x_7] at hl
              refine lv_aload_n hx hb dX3_lost_75 rfl (lv_at hl 2 rfl) ?_
              refine va_get (D := D) (ci := 3) (v := .ref (q 3)) (C := RX3) (T := TX3) (N := 12) hx hb hts hin3 hown hK hP 0 rfl rfl 4 (by decide) (hts (.fieldLink RX3 16 "MourningRibbonsModel" "isAlive" "[Z") (by decide +kernel)) (fun _ h9 => h9) rfl dX3_lost_76 ?_
              refine lv_iload_n hx hb dX3_lost_79 rfl (lv_at hl 3 rfl) ?_
              refine zr_iconst hx hb dX3_lost_80 ?_
              refine zr_zast (f := al) (n := 16) hx hb hK hP hN rfl hA hS 3 1 rfl rfl (by decide) (i := d) (x := 0) rfl (by omega) (by omega) dX3_lost_81 (fun H locs hP hS => ?_)
              have hP : va_P D vwCl (wM cI cZ q pa sp (up al d 0) co da (enM (moF al (goF pa sp n st d) co da td d mo n) d 16) (goF pa sp n st d) mr th n td wn) H := hP
              refine lv_iload_n hx hb dX3_lost_82 rfl (lv_at hl 1 rfl) ?_
              rw [hQ0]
              exact zret_i hx hb hr hlocks (rfl) hP hS dX3_lost_83
            · have c_6 := c_6
              refine lv_aload_n hx hb dX3_lost_58 rfl (lv_at hl 2 rfl) ?_
              refine va_get (D := D) (ci := 3) (v := .ref (q 6)) (C := RX3) (T := TX3) (N := 12) hx hb hts hin3 hown hK hP 0 rfl rfl 7 (by decide) (hts (.fieldLink RX3 26 "MourningRibbonsModel" "mourning" "[I") (by decide +kernel)) (fun _ h9 => h9) rfl dX3_lost_59 ?_
              refine lv_iload_n hx hb dX3_lost_62 rfl (lv_at hl 3 rfl) ?_
              refine lv_iload_n hx hb dX3_lost_63 rfl (lv_at hl 0 rfl) ?_
              refine zcallP (As := [.int (zI d), .int (zI (j : Int))]) (rest := [.ref (q 6)]) ⟨hx, hb, hml, hown, hts⟩ (kX3_row l D d (j : Int)) hK (va_cwS 2 hts gX3_lost_X3_row rfl rfl rfl (by decide +kernel) ⟨Nat.le_of_ble_eq_true rfl, Nat.le_of_ble_eq_true rfl⟩) hP hS rfl hl.1 rfl (Nat.le_of_ble_eq_true rfl) dX3_lost_64 ⟨Nat.zero_le _, Nat.zero_le _⟩ (fun H locs hP hS => ?_)
              refine W.eq (g2 := F0 m9 67 ls [.int (zI (7 * (16 * d + (j : Int)))), .ref (q 6)]) rfl ?_
              refine zr_iconst hx hb dX3_lost_67 ?_
              refine zr_iast (f := enM (moF al (goF pa sp n st d) co da td d mo n) d j) (n := 1792) hx hb hK hP hN rfl hA hS 6 0 rfl rfl (by decide) (i := 7 * (16 * d + (j : Int))) (x := (-1)) (by omega) (by omega) dX3_lost_68 (fun H locs hP hS => ?_)
              have hP : va_P D vwCl (wM cI cZ q pa sp al co da (up (enM (moF al (goF pa sp n st d) co da td d mo n) d j) (7 * (16 * d + (j : Int))) (-1)) (goF pa sp n st d) mr th n td wn) H := hP
              refine zr_iinc (v := (j : Int) + 1) (lv' := [(3, .int (zI ((j : Int) + 1))), (2, .int (zI (smF (imF al (goF pa sp n st d) da d) n))), (0, .ref (q 0)), (1, .int (zI d))]) hx hb dX3_lost_69 hl (k := 0) rfl rfl (by decide) rfl (fun ls hl => ?_)
              refine lv_goto (tgt := 52) hx hb dX3_lost_72 (by decide) ?_
              have hl := lv_sub hl (l' := [(3, .int (zI ((j : Int) + 1))), (2, .int (zI (smF (imF al (goF pa sp n st d) da d) n))), (0, .ref (q 0)), (1, .int (zI d))]) [0, 1, 2, 3] rfl
              have e_8 : ((((j + 1) : Nat) : Int) : Int) = (j : Int) + 1 := by omega
              have hl : lv_has ls 4 [(3, .int (zI (((j + 1) : Nat) : Int))), (2, .int (zI (smF (imF al (goF pa sp n st d) da d) n))), (0, .ref (q 0)), (1, .int (zI d))] := by rw [e_8]; exact hl
              have e_9 : (enM (moF al (goF pa sp n st d) co da td d mo n) d (j + 1) : Int → Int) = up (enM (moF al (goF pa sp n st d) co da td d mo n) d j) (7 * (16 * d + (j : Int))) (-1) := rfl
              have hP : va_P D vwCl (wM cI cZ q pa sp al co da (enM (moF al (goF pa sp n st d) co da td d mo n) d (j + 1)) (goF pa sp n st d) mr th n td wn) H := by rw [e_9]; exact hP
              exact ih_j (j + 1) (by omega) (by omega) _ _ _ hP hS hl
        have hl := lv_sub hl (l' := [(3, .int (zI 0)), (2, .int (zI (smF (imF al (goF pa sp n st d) da d) n))), (0, .ref (q 0)), (1, .int (zI d))]) [0, 1, 2, 3] rfl
        have e_10 : (enM (moF al (goF pa sp n st d) co da td d mo n) d 0 : Int → Int) = moF al (goF pa sp n st d) co da td d mo n := rfl
        have hP : va_P D vwCl (wM cI cZ q pa sp al co da (enM (moF al (goF pa sp n st d) co da td d mo n) d 0) (goF pa sp n st d) mr th n td wn) H := by rw [e_10]; exact hP
        exact L52_5 (16 + 1) 0 (Nat.zero_le _) (by omega) _ _ _ hP hS hl
      · have c_3 := c_3
        refine lv_aload_n hx hb dX3_lost_16 rfl (lv_at hl 2 rfl) ?_
        refine lv_iload_n hx hb dX3_lost_17 rfl (lv_at hl 0 rfl) ?_
        refine lv_iload_n hx hb dX3_lost_18 rfl (lv_at hl 3 rfl) ?_
        refine zcallV (ci := 3) (q0 := 0) (cq := (RX3, TX3, 12)) (As := [.int (zI (i : Int)), .int (zI d)]) (rest := []) ⟨hx, hb, hml, hown, hts⟩ hK (kX3_isMourner l D cI cZ q hN pa sp al co da (moF al (goF pa sp n st d) co da td d mo i) (goF pa sp n st d) mr th n td wn hal g_1 hda (i : Int) d (by omega) (by omega)) (cwV 2 hts gX3_lost_X3_isMourner rfl rfl rfl (by decide +kernel) ⟨Nat.le_of_ble_eq_true rfl, Nat.le_of_ble_eq_true rfl⟩) hP hS hA rfl rfl rfl hl.1 rfl (Nat.le_of_ble_eq_true rfl) dX3_lost_19 ⟨Nat.zero_le _, Nat.zero_le _⟩ (fun H locs hP hS _ _ => ?_)
        refine W.eq (g2 := F0 m9 22 ls [.int (zI (bI (imP al (goF pa sp n st d) da d (i : Int))))]) rfl ?_
        refine zr_if_eq (tgt := 44) hx hb dX3_lost_22 (by decide) (bI_rg _) (fun c_11 => ?_) (fun c_11 => ?_)
        · have c_11 := bI_z c_11
          refine zr_iinc (v := (i : Int) + 1) (lv' := [(3, .int (zI ((i : Int) + 1))), (2, .int (zI (smF (imF al (goF pa sp n st d) da d) n))), (0, .ref (q 0)), (1, .int (zI d))]) hx hb dX3_lost_44 hl (k := 0) rfl rfl (by decide) rfl (fun ls hl => ?_)
          refine lv_goto (tgt := 8) hx hb dX3_lost_47 (by decide) ?_
          have hl := lv_sub hl (l' := [(3, .int (zI ((i : Int) + 1))), (2, .int (zI (smF (imF al (goF pa sp n st d) da d) n))), (0, .ref (q 0)), (1, .int (zI d))]) [0, 1, 2, 3] rfl
          have e_12 : ((((i + 1) : Nat) : Int) : Int) = (i : Int) + 1 := by omega
          have hl : lv_has ls 4 [(3, .int (zI (((i + 1) : Nat) : Int))), (2, .int (zI (smF (imF al (goF pa sp n st d) da d) n))), (0, .ref (q 0)), (1, .int (zI d))] := by rw [e_12]; exact hl
          have e_13 : (moF al (goF pa sp n st d) co da td d mo (i + 1) : Int → Int) = moF al (goF pa sp n st d) co da td d mo i := by first | exact moF_y (by assumption) | exact moF_n (by assumption)
          have hP : va_P D vwCl (wM cI cZ q pa sp al co da (moF al (goF pa sp n st d) co da td d mo (i + 1)) (goF pa sp n st d) mr th n td wn) H := by rw [e_13]; exact hP
          exact ih_i (i + 1) (by omega) (by omega) _ _ _ hP hS hl
        · have c_11 := bI_n c_11
          refine lv_aload_n hx hb dX3_lost_25 rfl (lv_at hl 2 rfl) ?_
          refine lv_aload_n hx hb dX3_lost_26 rfl (lv_at hl 2 rfl) ?_
          refine va_get (D := D) (ci := 3) (v := .ref (q 6)) (C := RX3) (T := TX3) (N := 12) hx hb hts hin3 hown hK hP 0 rfl rfl 7 (by decide) (hts (.fieldLink RX3 26 "MourningRibbonsModel" "mourning" "[I") (by decide +kernel)) (fun _ h9 => h9) rfl dX3_lost_27 ?_
          refine lv_iload_n hx hb dX3_lost_30 rfl (lv_at hl 0 rfl) ?_
          refine lv_iload_n hx hb dX3_lost_31 rfl (lv_at hl 3 rfl) ?_
          refine zcallP (As := [.int (zI (i : Int)), .int (zI d)]) (rest := [.ref (q 6), .ref (q 0)]) ⟨hx, hb, hml, hown, hts⟩ (kX3_row l D (i : Int) d) hK (va_cwS 2 hts gX3_lost_X3_row rfl rfl rfl (by decide +kernel) ⟨Nat.le_of_ble_eq_true rfl, Nat.le_of_ble_eq_true rfl⟩) hP hS rfl hl.1 rfl (Nat.le_of_ble_eq_true rfl) dX3_lost_32 ⟨Nat.zero_le _, Nat.zero_le _⟩ (fun H locs hP hS => ?_)
          refine W.eq (g2 := F0 m9 35 ls [.int (zI (7 * (16 * (i : Int) + d))), .ref (q 6), .ref (q 0)]) rfl ?_
          refine lv_aload_n hx hb dX3_lost_35 rfl (lv_at hl 2 rfl) ?_
          refine va_get (D := D) (ci := 3) (v := .ref (q 7)) (C := RX3) (T := TX3) (N := 12) hx hb hts hin3 hown hK hP 0 rfl rfl 10 (by decide) (hts (.fieldLink RX3 29 "MourningRibbonsModel" "steps" "[I") (by decide +kernel)) (fun _ h9 => h9) rfl dX3_lost_36 ?_
          refine lv_iload_n hx hb dX3_lost_39 rfl (lv_at hl 0 rfl) ?_
          refine zr_iald (f := goF pa sp n st d) (n := 16) hx hb hK hP 7 0 rfl rfl (by decide) (i := (i : Int)) (by omega) (by omega) dX3_lost_40 ?_
          have b_14 := g_1 (i : Int)
          refine zcallV (ci := 3) (q0 := 0) (cq := (RX3, TX3, 12)) (As := [.ref (q 6), .int (zI (7 * (16 * (i : Int) + d))), .int (zI ((goF pa sp n st d) (i : Int)))]) (rest := []) ⟨hx, hb, hml, hown, hts⟩ hK (kX3_writemo l D cI cZ q hN pa sp al co da (moF al (goF pa sp n st d) co da td d mo i) (goF pa sp n st d) mr th n td wn hco hda (moF_bd hmo htd hco hda i) htd (7 * (16 * (i : Int) + d)) ((goF pa sp n st d) (i : Int)) (by omega) (by omega)) (cwV 3 hts gX3_lost_X3_write rfl rfl rfl (by decide +kernel) ⟨Nat.le_of_ble_eq_true rfl, Nat.le_of_ble_eq_true rfl⟩) hP hS hA rfl rfl rfl hl.1 rfl (Nat.le_of_ble_eq_true rfl) dX3_lost_41 ⟨Nat.zero_le _, Nat.zero_le _⟩ (fun H locs hP hS _ _ => ?_)
          have g_15 : ∀ j : Int, -1 ≤ (wrM (moF al (goF pa sp n st d) co da td d mo i) (7 * (16 * (i : Int) + d)) td co da ((goF pa sp n st d) (i : Int))) j ∧ (wrM (moF al (goF pa sp n st d) co da td d mo i) (7 * (16 * (i : Int) + d)) td co da ((goF pa sp n st d) (i : Int))) j ≤ 1000000 := wrM_bd (moF_bd hmo htd hco hda i) htd hco hda (7 * (16 * (i : Int) + d)) ((goF pa sp n st d) (i : Int))
          refine W.eq (g2 := F0 m9 44 ls []) rfl ?_
          refine zr_iinc (v := (i : Int) + 1) (lv' := [(3, .int (zI ((i : Int) + 1))), (2, .int (zI (smF (imF al (goF pa sp n st d) da d) n))), (0, .ref (q 0)), (1, .int (zI d))]) hx hb dX3_lost_44 hl (k := 0) rfl rfl (by decide) rfl (fun ls hl => ?_)
          refine lv_goto (tgt := 8) hx hb dX3_lost_47 (by decide) ?_
          have hl := lv_sub hl (l' := [(3, .int (zI ((i : Int) + 1))), (2, .int (zI (smF (imF al (goF pa sp n st d) da d) n))), (0, .ref (q 0)), (1, .int (zI d))]) [0, 1, 2, 3] rfl
          have e_16 : ((((i + 1) : Nat) : Int) : Int) = (i : Int) + 1 := by omega
          have hl : lv_has ls 4 [(3, .int (zI (((i + 1) : Nat) : Int))), (2, .int (zI (smF (imF al (goF pa sp n st d) da d) n))), (0, .ref (q 0)), (1, .int (zI d))] := by rw [e_16]; exact hl
          have e_17 : (moF al (goF pa sp n st d) co da td d mo (i + 1) : Int → Int) = wrM (moF al (goF pa sp n st d) co da td d mo i) (7 * (16 * (i : Int) + d)) td co da ((goF pa sp n st d) (i : Int)) := by first | exact moF_y (by assumption) | exact moF_n (by assumption)
          have hP : va_P D vwCl (wM cI cZ q pa sp al co da (moF al (goF pa sp n st d) co da td d mo (i + 1)) (goF pa sp n st d) mr th n td wn) H := by rw [e_17]; exact hP
          exact ih_i (i + 1) (by omega) (by omega) _ _ _ hP hS hl
  have hl := lv_sub hl (l' := [(3, .int (zI 0)), (2, .int (zI (smF (imF al (goF pa sp n st d) da d) n))), (0, .ref (q 0)), (1, .int (zI d))]) [0, 1, 2, 3] rfl
  have e_18 : (moF al (goF pa sp n st d) co da td d mo 0 : Int → Int) = mo := rfl
  have hP : va_P D vwCl (wM cI cZ q pa sp al co da (moF al (goF pa sp n st d) co da td d mo 0) (goF pa sp n st d) mr th n td wn) H := by rw [e_18]; exact hP
  exact L8_2 (n + 1) 0 (Nat.zero_le _) (by omega) _ _ _ hP hS hl
set_option maxHeartbeats 4000000 in
set_option maxRecDepth 100000 in
theorem kX3_inColour (l : Launch) (D : va_G) (cI cZ : ClassId) (q : Nat → Nat) (hN : (zLM q).Nodup) (pa : Int → Int) (sp : Int → Int) (al : Int → Int) (co : Int → Int) (da : Int → Int) (mo : Int → Int) (st : Int → Int) (mr : Int → Int) (th : Int) (n : Nat) (td : Int) (wn : Int) (hn : n ≤ 16) (hmo : ∀ j : Int, -1 ≤ mo j ∧ mo j ≤ 1000000) (htd : 0 ≤ td ∧ td ≤ 1000000) : zM l yX3_inColour wsX3_inColour ({ frames := 2, cells := 0, slots := 0, locals := 54 }) D [(cI, .int), (cZ, .boolean)] [.ref (q 0)] (wM cI cZ q pa sp al co da mo st mr th n td wn) (wM cI cZ q pa sp al co da mo st mr th n td wn) (some (.int (zI (smF (icF mo n td) n)))) (zLM q) := by
  refine Met.ofW (cc := cX3_inColour) (maxL := 3) (ret := (some .int)) (by decide) rfl ?_
  intro p0 e9 s9 m9 ag9 below meth c9 s₁ B hml hv
  obtain ⟨hav, hP, hK⟩ := hv
  have hx := B.exec
  have hb := B.bytes
  have hr := B.returns
  have hts := atoms_spec (ws := wsX3_inColour) B.pre
  have hown : s9.vm.findClass RX3 = some m9.cls := findClass_of_methodNamed B.named
  have hlocks := B.notSynchronized
  have hA : ∀ a ∈ zLM q, (fun a => a ∈ zLM q) a := fun _ h => h
  have hin3 : ∀ w ∈ u_ws RX3 TX3 12, w ∈ wsX3_inColour := by decide +kernel
  have hl := lv_entry ([.ref (q 0)]) (n := 3) (Nat.le_of_ble_eq_true rfl)
  have hE : entryFrame m9 ag9 3 = F0 m9 0 ((lg_sl ([.ref (q 0)]) ++ List.replicate (3 - (lg_sl ([.ref (q 0)])).length) Slot.unset).toArray) [] := by rw [hav]; exact lg_entry_eq m9 _ _
  obtain ⟨Q0, hQ0⟩ : ∃ Q0, Q0 = MQ below (zQ D (wM cI cZ q pa sp al co da mo st mr th n td wn) (some (.int (zI (smF (icF mo n td) n)))) (zLM q)) ag9 s9 0 0 (fun a => a ∈ zLM q) := ⟨_, rfl⟩
  show W p0 l e9 ({ frames := 2, cells := 0, slots := 0, locals := 54 }) s9 m9 ag9 below meth c9 s9.heap [] 0 0 (MQ below (zQ D (wM cI cZ q pa sp al co da mo st mr th n td wn) (some (.int (zI (smF (icF mo n td) n)))) (zLM q)) ag9 s9 0 0 (fun a => a ∈ zLM q)) _
  rw [hE, ← hQ0]
  have hS : va_S (fun a => a ∈ zLM q) s9.heap s9.heap [] := va_S.rf
  generalize hH0 : s9.heap = H at hP ⊢
  have hS : va_S (fun a => a ∈ zLM q) s9.heap H [] := by rw [hH0] at hS ⊢; exact hS
  generalize (lg_sl ([.ref (q 0)]) ++ List.replicate (3 - (lg_sl ([.ref (q 0)])).length) Slot.unset).toArray = ls at hl ⊢
  have hl : lv_has ls 3 [(0, .ref (q 0))] := hl
  refine zr_iconst hx hb dX3_inColour_0 ?_
  refine lv_istore_n (lv' := [(1, .int (zI 0)), (0, .ref (q 0))]) hx hb dX3_inColour_1 rfl hl (by decide) rfl (fun ls hl => ?_)
  refine zr_iconst hx hb dX3_inColour_2 ?_
  refine lv_istore_n (lv' := [(2, .int (zI 0)), (1, .int (zI 0)), (0, .ref (q 0))]) hx hb dX3_inColour_3 rfl hl (by decide) rfl (fun ls hl => ?_)
  have L4_1 : ∀ (kf i : Nat), i ≤ n → n - i < kf → ∀ (H : Heap) (locs : List Loc) (ls : Array Slot), va_P D vwCl (wM cI cZ q pa sp al co da mo st mr th n td wn) H → va_S (fun a => a ∈ zLM q) s9.heap H locs → lv_has ls 3 [(2, .int (zI (i : Int))), (1, .int (zI (smF (icF mo n td) i))), (0, .ref (q 0))] → W p0 l e9 ({ frames := 2, cells := 0, slots := 0, locals := 54 }) s9 m9 ag9 below meth c9 H locs 0 0 Q0 (F0 m9 4 ls []) := by
    intro kf
    induction kf with
    | zero => intro i h1 h2; omega
    | succ kf ih =>
      intro i hi_i hk_i H locs ls hP hS hl
      have ih_i := ih
      clear ih
      refine lv_iload_n hx hb dX3_inColour_4 rfl (lv_at hl 0 rfl) ?_
      refine lv_aload_n hx hb dX3_inColour_5 rfl (lv_at hl 2 rfl) ?_
      refine va_get (D := D) (ci := 3) (v := .int (zI (n : Int))) (C := RX3) (T := TX3) (N := 12) hx hb hts hin3 hown hK hP 0 rfl rfl 1 (by decide) (hts (.fieldLink RX3 39 "MourningRibbonsModel" "people" "I") (by decide +kernel)) (fun _ h9 => h9) rfl dX3_inColour_6 ?_
      refine zr_icmp_ge (tgt := 38) hx hb dX3_inColour_9 (by decide) ⟨by omega, by omega⟩ ⟨by omega, by omega⟩ (fun c_2 => ?_) (fun c_2 => ?_)
      · have c_2 := c_2
        have x_3 : i = n := by omega
        try rw [x_3] at hP
        try rw [x_3] at hl
        refine lv_iload_n hx hb dX3_inColour_38 rfl (lv_at hl 1 rfl) ?_
        rw [hQ0]
        exact zret_i hx hb hr hlocks (rfl) hP hS dX3_inColour_39
      · have c_2 := c_2
        refine lv_iload_n hx hb dX3_inColour_12 rfl (lv_at hl 1 rfl) ?_
        refine lv_aload_n hx hb dX3_inColour_13 rfl (lv_at hl 2 rfl) ?_
        refine lv_iload_n hx hb dX3_inColour_14 rfl (lv_at hl 0 rfl) ?_
        refine lv_aload_n hx hb dX3_inColour_15 rfl (lv_at hl 2 rfl) ?_
        refine va_get (D := D) (ci := 3) (v := .int (zI td)) (C := RX3) (T := TX3) (N := 12) hx hb hts hin3 hown hK hP 0 rfl rfl 8 (by decide) (hts (.fieldLink RX3 95 "MourningRibbonsModel" "today" "I") (by decide +kernel)) (fun _ h9 => h9) rfl dX3_inColour_16 ?_
        refine zcallV (ci := 3) (q0 := 0) (cq := (RX3, TX3, 12)) (As := [.int (zI (i : Int)), .int (zI td)]) (rest := [.int (zI (smF (icF mo n td) i))]) ⟨hx, hb, hml, hown, hts⟩ hK (kX3_wears l D cI cZ q hN pa sp al co da mo st mr th n td wn hn hmo (i : Int) td (by omega) (by omega)) (cwV 2 hts gX3_inColour_X3_wears rfl rfl rfl (by decide +kernel) ⟨Nat.le_of_ble_eq_true rfl, Nat.le_of_ble_eq_true rfl⟩) hP hS hA rfl rfl rfl hl.1 rfl (Nat.le_of_ble_eq_true rfl) dX3_inColour_19 ⟨Nat.zero_le _, Nat.zero_le _⟩ (fun H locs hP hS _ _ => ?_)
        refine W.eq (g2 := F0 m9 22 ls [.int (zI (wsM mo n (i : Int) td)), .int (zI (smF (icF mo n td) i))]) rfl ?_
        have f_4 := wsM_bd hmo n (i : Int) td
        refine zr_if_le (tgt := 29) hx hb dX3_inColour_22 (by decide) ⟨by omega, by omega⟩ (fun c_5 => ?_) (fun c_5 => ?_)
        · have c_5 := c_5
          refine zr_iconst hx hb dX3_inColour_29 ?_
          refine zr_iadd (v := smF (icF mo n td) i) hx hb (by omega) dX3_inColour_30 ?_
          refine lv_istore_n (lv' := [(1, .int (zI (smF (icF mo n td) i))), (2, .int (zI (i : Int))), (0, .ref (q 0))]) hx hb dX3_inColour_31 rfl hl (by decide) rfl (fun ls hl => ?_)
          refine zr_iinc (v := (i : Int) + 1) (lv' := [(2, .int (zI ((i : Int) + 1))), (1, .int (zI (smF (icF mo n td) i))), (0, .ref (q 0))]) hx hb dX3_inColour_32 hl (k := 1) rfl rfl (by decide) rfl (fun ls hl => ?_)
          refine lv_goto (tgt := 4) hx hb dX3_inColour_35 (by decide) ?_
          have hl := lv_sub hl (l' := [(2, .int (zI ((i : Int) + 1))), (1, .int (zI (smF (icF mo n td) i))), (0, .ref (q 0))]) [0, 1, 2] rfl
          have e_6 : ((((i + 1) : Nat) : Int) : Int) = (i : Int) + 1 := by omega
          have e_7 : (smF (icF mo n td) (i + 1) : Int) = smF (icF mo n td) i := by rw [smF_s]; unfold icF; split <;> omega
          have hl : lv_has ls 3 [(2, .int (zI (((i + 1) : Nat) : Int))), (1, .int (zI (smF (icF mo n td) (i + 1)))), (0, .ref (q 0))] := by rw [e_6, e_7]; exact hl
          exact ih_i (i + 1) (by omega) (by omega) _ _ _ hP hS hl
        · have c_5 := c_5
          refine zr_iconst hx hb dX3_inColour_25 ?_
          refine lv_goto (tgt := 30) hx hb dX3_inColour_26 (by decide) ?_
          refine zr_iadd (v := (smF (icF mo n td) i) + 1) hx hb rfl dX3_inColour_30 ?_
          refine lv_istore_n (lv' := [(1, .int (zI ((smF (icF mo n td) i) + 1))), (2, .int (zI (i : Int))), (0, .ref (q 0))]) hx hb dX3_inColour_31 rfl hl (by decide) rfl (fun ls hl => ?_)
          refine zr_iinc (v := (i : Int) + 1) (lv' := [(2, .int (zI ((i : Int) + 1))), (1, .int (zI ((smF (icF mo n td) i) + 1))), (0, .ref (q 0))]) hx hb dX3_inColour_32 hl (k := 1) rfl rfl (by decide) rfl (fun ls hl => ?_)
          refine lv_goto (tgt := 4) hx hb dX3_inColour_35 (by decide) ?_
          have hl := lv_sub hl (l' := [(2, .int (zI ((i : Int) + 1))), (1, .int (zI ((smF (icF mo n td) i) + 1))), (0, .ref (q 0))]) [0, 1, 2] rfl
          have e_8 : ((((i + 1) : Nat) : Int) : Int) = (i : Int) + 1 := by omega
          have e_9 : (smF (icF mo n td) (i + 1) : Int) = (smF (icF mo n td) i) + 1 := by rw [smF_s]; unfold icF; split <;> omega
          have hl : lv_has ls 3 [(2, .int (zI (((i + 1) : Nat) : Int))), (1, .int (zI (smF (icF mo n td) (i + 1)))), (0, .ref (q 0))] := by rw [e_8, e_9]; exact hl
          exact ih_i (i + 1) (by omega) (by omega) _ _ _ hP hS hl
  have hl := lv_sub hl (l' := [(2, .int (zI 0)), (1, .int (zI 0)), (0, .ref (q 0))]) [0, 1, 2] rfl
  have e_10 : (smF (icF mo n td) 0 : Int) = 0 := rfl
  have hl : lv_has ls 3 [(2, .int (zI 0)), (1, .int (zI (smF (icF mo n td) 0))), (0, .ref (q 0))] := by rw [e_10]; exact hl
  exact L4_1 (n + 1) 0 (Nat.zero_le _) (by omega) _ _ _ hP hS hl
set_option maxHeartbeats 4000000 in
set_option maxRecDepth 100000 in
theorem kX3_passed (l : Launch) (D : va_G) (cI cZ : ClassId) (q : Nat → Nat) (hN : (zLM q).Nodup) (pa : Int → Int) (sp : Int → Int) (al : Int → Int) (co : Int → Int) (da : Int → Int) (mo : Int → Int) (st : Int → Int) (mr : Int → Int) (th : Int) (n : Nat) (td : Int) (wn : Int) (hn : n ≤ 16) (hmo : ∀ j : Int, -1 ≤ mo j ∧ mo j ≤ 1000000) (htd : 0 ≤ td ∧ td ≤ 1000000) (k : Int) (h1 : 1 ≤ k ∧ k ≤ 200) (h2 : td ≤ 900000) : zM l yX3_passed wsX3_passed ({ frames := 3, cells := 0, slots := 0, locals := 76 }) D [(cI, .int), (cZ, .boolean)] [.ref (q 0), .int (zI k)] (wM cI cZ q pa sp al co da mo st mr th n td wn) (wM cI cZ q pa sp al co da mo st mr th n (td + k) (wn + smF (psF mo n td) k.toNat)) (some (.int (zI (smF (icF mo n (td + k)) n)))) (zLM q) := by
  refine Met.ofW (cc := cX3_passed) (maxL := 3) (ret := (some .int)) (by decide) rfl ?_
  intro p0 e9 s9 m9 ag9 below meth c9 s₁ B hml hv
  obtain ⟨hav, hP, hK⟩ := hv
  have hx := B.exec
  have hb := B.bytes
  have hr := B.returns
  have hts := atoms_spec (ws := wsX3_passed) B.pre
  have hown : s9.vm.findClass RX3 = some m9.cls := findClass_of_methodNamed B.named
  have hlocks := B.notSynchronized
  have hA : ∀ a ∈ zLM q, (fun a => a ∈ zLM q) a := fun _ h => h
  have hin3 : ∀ w ∈ u_ws RX3 TX3 12, w ∈ wsX3_passed := by decide +kernel
  have hl := lv_entry ([.ref (q 0), .int (zI k)]) (n := 3) (Nat.le_of_ble_eq_true rfl)
  have hE : entryFrame m9 ag9 3 = F0 m9 0 ((lg_sl ([.ref (q 0), .int (zI k)]) ++ List.replicate (3 - (lg_sl ([.ref (q 0), .int (zI k)])).length) Slot.unset).toArray) [] := by rw [hav]; exact lg_entry_eq m9 _ _
  obtain ⟨Q0, hQ0⟩ : ∃ Q0, Q0 = MQ below (zQ D (wM cI cZ q pa sp al co da mo st mr th n (td + k) (wn + smF (psF mo n td) k.toNat)) (some (.int (zI (smF (icF mo n (td + k)) n)))) (zLM q)) ag9 s9 0 0 (fun a => a ∈ zLM q) := ⟨_, rfl⟩
  show W p0 l e9 ({ frames := 3, cells := 0, slots := 0, locals := 76 }) s9 m9 ag9 below meth c9 s9.heap [] 0 0 (MQ below (zQ D (wM cI cZ q pa sp al co da mo st mr th n (td + k) (wn + smF (psF mo n td) k.toNat)) (some (.int (zI (smF (icF mo n (td + k)) n)))) (zLM q)) ag9 s9 0 0 (fun a => a ∈ zLM q)) _
  rw [hE, ← hQ0]
  have hS : va_S (fun a => a ∈ zLM q) s9.heap s9.heap [] := va_S.rf
  generalize hH0 : s9.heap = H at hP ⊢
  have hS : va_S (fun a => a ∈ zLM q) s9.heap H [] := by rw [hH0] at hS ⊢; exact hS
  generalize (lg_sl ([.ref (q 0), .int (zI k)]) ++ List.replicate (3 - (lg_sl ([.ref (q 0), .int (zI k)])).length) Slot.unset).toArray = ls at hl ⊢
  have hl : lv_has ls 3 [(0, .ref (q 0)), (1, .int (zI k))] := hl
  refine zr_iconst hx hb dX3_passed_0 ?_
  refine lv_istore_n (lv' := [(2, .int (zI 0)), (0, .ref (q 0)), (1, .int (zI k))]) hx hb dX3_passed_1 rfl hl (by decide) rfl (fun ls hl => ?_)
  have L2_1 : ∀ (kf i : Nat), i ≤ k.toNat → k.toNat - i < kf → ∀ (H : Heap) (locs : List Loc) (ls : Array Slot), va_P D vwCl (wM cI cZ q pa sp al co da mo st mr th n (td + ((i : Nat) : Int)) (wn + smF (psF mo n td) i)) H → va_S (fun a => a ∈ zLM q) s9.heap H locs → lv_has ls 3 [(2, .int (zI (i : Int))), (0, .ref (q 0)), (1, .int (zI k))] → W p0 l e9 ({ frames := 3, cells := 0, slots := 0, locals := 76 }) s9 m9 ag9 below meth c9 H locs 0 0 Q0 (F0 m9 2 ls []) := by
    intro kf
    induction kf with
    | zero => intro i h1 h2; omega
    | succ kf ih =>
      intro i hi_i hk_i H locs ls hP hS hl
      have ih_i := ih
      clear ih
      refine lv_iload_n hx hb dX3_passed_2 rfl (lv_at hl 0 rfl) ?_
      refine lv_iload_n hx hb dX3_passed_3 rfl (lv_at hl 2 rfl) ?_
      refine zr_icmp_ge (tgt := 36) hx hb dX3_passed_4 (by decide) ⟨by omega, by omega⟩ ⟨by omega, by omega⟩ (fun c_2 => ?_) (fun c_2 => ?_)
      · have c_2 := c_2
        have x_3 : i = k.toNat := by omega
        try rw [x_3] at hP
        try rw [x_3] at hl
        refine lv_aload_n hx hb dX3_passed_36 rfl (lv_at hl 1 rfl) ?_
        refine zcallV (ci := 3) (q0 := 0) (cq := (RX3, TX3, 12)) (As := []) (rest := []) ⟨hx, hb, hml, hown, hts⟩ hK (kX3_inColour l D cI cZ q hN pa sp al co da mo st mr th n (td + ((k.toNat : Nat) : Int)) (wn + smF (psF mo n td) k.toNat) hn hmo (⟨by omega, by omega⟩)) (cwV 0 hts gX3_passed_X3_inColour rfl rfl rfl (by decide +kernel) ⟨Nat.le_of_ble_eq_true rfl, Nat.le_of_ble_eq_true rfl⟩) hP hS hA rfl rfl rfl hl.1 rfl (Nat.le_of_ble_eq_true rfl) dX3_passed_37 ⟨Nat.zero_le _, Nat.zero_le _⟩ (fun H locs hP hS _ _ => ?_)
        refine W.eq (g2 := F0 m9 40 ls [.int (zI (smF (icF mo n (td + ((k.toNat : Nat) : Int))) n))]) rfl ?_
        have e_4 : (td + k : Int) = td + ((k.toNat : Nat) : Int) := by omega
        have hP : va_P D vwCl (wM cI cZ q pa sp al co da mo st mr th n (td + k) (wn + smF (psF mo n td) k.toNat)) H := by rw [e_4]; exact hP
        rw [hQ0]
        exact zret_i hx hb hr hlocks (congrArg (fun z => smF (icF mo n z) n) (by omega)) hP hS dX3_passed_40
      · have c_2 := c_2
        refine lv_aload_n hx hb dX3_passed_7 rfl (lv_at hl 1 rfl) ?_
        refine lv_dup hx hb dX3_passed_8 rfl ?_
        refine va_get (D := D) (ci := 3) (v := .int (zI (wn + smF (psF mo n td) i))) (C := RX3) (T := TX3) (N := 12) hx hb hts hin3 hown hK hP 0 rfl rfl 9 (by decide) (hts (.fieldLink RX3 121 "MourningRibbonsModel" "worn" "I") (by decide +kernel)) (fun _ h9 => h9) rfl dX3_passed_9 ?_
        refine lv_aload_n hx hb dX3_passed_12 rfl (lv_at hl 1 rfl) ?_
        refine zcallV (ci := 3) (q0 := 0) (cq := (RX3, TX3, 12)) (As := []) (rest := [.int (zI (wn + smF (psF mo n td) i)), .ref (q 0)]) ⟨hx, hb, hml, hown, hts⟩ hK (kX3_inColour l D cI cZ q hN pa sp al co da mo st mr th n (td + ((i : Nat) : Int)) (wn + smF (psF mo n td) i) hn hmo (⟨by omega, by omega⟩)) (cwV 0 hts gX3_passed_X3_inColour rfl rfl rfl (by decide +kernel) ⟨Nat.le_of_ble_eq_true rfl, Nat.le_of_ble_eq_true rfl⟩) hP hS hA rfl rfl rfl hl.1 rfl (Nat.le_of_ble_eq_true rfl) dX3_passed_13 ⟨Nat.zero_le _, Nat.zero_le _⟩ (fun H locs hP hS _ _ => ?_)
        refine W.eq (g2 := F0 m9 16 ls [.int (zI (smF (icF mo n (td + ((i : Nat) : Int))) n)), .int (zI (wn + smF (psF mo n td) i)), .ref (q 0)]) rfl ?_
        refine zr_iadd (v := (wn + smF (psF mo n td) i) + (smF (icF mo n (td + ((i : Nat) : Int))) n)) hx hb rfl dX3_passed_16 ?_
        refine va_put (D := D) (ci := 3) (v := .int (zI ((wn + smF (psF mo n td) i) + (smF (icF mo n (td + ((i : Nat) : Int))) n)))) (ty := .int) (C := RX3) (T := TX3) (N := 12) hx hb hts hin3 tyX3 tyX3_ok nmX3 hown hK hP (zD hN rfl hA) hS 0 rfl rfl 9 (by decide) (hts (.fieldLink RX3 121 "MourningRibbonsModel" "worn" "I") (by decide +kernel)) (fun _ h9 => h9) rfl (by decide +kernel) rfl rfl (Nat.le_of_ble_eq_true rfl) dX3_passed_17 (fun H locs hP _ hS => ?_)
        have hP : va_P D vwCl (wM cI cZ q pa sp al co da mo st mr th n (td + ((i : Nat) : Int)) ((wn + smF (psF mo n td) i) + (smF (icF mo n (td + ((i : Nat) : Int))) n))) H := hP
        refine lv_aload_n hx hb dX3_passed_20 rfl (lv_at hl 1 rfl) ?_
        refine lv_dup hx hb dX3_passed_21 rfl ?_
        refine va_get (D := D) (ci := 3) (v := .int (zI (td + ((i : Nat) : Int)))) (C := RX3) (T := TX3) (N := 12) hx hb hts hin3 hown hK hP 0 rfl rfl 8 (by decide) (hts (.fieldLink RX3 95 "MourningRibbonsModel" "today" "I") (by decide +kernel)) (fun _ h9 => h9) rfl dX3_passed_22 ?_
        refine zr_iconst hx hb dX3_passed_25 ?_
        refine zr_iadd (v := (td + ((i : Nat) : Int)) + 1) hx hb rfl dX3_passed_26 ?_
        refine va_put (D := D) (ci := 3) (v := .int (zI ((td + ((i : Nat) : Int)) + 1))) (ty := .int) (C := RX3) (T := TX3) (N := 12) hx hb hts hin3 tyX3 tyX3_ok nmX3 hown hK hP (zD hN rfl hA) hS 0 rfl rfl 8 (by decide) (hts (.fieldLink RX3 95 "MourningRibbonsModel" "today" "I") (by decide +kernel)) (fun _ h9 => h9) rfl (by decide +kernel) rfl rfl (Nat.le_of_ble_eq_true rfl) dX3_passed_27 (fun H locs hP _ hS => ?_)
        have hP : va_P D vwCl (wM cI cZ q pa sp al co da mo st mr th n ((td + ((i : Nat) : Int)) + 1) ((wn + smF (psF mo n td) i) + (smF (icF mo n (td + ((i : Nat) : Int))) n))) H := hP
        refine zr_iinc (v := (i : Int) + 1) (lv' := [(2, .int (zI ((i : Int) + 1))), (0, .ref (q 0)), (1, .int (zI k))]) hx hb dX3_passed_30 hl (k := 0) rfl rfl (by decide) rfl (fun ls hl => ?_)
        refine lv_goto (tgt := 2) hx hb dX3_passed_33 (by decide) ?_
        have hl := lv_sub hl (l' := [(2, .int (zI ((i : Int) + 1))), (0, .ref (q 0)), (1, .int (zI k))]) [0, 1, 2] rfl
        have e_5 : ((((i + 1) : Nat) : Int) : Int) = (i : Int) + 1 := by omega
        have hl : lv_has ls 3 [(2, .int (zI (((i + 1) : Nat) : Int))), (0, .ref (q 0)), (1, .int (zI k))] := by rw [e_5]; exact hl
        have e_6 : (td + (((i + 1) : Nat) : Int) : Int) = (td + ((i : Nat) : Int)) + 1 := by omega
        have hP : va_P D vwCl (wM cI cZ q pa sp al co da mo st mr th n (td + (((i + 1) : Nat) : Int)) ((wn + smF (psF mo n td) i) + (smF (icF mo n (td + ((i : Nat) : Int))) n))) H := by rw [e_6]; exact hP
        have e_7 : (wn + smF (psF mo n td) (i + 1) : Int) = (wn + smF (psF mo n td) i) + (smF (icF mo n (td + ((i : Nat) : Int))) n) := by rw [smF_s]; unfold psF; omega
        have hP : va_P D vwCl (wM cI cZ q pa sp al co da mo st mr th n (td + (((i + 1) : Nat) : Int)) (wn + smF (psF mo n td) (i + 1))) H := by rw [e_7]; exact hP
        exact ih_i (i + 1) (by omega) (by omega) _ _ _ hP hS hl
  have hl := lv_sub hl (l' := [(2, .int (zI 0)), (0, .ref (q 0)), (1, .int (zI k))]) [0, 1, 2] rfl
  have e_8 : (td + ((0 : Nat) : Int) : Int) = td := by omega
  have hP : va_P D vwCl (wM cI cZ q pa sp al co da mo st mr th n (td + ((0 : Nat) : Int)) wn) H := by rw [e_8]; exact hP
  have e_9 : (wn + smF (psF mo n td) 0 : Int) = wn := Int.add_zero wn
  have hP : va_P D vwCl (wM cI cZ q pa sp al co da mo st mr th n (td + ((0 : Nat) : Int)) (wn + smF (psF mo n td) 0)) H := by rw [e_9]; exact hP
  exact L2_1 (k.toNat + 1) 0 (Nat.zero_le _) (by omega) _ _ _ hP hS hl
set_option maxHeartbeats 4000000 in
set_option maxRecDepth 100000 in
theorem kX3_alive (l : Launch) (D : va_G) (cI cZ : ClassId) (q : Nat → Nat) (hN : (zLM q).Nodup) (pa : Int → Int) (sp : Int → Int) (al : Int → Int) (co : Int → Int) (da : Int → Int) (mo : Int → Int) (st : Int → Int) (mr : Int → Int) (th : Int) (n : Nat) (td : Int) (wn : Int) (hn : n ≤ 16) (hal : ∀ j : Int, 0 ≤ al j ∧ al j ≤ 1) : zM l yX3_alive wsX3_alive ({ frames := 0, cells := 0, slots := 0, locals := 0 }) D [(cI, .int), (cZ, .boolean)] [.ref (q 0)] (wM cI cZ q pa sp al co da mo st mr th n td wn) (wM cI cZ q pa sp al co da mo st mr th n td wn) (some (.int (zI (smF al n)))) (zLM q) := by
  refine Met.ofW (cc := cX3_alive) (maxL := 3) (ret := (some .int)) (by decide) rfl ?_
  intro p0 e9 s9 m9 ag9 below meth c9 s₁ B hml hv
  obtain ⟨hav, hP, hK⟩ := hv
  have hx := B.exec
  have hb := B.bytes
  have hr := B.returns
  have hts := atoms_spec (ws := wsX3_alive) B.pre
  have hown : s9.vm.findClass RX3 = some m9.cls := findClass_of_methodNamed B.named
  have hlocks := B.notSynchronized
  have hA : ∀ a ∈ zLM q, (fun a => a ∈ zLM q) a := fun _ h => h
  have hin3 : ∀ w ∈ u_ws RX3 TX3 12, w ∈ wsX3_alive := by decide +kernel
  have hl := lv_entry ([.ref (q 0)]) (n := 3) (Nat.le_of_ble_eq_true rfl)
  have hE : entryFrame m9 ag9 3 = F0 m9 0 ((lg_sl ([.ref (q 0)]) ++ List.replicate (3 - (lg_sl ([.ref (q 0)])).length) Slot.unset).toArray) [] := by rw [hav]; exact lg_entry_eq m9 _ _
  obtain ⟨Q0, hQ0⟩ : ∃ Q0, Q0 = MQ below (zQ D (wM cI cZ q pa sp al co da mo st mr th n td wn) (some (.int (zI (smF al n)))) (zLM q)) ag9 s9 0 0 (fun a => a ∈ zLM q) := ⟨_, rfl⟩
  show W p0 l e9 ({ frames := 0, cells := 0, slots := 0, locals := 0 }) s9 m9 ag9 below meth c9 s9.heap [] 0 0 (MQ below (zQ D (wM cI cZ q pa sp al co da mo st mr th n td wn) (some (.int (zI (smF al n)))) (zLM q)) ag9 s9 0 0 (fun a => a ∈ zLM q)) _
  rw [hE, ← hQ0]
  have hS : va_S (fun a => a ∈ zLM q) s9.heap s9.heap [] := va_S.rf
  generalize hH0 : s9.heap = H at hP ⊢
  have hS : va_S (fun a => a ∈ zLM q) s9.heap H [] := by rw [hH0] at hS ⊢; exact hS
  generalize (lg_sl ([.ref (q 0)]) ++ List.replicate (3 - (lg_sl ([.ref (q 0)])).length) Slot.unset).toArray = ls at hl ⊢
  have hl : lv_has ls 3 [(0, .ref (q 0))] := hl
  refine zr_iconst hx hb dX3_alive_0 ?_
  refine lv_istore_n (lv' := [(1, .int (zI 0)), (0, .ref (q 0))]) hx hb dX3_alive_1 rfl hl (by decide) rfl (fun ls hl => ?_)
  refine zr_iconst hx hb dX3_alive_2 ?_
  refine lv_istore_n (lv' := [(2, .int (zI 0)), (1, .int (zI 0)), (0, .ref (q 0))]) hx hb dX3_alive_3 rfl hl (by decide) rfl (fun ls hl => ?_)
  have L4_1 : ∀ (kf i : Nat), i ≤ n → n - i < kf → ∀ (H : Heap) (locs : List Loc) (ls : Array Slot), va_P D vwCl (wM cI cZ q pa sp al co da mo st mr th n td wn) H → va_S (fun a => a ∈ zLM q) s9.heap H locs → lv_has ls 3 [(2, .int (zI (i : Int))), (1, .int (zI (smF al i))), (0, .ref (q 0))] → W p0 l e9 ({ frames := 0, cells := 0, slots := 0, locals := 0 }) s9 m9 ag9 below meth c9 H locs 0 0 Q0 (F0 m9 4 ls []) := by
    intro kf
    induction kf with
    | zero => intro i h1 h2; omega
    | succ kf ih =>
      intro i hi_i hk_i H locs ls hP hS hl
      have ih_i := ih
      clear ih
      refine lv_iload_n hx hb dX3_alive_4 rfl (lv_at hl 0 rfl) ?_
      refine lv_aload_n hx hb dX3_alive_5 rfl (lv_at hl 2 rfl) ?_
      refine va_get (D := D) (ci := 3) (v := .int (zI (n : Int))) (C := RX3) (T := TX3) (N := 12) hx hb hts hin3 hown hK hP 0 rfl rfl 1 (by decide) (hts (.fieldLink RX3 39 "MourningRibbonsModel" "people" "I") (by decide +kernel)) (fun _ h9 => h9) rfl dX3_alive_6 ?_
      refine zr_icmp_ge (tgt := 35) hx hb dX3_alive_9 (by decide) ⟨by omega, by omega⟩ ⟨by omega, by omega⟩ (fun c_2 => ?_) (fun c_2 => ?_)
      · have c_2 := c_2
        have x_3 : i = n := by omega
        try rw [x_3] at hP
        try rw [x_3] at hl
        refine lv_iload_n hx hb dX3_alive_35 rfl (lv_at hl 1 rfl) ?_
        rw [hQ0]
        exact zret_i hx hb hr hlocks (rfl) hP hS dX3_alive_36
      · have c_2 := c_2
        refine lv_iload_n hx hb dX3_alive_12 rfl (lv_at hl 1 rfl) ?_
        refine lv_aload_n hx hb dX3_alive_13 rfl (lv_at hl 2 rfl) ?_
        refine va_get (D := D) (ci := 3) (v := .ref (q 3)) (C := RX3) (T := TX3) (N := 12) hx hb hts hin3 hown hK hP 0 rfl rfl 4 (by decide) (hts (.fieldLink RX3 16 "MourningRibbonsModel" "isAlive" "[Z") (by decide +kernel)) (fun _ h9 => h9) rfl dX3_alive_14 ?_
        refine lv_iload_n hx hb dX3_alive_17 rfl (lv_at hl 0 rfl) ?_
        refine zr_zald (f := al) (n := 16) hx hb hK hP 3 1 rfl rfl (by decide) (i := (i : Int)) (by omega) (by omega) dX3_alive_18 ?_
        have b_4 := hal (i : Int)
        refine zr_if_eq (tgt := 26) hx hb dX3_alive_19 (by decide) ⟨by omega, by omega⟩ (fun c_5 => ?_) (fun c_5 => ?_)
        · have c_5 := c_5
          refine zr_iconst hx hb dX3_alive_26 ?_
          refine zr_iadd (v := smF al i) hx hb (by omega) dX3_alive_27 ?_
          refine lv_istore_n (lv' := [(1, .int (zI (smF al i))), (2, .int (zI (i : Int))), (0, .ref (q 0))]) hx hb dX3_alive_28 rfl hl (by decide) rfl (fun ls hl => ?_)
          refine zr_iinc (v := (i : Int) + 1) (lv' := [(2, .int (zI ((i : Int) + 1))), (1, .int (zI (smF al i))), (0, .ref (q 0))]) hx hb dX3_alive_29 hl (k := 1) rfl rfl (by decide) rfl (fun ls hl => ?_)
          refine lv_goto (tgt := 4) hx hb dX3_alive_32 (by decide) ?_
          have hl := lv_sub hl (l' := [(2, .int (zI ((i : Int) + 1))), (1, .int (zI (smF al i))), (0, .ref (q 0))]) [0, 1, 2] rfl
          have e_6 : ((((i + 1) : Nat) : Int) : Int) = (i : Int) + 1 := by omega
          have e_7 : (smF al (i + 1) : Int) = smF al i := by rw [smF_s]; omega
          have hl : lv_has ls 3 [(2, .int (zI (((i + 1) : Nat) : Int))), (1, .int (zI (smF al (i + 1)))), (0, .ref (q 0))] := by rw [e_6, e_7]; exact hl
          exact ih_i (i + 1) (by omega) (by omega) _ _ _ hP hS hl
        · have c_5 := c_5
          refine zr_iconst hx hb dX3_alive_22 ?_
          refine lv_goto (tgt := 27) hx hb dX3_alive_23 (by decide) ?_
          refine zr_iadd (v := (smF al i) + 1) hx hb rfl dX3_alive_27 ?_
          refine lv_istore_n (lv' := [(1, .int (zI ((smF al i) + 1))), (2, .int (zI (i : Int))), (0, .ref (q 0))]) hx hb dX3_alive_28 rfl hl (by decide) rfl (fun ls hl => ?_)
          refine zr_iinc (v := (i : Int) + 1) (lv' := [(2, .int (zI ((i : Int) + 1))), (1, .int (zI ((smF al i) + 1))), (0, .ref (q 0))]) hx hb dX3_alive_29 hl (k := 1) rfl rfl (by decide) rfl (fun ls hl => ?_)
          refine lv_goto (tgt := 4) hx hb dX3_alive_32 (by decide) ?_
          have hl := lv_sub hl (l' := [(2, .int (zI ((i : Int) + 1))), (1, .int (zI ((smF al i) + 1))), (0, .ref (q 0))]) [0, 1, 2] rfl
          have e_8 : ((((i + 1) : Nat) : Int) : Int) = (i : Int) + 1 := by omega
          have e_9 : (smF al (i + 1) : Int) = (smF al i) + 1 := by rw [smF_s]; omega
          have hl : lv_has ls 3 [(2, .int (zI (((i + 1) : Nat) : Int))), (1, .int (zI (smF al (i + 1)))), (0, .ref (q 0))] := by rw [e_8, e_9]; exact hl
          exact ih_i (i + 1) (by omega) (by omega) _ _ _ hP hS hl
  have hl := lv_sub hl (l' := [(2, .int (zI 0)), (1, .int (zI 0)), (0, .ref (q 0))]) [0, 1, 2] rfl
  have e_10 : (smF al 0 : Int) = 0 := rfl
  have hl : lv_has ls 3 [(2, .int (zI 0)), (1, .int (zI (smF al 0))), (0, .ref (q 0))] := by rw [e_10]; exact hl
  exact L4_1 (n + 1) 0 (Nat.zero_le _) (by omega) _ _ _ hP hS hl
set_option maxHeartbeats 4000000 in
set_option maxRecDepth 100000 in
theorem kX3_kin (l : Launch) (D : va_G) (cI cZ : ClassId) (q : Nat → Nat) (hN : (zLM q).Nodup) (pa : Int → Int) (sp : Int → Int) (al : Int → Int) (co : Int → Int) (da : Int → Int) (mo : Int → Int) (st : Int → Int) (mr : Int → Int) (th : Int) (n : Nat) (td : Int) (wn : Int) (hpa : ∀ j : Int, -1 ≤ pa j ∧ pa j ≤ 15) (hsp : ∀ j : Int, -1 ≤ sp j ∧ sp j ≤ 15) (hal : ∀ j : Int, 0 ≤ al j ∧ al j ≤ 1) (hst : ∀ j : Int, -1 ≤ st j ∧ st j ≤ 4) (hn : n ≤ 16) (p : Int) (g : Int) (h1 : 0 ≤ p ∧ p < 16) (h2 : 1 ≤ g ∧ g ≤ 4) : zM l yX3_kin wsX3_kin ({ frames := 2, cells := 0, slots := 0, locals := 46 }) D [(cI, .int), (cZ, .boolean)] [.ref (q 0), .int (zI p), .int (zI g)] (wM cI cZ q pa sp al co da mo st mr th n td wn) (wM cI cZ q pa sp al co da mo (goF pa sp n st p) mr th n td wn) (some (.int (zI (smF (kinF al (goF pa sp n st p) g) n)))) (zLM q) := by
  refine Met.ofW (cc := cX3_kin) (maxL := 5) (ret := (some .int)) (by decide) rfl ?_
  intro p0 e9 s9 m9 ag9 below meth c9 s₁ B hml hv
  obtain ⟨hav, hP, hK⟩ := hv
  have hx := B.exec
  have hb := B.bytes
  have hr := B.returns
  have hts := atoms_spec (ws := wsX3_kin) B.pre
  have hown : s9.vm.findClass RX3 = some m9.cls := findClass_of_methodNamed B.named
  have hlocks := B.notSynchronized
  have hA : ∀ a ∈ zLM q, (fun a => a ∈ zLM q) a := fun _ h => h
  have hin3 : ∀ w ∈ u_ws RX3 TX3 12, w ∈ wsX3_kin := by decide +kernel
  have hl := lv_entry ([.ref (q 0), .int (zI p), .int (zI g)]) (n := 5) (Nat.le_of_ble_eq_true rfl)
  have hE : entryFrame m9 ag9 5 = F0 m9 0 ((lg_sl ([.ref (q 0), .int (zI p), .int (zI g)]) ++ List.replicate (5 - (lg_sl ([.ref (q 0), .int (zI p), .int (zI g)])).length) Slot.unset).toArray) [] := by rw [hav]; exact lg_entry_eq m9 _ _
  obtain ⟨Q0, hQ0⟩ : ∃ Q0, Q0 = MQ below (zQ D (wM cI cZ q pa sp al co da mo (goF pa sp n st p) mr th n td wn) (some (.int (zI (smF (kinF al (goF pa sp n st p) g) n)))) (zLM q)) ag9 s9 0 0 (fun a => a ∈ zLM q) := ⟨_, rfl⟩
  show W p0 l e9 ({ frames := 2, cells := 0, slots := 0, locals := 46 }) s9 m9 ag9 below meth c9 s9.heap [] 0 0 (MQ below (zQ D (wM cI cZ q pa sp al co da mo (goF pa sp n st p) mr th n td wn) (some (.int (zI (smF (kinF al (goF pa sp n st p) g) n)))) (zLM q)) ag9 s9 0 0 (fun a => a ∈ zLM q)) _
  rw [hE, ← hQ0]
  have hS : va_S (fun a => a ∈ zLM q) s9.heap s9.heap [] := va_S.rf
  generalize hH0 : s9.heap = H at hP ⊢
  have hS : va_S (fun a => a ∈ zLM q) s9.heap H [] := by rw [hH0] at hS ⊢; exact hS
  generalize (lg_sl ([.ref (q 0), .int (zI p), .int (zI g)]) ++ List.replicate (5 - (lg_sl ([.ref (q 0), .int (zI p), .int (zI g)])).length) Slot.unset).toArray = ls at hl ⊢
  have hl : lv_has ls 5 [(0, .ref (q 0)), (1, .int (zI p)), (2, .int (zI g))] := hl
  refine lv_aload_n hx hb dX3_kin_0 rfl (lv_at hl 0 rfl) ?_
  refine lv_iload_n hx hb dX3_kin_1 rfl (lv_at hl 1 rfl) ?_
  refine zcallV (ci := 3) (q0 := 0) (cq := (RX3, TX3, 12)) (As := [.int (zI p)]) (rest := []) ⟨hx, hb, hml, hown, hts⟩ hK (kX3_go l D cI cZ q hN pa sp al co da mo st mr th n td wn hpa hsp hst hn p (by omega)) (cwV 1 hts gX3_kin_X3_go rfl rfl rfl (by decide +kernel) ⟨Nat.le_of_ble_eq_true rfl, Nat.le_of_ble_eq_true rfl⟩) hP hS hA rfl rfl rfl hl.1 rfl (Nat.le_of_ble_eq_true rfl) dX3_kin_2 ⟨Nat.zero_le _, Nat.zero_le _⟩ (fun H locs hP hS _ _ => ?_)
  have g_1 : ∀ j : Int, -1 ≤ (goF pa sp n st p) j ∧ (goF pa sp n st p) j ≤ 4 := goF_bd hst pa sp n p
  refine W.eq (g2 := F0 m9 5 ls []) rfl ?_
  refine zr_iconst hx hb dX3_kin_5 ?_
  refine lv_istore_n (lv' := [(3, .int (zI 0)), (0, .ref (q 0)), (1, .int (zI p)), (2, .int (zI g))]) hx hb dX3_kin_6 rfl hl (by decide) rfl (fun ls hl => ?_)
  refine zr_iconst hx hb dX3_kin_7 ?_
  refine lv_istore (lv' := [(4, .int (zI 0)), (3, .int (zI 0)), (0, .ref (q 0)), (1, .int (zI p)), (2, .int (zI g))]) hx hb dX3_kin_8 hl (by decide) rfl (fun ls hl => ?_)
  have L10_2 : ∀ (kf i : Nat), i ≤ n → n - i < kf → ∀ (H : Heap) (locs : List Loc) (ls : Array Slot), va_P D vwCl (wM cI cZ q pa sp al co da mo (goF pa sp n st p) mr th n td wn) H → va_S (fun a => a ∈ zLM q) s9.heap H locs → lv_has ls 5 [(4, .int (zI (i : Int))), (3, .int (zI (smF (kinF al (goF pa sp n st p) g) i))), (0, .ref (q 0)), (1, .int (zI p)), (2, .int (zI g))] → W p0 l e9 ({ frames := 2, cells := 0, slots := 0, locals := 46 }) s9 m9 ag9 below meth c9 H locs 0 0 Q0 (F0 m9 10 ls []) := by
    intro kf
    induction kf with
    | zero => intro i h1 h2; omega
    | succ kf ih =>
      intro i hi_i hk_i H locs ls hP hS hl
      have ih_i := ih
      clear ih
      refine lv_iload hx hb dX3_kin_10 (lv_at hl 0 rfl) ?_
      refine lv_aload_n hx hb dX3_kin_12 rfl (lv_at hl 2 rfl) ?_
      refine va_get (D := D) (ci := 3) (v := .int (zI (n : Int))) (C := RX3) (T := TX3) (N := 12) hx hb hts hin3 hown hK hP 0 rfl rfl 1 (by decide) (hts (.fieldLink RX3 39 "MourningRibbonsModel" "people" "I") (by decide +kernel)) (fun _ h9 => h9) rfl dX3_kin_13 ?_
      refine zr_icmp_ge (tgt := 54) hx hb dX3_kin_16 (by decide) ⟨by omega, by omega⟩ ⟨by omega, by omega⟩ (fun c_3 => ?_) (fun c_3 => ?_)
      · have c_3 := c_3
        have x_4 : i = n := by omega
        try rw [x_4] at hP
        try rw [x_4] at hl
        refine lv_iload_n hx hb dX3_kin_54 rfl (lv_at hl 1 rfl) ?_
        rw [hQ0]
        exact zret_i hx hb hr hlocks (rfl) hP hS dX3_kin_55
      · have c_3 := c_3
        refine lv_iload_n hx hb dX3_kin_19 rfl (lv_at hl 1 rfl) ?_
        refine lv_aload_n hx hb dX3_kin_20 rfl (lv_at hl 2 rfl) ?_
        refine va_get (D := D) (ci := 3) (v := .ref (q 3)) (C := RX3) (T := TX3) (N := 12) hx hb hts hin3 hown hK hP 0 rfl rfl 4 (by decide) (hts (.fieldLink RX3 16 "MourningRibbonsModel" "isAlive" "[Z") (by decide +kernel)) (fun _ h9 => h9) rfl dX3_kin_21 ?_
        refine lv_iload hx hb dX3_kin_24 (lv_at hl 0 rfl) ?_
        refine zr_zald (f := al) (n := 16) hx hb hK hP 3 1 rfl rfl (by decide) (i := (i : Int)) (by omega) (by omega) dX3_kin_26 ?_
        have b_5 := hal (i : Int)
        refine zr_if_eq (tgt := 45) hx hb dX3_kin_27 (by decide) ⟨by omega, by omega⟩ (fun c_6 => ?_) (fun c_6 => ?_)
        · have c_6 := c_6
          refine zr_iconst hx hb dX3_kin_45 ?_
          refine zr_iadd (v := smF (kinF al (goF pa sp n st p) g) i) hx hb (by omega) dX3_kin_46 ?_
          refine lv_istore_n (lv' := [(3, .int (zI (smF (kinF al (goF pa sp n st p) g) i))), (4, .int (zI (i : Int))), (0, .ref (q 0)), (1, .int (zI p)), (2, .int (zI g))]) hx hb dX3_kin_47 rfl hl (by decide) rfl (fun ls hl => ?_)
          refine zr_iinc (v := (i : Int) + 1) (lv' := [(4, .int (zI ((i : Int) + 1))), (3, .int (zI (smF (kinF al (goF pa sp n st p) g) i))), (0, .ref (q 0)), (1, .int (zI p)), (2, .int (zI g))]) hx hb dX3_kin_48 hl (k := 1) rfl rfl (by decide) rfl (fun ls hl => ?_)
          refine lv_goto (tgt := 10) hx hb dX3_kin_51 (by decide) ?_
          have hl := lv_sub hl (l' := [(4, .int (zI ((i : Int) + 1))), (3, .int (zI (smF (kinF al (goF pa sp n st p) g) i))), (0, .ref (q 0)), (1, .int (zI p)), (2, .int (zI g))]) [0, 1, 2, 3, 4] rfl
          have e_7 : ((((i + 1) : Nat) : Int) : Int) = (i : Int) + 1 := by omega
          have e_8 : (smF (kinF al (goF pa sp n st p) g) (i + 1) : Int) = smF (kinF al (goF pa sp n st p) g) i := by rw [smF_s]; unfold kinF; split <;> omega
          have hl : lv_has ls 5 [(4, .int (zI (((i + 1) : Nat) : Int))), (3, .int (zI (smF (kinF al (goF pa sp n st p) g) (i + 1)))), (0, .ref (q 0)), (1, .int (zI p)), (2, .int (zI g))] := by rw [e_7, e_8]; exact hl
          exact ih_i (i + 1) (by omega) (by omega) _ _ _ hP hS hl
        · have c_6 := c_6
          refine lv_aload_n hx hb dX3_kin_30 rfl (lv_at hl 2 rfl) ?_
          refine va_get (D := D) (ci := 3) (v := .ref (q 7)) (C := RX3) (T := TX3) (N := 12) hx hb hts hin3 hown hK hP 0 rfl rfl 10 (by decide) (hts (.fieldLink RX3 29 "MourningRibbonsModel" "steps" "[I") (by decide +kernel)) (fun _ h9 => h9) rfl dX3_kin_31 ?_
          refine lv_iload hx hb dX3_kin_34 (lv_at hl 0 rfl) ?_
          refine zr_iald (f := goF pa sp n st p) (n := 16) hx hb hK hP 7 0 rfl rfl (by decide) (i := (i : Int)) (by omega) (by omega) dX3_kin_36 ?_
          have b_9 := g_1 (i : Int)
          refine lv_iload_n hx hb dX3_kin_37 rfl (lv_at hl 4 rfl) ?_
          refine zr_icmp_ne (tgt := 45) hx hb dX3_kin_38 (by decide) ⟨by omega, by omega⟩ ⟨by omega, by omega⟩ (fun c_10 => ?_) (fun c_10 => ?_)
          · have c_10 := c_10
            refine zr_iconst hx hb dX3_kin_45 ?_
            refine zr_iadd (v := smF (kinF al (goF pa sp n st p) g) i) hx hb (by omega) dX3_kin_46 ?_
            refine lv_istore_n (lv' := [(3, .int (zI (smF (kinF al (goF pa sp n st p) g) i))), (4, .int (zI (i : Int))), (0, .ref (q 0)), (1, .int (zI p)), (2, .int (zI g))]) hx hb dX3_kin_47 rfl hl (by decide) rfl (fun ls hl => ?_)
            refine zr_iinc (v := (i : Int) + 1) (lv' := [(4, .int (zI ((i : Int) + 1))), (3, .int (zI (smF (kinF al (goF pa sp n st p) g) i))), (0, .ref (q 0)), (1, .int (zI p)), (2, .int (zI g))]) hx hb dX3_kin_48 hl (k := 1) rfl rfl (by decide) rfl (fun ls hl => ?_)
            refine lv_goto (tgt := 10) hx hb dX3_kin_51 (by decide) ?_
            have hl := lv_sub hl (l' := [(4, .int (zI ((i : Int) + 1))), (3, .int (zI (smF (kinF al (goF pa sp n st p) g) i))), (0, .ref (q 0)), (1, .int (zI p)), (2, .int (zI g))]) [0, 1, 2, 3, 4] rfl
            have e_11 : ((((i + 1) : Nat) : Int) : Int) = (i : Int) + 1 := by omega
            have e_12 : (smF (kinF al (goF pa sp n st p) g) (i + 1) : Int) = smF (kinF al (goF pa sp n st p) g) i := by rw [smF_s]; unfold kinF; split <;> omega
            have hl : lv_has ls 5 [(4, .int (zI (((i + 1) : Nat) : Int))), (3, .int (zI (smF (kinF al (goF pa sp n st p) g) (i + 1)))), (0, .ref (q 0)), (1, .int (zI p)), (2, .int (zI g))] := by rw [e_11, e_12]; exact hl
            exact ih_i (i + 1) (by omega) (by omega) _ _ _ hP hS hl
          · have c_10 := c_10
            refine zr_iconst hx hb dX3_kin_41 ?_
            refine lv_goto (tgt := 46) hx hb dX3_kin_42 (by decide) ?_
            refine zr_iadd (v := (smF (kinF al (goF pa sp n st p) g) i) + 1) hx hb rfl dX3_kin_46 ?_
            refine lv_istore_n (lv' := [(3, .int (zI ((smF (kinF al (goF pa sp n st p) g) i) + 1))), (4, .int (zI (i : Int))), (0, .ref (q 0)), (1, .int (zI p)), (2, .int (zI g))]) hx hb dX3_kin_47 rfl hl (by decide) rfl (fun ls hl => ?_)
            refine zr_iinc (v := (i : Int) + 1) (lv' := [(4, .int (zI ((i : Int) + 1))), (3, .int (zI ((smF (kinF al (goF pa sp n st p) g) i) + 1))), (0, .ref (q 0)), (1, .int (zI p)), (2, .int (zI g))]) hx hb dX3_kin_48 hl (k := 1) rfl rfl (by decide) rfl (fun ls hl => ?_)
            refine lv_goto (tgt := 10) hx hb dX3_kin_51 (by decide) ?_
            have hl := lv_sub hl (l' := [(4, .int (zI ((i : Int) + 1))), (3, .int (zI ((smF (kinF al (goF pa sp n st p) g) i) + 1))), (0, .ref (q 0)), (1, .int (zI p)), (2, .int (zI g))]) [0, 1, 2, 3, 4] rfl
            have e_13 : ((((i + 1) : Nat) : Int) : Int) = (i : Int) + 1 := by omega
            have e_14 : (smF (kinF al (goF pa sp n st p) g) (i + 1) : Int) = (smF (kinF al (goF pa sp n st p) g) i) + 1 := by rw [smF_s]; unfold kinF; split <;> omega
            have hl : lv_has ls 5 [(4, .int (zI (((i + 1) : Nat) : Int))), (3, .int (zI (smF (kinF al (goF pa sp n st p) g) (i + 1)))), (0, .ref (q 0)), (1, .int (zI p)), (2, .int (zI g))] := by rw [e_13, e_14]; exact hl
            exact ih_i (i + 1) (by omega) (by omega) _ _ _ hP hS hl
  have hl := lv_sub hl (l' := [(4, .int (zI 0)), (3, .int (zI 0)), (0, .ref (q 0)), (1, .int (zI p)), (2, .int (zI g))]) [0, 1, 2, 3, 4] rfl
  have e_15 : (smF (kinF al (goF pa sp n st p) g) 0 : Int) = 0 := rfl
  have hl : lv_has ls 5 [(4, .int (zI 0)), (3, .int (zI (smF (kinF al (goF pa sp n st p) g) 0))), (0, .ref (q 0)), (1, .int (zI p)), (2, .int (zI g))] := by rw [e_15]; exact hl
  exact L10_2 (n + 1) 0 (Nat.zero_le _) (by omega) _ _ _ hP hS hl
set_option maxHeartbeats 4000000 in
set_option maxRecDepth 100000 in
theorem kX3_mournings (l : Launch) (D : va_G) (cI cZ : ClassId) (q : Nat → Nat) (hN : (zLM q).Nodup) (pa : Int → Int) (sp : Int → Int) (al : Int → Int) (co : Int → Int) (da : Int → Int) (mo : Int → Int) (st : Int → Int) (mr : Int → Int) (th : Int) (n : Nat) (td : Int) (wn : Int) (hn : n ≤ 16) (hmo : ∀ j : Int, -1 ≤ mo j ∧ mo j ≤ 1000000) (htd : 0 ≤ td ∧ td ≤ 1000000) (p : Int) (h1 : 0 ≤ p ∧ p < 16) : zM l yX3_mournings wsX3_mournings ({ frames := 2, cells := 0, slots := 0, locals := 53 }) D [(cI, .int), (cZ, .boolean)] [.ref (q 0), .int (zI p)] (wM cI cZ q pa sp al co da mo st mr th n td wn) (wM cI cZ q pa sp al co da mo st mr th n td wn) (some (.int (zI (smF (gtF (lM mo td p)) n)))) (zLM q) := by
  refine Met.ofW (cc := cX3_mournings) (maxL := 4) (ret := (some .int)) (by decide) rfl ?_
  intro p0 e9 s9 m9 ag9 below meth c9 s₁ B hml hv
  obtain ⟨hav, hP, hK⟩ := hv
  have hx := B.exec
  have hb := B.bytes
  have hr := B.returns
  have hts := atoms_spec (ws := wsX3_mournings) B.pre
  have hown : s9.vm.findClass RX3 = some m9.cls := findClass_of_methodNamed B.named
  have hlocks := B.notSynchronized
  have hA : ∀ a ∈ zLM q, (fun a => a ∈ zLM q) a := fun _ h => h
  have hin3 : ∀ w ∈ u_ws RX3 TX3 12, w ∈ wsX3_mournings := by decide +kernel
  have hl := lv_entry ([.ref (q 0), .int (zI p)]) (n := 4) (Nat.le_of_ble_eq_true rfl)
  have hE : entryFrame m9 ag9 4 = F0 m9 0 ((lg_sl ([.ref (q 0), .int (zI p)]) ++ List.replicate (4 - (lg_sl ([.ref (q 0), .int (zI p)])).length) Slot.unset).toArray) [] := by rw [hav]; exact lg_entry_eq m9 _ _
  obtain ⟨Q0, hQ0⟩ : ∃ Q0, Q0 = MQ below (zQ D (wM cI cZ q pa sp al co da mo st mr th n td wn) (some (.int (zI (smF (gtF (lM mo td p)) n)))) (zLM q)) ag9 s9 0 0 (fun a => a ∈ zLM q) := ⟨_, rfl⟩
  show W p0 l e9 ({ frames := 2, cells := 0, slots := 0, locals := 53 }) s9 m9 ag9 below meth c9 s9.heap [] 0 0 (MQ below (zQ D (wM cI cZ q pa sp al co da mo st mr th n td wn) (some (.int (zI (smF (gtF (lM mo td p)) n)))) (zLM q)) ag9 s9 0 0 (fun a => a ∈ zLM q)) _
  rw [hE, ← hQ0]
  have hS : va_S (fun a => a ∈ zLM q) s9.heap s9.heap [] := va_S.rf
  generalize hH0 : s9.heap = H at hP ⊢
  have hS : va_S (fun a => a ∈ zLM q) s9.heap H [] := by rw [hH0] at hS ⊢; exact hS
  generalize (lg_sl ([.ref (q 0), .int (zI p)]) ++ List.replicate (4 - (lg_sl ([.ref (q 0), .int (zI p)])).length) Slot.unset).toArray = ls at hl ⊢
  have hl : lv_has ls 4 [(0, .ref (q 0)), (1, .int (zI p))] := hl
  refine zr_iconst hx hb dX3_mournings_0 ?_
  refine lv_istore_n (lv' := [(2, .int (zI 0)), (0, .ref (q 0)), (1, .int (zI p))]) hx hb dX3_mournings_1 rfl hl (by decide) rfl (fun ls hl => ?_)
  refine zr_iconst hx hb dX3_mournings_2 ?_
  refine lv_istore_n (lv' := [(3, .int (zI 0)), (2, .int (zI 0)), (0, .ref (q 0)), (1, .int (zI p))]) hx hb dX3_mournings_3 rfl hl (by decide) rfl (fun ls hl => ?_)
  have L4_1 : ∀ (kf i : Nat), i ≤ n → n - i < kf → ∀ (H : Heap) (locs : List Loc) (ls : Array Slot), va_P D vwCl (wM cI cZ q pa sp al co da mo st mr th n td wn) H → va_S (fun a => a ∈ zLM q) s9.heap H locs → lv_has ls 4 [(3, .int (zI (i : Int))), (2, .int (zI (smF (gtF (lM mo td p)) i))), (0, .ref (q 0)), (1, .int (zI p))] → W p0 l e9 ({ frames := 2, cells := 0, slots := 0, locals := 53 }) s9 m9 ag9 below meth c9 H locs 0 0 Q0 (F0 m9 4 ls []) := by
    intro kf
    induction kf with
    | zero => intro i h1 h2; omega
    | succ kf ih =>
      intro i hi_i hk_i H locs ls hP hS hl
      have ih_i := ih
      clear ih
      refine lv_iload_n hx hb dX3_mournings_4 rfl (lv_at hl 0 rfl) ?_
      refine lv_aload_n hx hb dX3_mournings_5 rfl (lv_at hl 2 rfl) ?_
      refine va_get (D := D) (ci := 3) (v := .int (zI (n : Int))) (C := RX3) (T := TX3) (N := 12) hx hb hts hin3 hown hK hP 0 rfl rfl 1 (by decide) (hts (.fieldLink RX3 39 "MourningRibbonsModel" "people" "I") (by decide +kernel)) (fun _ h9 => h9) rfl dX3_mournings_6 ?_
      refine zr_icmp_ge (tgt := 35) hx hb dX3_mournings_9 (by decide) ⟨by omega, by omega⟩ ⟨by omega, by omega⟩ (fun c_2 => ?_) (fun c_2 => ?_)
      · have c_2 := c_2
        have x_3 : i = n := by omega
        try rw [x_3] at hP
        try rw [x_3] at hl
        refine lv_iload_n hx hb dX3_mournings_35 rfl (lv_at hl 1 rfl) ?_
        rw [hQ0]
        exact zret_i hx hb hr hlocks (rfl) hP hS dX3_mournings_36
      · have c_2 := c_2
        refine lv_iload_n hx hb dX3_mournings_12 rfl (lv_at hl 1 rfl) ?_
        refine lv_aload_n hx hb dX3_mournings_13 rfl (lv_at hl 2 rfl) ?_
        refine lv_iload_n hx hb dX3_mournings_14 rfl (lv_at hl 3 rfl) ?_
        refine lv_iload_n hx hb dX3_mournings_15 rfl (lv_at hl 0 rfl) ?_
        refine zcallV (ci := 3) (q0 := 0) (cq := (RX3, TX3, 12)) (As := [.int (zI p), .int (zI (i : Int))]) (rest := [.int (zI (smF (gtF (lM mo td p)) i))]) ⟨hx, hb, hml, hown, hts⟩ hK (kX3_left l D cI cZ q hN pa sp al co da mo st mr th n td wn hmo htd p (i : Int) (by omega) (by omega)) (cwV 2 hts gX3_mournings_X3_left rfl rfl rfl (by decide +kernel) ⟨Nat.le_of_ble_eq_true rfl, Nat.le_of_ble_eq_true rfl⟩) hP hS hA rfl rfl rfl hl.1 rfl (Nat.le_of_ble_eq_true rfl) dX3_mournings_16 ⟨Nat.zero_le _, Nat.zero_le _⟩ (fun H locs hP hS _ _ => ?_)
        refine W.eq (g2 := F0 m9 19 ls [.int (zI (lM mo td p (i : Int))), .int (zI (smF (gtF (lM mo td p)) i))]) rfl ?_
        have f_4 := lM_bd hmo htd p (i : Int)
        refine zr_if_le (tgt := 26) hx hb dX3_mournings_19 (by decide) ⟨by omega, by omega⟩ (fun c_5 => ?_) (fun c_5 => ?_)
        · have c_5 := c_5
          refine zr_iconst hx hb dX3_mournings_26 ?_
          refine zr_iadd (v := smF (gtF (lM mo td p)) i) hx hb (by omega) dX3_mournings_27 ?_
          refine lv_istore_n (lv' := [(2, .int (zI (smF (gtF (lM mo td p)) i))), (3, .int (zI (i : Int))), (0, .ref (q 0)), (1, .int (zI p))]) hx hb dX3_mournings_28 rfl hl (by decide) rfl (fun ls hl => ?_)
          refine zr_iinc (v := (i : Int) + 1) (lv' := [(3, .int (zI ((i : Int) + 1))), (2, .int (zI (smF (gtF (lM mo td p)) i))), (0, .ref (q 0)), (1, .int (zI p))]) hx hb dX3_mournings_29 hl (k := 1) rfl rfl (by decide) rfl (fun ls hl => ?_)
          refine lv_goto (tgt := 4) hx hb dX3_mournings_32 (by decide) ?_
          have hl := lv_sub hl (l' := [(3, .int (zI ((i : Int) + 1))), (2, .int (zI (smF (gtF (lM mo td p)) i))), (0, .ref (q 0)), (1, .int (zI p))]) [0, 1, 2, 3] rfl
          have e_6 : ((((i + 1) : Nat) : Int) : Int) = (i : Int) + 1 := by omega
          have e_7 : (smF (gtF (lM mo td p)) (i + 1) : Int) = smF (gtF (lM mo td p)) i := by rw [smF_s]; unfold gtF; split <;> omega
          have hl : lv_has ls 4 [(3, .int (zI (((i + 1) : Nat) : Int))), (2, .int (zI (smF (gtF (lM mo td p)) (i + 1)))), (0, .ref (q 0)), (1, .int (zI p))] := by rw [e_6, e_7]; exact hl
          exact ih_i (i + 1) (by omega) (by omega) _ _ _ hP hS hl
        · have c_5 := c_5
          refine zr_iconst hx hb dX3_mournings_22 ?_
          refine lv_goto (tgt := 27) hx hb dX3_mournings_23 (by decide) ?_
          refine zr_iadd (v := (smF (gtF (lM mo td p)) i) + 1) hx hb rfl dX3_mournings_27 ?_
          refine lv_istore_n (lv' := [(2, .int (zI ((smF (gtF (lM mo td p)) i) + 1))), (3, .int (zI (i : Int))), (0, .ref (q 0)), (1, .int (zI p))]) hx hb dX3_mournings_28 rfl hl (by decide) rfl (fun ls hl => ?_)
          refine zr_iinc (v := (i : Int) + 1) (lv' := [(3, .int (zI ((i : Int) + 1))), (2, .int (zI ((smF (gtF (lM mo td p)) i) + 1))), (0, .ref (q 0)), (1, .int (zI p))]) hx hb dX3_mournings_29 hl (k := 1) rfl rfl (by decide) rfl (fun ls hl => ?_)
          refine lv_goto (tgt := 4) hx hb dX3_mournings_32 (by decide) ?_
          have hl := lv_sub hl (l' := [(3, .int (zI ((i : Int) + 1))), (2, .int (zI ((smF (gtF (lM mo td p)) i) + 1))), (0, .ref (q 0)), (1, .int (zI p))]) [0, 1, 2, 3] rfl
          have e_8 : ((((i + 1) : Nat) : Int) : Int) = (i : Int) + 1 := by omega
          have e_9 : (smF (gtF (lM mo td p)) (i + 1) : Int) = (smF (gtF (lM mo td p)) i) + 1 := by rw [smF_s]; unfold gtF; split <;> omega
          have hl : lv_has ls 4 [(3, .int (zI (((i + 1) : Nat) : Int))), (2, .int (zI (smF (gtF (lM mo td p)) (i + 1)))), (0, .ref (q 0)), (1, .int (zI p))] := by rw [e_8, e_9]; exact hl
          exact ih_i (i + 1) (by omega) (by omega) _ _ _ hP hS hl
  have hl := lv_sub hl (l' := [(3, .int (zI 0)), (2, .int (zI 0)), (0, .ref (q 0)), (1, .int (zI p))]) [0, 1, 2, 3] rfl
  have e_10 : (smF (gtF (lM mo td p)) 0 : Int) = 0 := rfl
  have hl : lv_has ls 4 [(3, .int (zI 0)), (2, .int (zI (smF (gtF (lM mo td p)) 0))), (0, .ref (q 0)), (1, .int (zI p))] := by rw [e_10]; exact hl
  exact L4_1 (n + 1) 0 (Nat.zero_le _) (by omega) _ _ _ hP hS hl
set_option maxHeartbeats 4000000 in
set_option maxRecDepth 100000 in
theorem kX3_most (l : Launch) (D : va_G) (cI cZ : ClassId) (q : Nat → Nat) (hN : (zLM q).Nodup) (pa : Int → Int) (sp : Int → Int) (al : Int → Int) (co : Int → Int) (da : Int → Int) (mo : Int → Int) (st : Int → Int) (mr : Int → Int) (th : Int) (n : Nat) (td : Int) (wn : Int) (hn : n ≤ 16) (hmo : ∀ j : Int, -1 ≤ mo j ∧ mo j ≤ 1000000) (htd : 0 ≤ td ∧ td ≤ 1000000) (p : Int) (h1 : 0 ≤ p ∧ p < 16) : zM l yX3_most wsX3_most ({ frames := 2, cells := 0, slots := 0, locals := 53 }) D [(cI, .int), (cZ, .boolean)] [.ref (q 0), .int (zI p)] (wM cI cZ q pa sp al co da mo st mr th n td wn) (wM cI cZ q pa sp al co da mo st mr th n td wn) (some (.int (zI (mxF (lM mo td p) n)))) (zLM q) := by
  refine Met.ofW (cc := cX3_most) (maxL := 4) (ret := (some .int)) (by decide) rfl ?_
  intro p0 e9 s9 m9 ag9 below meth c9 s₁ B hml hv
  obtain ⟨hav, hP, hK⟩ := hv
  have hx := B.exec
  have hb := B.bytes
  have hr := B.returns
  have hts := atoms_spec (ws := wsX3_most) B.pre
  have hown : s9.vm.findClass RX3 = some m9.cls := findClass_of_methodNamed B.named
  have hlocks := B.notSynchronized
  have hA : ∀ a ∈ zLM q, (fun a => a ∈ zLM q) a := fun _ h => h
  have hin3 : ∀ w ∈ u_ws RX3 TX3 12, w ∈ wsX3_most := by decide +kernel
  have hl := lv_entry ([.ref (q 0), .int (zI p)]) (n := 4) (Nat.le_of_ble_eq_true rfl)
  have hE : entryFrame m9 ag9 4 = F0 m9 0 ((lg_sl ([.ref (q 0), .int (zI p)]) ++ List.replicate (4 - (lg_sl ([.ref (q 0), .int (zI p)])).length) Slot.unset).toArray) [] := by rw [hav]; exact lg_entry_eq m9 _ _
  obtain ⟨Q0, hQ0⟩ : ∃ Q0, Q0 = MQ below (zQ D (wM cI cZ q pa sp al co da mo st mr th n td wn) (some (.int (zI (mxF (lM mo td p) n)))) (zLM q)) ag9 s9 0 0 (fun a => a ∈ zLM q) := ⟨_, rfl⟩
  show W p0 l e9 ({ frames := 2, cells := 0, slots := 0, locals := 53 }) s9 m9 ag9 below meth c9 s9.heap [] 0 0 (MQ below (zQ D (wM cI cZ q pa sp al co da mo st mr th n td wn) (some (.int (zI (mxF (lM mo td p) n)))) (zLM q)) ag9 s9 0 0 (fun a => a ∈ zLM q)) _
  rw [hE, ← hQ0]
  have hS : va_S (fun a => a ∈ zLM q) s9.heap s9.heap [] := va_S.rf
  generalize hH0 : s9.heap = H at hP ⊢
  have hS : va_S (fun a => a ∈ zLM q) s9.heap H [] := by rw [hH0] at hS ⊢; exact hS
  generalize (lg_sl ([.ref (q 0), .int (zI p)]) ++ List.replicate (4 - (lg_sl ([.ref (q 0), .int (zI p)])).length) Slot.unset).toArray = ls at hl ⊢
  have hl : lv_has ls 4 [(0, .ref (q 0)), (1, .int (zI p))] := hl
  refine zr_iconst hx hb dX3_most_0 ?_
  refine lv_istore_n (lv' := [(2, .int (zI 0)), (0, .ref (q 0)), (1, .int (zI p))]) hx hb dX3_most_1 rfl hl (by decide) rfl (fun ls hl => ?_)
  refine zr_iconst hx hb dX3_most_2 ?_
  refine lv_istore_n (lv' := [(3, .int (zI 0)), (2, .int (zI 0)), (0, .ref (q 0)), (1, .int (zI p))]) hx hb dX3_most_3 rfl hl (by decide) rfl (fun ls hl => ?_)
  have L4_1 : ∀ (kf i : Nat), i ≤ n → n - i < kf → ∀ (H : Heap) (locs : List Loc) (ls : Array Slot), va_P D vwCl (wM cI cZ q pa sp al co da mo st mr th n td wn) H → va_S (fun a => a ∈ zLM q) s9.heap H locs → lv_has ls 4 [(3, .int (zI (i : Int))), (2, .int (zI (mxF (lM mo td p) i))), (0, .ref (q 0)), (1, .int (zI p))] → W p0 l e9 ({ frames := 2, cells := 0, slots := 0, locals := 53 }) s9 m9 ag9 below meth c9 H locs 0 0 Q0 (F0 m9 4 ls []) := by
    intro kf
    induction kf with
    | zero => intro i h1 h2; omega
    | succ kf ih =>
      intro i hi_i hk_i H locs ls hP hS hl
      have ih_i := ih
      clear ih
      have hm := mxF_bd (f := lM mo td p) (k := i) (B := 4000000) (by decide) (fun j => (lM_bd hmo htd p j).2)
      refine lv_iload_n hx hb dX3_most_4 rfl (lv_at hl 0 rfl) ?_
      refine lv_aload_n hx hb dX3_most_5 rfl (lv_at hl 2 rfl) ?_
      refine va_get (D := D) (ci := 3) (v := .int (zI (n : Int))) (C := RX3) (T := TX3) (N := 12) hx hb hts hin3 hown hK hP 0 rfl rfl 1 (by decide) (hts (.fieldLink RX3 39 "MourningRibbonsModel" "people" "I") (by decide +kernel)) (fun _ h9 => h9) rfl dX3_most_6 ?_
      refine zr_icmp_ge (tgt := 29) hx hb dX3_most_9 (by decide) ⟨by omega, by omega⟩ ⟨by omega, by omega⟩ (fun c_2 => ?_) (fun c_2 => ?_)
      · have c_2 := c_2
        have x_3 : i = n := by omega
        try rw [x_3] at hP
        try rw [x_3] at hl
        refine lv_iload_n hx hb dX3_most_29 rfl (lv_at hl 1 rfl) ?_
        rw [hQ0]
        exact zret_i hx hb hr hlocks (rfl) hP hS dX3_most_30
      · have c_2 := c_2
        refine lv_iload_n hx hb dX3_most_12 rfl (lv_at hl 1 rfl) ?_
        refine lv_aload_n hx hb dX3_most_13 rfl (lv_at hl 2 rfl) ?_
        refine lv_iload_n hx hb dX3_most_14 rfl (lv_at hl 3 rfl) ?_
        refine lv_iload_n hx hb dX3_most_15 rfl (lv_at hl 0 rfl) ?_
        refine zcallV (ci := 3) (q0 := 0) (cq := (RX3, TX3, 12)) (As := [.int (zI p), .int (zI (i : Int))]) (rest := [.int (zI (mxF (lM mo td p) i))]) ⟨hx, hb, hml, hown, hts⟩ hK (kX3_left l D cI cZ q hN pa sp al co da mo st mr th n td wn hmo htd p (i : Int) (by omega) (by omega)) (cwV 2 hts gX3_most_X3_left rfl rfl rfl (by decide +kernel) ⟨Nat.le_of_ble_eq_true rfl, Nat.le_of_ble_eq_true rfl⟩) hP hS hA rfl rfl rfl hl.1 rfl (Nat.le_of_ble_eq_true rfl) dX3_most_16 ⟨Nat.zero_le _, Nat.zero_le _⟩ (fun H locs hP hS _ _ => ?_)
        refine W.eq (g2 := F0 m9 19 ls [.int (zI (lM mo td p (i : Int))), .int (zI (mxF (lM mo td p) i))]) rfl ?_
        have f_4 := lM_bd hmo htd p (i : Int)
        refine zr_mmax hx hb (by rw [hml, hl.1]) hown (hts (.methodLink RX3 54 Lib.Math.max.name) (by decide +kernel)) (hts (.static Lib.Math.max.name) (by decide +kernel)) (hts (.initialized "java/lang/Math") (by decide +kernel)) (hts (.code Lib.Math.max.name Lib.Math.max.code 2 (some .int)) (by decide +kernel)) (Nat.le_of_ble_eq_true rfl) (Nat.le_of_ble_eq_true rfl) (Nat.zero_le _) (Nat.zero_le _) ⟨by omega, by omega⟩ ⟨by omega, by omega⟩ dX3_most_19 ?_
        refine lv_istore_n (lv' := [(2, .int (zI (max (mxF (lM mo td p) i) (lM mo td p (i : Int))))), (3, .int (zI (i : Int))), (0, .ref (q 0)), (1, .int (zI p))]) hx hb dX3_most_22 rfl hl (by decide) rfl (fun ls hl => ?_)
        refine zr_iinc (v := (i : Int) + 1) (lv' := [(3, .int (zI ((i : Int) + 1))), (2, .int (zI (max (mxF (lM mo td p) i) (lM mo td p (i : Int))))), (0, .ref (q 0)), (1, .int (zI p))]) hx hb dX3_most_23 hl (k := 1) rfl rfl (by decide) rfl (fun ls hl => ?_)
        refine lv_goto (tgt := 4) hx hb dX3_most_26 (by decide) ?_
        have hl := lv_sub hl (l' := [(3, .int (zI ((i : Int) + 1))), (2, .int (zI (max (mxF (lM mo td p) i) (lM mo td p (i : Int))))), (0, .ref (q 0)), (1, .int (zI p))]) [0, 1, 2, 3] rfl
        have e_5 : ((((i + 1) : Nat) : Int) : Int) = (i : Int) + 1 := by omega
        have e_6 : (mxF (lM mo td p) (i + 1) : Int) = max (mxF (lM mo td p) i) (lM mo td p (i : Int)) := rfl
        have hl : lv_has ls 4 [(3, .int (zI (((i + 1) : Nat) : Int))), (2, .int (zI (mxF (lM mo td p) (i + 1)))), (0, .ref (q 0)), (1, .int (zI p))] := by rw [e_5, e_6]; exact hl
        exact ih_i (i + 1) (by omega) (by omega) _ _ _ hP hS hl
  have hl := lv_sub hl (l' := [(3, .int (zI 0)), (2, .int (zI 0)), (0, .ref (q 0)), (1, .int (zI p))]) [0, 1, 2, 3] rfl
  have e_7 : (mxF (lM mo td p) 0 : Int) = 0 := rfl
  have hl : lv_has ls 4 [(3, .int (zI 0)), (2, .int (zI (mxF (lM mo td p) 0))), (0, .ref (q 0)), (1, .int (zI p))] := by rw [e_7]; exact hl
  exact L4_1 (n + 1) 0 (Nat.zero_le _) (by omega) _ _ _ hP hS hl
set_option maxHeartbeats 4000000 in
set_option maxRecDepth 100000 in
theorem kX3_untilLighter (l : Launch) (D : va_G) (cI cZ : ClassId) (q : Nat → Nat) (hN : (zLM q).Nodup) (pa : Int → Int) (sp : Int → Int) (al : Int → Int) (co : Int → Int) (da : Int → Int) (mo : Int → Int) (st : Int → Int) (mr : Int → Int) (th : Int) (n : Nat) (td : Int) (wn : Int) (hn : n ≤ 16) (hmo : ∀ j : Int, -1 ≤ mo j ∧ mo j ≤ 1000000) (htd : 0 ≤ td ∧ td ≤ 1000000) (p : Int) (h1 : 0 ≤ p ∧ p < 16) (hz : ∀ t : Int, 180 ≤ t → wsM mo n p (td + t) = 0) : zM l yX3_untilLighter wsX3_untilLighter ({ frames := 2, cells := 0, slots := 0, locals := 54 }) D [(cI, .int), (cZ, .boolean)] [.ref (q 0), .int (zI p)] (wM cI cZ q pa sp al co da mo st mr th n td wn) (wM cI cZ q pa sp al co da mo st mr th n td wn) (some (.int (zI (flD (wT mo n td p))))) (zLM q) := by
  refine Met.ofW (cc := cX3_untilLighter) (maxL := 4) (ret := (some .int)) (by decide) rfl ?_
  intro p0 e9 s9 m9 ag9 below meth c9 s₁ B hml hv
  obtain ⟨hav, hP, hK⟩ := hv
  have hx := B.exec
  have hb := B.bytes
  have hr := B.returns
  have hts := atoms_spec (ws := wsX3_untilLighter) B.pre
  have hown : s9.vm.findClass RX3 = some m9.cls := findClass_of_methodNamed B.named
  have hlocks := B.notSynchronized
  have hA : ∀ a ∈ zLM q, (fun a => a ∈ zLM q) a := fun _ h => h
  have hin3 : ∀ w ∈ u_ws RX3 TX3 12, w ∈ wsX3_untilLighter := by decide +kernel
  have hl := lv_entry ([.ref (q 0), .int (zI p)]) (n := 4) (Nat.le_of_ble_eq_true rfl)
  have hE : entryFrame m9 ag9 4 = F0 m9 0 ((lg_sl ([.ref (q 0), .int (zI p)]) ++ List.replicate (4 - (lg_sl ([.ref (q 0), .int (zI p)])).length) Slot.unset).toArray) [] := by rw [hav]; exact lg_entry_eq m9 _ _
  obtain ⟨Q0, hQ0⟩ : ∃ Q0, Q0 = MQ below (zQ D (wM cI cZ q pa sp al co da mo st mr th n td wn) (some (.int (zI (flD (wT mo n td p))))) (zLM q)) ag9 s9 0 0 (fun a => a ∈ zLM q) := ⟨_, rfl⟩
  show W p0 l e9 ({ frames := 2, cells := 0, slots := 0, locals := 54 }) s9 m9 ag9 below meth c9 s9.heap [] 0 0 (MQ below (zQ D (wM cI cZ q pa sp al co da mo st mr th n td wn) (some (.int (zI (flD (wT mo n td p))))) (zLM q)) ag9 s9 0 0 (fun a => a ∈ zLM q)) _
  rw [hE, ← hQ0]
  have hS : va_S (fun a => a ∈ zLM q) s9.heap s9.heap [] := va_S.rf
  generalize hH0 : s9.heap = H at hP ⊢
  have hS : va_S (fun a => a ∈ zLM q) s9.heap H [] := by rw [hH0] at hS ⊢; exact hS
  generalize (lg_sl ([.ref (q 0), .int (zI p)]) ++ List.replicate (4 - (lg_sl ([.ref (q 0), .int (zI p)])).length) Slot.unset).toArray = ls at hl ⊢
  have hl : lv_has ls 4 [(0, .ref (q 0)), (1, .int (zI p))] := hl
  have hw0 : wT mo n td p 0 = wsM mo n p td := by show wsM mo n p (td + 0) = _; rw [Int.add_zero]
  refine lv_aload_n hx hb dX3_untilLighter_0 rfl (lv_at hl 0 rfl) ?_
  refine lv_iload_n hx hb dX3_untilLighter_1 rfl (lv_at hl 1 rfl) ?_
  refine lv_aload_n hx hb dX3_untilLighter_2 rfl (lv_at hl 0 rfl) ?_
  refine va_get (D := D) (ci := 3) (v := .int (zI td)) (C := RX3) (T := TX3) (N := 12) hx hb hts hin3 hown hK hP 0 rfl rfl 8 (by decide) (hts (.fieldLink RX3 95 "MourningRibbonsModel" "today" "I") (by decide +kernel)) (fun _ h9 => h9) rfl dX3_untilLighter_3 ?_
  refine zcallV (ci := 3) (q0 := 0) (cq := (RX3, TX3, 12)) (As := [.int (zI p), .int (zI td)]) (rest := []) ⟨hx, hb, hml, hown, hts⟩ hK (kX3_wears l D cI cZ q hN pa sp al co da mo st mr th n td wn hn hmo p td (by omega) (by omega)) (cwV 2 hts gX3_untilLighter_X3_wears rfl rfl rfl (by decide +kernel) ⟨Nat.le_of_ble_eq_true rfl, Nat.le_of_ble_eq_true rfl⟩) hP hS hA rfl rfl rfl hl.1 rfl (Nat.le_of_ble_eq_true rfl) dX3_untilLighter_6 ⟨Nat.zero_le _, Nat.zero_le _⟩ (fun H locs hP hS _ _ => ?_)
  refine W.eq (g2 := F0 m9 9 ls [.int (zI (wsM mo n p td))]) rfl ?_
  have f_1 := wsM_bd hmo n p td
  refine lv_istore_n (lv' := [(2, .int (zI (wsM mo n p td))), (0, .ref (q 0)), (1, .int (zI p))]) hx hb dX3_untilLighter_9 rfl hl (by decide) rfl (fun ls hl => ?_)
  refine lv_iload_n hx hb dX3_untilLighter_10 rfl (lv_at hl 0 rfl) ?_
  refine zr_if_ne (tgt := 16) hx hb dX3_untilLighter_11 (by decide) ⟨by omega, by omega⟩ (fun c_2 => ?_) (fun c_2 => ?_)
  · have c_2 := c_2
    refine zr_iconst hx hb dX3_untilLighter_16 ?_
    refine lv_istore_n (lv' := [(3, .int (zI 1)), (2, .int (zI (wsM mo n p td))), (0, .ref (q 0)), (1, .int (zI p))]) hx hb dX3_untilLighter_17 rfl hl (by decide) rfl (fun ls hl => ?_)
    have L18_3 : ∀ (kf i : Nat), i ≤ 179 → 179 - i < kf → ∀ (H : Heap) (locs : List Loc) (ls : Array Slot), va_P D vwCl (wM cI cZ q pa sp al co da mo st mr th n td wn) H → va_S (fun a => a ∈ zLM q) s9.heap H locs → lv_has ls 4 [(3, .int (zI ((i : Int) + 1))), (2, .int (zI (wsM mo n p td))), (0, .ref (q 0)), (1, .int (zI p))] → (fst0 (wT mo n td p) (179 - i) ((i : Nat) + 1) = fst0 (wT mo n td p) 179 1) → W p0 l e9 ({ frames := 2, cells := 0, slots := 0, locals := 54 }) s9 m9 ag9 below meth c9 H locs 0 0 Q0 (F0 m9 18 ls []) := by
      intro kf
      induction kf with
      | zero => intro i h1 h2; omega
      | succ kf ih =>
        intro i hi_i hk_i H locs ls hP hS hl hfl
        have ih_i := ih
        clear ih
        have hz9 := hz ((i : Int) + 1)
        have hw9 : wT mo n td p ((i : Int) + 1) = wsM mo n p (td + ((i : Int) + 1)) := rfl
        refine lv_aload_n hx hb dX3_untilLighter_18 rfl (lv_at hl 2 rfl) ?_
        refine lv_iload_n hx hb dX3_untilLighter_19 rfl (lv_at hl 3 rfl) ?_
        refine lv_aload_n hx hb dX3_untilLighter_20 rfl (lv_at hl 2 rfl) ?_
        refine va_get (D := D) (ci := 3) (v := .int (zI td)) (C := RX3) (T := TX3) (N := 12) hx hb hts hin3 hown hK hP 0 rfl rfl 8 (by decide) (hts (.fieldLink RX3 95 "MourningRibbonsModel" "today" "I") (by decide +kernel)) (fun _ h9 => h9) rfl dX3_untilLighter_21 ?_
        refine lv_iload_n hx hb dX3_untilLighter_24 rfl (lv_at hl 0 rfl) ?_
        refine zr_iadd (v := td + ((i : Int) + 1)) hx hb rfl dX3_untilLighter_25 ?_
        refine zcallV (ci := 3) (q0 := 0) (cq := (RX3, TX3, 12)) (As := [.int (zI p), .int (zI (td + ((i : Int) + 1)))]) (rest := []) ⟨hx, hb, hml, hown, hts⟩ hK (kX3_wears l D cI cZ q hN pa sp al co da mo st mr th n td wn hn hmo p (td + ((i : Int) + 1)) (by omega) (by omega)) (cwV 2 hts gX3_untilLighter_X3_wears rfl rfl rfl (by decide +kernel) ⟨Nat.le_of_ble_eq_true rfl, Nat.le_of_ble_eq_true rfl⟩) hP hS hA rfl rfl rfl hl.1 rfl (Nat.le_of_ble_eq_true rfl) dX3_untilLighter_26 ⟨Nat.zero_le _, Nat.zero_le _⟩ (fun H locs hP hS _ _ => ?_)
        refine W.eq (g2 := F0 m9 29 ls [.int (zI (wsM mo n p (td + ((i : Int) + 1))))]) rfl ?_
        have f_4 := wsM_bd hmo n p (td + ((i : Int) + 1))
        refine lv_iload_n hx hb dX3_untilLighter_29 rfl (lv_at hl 1 rfl) ?_
        refine zr_icmp_lt (tgt := 39) hx hb dX3_untilLighter_30 (by decide) ⟨by omega, by omega⟩ ⟨by omega, by omega⟩ (fun c_5 => ?_) (fun c_5 => ?_)
        · have c_5 := c_5
          refine lv_iload_n hx hb dX3_untilLighter_39 rfl (lv_at hl 0 rfl) ?_
          rw [hQ0]
          exact zret_i hx hb hr hlocks (by unfold flD; rw [if_neg (by omega), ← hfl]; exact if h179 : i = 179 then (by subst h179; rfl) else (by rw [show 179 - i = (178 - i) + 1 from by omega, fst0_s, if_pos (by omega)])) hP hS dX3_untilLighter_40
        · have c_5 := c_5
          refine zr_iinc (v := ((i : Int) + 1) + 1) (lv' := [(3, .int (zI (((i : Int) + 1) + 1))), (2, .int (zI (wsM mo n p td))), (0, .ref (q 0)), (1, .int (zI p))]) hx hb dX3_untilLighter_33 hl (k := 0) rfl rfl (by decide) rfl (fun ls hl => ?_)
          refine lv_goto (tgt := 18) hx hb dX3_untilLighter_36 (by decide) ?_
          have hl := lv_sub hl (l' := [(3, .int (zI (((i : Int) + 1) + 1))), (2, .int (zI (wsM mo n p td))), (0, .ref (q 0)), (1, .int (zI p))]) [0, 1, 2, 3] rfl
          have e_6 : ((((i + 1) : Nat) : Int) + 1 : Int) = ((i : Int) + 1) + 1 := by omega
          have hl : lv_has ls 4 [(3, .int (zI ((((i + 1) : Nat) : Int) + 1))), (2, .int (zI (wsM mo n p td))), (0, .ref (q 0)), (1, .int (zI p))] := by rw [e_6]; exact hl
          exact ih_i (i + 1) (by omega) (by omega) _ _ _ hP hS hl (by rw [← hfl, show 179 - i = (178 - i) + 1 from by omega, fst0_s, if_neg (by omega)]; congr 1 <;> omega)
    have hl := lv_sub hl (l' := [(3, .int (zI 1)), (2, .int (zI (wsM mo n p td))), (0, .ref (q 0)), (1, .int (zI p))]) [0, 1, 2, 3] rfl
    have e_7 : ((0 : Int) + 1 : Int) = 1 := rfl
    have hl : lv_has ls 4 [(3, .int (zI ((0 : Int) + 1))), (2, .int (zI (wsM mo n p td))), (0, .ref (q 0)), (1, .int (zI p))] := by rw [e_7]; exact hl
    exact L18_3 (179 + 1) 0 (Nat.zero_le _) (by omega) _ _ _ hP hS hl (rfl)
  · have c_2 := c_2
    refine zr_iconst hx hb dX3_untilLighter_14 ?_
    rw [hQ0]
    exact zret_i hx hb hr hlocks (by unfold flD; rw [if_pos (by omega)]) hP hS dX3_untilLighter_15
set_option maxHeartbeats 4000000 in
set_option maxRecDepth 100000 in
theorem kX3_daysWith (l : Launch) (D : va_G) (cI cZ : ClassId) (q : Nat → Nat) (hN : (zLM q).Nodup) (pa : Int → Int) (sp : Int → Int) (al : Int → Int) (co : Int → Int) (da : Int → Int) (mo : Int → Int) (st : Int → Int) (mr : Int → Int) (th : Int) (n : Nat) (td : Int) (wn : Int) (hn : n ≤ 16) (hmo : ∀ j : Int, -1 ≤ mo j ∧ mo j ≤ 1000000) (htd : 0 ≤ td ∧ td ≤ 1000000) (p : Int) (c : Int) (h1 : 0 ≤ p ∧ p < 16) (h2 : 1 ≤ c ∧ c ≤ 5) (h3 : mxF (lM mo td p) n ≤ 1000) : zM l yX3_daysWith wsX3_daysWith ({ frames := 3, cells := 0, slots := 0, locals := 76 }) D [(cI, .int), (cZ, .boolean)] [.ref (q 0), .int (zI p), .int (zI c)] (wM cI cZ q pa sp al co da mo st mr th n td wn) (wM cI cZ q pa sp al co da mo st mr th n td wn) (some (.int (zI (smF (eqF (wT mo n td p) c) (mxF (lM mo td p) n).toNat)))) (zLM q) := by
  refine Met.ofW (cc := cX3_daysWith) (maxL := 6) (ret := (some .int)) (by decide) rfl ?_
  intro p0 e9 s9 m9 ag9 below meth c9 s₁ B hml hv
  obtain ⟨hav, hP, hK⟩ := hv
  have hx := B.exec
  have hb := B.bytes
  have hr := B.returns
  have hts := atoms_spec (ws := wsX3_daysWith) B.pre
  have hown : s9.vm.findClass RX3 = some m9.cls := findClass_of_methodNamed B.named
  have hlocks := B.notSynchronized
  have hA : ∀ a ∈ zLM q, (fun a => a ∈ zLM q) a := fun _ h => h
  have hin3 : ∀ w ∈ u_ws RX3 TX3 12, w ∈ wsX3_daysWith := by decide +kernel
  have hl := lv_entry ([.ref (q 0), .int (zI p), .int (zI c)]) (n := 6) (Nat.le_of_ble_eq_true rfl)
  have hE : entryFrame m9 ag9 6 = F0 m9 0 ((lg_sl ([.ref (q 0), .int (zI p), .int (zI c)]) ++ List.replicate (6 - (lg_sl ([.ref (q 0), .int (zI p), .int (zI c)])).length) Slot.unset).toArray) [] := by rw [hav]; exact lg_entry_eq m9 _ _
  obtain ⟨Q0, hQ0⟩ : ∃ Q0, Q0 = MQ below (zQ D (wM cI cZ q pa sp al co da mo st mr th n td wn) (some (.int (zI (smF (eqF (wT mo n td p) c) (mxF (lM mo td p) n).toNat)))) (zLM q)) ag9 s9 0 0 (fun a => a ∈ zLM q) := ⟨_, rfl⟩
  show W p0 l e9 ({ frames := 3, cells := 0, slots := 0, locals := 76 }) s9 m9 ag9 below meth c9 s9.heap [] 0 0 (MQ below (zQ D (wM cI cZ q pa sp al co da mo st mr th n td wn) (some (.int (zI (smF (eqF (wT mo n td p) c) (mxF (lM mo td p) n).toNat)))) (zLM q)) ag9 s9 0 0 (fun a => a ∈ zLM q)) _
  rw [hE, ← hQ0]
  have hS : va_S (fun a => a ∈ zLM q) s9.heap s9.heap [] := va_S.rf
  generalize hH0 : s9.heap = H at hP ⊢
  have hS : va_S (fun a => a ∈ zLM q) s9.heap H [] := by rw [hH0] at hS ⊢; exact hS
  generalize (lg_sl ([.ref (q 0), .int (zI p), .int (zI c)]) ++ List.replicate (6 - (lg_sl ([.ref (q 0), .int (zI p), .int (zI c)])).length) Slot.unset).toArray = ls at hl ⊢
  have hl : lv_has ls 6 [(0, .ref (q 0)), (1, .int (zI p)), (2, .int (zI c))] := hl
  have h9 := mxF_bd (f := lM mo td p) (k := n) (B := 4000000) (by decide) (fun j => (lM_bd hmo htd p j).2)
  refine zr_iconst hx hb dX3_daysWith_0 ?_
  refine lv_istore_n (lv' := [(3, .int (zI 0)), (0, .ref (q 0)), (1, .int (zI p)), (2, .int (zI c))]) hx hb dX3_daysWith_1 rfl hl (by decide) rfl (fun ls hl => ?_)
  refine lv_aload_n hx hb dX3_daysWith_2 rfl (lv_at hl 1 rfl) ?_
  refine lv_iload_n hx hb dX3_daysWith_3 rfl (lv_at hl 2 rfl) ?_
  refine zcallV (ci := 3) (q0 := 0) (cq := (RX3, TX3, 12)) (As := [.int (zI p)]) (rest := []) ⟨hx, hb, hml, hown, hts⟩ hK (kX3_most l D cI cZ q hN pa sp al co da mo st mr th n td wn hn hmo htd p (by omega)) (cwV 1 hts gX3_daysWith_X3_most rfl rfl rfl (by decide +kernel) ⟨Nat.le_of_ble_eq_true rfl, Nat.le_of_ble_eq_true rfl⟩) hP hS hA rfl rfl rfl hl.1 rfl (Nat.le_of_ble_eq_true rfl) dX3_daysWith_4 ⟨Nat.zero_le _, Nat.zero_le _⟩ (fun H locs hP hS _ _ => ?_)
  refine W.eq (g2 := F0 m9 7 ls [.int (zI (mxF (lM mo td p) n))]) rfl ?_
  have f_1 := mxF_bd (f := lM mo td p) (k := n) (B := 4000000) (by decide) (fun j => (lM_bd hmo htd p j).2)
  refine lv_istore (lv' := [(4, .int (zI (mxF (lM mo td p) n))), (3, .int (zI 0)), (0, .ref (q 0)), (1, .int (zI p)), (2, .int (zI c))]) hx hb dX3_daysWith_7 hl (by decide) rfl (fun ls hl => ?_)
  refine zr_iconst hx hb dX3_daysWith_9 ?_
  refine lv_istore (lv' := [(5, .int (zI 0)), (4, .int (zI (mxF (lM mo td p) n))), (3, .int (zI 0)), (0, .ref (q 0)), (1, .int (zI p)), (2, .int (zI c))]) hx hb dX3_daysWith_10 hl (by decide) rfl (fun ls hl => ?_)
  have L12_2 : ∀ (kf i : Nat), i ≤ (mxF (lM mo td p) n).toNat → (mxF (lM mo td p) n).toNat - i < kf → ∀ (H : Heap) (locs : List Loc) (ls : Array Slot), va_P D vwCl (wM cI cZ q pa sp al co da mo st mr th n td wn) H → va_S (fun a => a ∈ zLM q) s9.heap H locs → lv_has ls 6 [(5, .int (zI (i : Int))), (4, .int (zI (mxF (lM mo td p) n))), (3, .int (zI (smF (eqF (wT mo n td p) c) i))), (0, .ref (q 0)), (1, .int (zI p)), (2, .int (zI c))] → W p0 l e9 ({ frames := 3, cells := 0, slots := 0, locals := 76 }) s9 m9 ag9 below meth c9 H locs 0 0 Q0 (F0 m9 12 ls []) := by
    intro kf
    induction kf with
    | zero => intro i h1 h2; omega
    | succ kf ih =>
      intro i hi_i hk_i H locs ls hP hS hl
      have ih_i := ih
      clear ih
      refine lv_iload hx hb dX3_daysWith_12 (lv_at hl 0 rfl) ?_
      refine lv_iload hx hb dX3_daysWith_14 (lv_at hl 1 rfl) ?_
      refine zr_icmp_ge (tgt := 49) hx hb dX3_daysWith_16 (by decide) ⟨by omega, by omega⟩ ⟨by omega, by omega⟩ (fun c_3 => ?_) (fun c_3 => ?_)
      · have c_3 := c_3
        have x_4 : i = (mxF (lM mo td p) n).toNat := by omega
        try rw [x_4] at hP
        try rw [x_4] at hl
        refine lv_iload_n hx hb dX3_daysWith_49 rfl (lv_at hl 2 rfl) ?_
        rw [hQ0]
        exact zret_i hx hb hr hlocks (rfl) hP hS dX3_daysWith_50
      · have c_3 := c_3
        refine lv_iload_n hx hb dX3_daysWith_19 rfl (lv_at hl 2 rfl) ?_
        refine lv_aload_n hx hb dX3_daysWith_20 rfl (lv_at hl 3 rfl) ?_
        refine lv_iload_n hx hb dX3_daysWith_21 rfl (lv_at hl 4 rfl) ?_
        refine lv_aload_n hx hb dX3_daysWith_22 rfl (lv_at hl 3 rfl) ?_
        refine va_get (D := D) (ci := 3) (v := .int (zI td)) (C := RX3) (T := TX3) (N := 12) hx hb hts hin3 hown hK hP 0 rfl rfl 8 (by decide) (hts (.fieldLink RX3 95 "MourningRibbonsModel" "today" "I") (by decide +kernel)) (fun _ h9 => h9) rfl dX3_daysWith_23 ?_
        refine lv_iload hx hb dX3_daysWith_26 (lv_at hl 0 rfl) ?_
        refine zr_iadd (v := td + (i : Int)) hx hb rfl dX3_daysWith_28 ?_
        refine zcallV (ci := 3) (q0 := 0) (cq := (RX3, TX3, 12)) (As := [.int (zI p), .int (zI (td + (i : Int)))]) (rest := [.int (zI (smF (eqF (wT mo n td p) c) i))]) ⟨hx, hb, hml, hown, hts⟩ hK (kX3_wears l D cI cZ q hN pa sp al co da mo st mr th n td wn hn hmo p (td + (i : Int)) (by omega) (by omega)) (cwV 2 hts gX3_daysWith_X3_wears rfl rfl rfl (by decide +kernel) ⟨Nat.le_of_ble_eq_true rfl, Nat.le_of_ble_eq_true rfl⟩) hP hS hA rfl rfl rfl hl.1 rfl (Nat.le_of_ble_eq_true rfl) dX3_daysWith_29 ⟨Nat.zero_le _, Nat.zero_le _⟩ (fun H locs hP hS _ _ => ?_)
        refine W.eq (g2 := F0 m9 32 ls [.int (zI (wsM mo n p (td + (i : Int)))), .int (zI (smF (eqF (wT mo n td p) c) i))]) rfl ?_
        have f_5 := wsM_bd hmo n p (td + (i : Int))
        refine lv_iload_n hx hb dX3_daysWith_32 rfl (lv_at hl 5 rfl) ?_
        refine zr_icmp_ne (tgt := 40) hx hb dX3_daysWith_33 (by decide) ⟨by omega, by omega⟩ ⟨by omega, by omega⟩ (fun c_6 => ?_) (fun c_6 => ?_)
        · have c_6 := c_6
          refine zr_iconst hx hb dX3_daysWith_40 ?_
          refine zr_iadd (v := smF (eqF (wT mo n td p) c) i) hx hb (by omega) dX3_daysWith_41 ?_
          refine lv_istore_n (lv' := [(3, .int (zI (smF (eqF (wT mo n td p) c) i))), (5, .int (zI (i : Int))), (4, .int (zI (mxF (lM mo td p) n))), (0, .ref (q 0)), (1, .int (zI p)), (2, .int (zI c))]) hx hb dX3_daysWith_42 rfl hl (by decide) rfl (fun ls hl => ?_)
          refine zr_iinc (v := (i : Int) + 1) (lv' := [(5, .int (zI ((i : Int) + 1))), (3, .int (zI (smF (eqF (wT mo n td p) c) i))), (4, .int (zI (mxF (lM mo td p) n))), (0, .ref (q 0)), (1, .int (zI p)), (2, .int (zI c))]) hx hb dX3_daysWith_43 hl (k := 1) rfl rfl (by decide) rfl (fun ls hl => ?_)
          refine lv_goto (tgt := 12) hx hb dX3_daysWith_46 (by decide) ?_
          have hl := lv_sub hl (l' := [(5, .int (zI ((i : Int) + 1))), (4, .int (zI (mxF (lM mo td p) n))), (3, .int (zI (smF (eqF (wT mo n td p) c) i))), (0, .ref (q 0)), (1, .int (zI p)), (2, .int (zI c))]) [0, 2, 1, 3, 4, 5] rfl
          have e_7 : ((((i + 1) : Nat) : Int) : Int) = (i : Int) + 1 := by omega
          have e_8 : (smF (eqF (wT mo n td p) c) (i + 1) : Int) = smF (eqF (wT mo n td p) c) i := by rw [smF_s]; unfold eqF wT; split <;> omega
          have hl : lv_has ls 6 [(5, .int (zI (((i + 1) : Nat) : Int))), (4, .int (zI (mxF (lM mo td p) n))), (3, .int (zI (smF (eqF (wT mo n td p) c) (i + 1)))), (0, .ref (q 0)), (1, .int (zI p)), (2, .int (zI c))] := by rw [e_7, e_8]; exact hl
          exact ih_i (i + 1) (by omega) (by omega) _ _ _ hP hS hl
        · have c_6 := c_6
          refine zr_iconst hx hb dX3_daysWith_36 ?_
          refine lv_goto (tgt := 41) hx hb dX3_daysWith_37 (by decide) ?_
          refine zr_iadd (v := (smF (eqF (wT mo n td p) c) i) + 1) hx hb rfl dX3_daysWith_41 ?_
          refine lv_istore_n (lv' := [(3, .int (zI ((smF (eqF (wT mo n td p) c) i) + 1))), (5, .int (zI (i : Int))), (4, .int (zI (mxF (lM mo td p) n))), (0, .ref (q 0)), (1, .int (zI p)), (2, .int (zI c))]) hx hb dX3_daysWith_42 rfl hl (by decide) rfl (fun ls hl => ?_)
          refine zr_iinc (v := (i : Int) + 1) (lv' := [(5, .int (zI ((i : Int) + 1))), (3, .int (zI ((smF (eqF (wT mo n td p) c) i) + 1))), (4, .int (zI (mxF (lM mo td p) n))), (0, .ref (q 0)), (1, .int (zI p)), (2, .int (zI c))]) hx hb dX3_daysWith_43 hl (k := 1) rfl rfl (by decide) rfl (fun ls hl => ?_)
          refine lv_goto (tgt := 12) hx hb dX3_daysWith_46 (by decide) ?_
          have hl := lv_sub hl (l' := [(5, .int (zI ((i : Int) + 1))), (4, .int (zI (mxF (lM mo td p) n))), (3, .int (zI ((smF (eqF (wT mo n td p) c) i) + 1))), (0, .ref (q 0)), (1, .int (zI p)), (2, .int (zI c))]) [0, 2, 1, 3, 4, 5] rfl
          have e_9 : ((((i + 1) : Nat) : Int) : Int) = (i : Int) + 1 := by omega
          have e_10 : (smF (eqF (wT mo n td p) c) (i + 1) : Int) = (smF (eqF (wT mo n td p) c) i) + 1 := by rw [smF_s]; unfold eqF wT; split <;> omega
          have hl : lv_has ls 6 [(5, .int (zI (((i + 1) : Nat) : Int))), (4, .int (zI (mxF (lM mo td p) n))), (3, .int (zI (smF (eqF (wT mo n td p) c) (i + 1)))), (0, .ref (q 0)), (1, .int (zI p)), (2, .int (zI c))] := by rw [e_9, e_10]; exact hl
          exact ih_i (i + 1) (by omega) (by omega) _ _ _ hP hS hl
  have hl := lv_sub hl (l' := [(5, .int (zI 0)), (4, .int (zI (mxF (lM mo td p) n))), (3, .int (zI 0)), (0, .ref (q 0)), (1, .int (zI p)), (2, .int (zI c))]) [0, 1, 2, 3, 4, 5] rfl
  have e_11 : (smF (eqF (wT mo n td p) c) 0 : Int) = 0 := rfl
  have hl : lv_has ls 6 [(5, .int (zI 0)), (4, .int (zI (mxF (lM mo td p) n))), (3, .int (zI (smF (eqF (wT mo n td p) c) 0))), (0, .ref (q 0)), (1, .int (zI p)), (2, .int (zI c))] := by rw [e_11]; exact hl
  exact L12_2 ((mxF (lM mo td p) n).toNat + 1) 0 (Nat.zero_le _) (by omega) _ _ _ hP hS hl
set_option maxHeartbeats 4000000 in
set_option maxRecDepth 100000 in
theorem kX3_strictestOne (l : Launch) (D : va_G) (cI cZ : ClassId) (q : Nat → Nat) (hN : (zLM q).Nodup) (pa : Int → Int) (sp : Int → Int) (al : Int → Int) (co : Int → Int) (da : Int → Int) (mo : Int → Int) (st : Int → Int) (mr : Int → Int) (th : Int) (n : Nat) (td : Int) (wn : Int) (hn : n ≤ 16) (hmo : ∀ j : Int, -1 ≤ mo j ∧ mo j ≤ 1000000) (htd : 0 ≤ td ∧ td ≤ 1000000) : zM l yX3_strictestOne wsX3_strictestOne ({ frames := 2, cells := 0, slots := 0, locals := 54 }) D [(cI, .int), (cZ, .boolean)] [.ref (q 0)] (wM cI cZ q pa sp al co da mo st mr th n td wn) (wM cI cZ q pa sp al co da mo st mr th n td wn) (some (.int (zI (mxF (wsZ mo n td) n)))) (zLM q) := by
  refine Met.ofW (cc := cX3_strictestOne) (maxL := 3) (ret := (some .int)) (by decide) rfl ?_
  intro p0 e9 s9 m9 ag9 below meth c9 s₁ B hml hv
  obtain ⟨hav, hP, hK⟩ := hv
  have hx := B.exec
  have hb := B.bytes
  have hr := B.returns
  have hts := atoms_spec (ws := wsX3_strictestOne) B.pre
  have hown : s9.vm.findClass RX3 = some m9.cls := findClass_of_methodNamed B.named
  have hlocks := B.notSynchronized
  have hA : ∀ a ∈ zLM q, (fun a => a ∈ zLM q) a := fun _ h => h
  have hin3 : ∀ w ∈ u_ws RX3 TX3 12, w ∈ wsX3_strictestOne := by decide +kernel
  have hl := lv_entry ([.ref (q 0)]) (n := 3) (Nat.le_of_ble_eq_true rfl)
  have hE : entryFrame m9 ag9 3 = F0 m9 0 ((lg_sl ([.ref (q 0)]) ++ List.replicate (3 - (lg_sl ([.ref (q 0)])).length) Slot.unset).toArray) [] := by rw [hav]; exact lg_entry_eq m9 _ _
  obtain ⟨Q0, hQ0⟩ : ∃ Q0, Q0 = MQ below (zQ D (wM cI cZ q pa sp al co da mo st mr th n td wn) (some (.int (zI (mxF (wsZ mo n td) n)))) (zLM q)) ag9 s9 0 0 (fun a => a ∈ zLM q) := ⟨_, rfl⟩
  show W p0 l e9 ({ frames := 2, cells := 0, slots := 0, locals := 54 }) s9 m9 ag9 below meth c9 s9.heap [] 0 0 (MQ below (zQ D (wM cI cZ q pa sp al co da mo st mr th n td wn) (some (.int (zI (mxF (wsZ mo n td) n)))) (zLM q)) ag9 s9 0 0 (fun a => a ∈ zLM q)) _
  rw [hE, ← hQ0]
  have hS : va_S (fun a => a ∈ zLM q) s9.heap s9.heap [] := va_S.rf
  generalize hH0 : s9.heap = H at hP ⊢
  have hS : va_S (fun a => a ∈ zLM q) s9.heap H [] := by rw [hH0] at hS ⊢; exact hS
  generalize (lg_sl ([.ref (q 0)]) ++ List.replicate (3 - (lg_sl ([.ref (q 0)])).length) Slot.unset).toArray = ls at hl ⊢
  have hl : lv_has ls 3 [(0, .ref (q 0))] := hl
  refine zr_iconst hx hb dX3_strictestOne_0 ?_
  refine lv_istore_n (lv' := [(1, .int (zI 0)), (0, .ref (q 0))]) hx hb dX3_strictestOne_1 rfl hl (by decide) rfl (fun ls hl => ?_)
  refine zr_iconst hx hb dX3_strictestOne_2 ?_
  refine lv_istore_n (lv' := [(2, .int (zI 0)), (1, .int (zI 0)), (0, .ref (q 0))]) hx hb dX3_strictestOne_3 rfl hl (by decide) rfl (fun ls hl => ?_)
  have L4_1 : ∀ (kf i : Nat), i ≤ n → n - i < kf → ∀ (H : Heap) (locs : List Loc) (ls : Array Slot), va_P D vwCl (wM cI cZ q pa sp al co da mo st mr th n td wn) H → va_S (fun a => a ∈ zLM q) s9.heap H locs → lv_has ls 3 [(2, .int (zI (i : Int))), (1, .int (zI (mxF (wsZ mo n td) i))), (0, .ref (q 0))] → W p0 l e9 ({ frames := 2, cells := 0, slots := 0, locals := 54 }) s9 m9 ag9 below meth c9 H locs 0 0 Q0 (F0 m9 4 ls []) := by
    intro kf
    induction kf with
    | zero => intro i h1 h2; omega
    | succ kf ih =>
      intro i hi_i hk_i H locs ls hP hS hl
      have ih_i := ih
      clear ih
      have hm := mxF_bd (f := wsZ mo n td) (k := i) (B := 1000000) (by decide) (fun j => (wsM_bd hmo n j td).2)
      refine lv_iload_n hx hb dX3_strictestOne_4 rfl (lv_at hl 0 rfl) ?_
      refine lv_aload_n hx hb dX3_strictestOne_5 rfl (lv_at hl 2 rfl) ?_
      refine va_get (D := D) (ci := 3) (v := .int (zI (n : Int))) (C := RX3) (T := TX3) (N := 12) hx hb hts hin3 hown hK hP 0 rfl rfl 1 (by decide) (hts (.fieldLink RX3 39 "MourningRibbonsModel" "people" "I") (by decide +kernel)) (fun _ h9 => h9) rfl dX3_strictestOne_6 ?_
      refine zr_icmp_ge (tgt := 32) hx hb dX3_strictestOne_9 (by decide) ⟨by omega, by omega⟩ ⟨by omega, by omega⟩ (fun c_2 => ?_) (fun c_2 => ?_)
      · have c_2 := c_2
        have x_3 : i = n := by omega
        try rw [x_3] at hP
        try rw [x_3] at hl
        refine lv_iload_n hx hb dX3_strictestOne_32 rfl (lv_at hl 1 rfl) ?_
        rw [hQ0]
        exact zret_i hx hb hr hlocks (rfl) hP hS dX3_strictestOne_33
      · have c_2 := c_2
        refine lv_iload_n hx hb dX3_strictestOne_12 rfl (lv_at hl 1 rfl) ?_
        refine lv_aload_n hx hb dX3_strictestOne_13 rfl (lv_at hl 2 rfl) ?_
        refine lv_iload_n hx hb dX3_strictestOne_14 rfl (lv_at hl 0 rfl) ?_
        refine lv_aload_n hx hb dX3_strictestOne_15 rfl (lv_at hl 2 rfl) ?_
        refine va_get (D := D) (ci := 3) (v := .int (zI td)) (C := RX3) (T := TX3) (N := 12) hx hb hts hin3 hown hK hP 0 rfl rfl 8 (by decide) (hts (.fieldLink RX3 95 "MourningRibbonsModel" "today" "I") (by decide +kernel)) (fun _ h9 => h9) rfl dX3_strictestOne_16 ?_
        refine zcallV (ci := 3) (q0 := 0) (cq := (RX3, TX3, 12)) (As := [.int (zI (i : Int)), .int (zI td)]) (rest := [.int (zI (mxF (wsZ mo n td) i))]) ⟨hx, hb, hml, hown, hts⟩ hK (kX3_wears l D cI cZ q hN pa sp al co da mo st mr th n td wn hn hmo (i : Int) td (by omega) (by omega)) (cwV 2 hts gX3_strictestOne_X3_wears rfl rfl rfl (by decide +kernel) ⟨Nat.le_of_ble_eq_true rfl, Nat.le_of_ble_eq_true rfl⟩) hP hS hA rfl rfl rfl hl.1 rfl (Nat.le_of_ble_eq_true rfl) dX3_strictestOne_19 ⟨Nat.zero_le _, Nat.zero_le _⟩ (fun H locs hP hS _ _ => ?_)
        refine W.eq (g2 := F0 m9 22 ls [.int (zI (wsM mo n (i : Int) td)), .int (zI (mxF (wsZ mo n td) i))]) rfl ?_
        have f_4 := wsM_bd hmo n (i : Int) td
        refine zr_mmax hx hb (by rw [hml, hl.1]) hown (hts (.methodLink RX3 54 Lib.Math.max.name) (by decide +kernel)) (hts (.static Lib.Math.max.name) (by decide +kernel)) (hts (.initialized "java/lang/Math") (by decide +kernel)) (hts (.code Lib.Math.max.name Lib.Math.max.code 2 (some .int)) (by decide +kernel)) (Nat.le_of_ble_eq_true rfl) (Nat.le_of_ble_eq_true rfl) (Nat.zero_le _) (Nat.zero_le _) ⟨by omega, by omega⟩ ⟨by omega, by omega⟩ dX3_strictestOne_22 ?_
        refine lv_istore_n (lv' := [(1, .int (zI (max (mxF (wsZ mo n td) i) (wsM mo n (i : Int) td)))), (2, .int (zI (i : Int))), (0, .ref (q 0))]) hx hb dX3_strictestOne_25 rfl hl (by decide) rfl (fun ls hl => ?_)
        refine zr_iinc (v := (i : Int) + 1) (lv' := [(2, .int (zI ((i : Int) + 1))), (1, .int (zI (max (mxF (wsZ mo n td) i) (wsM mo n (i : Int) td)))), (0, .ref (q 0))]) hx hb dX3_strictestOne_26 hl (k := 1) rfl rfl (by decide) rfl (fun ls hl => ?_)
        refine lv_goto (tgt := 4) hx hb dX3_strictestOne_29 (by decide) ?_
        have hl := lv_sub hl (l' := [(2, .int (zI ((i : Int) + 1))), (1, .int (zI (max (mxF (wsZ mo n td) i) (wsM mo n (i : Int) td)))), (0, .ref (q 0))]) [0, 1, 2] rfl
        have e_5 : ((((i + 1) : Nat) : Int) : Int) = (i : Int) + 1 := by omega
        have e_6 : (mxF (wsZ mo n td) (i + 1) : Int) = max (mxF (wsZ mo n td) i) (wsM mo n (i : Int) td) := rfl
        have hl : lv_has ls 3 [(2, .int (zI (((i + 1) : Nat) : Int))), (1, .int (zI (mxF (wsZ mo n td) (i + 1)))), (0, .ref (q 0))] := by rw [e_5, e_6]; exact hl
        exact ih_i (i + 1) (by omega) (by omega) _ _ _ hP hS hl
  have hl := lv_sub hl (l' := [(2, .int (zI 0)), (1, .int (zI 0)), (0, .ref (q 0))]) [0, 1, 2] rfl
  have e_7 : (mxF (wsZ mo n td) 0 : Int) = 0 := rfl
  have hl : lv_has ls 3 [(2, .int (zI 0)), (1, .int (zI (mxF (wsZ mo n td) 0))), (0, .ref (q 0))] := by rw [e_7]; exact hl
  exact L4_1 (n + 1) 0 (Nat.zero_le _) (by omega) _ _ _ hP hS hl
set_option maxHeartbeats 4000000 in
set_option maxRecDepth 100000 in
theorem kX3_longest (l : Launch) (D : va_G) (cI cZ : ClassId) (q : Nat → Nat) (hN : (zLM q).Nodup) (pa : Int → Int) (sp : Int → Int) (al : Int → Int) (co : Int → Int) (da : Int → Int) (mo : Int → Int) (st : Int → Int) (mr : Int → Int) (th : Int) (n : Nat) (td : Int) (wn : Int) (hn : n ≤ 16) (hmo : ∀ j : Int, -1 ≤ mo j ∧ mo j ≤ 1000000) (htd : 0 ≤ td ∧ td ≤ 1000000) : zM l yX3_longest wsX3_longest ({ frames := 3, cells := 0, slots := 0, locals := 76 }) D [(cI, .int), (cZ, .boolean)] [.ref (q 0)] (wM cI cZ q pa sp al co da mo st mr th n td wn) (wM cI cZ q pa sp al co da mo st mr th n td wn) (some (.int (zI (lgF (moS mo n td) n)))) (zLM q) := by
  refine Met.ofW (cc := cX3_longest) (maxL := 4) (ret := (some .int)) (by decide) rfl ?_
  intro p0 e9 s9 m9 ag9 below meth c9 s₁ B hml hv
  obtain ⟨hav, hP, hK⟩ := hv
  have hx := B.exec
  have hb := B.bytes
  have hr := B.returns
  have hts := atoms_spec (ws := wsX3_longest) B.pre
  have hown : s9.vm.findClass RX3 = some m9.cls := findClass_of_methodNamed B.named
  have hlocks := B.notSynchronized
  have hA : ∀ a ∈ zLM q, (fun a => a ∈ zLM q) a := fun _ h => h
  have hin3 : ∀ w ∈ u_ws RX3 TX3 12, w ∈ wsX3_longest := by decide +kernel
  have hl := lv_entry ([.ref (q 0)]) (n := 4) (Nat.le_of_ble_eq_true rfl)
  have hE : entryFrame m9 ag9 4 = F0 m9 0 ((lg_sl ([.ref (q 0)]) ++ List.replicate (4 - (lg_sl ([.ref (q 0)])).length) Slot.unset).toArray) [] := by rw [hav]; exact lg_entry_eq m9 _ _
  obtain ⟨Q0, hQ0⟩ : ∃ Q0, Q0 = MQ below (zQ D (wM cI cZ q pa sp al co da mo st mr th n td wn) (some (.int (zI (lgF (moS mo n td) n)))) (zLM q)) ag9 s9 0 0 (fun a => a ∈ zLM q) := ⟨_, rfl⟩
  show W p0 l e9 ({ frames := 3, cells := 0, slots := 0, locals := 76 }) s9 m9 ag9 below meth c9 s9.heap [] 0 0 (MQ below (zQ D (wM cI cZ q pa sp al co da mo st mr th n td wn) (some (.int (zI (lgF (moS mo n td) n)))) (zLM q)) ag9 s9 0 0 (fun a => a ∈ zLM q)) _
  rw [hE, ← hQ0]
  have hS : va_S (fun a => a ∈ zLM q) s9.heap s9.heap [] := va_S.rf
  generalize hH0 : s9.heap = H at hP ⊢
  have hS : va_S (fun a => a ∈ zLM q) s9.heap H [] := by rw [hH0] at hS ⊢; exact hS
  generalize (lg_sl ([.ref (q 0)]) ++ List.replicate (4 - (lg_sl ([.ref (q 0)])).length) Slot.unset).toArray = ls at hl ⊢
  have hl : lv_has ls 4 [(0, .ref (q 0))] := hl
  refine zr_iconst hx hb dX3_longest_0 ?_
  refine lv_istore_n (lv' := [(1, .int (zI (-1))), (0, .ref (q 0))]) hx hb dX3_longest_1 rfl hl (by decide) rfl (fun ls hl => ?_)
  refine zr_iconst hx hb dX3_longest_2 ?_
  refine lv_istore_n (lv' := [(2, .int (zI 0)), (1, .int (zI (-1))), (0, .ref (q 0))]) hx hb dX3_longest_3 rfl hl (by decide) rfl (fun ls hl => ?_)
  refine zr_iconst hx hb dX3_longest_4 ?_
  refine lv_istore_n (lv' := [(3, .int (zI 0)), (2, .int (zI 0)), (1, .int (zI (-1))), (0, .ref (q 0))]) hx hb dX3_longest_5 rfl hl (by decide) rfl (fun ls hl => ?_)
  have L6_1 : ∀ (kf i : Nat), i ≤ n → n - i < kf → ∀ (H : Heap) (locs : List Loc) (ls : Array Slot), va_P D vwCl (wM cI cZ q pa sp al co da mo st mr th n td wn) H → va_S (fun a => a ∈ zLM q) s9.heap H locs → lv_has ls 4 [(3, .int (zI (i : Int))), (2, .int (zI (mxF (moS mo n td) i))), (1, .int (zI (lgF (moS mo n td) i))), (0, .ref (q 0))] → W p0 l e9 ({ frames := 3, cells := 0, slots := 0, locals := 76 }) s9 m9 ag9 below meth c9 H locs 0 0 Q0 (F0 m9 6 ls []) := by
    intro kf
    induction kf with
    | zero => intro i h1 h2; omega
    | succ kf ih =>
      intro i hi_i hk_i H locs ls hP hS hl
      have ih_i := ih
      clear ih
      have hm := mxF_bd (f := moS mo n td) (k := i) (B := 4000000) (by decide) (fun j => (mxF_bd (f := lM mo td j) (k := n) (B := 4000000) (by decide) (fun j2 => (lM_bd hmo htd j j2).2)).2)
      have hs9 : moS mo n td (i : Int) = mxF (lM mo td (i : Int)) n := rfl
      refine lv_iload_n hx hb dX3_longest_6 rfl (lv_at hl 0 rfl) ?_
      refine lv_aload_n hx hb dX3_longest_7 rfl (lv_at hl 3 rfl) ?_
      refine va_get (D := D) (ci := 3) (v := .int (zI (n : Int))) (C := RX3) (T := TX3) (N := 12) hx hb hts hin3 hown hK hP 0 rfl rfl 1 (by decide) (hts (.fieldLink RX3 39 "MourningRibbonsModel" "people" "I") (by decide +kernel)) (fun _ h9 => h9) rfl dX3_longest_8 ?_
      refine zr_icmp_ge (tgt := 40) hx hb dX3_longest_11 (by decide) ⟨by omega, by omega⟩ ⟨by omega, by omega⟩ (fun c_2 => ?_) (fun c_2 => ?_)
      · have c_2 := c_2
        have x_3 : i = n := by omega
        try rw [x_3] at hP
        try rw [x_3] at hl
        refine lv_iload_n hx hb dX3_longest_40 rfl (lv_at hl 2 rfl) ?_
        rw [hQ0]
        exact zret_i hx hb hr hlocks (rfl) hP hS dX3_longest_41
      · have c_2 := c_2
        refine lv_aload_n hx hb dX3_longest_14 rfl (lv_at hl 3 rfl) ?_
        refine lv_iload_n hx hb dX3_longest_15 rfl (lv_at hl 0 rfl) ?_
        refine zcallV (ci := 3) (q0 := 0) (cq := (RX3, TX3, 12)) (As := [.int (zI (i : Int))]) (rest := []) ⟨hx, hb, hml, hown, hts⟩ hK (kX3_most l D cI cZ q hN pa sp al co da mo st mr th n td wn hn hmo htd (i : Int) (by omega)) (cwV 1 hts gX3_longest_X3_most rfl rfl rfl (by decide +kernel) ⟨Nat.le_of_ble_eq_true rfl, Nat.le_of_ble_eq_true rfl⟩) hP hS hA rfl rfl rfl hl.1 rfl (Nat.le_of_ble_eq_true rfl) dX3_longest_16 ⟨Nat.zero_le _, Nat.zero_le _⟩ (fun H locs hP hS _ _ => ?_)
        refine W.eq (g2 := F0 m9 19 ls [.int (zI (mxF (lM mo td (i : Int)) n))]) rfl ?_
        have f_4 := mxF_bd (f := lM mo td (i : Int)) (k := n) (B := 4000000) (by decide) (fun j => (lM_bd hmo htd (i : Int) j).2)
        refine lv_iload_n hx hb dX3_longest_19 rfl (lv_at hl 1 rfl) ?_
        refine zr_icmp_gt (tgt := 26) hx hb dX3_longest_20 (by decide) ⟨by omega, by omega⟩ ⟨by omega, by omega⟩ (fun c_5 => ?_) (fun c_5 => ?_)
        · have c_5 := c_5
          refine lv_iload_n hx hb dX3_longest_26 rfl (lv_at hl 0 rfl) ?_
          refine lv_istore_n (lv' := [(1, .int (zI (i : Int))), (3, .int (zI (i : Int))), (2, .int (zI (mxF (moS mo n td) i))), (0, .ref (q 0))]) hx hb dX3_longest_27 rfl hl (by decide) rfl (fun ls hl => ?_)
          refine lv_aload_n hx hb dX3_longest_28 rfl (lv_at hl 3 rfl) ?_
          refine lv_iload_n hx hb dX3_longest_29 rfl (lv_at hl 1 rfl) ?_
          refine zcallV (ci := 3) (q0 := 0) (cq := (RX3, TX3, 12)) (As := [.int (zI (i : Int))]) (rest := []) ⟨hx, hb, hml, hown, hts⟩ hK (kX3_most l D cI cZ q hN pa sp al co da mo st mr th n td wn hn hmo htd (i : Int) (by omega)) (cwV 1 hts gX3_longest_X3_most rfl rfl rfl (by decide +kernel) ⟨Nat.le_of_ble_eq_true rfl, Nat.le_of_ble_eq_true rfl⟩) hP hS hA rfl rfl rfl hl.1 rfl (Nat.le_of_ble_eq_true rfl) dX3_longest_30 ⟨Nat.zero_le _, Nat.zero_le _⟩ (fun H locs hP hS _ _ => ?_)
          refine W.eq (g2 := F0 m9 33 ls [.int (zI (mxF (lM mo td (i : Int)) n))]) rfl ?_
          have f_6 := mxF_bd (f := lM mo td (i : Int)) (k := n) (B := 4000000) (by decide) (fun j => (lM_bd hmo htd (i : Int) j).2)
          refine lv_istore_n (lv' := [(2, .int (zI (mxF (lM mo td (i : Int)) n))), (1, .int (zI (i : Int))), (3, .int (zI (i : Int))), (0, .ref (q 0))]) hx hb dX3_longest_33 rfl hl (by decide) rfl (fun ls hl => ?_)
          refine zr_iinc (v := (i : Int) + 1) (lv' := [(3, .int (zI ((i : Int) + 1))), (2, .int (zI (mxF (lM mo td (i : Int)) n))), (1, .int (zI (i : Int))), (0, .ref (q 0))]) hx hb dX3_longest_34 hl (k := 2) rfl rfl (by decide) rfl (fun ls hl => ?_)
          refine lv_goto (tgt := 6) hx hb dX3_longest_37 (by decide) ?_
          have hl := lv_sub hl (l' := [(3, .int (zI ((i : Int) + 1))), (2, .int (zI (mxF (lM mo td (i : Int)) n))), (1, .int (zI (i : Int))), (0, .ref (q 0))]) [0, 1, 2, 3] rfl
          have e_7 : ((((i + 1) : Nat) : Int) : Int) = (i : Int) + 1 := by omega
          have e_8 : (mxF (moS mo n td) (i + 1) : Int) = mxF (lM mo td (i : Int)) n := by rw [mxF_s]; omega
          have e_9 : (lgF (moS mo n td) (i + 1) : Int) = (i : Int) := by first | exact lgF_y (by omega) | exact lgF_n (by omega)
          have hl : lv_has ls 4 [(3, .int (zI (((i + 1) : Nat) : Int))), (2, .int (zI (mxF (moS mo n td) (i + 1)))), (1, .int (zI (lgF (moS mo n td) (i + 1)))), (0, .ref (q 0))] := by rw [e_7, e_8, e_9]; exact hl
          exact ih_i (i + 1) (by omega) (by omega) _ _ _ hP hS hl
        · have c_5 := c_5
          refine lv_goto (tgt := 34) hx hb dX3_longest_23 (by decide) ?_
          refine zr_iinc (v := (i : Int) + 1) (lv' := [(3, .int (zI ((i : Int) + 1))), (2, .int (zI (mxF (moS mo n td) i))), (1, .int (zI (lgF (moS mo n td) i))), (0, .ref (q 0))]) hx hb dX3_longest_34 hl (k := 0) rfl rfl (by decide) rfl (fun ls hl => ?_)
          refine lv_goto (tgt := 6) hx hb dX3_longest_37 (by decide) ?_
          have hl := lv_sub hl (l' := [(3, .int (zI ((i : Int) + 1))), (2, .int (zI (mxF (moS mo n td) i))), (1, .int (zI (lgF (moS mo n td) i))), (0, .ref (q 0))]) [0, 1, 2, 3] rfl
          have e_10 : ((((i + 1) : Nat) : Int) : Int) = (i : Int) + 1 := by omega
          have e_11 : (mxF (moS mo n td) (i + 1) : Int) = mxF (moS mo n td) i := by rw [mxF_s]; omega
          have e_12 : (lgF (moS mo n td) (i + 1) : Int) = lgF (moS mo n td) i := by first | exact lgF_y (by omega) | exact lgF_n (by omega)
          have hl : lv_has ls 4 [(3, .int (zI (((i + 1) : Nat) : Int))), (2, .int (zI (mxF (moS mo n td) (i + 1)))), (1, .int (zI (lgF (moS mo n td) (i + 1)))), (0, .ref (q 0))] := by rw [e_10, e_11, e_12]; exact hl
          exact ih_i (i + 1) (by omega) (by omega) _ _ _ hP hS hl
  have hl := lv_sub hl (l' := [(3, .int (zI 0)), (2, .int (zI 0)), (1, .int (zI (-1))), (0, .ref (q 0))]) [0, 1, 2, 3] rfl
  have e_13 : (mxF (moS mo n td) 0 : Int) = 0 := rfl
  have e_14 : (lgF (moS mo n td) 0 : Int) = (-1) := rfl
  have hl : lv_has ls 4 [(3, .int (zI 0)), (2, .int (zI (mxF (moS mo n td) 0))), (1, .int (zI (lgF (moS mo n td) 0))), (0, .ref (q 0))] := by rw [e_13, e_14]; exact hl
  exact L6_1 (n + 1) 0 (Nat.zero_le _) (by omega) _ _ _ hP hS hl
set_option maxHeartbeats 4000000 in
set_option maxRecDepth 100000 in
theorem kX3_layMore (l : Launch) (D : va_G) (cI cZ : ClassId) (q : Nat → Nat) (hN : (zLM q).Nodup) (pa : Int → Int) (sp : Int → Int) (al : Int → Int) (co : Int → Int) (da : Int → Int) (mo : Int → Int) (st : Int → Int) (mr : Int → Int) (th : Int) (n : Nat) (td : Int) (wn : Int) (hpa : ∀ j : Int, -1 ≤ pa j ∧ pa j ≤ 15) (hsp : ∀ j : Int, -1 ≤ sp j ∧ sp j ≤ 15) (hal : ∀ j : Int, 0 ≤ al j ∧ al j ≤ 1) (hco : ∀ j : Int, 0 ≤ co j ∧ co j ≤ 5) (hda : ∀ j : Int, 0 ≤ da j ∧ da j ≤ 60) (hst : ∀ j : Int, -1 ≤ st j ∧ st j ≤ 4) (hmr : ∀ j : Int, -1 ≤ mr j ∧ mr j ≤ 1000000) (hn : n ≤ 16) (htd : 0 ≤ td ∧ td ≤ 1000000) (p : Int) (d : Int) (h1 : 0 ≤ p ∧ p < 16) (h2 : 0 ≤ d ∧ d < 16) : zM l yX3_layMore wsX3_layMore ({ frames := 3, cells := 0, slots := 0, locals := 64 }) D [(cI, .int), (cZ, .boolean)] [.ref (q 0), .int (zI p), .int (zI d)] (wM cI cZ q pa sp al co da mo st mr th n td wn) (wM cI cZ q pa sp al co da mo (goF pa sp n st d) (lmM mr (goF pa sp n st d) al co da td p d) th n td wn) none (zLM q) := by
  refine Met.ofW (cc := cX3_layMore) (maxL := 3) (ret := none) (by decide) rfl ?_
  intro p0 e9 s9 m9 ag9 below meth c9 s₁ B hml hv
  obtain ⟨hav, hP, hK⟩ := hv
  have hx := B.exec
  have hb := B.bytes
  have hr := B.returns
  have hts := atoms_spec (ws := wsX3_layMore) B.pre
  have hown : s9.vm.findClass RX3 = some m9.cls := findClass_of_methodNamed B.named
  have hlocks := B.notSynchronized
  have hA : ∀ a ∈ zLM q, (fun a => a ∈ zLM q) a := fun _ h => h
  have hin3 : ∀ w ∈ u_ws RX3 TX3 12, w ∈ wsX3_layMore := by decide +kernel
  have hl := lv_entry ([.ref (q 0), .int (zI p), .int (zI d)]) (n := 3) (Nat.le_of_ble_eq_true rfl)
  have hE : entryFrame m9 ag9 3 = F0 m9 0 ((lg_sl ([.ref (q 0), .int (zI p), .int (zI d)]) ++ List.replicate (3 - (lg_sl ([.ref (q 0), .int (zI p), .int (zI d)])).length) Slot.unset).toArray) [] := by rw [hav]; exact lg_entry_eq m9 _ _
  obtain ⟨Q0, hQ0⟩ : ∃ Q0, Q0 = MQ below (zQ D (wM cI cZ q pa sp al co da mo (goF pa sp n st d) (lmM mr (goF pa sp n st d) al co da td p d) th n td wn) none (zLM q)) ag9 s9 0 0 (fun a => a ∈ zLM q) := ⟨_, rfl⟩
  show W p0 l e9 ({ frames := 3, cells := 0, slots := 0, locals := 64 }) s9 m9 ag9 below meth c9 s9.heap [] 0 0 (MQ below (zQ D (wM cI cZ q pa sp al co da mo (goF pa sp n st d) (lmM mr (goF pa sp n st d) al co da td p d) th n td wn) none (zLM q)) ag9 s9 0 0 (fun a => a ∈ zLM q)) _
  rw [hE, ← hQ0]
  have hS : va_S (fun a => a ∈ zLM q) s9.heap s9.heap [] := va_S.rf
  generalize hH0 : s9.heap = H at hP ⊢
  have hS : va_S (fun a => a ∈ zLM q) s9.heap H [] := by rw [hH0] at hS ⊢; exact hS
  generalize (lg_sl ([.ref (q 0), .int (zI p), .int (zI d)]) ++ List.replicate (3 - (lg_sl ([.ref (q 0), .int (zI p), .int (zI d)])).length) Slot.unset).toArray = ls at hl ⊢
  have hl : lv_has ls 3 [(0, .ref (q 0)), (1, .int (zI p)), (2, .int (zI d))] := hl
  refine lv_aload_n hx hb dX3_layMore_0 rfl (lv_at hl 0 rfl) ?_
  refine lv_iload_n hx hb dX3_layMore_1 rfl (lv_at hl 2 rfl) ?_
  refine zcallV (ci := 3) (q0 := 0) (cq := (RX3, TX3, 12)) (As := [.int (zI d)]) (rest := []) ⟨hx, hb, hml, hown, hts⟩ hK (kX3_go l D cI cZ q hN pa sp al co da mo st mr th n td wn hpa hsp hst hn d (by omega)) (cwV 1 hts gX3_layMore_X3_go rfl rfl rfl (by decide +kernel) ⟨Nat.le_of_ble_eq_true rfl, Nat.le_of_ble_eq_true rfl⟩) hP hS hA rfl rfl rfl hl.1 rfl (Nat.le_of_ble_eq_true rfl) dX3_layMore_2 ⟨Nat.zero_le _, Nat.zero_le _⟩ (fun H locs hP hS _ _ => ?_)
  have g_1 : ∀ j : Int, -1 ≤ (goF pa sp n st d) j ∧ (goF pa sp n st d) j ≤ 4 := goF_bd hst pa sp n d
  refine W.eq (g2 := F0 m9 5 ls []) rfl ?_
  refine lv_aload_n hx hb dX3_layMore_5 rfl (lv_at hl 0 rfl) ?_
  refine va_get (D := D) (ci := 3) (v := .ref (q 8)) (C := RX3) (T := TX3) (N := 12) hx hb hts hin3 hown hK hP 0 rfl rfl 11 (by decide) (hts (.fieldLink RX3 32 "MourningRibbonsModel" "more" "[I") (by decide +kernel)) (fun _ h9 => h9) rfl dX3_layMore_6 ?_
  refine zr_iconst hx hb dX3_layMore_9 ?_
  refine zr_iconst hx hb dX3_layMore_10 ?_
  refine zr_iast (f := mr) (n := 7) hx hb hK hP hN rfl hA hS 8 0 rfl rfl (by decide) (i := 0) (x := (-1)) (by decide) (by decide) dX3_layMore_11 (fun H locs hP hS => ?_)
  have hP : va_P D vwCl (wM cI cZ q pa sp al co da mo (goF pa sp n st d) (up mr 0 (-1)) th n td wn) H := hP
  refine lv_aload_n hx hb dX3_layMore_12 rfl (lv_at hl 0 rfl) ?_
  refine lv_iload_n hx hb dX3_layMore_13 rfl (lv_at hl 1 rfl) ?_
  refine lv_iload_n hx hb dX3_layMore_14 rfl (lv_at hl 2 rfl) ?_
  refine zcallV (ci := 3) (q0 := 0) (cq := (RX3, TX3, 12)) (As := [.int (zI p), .int (zI d)]) (rest := []) ⟨hx, hb, hml, hown, hts⟩ hK (kX3_isMourner l D cI cZ q hN pa sp al co da mo (goF pa sp n st d) (up mr 0 (-1)) th n td wn hal g_1 hda p d (by omega) (by omega)) (cwV 2 hts gX3_layMore_X3_isMourner rfl rfl rfl (by decide +kernel) ⟨Nat.le_of_ble_eq_true rfl, Nat.le_of_ble_eq_true rfl⟩) hP hS hA rfl rfl rfl hl.1 rfl (Nat.le_of_ble_eq_true rfl) dX3_layMore_15 ⟨Nat.zero_le _, Nat.zero_le _⟩ (fun H locs hP hS _ _ => ?_)
  refine W.eq (g2 := F0 m9 18 ls [.int (zI (bI (imP al (goF pa sp n st d) da d p)))]) rfl ?_
  refine zr_if_eq (tgt := 36) hx hb dX3_layMore_18 (by decide) (bI_rg _) (fun c_2 => ?_) (fun c_2 => ?_)
  · have c_2 := bI_z c_2
    have e_3 : (lmM mr (goF pa sp n st d) al co da td p d : Int → Int) = up mr 0 (-1) := by unfold lmM; first | exact if_pos (by assumption) | exact if_neg (by assumption)
    have hP : va_P D vwCl (wM cI cZ q pa sp al co da mo (goF pa sp n st d) (lmM mr (goF pa sp n st d) al co da td p d) th n td wn) H := by rw [e_3]; exact hP
    rw [hQ0]
    exact zret_v hx hb hr hlocks hP hS dX3_layMore_36
  · have c_2 := bI_n c_2
    refine lv_aload_n hx hb dX3_layMore_21 rfl (lv_at hl 0 rfl) ?_
    refine lv_aload_n hx hb dX3_layMore_22 rfl (lv_at hl 0 rfl) ?_
    refine va_get (D := D) (ci := 3) (v := .ref (q 8)) (C := RX3) (T := TX3) (N := 12) hx hb hts hin3 hown hK hP 0 rfl rfl 11 (by decide) (hts (.fieldLink RX3 32 "MourningRibbonsModel" "more" "[I") (by decide +kernel)) (fun _ h9 => h9) rfl dX3_layMore_23 ?_
    refine zr_iconst hx hb dX3_layMore_26 ?_
    refine lv_aload_n hx hb dX3_layMore_27 rfl (lv_at hl 0 rfl) ?_
    refine va_get (D := D) (ci := 3) (v := .ref (q 7)) (C := RX3) (T := TX3) (N := 12) hx hb hts hin3 hown hK hP 0 rfl rfl 10 (by decide) (hts (.fieldLink RX3 29 "MourningRibbonsModel" "steps" "[I") (by decide +kernel)) (fun _ h9 => h9) rfl dX3_layMore_28 ?_
    refine lv_iload_n hx hb dX3_layMore_31 rfl (lv_at hl 1 rfl) ?_
    refine zr_iald (f := goF pa sp n st d) (n := 16) hx hb hK hP 7 0 rfl rfl (by decide) (i := p) (by omega) (by omega) dX3_layMore_32 ?_
    have b_4 := g_1 p
    refine zcallV (ci := 3) (q0 := 0) (cq := (RX3, TX3, 12)) (As := [.ref (q 8), .int (zI 0), .int (zI ((goF pa sp n st d) p))]) (rest := []) ⟨hx, hb, hml, hown, hts⟩ hK (kX3_writemr l D cI cZ q hN pa sp al co da mo (goF pa sp n st d) (up mr 0 (-1)) th n td wn hco hda (up_bd hmr ⟨by decide, by decide⟩) htd 0 ((goF pa sp n st d) p) (by omega) (by omega)) (cwV 3 hts gX3_layMore_X3_write rfl rfl rfl (by decide +kernel) ⟨Nat.le_of_ble_eq_true rfl, Nat.le_of_ble_eq_true rfl⟩) hP hS hA rfl rfl rfl hl.1 rfl (Nat.le_of_ble_eq_true rfl) dX3_layMore_33 ⟨Nat.zero_le _, Nat.zero_le _⟩ (fun H locs hP hS _ _ => ?_)
    have g_5 : ∀ j : Int, -1 ≤ (wrM (up mr 0 (-1)) 0 td co da ((goF pa sp n st d) p)) j ∧ (wrM (up mr 0 (-1)) 0 td co da ((goF pa sp n st d) p)) j ≤ 1000000 := wrM_bd (up_bd hmr ⟨by decide, by decide⟩) htd hco hda 0 ((goF pa sp n st d) p)
    refine W.eq (g2 := F0 m9 36 ls []) rfl ?_
    have e_6 : (lmM mr (goF pa sp n st d) al co da td p d : Int → Int) = wrM (up mr 0 (-1)) 0 td co da ((goF pa sp n st d) p) := by unfold lmM; first | exact if_pos (by assumption) | exact if_neg (by assumption)
    have hP : va_P D vwCl (wM cI cZ q pa sp al co da mo (goF pa sp n st d) (lmM mr (goF pa sp n st d) al co da td p d) th n td wn) H := by rw [e_6]; exact hP
    rw [hQ0]
    exact zret_v hx hb hr hlocks hP hS dX3_layMore_36
set_option maxHeartbeats 4000000 in
set_option maxRecDepth 100000 in
theorem kX3_wearsThen (l : Launch) (D : va_G) (cI cZ : ClassId) (q : Nat → Nat) (hN : (zLM q).Nodup) (pa : Int → Int) (sp : Int → Int) (al : Int → Int) (co : Int → Int) (da : Int → Int) (mo : Int → Int) (st : Int → Int) (mr : Int → Int) (th : Int) (n : Nat) (td : Int) (wn : Int) (hn : n ≤ 16) (hmo : ∀ j : Int, -1 ≤ mo j ∧ mo j ≤ 1000000) (hmr : ∀ j : Int, -1 ≤ mr j ∧ mr j ≤ 1000000) (p : Int) (t : Int) (h1 : 0 ≤ p ∧ p < 16) (h2 : 0 ≤ t ∧ t ≤ 2000000) : zM l yX3_wearsThen wsX3_wearsThen ({ frames := 2, cells := 0, slots := 0, locals := 54 }) D [(cI, .int), (cZ, .boolean)] [.ref (q 0), .int (zI p), .int (zI t)] (wM cI cZ q pa sp al co da mo st mr th n td wn) (wM cI cZ q pa sp al co da mo st mr th n td wn) (some (.int (zI (wtM mo mr n p t)))) (zLM q) := by
  refine Met.ofW (cc := cX3_wearsThen) (maxL := 3) (ret := (some .int)) (by decide) rfl ?_
  intro p0 e9 s9 m9 ag9 below meth c9 s₁ B hml hv
  obtain ⟨hav, hP, hK⟩ := hv
  have hx := B.exec
  have hb := B.bytes
  have hr := B.returns
  have hts := atoms_spec (ws := wsX3_wearsThen) B.pre
  have hown : s9.vm.findClass RX3 = some m9.cls := findClass_of_methodNamed B.named
  have hlocks := B.notSynchronized
  have hA : ∀ a ∈ zLM q, (fun a => a ∈ zLM q) a := fun _ h => h
  have hin3 : ∀ w ∈ u_ws RX3 TX3 12, w ∈ wsX3_wearsThen := by decide +kernel
  have hl := lv_entry ([.ref (q 0), .int (zI p), .int (zI t)]) (n := 3) (Nat.le_of_ble_eq_true rfl)
  have hE : entryFrame m9 ag9 3 = F0 m9 0 ((lg_sl ([.ref (q 0), .int (zI p), .int (zI t)]) ++ List.replicate (3 - (lg_sl ([.ref (q 0), .int (zI p), .int (zI t)])).length) Slot.unset).toArray) [] := by rw [hav]; exact lg_entry_eq m9 _ _
  obtain ⟨Q0, hQ0⟩ : ∃ Q0, Q0 = MQ below (zQ D (wM cI cZ q pa sp al co da mo st mr th n td wn) (some (.int (zI (wtM mo mr n p t)))) (zLM q)) ag9 s9 0 0 (fun a => a ∈ zLM q) := ⟨_, rfl⟩
  show W p0 l e9 ({ frames := 2, cells := 0, slots := 0, locals := 54 }) s9 m9 ag9 below meth c9 s9.heap [] 0 0 (MQ below (zQ D (wM cI cZ q pa sp al co da mo st mr th n td wn) (some (.int (zI (wtM mo mr n p t)))) (zLM q)) ag9 s9 0 0 (fun a => a ∈ zLM q)) _
  rw [hE, ← hQ0]
  have hS : va_S (fun a => a ∈ zLM q) s9.heap s9.heap [] := va_S.rf
  generalize hH0 : s9.heap = H at hP ⊢
  have hS : va_S (fun a => a ∈ zLM q) s9.heap H [] := by rw [hH0] at hS ⊢; exact hS
  generalize (lg_sl ([.ref (q 0), .int (zI p), .int (zI t)]) ++ List.replicate (3 - (lg_sl ([.ref (q 0), .int (zI p), .int (zI t)])).length) Slot.unset).toArray = ls at hl ⊢
  have hl : lv_has ls 3 [(0, .ref (q 0)), (1, .int (zI p)), (2, .int (zI t))] := hl
  refine lv_aload_n hx hb dX3_wearsThen_0 rfl (lv_at hl 0 rfl) ?_
  refine lv_iload_n hx hb dX3_wearsThen_1 rfl (lv_at hl 1 rfl) ?_
  refine lv_iload_n hx hb dX3_wearsThen_2 rfl (lv_at hl 2 rfl) ?_
  refine zcallV (ci := 3) (q0 := 0) (cq := (RX3, TX3, 12)) (As := [.int (zI p), .int (zI t)]) (rest := []) ⟨hx, hb, hml, hown, hts⟩ hK (kX3_wears l D cI cZ q hN pa sp al co da mo st mr th n td wn hn hmo p t (by omega) (by omega)) (cwV 2 hts gX3_wearsThen_X3_wears rfl rfl rfl (by decide +kernel) ⟨Nat.le_of_ble_eq_true rfl, Nat.le_of_ble_eq_true rfl⟩) hP hS hA rfl rfl rfl hl.1 rfl (Nat.le_of_ble_eq_true rfl) dX3_wearsThen_3 ⟨Nat.zero_le _, Nat.zero_le _⟩ (fun H locs hP hS _ _ => ?_)
  refine W.eq (g2 := F0 m9 6 ls [.int (zI (wsM mo n p t))]) rfl ?_
  have f_1 := wsM_bd hmo n p t
  refine lv_aload_n hx hb dX3_wearsThen_6 rfl (lv_at hl 0 rfl) ?_
  refine va_get (D := D) (ci := 3) (v := .ref (q 8)) (C := RX3) (T := TX3) (N := 12) hx hb hts hin3 hown hK hP 0 rfl rfl 11 (by decide) (hts (.fieldLink RX3 32 "MourningRibbonsModel" "more" "[I") (by decide +kernel)) (fun _ h9 => h9) rfl dX3_wearsThen_7 ?_
  refine zr_iconst hx hb dX3_wearsThen_10 ?_
  refine lv_iload_n hx hb dX3_wearsThen_11 rfl (lv_at hl 2 rfl) ?_
  refine zcallS (As := [.ref (q 8), .int (zI 0), .int (zI t)]) (rest := [.int (zI (wsM mo n p t))]) ⟨hx, hb, hml, hown, hts⟩ hK (kX3_wornmr l D cI cZ q hN pa sp al co da mo st mr th n td wn hmr 0 t (by omega) (by omega)) (va_cwS 3 hts gX3_wearsThen_X3_worn rfl rfl rfl (by decide +kernel) ⟨Nat.le_of_ble_eq_true rfl, Nat.le_of_ble_eq_true rfl⟩) hP hS hA rfl hl.1 rfl (Nat.le_of_ble_eq_true rfl) dX3_wearsThen_12 ⟨Nat.zero_le _, Nat.zero_le _⟩ (fun H locs hP hS _ _ => ?_)
  refine W.eq (g2 := F0 m9 15 ls [.int (zI (wnM mr 0 t)), .int (zI (wsM mo n p t))]) rfl ?_
  have f_2 := wnM_bd hmr 0 t
  refine zr_mmax hx hb (by rw [hml, hl.1]) hown (hts (.methodLink RX3 54 Lib.Math.max.name) (by decide +kernel)) (hts (.static Lib.Math.max.name) (by decide +kernel)) (hts (.initialized "java/lang/Math") (by decide +kernel)) (hts (.code Lib.Math.max.name Lib.Math.max.code 2 (some .int)) (by decide +kernel)) (Nat.le_of_ble_eq_true rfl) (Nat.le_of_ble_eq_true rfl) (Nat.zero_le _) (Nat.zero_le _) ⟨by omega, by omega⟩ ⟨by omega, by omega⟩ dX3_wearsThen_15 ?_
  rw [hQ0]
  exact zret_i hx hb hr hlocks (rfl) hP hS dX3_wearsThen_18
set_option maxHeartbeats 4000000 in
set_option maxRecDepth 100000 in
theorem kX3_worn_ (l : Launch) (D : va_G) (cI cZ : ClassId) (q : Nat → Nat) (hN : (zLM q).Nodup) (pa : Int → Int) (sp : Int → Int) (al : Int → Int) (co : Int → Int) (da : Int → Int) (mo : Int → Int) (st : Int → Int) (mr : Int → Int) (th : Int) (n : Nat) (td : Int) (wn : Int) (hpa : ∀ j : Int, -1 ≤ pa j ∧ pa j ≤ 15) (hsp : ∀ j : Int, -1 ≤ sp j ∧ sp j ≤ 15) (hal : ∀ j : Int, 0 ≤ al j ∧ al j ≤ 1) (hco : ∀ j : Int, 0 ≤ co j ∧ co j ≤ 5) (hda : ∀ j : Int, 0 ≤ da j ∧ da j ≤ 60) (hmo : ∀ j : Int, -1 ≤ mo j ∧ mo j ≤ 1000000) (hst : ∀ j : Int, -1 ≤ st j ∧ st j ≤ 4) (hmr : ∀ j : Int, -1 ≤ mr j ∧ mr j ≤ 1000000) (hn : n ≤ 16) (htd : 0 ≤ td ∧ td ≤ 1000000) (p : Int) (d : Int) (h1 : 0 ≤ p ∧ p < 16) (h2 : 0 ≤ d ∧ d < 16) : zM l yX3_worn_ wsX3_worn_ ({ frames := 4, cells := 0, slots := 0, locals := 86 }) D [(cI, .int), (cZ, .boolean)] [.ref (q 0), .int (zI p), .int (zI d)] (wM cI cZ q pa sp al co da mo st mr th n td wn) (wM cI cZ q pa sp al co da mo (goF pa sp n st d) (lmM mr (goF pa sp n st d) al co da td p d) th n td wn) (some (.int (zI (wtM mo (lmM mr (goF pa sp n st d) al co da td p d) n p td)))) (zLM q) := by
  refine Met.ofW (cc := cX3_worn_) (maxL := 3) (ret := (some .int)) (by decide) rfl ?_
  intro p0 e9 s9 m9 ag9 below meth c9 s₁ B hml hv
  obtain ⟨hav, hP, hK⟩ := hv
  have hx := B.exec
  have hb := B.bytes
  have hr := B.returns
  have hts := atoms_spec (ws := wsX3_worn_) B.pre
  have hown : s9.vm.findClass RX3 = some m9.cls := findClass_of_methodNamed B.named
  have hlocks := B.notSynchronized
  have hA : ∀ a ∈ zLM q, (fun a => a ∈ zLM q) a := fun _ h => h
  have hin3 : ∀ w ∈ u_ws RX3 TX3 12, w ∈ wsX3_worn_ := by decide +kernel
  have hl := lv_entry ([.ref (q 0), .int (zI p), .int (zI d)]) (n := 3) (Nat.le_of_ble_eq_true rfl)
  have hE : entryFrame m9 ag9 3 = F0 m9 0 ((lg_sl ([.ref (q 0), .int (zI p), .int (zI d)]) ++ List.replicate (3 - (lg_sl ([.ref (q 0), .int (zI p), .int (zI d)])).length) Slot.unset).toArray) [] := by rw [hav]; exact lg_entry_eq m9 _ _
  obtain ⟨Q0, hQ0⟩ : ∃ Q0, Q0 = MQ below (zQ D (wM cI cZ q pa sp al co da mo (goF pa sp n st d) (lmM mr (goF pa sp n st d) al co da td p d) th n td wn) (some (.int (zI (wtM mo (lmM mr (goF pa sp n st d) al co da td p d) n p td)))) (zLM q)) ag9 s9 0 0 (fun a => a ∈ zLM q) := ⟨_, rfl⟩
  show W p0 l e9 ({ frames := 4, cells := 0, slots := 0, locals := 86 }) s9 m9 ag9 below meth c9 s9.heap [] 0 0 (MQ below (zQ D (wM cI cZ q pa sp al co da mo (goF pa sp n st d) (lmM mr (goF pa sp n st d) al co da td p d) th n td wn) (some (.int (zI (wtM mo (lmM mr (goF pa sp n st d) al co da td p d) n p td)))) (zLM q)) ag9 s9 0 0 (fun a => a ∈ zLM q)) _
  rw [hE, ← hQ0]
  have hS : va_S (fun a => a ∈ zLM q) s9.heap s9.heap [] := va_S.rf
  generalize hH0 : s9.heap = H at hP ⊢
  have hS : va_S (fun a => a ∈ zLM q) s9.heap H [] := by rw [hH0] at hS ⊢; exact hS
  generalize (lg_sl ([.ref (q 0), .int (zI p), .int (zI d)]) ++ List.replicate (3 - (lg_sl ([.ref (q 0), .int (zI p), .int (zI d)])).length) Slot.unset).toArray = ls at hl ⊢
  have hl : lv_has ls 3 [(0, .ref (q 0)), (1, .int (zI p)), (2, .int (zI d))] := hl
  refine lv_aload_n hx hb dX3_worn__0 rfl (lv_at hl 0 rfl) ?_
  refine lv_iload_n hx hb dX3_worn__1 rfl (lv_at hl 1 rfl) ?_
  refine lv_iload_n hx hb dX3_worn__2 rfl (lv_at hl 2 rfl) ?_
  refine zcallV (ci := 3) (q0 := 0) (cq := (RX3, TX3, 12)) (As := [.int (zI p), .int (zI d)]) (rest := []) ⟨hx, hb, hml, hown, hts⟩ hK (kX3_layMore l D cI cZ q hN pa sp al co da mo st mr th n td wn hpa hsp hal hco hda hst hmr hn htd p d (by omega) (by omega)) (cwV 2 hts gX3_worn__X3_layMore rfl rfl rfl (by decide +kernel) ⟨Nat.le_of_ble_eq_true rfl, Nat.le_of_ble_eq_true rfl⟩) hP hS hA rfl rfl rfl hl.1 rfl (Nat.le_of_ble_eq_true rfl) dX3_worn__3 ⟨Nat.zero_le _, Nat.zero_le _⟩ (fun H locs hP hS _ _ => ?_)
  have g_1 : ∀ j : Int, -1 ≤ (goF pa sp n st d) j ∧ (goF pa sp n st d) j ≤ 4 := goF_bd hst pa sp n d
  have g_2 : ∀ j : Int, -1 ≤ (lmM mr (goF pa sp n st d) al co da td p d) j ∧ (lmM mr (goF pa sp n st d) al co da td p d) j ≤ 1000000 := lmM_bd hmr htd hco hda p d
  refine W.eq (g2 := F0 m9 6 ls []) rfl ?_
  refine lv_aload_n hx hb dX3_worn__6 rfl (lv_at hl 0 rfl) ?_
  refine lv_iload_n hx hb dX3_worn__7 rfl (lv_at hl 1 rfl) ?_
  refine lv_aload_n hx hb dX3_worn__8 rfl (lv_at hl 0 rfl) ?_
  refine va_get (D := D) (ci := 3) (v := .int (zI td)) (C := RX3) (T := TX3) (N := 12) hx hb hts hin3 hown hK hP 0 rfl rfl 8 (by decide) (hts (.fieldLink RX3 95 "MourningRibbonsModel" "today" "I") (by decide +kernel)) (fun _ h9 => h9) rfl dX3_worn__9 ?_
  refine zcallV (ci := 3) (q0 := 0) (cq := (RX3, TX3, 12)) (As := [.int (zI p), .int (zI td)]) (rest := []) ⟨hx, hb, hml, hown, hts⟩ hK (kX3_wearsThen l D cI cZ q hN pa sp al co da mo (goF pa sp n st d) (lmM mr (goF pa sp n st d) al co da td p d) th n td wn hn hmo g_2 p td (by omega) (by omega)) (cwV 2 hts gX3_worn__X3_wearsThen rfl rfl rfl (by decide +kernel) ⟨Nat.le_of_ble_eq_true rfl, Nat.le_of_ble_eq_true rfl⟩) hP hS hA rfl rfl rfl hl.1 rfl (Nat.le_of_ble_eq_true rfl) dX3_worn__12 ⟨Nat.zero_le _, Nat.zero_le _⟩ (fun H locs hP hS _ _ => ?_)
  refine W.eq (g2 := F0 m9 15 ls [.int (zI (wtM mo (lmM mr (goF pa sp n st d) al co da td p d) n p td))]) rfl ?_
  have f_3 := wtM_bd hmo g_2 n p td
  rw [hQ0]
  exact zret_i hx hb hr hlocks (rfl) hP hS dX3_worn__15
set_option maxHeartbeats 4000000 in
set_option maxRecDepth 100000 in
theorem kX3_allDays (l : Launch) (D : va_G) (cI cZ : ClassId) (q : Nat → Nat) (hN : (zLM q).Nodup) (pa : Int → Int) (sp : Int → Int) (al : Int → Int) (co : Int → Int) (da : Int → Int) (mo : Int → Int) (st : Int → Int) (mr : Int → Int) (th : Int) (n : Nat) (td : Int) (wn : Int) (hpa : ∀ j : Int, -1 ≤ pa j ∧ pa j ≤ 15) (hsp : ∀ j : Int, -1 ≤ sp j ∧ sp j ≤ 15) (hal : ∀ j : Int, 0 ≤ al j ∧ al j ≤ 1) (hco : ∀ j : Int, 0 ≤ co j ∧ co j ≤ 5) (hda : ∀ j : Int, 0 ≤ da j ∧ da j ≤ 60) (hmo : ∀ j : Int, -1 ≤ mo j ∧ mo j ≤ 1000000) (hst : ∀ j : Int, -1 ≤ st j ∧ st j ≤ 4) (hmr : ∀ j : Int, -1 ≤ mr j ∧ mr j ≤ 1000000) (hn : n ≤ 16) (htd : 0 ≤ td ∧ td ≤ 1000000) (d : Int) (h1 : 0 ≤ d ∧ d < 16) : zM l yX3_allDays wsX3_allDays ({ frames := 4, cells := 0, slots := 0, locals := 86 }) D [(cI, .int), (cZ, .boolean)] [.ref (q 0), .int (zI d)] (wM cI cZ q pa sp al co da mo st mr th n td wn) (wM cI cZ q pa sp al co da mo (adS pa sp al n d st n) (adM pa sp al co da n td d st mr n) th n td wn) (some (.int (zI (adC pa sp al co da mo n td d st mr n)))) (zLM q) := by
  refine Met.ofW (cc := cX3_allDays) (maxL := 5) (ret := (some .int)) (by decide) rfl ?_
  intro p0 e9 s9 m9 ag9 below meth c9 s₁ B hml hv
  obtain ⟨hav, hP, hK⟩ := hv
  have hx := B.exec
  have hb := B.bytes
  have hr := B.returns
  have hts := atoms_spec (ws := wsX3_allDays) B.pre
  have hown : s9.vm.findClass RX3 = some m9.cls := findClass_of_methodNamed B.named
  have hlocks := B.notSynchronized
  have hA : ∀ a ∈ zLM q, (fun a => a ∈ zLM q) a := fun _ h => h
  have hin3 : ∀ w ∈ u_ws RX3 TX3 12, w ∈ wsX3_allDays := by decide +kernel
  have hl := lv_entry ([.ref (q 0), .int (zI d)]) (n := 5) (Nat.le_of_ble_eq_true rfl)
  have hE : entryFrame m9 ag9 5 = F0 m9 0 ((lg_sl ([.ref (q 0), .int (zI d)]) ++ List.replicate (5 - (lg_sl ([.ref (q 0), .int (zI d)])).length) Slot.unset).toArray) [] := by rw [hav]; exact lg_entry_eq m9 _ _
  obtain ⟨Q0, hQ0⟩ : ∃ Q0, Q0 = MQ below (zQ D (wM cI cZ q pa sp al co da mo (adS pa sp al n d st n) (adM pa sp al co da n td d st mr n) th n td wn) (some (.int (zI (adC pa sp al co da mo n td d st mr n)))) (zLM q)) ag9 s9 0 0 (fun a => a ∈ zLM q) := ⟨_, rfl⟩
  show W p0 l e9 ({ frames := 4, cells := 0, slots := 0, locals := 86 }) s9 m9 ag9 below meth c9 s9.heap [] 0 0 (MQ below (zQ D (wM cI cZ q pa sp al co da mo (adS pa sp al n d st n) (adM pa sp al co da n td d st mr n) th n td wn) (some (.int (zI (adC pa sp al co da mo n td d st mr n)))) (zLM q)) ag9 s9 0 0 (fun a => a ∈ zLM q)) _
  rw [hE, ← hQ0]
  have hS : va_S (fun a => a ∈ zLM q) s9.heap s9.heap [] := va_S.rf
  generalize hH0 : s9.heap = H at hP ⊢
  have hS : va_S (fun a => a ∈ zLM q) s9.heap H [] := by rw [hH0] at hS ⊢; exact hS
  generalize (lg_sl ([.ref (q 0), .int (zI d)]) ++ List.replicate (5 - (lg_sl ([.ref (q 0), .int (zI d)])).length) Slot.unset).toArray = ls at hl ⊢
  have hl : lv_has ls 5 [(0, .ref (q 0)), (1, .int (zI d))] := hl
  refine zr_iconst hx hb dX3_allDays_0 ?_
  refine lv_istore_n (lv' := [(2, .int (zI 0)), (0, .ref (q 0)), (1, .int (zI d))]) hx hb dX3_allDays_1 rfl hl (by decide) rfl (fun ls hl => ?_)
  refine zr_iconst hx hb dX3_allDays_2 ?_
  refine lv_istore_n (lv' := [(3, .int (zI 0)), (2, .int (zI 0)), (0, .ref (q 0)), (1, .int (zI d))]) hx hb dX3_allDays_3 rfl hl (by decide) rfl (fun ls hl => ?_)
  have L4_1 : ∀ (kf i : Nat), i ≤ n → n - i < kf → ∀ (H : Heap) (locs : List Loc) (ls : Array Slot), va_P D vwCl (wM cI cZ q pa sp al co da mo (adS pa sp al n d st i) (adM pa sp al co da n td d st mr i) th n td wn) H → va_S (fun a => a ∈ zLM q) s9.heap H locs → lv_has ls 5 [(3, .int (zI (i : Int))), (2, .int (zI (adC pa sp al co da mo n td d st mr i))), (0, .ref (q 0)), (1, .int (zI d))] → W p0 l e9 ({ frames := 4, cells := 0, slots := 0, locals := 86 }) s9 m9 ag9 below meth c9 H locs 0 0 Q0 (F0 m9 4 ls []) := by
    intro kf
    induction kf with
    | zero => intro i h1 h2; omega
    | succ kf ih =>
      intro i hi_i hk_i H locs ls hP hS hl
      have ih_i := ih
      clear ih
      refine lv_iload_n hx hb dX3_allDays_4 rfl (lv_at hl 0 rfl) ?_
      refine lv_aload_n hx hb dX3_allDays_5 rfl (lv_at hl 2 rfl) ?_
      refine va_get (D := D) (ci := 3) (v := .int (zI (n : Int))) (C := RX3) (T := TX3) (N := 12) hx hb hts hin3 hown hK hP 0 rfl rfl 1 (by decide) (hts (.fieldLink RX3 39 "MourningRibbonsModel" "people" "I") (by decide +kernel)) (fun _ h9 => h9) rfl dX3_allDays_6 ?_
      refine zr_icmp_ge (tgt := 81) hx hb dX3_allDays_9 (by decide) ⟨by omega, by omega⟩ ⟨by omega, by omega⟩ (fun c_2 => ?_) (fun c_2 => ?_)
      · have c_2 := c_2
        have x_3 : i = n := by omega
        try rw [x_3] at hP
        try rw [x_3] at hl
        refine lv_iload_n hx hb dX3_allDays_81 rfl (lv_at hl 1 rfl) ?_
        rw [hQ0]
        exact zret_i hx hb hr hlocks (rfl) hP hS dX3_allDays_82
      · have c_2 := c_2
        refine lv_iload_n hx hb dX3_allDays_12 rfl (lv_at hl 0 rfl) ?_
        refine lv_iload_n hx hb dX3_allDays_13 rfl (lv_at hl 3 rfl) ?_
        refine zr_icmp_eq (tgt := 75) hx hb dX3_allDays_14 (by decide) ⟨by omega, by omega⟩ ⟨by omega, by omega⟩ (fun c_4 => ?_) (fun c_4 => ?_)
        · have c_4 := c_4
          refine zr_iinc (v := (i : Int) + 1) (lv' := [(3, .int (zI ((i : Int) + 1))), (2, .int (zI (adC pa sp al co da mo n td d st mr i))), (0, .ref (q 0)), (1, .int (zI d))]) hx hb dX3_allDays_75 hl (k := 0) rfl rfl (by decide) rfl (fun ls hl => ?_)
          refine lv_goto (tgt := 4) hx hb dX3_allDays_78 (by decide) ?_
          have hl := lv_sub hl (l' := [(3, .int (zI ((i : Int) + 1))), (2, .int (zI (adC pa sp al co da mo n td d st mr i))), (0, .ref (q 0)), (1, .int (zI d))]) [0, 1, 2, 3] rfl
          have e_5 : ((((i + 1) : Nat) : Int) : Int) = (i : Int) + 1 := by omega
          have e_6 : (adC pa sp al co da mo n td d st mr (i + 1) : Int) = adC pa sp al co da mo n td d st mr i := by first | exact adC_n (by omega) | exact adC_y ⟨by omega, by omega⟩
          have hl : lv_has ls 5 [(3, .int (zI (((i + 1) : Nat) : Int))), (2, .int (zI (adC pa sp al co da mo n td d st mr (i + 1)))), (0, .ref (q 0)), (1, .int (zI d))] := by rw [e_5, e_6]; exact hl
          have e_7 : (adS pa sp al n d st (i + 1) : Int → Int) = adS pa sp al n d st i := by first | exact adS_n (by omega) | exact adS_y ⟨by omega, by omega⟩
          have hP : va_P D vwCl (wM cI cZ q pa sp al co da mo (adS pa sp al n d st (i + 1)) (adM pa sp al co da n td d st mr i) th n td wn) H := by rw [e_7]; exact hP
          have e_8 : (adM pa sp al co da n td d st mr (i + 1) : Int → Int) = adM pa sp al co da n td d st mr i := by first | exact adM_n (by omega) | exact adM_y ⟨by omega, by omega⟩
          have hP : va_P D vwCl (wM cI cZ q pa sp al co da mo (adS pa sp al n d st (i + 1)) (adM pa sp al co da n td d st mr (i + 1)) th n td wn) H := by rw [e_8]; exact hP
          exact ih_i (i + 1) (by omega) (by omega) _ _ _ hP hS hl
        · have c_4 := c_4
          refine lv_aload_n hx hb dX3_allDays_17 rfl (lv_at hl 2 rfl) ?_
          refine va_get (D := D) (ci := 3) (v := .ref (q 3)) (C := RX3) (T := TX3) (N := 12) hx hb hts hin3 hown hK hP 0 rfl rfl 4 (by decide) (hts (.fieldLink RX3 16 "MourningRibbonsModel" "isAlive" "[Z") (by decide +kernel)) (fun _ h9 => h9) rfl dX3_allDays_18 ?_
          refine lv_iload_n hx hb dX3_allDays_21 rfl (lv_at hl 0 rfl) ?_
          refine zr_zald (f := al) (n := 16) hx hb hK hP 3 1 rfl rfl (by decide) (i := (i : Int)) (by omega) (by omega) dX3_allDays_22 ?_
          have b_9 := hal (i : Int)
          refine zr_if_ne (tgt := 29) hx hb dX3_allDays_23 (by decide) ⟨by omega, by omega⟩ (fun c_10 => ?_) (fun c_10 => ?_)
          · have c_10 := c_10
            refine lv_aload_n hx hb dX3_allDays_29 rfl (lv_at hl 2 rfl) ?_
            refine lv_iload_n hx hb dX3_allDays_30 rfl (lv_at hl 0 rfl) ?_
            refine lv_iload_n hx hb dX3_allDays_31 rfl (lv_at hl 3 rfl) ?_
            refine zcallV (ci := 3) (q0 := 0) (cq := (RX3, TX3, 12)) (As := [.int (zI (i : Int)), .int (zI d)]) (rest := []) ⟨hx, hb, hml, hown, hts⟩ hK (kX3_layMore l D cI cZ q hN pa sp al co da mo (adS pa sp al n d st i) (adM pa sp al co da n td d st mr i) th n td wn hpa hsp hal hco hda (adS_bd hst i) (adM_bd hmr htd hco hda i) hn htd (i : Int) d (by omega) (by omega)) (cwV 2 hts gX3_allDays_X3_layMore rfl rfl rfl (by decide +kernel) ⟨Nat.le_of_ble_eq_true rfl, Nat.le_of_ble_eq_true rfl⟩) hP hS hA rfl rfl rfl hl.1 rfl (Nat.le_of_ble_eq_true rfl) dX3_allDays_32 ⟨Nat.zero_le _, Nat.zero_le _⟩ (fun H locs hP hS _ _ => ?_)
            have g_11 : ∀ j : Int, -1 ≤ (goF pa sp n (adS pa sp al n d st i) d) j ∧ (goF pa sp n (adS pa sp al n d st i) d) j ≤ 4 := goF_bd (adS_bd hst i) pa sp n d
            have g_12 : ∀ j : Int, -1 ≤ (lmM (adM pa sp al co da n td d st mr i) (goF pa sp n (adS pa sp al n d st i) d) al co da td (i : Int) d) j ∧ (lmM (adM pa sp al co da n td d st mr i) (goF pa sp n (adS pa sp al n d st i) d) al co da td (i : Int) d) j ≤ 1000000 := lmM_bd (adM_bd hmr htd hco hda i) htd hco hda (i : Int) d
            refine W.eq (g2 := F0 m9 35 ls []) rfl ?_
            refine zr_iconst hx hb dX3_allDays_35 ?_
            refine lv_istore (lv' := [(4, .int (zI 0)), (3, .int (zI (i : Int))), (2, .int (zI (adC pa sp al co da mo n td d st mr i))), (0, .ref (q 0)), (1, .int (zI d))]) hx hb dX3_allDays_36 hl (by decide) rfl (fun ls hl => ?_)
            have L38_13 : ∀ (kf j : Nat), j ≤ 180 → 180 - j < kf → ∀ (H : Heap) (locs : List Loc) (ls : Array Slot), va_P D vwCl (wM cI cZ q pa sp al co da mo (goF pa sp n (adS pa sp al n d st i) d) (lmM (adM pa sp al co da n td d st mr i) (goF pa sp n (adS pa sp al n d st i) d) al co da td (i : Int) d) th n td wn) H → va_S (fun a => a ∈ zLM q) s9.heap H locs → lv_has ls 5 [(4, .int (zI (j : Int))), (3, .int (zI (i : Int))), (2, .int (zI (adC pa sp al co da mo n td d st mr i + smF (wtF mo (lmM (adM pa sp al co da n td d st mr i) (goF pa sp n (adS pa sp al n d st i) d) al co da td (i : Int) d) n td (i : Int)) j))), (0, .ref (q 0)), (1, .int (zI d))] → W p0 l e9 ({ frames := 4, cells := 0, slots := 0, locals := 86 }) s9 m9 ag9 below meth c9 H locs 0 0 Q0 (F0 m9 38 ls []) := by
              intro kf
              induction kf with
              | zero => intro j h1 h2; omega
              | succ kf ih =>
                intro j hi_j hk_j H locs ls hP hS hl
                have ih_j := ih
                clear ih
                refine lv_iload hx hb dX3_allDays_38 (lv_at hl 0 rfl) ?_
                refine zr_sipush hx hb dX3_allDays_40 (by decide) ?_
                refine zr_icmp_ge (tgt := 75) hx hb dX3_allDays_43 (by decide) ⟨by omega, by omega⟩ ⟨by decide, by decide⟩ (fun c_14 => ?_) (fun c_14 => ?_)
                · have c_14 := c_14
                  have x_15 : j = 180 := by omega
                  try rw [x_15] at hP
                  try rw [x_15] at hl
                  refine zr_iinc (v := (i : Int) + 1) (lv' := [(3, .int (zI ((i : Int) + 1))), (4, .int (zI 180)), (2, .int (zI (adC pa sp al co da mo n td d st mr i + smF (wtF mo (lmM (adM pa sp al co da n td d st mr i) (goF pa sp n (adS pa sp al n d st i) d) al co da td (i : Int) d) n td (i : Int)) 180))), (0, .ref (q 0)), (1, .int (zI d))]) hx hb dX3_allDays_75 hl (k := 1) rfl rfl (by decide) rfl (fun ls hl => ?_)
                  refine lv_goto (tgt := 4) hx hb dX3_allDays_78 (by decide) ?_
                  have hl := lv_sub hl (l' := [(3, .int (zI ((i : Int) + 1))), (2, .int (zI (adC pa sp al co da mo n td d st mr i + smF (wtF mo (lmM (adM pa sp al co da n td d st mr i) (goF pa sp n (adS pa sp al n d st i) d) al co da td (i : Int) d) n td (i : Int)) 180))), (0, .ref (q 0)), (1, .int (zI d))]) [0, 2, 3, 4] rfl
                  have e_16 : ((((i + 1) : Nat) : Int) : Int) = (i : Int) + 1 := by omega
                  have e_17 : (adC pa sp al co da mo n td d st mr (i + 1) : Int) = adC pa sp al co da mo n td d st mr i + smF (wtF mo (lmM (adM pa sp al co da n td d st mr i) (goF pa sp n (adS pa sp al n d st i) d) al co da td (i : Int) d) n td (i : Int)) 180 := by first | exact adC_n (by omega) | exact adC_y ⟨by omega, by omega⟩
                  have hl : lv_has ls 5 [(3, .int (zI (((i + 1) : Nat) : Int))), (2, .int (zI (adC pa sp al co da mo n td d st mr (i + 1)))), (0, .ref (q 0)), (1, .int (zI d))] := by rw [e_16, e_17]; exact hl
                  have e_18 : (adS pa sp al n d st (i + 1) : Int → Int) = goF pa sp n (adS pa sp al n d st i) d := by first | exact adS_n (by omega) | exact adS_y ⟨by omega, by omega⟩
                  have hP : va_P D vwCl (wM cI cZ q pa sp al co da mo (adS pa sp al n d st (i + 1)) (lmM (adM pa sp al co da n td d st mr i) (goF pa sp n (adS pa sp al n d st i) d) al co da td (i : Int) d) th n td wn) H := by rw [e_18]; exact hP
                  have e_19 : (adM pa sp al co da n td d st mr (i + 1) : Int → Int) = lmM (adM pa sp al co da n td d st mr i) (goF pa sp n (adS pa sp al n d st i) d) al co da td (i : Int) d := by first | exact adM_n (by omega) | exact adM_y ⟨by omega, by omega⟩
                  have hP : va_P D vwCl (wM cI cZ q pa sp al co da mo (adS pa sp al n d st (i + 1)) (adM pa sp al co da n td d st mr (i + 1)) th n td wn) H := by rw [e_19]; exact hP
                  exact ih_i (i + 1) (by omega) (by omega) _ _ _ hP hS hl
                · have c_14 := c_14
                  refine lv_iload_n hx hb dX3_allDays_46 rfl (lv_at hl 2 rfl) ?_
                  refine lv_aload_n hx hb dX3_allDays_47 rfl (lv_at hl 3 rfl) ?_
                  refine lv_iload_n hx hb dX3_allDays_48 rfl (lv_at hl 1 rfl) ?_
                  refine lv_aload_n hx hb dX3_allDays_49 rfl (lv_at hl 3 rfl) ?_
                  refine va_get (D := D) (ci := 3) (v := .int (zI td)) (C := RX3) (T := TX3) (N := 12) hx hb hts hin3 hown hK hP 0 rfl rfl 8 (by decide) (hts (.fieldLink RX3 95 "MourningRibbonsModel" "today" "I") (by decide +kernel)) (fun _ h9 => h9) rfl dX3_allDays_50 ?_
                  refine lv_iload hx hb dX3_allDays_53 (lv_at hl 0 rfl) ?_
                  refine zr_iadd (v := td + (j : Int)) hx hb rfl dX3_allDays_55 ?_
                  refine zcallV (ci := 3) (q0 := 0) (cq := (RX3, TX3, 12)) (As := [.int (zI (i : Int)), .int (zI (td + (j : Int)))]) (rest := [.int (zI (adC pa sp al co da mo n td d st mr i + smF (wtF mo (lmM (adM pa sp al co da n td d st mr i) (goF pa sp n (adS pa sp al n d st i) d) al co da td (i : Int) d) n td (i : Int)) j))]) ⟨hx, hb, hml, hown, hts⟩ hK (kX3_wearsThen l D cI cZ q hN pa sp al co da mo (goF pa sp n (adS pa sp al n d st i) d) (lmM (adM pa sp al co da n td d st mr i) (goF pa sp n (adS pa sp al n d st i) d) al co da td (i : Int) d) th n td wn hn hmo g_12 (i : Int) (td + (j : Int)) (by omega) (by omega)) (cwV 2 hts gX3_allDays_X3_wearsThen rfl rfl rfl (by decide +kernel) ⟨Nat.le_of_ble_eq_true rfl, Nat.le_of_ble_eq_true rfl⟩) hP hS hA rfl rfl rfl hl.1 rfl (Nat.le_of_ble_eq_true rfl) dX3_allDays_56 ⟨Nat.zero_le _, Nat.zero_le _⟩ (fun H locs hP hS _ _ => ?_)
                  refine W.eq (g2 := F0 m9 59 ls [.int (zI (wtM mo (lmM (adM pa sp al co da n td d st mr i) (goF pa sp n (adS pa sp al n d st i) d) al co da td (i : Int) d) n (i : Int) (td + (j : Int)))), .int (zI (adC pa sp al co da mo n td d st mr i + smF (wtF mo (lmM (adM pa sp al co da n td d st mr i) (goF pa sp n (adS pa sp al n d st i) d) al co da td (i : Int) d) n td (i : Int)) j))]) rfl ?_
                  have f_20 := wtM_bd hmo g_12 n (i : Int) (td + (j : Int))
                  refine zr_if_le (tgt := 66) hx hb dX3_allDays_59 (by decide) ⟨by omega, by omega⟩ (fun c_21 => ?_) (fun c_21 => ?_)
                  · have c_21 := c_21
                    refine zr_iconst hx hb dX3_allDays_66 ?_
                    refine zr_iadd (v := adC pa sp al co da mo n td d st mr i + smF (wtF mo (lmM (adM pa sp al co da n td d st mr i) (goF pa sp n (adS pa sp al n d st i) d) al co da td (i : Int) d) n td (i : Int)) j) hx hb (by omega) dX3_allDays_67 ?_
                    refine lv_istore_n (lv' := [(2, .int (zI (adC pa sp al co da mo n td d st mr i + smF (wtF mo (lmM (adM pa sp al co da n td d st mr i) (goF pa sp n (adS pa sp al n d st i) d) al co da td (i : Int) d) n td (i : Int)) j))), (4, .int (zI (j : Int))), (3, .int (zI (i : Int))), (0, .ref (q 0)), (1, .int (zI d))]) hx hb dX3_allDays_68 rfl hl (by decide) rfl (fun ls hl => ?_)
                    refine zr_iinc (v := (j : Int) + 1) (lv' := [(4, .int (zI ((j : Int) + 1))), (2, .int (zI (adC pa sp al co da mo n td d st mr i + smF (wtF mo (lmM (adM pa sp al co da n td d st mr i) (goF pa sp n (adS pa sp al n d st i) d) al co da td (i : Int) d) n td (i : Int)) j))), (3, .int (zI (i : Int))), (0, .ref (q 0)), (1, .int (zI d))]) hx hb dX3_allDays_69 hl (k := 1) rfl rfl (by decide) rfl (fun ls hl => ?_)
                    refine lv_goto (tgt := 38) hx hb dX3_allDays_72 (by decide) ?_
                    have hl := lv_sub hl (l' := [(4, .int (zI ((j : Int) + 1))), (3, .int (zI (i : Int))), (2, .int (zI (adC pa sp al co da mo n td d st mr i + smF (wtF mo (lmM (adM pa sp al co da n td d st mr i) (goF pa sp n (adS pa sp al n d st i) d) al co da td (i : Int) d) n td (i : Int)) j))), (0, .ref (q 0)), (1, .int (zI d))]) [0, 2, 1, 3, 4] rfl
                    have e_22 : ((((j + 1) : Nat) : Int) : Int) = (j : Int) + 1 := by omega
                    have e_23 : (adC pa sp al co da mo n td d st mr i + smF (wtF mo (lmM (adM pa sp al co da n td d st mr i) (goF pa sp n (adS pa sp al n d st i) d) al co da td (i : Int) d) n td (i : Int)) (j + 1) : Int) = adC pa sp al co da mo n td d st mr i + smF (wtF mo (lmM (adM pa sp al co da n td d st mr i) (goF pa sp n (adS pa sp al n d st i) d) al co da td (i : Int) d) n td (i : Int)) j := by rw [smF_s]; unfold wtF; split <;> omega
                    have hl : lv_has ls 5 [(4, .int (zI (((j + 1) : Nat) : Int))), (3, .int (zI (i : Int))), (2, .int (zI (adC pa sp al co da mo n td d st mr i + smF (wtF mo (lmM (adM pa sp al co da n td d st mr i) (goF pa sp n (adS pa sp al n d st i) d) al co da td (i : Int) d) n td (i : Int)) (j + 1)))), (0, .ref (q 0)), (1, .int (zI d))] := by rw [e_22, e_23]; exact hl
                    exact ih_j (j + 1) (by omega) (by omega) _ _ _ hP hS hl
                  · have c_21 := c_21
                    refine zr_iconst hx hb dX3_allDays_62 ?_
                    refine lv_goto (tgt := 67) hx hb dX3_allDays_63 (by decide) ?_
                    refine zr_iadd (v := (adC pa sp al co da mo n td d st mr i + smF (wtF mo (lmM (adM pa sp al co da n td d st mr i) (goF pa sp n (adS pa sp al n d st i) d) al co da td (i : Int) d) n td (i : Int)) j) + 1) hx hb rfl dX3_allDays_67 ?_
                    refine lv_istore_n (lv' := [(2, .int (zI ((adC pa sp al co da mo n td d st mr i + smF (wtF mo (lmM (adM pa sp al co da n td d st mr i) (goF pa sp n (adS pa sp al n d st i) d) al co da td (i : Int) d) n td (i : Int)) j) + 1))), (4, .int (zI (j : Int))), (3, .int (zI (i : Int))), (0, .ref (q 0)), (1, .int (zI d))]) hx hb dX3_allDays_68 rfl hl (by decide) rfl (fun ls hl => ?_)
                    refine zr_iinc (v := (j : Int) + 1) (lv' := [(4, .int (zI ((j : Int) + 1))), (2, .int (zI ((adC pa sp al co da mo n td d st mr i + smF (wtF mo (lmM (adM pa sp al co da n td d st mr i) (goF pa sp n (adS pa sp al n d st i) d) al co da td (i : Int) d) n td (i : Int)) j) + 1))), (3, .int (zI (i : Int))), (0, .ref (q 0)), (1, .int (zI d))]) hx hb dX3_allDays_69 hl (k := 1) rfl rfl (by decide) rfl (fun ls hl => ?_)
                    refine lv_goto (tgt := 38) hx hb dX3_allDays_72 (by decide) ?_
                    have hl := lv_sub hl (l' := [(4, .int (zI ((j : Int) + 1))), (3, .int (zI (i : Int))), (2, .int (zI ((adC pa sp al co da mo n td d st mr i + smF (wtF mo (lmM (adM pa sp al co da n td d st mr i) (goF pa sp n (adS pa sp al n d st i) d) al co da td (i : Int) d) n td (i : Int)) j) + 1))), (0, .ref (q 0)), (1, .int (zI d))]) [0, 2, 1, 3, 4] rfl
                    have e_24 : ((((j + 1) : Nat) : Int) : Int) = (j : Int) + 1 := by omega
                    have e_25 : (adC pa sp al co da mo n td d st mr i + smF (wtF mo (lmM (adM pa sp al co da n td d st mr i) (goF pa sp n (adS pa sp al n d st i) d) al co da td (i : Int) d) n td (i : Int)) (j + 1) : Int) = (adC pa sp al co da mo n td d st mr i + smF (wtF mo (lmM (adM pa sp al co da n td d st mr i) (goF pa sp n (adS pa sp al n d st i) d) al co da td (i : Int) d) n td (i : Int)) j) + 1 := by rw [smF_s]; unfold wtF; split <;> omega
                    have hl : lv_has ls 5 [(4, .int (zI (((j + 1) : Nat) : Int))), (3, .int (zI (i : Int))), (2, .int (zI (adC pa sp al co da mo n td d st mr i + smF (wtF mo (lmM (adM pa sp al co da n td d st mr i) (goF pa sp n (adS pa sp al n d st i) d) al co da td (i : Int) d) n td (i : Int)) (j + 1)))), (0, .ref (q 0)), (1, .int (zI d))] := by rw [e_24, e_25]; exact hl
                    exact ih_j (j + 1) (by omega) (by omega) _ _ _ hP hS hl
            have hl := lv_sub hl (l' := [(4, .int (zI 0)), (3, .int (zI (i : Int))), (2, .int (zI (adC pa sp al co da mo n td d st mr i))), (0, .ref (q 0)), (1, .int (zI d))]) [0, 1, 2, 3, 4] rfl
            have e_26 : (adC pa sp al co da mo n td d st mr i + smF (wtF mo (lmM (adM pa sp al co da n td d st mr i) (goF pa sp n (adS pa sp al n d st i) d) al co da td (i : Int) d) n td (i : Int)) 0 : Int) = adC pa sp al co da mo n td d st mr i := Int.add_zero _
            have hl : lv_has ls 5 [(4, .int (zI 0)), (3, .int (zI (i : Int))), (2, .int (zI (adC pa sp al co da mo n td d st mr i + smF (wtF mo (lmM (adM pa sp al co da n td d st mr i) (goF pa sp n (adS pa sp al n d st i) d) al co da td (i : Int) d) n td (i : Int)) 0))), (0, .ref (q 0)), (1, .int (zI d))] := by rw [e_26]; exact hl
            exact L38_13 (180 + 1) 0 (Nat.zero_le _) (by omega) _ _ _ hP hS hl
          · have c_10 := c_10
            refine lv_goto (tgt := 75) hx hb dX3_allDays_26 (by decide) ?_
            refine zr_iinc (v := (i : Int) + 1) (lv' := [(3, .int (zI ((i : Int) + 1))), (2, .int (zI (adC pa sp al co da mo n td d st mr i))), (0, .ref (q 0)), (1, .int (zI d))]) hx hb dX3_allDays_75 hl (k := 0) rfl rfl (by decide) rfl (fun ls hl => ?_)
            refine lv_goto (tgt := 4) hx hb dX3_allDays_78 (by decide) ?_
            have hl := lv_sub hl (l' := [(3, .int (zI ((i : Int) + 1))), (2, .int (zI (adC pa sp al co da mo n td d st mr i))), (0, .ref (q 0)), (1, .int (zI d))]) [0, 1, 2, 3] rfl
            have e_27 : ((((i + 1) : Nat) : Int) : Int) = (i : Int) + 1 := by omega
            have e_28 : (adC pa sp al co da mo n td d st mr (i + 1) : Int) = adC pa sp al co da mo n td d st mr i := by first | exact adC_n (by omega) | exact adC_y ⟨by omega, by omega⟩
            have hl : lv_has ls 5 [(3, .int (zI (((i + 1) : Nat) : Int))), (2, .int (zI (adC pa sp al co da mo n td d st mr (i + 1)))), (0, .ref (q 0)), (1, .int (zI d))] := by rw [e_27, e_28]; exact hl
            have e_29 : (adS pa sp al n d st (i + 1) : Int → Int) = adS pa sp al n d st i := by first | exact adS_n (by omega) | exact adS_y ⟨by omega, by omega⟩
            have hP : va_P D vwCl (wM cI cZ q pa sp al co da mo (adS pa sp al n d st (i + 1)) (adM pa sp al co da n td d st mr i) th n td wn) H := by rw [e_29]; exact hP
            have e_30 : (adM pa sp al co da n td d st mr (i + 1) : Int → Int) = adM pa sp al co da n td d st mr i := by first | exact adM_n (by omega) | exact adM_y ⟨by omega, by omega⟩
            have hP : va_P D vwCl (wM cI cZ q pa sp al co da mo (adS pa sp al n d st (i + 1)) (adM pa sp al co da n td d st mr (i + 1)) th n td wn) H := by rw [e_30]; exact hP
            exact ih_i (i + 1) (by omega) (by omega) _ _ _ hP hS hl
  have hl := lv_sub hl (l' := [(3, .int (zI 0)), (2, .int (zI 0)), (0, .ref (q 0)), (1, .int (zI d))]) [0, 1, 2, 3] rfl
  have e_31 : (adC pa sp al co da mo n td d st mr 0 : Int) = 0 := rfl
  have hl : lv_has ls 5 [(3, .int (zI 0)), (2, .int (zI (adC pa sp al co da mo n td d st mr 0))), (0, .ref (q 0)), (1, .int (zI d))] := by rw [e_31]; exact hl
  have e_32 : (adS pa sp al n d st 0 : Int → Int) = st := rfl
  have hP : va_P D vwCl (wM cI cZ q pa sp al co da mo (adS pa sp al n d st 0) mr th n td wn) H := by rw [e_32]; exact hP
  have e_33 : (adM pa sp al co da n td d st mr 0 : Int → Int) = mr := rfl
  have hP : va_P D vwCl (wM cI cZ q pa sp al co da mo (adS pa sp al n d st 0) (adM pa sp al co da n td d st mr 0) th n td wn) H := by rw [e_33]; exact hP
  exact L4_1 (n + 1) 0 (Nat.zero_le _) (by omega) _ _ _ hP hS hl
set_option maxHeartbeats 4000000 in
set_option maxRecDepth 100000 in
theorem kX3_heaviest (l : Launch) (D : va_G) (cI cZ : ClassId) (q : Nat → Nat) (hN : (zLM q).Nodup) (pa : Int → Int) (sp : Int → Int) (al : Int → Int) (co : Int → Int) (da : Int → Int) (mo : Int → Int) (st : Int → Int) (mr : Int → Int) (th : Int) (n : Nat) (td : Int) (wn : Int) (hpa : ∀ j : Int, -1 ≤ pa j ∧ pa j ≤ 15) (hsp : ∀ j : Int, -1 ≤ sp j ∧ sp j ≤ 15) (hal : ∀ j : Int, 0 ≤ al j ∧ al j ≤ 1) (hco : ∀ j : Int, 0 ≤ co j ∧ co j ≤ 5) (hda : ∀ j : Int, 0 ≤ da j ∧ da j ≤ 60) (hmo : ∀ j : Int, -1 ≤ mo j ∧ mo j ≤ 1000000) (hst : ∀ j : Int, -1 ≤ st j ∧ st j ≤ 4) (hmr : ∀ j : Int, -1 ≤ mr j ∧ mr j ≤ 1000000) (hn : n ≤ 16) (htd : 0 ≤ td ∧ td ≤ 1000000) : zM l yX3_heaviest wsX3_heaviest ({ frames := 5, cells := 0, slots := 0, locals := 110 }) D [(cI, .int), (cZ, .boolean)] [.ref (q 0)] (wM cI cZ q pa sp al co da mo st mr th n td wn) (wM cI cZ q pa sp al co da mo (heS pa sp al n st n) (heM pa sp al co da n td st mr n) th n td wn) (some (.int (zI (hbF (heV pa sp al co da mo n td st mr) n)))) (zLM q) := by
  refine Met.ofW (cc := cX3_heaviest) (maxL := 5) (ret := (some .int)) (by decide) rfl ?_
  intro p0 e9 s9 m9 ag9 below meth c9 s₁ B hml hv
  obtain ⟨hav, hP, hK⟩ := hv
  have hx := B.exec
  have hb := B.bytes
  have hr := B.returns
  have hts := atoms_spec (ws := wsX3_heaviest) B.pre
  have hown : s9.vm.findClass RX3 = some m9.cls := findClass_of_methodNamed B.named
  have hlocks := B.notSynchronized
  have hA : ∀ a ∈ zLM q, (fun a => a ∈ zLM q) a := fun _ h => h
  have hin3 : ∀ w ∈ u_ws RX3 TX3 12, w ∈ wsX3_heaviest := by decide +kernel
  have hl := lv_entry ([.ref (q 0)]) (n := 5) (Nat.le_of_ble_eq_true rfl)
  have hE : entryFrame m9 ag9 5 = F0 m9 0 ((lg_sl ([.ref (q 0)]) ++ List.replicate (5 - (lg_sl ([.ref (q 0)])).length) Slot.unset).toArray) [] := by rw [hav]; exact lg_entry_eq m9 _ _
  obtain ⟨Q0, hQ0⟩ : ∃ Q0, Q0 = MQ below (zQ D (wM cI cZ q pa sp al co da mo (heS pa sp al n st n) (heM pa sp al co da n td st mr n) th n td wn) (some (.int (zI (hbF (heV pa sp al co da mo n td st mr) n)))) (zLM q)) ag9 s9 0 0 (fun a => a ∈ zLM q) := ⟨_, rfl⟩
  show W p0 l e9 ({ frames := 5, cells := 0, slots := 0, locals := 110 }) s9 m9 ag9 below meth c9 s9.heap [] 0 0 (MQ below (zQ D (wM cI cZ q pa sp al co da mo (heS pa sp al n st n) (heM pa sp al co da n td st mr n) th n td wn) (some (.int (zI (hbF (heV pa sp al co da mo n td st mr) n)))) (zLM q)) ag9 s9 0 0 (fun a => a ∈ zLM q)) _
  rw [hE, ← hQ0]
  have hS : va_S (fun a => a ∈ zLM q) s9.heap s9.heap [] := va_S.rf
  generalize hH0 : s9.heap = H at hP ⊢
  have hS : va_S (fun a => a ∈ zLM q) s9.heap H [] := by rw [hH0] at hS ⊢; exact hS
  generalize (lg_sl ([.ref (q 0)]) ++ List.replicate (5 - (lg_sl ([.ref (q 0)])).length) Slot.unset).toArray = ls at hl ⊢
  have hl : lv_has ls 5 [(0, .ref (q 0))] := hl
  refine zr_iconst hx hb dX3_heaviest_0 ?_
  refine lv_istore_n (lv' := [(1, .int (zI (-1))), (0, .ref (q 0))]) hx hb dX3_heaviest_1 rfl hl (by decide) rfl (fun ls hl => ?_)
  refine zr_iconst hx hb dX3_heaviest_2 ?_
  refine lv_istore_n (lv' := [(2, .int (zI (-1))), (1, .int (zI (-1))), (0, .ref (q 0))]) hx hb dX3_heaviest_3 rfl hl (by decide) rfl (fun ls hl => ?_)
  refine zr_iconst hx hb dX3_heaviest_4 ?_
  refine lv_istore_n (lv' := [(3, .int (zI 0)), (2, .int (zI (-1))), (1, .int (zI (-1))), (0, .ref (q 0))]) hx hb dX3_heaviest_5 rfl hl (by decide) rfl (fun ls hl => ?_)
  have L6_1 : ∀ (kf i : Nat), i ≤ n → n - i < kf → ∀ (H : Heap) (locs : List Loc) (ls : Array Slot), va_P D vwCl (wM cI cZ q pa sp al co da mo (heS pa sp al n st i) (heM pa sp al co da n td st mr i) th n td wn) H → va_S (fun a => a ∈ zLM q) s9.heap H locs → lv_has ls 5 [(3, .int (zI (i : Int))), (2, .int (zI (hmF (heV pa sp al co da mo n td st mr) i))), (1, .int (zI (hbF (heV pa sp al co da mo n td st mr) i))), (0, .ref (q 0))] → W p0 l e9 ({ frames := 5, cells := 0, slots := 0, locals := 110 }) s9 m9 ag9 below meth c9 H locs 0 0 Q0 (F0 m9 6 ls []) := by
    intro kf
    induction kf with
    | zero => intro i h1 h2; omega
    | succ kf ih =>
      intro i hi_i hk_i H locs ls hP hS hl
      have ih_i := ih
      clear ih
      have hm := hmF_bd (v := (heV pa sp al co da mo n td st mr)) (B := 180 * (n : Int)) (by omega) (fun i => heV_bd pa sp al co da mo n td st mr i) i
      refine lv_iload_n hx hb dX3_heaviest_6 rfl (lv_at hl 0 rfl) ?_
      refine lv_aload_n hx hb dX3_heaviest_7 rfl (lv_at hl 3 rfl) ?_
      refine va_get (D := D) (ci := 3) (v := .int (zI (n : Int))) (C := RX3) (T := TX3) (N := 12) hx hb hts hin3 hown hK hP 0 rfl rfl 1 (by decide) (hts (.fieldLink RX3 39 "MourningRibbonsModel" "people" "I") (by decide +kernel)) (fun _ h9 => h9) rfl dX3_heaviest_8 ?_
      refine zr_icmp_ge (tgt := 54) hx hb dX3_heaviest_11 (by decide) ⟨by omega, by omega⟩ ⟨by omega, by omega⟩ (fun c_2 => ?_) (fun c_2 => ?_)
      · have c_2 := c_2
        have x_3 : i = n := by omega
        try rw [x_3] at hP
        try rw [x_3] at hl
        refine lv_iload_n hx hb dX3_heaviest_54 rfl (lv_at hl 2 rfl) ?_
        rw [hQ0]
        exact zret_i hx hb hr hlocks (rfl) hP hS dX3_heaviest_55
      · have c_2 := c_2
        refine lv_aload_n hx hb dX3_heaviest_14 rfl (lv_at hl 3 rfl) ?_
        refine va_get (D := D) (ci := 3) (v := .ref (q 3)) (C := RX3) (T := TX3) (N := 12) hx hb hts hin3 hown hK hP 0 rfl rfl 4 (by decide) (hts (.fieldLink RX3 16 "MourningRibbonsModel" "isAlive" "[Z") (by decide +kernel)) (fun _ h9 => h9) rfl dX3_heaviest_15 ?_
        refine lv_iload_n hx hb dX3_heaviest_18 rfl (lv_at hl 0 rfl) ?_
        refine zr_zald (f := al) (n := 16) hx hb hK hP 3 1 rfl rfl (by decide) (i := (i : Int)) (by omega) (by omega) dX3_heaviest_19 ?_
        have b_4 := hal (i : Int)
        refine zr_if_eq (tgt := 31) hx hb dX3_heaviest_20 (by decide) ⟨by omega, by omega⟩ (fun c_5 => ?_) (fun c_5 => ?_)
        · have c_5 := c_5
          refine zr_iconst hx hb dX3_heaviest_31 ?_
          refine lv_istore (lv' := [(4, .int (zI (-1))), (3, .int (zI (i : Int))), (2, .int (zI (hmF (heV pa sp al co da mo n td st mr) i))), (1, .int (zI (hbF (heV pa sp al co da mo n td st mr) i))), (0, .ref (q 0))]) hx hb dX3_heaviest_32 hl (by decide) rfl (fun ls hl => ?_)
          have hv9 : heV pa sp al co da mo n td st mr i = (-1) := by first | exact heV_y (by omega) | exact heV_n (by omega)
          refine lv_iload hx hb dX3_heaviest_34 (lv_at hl 0 rfl) ?_
          refine lv_iload_n hx hb dX3_heaviest_36 rfl (lv_at hl 2 rfl) ?_
          refine zr_icmp_gt (tgt := 43) hx hb dX3_heaviest_37 (by decide) ⟨by decide, by decide⟩ ⟨by omega, by omega⟩ (fun c_6 => ?_) (fun c_6 => ?_)
          · have c_6 := c_6
            refine lv_iload_n hx hb dX3_heaviest_43 rfl (lv_at hl 1 rfl) ?_
            refine lv_istore_n (lv' := [(1, .int (zI (i : Int))), (4, .int (zI (-1))), (3, .int (zI (i : Int))), (2, .int (zI (hmF (heV pa sp al co da mo n td st mr) i))), (0, .ref (q 0))]) hx hb dX3_heaviest_44 rfl hl (by decide) rfl (fun ls hl => ?_)
            refine lv_iload hx hb dX3_heaviest_45 (lv_at hl 1 rfl) ?_
            refine lv_istore_n (lv' := [(2, .int (zI (-1))), (1, .int (zI (i : Int))), (4, .int (zI (-1))), (3, .int (zI (i : Int))), (0, .ref (q 0))]) hx hb dX3_heaviest_47 rfl hl (by decide) rfl (fun ls hl => ?_)
            refine zr_iinc (v := (i : Int) + 1) (lv' := [(3, .int (zI ((i : Int) + 1))), (2, .int (zI (-1))), (1, .int (zI (i : Int))), (4, .int (zI (-1))), (0, .ref (q 0))]) hx hb dX3_heaviest_48 hl (k := 3) rfl rfl (by decide) rfl (fun ls hl => ?_)
            refine lv_goto (tgt := 6) hx hb dX3_heaviest_51 (by decide) ?_
            have hl := lv_sub hl (l' := [(3, .int (zI ((i : Int) + 1))), (2, .int (zI (-1))), (1, .int (zI (i : Int))), (0, .ref (q 0))]) [0, 1, 2, 4] rfl
            have e_7 : ((((i + 1) : Nat) : Int) : Int) = (i : Int) + 1 := by omega
            have e_8 : (hmF (heV pa sp al co da mo n td st mr) (i + 1) : Int) = (-1) := by first | (rw [hmF_y (by omega)]; exact hv9) | exact hmF_n (by omega)
            have e_9 : (hbF (heV pa sp al co da mo n td st mr) (i + 1) : Int) = (i : Int) := by first | exact hbF_y (by omega) | exact hbF_n (by omega)
            have hl : lv_has ls 5 [(3, .int (zI (((i + 1) : Nat) : Int))), (2, .int (zI (hmF (heV pa sp al co da mo n td st mr) (i + 1)))), (1, .int (zI (hbF (heV pa sp al co da mo n td st mr) (i + 1)))), (0, .ref (q 0))] := by rw [e_7, e_8, e_9]; exact hl
            have e_10 : (heS pa sp al n st (i + 1) : Int → Int) = heS pa sp al n st i := by first | exact heS_y (by omega) | exact heS_n (by omega)
            have hP : va_P D vwCl (wM cI cZ q pa sp al co da mo (heS pa sp al n st (i + 1)) (heM pa sp al co da n td st mr i) th n td wn) H := by rw [e_10]; exact hP
            have e_11 : (heM pa sp al co da n td st mr (i + 1) : Int → Int) = heM pa sp al co da n td st mr i := by first | exact heM_y (by omega) | exact heM_n (by omega)
            have hP : va_P D vwCl (wM cI cZ q pa sp al co da mo (heS pa sp al n st (i + 1)) (heM pa sp al co da n td st mr (i + 1)) th n td wn) H := by rw [e_11]; exact hP
            exact ih_i (i + 1) (by omega) (by omega) _ _ _ hP hS hl
          · have c_6 := c_6
            refine lv_goto (tgt := 48) hx hb dX3_heaviest_40 (by decide) ?_
            refine zr_iinc (v := (i : Int) + 1) (lv' := [(3, .int (zI ((i : Int) + 1))), (4, .int (zI (-1))), (2, .int (zI (hmF (heV pa sp al co da mo n td st mr) i))), (1, .int (zI (hbF (heV pa sp al co da mo n td st mr) i))), (0, .ref (q 0))]) hx hb dX3_heaviest_48 hl (k := 1) rfl rfl (by decide) rfl (fun ls hl => ?_)
            refine lv_goto (tgt := 6) hx hb dX3_heaviest_51 (by decide) ?_
            have hl := lv_sub hl (l' := [(3, .int (zI ((i : Int) + 1))), (2, .int (zI (hmF (heV pa sp al co da mo n td st mr) i))), (1, .int (zI (hbF (heV pa sp al co da mo n td st mr) i))), (0, .ref (q 0))]) [0, 2, 3, 4] rfl
            have e_12 : ((((i + 1) : Nat) : Int) : Int) = (i : Int) + 1 := by omega
            have e_13 : (hmF (heV pa sp al co da mo n td st mr) (i + 1) : Int) = hmF (heV pa sp al co da mo n td st mr) i := by first | (rw [hmF_y (by omega)]; exact hv9) | exact hmF_n (by omega)
            have e_14 : (hbF (heV pa sp al co da mo n td st mr) (i + 1) : Int) = hbF (heV pa sp al co da mo n td st mr) i := by first | exact hbF_y (by omega) | exact hbF_n (by omega)
            have hl : lv_has ls 5 [(3, .int (zI (((i + 1) : Nat) : Int))), (2, .int (zI (hmF (heV pa sp al co da mo n td st mr) (i + 1)))), (1, .int (zI (hbF (heV pa sp al co da mo n td st mr) (i + 1)))), (0, .ref (q 0))] := by rw [e_12, e_13, e_14]; exact hl
            have e_15 : (heS pa sp al n st (i + 1) : Int → Int) = heS pa sp al n st i := by first | exact heS_y (by omega) | exact heS_n (by omega)
            have hP : va_P D vwCl (wM cI cZ q pa sp al co da mo (heS pa sp al n st (i + 1)) (heM pa sp al co da n td st mr i) th n td wn) H := by rw [e_15]; exact hP
            have e_16 : (heM pa sp al co da n td st mr (i + 1) : Int → Int) = heM pa sp al co da n td st mr i := by first | exact heM_y (by omega) | exact heM_n (by omega)
            have hP : va_P D vwCl (wM cI cZ q pa sp al co da mo (heS pa sp al n st (i + 1)) (heM pa sp al co da n td st mr (i + 1)) th n td wn) H := by rw [e_16]; exact hP
            exact ih_i (i + 1) (by omega) (by omega) _ _ _ hP hS hl
        · have c_5 := c_5
          refine lv_aload_n hx hb dX3_heaviest_23 rfl (lv_at hl 3 rfl) ?_
          refine lv_iload_n hx hb dX3_heaviest_24 rfl (lv_at hl 0 rfl) ?_
          refine zcallV (ci := 3) (q0 := 0) (cq := (RX3, TX3, 12)) (As := [.int (zI (i : Int))]) (rest := []) ⟨hx, hb, hml, hown, hts⟩ hK (kX3_allDays l D cI cZ q hN pa sp al co da mo (heS pa sp al n st i) (heM pa sp al co da n td st mr i) th n td wn hpa hsp hal hco hda hmo (heS_bd hst i) (heM_bd hmr htd hco hda i) hn htd (i : Int) (by omega)) (cwV 1 hts gX3_heaviest_X3_allDays rfl rfl rfl (by decide +kernel) ⟨Nat.le_of_ble_eq_true rfl, Nat.le_of_ble_eq_true rfl⟩) hP hS hA rfl rfl rfl hl.1 rfl (Nat.le_of_ble_eq_true rfl) dX3_heaviest_25 ⟨Nat.zero_le _, Nat.zero_le _⟩ (fun H locs hP hS _ _ => ?_)
          have g_17 : ∀ j : Int, -1 ≤ (adS pa sp al n (i : Int) (heS pa sp al n st i) n) j ∧ (adS pa sp al n (i : Int) (heS pa sp al n st i) n) j ≤ 4 := adS_bd (heS_bd hst i) n
          have g_18 : ∀ j : Int, -1 ≤ (adM pa sp al co da n td (i : Int) (heS pa sp al n st i) (heM pa sp al co da n td st mr i) n) j ∧ (adM pa sp al co da n td (i : Int) (heS pa sp al n st i) (heM pa sp al co da n td st mr i) n) j ≤ 1000000 := adM_bd (heM_bd hmr htd hco hda i) htd hco hda n
          refine W.eq (g2 := F0 m9 28 ls [.int (zI (adC pa sp al co da mo n td (i : Int) (heS pa sp al n st i) (heM pa sp al co da n td st mr i) n))]) rfl ?_
          have f_19 := adC_bd pa sp al co da mo n td (i : Int) (heS pa sp al n st i) (heM pa sp al co da n td st mr i) n
          refine lv_goto (tgt := 32) hx hb dX3_heaviest_28 (by decide) ?_
          refine lv_istore (lv' := [(4, .int (zI (adC pa sp al co da mo n td (i : Int) (heS pa sp al n st i) (heM pa sp al co da n td st mr i) n))), (3, .int (zI (i : Int))), (2, .int (zI (hmF (heV pa sp al co da mo n td st mr) i))), (1, .int (zI (hbF (heV pa sp al co da mo n td st mr) i))), (0, .ref (q 0))]) hx hb dX3_heaviest_32 hl (by decide) rfl (fun ls hl => ?_)
          have hv9 : heV pa sp al co da mo n td st mr i = adC pa sp al co da mo n td (i : Int) (heS pa sp al n st i) (heM pa sp al co da n td st mr i) n := by first | exact heV_y (by omega) | exact heV_n (by omega)
          refine lv_iload hx hb dX3_heaviest_34 (lv_at hl 0 rfl) ?_
          refine lv_iload_n hx hb dX3_heaviest_36 rfl (lv_at hl 2 rfl) ?_
          refine zr_icmp_gt (tgt := 43) hx hb dX3_heaviest_37 (by decide) ⟨by omega, by omega⟩ ⟨by omega, by omega⟩ (fun c_20 => ?_) (fun c_20 => ?_)
          · have c_20 := c_20
            refine lv_iload_n hx hb dX3_heaviest_43 rfl (lv_at hl 1 rfl) ?_
            refine lv_istore_n (lv' := [(1, .int (zI (i : Int))), (4, .int (zI (adC pa sp al co da mo n td (i : Int) (heS pa sp al n st i) (heM pa sp al co da n td st mr i) n))), (3, .int (zI (i : Int))), (2, .int (zI (hmF (heV pa sp al co da mo n td st mr) i))), (0, .ref (q 0))]) hx hb dX3_heaviest_44 rfl hl (by decide) rfl (fun ls hl => ?_)
            refine lv_iload hx hb dX3_heaviest_45 (lv_at hl 1 rfl) ?_
            refine lv_istore_n (lv' := [(2, .int (zI (adC pa sp al co da mo n td (i : Int) (heS pa sp al n st i) (heM pa sp al co da n td st mr i) n))), (1, .int (zI (i : Int))), (4, .int (zI (adC pa sp al co da mo n td (i : Int) (heS pa sp al n st i) (heM pa sp al co da n td st mr i) n))), (3, .int (zI (i : Int))), (0, .ref (q 0))]) hx hb dX3_heaviest_47 rfl hl (by decide) rfl (fun ls hl => ?_)
            refine zr_iinc (v := (i : Int) + 1) (lv' := [(3, .int (zI ((i : Int) + 1))), (2, .int (zI (adC pa sp al co da mo n td (i : Int) (heS pa sp al n st i) (heM pa sp al co da n td st mr i) n))), (1, .int (zI (i : Int))), (4, .int (zI (adC pa sp al co da mo n td (i : Int) (heS pa sp al n st i) (heM pa sp al co da n td st mr i) n))), (0, .ref (q 0))]) hx hb dX3_heaviest_48 hl (k := 3) rfl rfl (by decide) rfl (fun ls hl => ?_)
            refine lv_goto (tgt := 6) hx hb dX3_heaviest_51 (by decide) ?_
            have hl := lv_sub hl (l' := [(3, .int (zI ((i : Int) + 1))), (2, .int (zI (adC pa sp al co da mo n td (i : Int) (heS pa sp al n st i) (heM pa sp al co da n td st mr i) n))), (1, .int (zI (i : Int))), (0, .ref (q 0))]) [0, 1, 2, 4] rfl
            have e_21 : ((((i + 1) : Nat) : Int) : Int) = (i : Int) + 1 := by omega
            have e_22 : (hmF (heV pa sp al co da mo n td st mr) (i + 1) : Int) = adC pa sp al co da mo n td (i : Int) (heS pa sp al n st i) (heM pa sp al co da n td st mr i) n := by first | (rw [hmF_y (by omega)]; exact hv9) | exact hmF_n (by omega)
            have e_23 : (hbF (heV pa sp al co da mo n td st mr) (i + 1) : Int) = (i : Int) := by first | exact hbF_y (by omega) | exact hbF_n (by omega)
            have hl : lv_has ls 5 [(3, .int (zI (((i + 1) : Nat) : Int))), (2, .int (zI (hmF (heV pa sp al co da mo n td st mr) (i + 1)))), (1, .int (zI (hbF (heV pa sp al co da mo n td st mr) (i + 1)))), (0, .ref (q 0))] := by rw [e_21, e_22, e_23]; exact hl
            have e_24 : (heS pa sp al n st (i + 1) : Int → Int) = adS pa sp al n (i : Int) (heS pa sp al n st i) n := by first | exact heS_y (by omega) | exact heS_n (by omega)
            have hP : va_P D vwCl (wM cI cZ q pa sp al co da mo (heS pa sp al n st (i + 1)) (adM pa sp al co da n td (i : Int) (heS pa sp al n st i) (heM pa sp al co da n td st mr i) n) th n td wn) H := by rw [e_24]; exact hP
            have e_25 : (heM pa sp al co da n td st mr (i + 1) : Int → Int) = adM pa sp al co da n td (i : Int) (heS pa sp al n st i) (heM pa sp al co da n td st mr i) n := by first | exact heM_y (by omega) | exact heM_n (by omega)
            have hP : va_P D vwCl (wM cI cZ q pa sp al co da mo (heS pa sp al n st (i + 1)) (heM pa sp al co da n td st mr (i + 1)) th n td wn) H := by rw [e_25]; exact hP
            exact ih_i (i + 1) (by omega) (by omega) _ _ _ hP hS hl
          · have c_20 := c_20
            refine lv_goto (tgt := 48) hx hb dX3_heaviest_40 (by decide) ?_
            refine zr_iinc (v := (i : Int) + 1) (lv' := [(3, .int (zI ((i : Int) + 1))), (4, .int (zI (adC pa sp al co da mo n td (i : Int) (heS pa sp al n st i) (heM pa sp al co da n td st mr i) n))), (2, .int (zI (hmF (heV pa sp al co da mo n td st mr) i))), (1, .int (zI (hbF (heV pa sp al co da mo n td st mr) i))), (0, .ref (q 0))]) hx hb dX3_heaviest_48 hl (k := 1) rfl rfl (by decide) rfl (fun ls hl => ?_)
            refine lv_goto (tgt := 6) hx hb dX3_heaviest_51 (by decide) ?_
            have hl := lv_sub hl (l' := [(3, .int (zI ((i : Int) + 1))), (2, .int (zI (hmF (heV pa sp al co da mo n td st mr) i))), (1, .int (zI (hbF (heV pa sp al co da mo n td st mr) i))), (0, .ref (q 0))]) [0, 2, 3, 4] rfl
            have e_26 : ((((i + 1) : Nat) : Int) : Int) = (i : Int) + 1 := by omega
            have e_27 : (hmF (heV pa sp al co da mo n td st mr) (i + 1) : Int) = hmF (heV pa sp al co da mo n td st mr) i := by first | (rw [hmF_y (by omega)]; exact hv9) | exact hmF_n (by omega)
            have e_28 : (hbF (heV pa sp al co da mo n td st mr) (i + 1) : Int) = hbF (heV pa sp al co da mo n td st mr) i := by first | exact hbF_y (by omega) | exact hbF_n (by omega)
            have hl : lv_has ls 5 [(3, .int (zI (((i + 1) : Nat) : Int))), (2, .int (zI (hmF (heV pa sp al co da mo n td st mr) (i + 1)))), (1, .int (zI (hbF (heV pa sp al co da mo n td st mr) (i + 1)))), (0, .ref (q 0))] := by rw [e_26, e_27, e_28]; exact hl
            have e_29 : (heS pa sp al n st (i + 1) : Int → Int) = adS pa sp al n (i : Int) (heS pa sp al n st i) n := by first | exact heS_y (by omega) | exact heS_n (by omega)
            have hP : va_P D vwCl (wM cI cZ q pa sp al co da mo (heS pa sp al n st (i + 1)) (adM pa sp al co da n td (i : Int) (heS pa sp al n st i) (heM pa sp al co da n td st mr i) n) th n td wn) H := by rw [e_29]; exact hP
            have e_30 : (heM pa sp al co da n td st mr (i + 1) : Int → Int) = adM pa sp al co da n td (i : Int) (heS pa sp al n st i) (heM pa sp al co da n td st mr i) n := by first | exact heM_y (by omega) | exact heM_n (by omega)
            have hP : va_P D vwCl (wM cI cZ q pa sp al co da mo (heS pa sp al n st (i + 1)) (heM pa sp al co da n td st mr (i + 1)) th n td wn) H := by rw [e_30]; exact hP
            exact ih_i (i + 1) (by omega) (by omega) _ _ _ hP hS hl
  have hl := lv_sub hl (l' := [(3, .int (zI 0)), (2, .int (zI (-1))), (1, .int (zI (-1))), (0, .ref (q 0))]) [0, 1, 2, 3] rfl
  have e_31 : (hmF (heV pa sp al co da mo n td st mr) 0 : Int) = (-1) := rfl
  have e_32 : (hbF (heV pa sp al co da mo n td st mr) 0 : Int) = (-1) := rfl
  have hl : lv_has ls 5 [(3, .int (zI 0)), (2, .int (zI (hmF (heV pa sp al co da mo n td st mr) 0))), (1, .int (zI (hbF (heV pa sp al co da mo n td st mr) 0))), (0, .ref (q 0))] := by rw [e_31, e_32]; exact hl
  have e_33 : (heS pa sp al n st 0 : Int → Int) = st := rfl
  have hP : va_P D vwCl (wM cI cZ q pa sp al co da mo (heS pa sp al n st 0) mr th n td wn) H := by rw [e_33]; exact hP
  have e_34 : (heM pa sp al co da n td st mr 0 : Int → Int) = mr := rfl
  have hP : va_P D vwCl (wM cI cZ q pa sp al co da mo (heS pa sp al n st 0) (heM pa sp al co da n td st mr 0) th n td wn) H := by rw [e_34]; exact hP
  exact L6_1 (n + 1) 0 (Nat.zero_le _) (by omega) _ _ _ hP hS hl
