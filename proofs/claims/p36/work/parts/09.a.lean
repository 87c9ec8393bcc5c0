/-! the law's own small methods; contracts with more of the start -/
def zGE (l : Launch) (y : MethodName) (ws : List Cond) (rm : Room) (D : va_G) (cI cZ c1 c2 : ClassId) (av : List Value) (sz : Nat) (E : State → Prop) (Pre : Heap → Prop) (Post : Option Value → Heap → Prop) (free : Nat → Prop) (mc ms : Nat) : Prop :=
  Met l y ws rm (va_Pc av (fun U => U.heap.size = sz ∧ Pre U.heap ∧ va_K D vwCl [(cI, .int), (cZ, .boolean)] U ∧ zKA cI c1 c2 U ∧ E U)) (fun _ st o t => (∃ v, o = .returned v ∧ Post v t.heap) ∧ va_F free st t) mc ms free
/-- what doesn't hang on the frames -/
def zBl (E : State → Prop) : Prop := ∀ (a : Array Value) (U : State) (g : JFrame) (mk : MethodId), E U → E (U.calling g mk a)
theorem zBl.X {b N : Nat} {xs : Nat → Int32} : zBl (fun U => va_X b N xs U U.heap) := fun a U g mk h => va_X.moved (u := U) (U := U.calling g mk a) (Vm.Alike.refl U.vm) h
section ZL7
variable {p : Program} {l : Launch} {e : Env} {R : Room} {s : State} {m : MethodId} {args : Array Value} {below : List Frame} {meth : Method} {c : Code} {H : Heap} {locs : List Loc} {cells slots : Nat} {Q : State → Prop}
variable {pc : Nat} {ls : Array Slot} {rest st0 As : List Value} {cc bytes : ByteArray} {D : va_G} {cI cZ c1 c2 : ClassId} {A free : Nat → Prop} {H0 : Heap} {E : State → Prop} {Pre : Heap → Prop} {Post : Option Value → Heap → Prop}
variable {y : MethodName} {maxL nL index n mc ms : Nat} {ret : Option FieldType} {ws Ts : List Cond} {rm : Room} {own : String}
theorem zblindE (hE : zBl E) {av : List Value} {sz : Nat} : FrameBlind (va_Pc av (fun U => U.heap.size = sz ∧ Pre U.heap ∧ va_K D vwCl [(cI, .int), (cZ, .boolean)] U ∧ zKA cI c1 c2 U ∧ E U)) := fun a U g mk q => by
  obtain ⟨q0, q1, qP, qK, qA, qE⟩ := q
  exact ⟨q0, q1, qP, va_K.moved (u := U) (U := U.calling g mk a) (Vm.Alike.refl U.vm) qK, zKA.moved (u := U) (U := U.calling g mk a) (Vm.Alike.refl U.vm) qA, hE a U g mk qE⟩
theorem zcallGE (S : CallFix p m c cc nL s args Ts own) (hK : va_K D vwCl [(cI, .int), (cZ, .boolean)] s) (hQ : zKA cI c1 c2 s) (hM : zGE l y ws rm D cI cZ c1 c2 As H.size E Pre Post free mc ms) (cw : CallB R s args own index y bytes maxL ret ws rm mc ms n ∧ (Cond.static y).before args s = true) (hB : zBl E) (hE : ∀ U : State, U.heap = H → s.WarmedH U.vm → E U) (hPre : Pre H) (hS : va_S A H0 H locs) (hA : ∀ q, free q → A q)
    (hn : As.length = n) (hsz : ls.size = nL) (hst : st0 = As.reverse ++ rest) (hro : (rest.map fun v => v.category).sum ≤ 8) (hdg : decode cc pc = .ok (.invokestatic index, 3)) (hf : cells + mc ≤ R.cells ∧ slots + ms ≤ R.slots)
    (kk : ∀ (v : Option Value) (H1 : Heap) (locs1 : List Loc), Post v H1 → H.size ≤ H1.size → (∀ q : Nat, q < H.size → ¬ free q → H1[q]? = H[q]?) → va_S A H0 H1 locs1 → W p l e R s m args below meth c H1 locs1 (cells + mc) (slots + ms) Q (F0 m (pc + 3) ls (v.toList ++ rest))) : W p l e R s m args below meth c H locs cells slots Q (F0 m pc ls st0) :=
  zcallG (va_runS (As := As) (rest := rest) S hM cw ⟨zblindE hB, fun U hU hW => ⟨rfl, by rw [hU], by rw [hU]; exact hPre, va_K.moved hW.alike hK, zKA.moved hW.alike hQ, hE U hU hW⟩⟩ rfl hn hsz hst (lv_room hro) hdg hf) hS hA kk
/-! ints of whatever value -/
theorem zx_ishr (hx : p.tables.exec = Jvm.exec) (hb : c.code = cc) {x y : Int32} (hdg : decode cc pc = .ok (.ishr, 1)) (kk : ∀ v : Int32, W p l e R s m args below meth c H locs cells slots Q (F0 m (pc + 1) ls (.int v :: rest))) : W p l e R s m args below meth c H locs cells slots Q (F0 m pc ls (.int y :: .int x :: rest)) := lv_ishr hx hb hdg (kk _)
theorem zx_iadd (hx : p.tables.exec = Jvm.exec) (hb : c.code = cc) {x y : Int32} (hdg : decode cc pc = .ok (.iadd, 1)) (kk : ∀ v : Int32, W p l e R s m args below meth c H locs cells slots Q (F0 m (pc + 1) ls (.int v :: rest))) : W p l e R s m args below meth c H locs cells slots Q (F0 m pc ls (.int y :: .int x :: rest)) := lv_iadd hx hb hdg (kk _)
theorem zx_imul (hx : p.tables.exec = Jvm.exec) (hb : c.code = cc) {x y : Int32} (hdg : decode cc pc = .ok (.imul, 1)) (kk : ∀ v : Int32, W p l e R s m args below meth c H locs cells slots Q (F0 m (pc + 1) ls (.int v :: rest))) : W p l e R s m args below meth c H locs cells slots Q (F0 m pc ls (.int y :: .int x :: rest)) := lv_imul hx hb hdg (kk _)
theorem zand31 (x : Int32) : ∃ z : Int, (0 ≤ z ∧ z ≤ 2147483647) ∧ x &&& 2147483647 = zI z := by
  obtain ⟨j, hj, e⟩ := pk_andE x (m := 2147483647) 31 (by decide)
  refine ⟨(j : Int), ⟨by omega, by omega⟩, ?_⟩
  rw [e]
  exact zlen
theorem zx_iand (hx : p.tables.exec = Jvm.exec) (hb : c.code = cc) {x : Int32} (hdg : decode cc pc = .ok (.iand, 1)) (kk : ∀ z : Int, 0 ≤ z ∧ z ≤ 2147483647 → W p l e R s m args below meth c H locs cells slots Q (F0 m (pc + 1) ls (.int (zI z) :: rest))) : W p l e R s m args below meth c H locs cells slots Q (F0 m pc ls (.int 2147483647 :: .int x :: rest)) := by
  refine lv_iand hx hb hdg ?_
  obtain ⟨z, h, e⟩ := zand31 x
  rw [e]
  exact kk z h
theorem zx_irem (hx : p.tables.exec = Jvm.exec) (hb : c.code = cc) {x y : Int} (h0 : 0 ≤ x ∧ x ≤ 2147483647) (h1 : 1 ≤ y ∧ y ≤ 1000) (hdg : decode cc pc = .ok (.irem, 1)) (kk : ∀ z : Int, 0 ≤ z → z < y → W p l e R s m args below meth c H locs cells slots Q (F0 m (pc + 1) ls (.int (zI z) :: rest))) : W p l e R s m args below meth c H locs cells slots Q (F0 m pc ls (.int (zI y) :: .int (zI x) :: rest)) := by
  refine lv_irem hx hb hdg (zI_ne0 (by omega) ⟨by omega, by omega⟩) ?_
  have ex : zI x = nI x.toNat := by rw [show x = ((x.toNat : Nat) : Int) by omega]; exact zlen.symm
  have ey : zI y = nI y.toNat := by rw [show y = ((y.toNat : Nat) : Int) by omega]; exact zlen.symm
  rw [ex, ey, pk_rem (a := x.toNat) (d := y.toNat) (by omega) (by omega) (by omega)]
  have h9 : x.toNat % y.toNat < y.toNat := Nat.mod_lt _ (by omega)
  rw [show nI (x.toNat % y.toNat) = zI ((x.toNat % y.toNat : Nat) : Int) from zlen]
  exact kk _ (by omega) (by omega)
end ZL7
section ZL8
variable {p : Program} {l : Launch} {e : Env} {R : Room} {s : State} {m : MethodId} {args : Array Value} {below : List Frame} {meth : Method} {c : Code} {H : Heap} {locs : List Loc} {cells slots : Nat} {Q : State → Prop}
variable {pc : Nat} {ls : Array Slot} {rest : List Value} {cc : ByteArray} {A free : Nat → Prop} {H0 : Heap} {Post : Option Value → Heap → Prop} {mc ms : Nat}
theorem zx_sld {b N : Nat} {xs : Nat → Int32} (hx : p.tables.exec = Jvm.exec) (hb : c.code = cc) (hX : va_X b N xs s H0) (hbl : b < H0.size) (hbA : ¬ A b) (hS : va_S A H0 H locs) {i : Int} (h0 : 0 ≤ i) (h1 : i < (N : Int)) (hN : N ≤ 65536) (hdg : decode cc pc = .ok (.iaload, 1))
    (kk : ∀ v : Int32, W p l e R s m args below meth c H locs cells slots Q (F0 m (pc + 1) ls (.int v :: rest))) : W p l e R s m args below meth c H locs cells slots Q (F0 m pc ls (.int (zI i) :: .ref b :: rest)) :=
  va_sld hx hb hX hbl hbA hS (zI_in h0 h1 hN) hdg (kk _)
theorem zr_slen {b N : Nat} {xs : Nat → Int32} (hx : p.tables.exec = Jvm.exec) (hb : c.code = cc) (hX : va_X b N xs s H0) (hbl : b < H0.size) (hbA : ¬ A b) (hS : va_S A H0 H locs) (hdg : decode cc pc = .ok (.arraylength, 1))
    (kk : W p l e R s m args below meth c H locs cells slots Q (F0 m (pc + 1) ls (.int (zI (N : Int)) :: rest))) : W p l e R s m args below meth c H locs cells slots Q (F0 m pc ls (.ref b :: rest)) :=
  va_slen hx hb hX hbl hbA hS hdg (by rw [show Int32.ofNat N = zI (N : Int) from zlen]; exact kk)
theorem zgret_x {v : Int32} (hx : p.tables.exec = Jvm.exec) (hb : c.code = cc) (hr : meth.sig.returnType = some .int) (hlocks : meth.locks = false) (hP : Post (some (.int v)) H) (hS : va_S free s.heap H locs) (hdg : decode cc pc = .ok (.ireturn, 1)) (h1 : cells ≤ mc) (h2 : slots ≤ ms) :
    W p l e R s m args below meth c H locs cells slots (MQ below (zGQ Post free) args s mc ms free) (F0 m pc ls [.int v]) := by
  rw [zI_of v] at hP ⊢
  exact zgret_i hx hb hr hlocks rfl hP hS hdg h1 h2
end ZL8
set_option maxHeartbeats 4000000 in
set_option maxRecDepth 100000 in
theorem kL_below (l : Launch) (D : va_G) (cI cZ c1 c2 : ClassId) (sz : Nat) (x : Int32) (k9 : Int) (hk8 : 1 ≤ k9 ∧ k9 ≤ 1000) : zG l yL_below wsL_below ({ frames := 0, cells := 0, slots := 0, locals := 0 } : Room) D cI cZ c1 c2 [.int x, .int (zI k9)] sz (fun H => True) (fun v H => ∃ z : Int, v = some (.int (zI z)) ∧ 0 ≤ z ∧ z < k9) (fun _ : Nat => False) (0) (0) := by
  refine Met.ofW (cc := cL_below) (maxL := 2) (ret := (some .int)) (by decide) rfl ?_
  intro p0 e9 s9 m9 ag9 below meth c9 s₁ B hml hv
  obtain ⟨hav, hsz, hPre, hK, hQ⟩ := hv
  subst hsz
  have hx := B.exec
  have hb := B.bytes
  have hr := B.returns
  have hts := atoms_spec (ws := wsL_below) B.pre
  have hown : s9.vm.findClass RL = some m9.cls := findClass_of_methodNamed B.named
  have hlocks := B.notSynchronized
  have hl := lv_entry ([.int x, .int (zI k9)]) (n := 2) (Nat.le_of_ble_eq_true rfl)
  have hE : entryFrame m9 ag9 2 = F0 m9 0 ((lg_sl ([.int x, .int (zI k9)]) ++ List.replicate (2 - (lg_sl ([.int x, .int (zI k9)])).length) Slot.unset).toArray) [] := by rw [hav]; exact lg_entry_eq m9 _ _
  obtain ⟨Q0, hQ0⟩ : ∃ Q0, Q0 = MQ below (zGQ (fun v H => ∃ z : Int, v = some (.int (zI z)) ∧ 0 ≤ z ∧ z < k9) (fun _ : Nat => False)) ag9 s9 (0) (0) (fun _ : Nat => False) := ⟨_, rfl⟩
  show W p0 l e9 ({ frames := 0, cells := 0, slots := 0, locals := 0 } : Room) s9 m9 ag9 below meth c9 s9.heap [] 0 0 (MQ below (zGQ (fun v H => ∃ z : Int, v = some (.int (zI z)) ∧ 0 ≤ z ∧ z < k9) (fun _ : Nat => False)) ag9 s9 (0) (0) (fun _ : Nat => False)) _
  rw [hE, ← hQ0]
  have hS : va_S (fun _ : Nat => False) s9.heap s9.heap [] := va_S.rf
  have hU : s9.heap.size ≤ s9.heap.size := Nat.le_refl _
  generalize (lg_sl ([.int x, .int (zI k9)]) ++ List.replicate (2 - (lg_sl ([.int x, .int (zI k9)])).length) Slot.unset).toArray = ls at hl ⊢
  have hl : lv_has ls 2 [(0, .int x), (1, .int (zI k9))] := hl
  refine lv_iload_n hx hb dL_below_0 rfl (lv_at hl 0 rfl) ?_
  refine lv_ldc hx hb hown (hts (.constant RL 7 2147483647) (by decide +kernel)) dL_below_1 ?_
  refine zx_iand hx hb dL_below_3 (fun z_1 hz_1 => ?_)
  refine lv_iload_n hx hb dL_below_4 rfl (lv_at hl 1 rfl) ?_
  refine zx_irem hx hb (by omega) (by omega) dL_below_5 (fun z_2 h0z_2 h1z_2 => ?_)
  rw [hQ0]
  exact zgret_i (z := z_2) hx hb hr hlocks (rfl) (⟨_, rfl, by omega, by omega⟩) hS dL_below_6 (by omega) (by omega)
set_option maxHeartbeats 4000000 in
set_option maxRecDepth 100000 in
theorem kL_cell (l : Launch) (D : va_G) (cI cZ c1 c2 : ClassId) (sz : Nat) (b : Nat) (N : Nat) (xs : Nat → Int32) (hN9 : N ≤ 260) (k9 : Int) (hk8 : 0 ≤ k9 ∧ k9 ≤ 1000) : zGE l yL_cell wsL_cell ({ frames := 0, cells := 0, slots := 0, locals := 0 } : Room) D cI cZ c1 c2 [.ref b, .int (zI k9)] sz (fun U => va_X b N xs U U.heap) (fun H => True) (fun v H => ∃ x : Int32, v = some (.int x)) (fun _ : Nat => False) (0) (0) := by
  refine Met.ofW (cc := cL_cell) (maxL := 2) (ret := (some .int)) (by decide) rfl ?_
  intro p0 e9 s9 m9 ag9 below meth c9 s₁ B hml hv
  obtain ⟨hav, hsz, hPre, hK, hQ, hEx⟩ := hv
  subst hsz
  have hx := B.exec
  have hb := B.bytes
  have hr := B.returns
  have hts := atoms_spec (ws := wsL_cell) B.pre
  have hown : s9.vm.findClass RL = some m9.cls := findClass_of_methodNamed B.named
  have hlocks := B.notSynchronized
  have hl := lv_entry ([.ref b, .int (zI k9)]) (n := 2) (Nat.le_of_ble_eq_true rfl)
  have hE : entryFrame m9 ag9 2 = F0 m9 0 ((lg_sl ([.ref b, .int (zI k9)]) ++ List.replicate (2 - (lg_sl ([.ref b, .int (zI k9)])).length) Slot.unset).toArray) [] := by rw [hav]; exact lg_entry_eq m9 _ _
  obtain ⟨Q0, hQ0⟩ : ∃ Q0, Q0 = MQ below (zGQ (fun v H => ∃ x : Int32, v = some (.int x)) (fun _ : Nat => False)) ag9 s9 (0) (0) (fun _ : Nat => False) := ⟨_, rfl⟩
  show W p0 l e9 ({ frames := 0, cells := 0, slots := 0, locals := 0 } : Room) s9 m9 ag9 below meth c9 s9.heap [] 0 0 (MQ below (zGQ (fun v H => ∃ x : Int32, v = some (.int x)) (fun _ : Nat => False)) ag9 s9 (0) (0) (fun _ : Nat => False)) _
  rw [hE, ← hQ0]
  have hS : va_S (fun _ : Nat => False) s9.heap s9.heap [] := va_S.rf
  have hU : s9.heap.size ≤ s9.heap.size := Nat.le_refl _
  generalize (lg_sl ([.ref b, .int (zI k9)]) ++ List.replicate (2 - (lg_sl ([.ref b, .int (zI k9)])).length) Slot.unset).toArray = ls at hl ⊢
  have hl : lv_has ls 2 [(0, .ref b), (1, .int (zI k9))] := hl
  have hX := hEx
  have hbl : b < s9.heap.size := by obtain ⟨_, h9, _⟩ := hX; exact (Array.getElem?_eq_some_iff.mp h9).1
  have hbA : ¬ (fun _ : Nat => False) b := fun h => h
  refine lv_iload_n hx hb dL_cell_0 rfl (lv_at hl 1 rfl) ?_
  refine lv_aload_n hx hb dL_cell_1 rfl (lv_at hl 0 rfl) ?_
  refine zr_slen hx hb hX hbl hbA hS dL_cell_2 ?_
  refine zr_icmp_ge (tgt := 12) hx hb dL_cell_3 (by decide) ⟨by omega, by omega⟩ ⟨by omega, by omega⟩ (fun c_1 => ?_) (fun c_1 => ?_)
  · have c_1 := c_1
    refine lv_ldc hx hb hown (hts (.constant RL 8 790386105) (by decide +kernel)) dL_cell_12 ?_
    refine lv_iload_n hx hb dL_cell_14 rfl (lv_at hl 1 rfl) ?_
    refine zr_iconst hx hb dL_cell_15 ?_
    refine zr_iadd (v := k9 + 3) hx hb rfl dL_cell_16 ?_
    refine zx_imul hx hb dL_cell_17 (fun x_2 => ?_)
    rw [hQ0]
    exact zgret_x hx hb hr hlocks (⟨_, rfl⟩) hS dL_cell_18 (by omega) (by omega)
  · have c_1 := c_1
    refine lv_aload_n hx hb dL_cell_6 rfl (lv_at hl 0 rfl) ?_
    refine lv_iload_n hx hb dL_cell_7 rfl (lv_at hl 1 rfl) ?_
    refine zx_sld hx hb hX hbl hbA hS (i := k9) (by omega) (by omega) (by omega) dL_cell_8 (fun x_3 => ?_)
    refine lv_goto (tgt := 18) hx hb dL_cell_9 (by decide) ?_
    rw [hQ0]
    exact zgret_x hx hb hr hlocks (⟨_, rfl⟩) hS dL_cell_18 (by omega) (by omega)
