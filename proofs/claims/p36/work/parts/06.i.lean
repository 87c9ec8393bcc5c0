/-! the constructors -/
def zq14 (a0 a1 a2 a3 a4 a5 a6 a7 a8 a9 b0 b1 b2 b3 : Nat) : Nat → Nat := fun k => match k with
  | 0 => a0 | 1 => a1 | 2 => a2 | 3 => a3 | 4 => a4 | 5 => a5 | 6 => a6 | 7 => a7 | 8 => a8 | 9 => a9 | 10 => b0 | 11 => b1 | 12 => b2 | _ => b3
def zq9 (a0 a1 a2 a3 a4 a5 a6 a7 a8 : Nat) : Nat → Nat := fun k => match k with
  | 0 => a0 | 1 => a1 | 2 => a2 | 3 => a3 | 4 => a4 | 5 => a5 | 6 => a6 | 7 => a7 | _ => a8
theorem zra_I {s : State} {c c' : ClassId} (h1 : va_RA s c .int) (h2 : va_RA s c' .int) : c = c' := by
  have e1 : s.vm.findClass ("[" ++ FieldType.int.toString) = some c := h1
  have e2 : s.vm.findClass ("[" ++ FieldType.int.toString) = some c' := h2
  exact Option.some.inj (e1.symm.trans e2)
theorem zra_Z {s : State} {c c' : ClassId} (h1 : va_RA s c .boolean) (h2 : va_RA s c' .boolean) : c = c' := by
  have e1 : s.vm.findClass ("[" ++ FieldType.boolean.toString) = some c := h1
  have e2 : s.vm.findClass ("[" ++ FieldType.boolean.toString) = some c' := h2
  exact Option.some.inj (e1.symm.trans e2)
theorem zra_J {s : State} {c c' : ClassId} (h1 : va_RA s c .long) (h2 : va_RA s c' .long) : c = c' := by
  have e1 : s.vm.findClass ("[" ++ FieldType.long.toString) = some c := h1
  have e2 : s.vm.findClass ("[" ++ FieldType.long.toString) = some c' := h2
  exact Option.some.inj (e1.symm.trans e2)
theorem zra_K {s : State} {D : va_G} {tys : List (ClassId × FieldType)} {cI c2 : ClassId} {ty : FieldType} (hra : ∀ c c' : ClassId, va_RA s c ty → va_RA s c' ty → c = c') (hK : va_K D vwCl tys s) (t0 : Nat) (ht : tys[t0]? = some (cI, ty)) (hK9 : va_K D vwCl (tys ++ [(c2, ty)]) s) : c2 = cI :=
  hra _ _ (hK9.2 tys.length (c2, ty) (by rw [List.getElem?_append_right (Nat.le_refl _), Nat.sub_self]; rfl)).2 (hK.2 t0 _ ht).2
/-- the addresses of a world, as a list -/
theorem zND {A : Nat → Prop} {w : va_W} (h : va_D A w) : (w.map Prod.fst).Nodup := by
  refine List.pairwise_iff_getElem.mpr (fun i j hi hj hij he => ?_)
  rw [List.length_map] at hi hj
  have h1 := h.1 i j w[i] w[j] (List.getElem?_eq_getElem hi) (List.getElem?_eq_getElem hj) (by simpa using he)
  omega
theorem zDA {A : Nat → Prop} {w : va_W} (h : va_D A w) : ∀ a ∈ w.map Prod.fst, A a := fun a ha => by
  obtain ⟨q, hq, rfl⟩ := List.mem_map.mp ha
  obtain ⟨k, hk⟩ := List.mem_iff_getElem?.mp hq
  exact h.2 k q hk
def zNest (U : State) : Prop := va_Nw (.methodLinkNest RX2 11 yX1_init "MourningRibbons") U ∧ va_Nw (.methodLinkNest RX2 18 yX0_init "MourningRibbons") U
abbrev zAt0 (D : va_G) (cI _ : ClassId) (A : Nat → Prop) (h0 : Nat) (u : Nat × Nat) (t : State) : Prop := match u with
  | (q1, q2) => va_P D vwCl [(h0, .inr (0, [.ref q1, .ref q2])), (q1, .inl (cI, 204, .inl (ar (cst 0)))), (q2, .inl (cI, 204, .inl (ar (cst 0))))] t.heap ∧ va_D A [(h0, .inr (0, [.ref q1, .ref q2])), (q1, .inl (cI, 204, .inl (ar (cst 0)))), (q2, .inl (cI, 204, .inl (ar (cst 0))))]
abbrev zAt1 (D : va_G) (cI cZ : ClassId) (A : Nat → Prop) (h0 : Nat) (u : Nat × Nat × Nat × Nat) (t : State) : Prop := match u with
  | (q1, q2, q3, q4) => va_P D vwCl [(h0, .inr (1, [.ref q1, .ref q2, .ref q3, .int (zI 0), .ref q4])), (q1, .inl (cI, 16, .inl (ar (cst 0)))), (q2, .inl (cI, 16, .inl (ar (cst 0)))), (q3, .inl (cZ, 16, .inl (ar (cst 0)))), (q4, .inl (cI, 16, .inl (ar (cst 0))))] t.heap ∧ va_D A [(h0, .inr (1, [.ref q1, .ref q2, .ref q3, .int (zI 0), .ref q4])), (q1, .inl (cI, 16, .inl (ar (cst 0)))), (q2, .inl (cI, 16, .inl (ar (cst 0)))), (q3, .inl (cZ, 16, .inl (ar (cst 0)))), (q4, .inl (cI, 16, .inl (ar (cst 0))))]
abbrev zAt2 (D : va_G) (cI cZ : ClassId) (A : Nat → Prop) (_ : Nat) (q : Nat → Nat) (t : State) : Prop := va_P D vwCl (wC cI cZ q (cst 0) (cst 0) (cst 0) (cst 0) (cst 0) (cst 0) (cst 0) (cst 0) (cst 0) (cst 0) (cst 0) 0 0 0) t.heap ∧ va_D A (wC cI cZ q (cst 0) (cst 0) (cst 0) (cst 0) (cst 0) (cst 0) (cst 0) (cst 0) (cst 0) (cst 0) (cst 0) 0 0 0)
section ZI
variable {p : Program} {l : Launch} {e : Env} {R : Room} {s : State} {m : MethodId} {args : Array Value} {below : List Frame} {meth : Method} {c : Code} {H : Heap} {locs : List Loc} {cells slots : Nat} {Q : State → Prop}
variable {pc : Nat} {ls : Array Slot} {rest : List Value} {cc : ByteArray} {D : va_G} {tys : List (ClassId × FieldType)} {ws : va_W} {A : Nat → Prop} {H0 : Heap} {cI : ClassId}
theorem zblindI {av : List Value} {w : va_W} {sz : Nat} : FrameBlind (va_Pc av (fun U => U.heap.size = sz ∧ va_P D vwCl w U.heap ∧ va_K D vwCl tys U ∧ va_D (fun _ => True) w)) := fun a U g mk q => by
  obtain ⟨q0, q1, qP, qK, qD⟩ := q
  exact ⟨q0, q1, qP, va_K.moved (u := U) (U := U.calling g mk a) (Vm.Alike.refl U.vm) qK, qD⟩
theorem zblindI2 {av : List Value} {w : va_W} {sz : Nat} : FrameBlind (va_Pc av (fun U => U.heap.size = sz ∧ va_P D vwCl w U.heap ∧ va_K D vwCl tys U ∧ va_D (fun _ => True) w ∧ zNest U)) := fun a U g mk q => by
  obtain ⟨q0, q1, qP, qK, qD, qN⟩ := q
  exact ⟨q0, q1, qP, va_K.moved (u := U) (U := U.calling g mk a) (Vm.Alike.refl U.vm) qK, qD, va_Nw.same (u := U) rfl rfl qN.1, va_Nw.same (u := U) rfl rfl qN.2⟩
theorem zNest.warm {s U : State} (hW : s.WarmedH U.vm) (h : zNest s) : zNest U := ⟨va_Nw.warmM hW h.1, va_Nw.warmM hW h.2⟩
theorem zr_newaI (hx : p.tables.exec = Jvm.exec) (hb : c.code = cc) (harr : (Cond.arrayClass .int).before args s = true) (hK : va_K D vwCl tys s) (t0 : Nat) (ht : tys[t0]? = some (cI, .int)) (hP : va_P D vwCl ws H) (hD : va_D A ws) (hS : va_S A H0 H locs) (hA : ∀ q, H0.size ≤ q → A q)
    {n : Int32} {N' : Nat} {a0 : vp_A} (ha : ∀ cA : ClassId, vp_cell cA a0 = arrV cA N' (fun _ => defaultValue .int)) (hn : ¬ n < 0) (hN : n.toNatClampNeg = N') (hbytes : N' * componentBytes .int ≤ 536870912) (hcells : cells + 1 ≤ R.cells) (hslots : slots + N' ≤ R.slots) (hdg : decode cc pc = .ok (.newarray .int, 2))
    (kk : ∀ (q : Nat) (H1 : Heap), va_P D vwCl (ws ++ [(q, .inl (cI, a0))]) H1 → va_D A (ws ++ [(q, .inl (cI, a0))]) → va_S A H0 H1 locs → W p l e R s m args below meth c H1 locs (cells + 1) (slots + N') Q (F0 m (pc + 2) ls (.ref q :: rest))) : W p l e R s m args below meth c H locs cells slots Q (F0 m pc ls (.int n :: rest)) :=
  va_newa (atype := .int) (ty := .int) hx hb harr rfl hK hP hD hS hA ha hn hN hbytes hcells hslots hdg (fun q cA H1 g1 g2 g3 g4 => by
    have e := zra_K (fun _ _ => zra_I) hK t0 ht g1
    subst e
    exact kk q H1 g2 g3 g4)
theorem zr_newaZ (hx : p.tables.exec = Jvm.exec) (hb : c.code = cc) (harr : (Cond.arrayClass .boolean).before args s = true) (hK : va_K D vwCl tys s) (t0 : Nat) (ht : tys[t0]? = some (cI, .boolean)) (hP : va_P D vwCl ws H) (hD : va_D A ws) (hS : va_S A H0 H locs) (hA : ∀ q, H0.size ≤ q → A q)
    {n : Int32} {N' : Nat} {a0 : vp_A} (ha : ∀ cA : ClassId, vp_cell cA a0 = arrV cA N' (fun _ => defaultValue .boolean)) (hn : ¬ n < 0) (hN : n.toNatClampNeg = N') (hbytes : N' * componentBytes .boolean ≤ 536870912) (hcells : cells + 1 ≤ R.cells) (hslots : slots + N' ≤ R.slots) (hdg : decode cc pc = .ok (.newarray .boolean, 2))
    (kk : ∀ (q : Nat) (H1 : Heap), va_P D vwCl (ws ++ [(q, .inl (cI, a0))]) H1 → va_D A (ws ++ [(q, .inl (cI, a0))]) → va_S A H0 H1 locs → W p l e R s m args below meth c H1 locs (cells + 1) (slots + N') Q (F0 m (pc + 2) ls (.ref q :: rest))) : W p l e R s m args below meth c H locs cells slots Q (F0 m pc ls (.int n :: rest)) :=
  va_newa (atype := .boolean) (ty := .boolean) hx hb harr rfl hK hP hD hS hA ha hn hN hbytes hcells hslots hdg (fun q cA H1 g1 g2 g3 g4 => by
    have e := zra_K (fun _ _ => zra_Z) hK t0 ht g1
    subst e
    exact kk q H1 g2 g3 g4)
theorem zr_newaJ (hx : p.tables.exec = Jvm.exec) (hb : c.code = cc) (harr : (Cond.arrayClass .long).before args s = true) (hK : va_K D vwCl tys s) (t0 : Nat) (ht : tys[t0]? = some (cI, .long)) (hP : va_P D vwCl ws H) (hD : va_D A ws) (hS : va_S A H0 H locs) (hA : ∀ q, H0.size ≤ q → A q)
    {n : Int32} {N' : Nat} {a0 : vp_A} (ha : ∀ cA : ClassId, vp_cell cA a0 = arrV cA N' (fun _ => defaultValue .long)) (hn : ¬ n < 0) (hN : n.toNatClampNeg = N') (hbytes : N' * componentBytes .long ≤ 536870912) (hcells : cells + 1 ≤ R.cells) (hslots : slots + N' ≤ R.slots) (hdg : decode cc pc = .ok (.newarray .long, 2))
    (kk : ∀ (q : Nat) (H1 : Heap), va_P D vwCl (ws ++ [(q, .inl (cI, a0))]) H1 → va_D A (ws ++ [(q, .inl (cI, a0))]) → va_S A H0 H1 locs → W p l e R s m args below meth c H1 locs (cells + 1) (slots + N') Q (F0 m (pc + 2) ls (.ref q :: rest))) : W p l e R s m args below meth c H locs cells slots Q (F0 m pc ls (.int n :: rest)) :=
  va_newa (atype := .long) (ty := .long) hx hb harr rfl hK hP hD hS hA ha hn hN hbytes hcells hslots hdg (fun q cA H1 g1 g2 g3 g4 => by
    have e := zra_K (fun _ _ => zra_J) hK t0 ht g1
    subst e
    exact kk q H1 g2 g3 g4)
end ZI
set_option maxHeartbeats 4000000 in
set_option maxRecDepth 100000 in
theorem kX0_init (l : Launch) (D : va_G) (cI cZ : ClassId) (h0 sz : Nat) : Met l yX0_init wsX0_init ({ frames := 1, cells := 2, slots := 408, locals := 12 }) (va_Pc [.ref h0] (fun U => U.heap.size = sz ∧ va_P D vwCl [(h0, .inr (0, [.null, .null]))] U.heap ∧ va_K D vwCl [(cI, .int), (cZ, .boolean)] U ∧ va_D (fun _ => True) [(h0, .inr (0, [.null, .null]))])) (va_Qv (S := Nat × Nat) (fun _ => True) (fun u t => zAt0 D cI cZ (va_A [(h0, .inr (0, [.null, .null]))] sz) h0 u t) (va_A [(h0, .inr (0, [.null, .null]))] sz)) 2 408 (va_A [(h0, .inr (0, [.null, .null]))] sz) := by
  refine Met.ofW (cc := cX0_init) (maxL := 1) (ret := none) (by decide) rfl ?_
  intro p e s m args below meth c s₁ B hml hv
  obtain ⟨rfl, hsz, hP, hK, hD0⟩ := hv
  have hx := B.exec
  have hb := B.bytes
  have hr := B.returns
  have hts := atoms_spec (ws := wsX0_init) B.pre
  have hown : s.vm.findClass RX0 = some m.cls := findClass_of_methodNamed B.named
  have hlocks := B.notSynchronized
  have hin : meth.name = "<init>" := (name_of_methodNamed B.named B.method).1
  have hin0 : ∀ w ∈ u_ws RX0 TX0 2, w ∈ wsX0_init := by decide +kernel
  subst hsz
  have hD := hD0.self (sz := s.heap.size)
  generalize hAe : va_A [(h0, .inr (0, [.null, .null]))] s.heap.size = A at hD ⊢
  have hA : ∀ q : Nat, s.heap.size ≤ q → A q := fun q h => by rw [← hAe]; exact Or.inr h
  have hS : va_S A s.heap s.heap [] := va_S.rf
  have hl := lv_entry ([.ref h0]) (n := 1) (Nat.le_of_ble_eq_true rfl)
  obtain ⟨Q0, hQ0⟩ : ∃ Q0, Q0 = MQ below (va_Qv (S := Nat × Nat) (fun _ => True) (fun u t => zAt0 D cI cZ A h0 u t) A) ([Value.ref h0] : List Value).toArray s 2 408 A := ⟨_, rfl⟩
  show W p l e ({ frames := 1, cells := 2, slots := 408, locals := 12 }) s m ([Value.ref h0] : List Value).toArray below meth c s.heap [] 0 0 (MQ below (va_Qv (S := Nat × Nat) (fun _ => True) (fun u t => zAt0 D cI cZ A h0 u t) A) ([Value.ref h0] : List Value).toArray s 2 408 A) _
  rw [lg_entry_eq, ← hQ0]
  generalize (lg_sl ([.ref h0]) ++ List.replicate (1 - (lg_sl ([.ref h0])).length) Slot.unset).toArray = ls at hl ⊢
  have hl : lv_has ls 1 [(0, .ref h0)] := hl
  generalize hH0 : s.heap = H at hP ⊢
  have hS : va_S A s.heap H [] := by rw [hH0] at hS ⊢; exact hS
  have hP : va_P D vwCl [(h0, .inr (0, [.null, .null]))] H := hP
  have hD : va_D A [(h0, .inr (0, [.null, .null]))] := hD
  refine lv_aload_n hx hb dX0_init_0 rfl (lv_at hl 0 rfl) ?_
  refine W.objInit hx hb hown (hts (.methodLink RX0 3 objectInit) (by decide +kernel)) (hts (.instanceMethod objectInit) (by decide +kernel)) (hts (.code objectInit ⟨#[0xb1]⟩ 1 none) (by decide +kernel)) rfl (by rw [hml]; exact hl.1) rfl dX0_init_1 (Nat.le_of_ble_eq_true rfl) (Nat.le_of_ble_eq_true rfl) ?_
  refine W.eq (g2 := F0 m 4 ls []) rfl ?_
  refine lv_aload_n hx hb dX0_init_4 rfl (lv_at hl 0 rfl) ?_
  refine zr_sipush hx hb dX0_init_5 (by decide) ?_
  refine zr_newaI (N' := 204) (a0 := (204, .inl (ar (cst 0)))) hx hb (hts (.arrayClass .int) (by decide +kernel)) hK 0 rfl hP hD hS hA (fun _ => rfl) (by decide) (by decide) (by decide) (Nat.le_of_ble_eq_true rfl) (Nat.le_of_ble_eq_true rfl) dX0_init_8 (fun q1 H hP hD hS => ?_)
  have hP : va_P D vwCl [(h0, .inr (0, [.null, .null])), (q1, .inl (cI, 204, .inl (ar (cst 0))))] H := hP
  have hD : va_D A [(h0, .inr (0, [.null, .null])), (q1, .inl (cI, 204, .inl (ar (cst 0))))] := hD
  refine W.widen (k := 1) (n := 204) (Nat.le_of_ble_eq_true rfl) (Nat.le_of_ble_eq_true rfl) ?_
  refine va_putF (D := D) (ci := 0) (v := .ref q1) (ty := (.array .int)) (C := RX0) (T := TX0) (N := 2) hx hb hts hin0 tyX0 tyX0_ok nmX0 hown hK hP hD hS 0 rfl rfl 0 (by decide) (hts (.fieldLink RX0 11 "MourningRibbons$Codes" "colours" "[I") (by decide +kernel)) (fun _ h9 => h9) rfl hin rfl (by decide +kernel) rfl rfl (Nat.le_of_ble_eq_true rfl) dX0_init_10 (fun H locs hP hD hS => ?_)
  have hP : va_P D vwCl [(h0, .inr (0, [.ref q1, .null])), (q1, .inl (cI, 204, .inl (ar (cst 0))))] H := hP
  have hD : va_D A [(h0, .inr (0, [.ref q1, .null])), (q1, .inl (cI, 204, .inl (ar (cst 0))))] := hD
  refine lv_aload_n hx hb dX0_init_13 rfl (lv_at hl 0 rfl) ?_
  refine zr_sipush hx hb dX0_init_14 (by decide) ?_
  refine zr_newaI (N' := 204) (a0 := (204, .inl (ar (cst 0)))) hx hb (hts (.arrayClass .int) (by decide +kernel)) hK 0 rfl hP hD hS hA (fun _ => rfl) (by decide) (by decide) (by decide) (Nat.le_of_ble_eq_true rfl) (Nat.le_of_ble_eq_true rfl) dX0_init_17 (fun q2 H hP hD hS => ?_)
  have hP : va_P D vwCl [(h0, .inr (0, [.ref q1, .null])), (q1, .inl (cI, 204, .inl (ar (cst 0)))), (q2, .inl (cI, 204, .inl (ar (cst 0))))] H := hP
  have hD : va_D A [(h0, .inr (0, [.ref q1, .null])), (q1, .inl (cI, 204, .inl (ar (cst 0)))), (q2, .inl (cI, 204, .inl (ar (cst 0))))] := hD
  refine W.widen (k := 2) (n := 408) (Nat.le_of_ble_eq_true rfl) (Nat.le_of_ble_eq_true rfl) ?_
  refine va_putF (D := D) (ci := 0) (v := .ref q2) (ty := (.array .int)) (C := RX0) (T := TX0) (N := 2) hx hb hts hin0 tyX0 tyX0_ok nmX0 hown hK hP hD hS 0 rfl rfl 1 (by decide) (hts (.fieldLink RX0 15 "MourningRibbons$Codes" "days" "[I") (by decide +kernel)) (fun _ h9 => h9) rfl hin rfl (by decide +kernel) rfl rfl (Nat.le_of_ble_eq_true rfl) dX0_init_19 (fun H locs hP hD hS => ?_)
  have hP : va_P D vwCl [(h0, .inr (0, [.ref q1, .ref q2])), (q1, .inl (cI, 204, .inl (ar (cst 0)))), (q2, .inl (cI, 204, .inl (ar (cst 0))))] H := hP
  have hD : va_D A [(h0, .inr (0, [.ref q1, .ref q2])), (q1, .inl (cI, 204, .inl (ar (cst 0)))), (q2, .inl (cI, 204, .inl (ar (cst 0))))] := hD
  rw [hQ0]
  exact W.vret hx hb hr (fun t ht hW => ⟨⟨(q1, q2), rfl, trivial, by rw [ht]; exact hP, hD⟩, hS.F ht⟩) hS.2.2 dX0_init_22 hlocks
set_option maxHeartbeats 4000000 in
set_option maxRecDepth 100000 in
theorem kX1_init (l : Launch) (D : va_G) (cI cZ : ClassId) (h0 sz : Nat) : Met l yX1_init wsX1_init ({ frames := 1, cells := 4, slots := 64, locals := 12 }) (va_Pc [.ref h0] (fun U => U.heap.size = sz ∧ va_P D vwCl [(h0, .inr (1, [.null, .null, .null, .int (zI 0), .null]))] U.heap ∧ va_K D vwCl [(cI, .int), (cZ, .boolean)] U ∧ va_D (fun _ => True) [(h0, .inr (1, [.null, .null, .null, .int (zI 0), .null]))])) (va_Qv (S := Nat × Nat × Nat × Nat) (fun _ => True) (fun u t => zAt1 D cI cZ (va_A [(h0, .inr (1, [.null, .null, .null, .int (zI 0), .null]))] sz) h0 u t) (va_A [(h0, .inr (1, [.null, .null, .null, .int (zI 0), .null]))] sz)) 4 64 (va_A [(h0, .inr (1, [.null, .null, .null, .int (zI 0), .null]))] sz) := by
  refine Met.ofW (cc := cX1_init) (maxL := 1) (ret := none) (by decide) rfl ?_
  intro p e s m args below meth c s₁ B hml hv
  obtain ⟨rfl, hsz, hP, hK, hD0⟩ := hv
  have hx := B.exec
  have hb := B.bytes
  have hr := B.returns
  have hts := atoms_spec (ws := wsX1_init) B.pre
  have hown : s.vm.findClass RX1 = some m.cls := findClass_of_methodNamed B.named
  have hlocks := B.notSynchronized
  have hin : meth.name = "<init>" := (name_of_methodNamed B.named B.method).1
  have hin1 : ∀ w ∈ u_ws RX1 TX1 5, w ∈ wsX1_init := by decide +kernel
  subst hsz
  have hD := hD0.self (sz := s.heap.size)
  generalize hAe : va_A [(h0, .inr (1, [.null, .null, .null, .int (zI 0), .null]))] s.heap.size = A at hD ⊢
  have hA : ∀ q : Nat, s.heap.size ≤ q → A q := fun q h => by rw [← hAe]; exact Or.inr h
  have hS : va_S A s.heap s.heap [] := va_S.rf
  have hl := lv_entry ([.ref h0]) (n := 1) (Nat.le_of_ble_eq_true rfl)
  obtain ⟨Q0, hQ0⟩ : ∃ Q0, Q0 = MQ below (va_Qv (S := Nat × Nat × Nat × Nat) (fun _ => True) (fun u t => zAt1 D cI cZ A h0 u t) A) ([Value.ref h0] : List Value).toArray s 4 64 A := ⟨_, rfl⟩
  show W p l e ({ frames := 1, cells := 4, slots := 64, locals := 12 }) s m ([Value.ref h0] : List Value).toArray below meth c s.heap [] 0 0 (MQ below (va_Qv (S := Nat × Nat × Nat × Nat) (fun _ => True) (fun u t => zAt1 D cI cZ A h0 u t) A) ([Value.ref h0] : List Value).toArray s 4 64 A) _
  rw [lg_entry_eq, ← hQ0]
  generalize (lg_sl ([.ref h0]) ++ List.replicate (1 - (lg_sl ([.ref h0])).length) Slot.unset).toArray = ls at hl ⊢
  have hl : lv_has ls 1 [(0, .ref h0)] := hl
  generalize hH0 : s.heap = H at hP ⊢
  have hS : va_S A s.heap H [] := by rw [hH0] at hS ⊢; exact hS
  have hP : va_P D vwCl [(h0, .inr (1, [.null, .null, .null, .int (zI 0), .null]))] H := hP
  have hD : va_D A [(h0, .inr (1, [.null, .null, .null, .int (zI 0), .null]))] := hD
  refine lv_aload_n hx hb dX1_init_0 rfl (lv_at hl 0 rfl) ?_
  refine W.objInit hx hb hown (hts (.methodLink RX1 3 objectInit) (by decide +kernel)) (hts (.instanceMethod objectInit) (by decide +kernel)) (hts (.code objectInit ⟨#[0xb1]⟩ 1 none) (by decide +kernel)) rfl (by rw [hml]; exact hl.1) rfl dX1_init_1 (Nat.le_of_ble_eq_true rfl) (Nat.le_of_ble_eq_true rfl) ?_
  refine W.eq (g2 := F0 m 4 ls []) rfl ?_
  refine lv_aload_n hx hb dX1_init_4 rfl (lv_at hl 0 rfl) ?_
  refine zr_bipush hx hb dX1_init_5 (by decide) ?_
  refine zr_newaI (N' := 16) (a0 := (16, .inl (ar (cst 0)))) hx hb (hts (.arrayClass .int) (by decide +kernel)) hK 0 rfl hP hD hS hA (fun _ => rfl) (by decide) (by decide) (by decide) (Nat.le_of_ble_eq_true rfl) (Nat.le_of_ble_eq_true rfl) dX1_init_7 (fun q1 H hP hD hS => ?_)
  have hP : va_P D vwCl [(h0, .inr (1, [.null, .null, .null, .int (zI 0), .null])), (q1, .inl (cI, 16, .inl (ar (cst 0))))] H := hP
  have hD : va_D A [(h0, .inr (1, [.null, .null, .null, .int (zI 0), .null])), (q1, .inl (cI, 16, .inl (ar (cst 0))))] := hD
  refine W.widen (k := 1) (n := 16) (Nat.le_of_ble_eq_true rfl) (Nat.le_of_ble_eq_true rfl) ?_
  refine va_putF (D := D) (ci := 1) (v := .ref q1) (ty := (.array .int)) (C := RX1) (T := TX1) (N := 5) hx hb hts hin1 tyX1 tyX1_ok nmX1 hown hK hP hD hS 0 rfl rfl 0 (by decide) (hts (.fieldLink RX1 9 "MourningRibbons$Family" "parent" "[I") (by decide +kernel)) (fun _ h9 => h9) rfl hin rfl (by decide +kernel) rfl rfl (Nat.le_of_ble_eq_true rfl) dX1_init_9 (fun H locs hP hD hS => ?_)
  have hP : va_P D vwCl [(h0, .inr (1, [.ref q1, .null, .null, .int (zI 0), .null])), (q1, .inl (cI, 16, .inl (ar (cst 0))))] H := hP
  have hD : va_D A [(h0, .inr (1, [.ref q1, .null, .null, .int (zI 0), .null])), (q1, .inl (cI, 16, .inl (ar (cst 0))))] := hD
  refine lv_aload_n hx hb dX1_init_12 rfl (lv_at hl 0 rfl) ?_
  refine zr_bipush hx hb dX1_init_13 (by decide) ?_
  refine zr_newaI (N' := 16) (a0 := (16, .inl (ar (cst 0)))) hx hb (hts (.arrayClass .int) (by decide +kernel)) hK 0 rfl hP hD hS hA (fun _ => rfl) (by decide) (by decide) (by decide) (Nat.le_of_ble_eq_true rfl) (Nat.le_of_ble_eq_true rfl) dX1_init_15 (fun q2 H hP hD hS => ?_)
  have hP : va_P D vwCl [(h0, .inr (1, [.ref q1, .null, .null, .int (zI 0), .null])), (q1, .inl (cI, 16, .inl (ar (cst 0)))), (q2, .inl (cI, 16, .inl (ar (cst 0))))] H := hP
  have hD : va_D A [(h0, .inr (1, [.ref q1, .null, .null, .int (zI 0), .null])), (q1, .inl (cI, 16, .inl (ar (cst 0)))), (q2, .inl (cI, 16, .inl (ar (cst 0))))] := hD
  refine W.widen (k := 2) (n := 32) (Nat.le_of_ble_eq_true rfl) (Nat.le_of_ble_eq_true rfl) ?_
  refine va_putF (D := D) (ci := 1) (v := .ref q2) (ty := (.array .int)) (C := RX1) (T := TX1) (N := 5) hx hb hts hin1 tyX1 tyX1_ok nmX1 hown hK hP hD hS 0 rfl rfl 1 (by decide) (hts (.fieldLink RX1 15 "MourningRibbons$Family" "spouse" "[I") (by decide +kernel)) (fun _ h9 => h9) rfl hin rfl (by decide +kernel) rfl rfl (Nat.le_of_ble_eq_true rfl) dX1_init_17 (fun H locs hP hD hS => ?_)
  have hP : va_P D vwCl [(h0, .inr (1, [.ref q1, .ref q2, .null, .int (zI 0), .null])), (q1, .inl (cI, 16, .inl (ar (cst 0)))), (q2, .inl (cI, 16, .inl (ar (cst 0))))] H := hP
  have hD : va_D A [(h0, .inr (1, [.ref q1, .ref q2, .null, .int (zI 0), .null])), (q1, .inl (cI, 16, .inl (ar (cst 0)))), (q2, .inl (cI, 16, .inl (ar (cst 0))))] := hD
  refine lv_aload_n hx hb dX1_init_20 rfl (lv_at hl 0 rfl) ?_
  refine zr_bipush hx hb dX1_init_21 (by decide) ?_
  refine zr_newaZ (N' := 16) (a0 := (16, .inl (ar (cst 0)))) hx hb (hts (.arrayClass .boolean) (by decide +kernel)) hK 1 rfl hP hD hS hA (fun _ => rfl) (by decide) (by decide) (by decide) (Nat.le_of_ble_eq_true rfl) (Nat.le_of_ble_eq_true rfl) dX1_init_23 (fun q3 H hP hD hS => ?_)
  have hP : va_P D vwCl [(h0, .inr (1, [.ref q1, .ref q2, .null, .int (zI 0), .null])), (q1, .inl (cI, 16, .inl (ar (cst 0)))), (q2, .inl (cI, 16, .inl (ar (cst 0)))), (q3, .inl (cZ, 16, .inl (ar (cst 0))))] H := hP
  have hD : va_D A [(h0, .inr (1, [.ref q1, .ref q2, .null, .int (zI 0), .null])), (q1, .inl (cI, 16, .inl (ar (cst 0)))), (q2, .inl (cI, 16, .inl (ar (cst 0)))), (q3, .inl (cZ, 16, .inl (ar (cst 0))))] := hD
  refine W.widen (k := 3) (n := 48) (Nat.le_of_ble_eq_true rfl) (Nat.le_of_ble_eq_true rfl) ?_
  refine va_putF (D := D) (ci := 1) (v := .ref q3) (ty := (.array .boolean)) (C := RX1) (T := TX1) (N := 5) hx hb hts hin1 tyX1 tyX1_ok nmX1 hown hK hP hD hS 0 rfl rfl 2 (by decide) (hts (.fieldLink RX1 18 "MourningRibbons$Family" "alive" "[Z") (by decide +kernel)) (fun _ h9 => h9) rfl hin rfl (by decide +kernel) rfl rfl (Nat.le_of_ble_eq_true rfl) dX1_init_25 (fun H locs hP hD hS => ?_)
  have hP : va_P D vwCl [(h0, .inr (1, [.ref q1, .ref q2, .ref q3, .int (zI 0), .null])), (q1, .inl (cI, 16, .inl (ar (cst 0)))), (q2, .inl (cI, 16, .inl (ar (cst 0)))), (q3, .inl (cZ, 16, .inl (ar (cst 0))))] H := hP
  have hD : va_D A [(h0, .inr (1, [.ref q1, .ref q2, .ref q3, .int (zI 0), .null])), (q1, .inl (cI, 16, .inl (ar (cst 0)))), (q2, .inl (cI, 16, .inl (ar (cst 0)))), (q3, .inl (cZ, 16, .inl (ar (cst 0))))] := hD
  refine lv_aload_n hx hb dX1_init_28 rfl (lv_at hl 0 rfl) ?_
  refine zr_bipush hx hb dX1_init_29 (by decide) ?_
  refine zr_newaI (N' := 16) (a0 := (16, .inl (ar (cst 0)))) hx hb (hts (.arrayClass .int) (by decide +kernel)) hK 0 rfl hP hD hS hA (fun _ => rfl) (by decide) (by decide) (by decide) (Nat.le_of_ble_eq_true rfl) (Nat.le_of_ble_eq_true rfl) dX1_init_31 (fun q4 H hP hD hS => ?_)
  have hP : va_P D vwCl [(h0, .inr (1, [.ref q1, .ref q2, .ref q3, .int (zI 0), .null])), (q1, .inl (cI, 16, .inl (ar (cst 0)))), (q2, .inl (cI, 16, .inl (ar (cst 0)))), (q3, .inl (cZ, 16, .inl (ar (cst 0)))), (q4, .inl (cI, 16, .inl (ar (cst 0))))] H := hP
  have hD : va_D A [(h0, .inr (1, [.ref q1, .ref q2, .ref q3, .int (zI 0), .null])), (q1, .inl (cI, 16, .inl (ar (cst 0)))), (q2, .inl (cI, 16, .inl (ar (cst 0)))), (q3, .inl (cZ, 16, .inl (ar (cst 0)))), (q4, .inl (cI, 16, .inl (ar (cst 0))))] := hD
  refine W.widen (k := 4) (n := 64) (Nat.le_of_ble_eq_true rfl) (Nat.le_of_ble_eq_true rfl) ?_
  refine va_putF (D := D) (ci := 1) (v := .ref q4) (ty := (.array .int)) (C := RX1) (T := TX1) (N := 5) hx hb hts hin1 tyX1 tyX1_ok nmX1 hown hK hP hD hS 0 rfl rfl 4 (by decide) (hts (.fieldLink RX1 22 "MourningRibbons$Family" "degrees" "[I") (by decide +kernel)) (fun _ h9 => h9) rfl hin rfl (by decide +kernel) rfl rfl (Nat.le_of_ble_eq_true rfl) dX1_init_33 (fun H locs hP hD hS => ?_)
  have hP : va_P D vwCl [(h0, .inr (1, [.ref q1, .ref q2, .ref q3, .int (zI 0), .ref q4])), (q1, .inl (cI, 16, .inl (ar (cst 0)))), (q2, .inl (cI, 16, .inl (ar (cst 0)))), (q3, .inl (cZ, 16, .inl (ar (cst 0)))), (q4, .inl (cI, 16, .inl (ar (cst 0))))] H := hP
  have hD : va_D A [(h0, .inr (1, [.ref q1, .ref q2, .ref q3, .int (zI 0), .ref q4])), (q1, .inl (cI, 16, .inl (ar (cst 0)))), (q2, .inl (cI, 16, .inl (ar (cst 0)))), (q3, .inl (cZ, 16, .inl (ar (cst 0)))), (q4, .inl (cI, 16, .inl (ar (cst 0))))] := hD
  rw [hQ0]
  exact W.vret hx hb hr (fun t ht hW => ⟨⟨(q1, q2, q3, q4), rfl, trivial, by rw [ht]; exact hP, hD⟩, hS.F ht⟩) hS.2.2 dX1_init_36 hlocks
set_option maxHeartbeats 4000000 in
set_option maxRecDepth 100000 in
theorem kX2_init (l : Launch) (D : va_G) (cI cZ : ClassId) (h0 sz : Nat) : Met l yX2_init wsX2_init ({ frames := 2, cells := 13, slots := 952, locals := 40 }) (va_Pc [.ref h0] (fun U => U.heap.size = sz ∧ va_P D vwCl [(h0, .inr (2, [.null, .null, .null, .null, .int (zI 0), .int (zI 0), .null, .null, .null]))] U.heap ∧ va_K D vwCl [(cI, .int), (cZ, .boolean)] U ∧ va_D (fun _ => True) [(h0, .inr (2, [.null, .null, .null, .null, .int (zI 0), .int (zI 0), .null, .null, .null]))] ∧ zNest U)) (va_Qv (S := Nat → Nat) (fun q => q 0 = h0) (fun u t => zAt2 D cI cZ (va_A [(h0, .inr (2, [.null, .null, .null, .null, .int (zI 0), .int (zI 0), .null, .null, .null]))] sz) h0 u t) (va_A [(h0, .inr (2, [.null, .null, .null, .null, .int (zI 0), .int (zI 0), .null, .null, .null]))] sz)) 13 952 (va_A [(h0, .inr (2, [.null, .null, .null, .null, .int (zI 0), .int (zI 0), .null, .null, .null]))] sz) := by
  refine Met.ofW (cc := cX2_init) (maxL := 1) (ret := none) (by decide) rfl ?_
  intro p e s m args below meth c s₁ B hml hv
  obtain ⟨rfl, hsz, hP, hK, hD0, hNe⟩ := hv
  have hx := B.exec
  have hb := B.bytes
  have hr := B.returns
  have hts := atoms_spec (ws := wsX2_init) B.pre
  have hown : s.vm.findClass RX2 = some m.cls := findClass_of_methodNamed B.named
  have hlocks := B.notSynchronized
  have hin : meth.name = "<init>" := (name_of_methodNamed B.named B.method).1
  have hin0 : ∀ w ∈ u_ws RX0 TX0 2, w ∈ wsX2_init := by decide +kernel
  have hin1 : ∀ w ∈ u_ws RX1 TX1 5, w ∈ wsX2_init := by decide +kernel
  have hin2 : ∀ w ∈ u_ws RX2 TX2 9, w ∈ wsX2_init := by decide +kernel
  subst hsz
  have hD := hD0.self (sz := s.heap.size)
  generalize hAe : va_A [(h0, .inr (2, [.null, .null, .null, .null, .int (zI 0), .int (zI 0), .null, .null, .null]))] s.heap.size = A at hD ⊢
  have hA : ∀ q : Nat, s.heap.size ≤ q → A q := fun q h => by rw [← hAe]; exact Or.inr h
  have hS : va_S A s.heap s.heap [] := va_S.rf
  have hl := lv_entry ([.ref h0]) (n := 1) (Nat.le_of_ble_eq_true rfl)
  obtain ⟨Q0, hQ0⟩ : ∃ Q0, Q0 = MQ below (va_Qv (S := Nat → Nat) (fun q => q 0 = h0) (fun u t => zAt2 D cI cZ A h0 u t) A) ([Value.ref h0] : List Value).toArray s 13 952 A := ⟨_, rfl⟩
  show W p l e ({ frames := 2, cells := 13, slots := 952, locals := 40 }) s m ([Value.ref h0] : List Value).toArray below meth c s.heap [] 0 0 (MQ below (va_Qv (S := Nat → Nat) (fun q => q 0 = h0) (fun u t => zAt2 D cI cZ A h0 u t) A) ([Value.ref h0] : List Value).toArray s 13 952 A) _
  rw [lg_entry_eq, ← hQ0]
  generalize (lg_sl ([.ref h0]) ++ List.replicate (1 - (lg_sl ([.ref h0])).length) Slot.unset).toArray = ls at hl ⊢
  have hl : lv_has ls 1 [(0, .ref h0)] := hl
  generalize hH0 : s.heap = H at hP ⊢
  have hS : va_S A s.heap H [] := by rw [hH0] at hS ⊢; exact hS
  have hP : va_P D vwCl [(h0, .inr (2, [.null, .null, .null, .null, .int (zI 0), .int (zI 0), .null, .null, .null]))] H := hP
  have hD : va_D A [(h0, .inr (2, [.null, .null, .null, .null, .int (zI 0), .int (zI 0), .null, .null, .null]))] := hD
  refine lv_aload_n hx hb dX2_init_0 rfl (lv_at hl 0 rfl) ?_
  refine W.objInit hx hb hown (hts (.methodLink RX2 3 objectInit) (by decide +kernel)) (hts (.instanceMethod objectInit) (by decide +kernel)) (hts (.code objectInit ⟨#[0xb1]⟩ 1 none) (by decide +kernel)) rfl (by rw [hml]; exact hl.1) rfl dX2_init_1 (Nat.le_of_ble_eq_true rfl) (Nat.le_of_ble_eq_true rfl) ?_
  refine W.eq (g2 := F0 m 4 ls []) rfl ?_
  refine lv_aload_n hx hb dX2_init_4 rfl (lv_at hl 0 rfl) ?_
  refine va_new (ci := 1) (fs := [.null, .null, .null, .int (zI 0), .null]) (C := RX1) (T := TX1) (N := 5) hx hb hts hin1 tyX1 tyX1_ok hown (hts (.classLink RX2 9 RX1) (by decide +kernel)) (hts (.instantiable RX1 5) (by decide +kernel)) (hts (.initialized RX1) (by decide +kernel)) hK hP hD hS hA rfl (fun j hj => by rcases (show j = 0 ∨ j = 1 ∨ j = 2 ∨ j = 3 ∨ j = 4 by omega) with rfl | rfl | rfl | rfl | rfl <;> rfl) (Nat.le_of_ble_eq_true rfl) (Nat.le_of_ble_eq_true rfl) dX2_init_5 (fun q1 H hP hD hS => ?_)
  have hP : va_P D vwCl [(h0, .inr (2, [.null, .null, .null, .null, .int (zI 0), .int (zI 0), .null, .null, .null])), (q1, .inr (1, [.null, .null, .null, .int (zI 0), .null]))] H := hP
  have hD : va_D A [(h0, .inr (2, [.null, .null, .null, .null, .int (zI 0), .int (zI 0), .null, .null, .null])), (q1, .inr (1, [.null, .null, .null, .int (zI 0), .null]))] := hD
  refine W.widen (k := 1) (n := 5) (Nat.le_of_ble_eq_true rfl) (Nat.le_of_ble_eq_true rfl) ?_
  refine lv_dup hx hb dX2_init_8 rfl ?_
  have hPc := hP.sub (ws' := [(q1, .inr (1, [.null, .null, .null, .int (zI 0), .null]))]) [1] rfl
  have hDc := hD.sub (ws' := [(q1, .inr (1, [.null, .null, .null, .int (zI 0), .null]))]) [1] (by decide) rfl
  have hFc := va_free (wc := [(q1, .inr (1, [.null, .null, .null, .int (zI 0), .null]))]) hD hS hA [1] rfl
  refine va_callv (va_runIN (As := []) (rest := [.ref q1, .ref h0]) ⟨hx, hb, hml, hown, hts⟩ (kX1_init l D cI cZ q1 H.size) ⟨va_cnB 0 hts gX2_init_X1_init_n11 rfl rfl rfl hNe.1 (hts (.initialized RX1) (by decide +kernel)) (by decide +kernel) ⟨Nat.le_of_ble_eq_true rfl, Nat.le_of_ble_eq_true rfl⟩, rfl, hts (.instanceMethod yX1_init) (by decide +kernel)⟩ ⟨zblindI, fun U hU hW => ⟨rfl, by rw [hU], by rw [hU]; exact hPc, va_K.moved hW.alike hK, hDc.weaken (fun _ _ _ _ => trivial)⟩⟩ rfl rfl hl.1 rfl (lv_room (Nat.le_of_ble_eq_true rfl)) dX2_init_9 ⟨Nat.le_of_ble_eq_true rfl, Nat.le_of_ble_eq_true rfl⟩) hS (fun q _ h => hFc q h) hFc (fun u t H1 locs ht hvm hw hB hz1 hk1 hS => ?_)
  obtain ⟨q2, q3, q4, q5⟩ := u
  obtain ⟨hP1, hD1⟩ := hB
  rw [ht] at hP1
  obtain ⟨hP, hD⟩ := va_join (wr := [(h0, .inr (2, [.null, .null, .null, .null, .int (zI 0), .int (zI 0), .null, .null, .null]))]) (w1 := [(q1, .inr (1, [.ref q2, .ref q3, .ref q4, .int (zI 0), .ref q5])), (q2, .inl (cI, 16, .inl (ar (cst 0)))), (q3, .inl (cI, 16, .inl (ar (cst 0)))), (q4, .inl (cZ, 16, .inl (ar (cst 0)))), (q5, .inl (cI, 16, .inl (ar (cst 0))))]) hP hD [1] [0] rfl rfl (by decide) (by decide) hk1 hFc hP1 hD1
  generalize H1 = H at hP hS ⊢
  have hP : va_P D vwCl [(h0, .inr (2, [.null, .null, .null, .null, .int (zI 0), .int (zI 0), .null, .null, .null])), (q1, .inr (1, [.ref q2, .ref q3, .ref q4, .int (zI 0), .ref q5])), (q2, .inl (cI, 16, .inl (ar (cst 0)))), (q3, .inl (cI, 16, .inl (ar (cst 0)))), (q4, .inl (cZ, 16, .inl (ar (cst 0)))), (q5, .inl (cI, 16, .inl (ar (cst 0))))] H := hP
  have hD : va_D A [(h0, .inr (2, [.null, .null, .null, .null, .int (zI 0), .int (zI 0), .null, .null, .null])), (q1, .inr (1, [.ref q2, .ref q3, .ref q4, .int (zI 0), .ref q5])), (q2, .inl (cI, 16, .inl (ar (cst 0)))), (q3, .inl (cI, 16, .inl (ar (cst 0)))), (q4, .inl (cZ, 16, .inl (ar (cst 0)))), (q5, .inl (cI, 16, .inl (ar (cst 0))))] := hD
  refine W.widen (k := 5) (n := 69) (Nat.le_of_ble_eq_true rfl) (Nat.le_of_ble_eq_true rfl) ?_
  refine va_putF (D := D) (ci := 2) (v := .ref q1) (ty := (.object "MourningRibbons$Family")) (C := RX2) (T := TX2) (N := 9) hx hb hts hin2 tyX2 tyX2_ok nmX2 hown hK hP hD hS 0 rfl rfl 0 (by decide) (hts (.fieldLink RX2 12 "MourningRibbons" "family" "LMourningRibbons$Family;") (by decide +kernel)) (fun _ h9 => h9) rfl hin rfl (by decide +kernel) rfl rfl (Nat.le_of_ble_eq_true rfl) dX2_init_12 (fun H locs hP hD hS => ?_)
  have hP : va_P D vwCl [(h0, .inr (2, [.ref q1, .null, .null, .null, .int (zI 0), .int (zI 0), .null, .null, .null])), (q1, .inr (1, [.ref q2, .ref q3, .ref q4, .int (zI 0), .ref q5])), (q2, .inl (cI, 16, .inl (ar (cst 0)))), (q3, .inl (cI, 16, .inl (ar (cst 0)))), (q4, .inl (cZ, 16, .inl (ar (cst 0)))), (q5, .inl (cI, 16, .inl (ar (cst 0))))] H := hP
  have hD : va_D A [(h0, .inr (2, [.ref q1, .null, .null, .null, .int (zI 0), .int (zI 0), .null, .null, .null])), (q1, .inr (1, [.ref q2, .ref q3, .ref q4, .int (zI 0), .ref q5])), (q2, .inl (cI, 16, .inl (ar (cst 0)))), (q3, .inl (cI, 16, .inl (ar (cst 0)))), (q4, .inl (cZ, 16, .inl (ar (cst 0)))), (q5, .inl (cI, 16, .inl (ar (cst 0))))] := hD
  refine lv_aload_n hx hb dX2_init_15 rfl (lv_at hl 0 rfl) ?_
  refine va_new (ci := 0) (fs := [.null, .null]) (C := RX0) (T := TX0) (N := 2) hx hb hts hin0 tyX0 tyX0_ok hown (hts (.classLink RX2 16 RX0) (by decide +kernel)) (hts (.instantiable RX0 2) (by decide +kernel)) (hts (.initialized RX0) (by decide +kernel)) hK hP hD hS hA rfl (fun j hj => by rcases (show j = 0 ∨ j = 1 by omega) with rfl | rfl <;> rfl) (Nat.le_of_ble_eq_true rfl) (Nat.le_of_ble_eq_true rfl) dX2_init_16 (fun q6 H hP hD hS => ?_)
  have hP : va_P D vwCl [(h0, .inr (2, [.ref q1, .null, .null, .null, .int (zI 0), .int (zI 0), .null, .null, .null])), (q1, .inr (1, [.ref q2, .ref q3, .ref q4, .int (zI 0), .ref q5])), (q2, .inl (cI, 16, .inl (ar (cst 0)))), (q3, .inl (cI, 16, .inl (ar (cst 0)))), (q4, .inl (cZ, 16, .inl (ar (cst 0)))), (q5, .inl (cI, 16, .inl (ar (cst 0)))), (q6, .inr (0, [.null, .null]))] H := hP
  have hD : va_D A [(h0, .inr (2, [.ref q1, .null, .null, .null, .int (zI 0), .int (zI 0), .null, .null, .null])), (q1, .inr (1, [.ref q2, .ref q3, .ref q4, .int (zI 0), .ref q5])), (q2, .inl (cI, 16, .inl (ar (cst 0)))), (q3, .inl (cI, 16, .inl (ar (cst 0)))), (q4, .inl (cZ, 16, .inl (ar (cst 0)))), (q5, .inl (cI, 16, .inl (ar (cst 0)))), (q6, .inr (0, [.null, .null]))] := hD
  refine W.widen (k := 6) (n := 71) (Nat.le_of_ble_eq_true rfl) (Nat.le_of_ble_eq_true rfl) ?_
  refine lv_dup hx hb dX2_init_19 rfl ?_
  have hPc := hP.sub (ws' := [(q6, .inr (0, [.null, .null]))]) [6] rfl
  have hDc := hD.sub (ws' := [(q6, .inr (0, [.null, .null]))]) [6] (by decide) rfl
  have hFc := va_free (wc := [(q6, .inr (0, [.null, .null]))]) hD hS hA [6] rfl
  refine va_callv (va_runIN (As := []) (rest := [.ref q6, .ref h0]) ⟨hx, hb, hml, hown, hts⟩ (kX0_init l D cI cZ q6 H.size) ⟨va_cnB 0 hts gX2_init_X0_init_n18 rfl rfl rfl hNe.2 (hts (.initialized RX0) (by decide +kernel)) (by decide +kernel) ⟨Nat.le_of_ble_eq_true rfl, Nat.le_of_ble_eq_true rfl⟩, rfl, hts (.instanceMethod yX0_init) (by decide +kernel)⟩ ⟨zblindI, fun U hU hW => ⟨rfl, by rw [hU], by rw [hU]; exact hPc, va_K.moved hW.alike hK, hDc.weaken (fun _ _ _ _ => trivial)⟩⟩ rfl rfl hl.1 rfl (lv_room (Nat.le_of_ble_eq_true rfl)) dX2_init_20 ⟨Nat.le_of_ble_eq_true rfl, Nat.le_of_ble_eq_true rfl⟩) hS (fun q _ h => hFc q h) hFc (fun u t H1 locs ht hvm hw hB hz1 hk1 hS => ?_)
  obtain ⟨q7, q8⟩ := u
  obtain ⟨hP1, hD1⟩ := hB
  rw [ht] at hP1
  obtain ⟨hP, hD⟩ := va_join (wr := [(h0, .inr (2, [.ref q1, .null, .null, .null, .int (zI 0), .int (zI 0), .null, .null, .null])), (q1, .inr (1, [.ref q2, .ref q3, .ref q4, .int (zI 0), .ref q5])), (q2, .inl (cI, 16, .inl (ar (cst 0)))), (q3, .inl (cI, 16, .inl (ar (cst 0)))), (q4, .inl (cZ, 16, .inl (ar (cst 0)))), (q5, .inl (cI, 16, .inl (ar (cst 0))))]) (w1 := [(q6, .inr (0, [.ref q7, .ref q8])), (q7, .inl (cI, 204, .inl (ar (cst 0)))), (q8, .inl (cI, 204, .inl (ar (cst 0))))]) hP hD [6] [0, 1, 2, 3, 4, 5] rfl rfl (by decide) (by decide) hk1 hFc hP1 hD1
  generalize H1 = H at hP hS ⊢
  have hP : va_P D vwCl [(h0, .inr (2, [.ref q1, .null, .null, .null, .int (zI 0), .int (zI 0), .null, .null, .null])), (q1, .inr (1, [.ref q2, .ref q3, .ref q4, .int (zI 0), .ref q5])), (q2, .inl (cI, 16, .inl (ar (cst 0)))), (q3, .inl (cI, 16, .inl (ar (cst 0)))), (q4, .inl (cZ, 16, .inl (ar (cst 0)))), (q5, .inl (cI, 16, .inl (ar (cst 0)))), (q6, .inr (0, [.ref q7, .ref q8])), (q7, .inl (cI, 204, .inl (ar (cst 0)))), (q8, .inl (cI, 204, .inl (ar (cst 0))))] H := hP
  have hD : va_D A [(h0, .inr (2, [.ref q1, .null, .null, .null, .int (zI 0), .int (zI 0), .null, .null, .null])), (q1, .inr (1, [.ref q2, .ref q3, .ref q4, .int (zI 0), .ref q5])), (q2, .inl (cI, 16, .inl (ar (cst 0)))), (q3, .inl (cI, 16, .inl (ar (cst 0)))), (q4, .inl (cZ, 16, .inl (ar (cst 0)))), (q5, .inl (cI, 16, .inl (ar (cst 0)))), (q6, .inr (0, [.ref q7, .ref q8])), (q7, .inl (cI, 204, .inl (ar (cst 0)))), (q8, .inl (cI, 204, .inl (ar (cst 0))))] := hD
  refine W.widen (k := 8) (n := 479) (Nat.le_of_ble_eq_true rfl) (Nat.le_of_ble_eq_true rfl) ?_
  refine va_putF (D := D) (ci := 2) (v := .ref q6) (ty := (.object "MourningRibbons$Codes")) (C := RX2) (T := TX2) (N := 9) hx hb hts hin2 tyX2 tyX2_ok nmX2 hown hK hP hD hS 0 rfl rfl 1 (by decide) (hts (.fieldLink RX2 19 "MourningRibbons" "codes" "LMourningRibbons$Codes;") (by decide +kernel)) (fun _ h9 => h9) rfl hin rfl (by decide +kernel) rfl rfl (Nat.le_of_ble_eq_true rfl) dX2_init_23 (fun H locs hP hD hS => ?_)
  have hP : va_P D vwCl [(h0, .inr (2, [.ref q1, .ref q6, .null, .null, .int (zI 0), .int (zI 0), .null, .null, .null])), (q1, .inr (1, [.ref q2, .ref q3, .ref q4, .int (zI 0), .ref q5])), (q2, .inl (cI, 16, .inl (ar (cst 0)))), (q3, .inl (cI, 16, .inl (ar (cst 0)))), (q4, .inl (cZ, 16, .inl (ar (cst 0)))), (q5, .inl (cI, 16, .inl (ar (cst 0)))), (q6, .inr (0, [.ref q7, .ref q8])), (q7, .inl (cI, 204, .inl (ar (cst 0)))), (q8, .inl (cI, 204, .inl (ar (cst 0))))] H := hP
  have hD : va_D A [(h0, .inr (2, [.ref q1, .ref q6, .null, .null, .int (zI 0), .int (zI 0), .null, .null, .null])), (q1, .inr (1, [.ref q2, .ref q3, .ref q4, .int (zI 0), .ref q5])), (q2, .inl (cI, 16, .inl (ar (cst 0)))), (q3, .inl (cI, 16, .inl (ar (cst 0)))), (q4, .inl (cZ, 16, .inl (ar (cst 0)))), (q5, .inl (cI, 16, .inl (ar (cst 0)))), (q6, .inr (0, [.ref q7, .ref q8])), (q7, .inl (cI, 204, .inl (ar (cst 0)))), (q8, .inl (cI, 204, .inl (ar (cst 0))))] := hD
  refine lv_aload_n hx hb dX2_init_26 rfl (lv_at hl 0 rfl) ?_
  refine zr_sipush hx hb dX2_init_27 (by decide) ?_
  refine zr_newaI (N' := 256) (a0 := (256, .inl (ar (cst 0)))) hx hb (hts (.arrayClass .int) (by decide +kernel)) hK 0 rfl hP hD hS hA (fun _ => rfl) (by decide) (by decide) (by decide) (Nat.le_of_ble_eq_true rfl) (Nat.le_of_ble_eq_true rfl) dX2_init_30 (fun q9 H hP hD hS => ?_)
  have hP : va_P D vwCl [(h0, .inr (2, [.ref q1, .ref q6, .null, .null, .int (zI 0), .int (zI 0), .null, .null, .null])), (q1, .inr (1, [.ref q2, .ref q3, .ref q4, .int (zI 0), .ref q5])), (q2, .inl (cI, 16, .inl (ar (cst 0)))), (q3, .inl (cI, 16, .inl (ar (cst 0)))), (q4, .inl (cZ, 16, .inl (ar (cst 0)))), (q5, .inl (cI, 16, .inl (ar (cst 0)))), (q6, .inr (0, [.ref q7, .ref q8])), (q7, .inl (cI, 204, .inl (ar (cst 0)))), (q8, .inl (cI, 204, .inl (ar (cst 0)))), (q9, .inl (cI, 256, .inl (ar (cst 0))))] H := hP
  have hD : va_D A [(h0, .inr (2, [.ref q1, .ref q6, .null, .null, .int (zI 0), .int (zI 0), .null, .null, .null])), (q1, .inr (1, [.ref q2, .ref q3, .ref q4, .int (zI 0), .ref q5])), (q2, .inl (cI, 16, .inl (ar (cst 0)))), (q3, .inl (cI, 16, .inl (ar (cst 0)))), (q4, .inl (cZ, 16, .inl (ar (cst 0)))), (q5, .inl (cI, 16, .inl (ar (cst 0)))), (q6, .inr (0, [.ref q7, .ref q8])), (q7, .inl (cI, 204, .inl (ar (cst 0)))), (q8, .inl (cI, 204, .inl (ar (cst 0)))), (q9, .inl (cI, 256, .inl (ar (cst 0))))] := hD
  refine W.widen (k := 9) (n := 735) (Nat.le_of_ble_eq_true rfl) (Nat.le_of_ble_eq_true rfl) ?_
  refine va_putF (D := D) (ci := 2) (v := .ref q9) (ty := (.array .int)) (C := RX2) (T := TX2) (N := 9) hx hb hts hin2 tyX2 tyX2_ok nmX2 hown hK hP hD hS 0 rfl rfl 2 (by decide) (hts (.fieldLink RX2 23 "MourningRibbons" "mournedBy" "[I") (by decide +kernel)) (fun _ h9 => h9) rfl hin rfl (by decide +kernel) rfl rfl (Nat.le_of_ble_eq_true rfl) dX2_init_32 (fun H locs hP hD hS => ?_)
  have hP : va_P D vwCl [(h0, .inr (2, [.ref q1, .ref q6, .ref q9, .null, .int (zI 0), .int (zI 0), .null, .null, .null])), (q1, .inr (1, [.ref q2, .ref q3, .ref q4, .int (zI 0), .ref q5])), (q2, .inl (cI, 16, .inl (ar (cst 0)))), (q3, .inl (cI, 16, .inl (ar (cst 0)))), (q4, .inl (cZ, 16, .inl (ar (cst 0)))), (q5, .inl (cI, 16, .inl (ar (cst 0)))), (q6, .inr (0, [.ref q7, .ref q8])), (q7, .inl (cI, 204, .inl (ar (cst 0)))), (q8, .inl (cI, 204, .inl (ar (cst 0)))), (q9, .inl (cI, 256, .inl (ar (cst 0))))] H := hP
  have hD : va_D A [(h0, .inr (2, [.ref q1, .ref q6, .ref q9, .null, .int (zI 0), .int (zI 0), .null, .null, .null])), (q1, .inr (1, [.ref q2, .ref q3, .ref q4, .int (zI 0), .ref q5])), (q2, .inl (cI, 16, .inl (ar (cst 0)))), (q3, .inl (cI, 16, .inl (ar (cst 0)))), (q4, .inl (cZ, 16, .inl (ar (cst 0)))), (q5, .inl (cI, 16, .inl (ar (cst 0)))), (q6, .inr (0, [.ref q7, .ref q8])), (q7, .inl (cI, 204, .inl (ar (cst 0)))), (q8, .inl (cI, 204, .inl (ar (cst 0)))), (q9, .inl (cI, 256, .inl (ar (cst 0))))] := hD
  refine lv_aload_n hx hb dX2_init_35 rfl (lv_at hl 0 rfl) ?_
  refine zr_bipush hx hb dX2_init_36 (by decide) ?_
  refine zr_newaI (N' := 16) (a0 := (16, .inl (ar (cst 0)))) hx hb (hts (.arrayClass .int) (by decide +kernel)) hK 0 rfl hP hD hS hA (fun _ => rfl) (by decide) (by decide) (by decide) (Nat.le_of_ble_eq_true rfl) (Nat.le_of_ble_eq_true rfl) dX2_init_38 (fun q10 H hP hD hS => ?_)
  have hP : va_P D vwCl [(h0, .inr (2, [.ref q1, .ref q6, .ref q9, .null, .int (zI 0), .int (zI 0), .null, .null, .null])), (q1, .inr (1, [.ref q2, .ref q3, .ref q4, .int (zI 0), .ref q5])), (q2, .inl (cI, 16, .inl (ar (cst 0)))), (q3, .inl (cI, 16, .inl (ar (cst 0)))), (q4, .inl (cZ, 16, .inl (ar (cst 0)))), (q5, .inl (cI, 16, .inl (ar (cst 0)))), (q6, .inr (0, [.ref q7, .ref q8])), (q7, .inl (cI, 204, .inl (ar (cst 0)))), (q8, .inl (cI, 204, .inl (ar (cst 0)))), (q9, .inl (cI, 256, .inl (ar (cst 0)))), (q10, .inl (cI, 16, .inl (ar (cst 0))))] H := hP
  have hD : va_D A [(h0, .inr (2, [.ref q1, .ref q6, .ref q9, .null, .int (zI 0), .int (zI 0), .null, .null, .null])), (q1, .inr (1, [.ref q2, .ref q3, .ref q4, .int (zI 0), .ref q5])), (q2, .inl (cI, 16, .inl (ar (cst 0)))), (q3, .inl (cI, 16, .inl (ar (cst 0)))), (q4, .inl (cZ, 16, .inl (ar (cst 0)))), (q5, .inl (cI, 16, .inl (ar (cst 0)))), (q6, .inr (0, [.ref q7, .ref q8])), (q7, .inl (cI, 204, .inl (ar (cst 0)))), (q8, .inl (cI, 204, .inl (ar (cst 0)))), (q9, .inl (cI, 256, .inl (ar (cst 0)))), (q10, .inl (cI, 16, .inl (ar (cst 0))))] := hD
  refine W.widen (k := 10) (n := 751) (Nat.le_of_ble_eq_true rfl) (Nat.le_of_ble_eq_true rfl) ?_
  refine va_putF (D := D) (ci := 2) (v := .ref q10) (ty := (.array .int)) (C := RX2) (T := TX2) (N := 9) hx hb hts hin2 tyX2 tyX2_ok nmX2 hown hK hP hD hS 0 rfl rfl 3 (by decide) (hts (.fieldLink RX2 27 "MourningRibbons" "deathDay" "[I") (by decide +kernel)) (fun _ h9 => h9) rfl hin rfl (by decide +kernel) rfl rfl (Nat.le_of_ble_eq_true rfl) dX2_init_40 (fun H locs hP hD hS => ?_)
  have hP : va_P D vwCl [(h0, .inr (2, [.ref q1, .ref q6, .ref q9, .ref q10, .int (zI 0), .int (zI 0), .null, .null, .null])), (q1, .inr (1, [.ref q2, .ref q3, .ref q4, .int (zI 0), .ref q5])), (q2, .inl (cI, 16, .inl (ar (cst 0)))), (q3, .inl (cI, 16, .inl (ar (cst 0)))), (q4, .inl (cZ, 16, .inl (ar (cst 0)))), (q5, .inl (cI, 16, .inl (ar (cst 0)))), (q6, .inr (0, [.ref q7, .ref q8])), (q7, .inl (cI, 204, .inl (ar (cst 0)))), (q8, .inl (cI, 204, .inl (ar (cst 0)))), (q9, .inl (cI, 256, .inl (ar (cst 0)))), (q10, .inl (cI, 16, .inl (ar (cst 0))))] H := hP
  have hD : va_D A [(h0, .inr (2, [.ref q1, .ref q6, .ref q9, .ref q10, .int (zI 0), .int (zI 0), .null, .null, .null])), (q1, .inr (1, [.ref q2, .ref q3, .ref q4, .int (zI 0), .ref q5])), (q2, .inl (cI, 16, .inl (ar (cst 0)))), (q3, .inl (cI, 16, .inl (ar (cst 0)))), (q4, .inl (cZ, 16, .inl (ar (cst 0)))), (q5, .inl (cI, 16, .inl (ar (cst 0)))), (q6, .inr (0, [.ref q7, .ref q8])), (q7, .inl (cI, 204, .inl (ar (cst 0)))), (q8, .inl (cI, 204, .inl (ar (cst 0)))), (q9, .inl (cI, 256, .inl (ar (cst 0)))), (q10, .inl (cI, 16, .inl (ar (cst 0))))] := hD
  refine lv_aload_n hx hb dX2_init_43 rfl (lv_at hl 0 rfl) ?_
  refine zr_sipush hx hb dX2_init_44 (by decide) ?_
  refine zr_newaI (N' := 180) (a0 := (180, .inl (ar (cst 0)))) hx hb (hts (.arrayClass .int) (by decide +kernel)) hK 0 rfl hP hD hS hA (fun _ => rfl) (by decide) (by decide) (by decide) (Nat.le_of_ble_eq_true rfl) (Nat.le_of_ble_eq_true rfl) dX2_init_47 (fun q11 H hP hD hS => ?_)
  have hP : va_P D vwCl [(h0, .inr (2, [.ref q1, .ref q6, .ref q9, .ref q10, .int (zI 0), .int (zI 0), .null, .null, .null])), (q1, .inr (1, [.ref q2, .ref q3, .ref q4, .int (zI 0), .ref q5])), (q2, .inl (cI, 16, .inl (ar (cst 0)))), (q3, .inl (cI, 16, .inl (ar (cst 0)))), (q4, .inl (cZ, 16, .inl (ar (cst 0)))), (q5, .inl (cI, 16, .inl (ar (cst 0)))), (q6, .inr (0, [.ref q7, .ref q8])), (q7, .inl (cI, 204, .inl (ar (cst 0)))), (q8, .inl (cI, 204, .inl (ar (cst 0)))), (q9, .inl (cI, 256, .inl (ar (cst 0)))), (q10, .inl (cI, 16, .inl (ar (cst 0)))), (q11, .inl (cI, 180, .inl (ar (cst 0))))] H := hP
  have hD : va_D A [(h0, .inr (2, [.ref q1, .ref q6, .ref q9, .ref q10, .int (zI 0), .int (zI 0), .null, .null, .null])), (q1, .inr (1, [.ref q2, .ref q3, .ref q4, .int (zI 0), .ref q5])), (q2, .inl (cI, 16, .inl (ar (cst 0)))), (q3, .inl (cI, 16, .inl (ar (cst 0)))), (q4, .inl (cZ, 16, .inl (ar (cst 0)))), (q5, .inl (cI, 16, .inl (ar (cst 0)))), (q6, .inr (0, [.ref q7, .ref q8])), (q7, .inl (cI, 204, .inl (ar (cst 0)))), (q8, .inl (cI, 204, .inl (ar (cst 0)))), (q9, .inl (cI, 256, .inl (ar (cst 0)))), (q10, .inl (cI, 16, .inl (ar (cst 0)))), (q11, .inl (cI, 180, .inl (ar (cst 0))))] := hD
  refine W.widen (k := 11) (n := 931) (Nat.le_of_ble_eq_true rfl) (Nat.le_of_ble_eq_true rfl) ?_
  refine va_putF (D := D) (ci := 2) (v := .ref q11) (ty := (.array .int)) (C := RX2) (T := TX2) (N := 9) hx hb hts hin2 tyX2 tyX2_ok nmX2 hown hK hP hD hS 0 rfl rfl 6 (by decide) (hts (.fieldLink RX2 30 "MourningRibbons" "ahead" "[I") (by decide +kernel)) (fun _ h9 => h9) rfl hin rfl (by decide +kernel) rfl rfl (Nat.le_of_ble_eq_true rfl) dX2_init_49 (fun H locs hP hD hS => ?_)
  have hP : va_P D vwCl [(h0, .inr (2, [.ref q1, .ref q6, .ref q9, .ref q10, .int (zI 0), .int (zI 0), .ref q11, .null, .null])), (q1, .inr (1, [.ref q2, .ref q3, .ref q4, .int (zI 0), .ref q5])), (q2, .inl (cI, 16, .inl (ar (cst 0)))), (q3, .inl (cI, 16, .inl (ar (cst 0)))), (q4, .inl (cZ, 16, .inl (ar (cst 0)))), (q5, .inl (cI, 16, .inl (ar (cst 0)))), (q6, .inr (0, [.ref q7, .ref q8])), (q7, .inl (cI, 204, .inl (ar (cst 0)))), (q8, .inl (cI, 204, .inl (ar (cst 0)))), (q9, .inl (cI, 256, .inl (ar (cst 0)))), (q10, .inl (cI, 16, .inl (ar (cst 0)))), (q11, .inl (cI, 180, .inl (ar (cst 0))))] H := hP
  have hD : va_D A [(h0, .inr (2, [.ref q1, .ref q6, .ref q9, .ref q10, .int (zI 0), .int (zI 0), .ref q11, .null, .null])), (q1, .inr (1, [.ref q2, .ref q3, .ref q4, .int (zI 0), .ref q5])), (q2, .inl (cI, 16, .inl (ar (cst 0)))), (q3, .inl (cI, 16, .inl (ar (cst 0)))), (q4, .inl (cZ, 16, .inl (ar (cst 0)))), (q5, .inl (cI, 16, .inl (ar (cst 0)))), (q6, .inr (0, [.ref q7, .ref q8])), (q7, .inl (cI, 204, .inl (ar (cst 0)))), (q8, .inl (cI, 204, .inl (ar (cst 0)))), (q9, .inl (cI, 256, .inl (ar (cst 0)))), (q10, .inl (cI, 16, .inl (ar (cst 0)))), (q11, .inl (cI, 180, .inl (ar (cst 0))))] := hD
  refine lv_aload_n hx hb dX2_init_52 rfl (lv_at hl 0 rfl) ?_
  refine zr_iconst hx hb dX2_init_53 ?_
  refine zr_newaI (N' := 5) (a0 := (5, .inl (ar (cst 0)))) hx hb (hts (.arrayClass .int) (by decide +kernel)) hK 0 rfl hP hD hS hA (fun _ => rfl) (by decide) (by decide) (by decide) (Nat.le_of_ble_eq_true rfl) (Nat.le_of_ble_eq_true rfl) dX2_init_54 (fun q12 H hP hD hS => ?_)
  have hP : va_P D vwCl [(h0, .inr (2, [.ref q1, .ref q6, .ref q9, .ref q10, .int (zI 0), .int (zI 0), .ref q11, .null, .null])), (q1, .inr (1, [.ref q2, .ref q3, .ref q4, .int (zI 0), .ref q5])), (q2, .inl (cI, 16, .inl (ar (cst 0)))), (q3, .inl (cI, 16, .inl (ar (cst 0)))), (q4, .inl (cZ, 16, .inl (ar (cst 0)))), (q5, .inl (cI, 16, .inl (ar (cst 0)))), (q6, .inr (0, [.ref q7, .ref q8])), (q7, .inl (cI, 204, .inl (ar (cst 0)))), (q8, .inl (cI, 204, .inl (ar (cst 0)))), (q9, .inl (cI, 256, .inl (ar (cst 0)))), (q10, .inl (cI, 16, .inl (ar (cst 0)))), (q11, .inl (cI, 180, .inl (ar (cst 0)))), (q12, .inl (cI, 5, .inl (ar (cst 0))))] H := hP
  have hD : va_D A [(h0, .inr (2, [.ref q1, .ref q6, .ref q9, .ref q10, .int (zI 0), .int (zI 0), .ref q11, .null, .null])), (q1, .inr (1, [.ref q2, .ref q3, .ref q4, .int (zI 0), .ref q5])), (q2, .inl (cI, 16, .inl (ar (cst 0)))), (q3, .inl (cI, 16, .inl (ar (cst 0)))), (q4, .inl (cZ, 16, .inl (ar (cst 0)))), (q5, .inl (cI, 16, .inl (ar (cst 0)))), (q6, .inr (0, [.ref q7, .ref q8])), (q7, .inl (cI, 204, .inl (ar (cst 0)))), (q8, .inl (cI, 204, .inl (ar (cst 0)))), (q9, .inl (cI, 256, .inl (ar (cst 0)))), (q10, .inl (cI, 16, .inl (ar (cst 0)))), (q11, .inl (cI, 180, .inl (ar (cst 0)))), (q12, .inl (cI, 5, .inl (ar (cst 0))))] := hD
  refine W.widen (k := 12) (n := 936) (Nat.le_of_ble_eq_true rfl) (Nat.le_of_ble_eq_true rfl) ?_
  refine va_putF (D := D) (ci := 2) (v := .ref q12) (ty := (.array .int)) (C := RX2) (T := TX2) (N := 9) hx hb hts hin2 tyX2 tyX2_ok nmX2 hown hK hP hD hS 0 rfl rfl 7 (by decide) (hts (.fieldLink RX2 33 "MourningRibbons" "wornIfLost" "[I") (by decide +kernel)) (fun _ h9 => h9) rfl hin rfl (by decide +kernel) rfl rfl (Nat.le_of_ble_eq_true rfl) dX2_init_56 (fun H locs hP hD hS => ?_)
  have hP : va_P D vwCl [(h0, .inr (2, [.ref q1, .ref q6, .ref q9, .ref q10, .int (zI 0), .int (zI 0), .ref q11, .ref q12, .null])), (q1, .inr (1, [.ref q2, .ref q3, .ref q4, .int (zI 0), .ref q5])), (q2, .inl (cI, 16, .inl (ar (cst 0)))), (q3, .inl (cI, 16, .inl (ar (cst 0)))), (q4, .inl (cZ, 16, .inl (ar (cst 0)))), (q5, .inl (cI, 16, .inl (ar (cst 0)))), (q6, .inr (0, [.ref q7, .ref q8])), (q7, .inl (cI, 204, .inl (ar (cst 0)))), (q8, .inl (cI, 204, .inl (ar (cst 0)))), (q9, .inl (cI, 256, .inl (ar (cst 0)))), (q10, .inl (cI, 16, .inl (ar (cst 0)))), (q11, .inl (cI, 180, .inl (ar (cst 0)))), (q12, .inl (cI, 5, .inl (ar (cst 0))))] H := hP
  have hD : va_D A [(h0, .inr (2, [.ref q1, .ref q6, .ref q9, .ref q10, .int (zI 0), .int (zI 0), .ref q11, .ref q12, .null])), (q1, .inr (1, [.ref q2, .ref q3, .ref q4, .int (zI 0), .ref q5])), (q2, .inl (cI, 16, .inl (ar (cst 0)))), (q3, .inl (cI, 16, .inl (ar (cst 0)))), (q4, .inl (cZ, 16, .inl (ar (cst 0)))), (q5, .inl (cI, 16, .inl (ar (cst 0)))), (q6, .inr (0, [.ref q7, .ref q8])), (q7, .inl (cI, 204, .inl (ar (cst 0)))), (q8, .inl (cI, 204, .inl (ar (cst 0)))), (q9, .inl (cI, 256, .inl (ar (cst 0)))), (q10, .inl (cI, 16, .inl (ar (cst 0)))), (q11, .inl (cI, 180, .inl (ar (cst 0)))), (q12, .inl (cI, 5, .inl (ar (cst 0))))] := hD
  refine lv_aload_n hx hb dX2_init_59 rfl (lv_at hl 0 rfl) ?_
  refine zr_bipush hx hb dX2_init_60 (by decide) ?_
  refine zr_newaI (N' := 16) (a0 := (16, .inl (ar (cst 0)))) hx hb (hts (.arrayClass .int) (by decide +kernel)) hK 0 rfl hP hD hS hA (fun _ => rfl) (by decide) (by decide) (by decide) (Nat.le_of_ble_eq_true rfl) (Nat.le_of_ble_eq_true rfl) dX2_init_62 (fun q13 H hP hD hS => ?_)
  have hP : va_P D vwCl [(h0, .inr (2, [.ref q1, .ref q6, .ref q9, .ref q10, .int (zI 0), .int (zI 0), .ref q11, .ref q12, .null])), (q1, .inr (1, [.ref q2, .ref q3, .ref q4, .int (zI 0), .ref q5])), (q2, .inl (cI, 16, .inl (ar (cst 0)))), (q3, .inl (cI, 16, .inl (ar (cst 0)))), (q4, .inl (cZ, 16, .inl (ar (cst 0)))), (q5, .inl (cI, 16, .inl (ar (cst 0)))), (q6, .inr (0, [.ref q7, .ref q8])), (q7, .inl (cI, 204, .inl (ar (cst 0)))), (q8, .inl (cI, 204, .inl (ar (cst 0)))), (q9, .inl (cI, 256, .inl (ar (cst 0)))), (q10, .inl (cI, 16, .inl (ar (cst 0)))), (q11, .inl (cI, 180, .inl (ar (cst 0)))), (q12, .inl (cI, 5, .inl (ar (cst 0)))), (q13, .inl (cI, 16, .inl (ar (cst 0))))] H := hP
  have hD : va_D A [(h0, .inr (2, [.ref q1, .ref q6, .ref q9, .ref q10, .int (zI 0), .int (zI 0), .ref q11, .ref q12, .null])), (q1, .inr (1, [.ref q2, .ref q3, .ref q4, .int (zI 0), .ref q5])), (q2, .inl (cI, 16, .inl (ar (cst 0)))), (q3, .inl (cI, 16, .inl (ar (cst 0)))), (q4, .inl (cZ, 16, .inl (ar (cst 0)))), (q5, .inl (cI, 16, .inl (ar (cst 0)))), (q6, .inr (0, [.ref q7, .ref q8])), (q7, .inl (cI, 204, .inl (ar (cst 0)))), (q8, .inl (cI, 204, .inl (ar (cst 0)))), (q9, .inl (cI, 256, .inl (ar (cst 0)))), (q10, .inl (cI, 16, .inl (ar (cst 0)))), (q11, .inl (cI, 180, .inl (ar (cst 0)))), (q12, .inl (cI, 5, .inl (ar (cst 0)))), (q13, .inl (cI, 16, .inl (ar (cst 0))))] := hD
  refine W.widen (k := 13) (n := 952) (Nat.le_of_ble_eq_true rfl) (Nat.le_of_ble_eq_true rfl) ?_
  refine va_putF (D := D) (ci := 2) (v := .ref q13) (ty := (.array .int)) (C := RX2) (T := TX2) (N := 9) hx hb hts hin2 tyX2 tyX2_ok nmX2 hown hK hP hD hS 0 rfl rfl 8 (by decide) (hts (.fieldLink RX2 36 "MourningRibbons" "loss" "[I") (by decide +kernel)) (fun _ h9 => h9) rfl hin rfl (by decide +kernel) rfl rfl (Nat.le_of_ble_eq_true rfl) dX2_init_64 (fun H locs hP hD hS => ?_)
  have hP : va_P D vwCl [(h0, .inr (2, [.ref q1, .ref q6, .ref q9, .ref q10, .int (zI 0), .int (zI 0), .ref q11, .ref q12, .ref q13])), (q1, .inr (1, [.ref q2, .ref q3, .ref q4, .int (zI 0), .ref q5])), (q2, .inl (cI, 16, .inl (ar (cst 0)))), (q3, .inl (cI, 16, .inl (ar (cst 0)))), (q4, .inl (cZ, 16, .inl (ar (cst 0)))), (q5, .inl (cI, 16, .inl (ar (cst 0)))), (q6, .inr (0, [.ref q7, .ref q8])), (q7, .inl (cI, 204, .inl (ar (cst 0)))), (q8, .inl (cI, 204, .inl (ar (cst 0)))), (q9, .inl (cI, 256, .inl (ar (cst 0)))), (q10, .inl (cI, 16, .inl (ar (cst 0)))), (q11, .inl (cI, 180, .inl (ar (cst 0)))), (q12, .inl (cI, 5, .inl (ar (cst 0)))), (q13, .inl (cI, 16, .inl (ar (cst 0))))] H := hP
  have hD : va_D A [(h0, .inr (2, [.ref q1, .ref q6, .ref q9, .ref q10, .int (zI 0), .int (zI 0), .ref q11, .ref q12, .ref q13])), (q1, .inr (1, [.ref q2, .ref q3, .ref q4, .int (zI 0), .ref q5])), (q2, .inl (cI, 16, .inl (ar (cst 0)))), (q3, .inl (cI, 16, .inl (ar (cst 0)))), (q4, .inl (cZ, 16, .inl (ar (cst 0)))), (q5, .inl (cI, 16, .inl (ar (cst 0)))), (q6, .inr (0, [.ref q7, .ref q8])), (q7, .inl (cI, 204, .inl (ar (cst 0)))), (q8, .inl (cI, 204, .inl (ar (cst 0)))), (q9, .inl (cI, 256, .inl (ar (cst 0)))), (q10, .inl (cI, 16, .inl (ar (cst 0)))), (q11, .inl (cI, 180, .inl (ar (cst 0)))), (q12, .inl (cI, 5, .inl (ar (cst 0)))), (q13, .inl (cI, 16, .inl (ar (cst 0))))] := hD
  rw [hQ0]
  have hP9 := hP.sub (ws' := (wC cI cZ (zq14 h0 q1 q6 q9 q10 q11 q12 q13 q2 q3 q4 q5 q7 q8) (cst 0) (cst 0) (cst 0) (cst 0) (cst 0) (cst 0) (cst 0) (cst 0) (cst 0) (cst 0) (cst 0) 0 0 0)) [0, 1, 6, 9, 10, 11, 12, 13, 2, 3, 4, 5, 7, 8] rfl
  have hD9 := hD.sub (ws' := (wC cI cZ (zq14 h0 q1 q6 q9 q10 q11 q12 q13 q2 q3 q4 q5 q7 q8) (cst 0) (cst 0) (cst 0) (cst 0) (cst 0) (cst 0) (cst 0) (cst 0) (cst 0) (cst 0) (cst 0) 0 0 0)) [0, 1, 6, 9, 10, 11, 12, 13, 2, 3, 4, 5, 7, 8] (by decide) rfl
  exact W.vret hx hb hr (fun t ht hW => ⟨⟨(zq14 h0 q1 q6 q9 q10 q11 q12 q13 q2 q3 q4 q5 q7 q8), rfl, rfl, by rw [ht]; exact hP9, hD9⟩, hS.F ht⟩) hS.2.2 dX2_init_67 hlocks
