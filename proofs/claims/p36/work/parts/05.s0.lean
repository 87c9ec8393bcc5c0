/-! arrays at addresses, and what the machine says of int[], int[][], int[][][] -/
def vA (c : ClassId) (H : Heap) (a n : Nat) (g : Int → Value) : Prop := H[a]? = some (arrV c n (fun j => g (j : Int)))
def iV (f : Int → Int) : Int → Value := fun j => .int (zI (f j))
def rV (r : Int → Nat) : Int → Value := fun j => .ref (r j)
def upV (g : Int → Value) (k : Int) (v : Value) : Int → Value := fun j => if j = k then v else g j
abbrev iA (c : ClassId) (H : Heap) (a n : Nat) (f : Int → Int) : Prop := vA c H a n (iV f)
abbrev rA (c : ClassId) (H : Heap) (a n : Nat) (r : Int → Nat) : Prop := vA c H a n (rV r)
theorem vA.lt {c : ClassId} {H : Heap} {a n : Nat} {g : Int → Value} (h : vA c H a n g) : a < H.size := (Array.getElem?_eq_some_iff.mp h).1
theorem vA.kept {c : ClassId} {H H1 : Heap} {a n : Nat} {g : Int → Value} (h : vA c H a n g) (hk : H1[a]? = H[a]?) : vA c H1 a n g := hk.trans h
theorem vA.grow {c : ClassId} {H H1 : Heap} {a n : Nat} {g : Int → Value} (h : vA c H a n g) (hk : ∀ x : Nat, x < H.size → H1[x]? = H[x]?) : vA c H1 a n g := h.kept (hk a h.lt)
theorem vA.cg {c : ClassId} {H : Heap} {a n : Nat} {g g' : Int → Value} (h : vA c H a n g) (e : ∀ j : Int, 0 ≤ j → j < (n : Int) → g j = g' j) : vA c H a n g' := by
  have e2 : arrV c n (fun j => g (j : Int)) = arrV c n (fun j => g' (j : Int)) := arrV_cg (fun j hj => e j (by omega) (by omega))
  unfold vA
  rw [← e2]
  exact h
theorem iA.cgI {c : ClassId} {H : Heap} {a n : Nat} {f f' : Int → Int} (h : iA c H a n f) (e : ∀ j : Int, 0 ≤ j → j < (n : Int) → f j = f' j) : iA c H a n f' :=
  vA.cg h (fun j h0 h1 => by show Value.int (zI (f j)) = Value.int (zI (f' j)); rw [e j h0 h1])
theorem upV_iV (f : Int → Int) (k v : Int) : upV (iV f) k (.int (zI v)) = iV (up f k v) := by
  funext j
  unfold upV iV up
  by_cases h : j = k
  · rw [if_pos h, if_pos h]
  · rw [if_neg h, if_neg h]
def zKA (cI c1 c2 : ClassId) (U : State) : Prop :=
  ((Cond.arrayOver (.array .int)).before #[] U = true ∧ U.vm.findClass "[I" = some cI ∧ U.vm.findClass "[[I" = some c1 ∧ U.vm.findClass "[[[I" = some c2) ∧
  (∃ (k : Class) (cc : ClassId), U.vm.classes[cI]? = some k ∧ k.kind = .array cc .int) ∧ (∃ k : Class, U.vm.classes[c1]? = some k ∧ k.kind = .array cI (.array .int)) ∧ (∃ k : Class, U.vm.classes[c2]? = some k ∧ k.kind = .array c1 (.array (.array .int)))
theorem zKA.moved {cI c1 c2 : ClassId} {u U : State} (hvm : u.vm.Alike U.vm) (h : zKA cI c1 c2 u) : zKA cI c1 c2 U := by
  obtain ⟨⟨h0, h1, h2, h3⟩, ⟨k, cc, g1, g2⟩, ⟨k1, g3, g4⟩, ⟨k2, g5, g6⟩⟩ := h
  obtain ⟨k', hk', he⟩ := hvm.2.2 _ _ g1
  obtain ⟨k1', hk1', he1⟩ := hvm.2.2 _ _ g3
  obtain ⟨k2', hk2', he2⟩ := hvm.2.2 _ _ g5
  exact ⟨⟨over_moved hvm h0, by rw [hvm.findClass]; exact h1, by rw [hvm.findClass]; exact h2, by rw [hvm.findClass]; exact h3⟩, ⟨k', cc, hk', by rw [he]; exact g2⟩, ⟨k1', hk1', by rw [he1]; exact g4⟩, ⟨k2', hk2', by rw [he2]; exact g6⟩⟩
theorem zKA.aI {cI c1 c2 : ClassId} {U : State} (h : zKA cI c1 c2 U) : ArrOfT U cI .int := by
  obtain ⟨-, ⟨k, cc, g1, g2⟩, -, -⟩ := h
  exact fun n z => ⟨fun q h => (by cases h), k, g1, cc, g2⟩
theorem zKA.a1 {cI c1 c2 : ClassId} {U : State} (h : zKA cI c1 c2 U) : ArrOfT U c1 (.array .int) := by
  obtain ⟨-, -, ⟨k, g1, g2⟩, -⟩ := h
  exact fun n z => ⟨fun q h => (by cases h), k, g1, cI, g2⟩
theorem zKA.a2 {cI c1 c2 : ClassId} {U : State} (h : zKA cI c1 c2 U) : ArrOfT U c2 (.array (.array .int)) := by
  obtain ⟨-, -, -, ⟨k, g1, g2⟩⟩ := h
  exact fun n z => ⟨fun q h => (by cases h), k, g1, c1, g2⟩
theorem zself (vm : Vm) (c : ClassId) : vm.assignable c c = true := by
  show vm.assignableAux (255 + 1) c c = true
  rw [Vm.assignableAux, beq_self_eq_true, Bool.true_or]
theorem va1 {D : va_G} {a : Nat} {e : va_E} {H : Heap} (h : va_at D vwCl (a, e) H) : va_P D vwCl [(a, e)] H := fun k q hq => by
  have h0 : k < 1 := (List.getElem?_eq_some_iff.mp hq).1
  rw [show k = 0 by omega] at hq
  cases hq
  exact h
section ZS
variable {p : Program} {l : Launch} {e : Env} {R : Room} {s : State} {m : MethodId} {args : Array Value} {below : List Frame} {meth : Method} {c : Code} {H : Heap} {locs : List Loc} {cells slots : Nat} {Q : State → Prop}
variable {pc : Nat} {ls : Array Slot} {rest : List Value} {cc : ByteArray} {D : va_G} {tys : List (ClassId × FieldType)} {a : Nat} {A : Nat → Prop} {H0 : Heap} {cI c1 c2 : ClassId} {n : Nat} {own : String} {index : Nat} {Ts : List Cond}
theorem zs_put {fs : List Value} (hx : p.tables.exec = Jvm.exec) (hb : c.code = cc) (hts : ∀ w ∈ Ts, w.before args s = true) (hin : ∀ w ∈ u_ws RX3 TX3 5, w ∈ Ts) (hown : s.vm.findClass own = some m.cls) (hK : va_K D vwCl tys s) (hP : va_P D vwCl [(a, .inr (3, fs))] H) (hS0 : va_S A H0 H locs) (haA : A a) (k : Nat) (hk : k < 5)
    (hlink : (Cond.fieldLink own index RX3 (TX3 k).2.1 (TX3 k).2.2.1).before args s = true) (hfin : (TX3 k).2.2.2 = false) (hcls : (TX3 k).1 = RX3) {ty : FieldType} {v : Value} (hd : parseFieldDescriptor (TX3 k).2.2.1 = some ty) (hn : narrow ty v = v) (hfit : fits ty v = true) (hl : k < fs.length) (hdg : decode cc pc = .ok (.putfield index, 3))
    (kk : ∀ (H1 : Heap) (locs1 : List Loc), va_P D vwCl [(a, .inr (3, fs.set k v))] H1 → H1.size = H.size → (∀ q : Nat, q ≠ a → H1[q]? = H[q]?) → va_S A H0 H1 locs1 → W p l e R s m args below meth c H1 locs1 cells slots Q (F0 m (pc + 3) ls rest)) : W p l e R s m args below meth c H locs cells slots Q (F0 m pc ls (v :: .ref a :: rest)) := by
  have hc : vwCl[3]? = some (RX3, TX3, 5) := rfl
  have hap := va_apart (own := own) hts hin tyX3 tyX3_ok nmX3 hK hc
  obtain ⟨r, h1, cell, q1, q2, q3, q4⟩ := hP 0 _ rfl
  have hr : r = (RX3, TX3, 5) := Option.some.inj (h1.symm.trans hc)
  subst hr
  obtain ⟨hS, hfc, kC, hkC, hkind⟩ := hK.1 3 _ hc
  obtain ⟨cf, kf, fi, f, hi, hsl⟩ := hS k hk
  have hlay := hts _ (hin _ (u_in_lay hk))
  unfold u_lay at hlay
  rw [if_neg (by rw [hfin]; decide)] at hlay
  have hst := (u_facts hfc hkC (u_lays hts hin hk) hi).1
  have h6 := u_store hfc hkC hkind hlay hi hd hn hfit
  refine W.putK hx hb (f := f) ⟨hown, hlink, ⟨_, _, _, by rw [← hcls]; exact hi⟩, hst⟩ (by rw [q2]; exact h6) q1 q3 (by rw [hsl]; exact k2_hasslot (q4 k hk)) rfl rfl hdg fun H' e1 e2 e3 => ?_
  rw [hsl] at e1 ⊢
  exact kk H' _ (va1 ⟨_, hc, t_OB.to (V := updV (vp_V fs) k v) ⟨_, e1, q2, q3, t_set q4 hap hk v⟩ (fun j _ => vp_updV_set hl v j)⟩) e2 e3 (hS0.put e2 e3 haA)
theorem zs_ild {f : Int → Int} {i v : Int} (hx : p.tables.exec = Jvm.exec) (hb : c.code = cc) (hA : zKA cI c1 c2 s) (hv : iA cI H a n f) (h0 : 0 ≤ i) (h1 : i < (n : Int)) (hn : n ≤ 65536) (hfv : f i = v) (hdg : decode cc pc = .ok (.iaload, 1))
    (kk : W p l e R s m args below meth c H locs cells slots Q (F0 m (pc + 1) ls (.int (zI v) :: rest))) : W p l e R s m args below meth c H locs cells slots Q (F0 m pc ls (.int (zI i) :: .ref a :: rest)) := by
  have hi := zI_in h0 h1 hn
  refine W.iald hx hb (v := .int (zI v)) hv (hA.aI n _) (fun h => by cases h) (by rw [arrV_size]; exact hi) ?_ rfl rfl hdg kk
  rw [zI_cl h0 (by omega), arrV_read _ _ (by omega), Int.toNat_of_nonneg h0]
  show some (Value.int (zI (f i))) = _
  rw [hfv]
theorem zs_ald1 {g : Int → Value} {i : Int} {v : Value} (hx : p.tables.exec = Jvm.exec) (hb : c.code = cc) (hA : zKA cI c1 c2 s) (hv : vA c1 H a n g) (h0 : 0 ≤ i) (h1 : i < (n : Int)) (hn : n ≤ 65536) (hfv : g i = v) (hdg : decode cc pc = .ok (.aaload, 1))
    (kk : W p l e R s m args below meth c H locs cells slots Q (F0 m (pc + 1) ls (v :: rest))) : W p l e R s m args below meth c H locs cells slots Q (F0 m pc ls (.int (zI i) :: .ref a :: rest)) := by
  have hi := zI_in h0 h1 hn
  refine W.aald hx hb (v := v) (ty := .array .int) hv (hA.a1 n _) rfl (fun h => by cases h) (by rw [arrV_size]; exact hi) ?_ rfl rfl hdg kk
  rw [zI_cl h0 (by omega), arrV_read _ _ (by omega), Int.toNat_of_nonneg h0, hfv]
theorem zs_ald2 {g : Int → Value} {i : Int} {v : Value} (hx : p.tables.exec = Jvm.exec) (hb : c.code = cc) (hA : zKA cI c1 c2 s) (hv : vA c2 H a n g) (h0 : 0 ≤ i) (h1 : i < (n : Int)) (hn : n ≤ 65536) (hfv : g i = v) (hdg : decode cc pc = .ok (.aaload, 1))
    (kk : W p l e R s m args below meth c H locs cells slots Q (F0 m (pc + 1) ls (v :: rest))) : W p l e R s m args below meth c H locs cells slots Q (F0 m pc ls (.int (zI i) :: .ref a :: rest)) := by
  have hi := zI_in h0 h1 hn
  refine W.aald hx hb (v := v) (ty := .array (.array .int)) hv (hA.a2 n _) rfl (fun h => by cases h) (by rw [arrV_size]; exact hi) ?_ rfl rfl hdg kk
  rw [zI_cl h0 (by omega), arrV_read _ _ (by omega), Int.toNat_of_nonneg h0, hfv]
theorem zs_lenI {g : Int → Value} (hx : p.tables.exec = Jvm.exec) (hb : c.code = cc) (hA : zKA cI c1 c2 s) (hv : vA cI H a n g) (hdg : decode cc pc = .ok (.arraylength, 1))
    (kk : W p l e R s m args below meth c H locs cells slots Q (F0 m (pc + 1) ls (.int (zI (n : Int)) :: rest))) : W p l e R s m args below meth c H locs cells slots Q (F0 m pc ls (.ref a :: rest)) :=
  W.alen hx hb hv (hA.aI n _) (by rw [arrV_size]; exact zlen) rfl rfl hdg kk
theorem zs_len1 {g : Int → Value} (hx : p.tables.exec = Jvm.exec) (hb : c.code = cc) (hA : zKA cI c1 c2 s) (hv : vA c1 H a n g) (hdg : decode cc pc = .ok (.arraylength, 1))
    (kk : W p l e R s m args below meth c H locs cells slots Q (F0 m (pc + 1) ls (.int (zI (n : Int)) :: rest))) : W p l e R s m args below meth c H locs cells slots Q (F0 m pc ls (.ref a :: rest)) :=
  W.alen hx hb hv (hA.a1 n _) (by rw [arrV_size]; exact zlen) rfl rfl hdg kk
theorem zs_ist {f : Int → Int} {i x : Int} (hx : p.tables.exec = Jvm.exec) (hb : c.code = cc) (hA : zKA cI c1 c2 s) (hv : iA cI H a n f) (hS : va_S A H0 H locs) (haA : A a) (h0 : 0 ≤ i) (h1 : i < (n : Int)) (hn : n ≤ 65536) (hdg : decode cc pc = .ok (.iastore, 1))
    (kk : ∀ (H1 : Heap) (locs1 : List Loc), iA cI H1 a n (up f i x) → H1.size = H.size → (∀ q : Nat, q ≠ a → H1[q]? = H[q]?) → va_S A H0 H1 locs1 → W p l e R s m args below meth c H1 locs1 cells slots Q (F0 m (pc + 1) ls rest)) : W p l e R s m args below meth c H locs cells slots Q (F0 m pc ls (.int (zI x) :: .int (zI i) :: .ref a :: rest)) := by
  have hi := zI_in h0 h1 hn
  refine W.iast hx hb hv (hA.aI n _) (fun h => by cases h) (by rw [arrV_size]; exact hi) rfl rfl hdg fun H1 e1 z oq => kk H1 _ ?_ z oq (hS.put z oq haA)
  rw [arrV_store] at e1
  unfold iA vA
  rw [e1, ← upV_iV]
  refine congrArg some (arrV_cg fun j hj => ?_)
  unfold updV upV
  rw [zI_cl h0 (by omega)]
  by_cases h : j = i.toNat
  · rw [if_pos h, if_pos (by omega)]
  · rw [if_neg h, if_neg (by omega)]
theorem zs_ast1 {g gv : Int → Value} {i : Int} {v nv : Nat} (hx : p.tables.exec = Jvm.exec) (hb : c.code = cc) (hA : zKA cI c1 c2 s) (hv : vA c1 H a n g) (hr : vA cI H v nv gv) (hS : va_S A H0 H locs) (haA : A a) (h0 : 0 ≤ i) (h1 : i < (n : Int)) (hn : n ≤ 65536) (hdg : decode cc pc = .ok (.aastore, 1))
    (kk : ∀ (H1 : Heap) (locs1 : List Loc), vA c1 H1 a n (upV g i (.ref v)) → H1.size = H.size → (∀ q : Nat, q ≠ a → H1[q]? = H[q]?) → va_S A H0 H1 locs1 → W p l e R s m args below meth c H1 locs1 cells slots Q (F0 m (pc + 1) ls rest)) : W p l e R s m args below meth c H locs cells slots Q (F0 m pc ls (.ref v :: .int (zI i) :: .ref a :: rest)) := by
  have hi := zI_in h0 h1 hn
  obtain ⟨-, ⟨k, cc9, g1, g2⟩, ⟨k1, g3, g4⟩, -⟩ := hA
  refine W.aast hx hb hv (fun q h => by cases h) (fun h => by cases h) g3 g4 rfl g1 ⟨fun h => hi (Or.inl h), by rw [arrV_size]; exact Nat.not_le.mp fun h => hi (Or.inr h)⟩ hr (fun q h => by cases h) g1 (zself _ _) rfl rfl hdg fun H1 e1 z oq => kk H1 _ ?_ z oq (hS.put z oq haA)
  rw [arrV_store] at e1
  unfold vA
  rw [e1]
  refine congrArg some (arrV_cg fun j hj => ?_)
  unfold updV upV
  rw [zI_cl h0 (by omega)]
  by_cases h : j = i.toNat
  · rw [if_pos h, if_pos (by omega)]
  · rw [if_neg h, if_neg (by omega)]
theorem zs_newI {N' : Nat} (hx : p.tables.exec = Jvm.exec) (hb : c.code = cc) (hA : zKA cI c1 c2 s) (harr : (Cond.arrayClass .int).before args s = true) (hS : va_S A H0 H locs) {z : Int} (hz : z = (N' : Int)) (hn : N' ≤ 65536) (hcells : cells + 1 ≤ R.cells) (hslots : slots + N' ≤ R.slots) (hdg : decode cc pc = .ok (.newarray .int, 2))
    (kk : ∀ (H1 : Heap) (q : Nat), q = H.size → iA cI H1 q N' (cst 0) → H1.size = H.size + 1 → (∀ x : Nat, x < H.size → H1[x]? = H[x]?) → va_S A H0 H1 locs → W p l e R s m args below meth c H1 locs (cells + 1) (slots + N') Q (F0 m (pc + 2) ls (.ref q :: rest))) : W p l e R s m args below meth c H locs cells slots Q (F0 m pc ls (.int (zI z) :: rest)) := by
  subst hz
  refine va_newaK hx hb (atype := .int) harr (g := F0 m pc ls (.int (zI (N' : Int)) :: rest)) (N := N') rfl hdg rfl ?_ (by rw [zI_cl (by omega) (by omega)]; exact Int.toNat_natCast N') (by show N' * 4 ≤ _; omega) hcells hslots (h := H.size) rfl fun H1 cA e1 z1 o1 _ hNm => ?_
  · intro h
    have := (zI_lt (a := (N' : Int)) (b := 0) ⟨by omega, by omega⟩ ⟨by decide, by decide⟩).mp h
    omega
  · have hNm2 : s.vm.findClass "[I" = some cA := hNm
    obtain ⟨⟨_, hI, _, _⟩, -⟩ := hA
    have e : cA = cI := Option.some.inj (hNm2.symm.trans hI)
    subst e
    exact kk H1 H.size rfl e1 z1 o1 ⟨Nat.le_trans hS.1 (by omega), fun q h1 h2 => (o1 q (Nat.lt_of_lt_of_le h1 hS.1)).trans (hS.2.1 q h1 h2), hS.2.2⟩
theorem zs_newA {N' : Nat} (hx : p.tables.exec = Jvm.exec) (hb : c.code = cc) (hA : zKA cI c1 c2 s) (hown : s.vm.findClass own = some m.cls) (hclink : (Cond.classLink own index "[I").before args s = true) (hS : va_S A H0 H locs) {z : Int} (hz : z = (N' : Int)) (hn : N' ≤ 65536) (hcells : cells + 1 ≤ R.cells) (hslots : slots + N' ≤ R.slots) (hdg : decode cc pc = .ok (.anewarray index, 3))
    (kk : ∀ (H1 : Heap) (q : Nat), q = H.size → vA c1 H1 q N' (fun _ => .null) → H1.size = H.size + 1 → (∀ x : Nat, x < H.size → H1[x]? = H[x]?) → va_S A H0 H1 locs → W p l e R s m args below meth c H1 locs (cells + 1) (slots + N') Q (F0 m (pc + 3) ls (.ref q :: rest))) : W p l e R s m args below meth c H locs cells slots Q (F0 m pc ls (.int (zI z) :: rest)) := by
  subst hz
  have e9 : (zI (N' : Int)).toNatClampNeg = N' := by rw [zI_cl (by omega) (by omega)]; exact Int.toNat_natCast N'
  have hov : (Cond.arrayOver (.array .int)).before args s = true := over_moved (Vm.Alike.refl _) hA.1.1
  refine W.anewA (t := .int) hx hb hown (by exact hclink) hov rfl hdg rfl ?_ (by rw [e9]; omega) hcells (by rw [e9]; exact hslots) fun cA kA comp f1 f2 f3 f4 => ?_
  · intro h
    have := (zI_lt (a := (N' : Int)) (b := 0) ⟨by omega, by omega⟩ ⟨by decide, by decide⟩).mp h
    omega
  · have hNm2 : s.vm.findClass "[[I" = some cA := f1
    obtain ⟨⟨_, _, h1, _⟩, -⟩ := hA
    have e : cA = c1 := Option.some.inj (hNm2.symm.trans h1)
    subst e
    rw [e9]
    have o1 : ∀ q : Nat, q < H.size → (H.push ({ cls := cA, slots := Array.replicate N' .null, vm := .none } : Cell))[q]? = H[q]? := fun q hq => by rw [Array.getElem?_push, if_neg (Nat.ne_of_lt hq)]
    have z1 : (H.push ({ cls := cA, slots := Array.replicate N' .null, vm := .none } : Cell)).size = H.size + 1 := Array.size_push _
    refine kk _ H.size rfl ?_ z1 o1 ⟨Nat.le_trans hS.1 (by omega), fun q h1 h2 => (o1 q (Nat.lt_of_lt_of_le h1 hS.1)).trans (hS.2.1 q h1 h2), hS.2.2⟩
    show (H.push _)[H.size]? = _
    rw [Array.getElem?_push_size, arrV_new]
end ZS
/-- a contract: from heaps as Pre says to heaps as Post says; sz: how many cells there are at its entry -/
def zG (l : Launch) (y : MethodName) (ws : List Cond) (rm : Room) (D : va_G) (cI cZ c1 c2 : ClassId) (av : List Value) (sz : Nat) (Pre : Heap → Prop) (Post : Option Value → Heap → Prop) (free : Nat → Prop) (mc ms : Nat) : Prop :=
  Met l y ws rm (va_Pc av (fun U => U.heap.size = sz ∧ Pre U.heap ∧ va_K D vwCl [(cI, .int), (cZ, .boolean)] U ∧ zKA cI c1 c2 U)) (fun _ st o t => (∃ v, o = .returned v ∧ Post v t.heap) ∧ va_F free st t) mc ms free
section ZGC
variable {p : Program} {l : Launch} {e : Env} {R : Room} {s : State} {m : MethodId} {args : Array Value} {below : List Frame} {meth : Method} {c : Code} {H : Heap} {locs : List Loc} {cells slots : Nat} {Q : State → Prop}
variable {pc : Nat} {ls : Array Slot} {rest st0 As : List Value} {cc bytes : ByteArray} {D : va_G} {cI cZ c1 c2 : ClassId} {A free : Nat → Prop} {H0 : Heap} {Pre : Heap → Prop} {Post : Option Value → Heap → Prop}
variable {y : MethodName} {maxL nL index n mc ms : Nat} {ret : Option FieldType} {ws Ts : List Cond} {rm : Room} {own : String}
theorem zblindG {av : List Value} {sz : Nat} : FrameBlind (va_Pc av (fun U => U.heap.size = sz ∧ Pre U.heap ∧ va_K D vwCl [(cI, .int), (cZ, .boolean)] U ∧ zKA cI c1 c2 U)) := fun a U g mk q => by
  obtain ⟨q0, q1, qP, qK, qA⟩ := q
  exact ⟨q0, q1, qP, va_K.moved (u := U) (U := U.calling g mk a) (Vm.Alike.refl U.vm) qK, zKA.moved (u := U) (U := U.calling g mk a) (Vm.Alike.refl U.vm) qA⟩
theorem zcallG (hr : va_Run p l e R s m args below meth c H locs cells slots mc ms (F0 m pc ls st0) rest (fun st o t => (∃ v, o = .returned v ∧ Post v t.heap) ∧ va_F free st t) free) (hS : va_S A H0 H locs) (hA : ∀ q, free q → A q)
    (kk : ∀ (v : Option Value) (H1 : Heap) (locs1 : List Loc), Post v H1 → H.size ≤ H1.size → (∀ q : Nat, q < H.size → ¬ free q → H1[q]? = H[q]?) → va_S A H0 H1 locs1 → W p l e R s m args below meth c H1 locs1 (cells + mc) (slots + ms) Q (F0 m (pc + 3) ls (v.toList ++ rest))) : W p l e R s m args below meth c H locs cells slots Q (F0 m pc ls st0) := by
  intro T hT X
  obtain ⟨v', st₀, t, T', L', h0, X', hL, e1, e2, ⟨⟨v, hv, hp⟩, hz, hk⟩, st⟩ := hr T hT X
  cases hv
  rw [h0] at hz hk
  obtain ⟨t2, a1, b1⟩ := kk v' T'.heap (locs ++ L') (by rw [e1]; exact hp) (by rw [e1]; exact hz) (fun q h1 h2 => by rw [e1]; exact hk q h1 h2) ⟨Nat.le_trans hS.1 (by rw [e1]; exact hz), fun q h1 h2 => by rw [e1, hk q (Nat.lt_of_lt_of_le h1 hS.1) (fun z => h2 (hA q z))]; exact hS.2.1 q h1 h2, fun q hq => by
      rcases List.mem_append.mp hq with h | h
      · exact hS.2.2 q h
      · exact hA _ (hL q h)⟩ T' rfl X'
  exact ⟨t2, st t2 a1, b1⟩
theorem zcallGV {b ci : Nat} {fs : List Value} {cq : vw_C} (S : CallFix p m c cc nL s args Ts own) (hK : va_K D vwCl [(cI, .int), (cZ, .boolean)] s) (hQ : zKA cI c1 c2 s) (hM : zG l y ws rm D cI cZ c1 c2 (.ref b :: As) H.size Pre Post free mc ms) (cw : CallW R s args own cq.1 index y bytes maxL ret ws rm mc ms n) (hPre : Pre H) (hO : va_P D vwCl [(b, .inr (ci, fs))] H) (hS : va_S A H0 H locs) (hA : ∀ q, free q → A q)
    (hc : vwCl[ci]? = some cq) (hn : As.length = n) (hsz : ls.size = nL) (hst : st0 = As.reverse ++ .ref b :: rest) (hro : (rest.map fun v => v.category).sum ≤ 8) (hdg : decode cc pc = .ok (.invokevirtual index, 3)) (hf : cells + mc ≤ R.cells ∧ slots + ms ≤ R.slots)
    (kk : ∀ (v : Option Value) (H1 : Heap) (locs1 : List Loc), Post v H1 → H.size ≤ H1.size → (∀ q : Nat, q < H.size → ¬ free q → H1[q]? = H[q]?) → va_S A H0 H1 locs1 → W p l e R s m args below meth c H1 locs1 (cells + mc) (slots + ms) Q (F0 m (pc + 3) ls (v.toList ++ rest))) : W p l e R s m args below meth c H locs cells slots Q (F0 m pc ls st0) :=
  zcallG (va_runV (As := As) (rest := rest) S hM cw ⟨zblindG, va_recv hK hO hc (q0 := 0) rfl, fun U hU hW => ⟨rfl, by rw [hU], by rw [hU]; exact hPre, va_K.moved hW.alike hK, zKA.moved hW.alike hQ⟩⟩ rfl hn hsz hst (lv_room hro) hdg hf) hS hA kk
theorem zcallGS (S : CallFix p m c cc nL s args Ts own) (hK : va_K D vwCl [(cI, .int), (cZ, .boolean)] s) (hQ : zKA cI c1 c2 s) (hM : zG l y ws rm D cI cZ c1 c2 As H.size Pre Post free mc ms) (cw : CallB R s args own index y bytes maxL ret ws rm mc ms n ∧ (Cond.static y).before args s = true) (hPre : Pre H) (hS : va_S A H0 H locs) (hA : ∀ q, free q → A q)
    (hn : As.length = n) (hsz : ls.size = nL) (hst : st0 = As.reverse ++ rest) (hro : (rest.map fun v => v.category).sum ≤ 8) (hdg : decode cc pc = .ok (.invokestatic index, 3)) (hf : cells + mc ≤ R.cells ∧ slots + ms ≤ R.slots)
    (kk : ∀ (v : Option Value) (H1 : Heap) (locs1 : List Loc), Post v H1 → H.size ≤ H1.size → (∀ q : Nat, q < H.size → ¬ free q → H1[q]? = H[q]?) → va_S A H0 H1 locs1 → W p l e R s m args below meth c H1 locs1 (cells + mc) (slots + ms) Q (F0 m (pc + 3) ls (v.toList ++ rest))) : W p l e R s m args below meth c H locs cells slots Q (F0 m pc ls st0) :=
  zcallG (va_runS (As := As) (rest := rest) S hM cw ⟨zblindG, fun U hU hW => ⟨rfl, by rw [hU], by rw [hU]; exact hPre, va_K.moved hW.alike hK, zKA.moved hW.alike hQ⟩⟩ rfl hn hsz hst (lv_room hro) hdg hf) hS hA kk
/-- the ends -/
abbrev zGQ (Post : Option Value → Heap → Prop) (free : Nat → Prop) : Array Value → State → Outcome → State → Prop := fun _ st o t => (∃ v, o = .returned v ∧ Post v t.heap) ∧ va_F free st t
theorem zgret_i {x z : Int} (hx : p.tables.exec = Jvm.exec) (hb : c.code = cc) (hr : meth.sig.returnType = some .int) (hlocks : meth.locks = false) (he : x = z) (hP : Post (some (.int (zI z))) H) (hS : va_S free s.heap H locs) (hdg : decode cc pc = .ok (.ireturn, 1)) (h1 : cells ≤ mc) (h2 : slots ≤ ms) :
    W p l e R s m args below meth c H locs cells slots (MQ below (zGQ Post free) args s mc ms free) (F0 m pc ls [.int (zI x)]) := by
  subst he
  exact W.widen h1 h2 (W.iret hx hb hr (fun t ht _ => ⟨⟨_, rfl, by rw [ht]; exact hP⟩, hS.F ht⟩) hS.2.2 hdg hlocks)
theorem zgret_z {x z : Int} (hx : p.tables.exec = Jvm.exec) (hb : c.code = cc) (hr : meth.sig.returnType = some .boolean) (hlocks : meth.locks = false) (hn : narrow .boolean (.int (zI x)) = .int (zI x)) (he : x = z) (hP : Post (some (.int (zI z))) H) (hS : va_S free s.heap H locs) (hdg : decode cc pc = .ok (.ireturn, 1)) (h1 : cells ≤ mc) (h2 : slots ≤ ms) :
    W p l e R s m args below meth c H locs cells slots (MQ below (zGQ Post free) args s mc ms free) (F0 m pc ls [.int (zI x)]) := by
  subst he
  exact W.widen h1 h2 (W.zret hx hb hr hn (fun t ht _ => ⟨⟨_, rfl, by rw [ht]; exact hP⟩, hS.F ht⟩) hS.2.2 hdg hlocks)
theorem zgret_v (hx : p.tables.exec = Jvm.exec) (hb : c.code = cc) (hr : meth.sig.returnType = none) (hlocks : meth.locks = false) (hP : Post none H) (hS : va_S free s.heap H locs) (hdg : decode cc pc = .ok (.return_, 1)) (h1 : cells ≤ mc) (h2 : slots ≤ ms) :
    W p l e R s m args below meth c H locs cells slots (MQ below (zGQ Post free) args s mc ms free) (F0 m pc ls []) :=
  W.widen h1 h2 (W.vret hx hb hr (fun t ht _ => ⟨⟨_, rfl, by rw [ht]; exact hP⟩, hS.F ht⟩) hS.2.2 hdg hlocks)
theorem zgret_a {q : Nat} {ty : FieldType} (hx : p.tables.exec = Jvm.exec) (hb : c.code = cc) (hr : meth.sig.returnType = some (.array ty)) (hlocks : meth.locks = false) (hP : Post (some (.ref q)) H) (hS : va_S free s.heap H locs) (hdg : decode cc pc = .ok (.areturn, 1)) (h1 : cells ≤ mc) (h2 : slots ≤ ms) :
    W p l e R s m args below meth c H locs cells slots (MQ below (zGQ Post free) args s mc ms free) (F0 m pc ls [.ref q]) :=
  W.widen h1 h2 (W.aret hx hb hr (Or.inr ⟨_, rfl⟩) (Or.inr ⟨_, rfl⟩) (fun t ht _ => ⟨⟨_, rfl, by rw [ht]; exact hP⟩, hS.F ht⟩) hS.2.2 hdg hlocks)
end ZGC
