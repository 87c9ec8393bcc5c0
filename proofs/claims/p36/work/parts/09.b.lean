/-! new int[5][3][2] -/
section M3
def o3 (c : ClassId) (h0 : Nat) : Nat → Cell
  | 0 => { cls := c, slots := Array.replicate 5 .null, vm := .none }
  | i + 1 => (o3 c h0 i).setSlot i (.ref (h0 + 1 + 4 * i))
def fl3 (s : State) (c c1 cI : ClassId) : Nat → State
  | 0 => s.pushCell (o3 c s.heap.size 0)
  | i + 1 => (Jvm.Free.Multi.fill (fl3 s c c1 cI i) c1 cI 3 2 (.int 0) 3).setCell s.heap.size (o3 c s.heap.size (i + 1))
theorem o3_facts (c : ClassId) (h0 : Nat) : ∀ i, (o3 c h0 i).cls = c ∧ (o3 c h0 i).vm = .none ∧ (o3 c h0 i).slots.size = 5
  | 0 => ⟨rfl, rfl, by simp [o3]⟩
  | i + 1 => by
    obtain ⟨a, b, d⟩ := o3_facts c h0 i
    exact ⟨by simp [o3, Cell.setSlot, a], by simp [o3, Cell.setSlot, b], by simp [o3, Cell.setSlot, d]⟩
theorem fl3_facts (s : State) (c c1 cI : ClassId) : ∀ i, (fl3 s c c1 cI i).heap.size = s.heap.size + 1 + 4 * i ∧ (fl3 s c c1 cI i).heap[s.heap.size]? = some (o3 c s.heap.size i) ∧ (fl3 s c c1 cI i).vm = s.vm ∧ (fl3 s c c1 cI i).slotsUsed = s.slotsUsed + 5 + i * 9
  | 0 => ⟨by simp [fl3], by simp [fl3], rfl, by simp [fl3, o3]⟩
  | i + 1 => by
    obtain ⟨a, b, d, u⟩ := fl3_facts s c c1 cI i
    obtain ⟨f1, f2, f3, f4⟩ := Jvm.Free.Multi.fill_facts (fl3 s c c1 cI i) c1 cI 3 2 (.int 0) 3
    have hb' : (Jvm.Free.Multi.fill (fl3 s c c1 cI i) c1 cI 3 2 (.int 0) 3).heap[s.heap.size]? = some (o3 c s.heap.size i) := by rw [Jvm.Free.Multi.fill_old (fl3 s c c1 cI i) c1 cI 3 2 (.int 0) (a := s.heap.size) (show @LT.lt Nat _ _ _ from by rw [a]; omega) 3]; exact b
    refine ⟨?_, State.heap_setCell_self hb', by show (State.setCell _ _ _).vm = _; simp [f3, d], ?_⟩
    · simp [fl3, State.setCell, f1, a]; omega
    · simp [fl3, f4, u]; omega
theorem fl3_setTop (s : State) (f : JFrame) (c c1 cI : ClassId) : ∀ i, fl3 (s.setTop f) c c1 cI i = (fl3 s c c1 cI i).setTop f
  | 0 => rfl
  | i + 1 => by simp only [fl3, fl3_setTop s f c c1 cI i, Jvm.Free.Multi.fill_setTop, State.heap_setTop, State.setCell_setTop]
theorem fl3_old (s : State) (c c1 cI : ClassId) {a : Addr} (ha : a < s.heap.size) : ∀ i, (fl3 s c c1 cI i).heap[a]? = s.heap[a]?
  | 0 => State.heap_pushCell_of_lt _ _ ha
  | i + 1 => by
    have f1 := (fl3_facts s c c1 cI i).1
    have ha8 : a < (fl3 s c c1 cI i).heap.size := Nat.lt_of_lt_of_le ha (by rw [f1]; omega)
    show ((Jvm.Free.Multi.fill (fl3 s c c1 cI i) c1 cI 3 2 (.int 0) 3).setCell s.heap.size _).heap[a]? = _
    rw [State.heap_setCell_other (Nat.ne_of_gt ha), Jvm.Free.Multi.fill_old (fl3 s c c1 cI i) c1 cI 3 2 (.int 0) (a := a) ha8 3]
    exact fl3_old s c c1 cI ha i
theorem fl3_in (s : State) (c c1 cI : ClassId) : ∀ i j, j < i → (fl3 s c c1 cI i).heap[s.heap.size + 1 + 4 * j]? = some (Jvm.Free.Multi.outerC c1 3 (s.heap.size + 1 + 4 * j) 3) ∧ ∀ k, k < 3 → (fl3 s c c1 cI i).heap[s.heap.size + 1 + 4 * j + 1 + k]? = some (Jvm.Free.Multi.innerC cI 2 (.int 0))
  | 0, _, h => absurd h (Nat.not_lt_zero _)
  | i + 1, j, h => by
    have f1 := (fl3_facts s c c1 cI i).1
    have e1 : (fl3 s c c1 cI (i + 1)).heap = ((Jvm.Free.Multi.fill (fl3 s c c1 cI i) c1 cI 3 2 (.int 0) 3).setCell s.heap.size (o3 c s.heap.size (i + 1))).heap := rfl
    rcases Nat.lt_or_ge j i with hj | hj
    · obtain ⟨g1, g2⟩ := fl3_in s c c1 cI i j hj
      refine ⟨?_, fun k hk => ?_⟩
      · rw [e1, State.heap_setCell_other (show s.heap.size ≠ s.heap.size + 1 + 4 * j by omega), Jvm.Free.Multi.fill_old (fl3 s c c1 cI i) c1 cI 3 2 (.int 0) (a := s.heap.size + 1 + 4 * j) (show @LT.lt Nat _ _ _ from by rw [f1]; omega) 3]
        exact g1
      · rw [e1, State.heap_setCell_other (show s.heap.size ≠ s.heap.size + 1 + 4 * j + 1 + k by omega), Jvm.Free.Multi.fill_old (fl3 s c c1 cI i) c1 cI 3 2 (.int 0) (a := s.heap.size + 1 + 4 * j + 1 + k) (show @LT.lt Nat _ _ _ from by rw [f1]; omega) 3]
        exact g2 k hk
    · have e : j = i := by omega
      subst e
      refine ⟨?_, fun k hk => ?_⟩
      · rw [e1, State.heap_setCell_other (show s.heap.size ≠ s.heap.size + 1 + 4 * j by omega), ← f1]
        exact (Jvm.Free.Multi.fill_facts (fl3 s c c1 cI j) c1 cI 3 2 (.int 0) 3).2.1
      · rw [e1, State.heap_setCell_other (show s.heap.size ≠ s.heap.size + 1 + 4 * j + 1 + k by omega), ← f1]
        exact Jvm.Free.Multi.fill_inner (fl3 s c c1 cI j) c1 cI 3 2 (.int 0) 3 k hk
theorem wp_make3 {E : CtlPost} {e : Env} {d : Bool} {acts : List Action} {s : State} {c c1 cI cc : ClassId} {k k1 kI : Class} (hk : s.vm.classes[c]? = some k) (hkind : k.kind = .array c1 (.array (.array .int))) (hk1 : s.vm.classes[c1]? = some k1) (hkind1 : k1.kind = .array cI (.array .int)) (hkI : s.vm.classes[cI]? = some kI) (hkindI : kI.kind = .array cc .int)
    (hl : 5 ≤ e.platform.arrayLengthLimit) (hh : 20 ≤ e.platform.maxHeapBytes) (hc : s.heap.size + 21 ≤ e.platform.maxCells) (hs : s.slotsUsed + 50 ≤ e.platform.maxSlots)
    {Q : Addr → Pre} (hq : ∀ d' acts', Q s.heap.size d' acts' (fl3 s c c1 cI 5)) : wp (Jvm.Op.multianewarray.make c [5, 3, 2]) Q E e d acts s := by
  have hfind : (([3, 2] : List Int32).find? (· < 0)) = none := by decide
  have e5 : (5 : Int32).toNatClampNeg = 5 := by decide
  have e3 : (3 : Int32).toNatClampNeg = 3 := by decide
  have e2 : (2 : Int32).toNatClampNeg = 2 := by decide
  rw [Jvm.Op.multianewarray.make]
  simp only [wp_bind', W.ite, show ¬ ((5 : Int32) < 0) from by decide, if_false, wp_pure', W.theClass, hk, hkind, Option.some.injEq, exists_eq_left']
  refine Jvm.Free.Multi.wp_newArray hk hkind (by rw [e5]; omega) (by rw [e5]; show ¬ 5 * 4 > _; omega) (Jvm.Free.Multi.refFits rfl _ (Or.inl rfl)) rfl (by omega) (by rw [e5]; omega) ?_
  simp only [hfind]
  rw [ite_self, wp_bind', Std.Legacy.Range.forIn_eq_forIn_range', e5]
  have hsz : ([:5] : Std.Legacy.Range).size = 5 := by simp [Std.Legacy.Range.size]
  rw [hsz]
  show wp (forIn (List.range' 0 5 1) PUnit.unit _) _ E e d acts _
  refine wp_forIn_inv (fun rest s' => ∃ i, i ≤ 5 ∧ rest = List.range' i (5 - i) ∧ s' = fl3 s c c1 cI i) _ _ ⟨0, Nat.zero_le _, rfl, rfl⟩ ?_ ?_
  · rintro x rest s' d' acts' Q' ⟨i, hi, hl9, rfl⟩ hnext
    have hlt : i < 5 := by
      rcases Nat.lt_or_ge i 5 with h | h
      · exact h
      · rw [show 5 - i = 0 from by omega] at hl9; simp at hl9
    obtain ⟨rfl, hrest⟩ : x = i ∧ rest = List.range' (i + 1) (5 - (i + 1)) := by
      rw [show 5 - i = (5 - (i + 1)) + 1 from by omega, List.range'_succ] at hl9
      exact ⟨(List.cons.inj hl9).1, (List.cons.inj hl9).2⟩
    obtain ⟨f1, f2, f3, f4⟩ := fl3_facts s c c1 cI x
    obtain ⟨o1, o2, o3'⟩ := o3_facts c s.heap.size x
    simp only [wp_bind']
    refine Jvm.Free.Multi.wp_make2 (n := 3) (m := 2) (k := k1) (kc := kI) (comp := cI) (cc := cc) (t0 := .array .int) (type := .int) (by rw [f3]; exact hk1) hkind1 rfl (by rw [f3]; exact hkI) hkindI (by decide) (by decide) (by rw [e3]; omega) (by rw [e3]; show ¬ 3 * 4 > _; omega) (by rw [e2]; omega) (by rw [e2]; show ¬ 2 * 4 > _; omega) rfl rfl (by rw [e3, f1]; omega) (by rw [e3, e2, f4]; omega) (fun d2 acts2 => ?_)
    rw [e3, e2]
    obtain ⟨g1, g2, g3, g4⟩ := Jvm.Free.Multi.fill_facts (fl3 s c c1 cI x) c1 cI 3 2 (.int 0) 3
    simp only [wp_bind', W.writeLoc, wp_pure']
    refine ⟨o3 c s.heap.size x, by show (Jvm.Free.Multi.fill (fl3 s c c1 cI x) c1 cI 3 2 (.int 0) 3).heap[s.heap.size]? = _; rw [Jvm.Free.Multi.fill_old (fl3 s c c1 cI x) c1 cI 3 2 (.int 0) (a := s.heap.size) (show @LT.lt Nat _ _ _ from by rw [f1]; omega) 3]; exact f2, by rw [o2]; simp, by rw [o3']; exact hlt, ?_, hnext _ _ _ ⟨x + 1, hlt, hrest, ?_⟩⟩
    · rw [o1, o2]
      show State.fitsSlot (Jvm.Free.Multi.fill (fl3 s c c1 cI x) c1 cI 3 2 (.int 0) 3) _ _ _ _ = true
      simp [State.fitsSlot, State.slotType?, g3, f3, hk, hkind, Jvm.Free.Multi.refFits (show (FieldType.array (.array .int)).isReference = true from rfl) _ (Or.inr ⟨_, rfl⟩)]
    · rw [f1]; rfl
  · rintro s' d' acts' ⟨i, hi, hl9, rfl⟩
    have hiN : i = 5 := by
      rcases Nat.lt_or_ge i 5 with h | h
      · rw [show 5 - i = (5 - (i + 1)) + 1 from by omega, List.range'_succ] at hl9; cases hl9
      · omega
    subst hiN
    simp only [wp_pure']
    exact hq _ _
section
variable {p : Program} {l : Launch} {e : Env} {R : Room} {s : State} {m : MethodId} {args : Array Value} {below : List Frame} {meth : Method} {c : Code} {T : State} {locs : List Loc} {cells slots : Nat}
theorem filled3 (X : Stand p l e R s m args below meth c T locs cells slots) (cA c1 cI : ClassId) :
    ∀ i, ∃ L : List Loc, (∀ x ∈ L, T.heap.size ≤ x.base) ∧ Stand p l e R s m args below meth c (fl3 T cA c1 cI i) (locs ++ L) (cells + 1 + 4 * i) (slots + 5 + 9 * i)
  | 0 => by
    have h := X.pushed (o3 cA T.heap.size 0)
    rw [(o3_facts cA T.heap.size 0).2.2] at h
    exact ⟨[], fun _ h => (by cases h), by simpa [fl3] using h⟩
  | i + 1 => by
    obtain ⟨L, hL, Xi⟩ := filled3 X cA c1 cI i
    obtain ⟨f1, f2, f3, f4⟩ := fl3_facts T cA c1 cI i
    have XF := Xi.filled c1 cI 3 2 (.int 0) 3
    have hcell : (Jvm.Free.Multi.fill (fl3 T cA c1 cI i) c1 cI 3 2 (.int 0) 3).heap[T.heap.size]? = some (o3 cA T.heap.size i) := by rw [Jvm.Free.Multi.fill_old (fl3 T cA c1 cI i) c1 cI 3 2 (.int 0) (a := T.heap.size) (show @LT.lt Nat _ _ _ from by rw [f1]; omega) 3]; exact f2
    have h := XF.stored hcell i (.ref (T.heap.size + 1 + 4 * i))
    refine ⟨L ++ ((List.range 3).map fun j => (⟨(fl3 T cA c1 cI i).heap.size, j⟩ : Loc)) ++ [⟨T.heap.size, i⟩], ?_, ?_⟩
    · intro x hx
      rcases List.mem_append.mp hx with hx | hx
      · rcases List.mem_append.mp hx with hx | hx
        · exact hL x hx
        · obtain ⟨j, -, rfl⟩ := List.mem_map.mp hx
          show T.heap.size ≤ (fl3 T cA c1 cI i).heap.size
          omega
      · rw [List.mem_singleton.mp hx]
        exact Nat.le_refl _
    · rw [show cells + 1 + 4 * (i + 1) = cells + 1 + 4 * i + 1 + 3 by omega, show slots + 5 + 9 * (i + 1) = slots + 5 + 9 * i + 3 + 3 * 2 by omega, ← List.append_assoc, ← List.append_assoc]
      exact h
end
theorem o3_cell (c : ClassId) (h0 : Nat) (i : Nat) : o3 c h0 i = arrV c 5 (fun j => if j < i then .ref (h0 + 1 + 4 * j) else .null) := by
  induction i with
  | zero =>
    show ({ cls := c, slots := Array.replicate 5 .null, vm := .none } : Cell) = _
    rw [arrV_new]
    exact arrV_cg (fun j _ => (if_neg (Nat.not_lt_zero j)).symm)
  | succ i ih =>
    show (o3 c h0 i).setSlot i (.ref (h0 + 1 + 4 * i)) = _
    rw [ih, arrV_store]
    refine arrV_cg (fun j _ => ?_)
    unfold updV
    by_cases e : j = i
    · subst e
      rw [if_pos rfl, if_pos (Nat.lt_succ_self j)]
    · rw [if_neg e]
      by_cases h : j < i
      · exact (if_pos h).trans (if_pos (by omega)).symm
      · exact (if_neg h).trans (if_neg (by omega)).symm
theorem outC_cell (c : ClassId) (N h0 : Nat) (i : Nat) : Jvm.Free.Multi.outerC c N h0 i = arrV c N (fun j => if j < i then .ref (h0 + 1 + j) else .null) := by
  induction i with
  | zero =>
    show ({ cls := c, slots := Array.replicate N .null, vm := .none } : Cell) = _
    rw [arrV_new]
    exact arrV_cg (fun j _ => (if_neg (Nat.not_lt_zero j)).symm)
  | succ i ih =>
    show (Jvm.Free.Multi.outerC c N h0 i).setSlot i (.ref (h0 + 1 + i)) = _
    rw [ih, arrV_store]
    refine arrV_cg (fun j _ => ?_)
    unfold updV
    by_cases e : j = i
    · subst e
      rw [if_pos rfl, if_pos (Nat.lt_succ_self j)]
    · rw [if_neg e]
      by_cases h : j < i
      · exact (if_pos h).trans (if_pos (by omega)).symm
      · exact (if_neg h).trans (if_neg (by omega)).symm
def rc3 (b : Nat) : Int → Nat := fun d => b + 1 + 4 * d.toNat
def rr3 (b : Nat) : Int → Int → Nat := fun d t => b + 1 + 4 * d.toNat + 1 + t.toNat
section
variable {p : Program} {l : Launch} {e : Env} {R : Room} {s : State} {m : MethodId} {args : Array Value} {below : List Frame} {meth : Method} {c : Code} {H : Heap} {locs : List Loc} {cells slots : Nat} {Q : State → Prop}
variable {pc : Nat} {ls : Array Slot} {rest : List Value} {cc : ByteArray} {A : Nat → Prop} {H0 : Heap} {cI c1 c2 : ClassId} {own : String} {index : Nat}
theorem zs_mna3 (hx : p.tables.exec = Jvm.exec) (hb : c.code = cc) (hQ : zKA cI c1 c2 s) (hown : s.vm.findClass own = some m.cls) (hclink : (Cond.classLink own index "[[[I").before args s = true) (hS : va_S A H0 H locs) (hA : ∀ q : Nat, H0.size ≤ q → A q)
    (hcells : cells + 21 ≤ R.cells) (hslots : slots + 50 ≤ R.slots) (hdg : decode cc pc = .ok (.multianewarray index 3, 4))
    (kk : ∀ (H1 : Heap) (locs1 : List Loc) (b : Nat), b = H.size → rA c2 H1 b 5 (rc3 b) → (∀ d : Int, 0 ≤ d → d ≤ 4 → rA c1 H1 (rc3 b d) 3 (rr3 b d) ∧ ∀ t : Int, 0 ≤ t → t ≤ 2 → iA cI H1 (rr3 b d t) 2 (cst 0)) → H1.size = H.size + 21 → (∀ x : Nat, x < H.size → H1[x]? = H[x]?) → va_S A H0 H1 locs1 → W p l e R s m args below meth c H1 locs1 (cells + 21) (slots + 50) Q (F0 m (pc + 4) ls (.ref b :: rest))) : W p l e R s m args below meth c H locs cells slots Q (F0 m pc ls (.int (zI 2) :: .int (zI 3) :: .int (zI 5) :: rest)) := by
  intro T hT X
  have hnm := hQ.1.2.2.2
  obtain ⟨-, ⟨kI, cc9, gI1, gI2⟩, ⟨k1, g11, g12⟩, ⟨k2, g21, g22⟩⟩ := hQ
  have hpl : e.platform.magicAccessors = ({} : Platform).magicAccessors := by rw [X.admits.platform]
  obtain ⟨c0, hfc0, hcl⟩ := Cond.classLink_spec hown hclink e.platform hpl
  have e0 : c0 = c2 := Option.some.inj (hfc0.symm.trans hnm)
  subst e0
  obtain ⟨hg₁, hwarm₁, hready₁⟩ := State.classEntry (e := e) X.warmed hcl
  generalize T.vm.noted m.cls index (.cls c0) = vm₁ at hg₁ hwarm₁ hready₁
  have hal : s.vm.Alike vm₁ := hwarm₁.alike
  obtain ⟨kI', hI1, hI2⟩ := hal.2.2 _ _ gI1
  obtain ⟨k1', h11, h12⟩ := hal.2.2 _ _ g11
  obtain ⟨k2', h21, h22⟩ := hal.2.2 _ _ g21
  have X₁ := X.noted hwarm₁
  obtain ⟨hr1, hr2⟩ := X.roomAbove hcells hslots
  obtain ⟨L, hL, XF⟩ := filled3 X₁ c0 c1 cI 5
  have hTh : (T.setVm vm₁).heap = H := hT
  obtain ⟨f1, f2, f3, f4⟩ := fl3_facts (T.setVm vm₁) c0 c1 cI 5
  have hold : ∀ x : Nat, x < H.size → (fl3 (T.setVm vm₁) c0 c1 cI 5).heap[x]? = H[x]? := fun x hx => by
    have := fl3_old (T.setVm vm₁) c0 c1 cI (a := x) (by rw [hTh]; exact hx) 5
    rw [hTh] at this
    exact this
  have hin : ∀ d : Nat, d < 5 → (fl3 (T.setVm vm₁) c0 c1 cI 5).heap[H.size + 1 + 4 * d]? = some (Jvm.Free.Multi.outerC c1 3 (H.size + 1 + 4 * d) 3) ∧ ∀ k, k < 3 → (fl3 (T.setVm vm₁) c0 c1 cI 5).heap[H.size + 1 + 4 * d + 1 + k]? = some (Jvm.Free.Multi.innerC cI 2 (.int 0)) := fun d hd => by
    have := fl3_in (T.setVm vm₁) c0 c1 cI 5 d hd
    rw [hTh] at this
    exact this
  rw [hTh] at f1 f2
  obtain ⟨t, a1, b1⟩ := kk (fl3 (T.setVm vm₁) c0 c1 cI 5).heap (locs ++ L) H.size rfl (by
      unfold rA vA
      rw [f2, o3_cell]
      refine congrArg some (arrV_cg (fun j hj => ?_))
      rw [if_pos hj]
      unfold rV rc3
      rw [Int.toNat_natCast]) (fun d d0 d4 => by
      obtain ⟨g1, g2⟩ := hin d.toNat (by omega)
      refine ⟨?_, fun t t0 t2 => ?_⟩
      · unfold rA vA rc3
        rw [g1, outC_cell]
        refine congrArg some (arrV_cg (fun j hj => ?_))
        rw [if_pos hj]
        unfold rV rr3
        rw [Int.toNat_natCast]
      · unfold iA vA rr3
        rw [g2 t.toNat (by omega)]
        show some ({ cls := cI, slots := Array.replicate 2 (.int 0), vm := .none } : Cell) = _
        rw [arrV_new]
        rfl) (by omega) hold ⟨by rw [f1]; have := hS.1; omega, fun x h1 h2 => (hold x (Nat.lt_of_lt_of_le h1 hS.1)).trans (hS.2.1 x h1 h2), fun x hx => by
        rcases List.mem_append.mp hx with h | h
        · exact hS.2.2 x h
        · exact hA _ (Nat.le_trans hS.1 (by have := hL x h; rw [hTh] at this; exact this))⟩ _ rfl XF
  refine ⟨t, ?_, b1⟩
  have e5 : zI 5 = 5 := by decide
  have e3 : zI 3 = 3 := by decide
  have e2 : zI 2 = 2 := by decide
  rw [e5, e3, e2]
  have hdg' : decode c.code pc = .ok (.multianewarray index 3, 4) := by rw [hb]; exact hdg
  jvm_step X.here [hx, hdg']
  simp only [Jvm.Op.multianewarray.sem, wp_bind', W.resolveClassAt_links (State.method?_setTop (F0 m pc ls (.int 2 :: .int 3 :: .int 5 :: rest)) X.here.top) (show (resolveClass (JFrame.method (F0 m pc ls (.int 2 :: .int 3 :: .int 5 :: rest))).cls index).Gives e.toSetting (T.setTop (F0 m pc ls (.int 2 :: .int 3 :: .int 5 :: rest))).vm (Except.ok c0) vm₁ from hg₁)]
  rw [W.popN, if_neg (by decide)]
  refine ⟨F0 m pc ls (.int 2 :: .int 3 :: .int 5 :: rest), State.topJava?_setTop' (s := T.setVm vm₁) _ X.here.top, [.int 5, .int 3, .int 2], rest, rfl, rfl, ?_⟩
  simp only [List.mapM_cons, List.mapM_nil, wp_bind', wp_pure']
  refine wp_make3 (k := k2') (k1 := k1') (kI := kI') (c1 := c1) (cI := cI) (cc := cc9) h21 (by rw [h22]; exact g22) h11 (by rw [h12]; exact g12) hI1 (by rw [hI2]; exact gI2) (by rw [Launch.admits_arrayLengthLimit X.admits]; omega) (by rw [Launch.admits_maxHeapBytes X.admits]; omega) (by show T.heap.size + 21 ≤ _; omega) (by show T.slotsUsed + 50 ≤ _; omega) (fun d' acts' => ?_)
  have eS : ((T.setTop (F0 m pc ls (.int 2 :: .int 3 :: .int 5 :: rest))).setVm vm₁).setTop { F0 m pc ls (.int 2 :: .int 3 :: .int 5 :: rest) with stack := rest } = (T.setVm vm₁).setTop { F0 m pc ls (.int 2 :: .int 3 :: .int 5 :: rest) with stack := rest } := by
    show ((T.setVm vm₁).setTop _).setTop _ = _
    rw [State.setTop_setTop]
  rw [eS, fl3_setTop]
  simp only [wp_bind', W.mark, W.pushRef, State.topJava?_setTop' _ XF.here.top, Option.some.injEq, exists_eq_left', State.setTop_setTop, State.heap_setTop]
  intro acts
  simp [jvm, XF.here.top]
  rw [← hT] at a1
  exact a1
end
end M3
