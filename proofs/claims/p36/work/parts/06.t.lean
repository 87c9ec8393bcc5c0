/-- the texts of the class's exceptions -/
def zStr : List (Nat × String) := [(63, "one of them is married to a living one"), (82, "a colour is 0 to 5"), (85, "a stage has 0 to 60 days"), (121, "this person does not mourn that one today"), (126, "1 to 200 days go by"), (162, "colours are told 0 to 200 days ahead"), (175, "such a colour is 1 to 5"), (258, "there is no such person"), (264, "there are 16 people"), (266, "both are the same person"), (268, "this person is dead"), (270, "a degree is 1 to 4"), (272, "a stage is 0 to 2")]
/-- which classes above are declared with a text, and which exceptions are of which class -/
def zDec : List String := ["java/lang/RuntimeException", "java/lang/Exception", "java/lang/Throwable"]
def zCas : List String := ["java/lang/IndexOutOfBoundsException", "java/lang/IllegalStateException", "java/lang/IllegalArgumentException"]
def zBad : List Cond := zDec.map (fun x => Cond.declares (Bundle.initS x)) ++ zCas.map (fun x => Cond.castable x x)
def zB (U : State) : Prop := ∀ w ∈ zBad, w.before #[] U = true
theorem zdec {s U : State} {a a' : Array Value} {x : MethodName} (hW : s.vm.Alike U.vm) (h : (Cond.declares x).before a s = true) : (Cond.declares x).before a' U = true :=
  va_tabs (u := s.setVm U.vm) (A := a) (c := .declares x) rfl rfl (by rw [Cond.declares_setVm hW]; exact h)
theorem zcast {s U : State} {a a' : Array Value} {C T : String} (hW : s.vm.Alike U.vm) (h : (Cond.castable C T).before a s = true) : (Cond.castable C T).before a' U = true := by
  obtain ⟨c3, c4, h3, h4, ha⟩ := Cond.castable_spec h
  have e3 : U.vm.findClass C = some c3 := by rw [hW.findClass]; exact h3
  have e4 : U.vm.findClass T = some c4 := by rw [hW.findClass]; exact h4
  have ea : U.vm.assignable c3 c4 = true := by rw [hW.assignable]; exact ha
  simp [Cond.before, Cond.holds, Cond.value, e3, e4, ea]
theorem zB.at {s U : State} (hW : s.vm.Alike U.vm) (h : zB s) (a : Array Value) : ∀ w ∈ zBad, w.before a U = true := by
  intro w hw
  have h0 := h w hw
  rcases List.mem_append.mp hw with g | g
  · obtain ⟨x, -, e⟩ := List.mem_map.mp g
    subst e
    exact zdec hW h0
  · obtain ⟨x, -, e⟩ := List.mem_map.mp g
    subst e
    exact zcast hW h0
/-- what a throw needs of Throwable's statics and of the texts -/
def zT (A : Nat → Prop) (U : State) (H : Heap) : Prop := vx_Zq Bundle.tN "UNASSIGNED_STACK" Bundle.steD A U H ∧ vx_Zq Bundle.tN "SUPPRESSED_SENTINEL" Bundle.listD A U H ∧ (∀ x ∈ zStr, ∃ sa : Nat, vk_R RX2 x.1 x.2 sa U) ∧ zB U
theorem zT.kept {A : Nat → Prop} {U : State} {H H1 : Heap} (h : zT A U H) (hq : ∀ a : Nat, a < H.size → ¬ A a → H1[a]? = H[a]?) : zT A U H1 := ⟨h.1.kept hq, h.2.1.kept hq, h.2.2⟩
theorem zT.narrow {A B : Nat → Prop} {U : State} {H : Heap} (h : zT A U H) (hAB : ∀ q, B q → A q) : zT B U H := ⟨h.1.narrow hAB, h.2.1.narrow hAB, h.2.2⟩
theorem zT.warm {A : Nat → Prop} {s U : State} {H : Heap} (hW : s.WarmedH U.vm) (h : zT A s H) : zT A U H := ⟨h.1.moved hW.alike, h.2.1.moved hW.alike, fun x hx => (h.2.2.1 x hx).elim fun sa q => ⟨sa, vk_R.warm hW q⟩, h.2.2.2.at hW.alike #[]⟩
theorem zT.calling {A : Nat → Prop} {U : State} {g : JFrame} {mk : MethodId} {a : Array Value} (h : zT A U U.heap) : zT A (U.calling g mk a) (U.calling g mk a).heap := ⟨vx_Zq.moved (u := U) (Vm.Alike.refl U.vm) h.1, vx_Zq.moved (u := U) (Vm.Alike.refl U.vm) h.2.1, fun x hx => (h.2.2.1 x hx).elim fun sa q => ⟨sa, vk_R.same (u := U) rfl q⟩, zB.at (s := U) (U := U.calling g mk a) (Vm.Alike.refl U.vm) h.2.2.2 #[]⟩
abbrev zXC (D : va_G) (w : va_W) (E : String) (L : List Nat) : String → State → State → Prop := fun E' st t => E' = E ∧ va_P D vwCl w t.heap ∧ va_F (fun a => a ∈ L) st t
abbrev zNo : Array Value → State → Outcome → State → Prop := fun _ _ _ _ => False
/-- a contract of a method that throws E and leaves the world as it was -/
def zX (l : Launch) (y : MethodName) (ws : List Cond) (rm : Room) (D : va_G) (tys : List (ClassId × FieldType)) (av : List Value) (w : va_W) (E : String) (L : List Nat) : Prop :=
  vx_Met l y ws rm (va_Pc av (fun U => va_P D vwCl w U.heap ∧ va_K D vwCl tys U ∧ zT (fun a => a ∈ L) U U.heap)) zNo (zXC D w E L) 1 6 (fun a => a ∈ L)
section ZX
variable {p : Program} {l : Launch} {e : Env} {R : Room} {s : State} {m : MethodId} {args : Array Value} {below : List Frame} {meth : Method} {c : Code} {H : Heap} {locs : List Loc} {cells slots : Nat} {Q : State → Prop}
variable {pc : Nat} {ls : Array Slot} {rest st0 As : List Value} {cc bytes : ByteArray} {D : va_G} {tys : List (ClassId × FieldType)} {w : va_W} {b : Nat} {A : Nat → Prop} {H0 : Heap} {L : List Nat} {E : String}
variable {y : MethodName} {maxL nL index n : Nat} {ret : Option FieldType} {ws Ts : List Cond} {rm : Room} {own : String}
theorem zblindX {av : List Value} : FrameBlind (va_Pc av (fun U => va_P D vwCl w U.heap ∧ va_K D vwCl tys U ∧ zT (fun a => a ∈ L) U U.heap)) := fun a U g mk q => by
  obtain ⟨q0, qP, qK, qT⟩ := q
  exact ⟨q0, qP, va_K.moved (u := U) (U := U.calling g mk a) (Vm.Alike.refl U.vm) qK, qT.calling⟩
theorem zcallXV {b ci q0 : Nat} {fs : List Value} {cq : vw_C} (S : CallFix p m c cc nL s args Ts own) (hK : va_K D vwCl tys s) (hM : zX l y ws rm D tys (.ref b :: As) w E L) (cw : CallW R s args own cq.1 index y bytes maxL ret ws rm 1 6 n) (hP : va_P D vwCl w H) (hT : zT (fun a => a ∈ L) s H) (hS : va_S A H0 H locs) (hA : ∀ a ∈ L, A a)
    (hc : vwCl[ci]? = some cq) (he : w[q0]? = some (b, .inr (ci, fs))) (hn : As.length = n) (hsz : ls.size = nL) (hst : st0 = As.reverse ++ .ref b :: rest) (hro : (rest.map fun v => v.category).sum ≤ 8) (hdg : decode cc pc = .ok (.invokevirtual index, 3)) (hf : cells + 1 ≤ R.cells ∧ slots + 6 ≤ R.slots)
    (kx : ∀ (ce : Cell) (q : Addr) (H1 : Heap) (locs1 : List Loc), va_P D vwCl w H1 → va_S A H0 H1 locs1 → H.size ≤ H1.size → (∀ q : Nat, q < H.size → q ∉ L → H1[q]? = H[q]?) → H1[q]? = some ce → ce.vm = .none → s.vm.findClass E = some ce.cls → vx_W p l e R s m args below meth c H1 locs1 (cells + 1) (slots + 6) Q (F0 m pc ls rest) q) : W p l e R s m args below meth c H locs cells slots Q (F0 m pc ls st0) := by
  intro T hT0 X
  rcases vx_runV (As := As) (rest := rest) (g := F0 m pc ls st0) (H := H) (locs := locs) (cells := cells) (slots := slots) S hM cw ⟨zblindX, va_recv hK hP hc he, fun U hU hW => ⟨rfl, by rw [hU]; exact hP, va_K.moved hW.alike hK, by rw [hU]; exact hT.warm hW⟩⟩ rfl hn hsz hst (lv_room hro) hdg hf T hT0 X with ⟨v, st₀, t, T', L', h0, X', hL, e1, e2, ⟨hq, -⟩, st⟩ | ⟨q, st₀, t, T', L', E', ce, h0, X', hL, e1, e2, ⟨rfl, hp, hz, hk⟩, hce, hcv, hcl, st⟩
  · rw [h0] at hz hk
    obtain ⟨t2, a1, b1⟩ := kx ce q T'.heap (locs ++ L') (by rw [e1]; exact hp) ⟨Nat.le_trans hS.1 (by rw [e1]; exact hz), fun q h1 h2 => by rw [e1, hk q (Nat.lt_of_lt_of_le h1 hS.1) (fun z => h2 (hA q z))]; exact hS.2.1 q h1 h2, fun q hq => by
        rcases List.mem_append.mp hq with h | h
        · exact hS.2.2 q h
        · exact hA _ (hL q h)⟩ (by rw [e1]; exact hz) (fun q h1 h2 => by rw [e1]; exact hk q h1 h2) (by rw [e1]; exact hce) hcv hcl T' rfl X'
    exact ⟨t2, st.trans a1, b1⟩
/-- the end of a method out of which E goes -/
theorem zoutX {ce : Cell} {q : Addr} (hout : ∀ x ∈ c.exceptionTable.toList, False) (hlocks : meth.locks = false) (hP : va_P D vwCl w H) (hS : va_S (fun a => a ∈ L) s.heap H locs) (hcell : H[q]? = some ce) (hv : ce.vm = .none) (hcl : s.vm.findClass E = some ce.cls) :
    vx_W p l e R s m args below meth c H locs 1 6 (vx_MQ below zNo (zXC D w E L) args s 1 6 (fun a => a ∈ L)) (F0 m pc ls rest) q :=
  vx_out (fun x hx => (hout x hx).elim) hlocks hcell hv hcl (fun t ht _ => ⟨rfl, by rw [ht]; exact hP, hS.F ht⟩) hS.2.2 (Nat.le_refl _) (Nat.le_refl _)
theorem zthrowW {cls text : String} {names : List String} {ik is ic sa : Nat} (hx : p.tables.exec = Jvm.exec) (hb : c.code = cc) (hl : l.stackTraces = false) (hown : s.vm.findClass own = some m.cls) (hcls : Bundle.fit cls = true) (hnames : ∀ n ∈ names, Bundle.fit n = true)
    (hk : (Cond.classLink own ik cls).before args s = true) (hini : (Cond.initialized cls).before args s = true) (hstr : vk_R own is text sa s) (hat : ∀ w ∈ vx_atS own ic cls names, w.before args s = true) (hgood : ∀ w ∈ Cond.classLink own ik cls :: Cond.initialized cls :: vx_atS own ic cls names, vx_ot w = true)
    (hP : va_P D vwCl w H) (hT : zT (fun a => a ∈ L) s s.heap) (hS : va_S (fun a => a ∈ L) s.heap H locs) (hsize : ls.size = c.maxLocals)
    (d0 : decode cc pc = .ok (.new ik, 3)) (d3 : decode cc (pc + 3) = .ok (.dup, 1)) (d4 : decode cc (pc + 4) = .ok (.ldc_w is, 3)) (d7 : decode cc (pc + 7) = .ok (.invokespecial ic, 3)) (d10 : decode cc (pc + 10) = .ok (.athrow, 1))
    (hout : ∀ x ∈ c.exceptionTable.toList, False) (hRf : names.length + 3 < R.frames) (hRl : (rest.map fun v => v.category).sum + (13 * (names.length + 1) + 43) ≤ R.locals) (hRc : 0 + 1 ≤ R.cells) (hRs : 0 + 6 ≤ R.slots) (hlocks : meth.locks = false) :
    W p l e R s m args below meth c H locs 0 0 (vx_MQ below zNo (zXC D w cls L) args s 1 6 (fun a => a ∈ L)) (F0 m pc ls rest) :=
  vx_throwSW hx hb hl hown hcls hnames hk hini hstr hat hgood hT.1 hT.2.1 hS hsize d0 d3 d4 d7 d10 (fun x hx => (hout x hx).elim) hRf hRl hRc hRs hlocks (fun t _ hz hk => ⟨rfl, zkeep (L := []) hP (fun q h _ => hk q h) (fun _ _ h => nomatch h), Nat.le_trans hS.1 hz, fun q h1 h2 => (hk q (Nat.lt_of_lt_of_le h1 hS.1)).trans (hS.2.1 q h1 h2)⟩) hS.2.2 (Nat.le_refl _) (Nat.le_refl _)
theorem zthrowN {cls text : String} {names : List String} {ik is ic sa : Nat} (hx : p.tables.exec = Jvm.exec) (hb : c.code = cc) (hl : l.stackTraces = false) (hown : s.vm.findClass own = some m.cls) (hcls : Bundle.fit cls = true) (hnames : ∀ n ∈ names, Bundle.fit n = true)
    (hk : (Cond.classLink own ik cls).before args s = true) (hini : (Cond.initialized cls).before args s = true) (hstr : vk_R own is text sa s) (hat : ∀ w ∈ vx_atS own ic cls names, w.before args s = true) (hgood : ∀ w ∈ Cond.classLink own ik cls :: Cond.initialized cls :: vx_atS own ic cls names, vx_ot w = true)
    (hP : va_P D vwCl w H) (hT : zT (fun a => a ∈ L) s s.heap) (hS : va_S (fun a => a ∈ L) s.heap H locs) (hsize : ls.size = c.maxLocals)
    (d0 : decode cc pc = .ok (.new ik, 3)) (d3 : decode cc (pc + 3) = .ok (.dup, 1)) (d4 : decode cc (pc + 4) = .ok (.ldc is, 2)) (d6 : decode cc (pc + 6) = .ok (.invokespecial ic, 3)) (d9 : decode cc (pc + 9) = .ok (.athrow, 1))
    (hout : ∀ x ∈ c.exceptionTable.toList, False) (hRf : names.length + 3 < R.frames) (hRl : (rest.map fun v => v.category).sum + (13 * (names.length + 1) + 43) ≤ R.locals) (hRc : 0 + 1 ≤ R.cells) (hRs : 0 + 6 ≤ R.slots) (hlocks : meth.locks = false) :
    W p l e R s m args below meth c H locs 0 0 (vx_MQ below zNo (zXC D w cls L) args s 1 6 (fun a => a ∈ L)) (F0 m pc ls rest) :=
  vx_throwS hx hb hl hown hcls hnames hk hini hstr hat hgood hT.1 hT.2.1 hS hsize d0 d3 d4 d6 d9 (fun x hx => (hout x hx).elim) hRf hRl hRc hRs hlocks (fun t _ hz hk => ⟨rfl, zkeep (L := []) hP (fun q h _ => hk q h) (fun _ _ h => nomatch h), Nat.le_trans hS.1 hz, fun q h1 h2 => (hk q (Nat.lt_of_lt_of_le h1 hS.1)).trans (hS.2.1 q h1 h2)⟩) hS.2.2 (Nat.le_refl _) (Nat.le_refl _)
end ZX
