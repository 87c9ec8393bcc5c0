section
-- ===== PART A: goes FIRST, ahead of the names: the tables' words, and 'selects' of the private methods out of them =====
/-- a private method of a class that the tables say can be made, by its rows of tables_1 -/
def lw_okq (q : MethodName × Nat) : Prop := (q.1.cls ≠ "java/lang/invoke/MethodHandle" ∧ q.1.cls ≠ "java/lang/invoke/VarHandle") ∧ Cond.instantiable q.1.cls q.2 ∈ tables_1 ∧ Cond.privateMethod q.1 ∈ tables_1 ∧ Cond.instanceMethod q.1 ∈ tables_1
theorem lw_p0 : lw_okq (⟨"MourningRibbons", "needPerson", "(I)V"⟩, 9) := ⟨⟨by decide +kernel, by decide +kernel⟩, List.mem_of_getElem? (i := 15) (by decide +kernel), List.mem_of_getElem? (i := 99) (by decide +kernel), List.mem_of_getElem? (i := 100) (by decide +kernel)⟩
theorem lw_p1 : lw_okq (⟨"java/lang/Throwable", "fillInStackTrace", "(I)Ljava/lang/Throwable;"⟩, 6) := ⟨⟨by decide +kernel, by decide +kernel⟩, List.mem_of_getElem? (i := 141) (by decide +kernel), List.mem_of_getElem? (i := 139) (by decide +kernel), List.mem_of_getElem? (i := 140) (by decide +kernel)⟩
theorem lw_p2 : lw_okq (⟨"MourningRibbons", "needAlive", "(I)V"⟩, 9) := ⟨⟨by decide +kernel, by decide +kernel⟩, List.mem_of_getElem? (i := 15) (by decide +kernel), List.mem_of_getElem? (i := 171) (by decide +kernel), List.mem_of_getElem? (i := 172) (by decide +kernel)⟩
theorem lw_p3 : lw_okq (⟨"MourningRibbons", "endMourningsOf", "(I)V"⟩, 9) := ⟨⟨by decide +kernel, by decide +kernel⟩, List.mem_of_getElem? (i := 15) (by decide +kernel), List.mem_of_getElem? (i := 201) (by decide +kernel), List.mem_of_getElem? (i := 202) (by decide +kernel)⟩
theorem lw_p4 : lw_okq (⟨"MourningRibbons", "beginMourningsFor", "(I)I"⟩, 9) := ⟨⟨by decide +kernel, by decide +kernel⟩, List.mem_of_getElem? (i := 15) (by decide +kernel), List.mem_of_getElem? (i := 208) (by decide +kernel), List.mem_of_getElem? (i := 209) (by decide +kernel)⟩
theorem lw_p5 : lw_okq (⟨"MourningRibbons$Family", "reachFrom", "(III)V"⟩, 5) := ⟨⟨by decide +kernel, by decide +kernel⟩, List.mem_of_getElem? (i := 23) (by decide +kernel), List.mem_of_getElem? (i := 219) (by decide +kernel), List.mem_of_getElem? (i := 220) (by decide +kernel)⟩
theorem lw_p6 : lw_okq (⟨"MourningRibbons$Family", "isStep", "(II)Z"⟩, 5) := ⟨⟨by decide +kernel, by decide +kernel⟩, List.mem_of_getElem? (i := 23) (by decide +kernel), List.mem_of_getElem? (i := 223) (by decide +kernel), List.mem_of_getElem? (i := 224) (by decide +kernel)⟩
theorem lw_p7 : lw_okq (⟨"MourningRibbons", "wouldBegin", "(I)Z"⟩, 9) := ⟨⟨by decide +kernel, by decide +kernel⟩, List.mem_of_getElem? (i := 15) (by decide +kernel), List.mem_of_getElem? (i := 227) (by decide +kernel), List.mem_of_getElem? (i := 228) (by decide +kernel)⟩
theorem lw_p8 : lw_okq (⟨"MourningRibbons", "paintAhead", "(I)V"⟩, 9) := ⟨⟨by decide +kernel, by decide +kernel⟩, List.mem_of_getElem? (i := 15) (by decide +kernel), List.mem_of_getElem? (i := 255) (by decide +kernel), List.mem_of_getElem? (i := 256) (by decide +kernel)⟩
theorem lw_p9 : lw_okq (⟨"MourningRibbons", "leftFor", "(II)I"⟩, 9) := ⟨⟨by decide +kernel, by decide +kernel⟩, List.mem_of_getElem? (i := 15) (by decide +kernel), List.mem_of_getElem? (i := 260) (by decide +kernel), List.mem_of_getElem? (i := 261) (by decide +kernel)⟩
theorem lw_p10 : lw_okq (⟨"MourningRibbons", "wornAhead", "(I)I"⟩, 9) := ⟨⟨by decide +kernel, by decide +kernel⟩, List.mem_of_getElem? (i := 15) (by decide +kernel), List.mem_of_getElem? (i := 274) (by decide +kernel), List.mem_of_getElem? (i := 275) (by decide +kernel)⟩
theorem lw_p11 : lw_okq (⟨"MourningRibbons", "countWearing", "(I)I"⟩, 9) := ⟨⟨by decide +kernel, by decide +kernel⟩, List.mem_of_getElem? (i := 15) (by decide +kernel), List.mem_of_getElem? (i := 282) (by decide +kernel), List.mem_of_getElem? (i := 283) (by decide +kernel)⟩
theorem lw_p12 : lw_okq (⟨"MourningRibbons", "colourAfter", "(II)I"⟩, 9) := ⟨⟨by decide +kernel, by decide +kernel⟩, List.mem_of_getElem? (i := 15) (by decide +kernel), List.mem_of_getElem? (i := 286) (by decide +kernel), List.mem_of_getElem? (i := 287) (by decide +kernel)⟩
theorem lw_p13 : lw_okq (⟨"MourningRibbons", "needDegree", "(I)V"⟩, 9) := ⟨⟨by decide +kernel, by decide +kernel⟩, List.mem_of_getElem? (i := 15) (by decide +kernel), List.mem_of_getElem? (i := 318) (by decide +kernel), List.mem_of_getElem? (i := 319) (by decide +kernel)⟩
theorem lw_p14 : lw_okq (⟨"MourningRibbons", "countMournings", "(I)I"⟩, 9) := ⟨⟨by decide +kernel, by decide +kernel⟩, List.mem_of_getElem? (i := 15) (by decide +kernel), List.mem_of_getElem? (i := 340) (by decide +kernel), List.mem_of_getElem? (i := 341) (by decide +kernel)⟩
theorem lw_p15 : lw_okq (⟨"MourningRibbons", "longestLeft", "(I)I"⟩, 9) := ⟨⟨by decide +kernel, by decide +kernel⟩, List.mem_of_getElem? (i := 15) (by decide +kernel), List.mem_of_getElem? (i := 352) (by decide +kernel), List.mem_of_getElem? (i := 353) (by decide +kernel)⟩
def lw_privs_1 : List (MethodName × Nat) := [(⟨"MourningRibbons", "needPerson", "(I)V"⟩, 9), (⟨"java/lang/Throwable", "fillInStackTrace", "(I)Ljava/lang/Throwable;"⟩, 6), (⟨"MourningRibbons", "needAlive", "(I)V"⟩, 9), (⟨"MourningRibbons", "endMourningsOf", "(I)V"⟩, 9), (⟨"MourningRibbons", "beginMourningsFor", "(I)I"⟩, 9), (⟨"MourningRibbons$Family", "reachFrom", "(III)V"⟩, 5), (⟨"MourningRibbons$Family", "isStep", "(II)Z"⟩, 5), (⟨"MourningRibbons", "wouldBegin", "(I)Z"⟩, 9), (⟨"MourningRibbons", "paintAhead", "(I)V"⟩, 9), (⟨"MourningRibbons", "leftFor", "(II)I"⟩, 9), (⟨"MourningRibbons", "wornAhead", "(I)I"⟩, 9), (⟨"MourningRibbons", "countWearing", "(I)I"⟩, 9), (⟨"MourningRibbons", "colourAfter", "(II)I"⟩, 9), (⟨"MourningRibbons", "needDegree", "(I)V"⟩, 9), (⟨"MourningRibbons", "countMournings", "(I)I"⟩, 9), (⟨"MourningRibbons", "longestLeft", "(I)I"⟩, 9)]
theorem lw_r1 : ∀ q ∈ lw_privs_1, lw_okq q := List.forall_mem_cons.mpr ⟨lw_p0, List.forall_mem_cons.mpr ⟨lw_p1, List.forall_mem_cons.mpr ⟨lw_p2, List.forall_mem_cons.mpr ⟨lw_p3, List.forall_mem_cons.mpr ⟨lw_p4, List.forall_mem_cons.mpr ⟨lw_p5, List.forall_mem_cons.mpr ⟨lw_p6, List.forall_mem_cons.mpr ⟨lw_p7, List.forall_mem_cons.mpr ⟨lw_p8, List.forall_mem_cons.mpr ⟨lw_p9, List.forall_mem_cons.mpr ⟨lw_p10, List.forall_mem_cons.mpr ⟨lw_p11, List.forall_mem_cons.mpr ⟨lw_p12, List.forall_mem_cons.mpr ⟨lw_p13, List.forall_mem_cons.mpr ⟨lw_p14, List.forall_mem_cons.mpr ⟨lw_p15, fun _ h => absurd h List.not_mem_nil⟩⟩⟩⟩⟩⟩⟩⟩⟩⟩⟩⟩⟩⟩⟩⟩
theorem lw_p16 : lw_okq (⟨"MourningRibbons", "firstLighterDay", "()I"⟩, 9) := ⟨⟨by decide +kernel, by decide +kernel⟩, List.mem_of_getElem? (i := 15) (by decide +kernel), List.mem_of_getElem? (i := 360) (by decide +kernel), List.mem_of_getElem? (i := 361) (by decide +kernel)⟩
theorem lw_p17 : lw_okq (⟨"MourningRibbons", "countAhead", "(I)I"⟩, 9) := ⟨⟨by decide +kernel, by decide +kernel⟩, List.mem_of_getElem? (i := 15) (by decide +kernel), List.mem_of_getElem? (i := 369) (by decide +kernel), List.mem_of_getElem? (i := 370) (by decide +kernel)⟩
theorem lw_p18 : lw_okq (⟨"MourningRibbons", "needTwo", "(II)V"⟩, 9) := ⟨⟨by decide +kernel, by decide +kernel⟩, List.mem_of_getElem? (i := 15) (by decide +kernel), List.mem_of_getElem? (i := 398) (by decide +kernel), List.mem_of_getElem? (i := 399) (by decide +kernel)⟩
theorem lw_p19 : lw_okq (⟨"MourningRibbons", "addLossesOf", "(I)V"⟩, 9) := ⟨⟨by decide +kernel, by decide +kernel⟩, List.mem_of_getElem? (i := 15) (by decide +kernel), List.mem_of_getElem? (i := 407) (by decide +kernel), List.mem_of_getElem? (i := 408) (by decide +kernel)⟩
theorem lw_p20 : lw_okq (⟨"MourningRibbons", "wornAheadWith", "(I)I"⟩, 9) := ⟨⟨by decide +kernel, by decide +kernel⟩, List.mem_of_getElem? (i := 15) (by decide +kernel), List.mem_of_getElem? (i := 411) (by decide +kernel), List.mem_of_getElem? (i := 412) (by decide +kernel)⟩
theorem lw_p21 : lw_okq (⟨"MourningRibbons", "digestCode", "(J)J"⟩, 9) := ⟨⟨by decide +kernel, by decide +kernel⟩, List.mem_of_getElem? (i := 15) (by decide +kernel), List.mem_of_getElem? (i := 430) (by decide +kernel), List.mem_of_getElem? (i := 431) (by decide +kernel)⟩
theorem lw_p22 : lw_okq (⟨"MourningRibbons", "needStage", "(II)V"⟩, 9) := ⟨⟨by decide +kernel, by decide +kernel⟩, List.mem_of_getElem? (i := 15) (by decide +kernel), List.mem_of_getElem? (i := 438) (by decide +kernel), List.mem_of_getElem? (i := 439) (by decide +kernel)⟩
theorem lw_p23 : lw_okq (⟨"MourningRibbons", "digestPerson", "(JI)J"⟩, 9) := ⟨⟨by decide +kernel, by decide +kernel⟩, List.mem_of_getElem? (i := 15) (by decide +kernel), List.mem_of_getElem? (i := 448) (by decide +kernel), List.mem_of_getElem? (i := 449) (by decide +kernel)⟩
theorem lw_p24 : lw_okq (⟨"MourningRibbons", "needRoom", "()V"⟩, 9) := ⟨⟨by decide +kernel, by decide +kernel⟩, List.mem_of_getElem? (i := 15) (by decide +kernel), List.mem_of_getElem? (i := 547) (by decide +kernel), List.mem_of_getElem? (i := 548) (by decide +kernel)⟩
theorem lw_p25 : lw_okq (⟨"MourningRibbons$Family", "leaveSpouse", "(I)V"⟩, 5) := ⟨⟨by decide +kernel, by decide +kernel⟩, List.mem_of_getElem? (i := 23) (by decide +kernel), List.mem_of_getElem? (i := 586) (by decide +kernel), List.mem_of_getElem? (i := 587) (by decide +kernel)⟩
def lw_privs_2 : List (MethodName × Nat) := [(⟨"MourningRibbons", "firstLighterDay", "()I"⟩, 9), (⟨"MourningRibbons", "countAhead", "(I)I"⟩, 9), (⟨"MourningRibbons", "needTwo", "(II)V"⟩, 9), (⟨"MourningRibbons", "addLossesOf", "(I)V"⟩, 9), (⟨"MourningRibbons", "wornAheadWith", "(I)I"⟩, 9), (⟨"MourningRibbons", "digestCode", "(J)J"⟩, 9), (⟨"MourningRibbons", "needStage", "(II)V"⟩, 9), (⟨"MourningRibbons", "digestPerson", "(JI)J"⟩, 9), (⟨"MourningRibbons", "needRoom", "()V"⟩, 9), (⟨"MourningRibbons$Family", "leaveSpouse", "(I)V"⟩, 5)]
theorem lw_r2 : ∀ q ∈ lw_privs_2, lw_okq q := List.forall_mem_cons.mpr ⟨lw_p16, List.forall_mem_cons.mpr ⟨lw_p17, List.forall_mem_cons.mpr ⟨lw_p18, List.forall_mem_cons.mpr ⟨lw_p19, List.forall_mem_cons.mpr ⟨lw_p20, List.forall_mem_cons.mpr ⟨lw_p21, List.forall_mem_cons.mpr ⟨lw_p22, List.forall_mem_cons.mpr ⟨lw_p23, List.forall_mem_cons.mpr ⟨lw_p24, List.forall_mem_cons.mpr ⟨lw_p25, fun _ h => absurd h List.not_mem_nil⟩⟩⟩⟩⟩⟩⟩⟩⟩⟩
def lw_privs : List (MethodName × Nat) := lw_privs_1 ++ (lw_privs_2)
def lw_tbl : List Cond := k2_sels lw_privs ++ tables_1
theorem lw_privs_ok : ∀ q ∈ lw_privs, lw_okq q := by
  show ∀ q ∈ lw_privs_1 ++ (lw_privs_2), lw_okq q
  exact List.forall_mem_append.mpr ⟨lw_r1, lw_r2⟩
/-- the streams that the claim lets the run draw from -/
abbrev lw_cs : List Choice := [Jvm.Choice.named "NaN.bits"]
theorem lw_bits : nanBits ∈ lw_cs := by first | decide | exact List.mem_cons_self | simp [lw_cs, nanBits]
end
section
/-! ===== BEGIN words of one list among another's, by their places ===== -/
theorem goodIn_r {big : List Cond} (ws : List Cond) (ps : List Nat) (hp : ws = ps.filterMap (fun i => big[i]?)) (h : ws.all goodWord = true) : GoodIn big ws := by
  intro w hw
  have h1 := List.all_eq_true.mp h w hw
  rw [hp] at hw
  obtain ⟨i, -, hi⟩ := List.mem_filterMap.mp hw
  have hm : w ∈ big := by first | exact List.mem_of_getElem? hi | exact List.getElem?_mem hi
  exact ⟨hm, good_of_word h1⟩
theorem goodIn_app {big a b : List Cond} (ha : GoodIn big a) (hb : GoodIn big b) : GoodIn big (a ++ b) := fun w h => (List.mem_append.mp h).elim (ha w) (hb w)
theorem goodIn_ca {big a b : List Cond} {c : Cond} (ha : GoodIn big (c :: a)) (hb : GoodIn big b) : GoodIn big (c :: (a ++ b)) := fun w h => (List.mem_cons.mp h).elim (fun e => ha w (List.mem_cons.mpr (Or.inl e))) (fun h => (List.mem_append.mp h).elim (fun h => ha w (List.mem_cons.mpr (Or.inr h))) (hb w))
theorem goodIn_sub {big ws : List Cond} (hm : ∀ w ∈ ws, w ∈ big) (h : ws.all goodWord = true) : GoodIn big ws := fun w hw => ⟨hm w hw, good_of_word (List.all_eq_true.mp h w hw)⟩
/-! ===== END ===== -/


/-! ===== BEGIN exceptions that leave a method, and their catching by the caller (launches without stack traces) ===== -/
section VXA
/-! The laws vx_back, vx_callV, vx_callS, vx_callSW, vx_throw0, vx_throwS follow proofs of the library, with one case more: JvmDerived/Free/Laws.lean (Back.of_free), Shelf42/LK1.lean (callV, callS), Shelf/KitTraced.lean (throwNew0V, throwNewS). -/
/-- where a method has thrown q: the class by its name, the cell, what was written, the world -/
def vx_T (XC : String → State → State → Prop) (st : State) (q : Addr) (t : State) (mc ms : Nat) (free : Addr → Prop) : Prop :=
  ∃ (E : String) (ce : Cell) (L : List Loc), XC E st t ∧ t.heap[q]? = some ce ∧ ce.vm = .none ∧ st.vm.findClass E = some ce.cls ∧ st.WarmedH t.vm ∧ st.sameButNew ({ t with vm := st.vm } : State) L mc ms ∧ ∀ z ∈ L, free z.base
def vx_Q (Qc : Array Value → State → Outcome → State → Prop) (XC : String → State → State → Prop) (mc ms : Nat) (free : Addr → Prop) : Array Value → State → Outcome → State → Prop := fun a st o t =>
  (Qc a st o t ∧ ∃ L, FrameEnd st o t L mc ms ∧ ∀ q ∈ L, free q.base) ∨ ∃ q, o = .threw q ∧ vx_T XC st q t mc ms free
/-- a callee that returns or throws -/
def vx_Met (l : Launch) (y : MethodName) (ws : List Cond) (rm : Room) (Pc : Array Value → State → Prop) (Qc : Array Value → State → Outcome → State → Prop) (XC : String → State → State → Prop) (mc ms : Nat) (free : Addr → Prop) : Prop :=
  MetFree l y (headSpec ws rm) Pc (fun _ _ _ _ _ => True) (vx_Q Qc XC mc ms free)
def vx_Post (XC : String → State → State → Prop) (mc ms : Nat) (free : Addr → Prop) : Pt → Array Value → Addr → Pt → Prop := fun A a q B =>
  ∃ (g : JFrame) (mk : MethodId) (t : State) (L : List Loc) (E : String) (ce : Cell), B.U.heap = t.heap ∧ B.U.vm = t.vm ∧ XC E (A.U.calling g mk a) t ∧ t.heap[q]? = some ce ∧ ce.vm = .none ∧ A.U.vm.findClass E = some ce.cls ∧ B.locs = A.locs ++ L ∧ (∀ z ∈ L, free z.base) ∧ B.cells = A.cells + mc ∧ B.slots = A.slots + ms
def vx_Back (l : Launch) (R : Room) (p : Program) (e : Env) (below : List Frame) (s : State) (sargs : Array Value) (y : MethodName) (len W9 : Nat)
    (Pre : Pt → Array Value → Prop) (Post : Pt → Array Value → Option Value → Pt → Prop) (PostX : Pt → Array Value → Addr → Pt → Prop) : Prop :=
  ∀ (m : MethodId) (meth : Method) (c : Code) (A : Pt) (g : JFrame) (ig : Instr) (mk : MethodId) (a : Array Value),
    Stand p l e R s m sargs below meth c A.U A.locs A.cells A.slots → g.method = m → g.locals.size = c.maxLocals → decode c.code g.pc = .ok (ig, len) →
    2 * g.monitorRoom + (g.stack.map fun v => v.category).sum ≤ W9 → A.U.methodNamed? y = some mk → Pre A a →
    (∃ (v : Option Value) (B : Pt), Stand p l e R s m sargs below meth c B.U B.locs B.cells B.slots ∧ Post A a v B ∧
      Steps p.tables e below (doInvoke e (A.U.setTop g) [] mk a).1 (B.U.setTop { g with pc := g.pc + len, stack := v.toList ++ g.stack })) ∨
    (∃ (q : Addr) (B : Pt), Stand p l e R s m sargs below meth c B.U B.locs B.cells B.slots ∧ PostX A a q B ∧
      Steps p.tables e below (doInvoke e (A.U.setTop g) [] mk a).1 ((B.U.setTop g).pushFrame (.throwing q)))
section Payer
variable {l : Launch} {R : Room} {p : Program} {e : Env} {below : List Frame} {s : State} {sargs : Array Value} {y : MethodName} {len W9 : Nat}
theorem vx_back {ws : List Cond} {rm : Room} {Pc : Array Value → State → Prop} {Qc : Array Value → State → Outcome → State → Prop} {XC : String → State → State → Prop} {mc ms : Nat} {free : Addr → Prop} {bytes : ByteArray} {maxL : Nat} {ret : Option FieldType}
    (hM : vx_Met l y ws rm Pc Qc XC mc ms free) (hblind : FrameBlind Pc) (hrc : rm.cells = mc) (hrs : rm.slots = ms)
    (hframes : rm.frames + 1 ≤ R.frames) (hlocals : W9 + (maxL + 11) + rm.locals ≤ R.locals)
    (hws : ∀ w ∈ ws, ∀ a' U, s.WarmedH U.vm → w.before a' U = true) (hcode : Cond.code y bytes maxL ret ∈ ws) (hinit : ∀ a' U, s.WarmedH U.vm → (Cond.initialized y.cls).before a' U = true) :
    vx_Back l R p e below s sargs y len W9 (PreOf R mc ms Pc) (PostOf Qc mc ms free) (vx_Post XC mc ms free) := by
  intro m meth c A g ig mk a X hg hsize hdg hW hn hp
  have h1 : (headSpec ws rm).pre.before a A.U = true := atoms_intro fun w hw => hws w hw _ _ X.warmed
  have h2 : (Cond.code y bytes maxL ret).before a A.U = true := hws _ hcode _ _ X.warmed
  have h3 : (Cond.initialized y.cls).before a A.U = true := hinit _ _ X.warmed
  have h4 : A.cells + (headSpec ws rm).room.cells ≤ R.cells := by rw [show (headSpec ws rm).room.cells = mc from hrc]; exact hp.1
  have h5 : A.slots + (headSpec ws rm).room.slots ≤ R.slots := by rw [show (headSpec ws rm).room.slots = ms from hrs]; exact hp.2.1
  have hPc : Pc a (A.U.calling g mk a) := hblind _ _ _ _ hp.2.2
  obtain ⟨U, Ls, c0, s0⟩ := A
  dsimp only [Pt.U, Pt.locs, Pt.cells, Pt.slots] at h1 h2 h3 h4 h5 X hn hPc ⊢
  obtain ⟨methY, cY, hmY, hcY, -, hlY, -, -, -, -⟩ := Cond.code_spec hn h2
  obtain ⟨kY, hkY, -⟩ := className_of_methodNamed hn
  have hinitY : kY.init = .initialized := Cond.initialized_spec (findClass_of_methodNamed hn) hkY h3
  have h : At U g.method c below := by rw [hg]; exact X.here
  have hlocals9 : W9 + (maxL + 11) + (headSpec ws rm).room.locals ≤ R.locals := hlocals
  have happ : (headSpec ws rm).appliesLoose y e.platform (U.calling g mk a) = true :=
    Spec.appliesLoose_calling (g := g) h hdg hn hkY hinitY
      (X.room_calling (g := g) (R' := (headSpec ws rm).room) hsize hmY hcY hframes (by rw [hlY]; omega) h4 h5) h1
  obtain ⟨mid, hmid⟩ := h.above
  have hfr : (U.setTop g).frames = (.java g :: mid) ++ below := by rw [State.frames_setTop' g h.top, hmid]; rfl
  obtain ⟨o, s₂, hsteps, -, hend, hq⟩ := Steps.callFree hM p X.admits X.cas X.clock (acts := []) hfr happ hPc trivial
  have hq' : vx_Q Qc XC mc ms free a (U.calling g mk a) o s₂ := hq
  rw [State.frames_setTop' g h.top] at hend
  obtain ⟨g₀, hg0⟩ := Option.isSome_iff_exists.mp h.top
  obtain ⟨r, hr⟩ := State.topJava?_eq_some.mp hg0
  have hr' : (({ U with heap := s₂.heap, slotsUsed := s₂.slotsUsed } : State).setVm s₂.vm).frames = .java g₀ :: r := hr
  rcases hq' with ⟨hqc, L, hfe, hL⟩ | ⟨q, rfl, E, ce, L, hx, hce, hcv, hcl, hW₂, hsm, hL⟩
  · obtain ⟨⟨v, rfl⟩, hW₂, e2, q2, q3, q4, q5, q6⟩ := id hfe
    have e3 : s₂ = ({ (U.calling g mk a).setFrames s₂.frames with heap := s₂.heap, slotsUsed := s₂.slotsUsed } : State).setVm s₂.vm := by
      have : s₂ = ({ s₂ with vm := (U.calling g mk a).vm } : State).setVm s₂.vm := rfl
      rw [e2] at this
      exact this
    obtain ⟨c₂, i₂, len₂, hc₂, hd₂, hf₂⟩ := hend
    have hW' : U.WarmedH s₂.vm := hW₂
    have hcc : c₂ = c := by
      have h1 : s₂.code? g.method = U.code? g.method := by
        rw [State.code?_eq, State.code?_eq, hW'.alike.method?]
      exact Option.some.inj (hc₂.symm.trans (h1.trans h.code))
    subst hcc
    have hlen : len₂ = len := by rw [hdg] at hd₂; cases hd₂; rfl
    subst hlen
    have hs₂ : s₂ = (({ U with heap := s₂.heap, slotsUsed := s₂.slotsUsed } : State).setVm s₂.vm).setTop { g with pc := g.pc + len₂, stack := v.toList ++ g.stack } := by
      refine e3.trans ?_
      rw [hf₂, State.calling_eq h.top, State.setFrames_setFrames, State.setTop_of_frames _ hr', hr]
      rfl
    have hsame : U.sameButNew ({ U with heap := s₂.heap, slotsUsed := s₂.slotsUsed } : State) L mc ms := by
      refine ⟨?_, q2, q3, q4, q5, q6⟩
      obtain ⟨t, ht, -⟩ := State.frames_cons hr
      show ({ U with heap := s₂.heap, slotsUsed := s₂.slotsUsed } : State) = { U.setFrames U.frames with heap := s₂.heap, slotsUsed := s₂.slotsUsed }
      rw [State.setFrames_self ht]
    subst hg
    refine Or.inl ⟨v, ⟨(({ U with heap := s₂.heap, slotsUsed := s₂.slotsUsed } : State).setVm s₂.vm), Ls ++ L, c0 + mc, s0 + ms⟩,
      ⟨X.admits, X.cas, X.clock, X.frames, X.room, X.hears, X.method, X.code, (X.here.setHeapUsed s₂.heap s₂.slotsUsed).setVm hW'.alike, X.tail, State.WarmedH.trans X.warmed hW', X.limits, X.bytes, X.same.trans (hsame.setVm s.vm)⟩,
      ⟨g, mk, s₂, L, rfl, rfl, hqc, rfl, hL, rfl, rfl⟩, ?_⟩
    show Steps p.tables e below _ ((({ U with heap := s₂.heap, slotsUsed := s₂.slotsUsed } : State).setVm s₂.vm).setTop { g with pc := g.pc + len₂, stack := v.toList ++ g.stack })
    rw [← hs₂]
    exact hsteps
  · obtain ⟨e2, q2, q3, q4, q5, q6⟩ := id hsm
    have e3 : s₂ = ({ (U.calling g mk a).setFrames s₂.frames with heap := s₂.heap, slotsUsed := s₂.slotsUsed } : State).setVm s₂.vm := by
      have : s₂ = ({ s₂ with vm := (U.calling g mk a).vm } : State).setVm s₂.vm := rfl
      rw [e2] at this
      exact this
    have hf₂ : s₂.frames = .throwing q :: .java g :: U.frames.tail := hend
    have hW' : U.WarmedH s₂.vm := hW₂
    have hs₂ : s₂ = ((({ U with heap := s₂.heap, slotsUsed := s₂.slotsUsed } : State).setVm s₂.vm).setTop g).pushFrame (.throwing q) := by
      refine e3.trans ?_
      rw [hf₂, State.calling_eq h.top, State.setFrames_setFrames, State.pushFrame, State.frames_setTop _ hr', State.setTop_of_frames _ hr', State.setFrames_setFrames, hr]
      rfl
    have hsame : U.sameButNew ({ U with heap := s₂.heap, slotsUsed := s₂.slotsUsed } : State) L mc ms := by
      refine ⟨?_, q2, q3, q4, q5, q6⟩
      obtain ⟨t, ht, -⟩ := State.frames_cons hr
      show ({ U with heap := s₂.heap, slotsUsed := s₂.slotsUsed } : State) = { U.setFrames U.frames with heap := s₂.heap, slotsUsed := s₂.slotsUsed }
      rw [State.setFrames_self ht]
    subst hg
    refine Or.inr ⟨q, ⟨(({ U with heap := s₂.heap, slotsUsed := s₂.slotsUsed } : State).setVm s₂.vm), Ls ++ L, c0 + mc, s0 + ms⟩,
      ⟨X.admits, X.cas, X.clock, X.frames, X.room, X.hears, X.method, X.code, (X.here.setHeapUsed s₂.heap s₂.slotsUsed).setVm hW'.alike, X.tail, State.WarmedH.trans X.warmed hW', X.limits, X.bytes, X.same.trans (hsame.setVm s.vm)⟩,
      ⟨g, mk, s₂, L, E, ce, rfl, rfl, hx, hce, hcv, hcl, rfl, hL, rfl, rfl⟩, ?_⟩
    show Steps p.tables e below _ (((({ U with heap := s₂.heap, slotsUsed := s₂.slotsUsed } : State).setVm s₂.vm).setTop g).pushFrame (.throwing q))
    rw [← hs₂]
    exact hsteps
end Payer
section Calls
variable {p : Program} {l : Launch} {e : Env} {R : Room} {s : State} {m : MethodId} {args : Array Value} {below : List Frame} {meth : Method} {c : Code} {T : State} {locs : List Loc} {cells slots : Nat}
theorem vx_callV (X : Stand p l e R s m args below meth c T locs cells slots) (hexec : p.tables.exec = Jvm.exec) {own C : String} {index : Nat} {y : MethodName} {bytes : ByteArray} {maxL : Nat} {ret : Option FieldType}
    (hown : s.vm.findClass own = some m.cls) (hlink : (Cond.methodLink own index y).before args s = true) (hinst : (Cond.instanceMethod y).before args s = true) (hsel : (Cond.selects C y y).before args s = true)
    (hcode : (Cond.code y bytes maxL ret).before args s = true) (hy : y.cls ≠ "java/lang/invoke/MethodHandle" ∧ y.cls ≠ "java/lang/invoke/VarHandle")
    {W9 : Nat} {Pre : Pt → Array Value → Prop} {Post : Pt → Array Value → Option Value → Pt → Prop} {PostX : Pt → Array Value → Addr → Pt → Prop} (hK : vx_Back l R p e below s args y 3 W9 Pre Post PostX)
    {b : Addr} {cellB : Cell} (hcell : T.heap[b]? = some cellB) (hobj : cellB.vm.isStatics = false) (hcls : s.vm.findClass C = some cellB.cls)
    {g : JFrame} (hg : g.method = m) (hsize : g.locals.size = c.maxLocals) {argsL rest : List Value} (hlen : ∀ sig, parseMethodDescriptor y.desc = some sig → argsL.length = sig.parameters.length)
    (hstack : g.stack = argsL.reverse ++ .ref b :: rest) (hW : 2 * g.monitorRoom + (rest.map fun v => v.category).sum ≤ W9) (hdg : decode c.code g.pc = .ok (.invokevirtual index, 3))
    (hpre : ∀ vm₁, s.WarmedH vm₁ → Pre ⟨T.setVm vm₁, locs, cells, slots⟩ (Value.ref b :: argsL).toArray) :
    (∃ (v : Option Value) (vm₁ : Vm) (B : Pt), s.WarmedH vm₁ ∧ Stand p l e R s m args below meth c B.U B.locs B.cells B.slots ∧ Post ⟨T.setVm vm₁, locs, cells, slots⟩ (Value.ref b :: argsL).toArray v B ∧
      ∀ target, Steps p.tables e below (B.U.setTop { g with pc := g.pc + 3, stack := v.toList ++ rest }) target → Steps p.tables e below (T.setTop g) target) ∨
    (∃ (q : Addr) (vm₁ : Vm) (B : Pt), s.WarmedH vm₁ ∧ Stand p l e R s m args below meth c B.U B.locs B.cells B.slots ∧ PostX ⟨T.setVm vm₁, locs, cells, slots⟩ (Value.ref b :: argsL).toArray q B ∧
      Steps p.tables e below (T.setTop g) ((B.U.setTop { g with stack := rest }).pushFrame (.throwing q))) := by
  obtain ⟨mk, methM, hnamed, hmethM, hstM, habM⟩ := Cond.instanceMethod_spec hinst
  obtain ⟨methM', cM, hmethM', -, -, -, -, -, -, hsigM⟩ := Cond.code_spec hnamed hcode
  cases hmethM.symm.trans hmethM'
  obtain ⟨c2, r2, m2, q1, q2, q3, q4, kP, hkP, hkPi⟩ := Cond.selects_spec hsel
  cases hcls.symm.trans q1
  cases (State.methodFound?_of_named hnamed hy).symm.trans q2
  cases hnamed.symm.trans q3
  have hselP : selectMethod e.platform s.vm cellB.cls mk = .method mk := by rw [Launch.admits_selectMethod X.admits]; exact q4
  obtain ⟨vm₁, X₁, hstep₁⟩ := X.invokevirtual hexec hown hlink hnamed hmethM hstM hkP hkPi hy (a := b) (cell := cellB) hcell
    (fun z h => by rw [h] at hobj; cases hobj) hselP hmethM habM hkP hkPi (g := g) hg (argsL := argsL) (rest := rest) (hlen _ hsigM) hstack hdg
  rcases hK m meth c ⟨T.setVm vm₁, locs, cells, slots⟩ { g with stack := rest } (.invokevirtual index) mk (Value.ref b :: argsL).toArray X₁ hg hsize hdg hW (X₁.named hnamed) (hpre vm₁ X₁.warmed) with ⟨v, B, X', hpost, hsteps⟩ | ⟨q, B, X', hpost, hsteps⟩
  · exact Or.inl ⟨v, vm₁, B, X₁.warmed, X', hpost, fun target h => hstep₁ _ fun acts => by rw [doInvoke_state]; exact hsteps.trans h⟩
  · exact Or.inr ⟨q, vm₁, B, X₁.warmed, X', hpost, hstep₁ _ fun acts => by rw [doInvoke_state]; exact hsteps⟩
theorem vx_callS (X : Stand p l e R s m args below meth c T locs cells slots) (hexec : p.tables.exec = Jvm.exec) {own : String} {index : Nat} {y : MethodName} {bytes : ByteArray} {maxL : Nat} {ret : Option FieldType}
    (hown : s.vm.findClass own = some m.cls) (hlink : (Cond.methodLink own index y).before args s = true) (hstat : (Cond.static y).before args s = true) (hinit : (Cond.initialized y.cls).before args s = true)
    (hcode : (Cond.code y bytes maxL ret).before args s = true) (hy : y.cls ≠ "java/lang/invoke/MethodHandle" ∧ y.cls ≠ "java/lang/invoke/VarHandle")
    {W9 : Nat} {Pre : Pt → Array Value → Prop} {Post : Pt → Array Value → Option Value → Pt → Prop} {PostX : Pt → Array Value → Addr → Pt → Prop} (hK : vx_Back l R p e below s args y 3 W9 Pre Post PostX)
    {g : JFrame} (hg : g.method = m) (hsize : g.locals.size = c.maxLocals) {argsL rest : List Value} (hlen : ∀ sig, parseMethodDescriptor y.desc = some sig → argsL.length = sig.parameters.length)
    (hstack : g.stack = argsL.reverse ++ rest) (hW : 2 * g.monitorRoom + (rest.map fun v => v.category).sum ≤ W9) (hdg : decode c.code g.pc = .ok (.invokestatic index, 3))
    (hpre : ∀ vm₁, s.WarmedH vm₁ → Pre ⟨T.setVm vm₁, locs, cells, slots⟩ argsL.toArray) :
    (∃ (v : Option Value) (vm₁ : Vm) (B : Pt), s.WarmedH vm₁ ∧ Stand p l e R s m args below meth c B.U B.locs B.cells B.slots ∧ Post ⟨T.setVm vm₁, locs, cells, slots⟩ argsL.toArray v B ∧
      ∀ target, Steps p.tables e below (B.U.setTop { g with pc := g.pc + 3, stack := v.toList ++ rest }) target → Steps p.tables e below (T.setTop g) target) ∨
    (∃ (q : Addr) (vm₁ : Vm) (B : Pt), s.WarmedH vm₁ ∧ Stand p l e R s m args below meth c B.U B.locs B.cells B.slots ∧ PostX ⟨T.setVm vm₁, locs, cells, slots⟩ argsL.toArray q B ∧
      Steps p.tables e below (T.setTop g) ((B.U.setTop { g with stack := rest }).pushFrame (.throwing q))) := by
  obtain ⟨mk, hnamed⟩ := Cond.code_named hcode
  obtain ⟨methM, cM, hmethM, -, -, -, -, -, -, hsigM⟩ := Cond.code_spec hnamed hcode
  have hstatic : methM.isStatic = true := Cond.static_spec hnamed hmethM hstat
  obtain ⟨kP, hkP, -⟩ := className_of_methodNamed hnamed
  have hinitP : kP.init = .initialized := Cond.initialized_spec (findClass_of_methodNamed hnamed) hkP hinit
  obtain ⟨vm₁, X₁, hstep₁⟩ := X.invokestatic hexec hown hlink hnamed hmethM hstatic hkP hinitP hy (g := g) hg (argsL := argsL) (rest := rest) (hlen _ hsigM) hstack hdg
  rcases hK m meth c ⟨T.setVm vm₁, locs, cells, slots⟩ { g with stack := rest } (.invokestatic index) mk argsL.toArray X₁ hg hsize hdg hW (X₁.named hnamed) (hpre vm₁ X₁.warmed) with ⟨v, B, X', hpost, hsteps⟩ | ⟨q, B, X', hpost, hsteps⟩
  · exact Or.inl ⟨v, vm₁, B, X₁.warmed, X', hpost, fun target h => hstep₁ _ fun acts => by rw [doInvoke_state]; exact hsteps.trans h⟩
  · exact Or.inr ⟨q, vm₁, B, X₁.warmed, X', hpost, hstep₁ _ fun acts => by rw [doInvoke_state]; exact hsteps⟩
end Calls
theorem vx_cls {s : State} {T : State} {vm₁ : Vm} {E : String} {k : ClassId} (hW : s.WarmedH vm₁) (h : (T.setVm vm₁).vm.findClass E = some k) : s.vm.findClass E = some k := by
  have h1 : vm₁.findClass E = some k := h
  rw [hW.alike.findClass] at h1
  exact h1
/-- the method's frame g, with q thrown over it -/
def vx_W (p : Program) (l : Launch) (e : Env) (R : Room) (s : State) (m : MethodId) (args : Array Value) (below : List Frame) (meth : Method) (c : Code) (H : Heap) (locs : List Loc) (cells slots : Nat) (Q : State → Prop) (g : JFrame) (q : Addr) : Prop :=
  ∀ T : State, T.heap = H → Stand p l e R s m args below meth c T locs cells slots → ∃ t, Steps p.tables e below ((T.setTop g).pushFrame (.throwing q)) t ∧ Q t
def vx_Run (p : Program) (l : Launch) (e : Env) (R : Room) (s : State) (m : MethodId) (args : Array Value) (below : List Frame) (meth : Method) (c : Code) (H : Heap) (locs : List Loc) (cells slots mc ms : Nat) (g : JFrame) (rest : List Value) (Qa : State → Outcome → State → Prop) (XC : String → State → State → Prop) (free : Addr → Prop) : Prop :=
  ∀ T : State, T.heap = H → Stand p l e R s m args below meth c T locs cells slots →
    (∃ (v : Option Value) (st₀ t T' : State) (L : List Loc), st₀.heap = H ∧ Stand p l e R s m args below meth c T' (locs ++ L) (cells + mc) (slots + ms) ∧ (∀ q ∈ L, free q.base) ∧ T'.heap = t.heap ∧ T'.vm = t.vm ∧ Qa st₀ (.returned v) t ∧
      Goes p e below T g T' { g with pc := g.pc + 3, stack := v.toList ++ rest }) ∨
    (∃ (q : Addr) (st₀ t T' : State) (L : List Loc) (E : String) (ce : Cell), st₀.heap = H ∧ Stand p l e R s m args below meth c T' (locs ++ L) (cells + mc) (slots + ms) ∧ (∀ z ∈ L, free z.base) ∧ T'.heap = t.heap ∧ T'.vm = t.vm ∧ XC E st₀ t ∧ t.heap[q]? = some ce ∧ ce.vm = .none ∧ s.vm.findClass E = some ce.cls ∧
      Steps p.tables e below (T.setTop g) ((T'.setTop { g with stack := rest }).pushFrame (.throwing q)))
def vx_X {S : Type} (px : S → Prop) (B : String → S → State → Prop) (A : Nat → Prop) : String → State → State → Prop := fun E st t => ∃ u : S, px u ∧ B E u t ∧ va_F A st t
section Runs
variable {p : Program} {l : Launch} {e : Env} {R : Room} {s : State} {m : MethodId} {args : Array Value} {below : List Frame} {meth : Method} {c : Code} {H : Heap} {locs : List Loc} {cells slots : Nat}
variable {y : MethodName} {bytes cc : ByteArray} {maxL nL mc ms n index : Nat} {ret : Option FieldType} {ws : List Cond} {rm : Room} {Pc : Array Value → State → Prop} {Qc : Array Value → State → Outcome → State → Prop} {XC : String → State → State → Prop} {free : Addr → Prop} {Ts : List Cond} {own C : String} {b : Addr} {As rest : List Value} {g : JFrame}
theorem vx_callBack (cb : CallB R s args own index y bytes maxL ret ws rm mc ms n) (hM : vx_Met l y ws rm Pc Qc XC mc ms free) (hbl : FrameBlind Pc) : vx_Back l R p e below s args y 3 8 (PreOf R mc ms Pc) (PostOf Qc mc ms free) (vx_Post XC mc ms free) := by
  obtain ⟨hrc, hrs, hfr, hlo, hws, hcw, -, hini, -⟩ := cb
  exact vx_back (bytes := bytes) (maxL := maxL) (ret := ret) hM hbl hrc hrs hfr hlo hws hcw (fun a' U hW => word_at hW (Or.inl (by first | rfl | simp [Cond.onTables, Cond.keeps, Cond.steady])) hini)
theorem vx_runV (S : CallFix p m c cc nL s args Ts own) (hM : vx_Met l y ws rm Pc Qc XC mc ms free) (cw : CallW R s args own C index y bytes maxL ret ws rm mc ms n) (hp : PreV s H C b Pc As)
    (hg : g.method = m) (hn : As.length = n) (hsize : g.locals.size = nL) (hstack : g.stack = As.reverse ++ .ref b :: rest) (hW : 2 * g.monitorRoom + (rest.map fun v => v.category).sum ≤ 8) (hdg : decode cc g.pc = .ok (.invokevirtual index, 3)) (hf : cells + mc ≤ R.cells ∧ slots + ms ≤ R.slots) :
    vx_Run p l e R s m args below meth c H locs cells slots mc ms g rest (Qc (Value.ref b :: As).toArray) XC free := by
  have hK : vx_Back l R p e below s args y 3 8 (PreOf R mc ms Pc) (PostOf Qc mc ms free) (vx_Post XC mc ms free) := vx_callBack cw.1 hM hp.1
  obtain ⟨⟨-, -, -, -, -, -, hcode, -, hy, hlen, hl⟩, hin, hse⟩ := cw
  obtain ⟨hx, hb, hml, ho, -⟩ := S
  obtain ⟨-, ⟨cellB, hcB, hoB, hclB⟩, hPc⟩ := hp
  intro T hT X
  rcases vx_callV X hx (C := C) (bytes := bytes) (maxL := maxL) (ret := ret) ho hl hin hse hcode hy hK (by rw [hT]; exact hcB) hoB hclB hg (hsize.trans hml.symm) (argsL := As) (rest := rest) (fun sig h => hn.trans (hlen sig h)) hstack hW (by rw [hb]; exact hdg)
    (fun vm₁ hW₁ => ⟨hf.1, hf.2, hPc (T.setVm vm₁) hT hW₁⟩) with ⟨v, vm₁, ⟨U', l2, c2, s2⟩, hW₁, X', ⟨g', mk, t, L, e1, e2, hq, h1, hL, h2, h3⟩, st⟩ | ⟨q, vm₁, ⟨U', l2, c2, s2⟩, hW₁, X', ⟨g', mk, t, L, E, ce, e1, e2, hq, hce, hcv, hcl, h1, hL, h2, h3⟩, st⟩
  · dsimp only [Pt.U, Pt.locs, Pt.cells, Pt.slots] at X' e1 e2 h1 h2 h3 st
    subst h1; subst h2; subst h3
    exact Or.inl ⟨v, (T.setVm vm₁).calling g' mk (Value.ref b :: As).toArray, t, U', L, hT, X', hL, e1, e2, hq, st⟩
  · dsimp only [Pt.U, Pt.locs, Pt.cells, Pt.slots] at X' e1 e2 h1 h2 h3 st hcl
    subst h1; subst h2; subst h3
    exact Or.inr ⟨q, (T.setVm vm₁).calling g' mk (Value.ref b :: As).toArray, t, U', L, E, ce, hT, X', hL, e1, e2, hq, hce, hcv, vx_cls hW₁ hcl, st⟩
theorem vx_runS (S : CallFix p m c cc nL s args Ts own) (hM : vx_Met l y ws rm Pc Qc XC mc ms free) (cw : CallB R s args own index y bytes maxL ret ws rm mc ms n ∧ (Cond.static y).before args s = true) (hp : PreS s H Pc As)
    (hg : g.method = m) (hn : As.length = n) (hsize : g.locals.size = nL) (hstack : g.stack = As.reverse ++ rest) (hW : 2 * g.monitorRoom + (rest.map fun v => v.category).sum ≤ 8) (hdg : decode cc g.pc = .ok (.invokestatic index, 3)) (hf : cells + mc ≤ R.cells ∧ slots + ms ≤ R.slots) :
    vx_Run p l e R s m args below meth c H locs cells slots mc ms g rest (Qc As.toArray) XC free := by
  have hK : vx_Back l R p e below s args y 3 8 (PreOf R mc ms Pc) (PostOf Qc mc ms free) (vx_Post XC mc ms free) := vx_callBack cw.1 hM hp.1
  obtain ⟨⟨-, -, -, -, -, -, hcode, hini, hy, hlen, hl⟩, hstt⟩ := cw
  obtain ⟨hx, hb, hml, ho, -⟩ := S
  intro T hT X
  rcases vx_callS X hx (bytes := bytes) (maxL := maxL) (ret := ret) ho hl hstt hini hcode hy hK hg (hsize.trans hml.symm) (argsL := As) (rest := rest) (fun sig h => hn.trans (hlen sig h)) hstack hW (by rw [hb]; exact hdg)
    (fun vm₁ hW₁ => ⟨hf.1, hf.2, hp.2 (T.setVm vm₁) hT hW₁⟩) with ⟨v, vm₁, ⟨U', l2, c2, s2⟩, hW₁, X', ⟨g', mk, t, L, e1, e2, hq, h1, hL, h2, h3⟩, st⟩ | ⟨q, vm₁, ⟨U', l2, c2, s2⟩, hW₁, X', ⟨g', mk, t, L, E, ce, e1, e2, hq, hce, hcv, hcl, h1, hL, h2, h3⟩, st⟩
  · dsimp only [Pt.U, Pt.locs, Pt.cells, Pt.slots] at X' e1 e2 h1 h2 h3 st
    subst h1; subst h2; subst h3
    exact Or.inl ⟨v, (T.setVm vm₁).calling g' mk As.toArray, t, U', L, hT, X', hL, e1, e2, hq, st⟩
  · dsimp only [Pt.U, Pt.locs, Pt.cells, Pt.slots] at X' e1 e2 h1 h2 h3 st hcl
    subst h1; subst h2; subst h3
    exact Or.inr ⟨q, (T.setVm vm₁).calling g' mk As.toArray, t, U', L, E, ce, hT, X', hL, e1, e2, hq, hce, hcv, vx_cls hW₁ hcl, st⟩
end Runs
section Rows
variable {p : Program} {l : Launch} {e : Env} {R : Room} {s : State} {m : MethodId} {args : Array Value} {below : List Frame} {meth : Method} {c : Code} {H : Heap} {locs : List Loc} {cells slots : Nat} {Q : State → Prop}
variable {mc ms : Nat} {free : Addr → Prop} {A0 A1 : Nat → Prop} {H0 : Heap} {a : Array Value} {pc : Nat} {ls : Array Slot} {st0 rest : List Value}
theorem vx_keep {st₀ t T' : State} {L : List Loc} (h0 : st₀.heap = H) (e1 : T'.heap = t.heap) (hS : va_S A0 H0 H locs) (hA : ∀ q, q < H.size → A1 q → A0 q) (hf : ∀ q, free q → A0 q) (hL : ∀ q ∈ L, free q.base) (hF : va_F A1 st₀ t) :
    H.size ≤ T'.heap.size ∧ (∀ q : Nat, q < H.size → ¬ A1 q → T'.heap[q]? = H[q]?) ∧ va_S A0 H0 T'.heap (locs ++ L) := by
  obtain ⟨hz, hk⟩ := hF
  rw [h0] at hz hk
  exact ⟨by rw [e1]; exact hz, fun q h1 h2 => by rw [e1]; exact hk q h1 h2,
    ⟨Nat.le_trans hS.1 (by rw [e1]; exact hz), fun q h1 h2 => by rw [e1, hk q (Nat.lt_of_lt_of_le h1 hS.1) (fun z => h2 (hA q (Nat.lt_of_lt_of_le h1 hS.1) z))]; exact hS.2.1 q h1 h2, fun q hq => by
      rcases List.mem_append.mp hq with h | h
      · exact hS.2.2 q h
      · exact hf _ (hL q h)⟩⟩
theorem vx_calli {S SX : Type} {post : Int32 → S → Prop} {px : SX → Prop} {B : S → State → Prop} {BX : String → SX → State → Prop} {AX : Nat → Prop} (hr : vx_Run p l e R s m args below meth c H locs cells slots mc ms (F0 m pc ls st0) rest (va_Qi post B A1 a) (vx_X px BX AX) free) (hS : va_S A0 H0 H locs) (hA : ∀ q, q < H.size → A1 q → A0 q) (hf : ∀ q, free q → A0 q) (hAX : ∀ q, q < H.size → AX q → A0 q)
    (kx : ∀ (E : String) (ce : Cell) (q9 : Addr) (u : SX) (t : State) (H1 : Heap) (locs1 : List Loc), t.heap = H1 → s.vm.Alike t.vm → px u → BX E u t → H.size ≤ H1.size → (∀ q : Nat, q < H.size → ¬ AX q → H1[q]? = H[q]?) → va_S A0 H0 H1 locs1 → H1[q9]? = some ce → ce.vm = .none → s.vm.findClass E = some ce.cls → vx_W p l e R s m args below meth c H1 locs1 (cells + mc) (slots + ms) Q (F0 m pc ls rest) q9)
    (kk : ∀ (r : Int32) (u : S) (t : State) (H1 : Heap) (locs1 : List Loc), t.heap = H1 → s.vm.Alike t.vm → post r u → B u t → H.size ≤ H1.size → (∀ q : Nat, q < H.size → ¬ A1 q → H1[q]? = H[q]?) → va_S A0 H0 H1 locs1 → W p l e R s m args below meth c H1 locs1 (cells + mc) (slots + ms) Q (F0 m (pc + 3) ls (.int r :: rest))) : W p l e R s m args below meth c H locs cells slots Q (F0 m pc ls st0) := by
  intro T hT X
  rcases hr T hT X with ⟨v, st₀, t, T', L, h0, X', hL, e1, e2, ⟨⟨r, u, hv, hp, hb⟩, hF⟩, st⟩ | ⟨q, st₀, t, T', L, E, ce, h0, X', hL, e1, e2, ⟨u, hp, hb, hF⟩, hce, hcv, hcl, st⟩
  · cases hv
    obtain ⟨k1, k2, k3⟩ := vx_keep h0 e1 hS hA hf hL hF
    obtain ⟨t2, a1, b1⟩ := kk r u t T'.heap (locs ++ L) e1.symm (by rw [← e2]; exact X'.warmed.alike) hp hb k1 k2 k3 T' rfl X'
    exact ⟨t2, st t2 a1, b1⟩
  · obtain ⟨k1, k2, k3⟩ := vx_keep h0 e1 hS hAX hf hL hF
    obtain ⟨t2, a1, b1⟩ := kx E ce q u t T'.heap (locs ++ L) e1.symm (by rw [← e2]; exact X'.warmed.alike) hp hb k1 k2 k3 (by rw [e1]; exact hce) hcv hcl T' rfl X'
    exact ⟨t2, st.trans a1, b1⟩
theorem vx_calll {S SX : Type} {post : Int64 → S → Prop} {px : SX → Prop} {B : S → State → Prop} {BX : String → SX → State → Prop} {AX : Nat → Prop} (hr : vx_Run p l e R s m args below meth c H locs cells slots mc ms (F0 m pc ls st0) rest (va_Ql post B A1 a) (vx_X px BX AX) free) (hS : va_S A0 H0 H locs) (hA : ∀ q, q < H.size → A1 q → A0 q) (hf : ∀ q, free q → A0 q) (hAX : ∀ q, q < H.size → AX q → A0 q)
    (kx : ∀ (E : String) (ce : Cell) (q9 : Addr) (u : SX) (t : State) (H1 : Heap) (locs1 : List Loc), t.heap = H1 → s.vm.Alike t.vm → px u → BX E u t → H.size ≤ H1.size → (∀ q : Nat, q < H.size → ¬ AX q → H1[q]? = H[q]?) → va_S A0 H0 H1 locs1 → H1[q9]? = some ce → ce.vm = .none → s.vm.findClass E = some ce.cls → vx_W p l e R s m args below meth c H1 locs1 (cells + mc) (slots + ms) Q (F0 m pc ls rest) q9)
    (kk : ∀ (r : Int64) (u : S) (t : State) (H1 : Heap) (locs1 : List Loc), t.heap = H1 → s.vm.Alike t.vm → post r u → B u t → H.size ≤ H1.size → (∀ q : Nat, q < H.size → ¬ A1 q → H1[q]? = H[q]?) → va_S A0 H0 H1 locs1 → W p l e R s m args below meth c H1 locs1 (cells + mc) (slots + ms) Q (F0 m (pc + 3) ls (.long r :: rest))) : W p l e R s m args below meth c H locs cells slots Q (F0 m pc ls st0) := by
  intro T hT X
  rcases hr T hT X with ⟨v, st₀, t, T', L, h0, X', hL, e1, e2, ⟨⟨r, u, hv, hp, hb⟩, hF⟩, st⟩ | ⟨q, st₀, t, T', L, E, ce, h0, X', hL, e1, e2, ⟨u, hp, hb, hF⟩, hce, hcv, hcl, st⟩
  · cases hv
    obtain ⟨k1, k2, k3⟩ := vx_keep h0 e1 hS hA hf hL hF
    obtain ⟨t2, a1, b1⟩ := kk r u t T'.heap (locs ++ L) e1.symm (by rw [← e2]; exact X'.warmed.alike) hp hb k1 k2 k3 T' rfl X'
    exact ⟨t2, st t2 a1, b1⟩
  · obtain ⟨k1, k2, k3⟩ := vx_keep h0 e1 hS hAX hf hL hF
    obtain ⟨t2, a1, b1⟩ := kx E ce q u t T'.heap (locs ++ L) e1.symm (by rw [← e2]; exact X'.warmed.alike) hp hb k1 k2 k3 (by rw [e1]; exact hce) hcv hcl T' rfl X'
    exact ⟨t2, st.trans a1, b1⟩
theorem vx_callf {S SX : Type} {post : UInt32 → S → Prop} {px : SX → Prop} {B : S → State → Prop} {BX : String → SX → State → Prop} {AX : Nat → Prop} (hr : vx_Run p l e R s m args below meth c H locs cells slots mc ms (F0 m pc ls st0) rest (va_Qf post B A1 a) (vx_X px BX AX) free) (hS : va_S A0 H0 H locs) (hA : ∀ q, q < H.size → A1 q → A0 q) (hf : ∀ q, free q → A0 q) (hAX : ∀ q, q < H.size → AX q → A0 q)
    (kx : ∀ (E : String) (ce : Cell) (q9 : Addr) (u : SX) (t : State) (H1 : Heap) (locs1 : List Loc), t.heap = H1 → s.vm.Alike t.vm → px u → BX E u t → H.size ≤ H1.size → (∀ q : Nat, q < H.size → ¬ AX q → H1[q]? = H[q]?) → va_S A0 H0 H1 locs1 → H1[q9]? = some ce → ce.vm = .none → s.vm.findClass E = some ce.cls → vx_W p l e R s m args below meth c H1 locs1 (cells + mc) (slots + ms) Q (F0 m pc ls rest) q9)
    (kk : ∀ (r : UInt32) (u : S) (t : State) (H1 : Heap) (locs1 : List Loc), t.heap = H1 → s.vm.Alike t.vm → post r u → B u t → H.size ≤ H1.size → (∀ q : Nat, q < H.size → ¬ A1 q → H1[q]? = H[q]?) → va_S A0 H0 H1 locs1 → W p l e R s m args below meth c H1 locs1 (cells + mc) (slots + ms) Q (F0 m (pc + 3) ls (.float r :: rest))) : W p l e R s m args below meth c H locs cells slots Q (F0 m pc ls st0) := by
  intro T hT X
  rcases hr T hT X with ⟨v, st₀, t, T', L, h0, X', hL, e1, e2, ⟨⟨r, u, hv, hp, hb⟩, hF⟩, st⟩ | ⟨q, st₀, t, T', L, E, ce, h0, X', hL, e1, e2, ⟨u, hp, hb, hF⟩, hce, hcv, hcl, st⟩
  · cases hv
    obtain ⟨k1, k2, k3⟩ := vx_keep h0 e1 hS hA hf hL hF
    obtain ⟨t2, a1, b1⟩ := kk r u t T'.heap (locs ++ L) e1.symm (by rw [← e2]; exact X'.warmed.alike) hp hb k1 k2 k3 T' rfl X'
    exact ⟨t2, st t2 a1, b1⟩
  · obtain ⟨k1, k2, k3⟩ := vx_keep h0 e1 hS hAX hf hL hF
    obtain ⟨t2, a1, b1⟩ := kx E ce q u t T'.heap (locs ++ L) e1.symm (by rw [← e2]; exact X'.warmed.alike) hp hb k1 k2 k3 (by rw [e1]; exact hce) hcv hcl T' rfl X'
    exact ⟨t2, st.trans a1, b1⟩
theorem vx_calld {S SX : Type} {post : UInt64 → S → Prop} {px : SX → Prop} {B : S → State → Prop} {BX : String → SX → State → Prop} {AX : Nat → Prop} (hr : vx_Run p l e R s m args below meth c H locs cells slots mc ms (F0 m pc ls st0) rest (va_Qd post B A1 a) (vx_X px BX AX) free) (hS : va_S A0 H0 H locs) (hA : ∀ q, q < H.size → A1 q → A0 q) (hf : ∀ q, free q → A0 q) (hAX : ∀ q, q < H.size → AX q → A0 q)
    (kx : ∀ (E : String) (ce : Cell) (q9 : Addr) (u : SX) (t : State) (H1 : Heap) (locs1 : List Loc), t.heap = H1 → s.vm.Alike t.vm → px u → BX E u t → H.size ≤ H1.size → (∀ q : Nat, q < H.size → ¬ AX q → H1[q]? = H[q]?) → va_S A0 H0 H1 locs1 → H1[q9]? = some ce → ce.vm = .none → s.vm.findClass E = some ce.cls → vx_W p l e R s m args below meth c H1 locs1 (cells + mc) (slots + ms) Q (F0 m pc ls rest) q9)
    (kk : ∀ (r : UInt64) (u : S) (t : State) (H1 : Heap) (locs1 : List Loc), t.heap = H1 → s.vm.Alike t.vm → post r u → B u t → H.size ≤ H1.size → (∀ q : Nat, q < H.size → ¬ A1 q → H1[q]? = H[q]?) → va_S A0 H0 H1 locs1 → W p l e R s m args below meth c H1 locs1 (cells + mc) (slots + ms) Q (F0 m (pc + 3) ls (.double r :: rest))) : W p l e R s m args below meth c H locs cells slots Q (F0 m pc ls st0) := by
  intro T hT X
  rcases hr T hT X with ⟨v, st₀, t, T', L, h0, X', hL, e1, e2, ⟨⟨r, u, hv, hp, hb⟩, hF⟩, st⟩ | ⟨q, st₀, t, T', L, E, ce, h0, X', hL, e1, e2, ⟨u, hp, hb, hF⟩, hce, hcv, hcl, st⟩
  · cases hv
    obtain ⟨k1, k2, k3⟩ := vx_keep h0 e1 hS hA hf hL hF
    obtain ⟨t2, a1, b1⟩ := kk r u t T'.heap (locs ++ L) e1.symm (by rw [← e2]; exact X'.warmed.alike) hp hb k1 k2 k3 T' rfl X'
    exact ⟨t2, st t2 a1, b1⟩
  · obtain ⟨k1, k2, k3⟩ := vx_keep h0 e1 hS hAX hf hL hF
    obtain ⟨t2, a1, b1⟩ := kx E ce q u t T'.heap (locs ++ L) e1.symm (by rw [← e2]; exact X'.warmed.alike) hp hb k1 k2 k3 (by rw [e1]; exact hce) hcv hcl T' rfl X'
    exact ⟨t2, st.trans a1, b1⟩
theorem vx_callv {S SX : Type} {post : S → Prop} {px : SX → Prop} {B : S → State → Prop} {BX : String → SX → State → Prop} {AX : Nat → Prop} (hr : vx_Run p l e R s m args below meth c H locs cells slots mc ms (F0 m pc ls st0) rest (va_Qv post B A1 a) (vx_X px BX AX) free) (hS : va_S A0 H0 H locs) (hA : ∀ q, q < H.size → A1 q → A0 q) (hf : ∀ q, free q → A0 q) (hAX : ∀ q, q < H.size → AX q → A0 q)
    (kx : ∀ (E : String) (ce : Cell) (q9 : Addr) (u : SX) (t : State) (H1 : Heap) (locs1 : List Loc), t.heap = H1 → s.vm.Alike t.vm → px u → BX E u t → H.size ≤ H1.size → (∀ q : Nat, q < H.size → ¬ AX q → H1[q]? = H[q]?) → va_S A0 H0 H1 locs1 → H1[q9]? = some ce → ce.vm = .none → s.vm.findClass E = some ce.cls → vx_W p l e R s m args below meth c H1 locs1 (cells + mc) (slots + ms) Q (F0 m pc ls rest) q9)
    (kk : ∀ (u : S) (t : State) (H1 : Heap) (locs1 : List Loc), t.heap = H1 → s.vm.Alike t.vm → post u → B u t → H.size ≤ H1.size → (∀ q : Nat, q < H.size → ¬ A1 q → H1[q]? = H[q]?) → va_S A0 H0 H1 locs1 → W p l e R s m args below meth c H1 locs1 (cells + mc) (slots + ms) Q (F0 m (pc + 3) ls (rest))) : W p l e R s m args below meth c H locs cells slots Q (F0 m pc ls st0) := by
  intro T hT X
  rcases hr T hT X with ⟨v, st₀, t, T', L, h0, X', hL, e1, e2, ⟨⟨u, hv, hp, hb⟩, hF⟩, st⟩ | ⟨q, st₀, t, T', L, E, ce, h0, X', hL, e1, e2, ⟨u, hp, hb, hF⟩, hce, hcv, hcl, st⟩
  · cases hv
    obtain ⟨k1, k2, k3⟩ := vx_keep h0 e1 hS hA hf hL hF
    obtain ⟨t2, a1, b1⟩ := kk u t T'.heap (locs ++ L) e1.symm (by rw [← e2]; exact X'.warmed.alike) hp hb k1 k2 k3 T' rfl X'
    exact ⟨t2, st t2 a1, b1⟩
  · obtain ⟨k1, k2, k3⟩ := vx_keep h0 e1 hS hAX hf hL hF
    obtain ⟨t2, a1, b1⟩ := kx E ce q u t T'.heap (locs ++ L) e1.symm (by rw [← e2]; exact X'.warmed.alike) hp hb k1 k2 k3 (by rw [e1]; exact hce) hcv hcl T' rfl X'
    exact ⟨t2, st.trans a1, b1⟩
/-- caught by the row x of this method's table; the rows ahead don't take it -/
theorem vx_catch {own name : String} {E : String} {ce : Cell} {q : Addr} (hown : s.vm.findClass own = some m.cls) (pre : List ExceptionTableEntry) (x : ExceptionTableEntry) (suf : List ExceptionTableEntry) (hsplit : c.exceptionTable.toList = pre ++ x :: suf)
    (hpass : ∀ z ∈ pre, covers z pc = false ∨ (z.catchType ≠ 0 ∧ ∃ nm : String, (Cond.classLink own z.catchType nm).before args s = true ∧ va_Nc E nm s)) (hx : covers x pc = true) (h0 : x.catchType ≠ 0)
    (hlink : (Cond.classLink own x.catchType name).before args s = true) (hcast : (Cond.castable E name).before args s = true) (hcell : H[q]? = some ce) (hv : ce.vm = .none) (hcl : s.vm.findClass E = some ce.cls)
    (kk : W p l e R s m args below meth c H locs cells slots Q (F0 m x.handlerPc ls [.ref q])) : vx_W p l e R s m args below meth c H locs cells slots Q (F0 m pc ls rest) q := by
  intro T hT X
  have hpl : e.platform.magicAccessors = ({} : Platform).magicAccessors := by rw [X.admits.platform]
  obtain ⟨c3, c4, hc3, hc4, hasg⟩ := Cond.castable_spec hcast
  cases Option.some.inj (hc3.symm.trans hcl)
  obtain ⟨c5, hc5, hcl5⟩ := Cond.classLink_spec hown hlink e.platform hpl
  cases Option.some.inj (hc4.symm.trans hc5)
  obtain ⟨vm', X', st⟩ := X.thenCaughtThrough q (g := F0 m pc ls rest) rfl (Steps.refl _) (by rw [hT]; exact hcell) (by rw [hv]; rfl) (by obtain ⟨k9, h9, -⟩ := Vm.findClass_spec hcl; exact ⟨k9, h9⟩) pre x suf hsplit
    (fun z hz => by
      rcases hpass z hz with h | ⟨hz0, nm, hl1, hn1⟩
      · exact Or.inl h
      · obtain ⟨c6, hc6, hcl6⟩ := Cond.classLink_spec hown hl1 e.platform hpl
        obtain ⟨a8, b8, h1, h2, h3⟩ := hn1
        cases Option.some.inj (h1.symm.trans hcl)
        cases Option.some.inj (h2.symm.trans hc6)
        exact Or.inr ⟨hz0, _, hcl6, h3⟩) hx (Or.inr ⟨h0, c4, hcl5, hasg⟩)
  obtain ⟨t, a1, b1⟩ := kk (T.setVm vm') hT X'
  exact ⟨t, st.trans a1, b1⟩
end Rows
section Ends
variable {p : Program} {l : Launch} {e : Env} {R : Room} {s : State} {m : MethodId} {args : Array Value} {below : List Frame} {meth : Method} {c : Code} {H : Heap} {locs : List Loc} {cells slots : Nat} {Q : State → Prop}
variable {mc ms : Nat} {free : Addr → Prop} {A0 A1 : Nat → Prop} {H0 : Heap} {a : Array Value} {ls : Array Slot} {st0 rest : List Value}
variable {Qc : Array Value → State → Outcome → State → Prop} {XC : String → State → State → Prop}
/-- what a body that may throw owes at its end -/
def vx_MQ (below : List Frame) (Qc : Array Value → State → Outcome → State → Prop) (XC : String → State → State → Prop) (a : Array Value) (s : State) (mc ms : Nat) (free : Addr → Prop) : State → Prop := fun t =>
  ∃ o, t.status = .running ∧ Ended t below o ∧ vx_Q Qc XC mc ms free a s o t
theorem vx_ret {g : JFrame} {mc ms : Nat} (k : W p l e R s m args below meth c H locs cells slots (MQ below Qc args s mc ms free) g) : W p l e R s m args below meth c H locs cells slots (vx_MQ below Qc XC args s mc ms free) g := by
  intro T hT X
  obtain ⟨t, a1, o, b1, b2, b3, b4⟩ := k T hT X
  exact ⟨t, a1, o, b1, b2, Or.inl ⟨b3, b4⟩⟩
/-- not caught here: it goes on to the caller -/
theorem vx_widen {g : JFrame} {q : Addr} {k n : Nat} (h1 : cells ≤ k) (h2 : slots ≤ n) (kk : vx_W p l e R s m args below meth c H locs k n Q g q) : vx_W p l e R s m args below meth c H locs cells slots Q g q := fun T hT X => kk T hT (stand_widen X h1 h2)
theorem vx_out {pc : Nat} {E : String} {ce : Cell} {q : Addr} {mc ms : Nat} (hout : ∀ x ∈ c.exceptionTable.toList, covers x pc = false) (hlocks : meth.locks = false) (hcell : H[q]? = some ce) (hv : ce.vm = .none) (hcl : s.vm.findClass E = some ce.cls)
    (hx : ∀ t : State, t.heap = H → s.vm.Alike t.vm → XC E s t) (hf : ∀ z ∈ locs, free z.base) (hc : cells ≤ mc) (hs : slots ≤ ms) :
    vx_W p l e R s m args below meth c H locs cells slots (vx_MQ below Qc XC args s mc ms free) (F0 m pc ls rest) q := by
  intro T hT X
  obtain ⟨st1, hrun, hend, hW, hsm⟩ := X.leaveThrown q (g := F0 m pc ls rest) rfl rfl rfl hout hlocks
  have hcell9 : (T.setFrames (.throwing q :: below)).heap[q]? = some ce := by
    show T.heap[q]? = some ce
    rw [hT]; exact hcell
  exact ⟨_, st1, .threw q, hrun, hend, Or.inr ⟨q, rfl, E, ce, locs, hx _ hT hW.alike, hcell9, hv, hcl, hW, hsm.mono hc hs, hf⟩⟩
theorem vx_frame {U : State} {k n : Nat} (h : s.sameButNew ({ U with vm := s.vm } : State) locs k n) : s.heap.size ≤ U.heap.size ∧ ∀ q : Nat, q < s.heap.size → (∀ z ∈ locs, z.base ≠ q) → U.heap[q]? = s.heap[q]? := by
  obtain ⟨-, h2, -, -, -, h6⟩ := h
  refine ⟨h2, fun q hq hz => ?_⟩
  obtain ⟨c9, e1, e2, e3, e4⟩ := h6 q _ (Array.getElem?_eq_getElem hq)
  have hs : c9.slots = (s.heap[q]).slots := Array.ext_getElem? fun i => e4 i fun hm => hz _ hm rfl
  have h9 : c9 = s.heap[q] := by
    rw [hs] at e2
    exact e2
  have e5 : U.heap[q]? = some c9 := e1
  rw [e5, h9, Array.getElem?_eq_getElem hq]
/-- the words of a throw but the four that speak of the heap -/
def vx_no (w : Cond) : Bool := decide (w ≠ .isRef (.static Bundle.tN "UNASSIGNED_STACK" Bundle.steD)) && decide (w ≠ .isRef (.static Bundle.tN "SUPPRESSED_SENTINEL" Bundle.listD)) && decide (w ≠ .laysStatic Bundle.tN "UNASSIGNED_STACK" Bundle.steD) && decide (w ≠ .laysStatic Bundle.tN "SUPPRESSED_SENTINEL" Bundle.listD)
def vx_at0 (own : String) (ic : Nat) (X : String) (names : List String) : List Cond := (Bundle.ownAtoms0 own ic X names).filter vx_no
def vx_atS (own : String) (ic : Nat) (X : String) (names : List String) : List Cond := (Bundle.ownAtoms own ic X names).filter vx_no
/-- a word that the tables alone decide, or a good one -/
def vx_ot (w : Cond) : Bool := w.onTables || goodWord w
theorem vx_ot_at {args a' : Array Value} {s U : State} {w : Cond} (hW : s.WarmedH U.vm) (hvm : s.vm = U.vm) (hg : vx_ot w = true) (h : w.before args s = true) : w.before a' U = true := by
  simp only [vx_ot, Bool.or_eq_true] at hg
  rcases hg with hg | hg
  · exact va_tabs hg hvm h
  · exact word_at hW (good_of_word hg) h
/-- a list's words: the good ones out of the method's own list, the others by premises of their own -/
theorem vx_hat {args : Array Value} {s : State} {L B : List Cond} (h1 : ∀ w ∈ L.filter goodWord, w.before args s = true) (h2 : ∀ w ∈ L.filter (fun w => !goodWord w), w ∈ B) (h3 : ∀ w ∈ B, w.before args s = true) : ∀ w ∈ L, w.before args s = true := by
  intro w hw
  by_cases g : goodWord w = true
  · exact h1 w (List.mem_filter.mpr ⟨hw, g⟩)
  · refine h3 w (h2 w (List.mem_filter.mpr ⟨hw, ?_⟩))
    show (!goodWord w) = true
    cases hgw : goodWord w
    · rfl
    · exact absurd hgw g
theorem vx_c {args : Array Value} {s : State} {w : Cond} {B : List Cond} (h : w.before args s = true) (t : ∀ w ∈ B, w.before args s = true) : ∀ w' ∈ w :: B, w'.before args s = true := fun w' h' => (List.mem_cons.mp h').elim (fun e => by rw [e]; exact h) (t w')
theorem vx_n {args : Array Value} {s : State} : ∀ w ∈ ([] : List Cond), w.before args s = true := fun _ h => nomatch h
theorem vx_own {args : Array Value} {s : State} {L : List Cond} (h1 : ∀ w ∈ L.filter vx_no, w.before args s = true)
    (hU : (Cond.isRef (.static Bundle.tN "UNASSIGNED_STACK" Bundle.steD)).before args s = true) (hN : (Cond.isRef (.static Bundle.tN "SUPPRESSED_SENTINEL" Bundle.listD)).before args s = true)
    (lU : (Cond.laysStatic Bundle.tN "UNASSIGNED_STACK" Bundle.steD).before args s = true) (lN : (Cond.laysStatic Bundle.tN "SUPPRESSED_SENTINEL" Bundle.listD).before args s = true) : ∀ w ∈ L, w.before args s = true := by
  intro w hw
  by_cases e1 : w = .isRef (.static Bundle.tN "UNASSIGNED_STACK" Bundle.steD)
  · rw [e1]; exact hU
  · by_cases e2 : w = .isRef (.static Bundle.tN "SUPPRESSED_SENTINEL" Bundle.listD)
    · rw [e2]; exact hN
    · by_cases e3 : w = .laysStatic Bundle.tN "UNASSIGNED_STACK" Bundle.steD
      · rw [e3]; exact lU
      · by_cases e4 : w = .laysStatic Bundle.tN "SUPPRESSED_SENTINEL" Bundle.listD
        · rw [e4]; exact lN
        · exact h1 w (List.mem_filter.mpr ⟨hw, by unfold vx_no; rw [decide_eq_true e1, decide_eq_true e2, decide_eq_true e3, decide_eq_true e4]; rfl⟩)
/-- where a static field lies, its class's statics cell in H -/
def vx_L (C n d : String) (A : Nat → Prop) (U : State) (H : Heap) : Prop := ∃ (c : ClassId) (k : Class) (i : Nat) (f : Field) (a : Nat) (cell : Cell), U.vm.findClass C = some c ∧ U.fieldFound? C n d = some (c, k, i, f) ∧ f.isStatic = true ∧ k.statics = some a ∧ H[a]? = some cell ∧ cell.vm.isStatics = true ∧ cell.cls = c ∧ f.slot < cell.slots.size ∧ k.staticTypes[f.slot]? = some f.type ∧ ¬ A a
theorem vx_L.moved {C n d : String} {A : Nat → Prop} {u U : State} {H : Heap} (hvm : u.vm.Alike U.vm) (h : vx_L C n d A u H) : vx_L C n d A U H := by
  obtain ⟨c, k, i, f, a, cell, h1, h2, h3, h4, h5, h6, h7, h8, h9, h10⟩ := h
  obtain ⟨k', hi', he⟩ := State.fieldFound?_setVm hvm h2
  exact ⟨c, k', i, f, a, cell, by rw [hvm.findClass]; exact h1, hi', h3, by rw [he]; exact h4, h5, h6, h7, h8, by rw [he]; exact h9, h10⟩
theorem vx_L.kept {C n d : String} {A : Nat → Prop} {U : State} {H H1 : Heap} (h : vx_L C n d A U H) (hq : ∀ a : Nat, a < H.size → ¬ A a → H1[a]? = H[a]?) : vx_L C n d A U H1 := by
  obtain ⟨c, k, i, f, a, cell, h1, h2, h3, h4, h5, h6, h7, h8, h9, h10⟩ := h
  exact ⟨c, k, i, f, a, cell, h1, h2, h3, h4, by rw [hq a (Array.getElem?_eq_some_iff.mp h5).1 h10]; exact h5, h6, h7, h8, h9, h10⟩
theorem vx_L.narrow {C n d : String} {A B : Nat → Prop} {U : State} {H : Heap} (h : vx_L C n d A U H) (hAB : ∀ q, B q → A q) : vx_L C n d B U H := by
  obtain ⟨c, k, i, f, a, cell, h1, h2, h3, h4, h5, h6, h7, h8, h9, h10⟩ := h
  exact ⟨c, k, i, f, a, cell, h1, h2, h3, h4, h5, h6, h7, h8, h9, fun z => h10 (hAB _ z)⟩
theorem vx_L.word {C n d : String} {A : Nat → Prop} {s : State} {args : Array Value} (h : vx_L C n d A s s.heap) : (Cond.laysStatic C n d).before args s = true := by
  obtain ⟨c, k, i, f, a, cell, h1, h2, h3, h4, h5, h6, h7, h8, h9, -⟩ := h
  show (Cond.laysStatic C n d).holds args s none s [] = true
  exact Cond.laysStatic_of h1 h2 h3 h4 h5 h6 h7 h8 h9
/-- .. and what it holds: null or some reference -/
def vx_Zq (C n d : String) (A : Nat → Prop) (U : State) (H : Heap) : Prop := va_Zq C n d A U H ∧ vx_L C n d A U H
theorem vx_Zq.moved {C n d : String} {A : Nat → Prop} {u U : State} {H : Heap} (hvm : u.vm.Alike U.vm) (h : vx_Zq C n d A u H) : vx_Zq C n d A U H := ⟨va_Zq.moved hvm h.1, vx_L.moved hvm h.2⟩
theorem vx_Zq.kept {C n d : String} {A : Nat → Prop} {U : State} {H H1 : Heap} (h : vx_Zq C n d A U H) (hq : ∀ a : Nat, a < H.size → ¬ A a → H1[a]? = H[a]?) : vx_Zq C n d A U H1 := ⟨va_Zq.kept h.1 hq, vx_L.kept h.2 hq⟩
theorem vx_Zq.narrow {C n d : String} {A B : Nat → Prop} {U : State} {H : Heap} (h : vx_Zq C n d A U H) (hAB : ∀ q, B q → A q) : vx_Zq C n d B U H := ⟨va_Zq.narrow h.1 hAB, vx_L.narrow h.2 hAB⟩
theorem vx_Zqof {args : Array Value} {s : State} {C n d : String} {A : Nat → Prop} (hl : (Cond.laysStatic C n d).before args s = true) (hini : (Cond.initialized C).before args s = true) (h : (Cond.isRef (.static C n d)).before args s = true) (hA : ∀ a : Nat, a < s.heap.size → ¬ A a) : vx_Zq C n d A s s.heap := by
  refine ⟨va_Zqof hl hini h hA, ?_⟩
  obtain ⟨c, k, i, f, a, cell, h1, h2, h3, h4, h5, h6, h7, h8, h9⟩ := Cond.laysStatic_spec hl
  exact ⟨c, k, i, f, a, cell, h1, h2, h3, h4, h5, h6, h7, h8, h9, hA a (Array.getElem?_eq_some_iff.mp h5).1⟩
theorem vx_isRef {C n d : String} {v : Value} {A : Nat → Prop} {s : State} {args : Array Value} (h : va_Z C n d v A s s.heap) (hv : v.isRef = true) : (Cond.isRef (.static C n d)).before args s = true := by
  obtain ⟨cf, kf, fi, f, a, cell, h1, h2, h3, h4, h5, h6, h7, -⟩ := h
  have he : (Term.static C n d).eval args s none [] s = some v := by
    simp [Term.eval, State.fieldNamed?, h1, h2, h4, h5, h6, h7]
  simp only [Cond.before, Cond.holds, Cond.value, he]
  cases v <;> simp_all [Value.isRef]
theorem vx_isRefq {C n d : String} {A : Nat → Prop} {s : State} {args : Array Value} (h : va_Zq C n d A s s.heap) : (Cond.isRef (.static C n d)).before args s = true := by
  rcases h with h | ⟨t, h⟩
  · exact vx_isRef h rfl
  · exact vx_isRef h rfl
/-- the same frame, seen from here: as if the method were called anew in this heap -/
theorem vx_rebase {T : State} (X : Stand p l e R s m args below meth c T locs cells slots) {R' : Room} (hf : R'.frames ≤ R.frames) (hl : R'.locals ≤ R.locals) (hc : cells + R'.cells ≤ R.cells) (hs : slots + R'.slots ≤ R.slots) :
    Stand p l e R' ((T.setVm s.vm).setFrames (.invoking m args :: below)) m args below meth c T [] 0 0 := by
  have htop : (T.setVm s.vm).topJava?.isSome := X.here.top
  have hF : ((T.setVm s.vm).setFrames (.invoking m args :: below)).frames = .invoking m args :: below := State.frames_setFrames _ (State.cur_lt_of_top htop)
  obtain ⟨g₀, hg0⟩ := Option.isSome_iff_exists.mp htop
  obtain ⟨r, hr⟩ := State.topJava?_eq_some.mp hg0
  have hl9 : e.platform.stackLimits (T.setVm s.vm).me = e.platform.stackLimits s.me := X.limits
  have hb9 : (T.setVm s.vm).me.stackBytes = s.me.stackBytes := X.bytes
  refine ⟨X.admits, X.cas, X.clock, hF, ?_, X.hears, X.method, X.code, X.here, X.tail, X.warmed, ?_, ?_, ?_⟩
  · have h := X.room
    have hU : ((T.setVm s.vm).setFrames (.invoking m args :: below)).localsInUse = s.localsInUse := by
      rw [State.localsInUse_invoking hF (meth := meth) (c := c) X.method X.code, State.localsInUse_invoking X.frames X.method X.code]
    simp only [State.hasRoom, Bool.and_eq_true, decide_eq_true_eq] at h ⊢
    obtain ⟨⟨⟨⟨h1, h2, h3, h4, h5, h6⟩, h7⟩, h8⟩, h9⟩ := h
    rw [X.frames, List.length_cons] at h2 h3
    have q1 := X.heapSize
    have q2 := X.used
    simp only [hF, hU, List.length_cons, State.stackLimits_setFrames, State.stackBytes_setFrames, hl9, hb9]
    refine ⟨⟨⟨⟨by omega, by omega, by omega, by omega, by omega, h6⟩, ?_⟩, ?_⟩, X.book⟩
    · show T.heap.size + R'.cells ≤ e.platform.maxCells
      omega
    · show T.slotsUsed + R'.slots ≤ e.platform.maxSlots
      omega
  · rw [State.stackLimits_setFrames]; rfl
  · rw [State.stackBytes_setFrames]; rfl
  · refine ⟨?_, Nat.le_refl _, Nat.le_refl _, ?_, ?_, fun a c9 h9 => ⟨c9, h9, rfl, rfl, fun _ _ => rfl⟩⟩
    · obtain ⟨t, ht, -⟩ := State.frames_cons hr
      show T.setVm s.vm = { ((T.setVm s.vm).setFrames (.invoking m args :: below)).setFrames (T.setVm s.vm).frames with heap := T.heap, slotsUsed := T.slotsUsed }
      rw [State.setFrames_setFrames, State.setFrames_self ht]
      rfl
    · show T.slotsUsed = T.slotsUsed + ((T.heap.toList.drop T.heap.size).map (·.slots.size)).sum
      rw [List.drop_eq_nil_of_le (Nat.le_of_eq Array.length_toList)]
      rfl
    · show ((T.heap.toList.drop T.heap.size).map (·.slots.size)).sum ≤ 0
      rw [List.drop_eq_nil_of_le (Nat.le_of_eq Array.length_toList)]
      exact Nat.le_refl _
/-- 'throw new E()': new; dup; invokespecial; athrow -/
theorem vx_throw0 {cc : ByteArray} {pc : Nat} (hexec : p.tables.exec = Jvm.exec) (hb : c.code = cc) (hl : l.stackTraces = false) {own cls : String} {names : List String} {ik ic mc ms : Nat} {A : Nat → Prop}
    (hown : s.vm.findClass own = some m.cls) (hcls : Bundle.fit cls = true) (hnames : ∀ n ∈ names, Bundle.fit n = true)
    (hk : (Cond.classLink own ik cls).before args s = true) (hini : (Cond.initialized cls).before args s = true) (hat : ∀ w ∈ vx_at0 own ic cls names, w.before args s = true)
    (hgood : ∀ w ∈ Cond.classLink own ik cls :: Cond.initialized cls :: vx_at0 own ic cls names, vx_ot w = true)
    (hU : vx_Zq Bundle.tN "UNASSIGNED_STACK" Bundle.steD A s s.heap) (hN : vx_Zq Bundle.tN "SUPPRESSED_SENTINEL" Bundle.listD A s s.heap) (hS : va_S A s.heap H locs) (hsize : ls.size = c.maxLocals)
    (d0 : decode cc pc = .ok (.new ik, 3)) (d3 : decode cc (pc + 3) = .ok (.dup, 1)) (d4 : decode cc (pc + 4) = .ok (.invokespecial ic, 3)) (d7 : decode cc (pc + 7) = .ok (.athrow, 1))
    (hout : ∀ x ∈ c.exceptionTable.toList, covers x (pc + 7) = false)
    (hRframes : names.length + 3 < R.frames) (hRlocals : (rest.map fun v => v.category).sum + (13 * (names.length + 1) + 42) ≤ R.locals) (hRcells : cells + 1 ≤ R.cells) (hRslots : slots + 6 ≤ R.slots) (hlocks : meth.locks = false)
    (hx : ∀ t : State, s.vm.Alike t.vm → H.size ≤ t.heap.size → (∀ q : Nat, q < H.size → t.heap[q]? = H[q]?) → XC cls s t)
    (hf : ∀ z ∈ locs, free z.base) (hc : cells + 1 ≤ mc) (hs : slots + 6 ≤ ms) :
    W p l e R s m args below meth c H locs cells slots (vx_MQ below Qc XC args s mc ms free) (F0 m pc ls rest) := by
  intro T hT X
  have htr : e.platform.stackTraces = false := (show e.platform.stackTraces = l.stackTraces by rw [X.admits.platform]).trans hl
  have Y := vx_rebase X (R' := { frames := R.frames, locals := R.locals, cells := 1, slots := 6 }) (Nat.le_refl _) (Nat.le_refl _) hRcells hRslots
  obtain ⟨s', hA⟩ : ∃ z, z = (T.setVm s.vm).setFrames (.invoking m args :: below) := ⟨_, rfl⟩
  rw [← hA] at Y
  have hvm : s'.vm = s.vm := by rw [hA]; rfl
  have hhp : s'.heap = H := by rw [hA]; exact hT
  have hW0 : s.WarmedH s'.vm := by rw [hvm]; exact State.WarmedH.refl s
  have hat' : ∀ w ∈ vx_at0 own ic cls names, w.before args s' = true := fun w hw => vx_ot_at hW0 hvm.symm (hgood w (List.mem_cons_of_mem _ (List.mem_cons_of_mem _ hw))) (hat w hw)
  have hk' : (Cond.classLink own ik cls).before args s' = true := vx_ot_at hW0 hvm.symm (hgood _ List.mem_cons_self) hk
  have hini' : (Cond.initialized cls).before args s' = true := vx_ot_at hW0 hvm.symm (hgood _ (List.mem_cons_of_mem _ List.mem_cons_self)) hini
  have hU' : vx_Zq Bundle.tN "UNASSIGNED_STACK" Bundle.steD A s' s'.heap := by rw [hhp]; exact vx_Zq.moved hW0.alike (hU.kept hS.2.1)
  have hN' : vx_Zq Bundle.tN "SUPPRESSED_SENTINEL" Bundle.listD A s' s'.heap := by rw [hhp]; exact vx_Zq.moved hW0.alike (hN.kept hS.2.1)
  have h : ∀ w ∈ Bundle.ownAtoms0 own ic cls names, w.before args s' = true := vx_own hat' (vx_isRefq hU'.1) (vx_isRefq hN'.1) hU'.2.word hN'.2.word
  have hown' : s'.vm.findClass own = some m.cls := by rw [hvm]; exact hown
  have hins : (Cond.instantiable cls 6).before args s' = true := h _ (by simp [Bundle.ownAtoms0])
  obtain ⟨vm₁, cX, kX, hfX, hkX, -, -, X₁, st1⟩ := Y.newCold hexec (own := own) (C := cls) (index := ik) (n := 6) hown' hk' hins hini'
    (g := F0 m pc ls rest) rfl (by rw [hb]; exact d0) (Nat.le_refl _) (Nat.le_refl _)
  generalize hT1 : (T.setVm vm₁).pushCell { cls := cX, slots := kX.instanceTypes.map defaultValue, vm := .none } = T1 at X₁ st1
  have hcat : (Value.ref T.heap.size).category = 1 := rfl
  have hcellA : T1.heap[T.heap.size]? = some (freshCell cX kX) := by rw [← hT1]; exact State.heap_pushCell_size _ _
  have d3' : decode c.code (pc + 3) = .ok (.dup, 1) := by rw [hb]; exact d3
  obtain ⟨U, hsteps, hrun, hend, hW, hsame, ce, hce, hO⟩ := X₁.ctorThrow0 hexec htr (own := own) (cls := cls) (names := names) (ic := ic) hown' hcls hnames h (fun x hx => nomatch hx) hfX hkX hcellA (by rw [hhp, hT]; exact Nat.le_refl _)
    (g := { method := m, pc := pc + 4, locals := ls, stack := .ref T.heap.size :: .ref T.heap.size :: rest, locked := none }) rfl hsize rfl rfl (rest := rest) rfl
    (by rw [hb]; exact d4) (by rw [hb]; exact d7) hout hRframes (by simp only [List.map_cons, List.sum_cons, hcat]; omega) hlocks
  obtain ⟨f1, f2⟩ := vx_frame hsame
  rw [hhp] at f1 f2
  have hWs : s.WarmedH U.vm := State.WarmedH.trans hW0 hW
  have hcl : s.vm.findClass cls = some ce.cls := by
    have h9 := hO.cls
    rw [hvm] at h9
    exact h9
  have hall : s.sameButNew ({ U with vm := s.vm } : State) locs mc ms := by
    subst hA
    obtain ⟨e1, e2⟩ := hsame
    rw [State.setFrames_setFrames] at e1
    have h2 : (T.setVm s.vm).sameButNew ({ U with vm := s.vm } : State) [] (0 + 1) (0 + 6) := ⟨e1, e2⟩
    have h3 := X.same.trans h2
    rw [List.append_nil] at h3
    exact h3.mono hc hs
  refine ⟨U, ?_, .threw T.heap.size, hrun, hend, Or.inr ⟨T.heap.size, rfl, cls, ce, locs, hx U hWs.alike f1 (fun q hq => f2 q hq (fun z hz => nomatch hz)), hce, hO.vm, hcl, hWs, hall, hf⟩⟩
  refine st1 _ ?_
  show Steps p.tables e below (T1.setTop { method := m, pc := pc + 3, locals := ls, stack := .ref T.heap.size :: rest, locked := none }) _
  jvm_step X₁.here [X₁.here.top, hexec, d3', Value.category]
  exact hsteps
/-- 'throw new E("text")': new; dup; ldc; invokespecial; athrow -/
theorem vx_throwS {cc : ByteArray} {pc : Nat} (hexec : p.tables.exec = Jvm.exec) (hb : c.code = cc) (hl : l.stackTraces = false) {own cls text : String} {names : List String} {ik is ic mc ms sa : Nat} {A : Nat → Prop}
    (hown : s.vm.findClass own = some m.cls) (hcls : Bundle.fit cls = true) (hnames : ∀ n ∈ names, Bundle.fit n = true)
    (hk : (Cond.classLink own ik cls).before args s = true) (hini : (Cond.initialized cls).before args s = true) (hstr : vk_R own is text sa s) (hat : ∀ w ∈ vx_atS own ic cls names, w.before args s = true)
    (hgood : ∀ w ∈ Cond.classLink own ik cls :: Cond.initialized cls :: vx_atS own ic cls names, vx_ot w = true)
    (hU : vx_Zq Bundle.tN "UNASSIGNED_STACK" Bundle.steD A s s.heap) (hN : vx_Zq Bundle.tN "SUPPRESSED_SENTINEL" Bundle.listD A s s.heap) (hS : va_S A s.heap H locs) (hsize : ls.size = c.maxLocals)
    (d0 : decode cc pc = .ok (.new ik, 3)) (d3 : decode cc (pc + 3) = .ok (.dup, 1)) (d4 : decode cc (pc + 4) = .ok (.ldc is, 2)) (d6 : decode cc (pc + 6) = .ok (.invokespecial ic, 3)) (d9 : decode cc (pc + 9) = .ok (.athrow, 1))
    (hout : ∀ x ∈ c.exceptionTable.toList, covers x (pc + 9) = false)
    (hRframes : names.length + 3 < R.frames) (hRlocals : (rest.map fun v => v.category).sum + (13 * (names.length + 1) + 43) ≤ R.locals) (hRcells : cells + 1 ≤ R.cells) (hRslots : slots + 6 ≤ R.slots) (hlocks : meth.locks = false)
    (hx : ∀ t : State, s.vm.Alike t.vm → H.size ≤ t.heap.size → (∀ q : Nat, q < H.size → t.heap[q]? = H[q]?) → XC cls s t)
    (hf : ∀ z ∈ locs, free z.base) (hc : cells + 1 ≤ mc) (hs : slots + 6 ≤ ms) :
    W p l e R s m args below meth c H locs cells slots (vx_MQ below Qc XC args s mc ms free) (F0 m pc ls rest) := by
  intro T hT X
  have htr : e.platform.stackTraces = false := (show e.platform.stackTraces = l.stackTraces by rw [X.admits.platform]).trans hl
  have Y := vx_rebase X (R' := { frames := R.frames, locals := R.locals, cells := 1, slots := 6 }) (Nat.le_refl _) (Nat.le_refl _) hRcells hRslots
  obtain ⟨s', hA⟩ : ∃ z, z = (T.setVm s.vm).setFrames (.invoking m args :: below) := ⟨_, rfl⟩
  rw [← hA] at Y
  have hvm : s'.vm = s.vm := by rw [hA]; rfl
  have hhp : s'.heap = H := by rw [hA]; exact hT
  have hW0 : s.WarmedH s'.vm := by rw [hvm]; exact State.WarmedH.refl s
  have hat' : ∀ w ∈ vx_atS own ic cls names, w.before args s' = true := fun w hw => vx_ot_at hW0 hvm.symm (hgood w (List.mem_cons_of_mem _ (List.mem_cons_of_mem _ hw))) (hat w hw)
  have hk' : (Cond.classLink own ik cls).before args s' = true := vx_ot_at hW0 hvm.symm (hgood _ List.mem_cons_self) hk
  have hini' : (Cond.initialized cls).before args s' = true := vx_ot_at hW0 hvm.symm (hgood _ (List.mem_cons_of_mem _ List.mem_cons_self)) hini
  have hU' : vx_Zq Bundle.tN "UNASSIGNED_STACK" Bundle.steD A s' s'.heap := by rw [hhp]; exact vx_Zq.moved hW0.alike (hU.kept hS.2.1)
  have hN' : vx_Zq Bundle.tN "SUPPRESSED_SENTINEL" Bundle.listD A s' s'.heap := by rw [hhp]; exact vx_Zq.moved hW0.alike (hN.kept hS.2.1)
  have h : ∀ w ∈ Bundle.ownAtoms own ic cls names, w.before args s' = true := vx_own hat' (vx_isRefq hU'.1) (vx_isRefq hN'.1) hU'.2.word hN'.2.word
  have hown' : s'.vm.findClass own = some m.cls := by rw [hvm]; exact hown
  have hins : (Cond.instantiable cls 6).before args s' = true := h _ (by simp [Bundle.ownAtoms])
  obtain ⟨vm₁, cX, kX, hfX, hkX, -, -, X₁, st1⟩ := Y.newCold hexec (own := own) (C := cls) (index := ik) (n := 6) hown' hk' hins hini'
    (g := F0 m pc ls rest) rfl (by rw [hb]; exact d0) (Nat.le_refl _) (Nat.le_refl _)
  generalize hT1 : (T.setVm vm₁).pushCell { cls := cX, slots := kX.instanceTypes.map defaultValue, vm := .none } = T1 at X₁ st1
  have hcat : (Value.ref T.heap.size).category = 1 := rfl
  have hcellA : T1.heap[T.heap.size]? = some (freshCell cX kX) := by rw [← hT1]; exact State.heap_pushCell_size _ _
  have d3' : decode c.code (pc + 3) = .ok (.dup, 1) := by rw [hb]; exact d3
  have d4' : decode c.code (pc + 4) = .ok (.ldc is, 2) := by rw [hb]; exact d4
  have hstr' : vk_R own is text sa s' := vk_R.warm hW0 hstr
  obtain ⟨U, hsteps, hrun, hend, hW, hsame, ce, hce, hO⟩ := X₁.ctorThrowS hexec htr (own := own) (cls := cls) (names := names) (ic := ic) hown' hcls hnames h (fun x hx => nomatch hx) hfX hkX hcellA (by rw [hhp, hT]; exact Nat.le_refl _) (msg := .ref sa) rfl
    (g := { method := m, pc := pc + 6, locals := ls, stack := .ref sa :: .ref T.heap.size :: .ref T.heap.size :: rest, locked := none }) rfl hsize rfl rfl (rest := rest) rfl
    (by rw [hb]; exact d6) (by rw [hb]; exact d9) hout hRframes (by simp only [List.map_cons, List.sum_cons, hcat]; omega) hlocks
  obtain ⟨f1, f2⟩ := vx_frame hsame
  rw [hhp] at f1 f2
  have hWs : s.WarmedH U.vm := State.WarmedH.trans hW0 hW
  have hcl : s.vm.findClass cls = some ce.cls := by
    have h9 := hO.cls
    rw [hvm] at h9
    exact h9
  have hall : s.sameButNew ({ U with vm := s.vm } : State) locs mc ms := by
    subst hA
    obtain ⟨e1, e2⟩ := hsame
    rw [State.setFrames_setFrames] at e1
    have h2 : (T.setVm s.vm).sameButNew ({ U with vm := s.vm } : State) [] (0 + 1) (0 + 6) := ⟨e1, e2⟩
    have h3 := X.same.trans h2
    rw [List.append_nil] at h3
    exact h3.mono hc hs
  refine ⟨U, ?_, .threw T.heap.size, hrun, hend, Or.inr ⟨T.heap.size, rfl, cls, ce, locs, hx U hWs.alike f1 (fun q hq => f2 q hq (fun z hz => nomatch hz)), hce, hO.vm, hcl, hWs, hall, hf⟩⟩
  refine st1 _ ?_
  show Steps p.tables e below (T1.setTop { method := m, pc := pc + 3, locals := ls, stack := .ref T.heap.size :: rest, locked := none }) _
  jvm_step X₁.here [X₁.here.top, hexec, d3', Value.category]
  exact X₁.ldcString hexec (own := own) (text := text) (index := is) (a := sa) hown' hstr'.1 hstr'.2
    (g := { method := m, pc := pc + 4, locals := ls, stack := .ref T.heap.size :: .ref T.heap.size :: rest, locked := none }) rfl d4' _ hsteps
/-- 'throw new E("text")', the text by a wide index -/
theorem vx_throwSW {cc : ByteArray} {pc : Nat} (hexec : p.tables.exec = Jvm.exec) (hb : c.code = cc) (hl : l.stackTraces = false) {own cls text : String} {names : List String} {ik is ic mc ms sa : Nat} {A : Nat → Prop}
    (hown : s.vm.findClass own = some m.cls) (hcls : Bundle.fit cls = true) (hnames : ∀ n ∈ names, Bundle.fit n = true)
    (hk : (Cond.classLink own ik cls).before args s = true) (hini : (Cond.initialized cls).before args s = true) (hstr : vk_R own is text sa s) (hat : ∀ w ∈ vx_atS own ic cls names, w.before args s = true)
    (hgood : ∀ w ∈ Cond.classLink own ik cls :: Cond.initialized cls :: vx_atS own ic cls names, vx_ot w = true)
    (hU : vx_Zq Bundle.tN "UNASSIGNED_STACK" Bundle.steD A s s.heap) (hN : vx_Zq Bundle.tN "SUPPRESSED_SENTINEL" Bundle.listD A s s.heap) (hS : va_S A s.heap H locs) (hsize : ls.size = c.maxLocals)
    (d0 : decode cc pc = .ok (.new ik, 3)) (d3 : decode cc (pc + 3) = .ok (.dup, 1)) (d4 : decode cc (pc + 4) = .ok (.ldc_w is, 3)) (d7 : decode cc (pc + 7) = .ok (.invokespecial ic, 3)) (d10 : decode cc (pc + 10) = .ok (.athrow, 1))
    (hout : ∀ x ∈ c.exceptionTable.toList, covers x (pc + 10) = false)
    (hRframes : names.length + 3 < R.frames) (hRlocals : (rest.map fun v => v.category).sum + (13 * (names.length + 1) + 43) ≤ R.locals) (hRcells : cells + 1 ≤ R.cells) (hRslots : slots + 6 ≤ R.slots) (hlocks : meth.locks = false)
    (hx : ∀ t : State, s.vm.Alike t.vm → H.size ≤ t.heap.size → (∀ q : Nat, q < H.size → t.heap[q]? = H[q]?) → XC cls s t)
    (hf : ∀ z ∈ locs, free z.base) (hc : cells + 1 ≤ mc) (hs : slots + 6 ≤ ms) :
    W p l e R s m args below meth c H locs cells slots (vx_MQ below Qc XC args s mc ms free) (F0 m pc ls rest) := by
  intro T hT X
  have htr : e.platform.stackTraces = false := (show e.platform.stackTraces = l.stackTraces by rw [X.admits.platform]).trans hl
  have Y := vx_rebase X (R' := { frames := R.frames, locals := R.locals, cells := 1, slots := 6 }) (Nat.le_refl _) (Nat.le_refl _) hRcells hRslots
  obtain ⟨s', hA⟩ : ∃ z, z = (T.setVm s.vm).setFrames (.invoking m args :: below) := ⟨_, rfl⟩
  rw [← hA] at Y
  have hvm : s'.vm = s.vm := by rw [hA]; rfl
  have hhp : s'.heap = H := by rw [hA]; exact hT
  have hW0 : s.WarmedH s'.vm := by rw [hvm]; exact State.WarmedH.refl s
  have hat' : ∀ w ∈ vx_atS own ic cls names, w.before args s' = true := fun w hw => vx_ot_at hW0 hvm.symm (hgood w (List.mem_cons_of_mem _ (List.mem_cons_of_mem _ hw))) (hat w hw)
  have hk' : (Cond.classLink own ik cls).before args s' = true := vx_ot_at hW0 hvm.symm (hgood _ List.mem_cons_self) hk
  have hini' : (Cond.initialized cls).before args s' = true := vx_ot_at hW0 hvm.symm (hgood _ (List.mem_cons_of_mem _ List.mem_cons_self)) hini
  have hU' : vx_Zq Bundle.tN "UNASSIGNED_STACK" Bundle.steD A s' s'.heap := by rw [hhp]; exact vx_Zq.moved hW0.alike (hU.kept hS.2.1)
  have hN' : vx_Zq Bundle.tN "SUPPRESSED_SENTINEL" Bundle.listD A s' s'.heap := by rw [hhp]; exact vx_Zq.moved hW0.alike (hN.kept hS.2.1)
  have h : ∀ w ∈ Bundle.ownAtoms own ic cls names, w.before args s' = true := vx_own hat' (vx_isRefq hU'.1) (vx_isRefq hN'.1) hU'.2.word hN'.2.word
  have hown' : s'.vm.findClass own = some m.cls := by rw [hvm]; exact hown
  have hins : (Cond.instantiable cls 6).before args s' = true := h _ (by simp [Bundle.ownAtoms])
  obtain ⟨vm₁, cX, kX, hfX, hkX, -, -, X₁, st1⟩ := Y.newCold hexec (own := own) (C := cls) (index := ik) (n := 6) hown' hk' hins hini'
    (g := F0 m pc ls rest) rfl (by rw [hb]; exact d0) (Nat.le_refl _) (Nat.le_refl _)
  generalize hT1 : (T.setVm vm₁).pushCell { cls := cX, slots := kX.instanceTypes.map defaultValue, vm := .none } = T1 at X₁ st1
  have hcat : (Value.ref T.heap.size).category = 1 := rfl
  have hcellA : T1.heap[T.heap.size]? = some (freshCell cX kX) := by rw [← hT1]; exact State.heap_pushCell_size _ _
  have d3' : decode c.code (pc + 3) = .ok (.dup, 1) := by rw [hb]; exact d3
  have d4' : decode c.code (pc + 4) = .ok (.ldc_w is, 3) := by rw [hb]; exact d4
  have hstr' : vk_R own is text sa s' := vk_R.warm hW0 hstr
  obtain ⟨U, hsteps, hrun, hend, hW, hsame, ce, hce, hO⟩ := X₁.ctorThrowS hexec htr (own := own) (cls := cls) (names := names) (ic := ic) hown' hcls hnames h (fun x hx => nomatch hx) hfX hkX hcellA (by rw [hhp, hT]; exact Nat.le_refl _) (msg := .ref sa) rfl
    (g := { method := m, pc := pc + 7, locals := ls, stack := .ref sa :: .ref T.heap.size :: .ref T.heap.size :: rest, locked := none }) rfl hsize rfl rfl (rest := rest) rfl
    (by rw [hb]; exact d7) (by rw [hb]; exact d10) hout hRframes (by simp only [List.map_cons, List.sum_cons, hcat]; omega) hlocks
  obtain ⟨f1, f2⟩ := vx_frame hsame
  rw [hhp] at f1 f2
  have hWs : s.WarmedH U.vm := State.WarmedH.trans hW0 hW
  have hcl : s.vm.findClass cls = some ce.cls := by
    have h9 := hO.cls
    rw [hvm] at h9
    exact h9
  have hall : s.sameButNew ({ U with vm := s.vm } : State) locs mc ms := by
    subst hA
    obtain ⟨e1, e2⟩ := hsame
    rw [State.setFrames_setFrames] at e1
    have h2 : (T.setVm s.vm).sameButNew ({ U with vm := s.vm } : State) [] (0 + 1) (0 + 6) := ⟨e1, e2⟩
    have h3 := X.same.trans h2
    rw [List.append_nil] at h3
    exact h3.mono hc hs
  refine ⟨U, ?_, .threw T.heap.size, hrun, hend, Or.inr ⟨T.heap.size, rfl, cls, ce, locs, hx U hWs.alike f1 (fun q hq => f2 q hq (fun z hz => nomatch hz)), hce, hO.vm, hcl, hWs, hall, hf⟩⟩
  refine st1 _ ?_
  show Steps p.tables e below (T1.setTop { method := m, pc := pc + 3, locals := ls, stack := .ref T.heap.size :: rest, locked := none }) _
  jvm_step X₁.here [X₁.here.top, hexec, d3', Value.category]
  exact X₁.ldcStringW hexec (own := own) (text := text) (index := is) (a := sa) hown' hstr'.1 hstr'.2
    (g := { method := m, pc := pc + 4, locals := ls, stack := .ref T.heap.size :: .ref T.heap.size :: rest, locked := none }) rfl d4' _ hsteps
end Ends
section Bodies
variable {l : Launch}
theorem vx_ofW {y : MethodName} {ws ws' : List Cond} {rm : Room} {Pc : Array Value → State → Prop} {Qc : Array Value → State → Outcome → State → Prop} {XC : String → State → State → Prop} {mc ms : Nat} {free : Addr → Prop} {cc : ByteArray} {maxL : Nat} {ret : Option FieldType}
    (hy : plainName y.cls = true) (hw : ws = Cond.code y cc maxL ret :: ws')
    (body : ∀ p e s m args below meth c s₁, BodyLoose p l y (headSpec ws rm) cc maxL ret e s m args below meth c s₁ → c.maxLocals = maxL → (∀ x ∈ c.exceptionTable.toList, False) → Pc args s →
      W p l e (headSpec ws rm).room s m args below meth c s.heap [] 0 0 (vx_MQ below Qc XC args s mc ms free) (entryFrame m args maxL)) : vx_Met l y ws rm Pc Qc XC mc ms free := by
  refine MetFree.of_bodyS (code := cc) (maxLocals := maxL) (ret := ret) hy ?_ ?_
  · intro args s m h hn
    obtain ⟨meth, c, h1, h2, h3, h4, h5, h6, -, -⟩ := Cond.code_spec hn (atoms_spec (ws := ws) h _ (by rw [hw]; exact List.mem_cons_self))
    exact ⟨meth, c, h1, h2, h3, h4, h5, h6⟩
  · intro p e s m args below meth c s₁ B hml hP _
    have hh0 : s₁.heap = s.heap := by rw [B.state]; rfl
    have ht : ∀ x ∈ c.exceptionTable.toList, False := by
      obtain ⟨meth9, c9, h1, h2, -, -, -, -, h7, -⟩ := Cond.code_spec B.named (atoms_spec (ws := ws) B.pre _ (by rw [hw]; exact List.mem_cons_self))
      cases Option.some.inj (h1.symm.trans B.method)
      cases Option.some.inj (h2.symm.trans (Stand.of_body B).code)
      intro x hx
      rw [Array.isEmpty_iff.mp h7] at hx
      cases hx
    obtain ⟨t, a1, o, b1, b2, b3⟩ := body p e s m args below meth c s₁ B hml ht hP s₁ hh0 (Stand.of_body B)
    exact ⟨t, o, a1, b1, b2, b3⟩
/-- the table of a body with handlers -/
theorem vx_table {p : Program} {x y : MethodName} {S : Spec} {cc bytes : ByteArray} {maxL maxL' : Nat} {ret ret' : Option FieldType} {e : Env} {s s₁ : State} {m : MethodId} {args : Array Value} {below : List Frame} {meth : Method} {c : Code} {hh : List (Nat × Nat × Nat × Nat)}
    (B : BodyLoose p l y S cc maxL ret e s m args below meth c s₁) (h : (Cond.codeWith y bytes maxL' ret' hh).before args s = true) : c.exceptionTable.toList = tableOf hh := by
  obtain ⟨m9, meth9, c9, hn9, h1, h2, -, -, h6, -⟩ := Cond.codeWith_spec h
  cases Option.some.inj (hn9.symm.trans B.named)
  cases Option.some.inj (h1.symm.trans B.method)
  cases Option.some.inj (h2.symm.trans (Stand.of_body B).code)
  rw [← h6, table_eq]
end Bodies
end VXA
/-! ===== END ===== -/
/-! ===== BEGIN a static call of a method with an exception table ===== -/
section VXS
variable {p : Program} {l : Launch} {e : Env} {R : Room} {s : State} {m : MethodId} {args : Array Value} {below : List Frame} {meth : Method} {c : Code} {T : State} {H : Heap} {locs : List Loc} {cells slots : Nat}
abbrev vx_CSW (R : Room) (s : State) (args : Array Value) (own : String) (index : Nat) (y : MethodName) (bytes : ByteArray) (maxL : Nat) (ret : Option FieldType) (hh : List (Nat × Nat × Nat × Nat)) (ws : List Cond) (rm : Room) (mc ms n : Nat) : Prop :=
  (rm.cells = mc ∧ rm.slots = ms ∧ rm.frames + 1 ≤ R.frames ∧ 8 + (maxL + 11) + rm.locals ≤ R.locals ∧ (∀ w ∈ ws, ∀ (a' : Array Value) (U : State), s.WarmedH U.vm → w.before a' U = true) ∧ Cond.codeWith y bytes maxL ret hh ∈ ws) ∧
  (Cond.codeWith y bytes maxL ret hh).before args s = true ∧ (Cond.initialized y.cls).before args s = true ∧ (y.cls ≠ "java/lang/invoke/MethodHandle" ∧ y.cls ≠ "java/lang/invoke/VarHandle") ∧
  (∀ sig, parseMethodDescriptor y.desc = some sig → n = sig.parameters.length) ∧ (Cond.methodLink own index y).before args s = true ∧ (Cond.static y).before args s = true
theorem vx_cwSW {own : String} {index maxL mc ms : Nat} {y : MethodName} {bytes : ByteArray} {ret : Option FieldType} {hh : List (Nat × Nat × Nat × Nat)} {Ts ws ws' : List Cond} {rm : Room} (n : Nat) (ht : ∀ w ∈ Ts, w.before args s = true) (hT : GoodIn Ts (va_wsS own index y ws)) (hw : ws = Cond.codeWith y bytes maxL ret hh :: ws') (hrc : rm.cells = mc) (hrs : rm.slots = ms)
    (hd : y.cls ≠ "java/lang/invoke/MethodHandle" ∧ y.cls ≠ "java/lang/invoke/VarHandle" ∧ (parseMethodDescriptor y.desc).map (fun d => d.parameters.length) = some n) (hR : rm.frames + 1 ≤ R.frames ∧ 8 + (maxL + 11) + rm.locals ≤ R.locals) :
    vx_CSW R s args own index y bytes maxL ret hh ws rm mc ms n := by
  have ok : ∀ w ∈ va_wsS own index y ws, w.before args s = true := fun w h => ht w (hT w h).1
  have hG : GoodIn Ts ws := fun w h => hT w (by unfold va_wsS; exact List.mem_append_right _ h)
  have hc : Cond.codeWith y bytes maxL ret hh ∈ ws := by rw [hw]; exact List.mem_cons_self
  refine ⟨⟨hrc, hrs, hR.1, hR.2, pay_in ht hG, hc⟩, ht _ (hG _ hc).1, ok _ (by simp [va_wsS]), ⟨hd.1, hd.2.1⟩, fun sig h => ?_, ok _ (by simp [va_wsS]), ok _ (by simp [va_wsS])⟩
  have h2 := hd.2.2
  rw [h] at h2
  exact (Option.some.inj h2).symm
theorem vx_callSW (X : Stand p l e R s m args below meth c T locs cells slots) (hexec : p.tables.exec = Jvm.exec) {own : String} {index : Nat} {y : MethodName} {bytes : ByteArray} {maxL : Nat} {ret : Option FieldType} {hh : List (Nat × Nat × Nat × Nat)}
    (hown : s.vm.findClass own = some m.cls) (hlink : (Cond.methodLink own index y).before args s = true) (hstat : (Cond.static y).before args s = true) (hinit : (Cond.initialized y.cls).before args s = true)
    (hcode : (Cond.codeWith y bytes maxL ret hh).before args s = true) (hy : y.cls ≠ "java/lang/invoke/MethodHandle" ∧ y.cls ≠ "java/lang/invoke/VarHandle")
    {W9 : Nat} {Pre : Pt → Array Value → Prop} {Post : Pt → Array Value → Option Value → Pt → Prop} (hK : Back l R p e below s args y 3 W9 Pre Post)
    {g : JFrame} (hg : g.method = m) (hsize : g.locals.size = c.maxLocals) {argsL rest : List Value} (hlen : ∀ sig, parseMethodDescriptor y.desc = some sig → argsL.length = sig.parameters.length)
    (hstack : g.stack = argsL.reverse ++ rest) (hW : 2 * g.monitorRoom + (rest.map fun v => v.category).sum ≤ W9) (hdg : decode c.code g.pc = .ok (.invokestatic index, 3))
    (hpre : ∀ vm₁, s.WarmedH vm₁ → Pre ⟨T.setVm vm₁, locs, cells, slots⟩ argsL.toArray) :
    ∃ (v : Option Value) (vm₁ : Vm) (B : Pt), s.WarmedH vm₁ ∧ Stand p l e R s m args below meth c B.U B.locs B.cells B.slots ∧ Post ⟨T.setVm vm₁, locs, cells, slots⟩ argsL.toArray v B ∧
      ∀ target, Steps p.tables e below (B.U.setTop { g with pc := g.pc + 3, stack := v.toList ++ rest }) target → Steps p.tables e below (T.setTop g) target := by
  obtain ⟨mk, methM, cM, hnamed, hmethM, -, -, -, -, -, -, hsigM⟩ := Cond.codeWith_spec hcode
  have hstatic : methM.isStatic = true := Cond.static_spec hnamed hmethM hstat
  obtain ⟨kP, hkP, -⟩ := className_of_methodNamed hnamed
  have hinitP : kP.init = .initialized := Cond.initialized_spec (findClass_of_methodNamed hnamed) hkP hinit
  obtain ⟨vm₁, X₁, hstep₁⟩ := X.invokestatic hexec hown hlink hnamed hmethM hstatic hkP hinitP hy (g := g) hg (argsL := argsL) (rest := rest) (hlen _ hsigM) hstack hdg
  obtain ⟨v, B, X', hpost, hsteps⟩ := hK m meth c ⟨T.setVm vm₁, locs, cells, slots⟩ { g with stack := rest } (.invokestatic index) mk argsL.toArray X₁ hg hsize hdg hW (X₁.named hnamed) (hpre vm₁ X₁.warmed)
  exact ⟨v, vm₁, B, X₁.warmed, X', hpost, fun target h => hstep₁ _ fun acts => by rw [doInvoke_state]; exact hsteps.trans h⟩
theorem vx_runSW {y : MethodName} {bytes cc : ByteArray} {maxL nL mc ms n index : Nat} {ret : Option FieldType} {hh : List (Nat × Nat × Nat × Nat)} {ws : List Cond} {rm : Room} {Pc : Array Value → State → Prop} {Qc : Array Value → State → Outcome → State → Prop} {free : Addr → Prop} {Ts : List Cond} {own : String} {As rest : List Value} {g : JFrame}
    (S : CallFix p m c cc nL s args Ts own) (hM : Met l y ws rm Pc Qc mc ms free) (cw : vx_CSW R s args own index y bytes maxL ret hh ws rm mc ms n) (hp : PreS s H Pc As)
    (hg : g.method = m) (hn : As.length = n) (hsize : g.locals.size = nL) (hstack : g.stack = As.reverse ++ rest) (hW : 2 * g.monitorRoom + (rest.map fun v => v.category).sum ≤ 8) (hdg : decode cc g.pc = .ok (.invokestatic index, 3)) (hf : cells + mc ≤ R.cells ∧ slots + ms ≤ R.slots) :
    va_Run p l e R s m args below meth c H locs cells slots mc ms g rest (Qc As.toArray) (free) := by
  obtain ⟨⟨hrc, hrs, hfr, hlo, hws, hcw⟩, hcode, hini, hy, hlen, hl, hstt⟩ := cw
  have hK : Back l R p e below s args y 3 8 (PreOf R mc ms Pc) (PostOf Qc mc ms free) := va_backW (hh := hh) (bytes := bytes) (maxL := maxL) (ret := ret) hM hp.1 hrc hrs hfr hlo hws hcw (fun a' U hW => word_at hW (Or.inl (by first | rfl | simp [Cond.onTables, Cond.keeps, Cond.steady])) hini)
  obtain ⟨hx, hb, hml, ho, -⟩ := S
  intro T hT X
  obtain ⟨v, vm₁, ⟨U', l2, c2, s2⟩, hW₁, X', ⟨g', mk, t, L, e1, e2, hq, h1, hL, h2, h3⟩, st⟩ := vx_callSW X hx (hh := hh) (bytes := bytes) (maxL := maxL) (ret := ret) ho hl hstt hini hcode hy hK hg (hsize.trans hml.symm) (argsL := As) (rest := rest) (fun sig h => hn.trans (hlen sig h)) hstack hW (by rw [hb]; exact hdg)
    (fun vm₁ hW₁ => ⟨hf.1, hf.2, hp.2 (T.setVm vm₁) hT hW₁⟩)
  dsimp only [Pt.U, Pt.locs, Pt.cells, Pt.slots] at X' e1 e2 h1 h2 h3 st
  subst h1; subst h2; subst h3
  exact ⟨v, (T.setVm vm₁).calling g' mk As.toArray, t, U', L, hT, X', hL, e1, e2, hq, st⟩
/-- not caught here, past rows that name other classes: it goes on to the caller -/
theorem vx_outP {p : Program} {l : Launch} {e : Env} {R : Room} {s : State} {m : MethodId} {args : Array Value} {below : List Frame} {meth : Method} {c : Code} {H : Heap} {locs : List Loc} {cells slots : Nat} {free : Addr → Prop} {ls : Array Slot} {rest : List Value} {Qc : Array Value → State → Outcome → State → Prop} {XC : String → State → State → Prop}
    {pc : Nat} {own E : String} {ce : Cell} {q : Addr} {mc ms : Nat} (hown : s.vm.findClass own = some m.cls) (hlocks : meth.locks = false)
    (hpass : ∀ z ∈ c.exceptionTable.toList, covers z pc = false ∨ (z.catchType ≠ 0 ∧ ∃ nm : String, (Cond.classLink own z.catchType nm).before args s = true ∧ va_Nc E nm s)) (hcell : H[q]? = some ce) (hv : ce.vm = .none) (hcl : s.vm.findClass E = some ce.cls)
    (hx : ∀ t : State, t.heap = H → s.vm.Alike t.vm → XC E s t) (hf : ∀ z ∈ locs, free z.base) (hc : cells ≤ mc) (hs : slots ≤ ms) :
    vx_W p l e R s m args below meth c H locs cells slots (vx_MQ below Qc XC args s mc ms free) (F0 m pc ls rest) q := by
  intro T hT X
  have hpl : e.platform.magicAccessors = ({} : Platform).magicAccessors := by rw [X.admits.platform]
  obtain ⟨vm', hW', X', st⟩ := X.outThrough hlocks q (g := F0 m pc ls rest) rfl rfl rfl (cell := ce) (by rw [hT]; exact hcell) (by rw [hv]; rfl)
    (by obtain ⟨k9, h9, -⟩ := Vm.findClass_spec hcl; exact ⟨k9, h9⟩) (fun z hz => by
      rcases hpass z hz with h | ⟨hz0, nm, hl1, hn1⟩
      · exact Or.inl h
      · obtain ⟨c6, hc6, hcl6⟩ := Cond.classLink_spec hown hl1 e.platform hpl
        obtain ⟨a8, b8, h1, h2, h3⟩ := hn1
        cases Option.some.inj (h1.symm.trans hcl)
        cases Option.some.inj (h2.symm.trans hc6)
        exact Or.inr ⟨hz0, _, hcl6, h3⟩)
  obtain ⟨g₀, hfr⟩ := X'.frames_eq
  have hcell9 : ((T.setVm vm').setFrames (.throwing q :: below)).heap[q]? = some ce := by
    show T.heap[q]? = some ce
    rw [hT]; exact hcell
  have hend : Ended ((T.setVm vm').setFrames (.throwing q :: below)) below (.threw q) := State.frames_setFrames _ (State.cur_lt_of_frames hfr)
  refine ⟨(T.setVm vm').setFrames (.throwing q :: below), ?_, .threw q, X'.here.running, hend, Or.inr ⟨q, rfl, E, ce, locs, hx _ hT (X'.ends _).1.alike, hcell9, hv, hcl, (X'.ends _).1, (X'.ends _).2.mono hc hs, hf⟩⟩
  rw [X.pushThrowing_eq]
  exact st
/-- a thing of a world lies in the heap -/
theorem vx_lt {D : va_G} {cl : List vw_C} {ws : va_W} {H1 : Heap} (h : va_P D cl ws H1) {k : Nat} {q : Nat × va_E} (hk : ws[k]? = some q) : q.1 < H1.size := (h k q hk).lt
end VXS
/-! ===== END ===== -/
/-! ===== BEGIN methods with a table of their own: called by a name, returning or throwing ===== -/
section VXH
/-! vx_backW, vx_callVX, vx_callSX, vx_callVW, vx_runVW, vx_runVX, vx_runSX, vx_ofWH follow the same proofs as their sisters above (Free/Laws.lean, Shelf42/LK1.lean); vx_outP calls Shelf42/NT130.lean (outThrough). -/
section
variable {l : Launch} {R : Room} {p : Program} {e : Env} {below : List Frame} {s : State} {sargs : Array Value} {y : MethodName} {len W9 : Nat}
theorem vx_backW {ws : List Cond} {rm : Room} {Pc : Array Value → State → Prop} {Qc : Array Value → State → Outcome → State → Prop} {XC : String → State → State → Prop} {mc ms : Nat} {free : Addr → Prop} {bytes : ByteArray} {maxL : Nat} {ret : Option FieldType} {hh : List (Nat × Nat × Nat × Nat)}
    (hM : vx_Met l y ws rm Pc Qc XC mc ms free) (hblind : FrameBlind Pc) (hrc : rm.cells = mc) (hrs : rm.slots = ms)
    (hframes : rm.frames + 1 ≤ R.frames) (hlocals : W9 + (maxL + 11) + rm.locals ≤ R.locals)
    (hws : ∀ w ∈ ws, ∀ a' U, s.WarmedH U.vm → w.before a' U = true) (hcode : Cond.codeWith y bytes maxL ret hh ∈ ws) (hinit : ∀ a' U, s.WarmedH U.vm → (Cond.initialized y.cls).before a' U = true) :
    vx_Back l R p e below s sargs y len W9 (PreOf R mc ms Pc) (PostOf Qc mc ms free) (vx_Post XC mc ms free) := by
  intro m meth c A g ig mk a X hg hsize hdg hW hn hp
  have h1 : (headSpec ws rm).pre.before a A.U = true := atoms_intro fun w hw => hws w hw _ _ X.warmed
  have h2 : (Cond.codeWith y bytes maxL ret hh).before a A.U = true := hws _ hcode _ _ X.warmed
  have h3 : (Cond.initialized y.cls).before a A.U = true := hinit _ _ X.warmed
  have h4 : A.cells + (headSpec ws rm).room.cells ≤ R.cells := by rw [show (headSpec ws rm).room.cells = mc from hrc]; exact hp.1
  have h5 : A.slots + (headSpec ws rm).room.slots ≤ R.slots := by rw [show (headSpec ws rm).room.slots = ms from hrs]; exact hp.2.1
  have hPc : Pc a (A.U.calling g mk a) := hblind _ _ _ _ hp.2.2
  obtain ⟨U, Ls, c0, s0⟩ := A
  dsimp only [Pt.U, Pt.locs, Pt.cells, Pt.slots] at h1 h2 h3 h4 h5 X hn hPc ⊢
  obtain ⟨m9, methY, cY, hn9, hmY, hcY, -, hlY, -⟩ := Cond.codeWith_spec h2
  cases Option.some.inj (hn9.symm.trans hn)
  obtain ⟨kY, hkY, -⟩ := className_of_methodNamed hn
  have hinitY : kY.init = .initialized := Cond.initialized_spec (findClass_of_methodNamed hn) hkY h3
  have h : At U g.method c below := by rw [hg]; exact X.here
  have hlocals9 : W9 + (maxL + 11) + (headSpec ws rm).room.locals ≤ R.locals := hlocals
  have happ : (headSpec ws rm).appliesLoose y e.platform (U.calling g mk a) = true :=
    Spec.appliesLoose_calling (g := g) h hdg hn hkY hinitY
      (X.room_calling (g := g) (R' := (headSpec ws rm).room) hsize hmY hcY hframes (by rw [hlY]; omega) h4 h5) h1
  obtain ⟨mid, hmid⟩ := h.above
  have hfr : (U.setTop g).frames = (.java g :: mid) ++ below := by rw [State.frames_setTop' g h.top, hmid]; rfl
  obtain ⟨o, s₂, hsteps, -, hend, hq⟩ := Steps.callFree hM p X.admits X.cas X.clock (acts := []) hfr happ hPc trivial
  have hq' : vx_Q Qc XC mc ms free a (U.calling g mk a) o s₂ := hq
  rw [State.frames_setTop' g h.top] at hend
  obtain ⟨g₀, hg0⟩ := Option.isSome_iff_exists.mp h.top
  obtain ⟨r, hr⟩ := State.topJava?_eq_some.mp hg0
  have hr' : (({ U with heap := s₂.heap, slotsUsed := s₂.slotsUsed } : State).setVm s₂.vm).frames = .java g₀ :: r := hr
  rcases hq' with ⟨hqc, L, hfe, hL⟩ | ⟨q, rfl, E, ce, L, hx, hce, hcv, hcl, hW₂, hsm, hL⟩
  · obtain ⟨⟨v, rfl⟩, hW₂, e2, q2, q3, q4, q5, q6⟩ := id hfe
    have e3 : s₂ = ({ (U.calling g mk a).setFrames s₂.frames with heap := s₂.heap, slotsUsed := s₂.slotsUsed } : State).setVm s₂.vm := by
      have : s₂ = ({ s₂ with vm := (U.calling g mk a).vm } : State).setVm s₂.vm := rfl
      rw [e2] at this
      exact this
    obtain ⟨c₂, i₂, len₂, hc₂, hd₂, hf₂⟩ := hend
    have hW' : U.WarmedH s₂.vm := hW₂
    have hcc : c₂ = c := by
      have h1 : s₂.code? g.method = U.code? g.method := by
        rw [State.code?_eq, State.code?_eq, hW'.alike.method?]
      exact Option.some.inj (hc₂.symm.trans (h1.trans h.code))
    subst hcc
    have hlen : len₂ = len := by rw [hdg] at hd₂; cases hd₂; rfl
    subst hlen
    have hs₂ : s₂ = (({ U with heap := s₂.heap, slotsUsed := s₂.slotsUsed } : State).setVm s₂.vm).setTop { g with pc := g.pc + len₂, stack := v.toList ++ g.stack } := by
      refine e3.trans ?_
      rw [hf₂, State.calling_eq h.top, State.setFrames_setFrames, State.setTop_of_frames _ hr', hr]
      rfl
    have hsame : U.sameButNew ({ U with heap := s₂.heap, slotsUsed := s₂.slotsUsed } : State) L mc ms := by
      refine ⟨?_, q2, q3, q4, q5, q6⟩
      obtain ⟨t, ht, -⟩ := State.frames_cons hr
      show ({ U with heap := s₂.heap, slotsUsed := s₂.slotsUsed } : State) = { U.setFrames U.frames with heap := s₂.heap, slotsUsed := s₂.slotsUsed }
      rw [State.setFrames_self ht]
    subst hg
    refine Or.inl ⟨v, ⟨(({ U with heap := s₂.heap, slotsUsed := s₂.slotsUsed } : State).setVm s₂.vm), Ls ++ L, c0 + mc, s0 + ms⟩,
      ⟨X.admits, X.cas, X.clock, X.frames, X.room, X.hears, X.method, X.code, (X.here.setHeapUsed s₂.heap s₂.slotsUsed).setVm hW'.alike, X.tail, State.WarmedH.trans X.warmed hW', X.limits, X.bytes, X.same.trans (hsame.setVm s.vm)⟩,
      ⟨g, mk, s₂, L, rfl, rfl, hqc, rfl, hL, rfl, rfl⟩, ?_⟩
    show Steps p.tables e below _ ((({ U with heap := s₂.heap, slotsUsed := s₂.slotsUsed } : State).setVm s₂.vm).setTop { g with pc := g.pc + len₂, stack := v.toList ++ g.stack })
    rw [← hs₂]
    exact hsteps
  · obtain ⟨e2, q2, q3, q4, q5, q6⟩ := id hsm
    have e3 : s₂ = ({ (U.calling g mk a).setFrames s₂.frames with heap := s₂.heap, slotsUsed := s₂.slotsUsed } : State).setVm s₂.vm := by
      have : s₂ = ({ s₂ with vm := (U.calling g mk a).vm } : State).setVm s₂.vm := rfl
      rw [e2] at this
      exact this
    have hf₂ : s₂.frames = .throwing q :: .java g :: U.frames.tail := hend
    have hW' : U.WarmedH s₂.vm := hW₂
    have hs₂ : s₂ = ((({ U with heap := s₂.heap, slotsUsed := s₂.slotsUsed } : State).setVm s₂.vm).setTop g).pushFrame (.throwing q) := by
      refine e3.trans ?_
      rw [hf₂, State.calling_eq h.top, State.setFrames_setFrames, State.pushFrame, State.frames_setTop _ hr', State.setTop_of_frames _ hr', State.setFrames_setFrames, hr]
      rfl
    have hsame : U.sameButNew ({ U with heap := s₂.heap, slotsUsed := s₂.slotsUsed } : State) L mc ms := by
      refine ⟨?_, q2, q3, q4, q5, q6⟩
      obtain ⟨t, ht, -⟩ := State.frames_cons hr
      show ({ U with heap := s₂.heap, slotsUsed := s₂.slotsUsed } : State) = { U.setFrames U.frames with heap := s₂.heap, slotsUsed := s₂.slotsUsed }
      rw [State.setFrames_self ht]
    subst hg
    refine Or.inr ⟨q, ⟨(({ U with heap := s₂.heap, slotsUsed := s₂.slotsUsed } : State).setVm s₂.vm), Ls ++ L, c0 + mc, s0 + ms⟩,
      ⟨X.admits, X.cas, X.clock, X.frames, X.room, X.hears, X.method, X.code, (X.here.setHeapUsed s₂.heap s₂.slotsUsed).setVm hW'.alike, X.tail, State.WarmedH.trans X.warmed hW', X.limits, X.bytes, X.same.trans (hsame.setVm s.vm)⟩,
      ⟨g, mk, s₂, L, E, ce, rfl, rfl, hx, hce, hcv, hcl, rfl, hL, rfl, rfl⟩, ?_⟩
    show Steps p.tables e below _ (((({ U with heap := s₂.heap, slotsUsed := s₂.slotsUsed } : State).setVm s₂.vm).setTop g).pushFrame (.throwing q))
    rw [← hs₂]
    exact hsteps
end
variable {p : Program} {l : Launch} {e : Env} {R : Room} {s : State} {m : MethodId} {args : Array Value} {below : List Frame} {meth : Method} {c : Code} {T : State} {H : Heap} {locs : List Loc} {cells slots : Nat}
theorem vx_callVX (X : Stand p l e R s m args below meth c T locs cells slots) (hexec : p.tables.exec = Jvm.exec) {own C : String} {index : Nat} {y : MethodName} {bytes : ByteArray} {maxL : Nat} {ret : Option FieldType} {hh : List (Nat × Nat × Nat × Nat)}
    (hown : s.vm.findClass own = some m.cls) (hlink : (Cond.methodLink own index y).before args s = true) (hinst : (Cond.instanceMethod y).before args s = true) (hsel : (Cond.selects C y y).before args s = true)
    (hcode : (Cond.codeWith y bytes maxL ret hh).before args s = true) (hy : y.cls ≠ "java/lang/invoke/MethodHandle" ∧ y.cls ≠ "java/lang/invoke/VarHandle")
    {W9 : Nat} {Pre : Pt → Array Value → Prop} {Post : Pt → Array Value → Option Value → Pt → Prop} {PostX : Pt → Array Value → Addr → Pt → Prop} (hK : vx_Back l R p e below s args y 3 W9 Pre Post PostX)
    {b : Addr} {cellB : Cell} (hcell : T.heap[b]? = some cellB) (hobj : cellB.vm.isStatics = false) (hcls : s.vm.findClass C = some cellB.cls)
    {g : JFrame} (hg : g.method = m) (hsize : g.locals.size = c.maxLocals) {argsL rest : List Value} (hlen : ∀ sig, parseMethodDescriptor y.desc = some sig → argsL.length = sig.parameters.length)
    (hstack : g.stack = argsL.reverse ++ .ref b :: rest) (hW : 2 * g.monitorRoom + (rest.map fun v => v.category).sum ≤ W9) (hdg : decode c.code g.pc = .ok (.invokevirtual index, 3))
    (hpre : ∀ vm₁, s.WarmedH vm₁ → Pre ⟨T.setVm vm₁, locs, cells, slots⟩ (Value.ref b :: argsL).toArray) :
    (∃ (v : Option Value) (vm₁ : Vm) (B : Pt), s.WarmedH vm₁ ∧ Stand p l e R s m args below meth c B.U B.locs B.cells B.slots ∧ Post ⟨T.setVm vm₁, locs, cells, slots⟩ (Value.ref b :: argsL).toArray v B ∧
      ∀ target, Steps p.tables e below (B.U.setTop { g with pc := g.pc + 3, stack := v.toList ++ rest }) target → Steps p.tables e below (T.setTop g) target) ∨
    (∃ (q : Addr) (vm₁ : Vm) (B : Pt), s.WarmedH vm₁ ∧ Stand p l e R s m args below meth c B.U B.locs B.cells B.slots ∧ PostX ⟨T.setVm vm₁, locs, cells, slots⟩ (Value.ref b :: argsL).toArray q B ∧
      Steps p.tables e below (T.setTop g) ((B.U.setTop { g with stack := rest }).pushFrame (.throwing q))) := by
  obtain ⟨mk, methM, hnamed, hmethM, hstM, habM⟩ := Cond.instanceMethod_spec hinst
  obtain ⟨m8, methM', cM, hn8, hmethM', -, -, -, -, -, -, hsigM⟩ := Cond.codeWith_spec hcode
  cases Option.some.inj (hn8.symm.trans hnamed)
  cases hmethM.symm.trans hmethM'
  obtain ⟨c2, r2, m2, q1, q2, q3, q4, kP, hkP, hkPi⟩ := Cond.selects_spec hsel
  cases hcls.symm.trans q1
  cases (State.methodFound?_of_named hnamed hy).symm.trans q2
  cases hnamed.symm.trans q3
  have hselP : selectMethod e.platform s.vm cellB.cls mk = .method mk := by rw [Launch.admits_selectMethod X.admits]; exact q4
  obtain ⟨vm₁, X₁, hstep₁⟩ := X.invokevirtual hexec hown hlink hnamed hmethM hstM hkP hkPi hy (a := b) (cell := cellB) hcell
    (fun z h => by rw [h] at hobj; cases hobj) hselP hmethM habM hkP hkPi (g := g) hg (argsL := argsL) (rest := rest) (hlen _ hsigM) hstack hdg
  rcases hK m meth c ⟨T.setVm vm₁, locs, cells, slots⟩ { g with stack := rest } (.invokevirtual index) mk (Value.ref b :: argsL).toArray X₁ hg hsize hdg hW (X₁.named hnamed) (hpre vm₁ X₁.warmed) with ⟨v, B, X', hpost, hsteps⟩ | ⟨q, B, X', hpost, hsteps⟩
  · exact Or.inl ⟨v, vm₁, B, X₁.warmed, X', hpost, fun target h => hstep₁ _ fun acts => by rw [doInvoke_state]; exact hsteps.trans h⟩
  · exact Or.inr ⟨q, vm₁, B, X₁.warmed, X', hpost, hstep₁ _ fun acts => by rw [doInvoke_state]; exact hsteps⟩
theorem vx_callSX (X : Stand p l e R s m args below meth c T locs cells slots) (hexec : p.tables.exec = Jvm.exec) {own : String} {index : Nat} {y : MethodName} {bytes : ByteArray} {maxL : Nat} {ret : Option FieldType} {hh : List (Nat × Nat × Nat × Nat)}
    (hown : s.vm.findClass own = some m.cls) (hlink : (Cond.methodLink own index y).before args s = true) (hstat : (Cond.static y).before args s = true) (hinit : (Cond.initialized y.cls).before args s = true)
    (hcode : (Cond.codeWith y bytes maxL ret hh).before args s = true) (hy : y.cls ≠ "java/lang/invoke/MethodHandle" ∧ y.cls ≠ "java/lang/invoke/VarHandle")
    {W9 : Nat} {Pre : Pt → Array Value → Prop} {Post : Pt → Array Value → Option Value → Pt → Prop} {PostX : Pt → Array Value → Addr → Pt → Prop} (hK : vx_Back l R p e below s args y 3 W9 Pre Post PostX)
    {g : JFrame} (hg : g.method = m) (hsize : g.locals.size = c.maxLocals) {argsL rest : List Value} (hlen : ∀ sig, parseMethodDescriptor y.desc = some sig → argsL.length = sig.parameters.length)
    (hstack : g.stack = argsL.reverse ++ rest) (hW : 2 * g.monitorRoom + (rest.map fun v => v.category).sum ≤ W9) (hdg : decode c.code g.pc = .ok (.invokestatic index, 3))
    (hpre : ∀ vm₁, s.WarmedH vm₁ → Pre ⟨T.setVm vm₁, locs, cells, slots⟩ argsL.toArray) :
    (∃ (v : Option Value) (vm₁ : Vm) (B : Pt), s.WarmedH vm₁ ∧ Stand p l e R s m args below meth c B.U B.locs B.cells B.slots ∧ Post ⟨T.setVm vm₁, locs, cells, slots⟩ argsL.toArray v B ∧
      ∀ target, Steps p.tables e below (B.U.setTop { g with pc := g.pc + 3, stack := v.toList ++ rest }) target → Steps p.tables e below (T.setTop g) target) ∨
    (∃ (q : Addr) (vm₁ : Vm) (B : Pt), s.WarmedH vm₁ ∧ Stand p l e R s m args below meth c B.U B.locs B.cells B.slots ∧ PostX ⟨T.setVm vm₁, locs, cells, slots⟩ argsL.toArray q B ∧
      Steps p.tables e below (T.setTop g) ((B.U.setTop { g with stack := rest }).pushFrame (.throwing q))) := by
  obtain ⟨mk, methM, cM, hnamed, hmethM, -, -, -, -, -, -, hsigM⟩ := Cond.codeWith_spec hcode
  have hstatic : methM.isStatic = true := Cond.static_spec hnamed hmethM hstat
  obtain ⟨kP, hkP, -⟩ := className_of_methodNamed hnamed
  have hinitP : kP.init = .initialized := Cond.initialized_spec (findClass_of_methodNamed hnamed) hkP hinit
  obtain ⟨vm₁, X₁, hstep₁⟩ := X.invokestatic hexec hown hlink hnamed hmethM hstatic hkP hinitP hy (g := g) hg (argsL := argsL) (rest := rest) (hlen _ hsigM) hstack hdg
  rcases hK m meth c ⟨T.setVm vm₁, locs, cells, slots⟩ { g with stack := rest } (.invokestatic index) mk argsL.toArray X₁ hg hsize hdg hW (X₁.named hnamed) (hpre vm₁ X₁.warmed) with ⟨v, B, X', hpost, hsteps⟩ | ⟨q, B, X', hpost, hsteps⟩
  · exact Or.inl ⟨v, vm₁, B, X₁.warmed, X', hpost, fun target h => hstep₁ _ fun acts => by rw [doInvoke_state]; exact hsteps.trans h⟩
  · exact Or.inr ⟨q, vm₁, B, X₁.warmed, X', hpost, hstep₁ _ fun acts => by rw [doInvoke_state]; exact hsteps⟩
theorem vx_callVW (X : Stand p l e R s m args below meth c T locs cells slots) (hexec : p.tables.exec = Jvm.exec) {own C : String} {index : Nat} {y : MethodName} {bytes : ByteArray} {maxL : Nat} {ret : Option FieldType} {hh : List (Nat × Nat × Nat × Nat)}
    (hown : s.vm.findClass own = some m.cls) (hlink : (Cond.methodLink own index y).before args s = true) (hinst : (Cond.instanceMethod y).before args s = true) (hsel : (Cond.selects C y y).before args s = true)
    (hcode : (Cond.codeWith y bytes maxL ret hh).before args s = true) (hy : y.cls ≠ "java/lang/invoke/MethodHandle" ∧ y.cls ≠ "java/lang/invoke/VarHandle")
    {W9 : Nat} {Pre : Pt → Array Value → Prop} {Post : Pt → Array Value → Option Value → Pt → Prop} (hK : Back l R p e below s args y 3 W9 Pre Post)
    {b : Addr} {cellB : Cell} (hcell : T.heap[b]? = some cellB) (hobj : cellB.vm.isStatics = false) (hcls : s.vm.findClass C = some cellB.cls)
    {g : JFrame} (hg : g.method = m) (hsize : g.locals.size = c.maxLocals) {argsL rest : List Value} (hlen : ∀ sig, parseMethodDescriptor y.desc = some sig → argsL.length = sig.parameters.length)
    (hstack : g.stack = argsL.reverse ++ .ref b :: rest) (hW : 2 * g.monitorRoom + (rest.map fun v => v.category).sum ≤ W9) (hdg : decode c.code g.pc = .ok (.invokevirtual index, 3))
    (hpre : ∀ vm₁, s.WarmedH vm₁ → Pre ⟨T.setVm vm₁, locs, cells, slots⟩ (Value.ref b :: argsL).toArray) :
    ∃ (v : Option Value) (vm₁ : Vm) (B : Pt), s.WarmedH vm₁ ∧ Stand p l e R s m args below meth c B.U B.locs B.cells B.slots ∧ Post ⟨T.setVm vm₁, locs, cells, slots⟩ (Value.ref b :: argsL).toArray v B ∧
      ∀ target, Steps p.tables e below (B.U.setTop { g with pc := g.pc + 3, stack := v.toList ++ rest }) target → Steps p.tables e below (T.setTop g) target := by
  obtain ⟨mk, methM, hnamed, hmethM, hstM, habM⟩ := Cond.instanceMethod_spec hinst
  obtain ⟨m8, methM', cM, hn8, hmethM', -, -, -, -, -, -, hsigM⟩ := Cond.codeWith_spec hcode
  cases Option.some.inj (hn8.symm.trans hnamed)
  cases hmethM.symm.trans hmethM'
  obtain ⟨c2, r2, m2, q1, q2, q3, q4, kP, hkP, hkPi⟩ := Cond.selects_spec hsel
  cases hcls.symm.trans q1
  cases (State.methodFound?_of_named hnamed hy).symm.trans q2
  cases hnamed.symm.trans q3
  have hselP : selectMethod e.platform s.vm cellB.cls mk = .method mk := by rw [Launch.admits_selectMethod X.admits]; exact q4
  obtain ⟨vm₁, X₁, hstep₁⟩ := X.invokevirtual hexec hown hlink hnamed hmethM hstM hkP hkPi hy (a := b) (cell := cellB) hcell
    (fun z h => by rw [h] at hobj; cases hobj) hselP hmethM habM hkP hkPi (g := g) hg (argsL := argsL) (rest := rest) (hlen _ hsigM) hstack hdg
  obtain ⟨v, B, X', hpost, hsteps⟩ := hK m meth c ⟨T.setVm vm₁, locs, cells, slots⟩ { g with stack := rest } (.invokevirtual index) mk (Value.ref b :: argsL).toArray X₁ hg hsize hdg hW (X₁.named hnamed) (hpre vm₁ X₁.warmed)
  exact ⟨v, vm₁, B, X₁.warmed, X', hpost, fun target h => hstep₁ _ fun acts => by rw [doInvoke_state]; exact hsteps.trans h⟩
abbrev vx_CVW (R : Room) (s : State) (args : Array Value) (own C : String) (index : Nat) (y : MethodName) (bytes : ByteArray) (maxL : Nat) (ret : Option FieldType) (hh : List (Nat × Nat × Nat × Nat)) (ws : List Cond) (rm : Room) (mc ms n : Nat) : Prop :=
  (rm.cells = mc ∧ rm.slots = ms ∧ rm.frames + 1 ≤ R.frames ∧ 8 + (maxL + 11) + rm.locals ≤ R.locals ∧ (∀ w ∈ ws, ∀ (a' : Array Value) (U : State), s.WarmedH U.vm → w.before a' U = true) ∧ Cond.codeWith y bytes maxL ret hh ∈ ws) ∧
  (Cond.codeWith y bytes maxL ret hh).before args s = true ∧ (Cond.initialized y.cls).before args s = true ∧ (y.cls ≠ "java/lang/invoke/MethodHandle" ∧ y.cls ≠ "java/lang/invoke/VarHandle") ∧
  (∀ sig, parseMethodDescriptor y.desc = some sig → n = sig.parameters.length) ∧ (Cond.methodLink own index y).before args s = true ∧ (Cond.instanceMethod y).before args s = true ∧ (Cond.selects C y y).before args s = true
theorem vx_cwVW {own C : String} {index maxL mc ms : Nat} {y : MethodName} {bytes : ByteArray} {ret : Option FieldType} {hh : List (Nat × Nat × Nat × Nat)} {Ts ws ws' : List Cond} {rm : Room} (n : Nat) (ht : ∀ w ∈ Ts, w.before args s = true) (hT : GoodIn Ts (wsV own index C y ws)) (hw : ws = Cond.codeWith y bytes maxL ret hh :: ws') (hrc : rm.cells = mc) (hrs : rm.slots = ms)
    (hd : y.cls = C ∧ y.cls ≠ "java/lang/invoke/MethodHandle" ∧ y.cls ≠ "java/lang/invoke/VarHandle" ∧ (parseMethodDescriptor y.desc).map (fun d => d.parameters.length) = some n) (hR : rm.frames + 1 ≤ R.frames ∧ 8 + (maxL + 11) + rm.locals ≤ R.locals) :
    vx_CVW R s args own C index y bytes maxL ret hh ws rm mc ms n := by
  obtain ⟨hC, hd⟩ := hd
  subst hC
  have ok : ∀ w ∈ wsV own index y.cls y ws, w.before args s = true := fun w h => ht w (hT w h).1
  have hG : GoodIn Ts ws := fun w h => hT w (by unfold wsV; exact List.mem_append_right _ h)
  have hc : Cond.codeWith y bytes maxL ret hh ∈ ws := by rw [hw]; exact List.mem_cons_self
  refine ⟨⟨hrc, hrs, hR.1, hR.2, pay_in ht hG, hc⟩, ht _ (hG _ hc).1, ok _ (by simp [wsV]), ⟨hd.1, hd.2.1⟩, fun sig h => ?_, ok _ (by simp [wsV]), ok _ (by simp [wsV]), ok _ (by simp [wsV])⟩
  have h2 := hd.2.2
  rw [h] at h2
  exact (Option.some.inj h2).symm
theorem vx_runVW {y : MethodName} {bytes cc : ByteArray} {maxL nL mc ms n index : Nat} {ret : Option FieldType} {hh : List (Nat × Nat × Nat × Nat)} {ws : List Cond} {rm : Room} {Pc : Array Value → State → Prop} {Qc : Array Value → State → Outcome → State → Prop} {free : Addr → Prop} {Ts : List Cond} {own C : String} {b : Addr} {As rest : List Value} {g : JFrame}
    (S : CallFix p m c cc nL s args Ts own) (hM : Met l y ws rm Pc Qc mc ms free) (cw : vx_CVW R s args own C index y bytes maxL ret hh ws rm mc ms n) (hp : PreV s H C b Pc As)
    (hg : g.method = m) (hn : As.length = n) (hsize : g.locals.size = nL) (hstack : g.stack = As.reverse ++ .ref b :: rest) (hW : 2 * g.monitorRoom + (rest.map fun v => v.category).sum ≤ 8) (hdg : decode cc g.pc = .ok (.invokevirtual index, 3)) (hf : cells + mc ≤ R.cells ∧ slots + ms ≤ R.slots) :
    va_Run p l e R s m args below meth c H locs cells slots mc ms g rest (Qc (Value.ref b :: As).toArray) free := by
  obtain ⟨⟨hrc, hrs, hfr, hlo, hws, hcw⟩, hcode, hini, hy, hlen, hl, hin, hse⟩ := cw
  have hK : Back l R p e below s args y 3 8 (PreOf R mc ms Pc) (PostOf Qc mc ms free) := va_backW (hh := hh) (bytes := bytes) (maxL := maxL) (ret := ret) hM hp.1 hrc hrs hfr hlo hws hcw (fun a' U hW => word_at hW (Or.inl (by first | rfl | simp [Cond.onTables, Cond.keeps, Cond.steady])) hini)
  obtain ⟨hx, hb, hml, ho, -⟩ := S
  obtain ⟨-, ⟨cellB, hcB, hoB, hclB⟩, hPc⟩ := hp
  intro T hT X
  obtain ⟨v, vm₁, ⟨U', l2, c2, s2⟩, hW₁, X', ⟨g', mk, t, L, e1, e2, hq, h1, hL, h2, h3⟩, st⟩ := vx_callVW X hx (C := C) (hh := hh) (bytes := bytes) (maxL := maxL) (ret := ret) ho hl hin hse hcode hy hK (by rw [hT]; exact hcB) hoB hclB hg (hsize.trans hml.symm) (argsL := As) (rest := rest) (fun sig h => hn.trans (hlen sig h)) hstack hW (by rw [hb]; exact hdg)
    (fun vm₁ hW₁ => ⟨hf.1, hf.2, hPc (T.setVm vm₁) hT hW₁⟩)
  dsimp only [Pt.U, Pt.locs, Pt.cells, Pt.slots] at X' e1 e2 h1 h2 h3 st
  subst h1; subst h2; subst h3
  exact ⟨v, (T.setVm vm₁).calling g' mk (Value.ref b :: As).toArray, t, U', L, hT, X', hL, e1, e2, hq, st⟩
section
variable {y : MethodName} {bytes cc : ByteArray} {maxL nL mc ms n index : Nat} {ret : Option FieldType} {ws : List Cond} {rm : Room} {Pc : Array Value → State → Prop} {Qc : Array Value → State → Outcome → State → Prop} {XC : String → State → State → Prop} {free : Addr → Prop} {Ts : List Cond} {own C : String} {b : Addr} {As rest : List Value} {g : JFrame}
theorem vx_runVX {hh : List (Nat × Nat × Nat × Nat)} (S : CallFix p m c cc nL s args Ts own) (hM : vx_Met l y ws rm Pc Qc XC mc ms free) (cw : vx_CVW R s args own C index y bytes maxL ret hh ws rm mc ms n) (hp : PreV s H C b Pc As)
    (hg : g.method = m) (hn : As.length = n) (hsize : g.locals.size = nL) (hstack : g.stack = As.reverse ++ .ref b :: rest) (hW : 2 * g.monitorRoom + (rest.map fun v => v.category).sum ≤ 8) (hdg : decode cc g.pc = .ok (.invokevirtual index, 3)) (hf : cells + mc ≤ R.cells ∧ slots + ms ≤ R.slots) :
    vx_Run p l e R s m args below meth c H locs cells slots mc ms g rest (Qc (Value.ref b :: As).toArray) XC free := by
  obtain ⟨⟨hrc, hrs, hfr, hlo, hws, hcw⟩, hcode, hini, hy, hlen, hl, hin, hse⟩ := cw
  have hK : vx_Back l R p e below s args y 3 8 (PreOf R mc ms Pc) (PostOf Qc mc ms free) (vx_Post XC mc ms free) := vx_backW (hh := hh) (bytes := bytes) (maxL := maxL) (ret := ret) hM hp.1 hrc hrs hfr hlo hws hcw (fun a' U hW => word_at hW (Or.inl (by first | rfl | simp [Cond.onTables, Cond.keeps, Cond.steady])) hini)
  obtain ⟨hx, hb, hml, ho, -⟩ := S
  obtain ⟨-, ⟨cellB, hcB, hoB, hclB⟩, hPc⟩ := hp
  intro T hT X
  rcases vx_callVX X hx (C := C) (hh := hh) (bytes := bytes) (maxL := maxL) (ret := ret) ho hl hin hse hcode hy hK (by rw [hT]; exact hcB) hoB hclB hg (hsize.trans hml.symm) (argsL := As) (rest := rest) (fun sig h => hn.trans (hlen sig h)) hstack hW (by rw [hb]; exact hdg)
    (fun vm₁ hW₁ => ⟨hf.1, hf.2, hPc (T.setVm vm₁) hT hW₁⟩) with ⟨v, vm₁, ⟨U', l2, c2, s2⟩, hW₁, X', ⟨g', mk, t, L, e1, e2, hq, h1, hL, h2, h3⟩, st⟩ | ⟨q, vm₁, ⟨U', l2, c2, s2⟩, hW₁, X', ⟨g', mk, t, L, E, ce, e1, e2, hq, hce, hcv, hcl, h1, hL, h2, h3⟩, st⟩
  · dsimp only [Pt.U, Pt.locs, Pt.cells, Pt.slots] at X' e1 e2 h1 h2 h3 st
    subst h1; subst h2; subst h3
    exact Or.inl ⟨v, (T.setVm vm₁).calling g' mk (Value.ref b :: As).toArray, t, U', L, hT, X', hL, e1, e2, hq, st⟩
  · dsimp only [Pt.U, Pt.locs, Pt.cells, Pt.slots] at X' e1 e2 h1 h2 h3 st hcl
    subst h1; subst h2; subst h3
    exact Or.inr ⟨q, (T.setVm vm₁).calling g' mk (Value.ref b :: As).toArray, t, U', L, E, ce, hT, X', hL, e1, e2, hq, hce, hcv, vx_cls hW₁ hcl, st⟩
theorem vx_runSX {hh : List (Nat × Nat × Nat × Nat)} (S : CallFix p m c cc nL s args Ts own) (hM : vx_Met l y ws rm Pc Qc XC mc ms free) (cw : vx_CSW R s args own index y bytes maxL ret hh ws rm mc ms n) (hp : PreS s H Pc As)
    (hg : g.method = m) (hn : As.length = n) (hsize : g.locals.size = nL) (hstack : g.stack = As.reverse ++ rest) (hW : 2 * g.monitorRoom + (rest.map fun v => v.category).sum ≤ 8) (hdg : decode cc g.pc = .ok (.invokestatic index, 3)) (hf : cells + mc ≤ R.cells ∧ slots + ms ≤ R.slots) :
    vx_Run p l e R s m args below meth c H locs cells slots mc ms g rest (Qc As.toArray) XC free := by
  obtain ⟨⟨hrc, hrs, hfr, hlo, hws, hcw⟩, hcode, hini, hy, hlen, hl, hstt⟩ := cw
  have hK : vx_Back l R p e below s args y 3 8 (PreOf R mc ms Pc) (PostOf Qc mc ms free) (vx_Post XC mc ms free) := vx_backW (hh := hh) (bytes := bytes) (maxL := maxL) (ret := ret) hM hp.1 hrc hrs hfr hlo hws hcw (fun a' U hW => word_at hW (Or.inl (by first | rfl | simp [Cond.onTables, Cond.keeps, Cond.steady])) hini)
  obtain ⟨hx, hb, hml, ho, -⟩ := S
  intro T hT X
  rcases vx_callSX X hx (hh := hh) (bytes := bytes) (maxL := maxL) (ret := ret) ho hl hstt hini hcode hy hK hg (hsize.trans hml.symm) (argsL := As) (rest := rest) (fun sig h => hn.trans (hlen sig h)) hstack hW (by rw [hb]; exact hdg)
    (fun vm₁ hW₁ => ⟨hf.1, hf.2, hp.2 (T.setVm vm₁) hT hW₁⟩) with ⟨v, vm₁, ⟨U', l2, c2, s2⟩, hW₁, X', ⟨g', mk, t, L, e1, e2, hq, h1, hL, h2, h3⟩, st⟩ | ⟨q, vm₁, ⟨U', l2, c2, s2⟩, hW₁, X', ⟨g', mk, t, L, E, ce, e1, e2, hq, hce, hcv, hcl, h1, hL, h2, h3⟩, st⟩
  · dsimp only [Pt.U, Pt.locs, Pt.cells, Pt.slots] at X' e1 e2 h1 h2 h3 st
    subst h1; subst h2; subst h3
    exact Or.inl ⟨v, (T.setVm vm₁).calling g' mk As.toArray, t, U', L, hT, X', hL, e1, e2, hq, st⟩
  · dsimp only [Pt.U, Pt.locs, Pt.cells, Pt.slots] at X' e1 e2 h1 h2 h3 st hcl
    subst h1; subst h2; subst h3
    exact Or.inr ⟨q, (T.setVm vm₁).calling g' mk As.toArray, t, U', L, E, ce, hT, X', hL, e1, e2, hq, hce, hcv, vx_cls hW₁ hcl, st⟩
end
end VXH
theorem vx_ofWH {l : Launch} {y : MethodName} {ws ws' : List Cond} {rm : Room} {Pc : Array Value → State → Prop} {Qc : Array Value → State → Outcome → State → Prop} {XC : String → State → State → Prop} {mc ms : Nat} {free : Addr → Prop} {cc : ByteArray} {maxL : Nat} {ret : Option FieldType} {hh : List (Nat × Nat × Nat × Nat)}
    (hy : plainName y.cls = true) (hw : ws = Cond.codeWith y cc maxL ret hh :: ws')
    (body : ∀ p e s m args below meth c s₁, BodyLoose p l y (headSpec ws rm) cc maxL ret e s m args below meth c s₁ → c.maxLocals = maxL → Pc args s →
      W p l e (headSpec ws rm).room s m args below meth c s.heap [] 0 0 (vx_MQ below Qc XC args s mc ms free) (entryFrame m args maxL)) : vx_Met l y ws rm Pc Qc XC mc ms free := by
  refine MetFree.of_bodyS (code := cc) (maxLocals := maxL) (ret := ret) hy ?_ ?_
  · intro args s m h hn
    obtain ⟨m9, meth, c, hn9, h1, h2, h3, h4, -, h5, h6, -⟩ := Cond.codeWith_spec (atoms_spec (ws := ws) h _ (by rw [hw]; exact List.mem_cons_self))
    cases hn.symm.trans hn9
    exact ⟨meth, c, h1, h2, h3, h4, h5, h6⟩
  · intro p e s m args below meth c s₁ B hml hP _
    have hh0 : s₁.heap = s.heap := by rw [B.state]; rfl
    obtain ⟨t, a1, o, b1, b2, b3⟩ := body p e s m args below meth c s₁ B hml hP s₁ hh0 (Stand.of_body B)
    exact ⟨t, o, a1, b1, b2, b3⟩
/-! ===== END ===== -/
end
section
/-! ===== BEGIN printed: names, fields, word lists, decode rows ===== -/
def RX0 : String := "MourningRibbons$Codes"
def TX0 : u_T := fun k => match k with
  | 0 => ("MourningRibbons$Codes", "colours", "[I", true)
  | _ => ("MourningRibbons$Codes", "days", "[I", true)
def tyX0 : Nat → FieldType := fun k => match k with
  | 0 => .array .int
  | _ => .array .int
abbrev wsX00 : List Cond := u_ws RX0 TX0 2
theorem nmX0 : ∀ a, a < 2 → ∀ b, b < 2 → a ≠ b → (TX0 a).2.1 ≠ (TX0 b).2.1 := by decide +kernel
theorem tyX0_ok : ∀ k, k < 2 → parseFieldDescriptor (TX0 k).2.2.1 = some (tyX0 k) := by decide +kernel
abbrev cX0_init : ByteArray := prog_2_method_1_code
def yX0_init : MethodName := ⟨RX0, "<init>", "()V"⟩
abbrev cX0_place : ByteArray := prog_2_method_2_code
def yX0_place : MethodName := ⟨RX0, "place", "(III)I"⟩
abbrev cX0_keepFor : ByteArray := prog_2_method_3_code
def yX0_keepFor : MethodName := ⟨RX0, "keepFor", "(I)V"⟩
abbrev cX0_daysOfAll : ByteArray := prog_2_method_4_code
def yX0_daysOfAll : MethodName := ⟨RX0, "daysOfAll", "(II)I"⟩
abbrev cX0_colourOn : ByteArray := prog_2_method_5_code
def yX0_colourOn : MethodName := ⟨RX0, "colourOn", "(III)I"⟩
def RX1 : String := "MourningRibbons$Family"
def TX1 : u_T := fun k => match k with
  | 0 => ("MourningRibbons$Family", "parent", "[I", true)
  | 1 => ("MourningRibbons$Family", "spouse", "[I", true)
  | 2 => ("MourningRibbons$Family", "alive", "[Z", true)
  | 3 => ("MourningRibbons$Family", "count", "I", false)
  | _ => ("MourningRibbons$Family", "degrees", "[I", true)
def tyX1 : Nat → FieldType := fun k => match k with
  | 0 => .array .int
  | 1 => .array .int
  | 2 => .array .boolean
  | 3 => .int
  | _ => .array .int
abbrev wsX10 : List Cond := u_ws RX1 TX1 5
theorem nmX1 : ∀ a, a < 5 → ∀ b, b < 5 → a ≠ b → (TX1 a).2.1 ≠ (TX1 b).2.1 := by decide +kernel
theorem tyX1_ok : ∀ k, k < 5 → parseFieldDescriptor (TX1 k).2.2.1 = some (tyX1 k) := by decide +kernel
abbrev cX1_init : ByteArray := prog_3_method_1_code
def yX1_init : MethodName := ⟨RX1, "<init>", "()V"⟩
abbrev cX1_isFull : ByteArray := prog_3_method_2_code
def yX1_isFull : MethodName := ⟨RX1, "isFull", "()Z"⟩
abbrev cX1_add : ByteArray := prog_3_method_3_code
def yX1_add : MethodName := ⟨RX1, "add", "(I)I"⟩
abbrev cX1_livingCount : ByteArray := prog_3_method_4_code
def yX1_livingCount : MethodName := ⟨RX1, "livingCount", "()I"⟩
abbrev cX1_hasLivingSpouse : ByteArray := prog_3_method_5_code
def yX1_hasLivingSpouse : MethodName := ⟨RX1, "hasLivingSpouse", "(I)Z"⟩
abbrev cX1_wed : ByteArray := prog_3_method_6_code
def yX1_wed : MethodName := ⟨RX1, "wed", "(II)V"⟩
abbrev cX1_leaveSpouse : ByteArray := prog_3_method_7_code
def yX1_leaveSpouse : MethodName := ⟨RX1, "leaveSpouse", "(I)V"⟩
abbrev cX1_findDegrees : ByteArray := prog_3_method_8_code
def yX1_findDegrees : MethodName := ⟨RX1, "findDegrees", "(I)V"⟩
abbrev cX1_reachFrom : ByteArray := prog_3_method_9_code
def yX1_reachFrom : MethodName := ⟨RX1, "reachFrom", "(III)V"⟩
abbrev cX1_isStep : ByteArray := prog_3_method_10_code
def yX1_isStep : MethodName := ⟨RX1, "isStep", "(II)Z"⟩
abbrev cX1_countKin : ByteArray := prog_3_method_11_code
def yX1_countKin : MethodName := ⟨RX1, "countKin", "(I)I"⟩
def RX2 : String := "MourningRibbons"
def TX2 : u_T := fun k => match k with
  | 0 => ("MourningRibbons", "family", "LMourningRibbons$Family;", true)
  | 1 => ("MourningRibbons", "codes", "LMourningRibbons$Codes;", true)
  | 2 => ("MourningRibbons", "mournedBy", "[I", true)
  | 3 => ("MourningRibbons", "deathDay", "[I", true)
  | 4 => ("MourningRibbons", "today", "I", false)
  | 5 => ("MourningRibbons", "wornSoFar", "I", false)
  | 6 => ("MourningRibbons", "ahead", "[I", true)
  | 7 => ("MourningRibbons", "wornIfLost", "[I", true)
  | _ => ("MourningRibbons", "loss", "[I", true)
def tyX2 : Nat → FieldType := fun k => match k with
  | 0 => .object "MourningRibbons$Family"
  | 1 => .object "MourningRibbons$Codes"
  | 2 => .array .int
  | 3 => .array .int
  | 4 => .int
  | 5 => .int
  | 6 => .array .int
  | 7 => .array .int
  | _ => .array .int
abbrev wsX20 : List Cond := u_ws RX2 TX2 9
theorem nmX2 : ∀ a, a < 9 → ∀ b, b < 9 → a ≠ b → (TX2 a).2.1 ≠ (TX2 b).2.1 := by decide +kernel
theorem tyX2_ok : ∀ k, k < 9 → parseFieldDescriptor (TX2 k).2.2.1 = some (tyX2 k) := by decide +kernel
abbrev cX2_init : ByteArray := prog_1_method_1_code
def yX2_init : MethodName := ⟨RX2, "<init>", "()V"⟩
abbrev cX2_addPerson : ByteArray := prog_1_method_2_code
def yX2_addPerson : MethodName := ⟨RX2, "addPerson", "()I"⟩
abbrev cX2_addChild : ByteArray := prog_1_method_3_code
def yX2_addChild : MethodName := ⟨RX2, "addChild", "(I)I"⟩
abbrev cX2_marry : ByteArray := prog_1_method_4_code
def yX2_marry : MethodName := ⟨RX2, "marry", "(II)I"⟩
abbrev cX2_setStage : ByteArray := prog_1_method_5_code
def yX2_setStage : MethodName := ⟨RX2, "setStage", "(IIII)I"⟩
abbrev cX2_die : ByteArray := prog_1_method_6_code
def yX2_die : MethodName := ⟨RX2, "die", "(I)I"⟩
abbrev cX2_release : ByteArray := prog_1_method_7_code
def yX2_release : MethodName := ⟨RX2, "release", "(II)I"⟩
abbrev cX2_pass : ByteArray := prog_1_method_8_code
def yX2_pass : MethodName := ⟨RX2, "pass", "(I)I"⟩
abbrev cX2_people : ByteArray := prog_1_method_9_code
def yX2_people : MethodName := ⟨RX2, "people", "()I"⟩
abbrev cX2_living : ByteArray := prog_1_method_10_code
def yX2_living : MethodName := ⟨RX2, "living", "()I"⟩
abbrev cX2_isAlive : ByteArray := prog_1_method_11_code
def yX2_isAlive : MethodName := ⟨RX2, "isAlive", "(I)Z"⟩
abbrev cX2_parentOf : ByteArray := prog_1_method_12_code
def yX2_parentOf : MethodName := ⟨RX2, "parentOf", "(I)I"⟩
abbrev cX2_marriedTo : ByteArray := prog_1_method_13_code
def yX2_marriedTo : MethodName := ⟨RX2, "marriedTo", "(I)I"⟩
abbrev cX2_degreeOf : ByteArray := prog_1_method_14_code
def yX2_degreeOf : MethodName := ⟨RX2, "degreeOf", "(II)I"⟩
abbrev cX2_kinOf : ByteArray := prog_1_method_15_code
def yX2_kinOf : MethodName := ⟨RX2, "kinOf", "(II)I"⟩
abbrev cX2_stageColour : ByteArray := prog_1_method_16_code
def yX2_stageColour : MethodName := ⟨RX2, "stageColour", "(II)I"⟩
abbrev cX2_stageDays : ByteArray := prog_1_method_17_code
def yX2_stageDays : MethodName := ⟨RX2, "stageDays", "(II)I"⟩
abbrev cX2_day : ByteArray := prog_1_method_18_code
def yX2_day : MethodName := ⟨RX2, "day", "()I"⟩
abbrev cX2_colourOf : ByteArray := prog_1_method_19_code
def yX2_colourOf : MethodName := ⟨RX2, "colourOf", "(I)I"⟩
abbrev cX2_colourIn : ByteArray := prog_1_method_20_code
def yX2_colourIn : MethodName := ⟨RX2, "colourIn", "(II)I"⟩
abbrev cX2_mourningsOf : ByteArray := prog_1_method_21_code
def yX2_mourningsOf : MethodName := ⟨RX2, "mourningsOf", "(I)I"⟩
abbrev cX2_daysLeftFor : ByteArray := prog_1_method_22_code
def yX2_daysLeftFor : MethodName := ⟨RX2, "daysLeftFor", "(II)I"⟩
abbrev cX2_daysLeft : ByteArray := prog_1_method_23_code
def yX2_daysLeft : MethodName := ⟨RX2, "daysLeft", "(I)I"⟩
abbrev cX2_daysUntilLighter : ByteArray := prog_1_method_24_code
def yX2_daysUntilLighter : MethodName := ⟨RX2, "daysUntilLighter", "(I)I"⟩
abbrev cX2_daysIn : ByteArray := prog_1_method_25_code
def yX2_daysIn : MethodName := ⟨RX2, "daysIn", "(II)I"⟩
abbrev cX2_wearing : ByteArray := prog_1_method_26_code
def yX2_wearing : MethodName := ⟨RX2, "wearing", "(I)I"⟩
abbrev cX2_strictest : ByteArray := prog_1_method_27_code
def yX2_strictest : MethodName := ⟨RX2, "strictest", "()I"⟩
abbrev cX2_longestMourner : ByteArray := prog_1_method_28_code
def yX2_longestMourner : MethodName := ⟨RX2, "longestMourner", "()I"⟩
abbrev cX2_daysWorn : ByteArray := prog_1_method_29_code
def yX2_daysWorn : MethodName := ⟨RX2, "daysWorn", "()I"⟩
abbrev cX2_wouldMourn : ByteArray := prog_1_method_30_code
def yX2_wouldMourn : MethodName := ⟨RX2, "wouldMourn", "(I)I"⟩
abbrev cX2_wouldWear : ByteArray := prog_1_method_31_code
def yX2_wouldWear : MethodName := ⟨RX2, "wouldWear", "(II)I"⟩
abbrev cX2_heaviestLoss : ByteArray := prog_1_method_32_code
def yX2_heaviestLoss : MethodName := ⟨RX2, "heaviestLoss", "()I"⟩
abbrev cX2_meanDaysLeft : ByteArray := prog_1_method_33_code
def yX2_meanDaysLeft : MethodName := ⟨RX2, "meanDaysLeft", "()D"⟩
abbrev cX2_digest : ByteArray := prog_1_method_34_code
def yX2_digest : MethodName := ⟨RX2, "digest", "()J"⟩
abbrev cX2_digestCode : ByteArray := prog_1_method_35_code
def yX2_digestCode : MethodName := ⟨RX2, "digestCode", "(J)J"⟩
abbrev cX2_digestPerson : ByteArray := prog_1_method_36_code
def yX2_digestPerson : MethodName := ⟨RX2, "digestPerson", "(JI)J"⟩
abbrev cX2_needPerson : ByteArray := prog_1_method_37_code
def yX2_needPerson : MethodName := ⟨RX2, "needPerson", "(I)V"⟩
abbrev cX2_needRoom : ByteArray := prog_1_method_38_code
def yX2_needRoom : MethodName := ⟨RX2, "needRoom", "()V"⟩
abbrev cX2_needTwo : ByteArray := prog_1_method_39_code
def yX2_needTwo : MethodName := ⟨RX2, "needTwo", "(II)V"⟩
abbrev cX2_needAlive : ByteArray := prog_1_method_40_code
def yX2_needAlive : MethodName := ⟨RX2, "needAlive", "(I)V"⟩
abbrev cX2_needDegree : ByteArray := prog_1_method_41_code
def yX2_needDegree : MethodName := ⟨RX2, "needDegree", "(I)V"⟩
abbrev cX2_needStage : ByteArray := prog_1_method_42_code
def yX2_needStage : MethodName := ⟨RX2, "needStage", "(II)V"⟩
abbrev cX2_pair : ByteArray := prog_1_method_43_code
def yX2_pair : MethodName := ⟨RX2, "pair", "(II)I"⟩
abbrev cX2_endMourningsOf : ByteArray := prog_1_method_44_code
def yX2_endMourningsOf : MethodName := ⟨RX2, "endMourningsOf", "(I)V"⟩
abbrev cX2_beginMourningsFor : ByteArray := prog_1_method_45_code
def yX2_beginMourningsFor : MethodName := ⟨RX2, "beginMourningsFor", "(I)I"⟩
abbrev cX2_wouldBegin : ByteArray := prog_1_method_46_code
def yX2_wouldBegin : MethodName := ⟨RX2, "wouldBegin", "(I)Z"⟩
abbrev cX2_leftFor : ByteArray := prog_1_method_47_code
def yX2_leftFor : MethodName := ⟨RX2, "leftFor", "(II)I"⟩
abbrev cX2_longestLeft : ByteArray := prog_1_method_48_code
def yX2_longestLeft : MethodName := ⟨RX2, "longestLeft", "(I)I"⟩
abbrev cX2_countMournings : ByteArray := prog_1_method_49_code
def yX2_countMournings : MethodName := ⟨RX2, "countMournings", "(I)I"⟩
abbrev cX2_colourAfter : ByteArray := prog_1_method_50_code
def yX2_colourAfter : MethodName := ⟨RX2, "colourAfter", "(II)I"⟩
abbrev cX2_countWearing : ByteArray := prog_1_method_51_code
def yX2_countWearing : MethodName := ⟨RX2, "countWearing", "(I)I"⟩
abbrev cX2_paintAhead : ByteArray := prog_1_method_52_code
def yX2_paintAhead : MethodName := ⟨RX2, "paintAhead", "(I)V"⟩
abbrev cX2_wornAhead : ByteArray := prog_1_method_53_code
def yX2_wornAhead : MethodName := ⟨RX2, "wornAhead", "(I)I"⟩
abbrev cX2_countAhead : ByteArray := prog_1_method_54_code
def yX2_countAhead : MethodName := ⟨RX2, "countAhead", "(I)I"⟩
abbrev cX2_firstLighterDay : ByteArray := prog_1_method_55_code
def yX2_firstLighterDay : MethodName := ⟨RX2, "firstLighterDay", "()I"⟩
abbrev cX2_addLossesOf : ByteArray := prog_1_method_56_code
def yX2_addLossesOf : MethodName := ⟨RX2, "addLossesOf", "(I)V"⟩
abbrev cX2_wornAheadWith : ByteArray := prog_1_method_57_code
def yX2_wornAheadWith : MethodName := ⟨RX2, "wornAheadWith", "(I)I"⟩
def RX3 : String := "MourningRibbonsLaw$Sim"
def TX3 : u_T := fun k => match k with
  | 0 => ("MourningRibbonsLaw$Sim", "day", "I", false)
  | 1 => ("MourningRibbonsLaw$Sim", "worn", "I", false)
  | 2 => ("MourningRibbonsLaw$Sim", "people", "[[I", false)
  | 3 => ("MourningRibbonsLaw$Sim", "code", "[[[I", false)
  | _ => ("MourningRibbonsLaw$Sim", "mournings", "[[I", false)
def tyX3 : Nat → FieldType := fun k => match k with
  | 0 => .int
  | 1 => .int
  | 2 => .array (.array .int)
  | 3 => .array (.array (.array .int))
  | _ => .array (.array .int)
abbrev wsX30 : List Cond := u_ws RX3 TX3 5
theorem nmX3 : ∀ a, a < 5 → ∀ b, b < 5 → a ≠ b → (TX3 a).2.1 ≠ (TX3 b).2.1 := by decide +kernel
theorem tyX3_ok : ∀ k, k < 5 → parseFieldDescriptor (TX3 k).2.2.1 = some (tyX3 k) := by decide +kernel
abbrev cX3_init : ByteArray := prog_5_method_1_code
def yX3_init : MethodName := ⟨RX3, "<init>", "()V"⟩
abbrev cX3_more : ByteArray := prog_5_method_2_code
def yX3_more : MethodName := ⟨RX3, "more", "([[I[I)[[I"⟩
abbrev cX3_degrees : ByteArray := prog_5_method_3_code
def yX3_degrees : MethodName := ⟨RX3, "degrees", "()[[I"⟩
abbrev cX3_length : ByteArray := prog_5_method_4_code
def yX3_length : MethodName := ⟨RX3, "length", "(I)I"⟩
abbrev cX3_on : ByteArray := prog_5_method_5_code
def yX3_on : MethodName := ⟨RX3, "on", "([II)I"⟩
abbrev cX3_end : ByteArray := prog_5_method_6_code
def yX3_end : MethodName := ⟨RX3, "end", "([I)I"⟩
abbrev cX3_wears : ByteArray := prog_5_method_7_code
def yX3_wears : MethodName := ⟨RX3, "wears", "(II)I"⟩
abbrev cX3_left : ByteArray := prog_5_method_8_code
def yX3_left : MethodName := ⟨RX3, "left", "(II)I"⟩
abbrev cX3_brought : ByteArray := prog_5_method_9_code
def yX3_brought : MethodName := ⟨RX3, "brought", "(I)[[I"⟩
abbrev cX3_die : ByteArray := prog_5_method_10_code
def yX3_die : MethodName := ⟨RX3, "die", "(I)I"⟩
abbrev cX3_drop : ByteArray := prog_5_method_11_code
def yX3_drop : MethodName := ⟨RX3, "drop", "(II)V"⟩
abbrev cX3_inColour : ByteArray := prog_5_method_12_code
def yX3_inColour : MethodName := ⟨RX3, "inColour", "()I"⟩
abbrev cX3_pass : ByteArray := prog_5_method_13_code
def yX3_pass : MethodName := ⟨RX3, "pass", "(I)I"⟩
abbrev cX3_canMarry : ByteArray := prog_5_method_14_code
def yX3_canMarry : MethodName := ⟨RX3, "canMarry", "(I)Z"⟩
abbrev cX3_marry : ByteArray := prog_5_method_15_code
def yX3_marry : MethodName := ⟨RX3, "marry", "(II)V"⟩
abbrev cX3_isSame : ByteArray := prog_5_method_16_code
def yX3_isSame : MethodName := ⟨RX3, "isSame", "(LMourningRibbons;)Z"⟩
def RX4 : String := "MourningRibbonsModel"
def TX4 : u_T := fun k => match k with
  | _ => ("", "", "", false)
def tyX4 : Nat → FieldType := fun k => match k with
  | _ => .int
abbrev wsX40 : List Cond := u_ws RX4 TX4 0
theorem nmX4 : ∀ a, a < 0 → ∀ b, b < 0 → a ≠ b → (TX4 a).2.1 ≠ (TX4 b).2.1 := by decide +kernel
theorem tyX4_ok : ∀ k, k < 0 → parseFieldDescriptor (TX4 k).2.2.1 = some (tyX4 k) := by decide +kernel
def RJx145de : String := "java/io/Serializable"
def TJx145de : u_T := fun k => match k with
  | _ => ("", "", "", false)
def tyJx145de : Nat → FieldType := fun k => match k with
  | _ => .int
abbrev wsJx145de0 : List Cond := u_ws RJx145de TJx145de 0
theorem nmJx145de : ∀ a, a < 0 → ∀ b, b < 0 → a ≠ b → (TJx145de a).2.1 ≠ (TJx145de b).2.1 := by decide +kernel
theorem tyJx145de_ok : ∀ k, k < 0 → parseFieldDescriptor (TJx145de k).2.2.1 = some (tyJx145de k) := by decide +kernel
def RJ9 : String := "java/lang/Math"
def TJ9 : u_T := fun k => match k with
  | _ => ("", "", "", false)
def tyJ9 : Nat → FieldType := fun k => match k with
  | _ => .int
abbrev wsJ90 : List Cond := u_ws RJ9 TJ9 0
theorem nmJ9 : ∀ a, a < 0 → ∀ b, b < 0 → a ≠ b → (TJ9 a).2.1 ≠ (TJ9 b).2.1 := by decide +kernel
theorem tyJ9_ok : ∀ k, k < 0 → parseFieldDescriptor (TJ9 k).2.2.1 = some (tyJ9 k) := by decide +kernel
abbrev cJ9_max_7cf53 : ByteArray := prog_11_method_65_code
def yJ9_max_7cf53 : MethodName := ⟨RJ9, "max", "(II)I"⟩
abbrev cJ9_min_7cf53 : ByteArray := prog_11_method_69_code
def yJ9_min_7cf53 : MethodName := ⟨RJ9, "min", "(II)I"⟩
def RJ0 : String := "java/lang/String"
def TJ0 : u_T := fun k => match k with
  | _ => ("", "", "", false)
def tyJ0 : Nat → FieldType := fun k => match k with
  | _ => .int
abbrev wsJ00 : List Cond := u_ws RJ0 TJ0 0
theorem nmJ0 : ∀ a, a < 0 → ∀ b, b < 0 → a ≠ b → (TJ0 a).2.1 ≠ (TJ0 b).2.1 := by decide +kernel
theorem tyJ0_ok : ∀ k, k < 0 → parseFieldDescriptor (TJ0 k).2.2.1 = some (tyJ0 k) := by decide +kernel
def RJ10 : String := "java/lang/System"
def TJ10 : u_T := fun k => match k with
  | _ => ("", "", "", false)
def tyJ10 : Nat → FieldType := fun k => match k with
  | _ => .int
abbrev wsJ100 : List Cond := u_ws RJ10 TJ10 0
theorem nmJ10 : ∀ a, a < 0 → ∀ b, b < 0 → a ≠ b → (TJ10 a).2.1 ≠ (TJ10 b).2.1 := by decide +kernel
theorem tyJ10_ok : ∀ k, k < 0 → parseFieldDescriptor (TJ10 k).2.2.1 = some (tyJ10 k) := by decide +kernel
def RJ7 : String := "java/util/Arrays"
def TJ7 : u_T := fun k => match k with
  | _ => ("", "", "", false)
def tyJ7 : Nat → FieldType := fun k => match k with
  | _ => .int
abbrev wsJ70 : List Cond := u_ws RJ7 TJ7 0
theorem nmJ7 : ∀ a, a < 0 → ∀ b, b < 0 → a ≠ b → (TJ7 a).2.1 ≠ (TJ7 b).2.1 := by decide +kernel
theorem tyJ7_ok : ∀ k, k < 0 → parseFieldDescriptor (TJ7 k).2.2.1 = some (tyJ7 k) := by decide +kernel
abbrev cJ7_fill_53178 : ByteArray := prog_16_method_103_code
def yJ7_fill_53178 : MethodName := ⟨RJ7, "fill", "([II)V"⟩
def RL : String := "MourningRibbonsLaw"
abbrev cL_below : ByteArray := method_2_code
def yL_below : MethodName := ⟨RL, "below", "(II)I"⟩
abbrev cL_cell : ByteArray := method_3_code
def yL_cell : MethodName := ⟨RL, "cell", "([II)I"⟩
abbrev cL_act : ByteArray := method_4_code
def yL_act : MethodName := ⟨RL, "act", "(LMourningRibbons;LMourningRibbonsLaw$Sim;I)Z"⟩
abbrev cL_build : ByteArray := method_5_code
def yL_build : MethodName := ⟨RL, "build", "(LMourningRibbons;[I)LMourningRibbonsLaw$Sim;"⟩
abbrev cL_law : ByteArray := code
def yL_law : MethodName := ⟨RL, "law", "([I)Z"⟩
def wsX0_init : List Cond := .code yX0_init cX0_init 1 none :: ([.methodLink RX0 3 objectInit, .instanceMethod objectInit, .code objectInit ⟨#[0xb1]⟩ 1 none, .arrayClass .int, .fieldLink RX0 11 "MourningRibbons$Codes" "colours" "[I", .fieldLink RX0 15 "MourningRibbons$Codes" "days" "[I"] ++ wsX00)
def wsX0_place : List Cond := .code yX0_place cX0_place 3 (some .int) :: ([])
def wsX0_keepFor : List Cond := .code yX0_keepFor cX0_keepFor 4 none :: ([.fieldLink RX0 11 "MourningRibbons$Codes" "colours" "[I", .methodLink RX0 22 arraycopyName, .native arraycopyName, .static arraycopyName, .initialized "java/lang/System", .fieldLink RX0 15 "MourningRibbons$Codes" "days" "[I", .methodLink RX0 18 yX0_place, .static yX0_place, .initialized RX0, .code yX0_place cX0_place 3 (some .int)] ++ wsX00)
def wsX0_daysOfAll : List Cond := .code yX0_daysOfAll cX0_daysOfAll 5 (some .int) :: ([.fieldLink RX0 15 "MourningRibbons$Codes" "days" "[I", .methodLink RX0 18 yX0_place, .static yX0_place, .initialized RX0, .code yX0_place cX0_place 3 (some .int)] ++ wsX00)
def wsX0_colourOn : List Cond := .code yX0_colourOn cX0_colourOn 7 (some .int) :: ([.fieldLink RX0 15 "MourningRibbons$Codes" "days" "[I", .fieldLink RX0 11 "MourningRibbons$Codes" "colours" "[I", .methodLink RX0 18 yX0_place, .static yX0_place, .initialized RX0, .code yX0_place cX0_place 3 (some .int)] ++ wsX00)
def wsX1_init : List Cond := .code yX1_init cX1_init 1 none :: ([.methodLink RX1 3 objectInit, .instanceMethod objectInit, .code objectInit ⟨#[0xb1]⟩ 1 none, .arrayClass .int, .fieldLink RX1 9 "MourningRibbons$Family" "parent" "[I", .fieldLink RX1 15 "MourningRibbons$Family" "spouse" "[I", .arrayClass .boolean, .fieldLink RX1 18 "MourningRibbons$Family" "alive" "[Z", .fieldLink RX1 22 "MourningRibbons$Family" "degrees" "[I"] ++ wsX10)
def wsX1_isFull : List Cond := .code yX1_isFull cX1_isFull 1 (some .boolean) :: ([.fieldLink RX1 25 "MourningRibbons$Family" "count" "I"] ++ wsX10)
def wsX1_add : List Cond := .code yX1_add cX1_add 3 (some .int) :: ([.fieldLink RX1 25 "MourningRibbons$Family" "count" "I", .fieldLink RX1 9 "MourningRibbons$Family" "parent" "[I", .fieldLink RX1 15 "MourningRibbons$Family" "spouse" "[I", .fieldLink RX1 18 "MourningRibbons$Family" "alive" "[Z"] ++ wsX10)
def wsX1_livingCount : List Cond := .code yX1_livingCount cX1_livingCount 3 (some .int) :: ([.fieldLink RX1 25 "MourningRibbons$Family" "count" "I", .fieldLink RX1 18 "MourningRibbons$Family" "alive" "[Z"] ++ wsX10)
def wsX1_hasLivingSpouse : List Cond := .code yX1_hasLivingSpouse cX1_hasLivingSpouse 2 (some .boolean) :: ([.fieldLink RX1 15 "MourningRibbons$Family" "spouse" "[I", .fieldLink RX1 18 "MourningRibbons$Family" "alive" "[Z"] ++ wsX10)
def wsX1_leaveSpouse : List Cond := .code yX1_leaveSpouse cX1_leaveSpouse 2 none :: ([.fieldLink RX1 15 "MourningRibbons$Family" "spouse" "[I"] ++ wsX10)
def wsX1_wed : List Cond := .code yX1_wed cX1_wed 3 none :: ([.fieldLink RX1 15 "MourningRibbons$Family" "spouse" "[I", .methodLink RX1 29 yX1_leaveSpouse, .instanceMethod yX1_leaveSpouse, .selects RX1 yX1_leaveSpouse yX1_leaveSpouse, .initialized RX1, .code yX1_leaveSpouse cX1_leaveSpouse 2 none] ++ wsX10)
def wsJ7_fill_53178 : List Cond := .code yJ7_fill_53178 cJ7_fill_53178 4 none :: ([])
def wsX1_isStep : List Cond := .code yX1_isStep cX1_isStep 3 (some .boolean) :: ([.fieldLink RX1 9 "MourningRibbons$Family" "parent" "[I", .fieldLink RX1 15 "MourningRibbons$Family" "spouse" "[I"] ++ wsX10)
def wsX1_reachFrom : List Cond := .code yX1_reachFrom cX1_reachFrom 5 none :: ([.fieldLink RX1 25 "MourningRibbons$Family" "count" "I", .fieldLink RX1 22 "MourningRibbons$Family" "degrees" "[I", .methodLink RX1 43 yX1_isStep, .instanceMethod yX1_isStep, .selects RX1 yX1_isStep yX1_isStep, .initialized RX1, .code yX1_isStep cX1_isStep 3 (some .boolean), .fieldLink RX1 9 "MourningRibbons$Family" "parent" "[I", .fieldLink RX1 15 "MourningRibbons$Family" "spouse" "[I"] ++ wsX10)
def wsX1_findDegrees : List Cond := .code yX1_findDegrees cX1_findDegrees 4 none :: ([.fieldLink RX1 22 "MourningRibbons$Family" "degrees" "[I", .fieldLink RX1 25 "MourningRibbons$Family" "count" "I", .methodLink RX1 33 yJ7_fill_53178, .static yJ7_fill_53178, .initialized RJ7, .code yJ7_fill_53178 cJ7_fill_53178 4 none, .methodLink RX1 39 yX1_reachFrom, .instanceMethod yX1_reachFrom, .selects RX1 yX1_reachFrom yX1_reachFrom, .initialized RX1, .code yX1_reachFrom cX1_reachFrom 5 none, .methodLink RX1 43 yX1_isStep, .instanceMethod yX1_isStep, .selects RX1 yX1_isStep yX1_isStep, .code yX1_isStep cX1_isStep 3 (some .boolean), .fieldLink RX1 9 "MourningRibbons$Family" "parent" "[I", .fieldLink RX1 15 "MourningRibbons$Family" "spouse" "[I"] ++ wsX10)
def wsX1_countKin : List Cond := .code yX1_countKin cX1_countKin 4 (some .int) :: ([.fieldLink RX1 25 "MourningRibbons$Family" "count" "I", .fieldLink RX1 18 "MourningRibbons$Family" "alive" "[Z", .fieldLink RX1 22 "MourningRibbons$Family" "degrees" "[I"] ++ wsX10)
def wsX2_init_r1 : List Cond := [Cond.methodLink RX2 3 objectInit, Cond.instanceMethod objectInit, Cond.code objectInit ⟨#[0xb1]⟩ 1 none, Cond.classLink RX2 9 RX1, Cond.instantiable RX1 5, Cond.initialized RX1, Cond.fieldLink RX2 12 "MourningRibbons" "family" "LMourningRibbons$Family;", Cond.classLink RX2 16 RX0, Cond.instantiable RX0 2, Cond.initialized RX0, Cond.fieldLink RX2 19 "MourningRibbons" "codes" "LMourningRibbons$Codes;", Cond.arrayClass .int, Cond.fieldLink RX2 23 "MourningRibbons" "mournedBy" "[I", Cond.fieldLink RX2 27 "MourningRibbons" "deathDay" "[I", Cond.fieldLink RX2 30 "MourningRibbons" "ahead" "[I", Cond.fieldLink RX2 33 "MourningRibbons" "wornIfLost" "[I", Cond.fieldLink RX2 36 "MourningRibbons" "loss" "[I", Cond.instanceMethod yX1_init, Cond.code yX1_init cX1_init 1 none, Cond.methodLink RX1 3 objectInit, Cond.fieldLink RX1 9 "MourningRibbons$Family" "parent" "[I", Cond.fieldLink RX1 15 "MourningRibbons$Family" "spouse" "[I", Cond.arrayClass .boolean, Cond.fieldLink RX1 18 "MourningRibbons$Family" "alive" "[Z"]
def wsX2_init_r2 : List Cond := [Cond.fieldLink RX1 22 "MourningRibbons$Family" "degrees" "[I", Cond.instanceMethod yX0_init, Cond.code yX0_init cX0_init 1 none, Cond.methodLink RX0 3 objectInit, Cond.fieldLink RX0 11 "MourningRibbons$Codes" "colours" "[I", Cond.fieldLink RX0 15 "MourningRibbons$Codes" "days" "[I"]
def wsX2_init : List Cond := .code yX2_init cX2_init 1 none :: ((wsX2_init_r1 ++ wsX2_init_r2) ++ wsX10 ++ wsX20 ++ wsX00)
def wsX2_needRoom : List Cond := .code yX2_needRoom cX2_needRoom 1 none :: ([.classLink RX2 61 "java/lang/IllegalStateException", .initialized "java/lang/IllegalStateException", .fieldLink RX2 12 "MourningRibbons" "family" "LMourningRibbons$Family;", .methodLink RX2 260 yX1_isFull, .instanceMethod yX1_isFull, .selects RX1 yX1_isFull yX1_isFull, .initialized RX1, .code yX1_isFull cX1_isFull 1 (some .boolean), .fieldLink RX1 25 "MourningRibbons$Family" "count" "I"] ++ wsX20 ++ wsX10 ++ (vx_atS RX2 65 "java/lang/IllegalStateException" ["java/lang/RuntimeException", "java/lang/Exception"]).filter goodWord)
def wsX2_addPerson : List Cond := .code yX2_addPerson cX2_addPerson 1 (some .int) :: ([.fieldLink RX2 12 "MourningRibbons" "family" "LMourningRibbons$Family;", .methodLink RX2 39 yX2_needRoom, .instanceMethod yX2_needRoom, .selects RX2 yX2_needRoom yX2_needRoom, .initialized RX2, .code yX2_needRoom cX2_needRoom 1 none, .classLink RX2 61 "java/lang/IllegalStateException", .initialized "java/lang/IllegalStateException", .methodLink RX2 260 yX1_isFull, .instanceMethod yX1_isFull, .selects RX1 yX1_isFull yX1_isFull, .initialized RX1, .code yX1_isFull cX1_isFull 1 (some .boolean), .fieldLink RX1 25 "MourningRibbons$Family" "count" "I", .methodLink RX2 42 yX1_add, .instanceMethod yX1_add, .selects RX1 yX1_add yX1_add, .code yX1_add cX1_add 3 (some .int), .fieldLink RX1 9 "MourningRibbons$Family" "parent" "[I", .fieldLink RX1 15 "MourningRibbons$Family" "spouse" "[I", .fieldLink RX1 18 "MourningRibbons$Family" "alive" "[Z"] ++ wsX20 ++ wsX10 ++ (vx_atS RX2 65 "java/lang/IllegalStateException" ["java/lang/RuntimeException", "java/lang/Exception"]).filter goodWord)
def wsX2_needPerson : List Cond := .code yX2_needPerson cX2_needPerson 2 none :: ([.classLink RX2 173 "java/lang/IndexOutOfBoundsException", .initialized "java/lang/IndexOutOfBoundsException", .fieldLink RX2 12 "MourningRibbons" "family" "LMourningRibbons$Family;", .fieldLink RX2 128 "MourningRibbons$Family" "count" "I"] ++ wsX20 ++ wsX10 ++ (vx_atS RX2 177 "java/lang/IndexOutOfBoundsException" ["java/lang/RuntimeException", "java/lang/Exception"]).filter goodWord)
def wsX2_needAlive : List Cond := .code yX2_needAlive cX2_needAlive 2 none :: ([.classLink RX2 61 "java/lang/IllegalStateException", .initialized "java/lang/IllegalStateException", .fieldLink RX2 12 "MourningRibbons" "family" "LMourningRibbons$Family;", .fieldLink RX2 101 "MourningRibbons$Family" "alive" "[Z"] ++ wsX20 ++ wsX10 ++ (vx_atS RX2 65 "java/lang/IllegalStateException" ["java/lang/RuntimeException", "java/lang/Exception"]).filter goodWord)
def wsX2_addChild_r1 : List Cond := [Cond.fieldLink RX2 12 "MourningRibbons" "family" "LMourningRibbons$Family;", Cond.methodLink RX2 46 yX2_needPerson, Cond.instanceMethod yX2_needPerson, Cond.selects RX2 yX2_needPerson yX2_needPerson, Cond.initialized RX2, Cond.code yX2_needPerson cX2_needPerson 2 none, Cond.classLink RX2 173 "java/lang/IndexOutOfBoundsException", Cond.initialized "java/lang/IndexOutOfBoundsException", Cond.fieldLink RX2 128 "MourningRibbons$Family" "count" "I", Cond.methodLink RX2 50 yX2_needAlive, Cond.instanceMethod yX2_needAlive, Cond.selects RX2 yX2_needAlive yX2_needAlive, Cond.code yX2_needAlive cX2_needAlive 2 none, Cond.classLink RX2 61 "java/lang/IllegalStateException", Cond.initialized "java/lang/IllegalStateException", Cond.fieldLink RX2 101 "MourningRibbons$Family" "alive" "[Z", Cond.methodLink RX2 39 yX2_needRoom, Cond.instanceMethod yX2_needRoom, Cond.selects RX2 yX2_needRoom yX2_needRoom, Cond.code yX2_needRoom cX2_needRoom 1 none, Cond.methodLink RX2 260 yX1_isFull, Cond.instanceMethod yX1_isFull, Cond.selects RX1 yX1_isFull yX1_isFull, Cond.initialized RX1]
def wsX2_addChild_r2 : List Cond := [Cond.code yX1_isFull cX1_isFull 1 (some .boolean), Cond.fieldLink RX1 25 "MourningRibbons$Family" "count" "I", Cond.methodLink RX2 42 yX1_add, Cond.instanceMethod yX1_add, Cond.selects RX1 yX1_add yX1_add, Cond.code yX1_add cX1_add 3 (some .int), Cond.fieldLink RX1 9 "MourningRibbons$Family" "parent" "[I", Cond.fieldLink RX1 15 "MourningRibbons$Family" "spouse" "[I", Cond.fieldLink RX1 18 "MourningRibbons$Family" "alive" "[Z"]
def wsX2_addChild : List Cond := .code yX2_addChild cX2_addChild 2 (some .int) :: ((wsX2_addChild_r1 ++ wsX2_addChild_r2) ++ wsX20 ++ wsX10 ++ (vx_atS RX2 177 "java/lang/IndexOutOfBoundsException" ["java/lang/RuntimeException", "java/lang/Exception"]).filter goodWord ++ (vx_atS RX2 65 "java/lang/IllegalStateException" ["java/lang/RuntimeException", "java/lang/Exception"]).filter goodWord)
def wsX2_needTwo : List Cond := .code yX2_needTwo cX2_needTwo 3 none :: ([.classLink RX2 80 "java/lang/IllegalArgumentException", .initialized "java/lang/IllegalArgumentException"] ++ (vx_atS RX2 84 "java/lang/IllegalArgumentException" ["java/lang/RuntimeException", "java/lang/Exception"]).filter goodWord)
def wsX2_marry_r1 : List Cond := [Cond.classLink RX2 61 "java/lang/IllegalStateException", Cond.initialized "java/lang/IllegalStateException", Cond.fieldLink RX2 12 "MourningRibbons" "family" "LMourningRibbons$Family;", Cond.fieldLink RX2 71 "MourningRibbons$Family" "degrees" "[I", Cond.methodLink RX2 46 yX2_needPerson, Cond.instanceMethod yX2_needPerson, Cond.selects RX2 yX2_needPerson yX2_needPerson, Cond.initialized RX2, Cond.code yX2_needPerson cX2_needPerson 2 none, Cond.classLink RX2 173 "java/lang/IndexOutOfBoundsException", Cond.initialized "java/lang/IndexOutOfBoundsException", Cond.fieldLink RX2 128 "MourningRibbons$Family" "count" "I", Cond.methodLink RX2 53 yX2_needTwo, Cond.instanceMethod yX2_needTwo, Cond.selects RX2 yX2_needTwo yX2_needTwo, Cond.code yX2_needTwo cX2_needTwo 3 none, Cond.classLink RX2 80 "java/lang/IllegalArgumentException", Cond.initialized "java/lang/IllegalArgumentException", Cond.methodLink RX2 50 yX2_needAlive, Cond.instanceMethod yX2_needAlive, Cond.selects RX2 yX2_needAlive yX2_needAlive, Cond.code yX2_needAlive cX2_needAlive 2 none, Cond.fieldLink RX2 101 "MourningRibbons$Family" "alive" "[Z", Cond.methodLink RX2 57 yX1_hasLivingSpouse]
def wsX2_marry_r2 : List Cond := [Cond.instanceMethod yX1_hasLivingSpouse, Cond.selects RX1 yX1_hasLivingSpouse yX1_hasLivingSpouse, Cond.initialized RX1, Cond.code yX1_hasLivingSpouse cX1_hasLivingSpouse 2 (some .boolean), Cond.fieldLink RX1 15 "MourningRibbons$Family" "spouse" "[I", Cond.fieldLink RX1 18 "MourningRibbons$Family" "alive" "[Z", Cond.methodLink RX2 68 yX1_findDegrees, Cond.instanceMethod yX1_findDegrees, Cond.selects RX1 yX1_findDegrees yX1_findDegrees, Cond.code yX1_findDegrees cX1_findDegrees 4 none, Cond.fieldLink RX1 22 "MourningRibbons$Family" "degrees" "[I", Cond.fieldLink RX1 25 "MourningRibbons$Family" "count" "I", Cond.methodLink RX1 33 yJ7_fill_53178, Cond.static yJ7_fill_53178, Cond.initialized RJ7, Cond.code yJ7_fill_53178 cJ7_fill_53178 4 none, Cond.methodLink RX1 39 yX1_reachFrom, Cond.instanceMethod yX1_reachFrom, Cond.selects RX1 yX1_reachFrom yX1_reachFrom, Cond.code yX1_reachFrom cX1_reachFrom 5 none, Cond.methodLink RX1 43 yX1_isStep, Cond.instanceMethod yX1_isStep, Cond.selects RX1 yX1_isStep yX1_isStep, Cond.code yX1_isStep cX1_isStep 3 (some .boolean)]
def wsX2_marry_r3 : List Cond := [Cond.fieldLink RX1 9 "MourningRibbons$Family" "parent" "[I", Cond.methodLink RX2 74 yX1_wed, Cond.instanceMethod yX1_wed, Cond.selects RX1 yX1_wed yX1_wed, Cond.code yX1_wed cX1_wed 3 none, Cond.methodLink RX1 29 yX1_leaveSpouse, Cond.instanceMethod yX1_leaveSpouse, Cond.selects RX1 yX1_leaveSpouse yX1_leaveSpouse, Cond.code yX1_leaveSpouse cX1_leaveSpouse 2 none]
def wsX2_marry : List Cond := .code yX2_marry cX2_marry 4 (some .int) :: ((wsX2_marry_r1 ++ (wsX2_marry_r2 ++ wsX2_marry_r3)) ++ wsX20 ++ wsX10 ++ (vx_atS RX2 65 "java/lang/IllegalStateException" ["java/lang/RuntimeException", "java/lang/Exception"]).filter goodWord ++ (vx_atS RX2 177 "java/lang/IndexOutOfBoundsException" ["java/lang/RuntimeException", "java/lang/Exception"]).filter goodWord ++ (vx_atS RX2 84 "java/lang/IllegalArgumentException" ["java/lang/RuntimeException", "java/lang/Exception"]).filter goodWord)
def wsX2_needDegree : List Cond := .code yX2_needDegree cX2_needDegree 2 none :: ([.classLink RX2 173 "java/lang/IndexOutOfBoundsException", .initialized "java/lang/IndexOutOfBoundsException"] ++ (vx_atS RX2 177 "java/lang/IndexOutOfBoundsException" ["java/lang/RuntimeException", "java/lang/Exception"]).filter goodWord)
def wsX2_needStage : List Cond := .code yX2_needStage cX2_needStage 3 none :: ([.classLink RX2 173 "java/lang/IndexOutOfBoundsException", .initialized "java/lang/IndexOutOfBoundsException", .methodLink RX2 153 yX2_needDegree, .instanceMethod yX2_needDegree, .selects RX2 yX2_needDegree yX2_needDegree, .initialized RX2, .code yX2_needDegree cX2_needDegree 2 none] ++ (vx_atS RX2 177 "java/lang/IndexOutOfBoundsException" ["java/lang/RuntimeException", "java/lang/Exception"]).filter goodWord)
def wsX2_setStage_r1 : List Cond := [Cond.classLink RX2 80 "java/lang/IllegalArgumentException", Cond.initialized "java/lang/IllegalArgumentException", Cond.fieldLink RX2 19 "MourningRibbons" "codes" "LMourningRibbons$Codes;", Cond.fieldLink RX2 91 "MourningRibbons$Codes" "colours" "[I", Cond.fieldLink RX2 94 "MourningRibbons$Codes" "days" "[I", Cond.methodLink RX2 77 yX2_needStage, Cond.instanceMethod yX2_needStage, Cond.selects RX2 yX2_needStage yX2_needStage, Cond.initialized RX2, Cond.code yX2_needStage cX2_needStage 3 none, Cond.classLink RX2 173 "java/lang/IndexOutOfBoundsException", Cond.initialized "java/lang/IndexOutOfBoundsException", Cond.methodLink RX2 153 yX2_needDegree, Cond.instanceMethod yX2_needDegree, Cond.selects RX2 yX2_needDegree yX2_needDegree, Cond.code yX2_needDegree cX2_needDegree 2 none, Cond.methodLink RX2 87 yX0_place, Cond.static yX0_place, Cond.initialized RX0, Cond.code yX0_place cX0_place 3 (some .int), Cond.methodLink RX2 97 yX0_daysOfAll, Cond.instanceMethod yX0_daysOfAll, Cond.selects RX0 yX0_daysOfAll yX0_daysOfAll, Cond.code yX0_daysOfAll cX0_daysOfAll 5 (some .int)]
def wsX2_setStage_r2 : List Cond := [Cond.fieldLink RX0 15 "MourningRibbons$Codes" "days" "[I", Cond.methodLink RX0 18 yX0_place]
def wsX2_setStage : List Cond := .code yX2_setStage cX2_setStage 6 (some .int) :: ((wsX2_setStage_r1 ++ wsX2_setStage_r2) ++ wsX20 ++ wsX00 ++ (vx_atS RX2 84 "java/lang/IllegalArgumentException" ["java/lang/RuntimeException", "java/lang/Exception"]).filter goodWord ++ (vx_atS RX2 177 "java/lang/IndexOutOfBoundsException" ["java/lang/RuntimeException", "java/lang/Exception"]).filter goodWord)
def wsX2_pair : List Cond := .code yX2_pair cX2_pair 2 (some .int) :: ([])
def wsX2_endMourningsOf : List Cond := .code yX2_endMourningsOf cX2_endMourningsOf 3 none :: ([.fieldLink RX2 23 "MourningRibbons" "mournedBy" "[I", .methodLink RX2 123 yX2_pair, .static yX2_pair, .initialized RX2, .code yX2_pair cX2_pair 2 (some .int)] ++ wsX20)
def wsX2_wouldBegin : List Cond := .code yX2_wouldBegin cX2_wouldBegin 2 (some .boolean) :: ([.fieldLink RX2 12 "MourningRibbons" "family" "LMourningRibbons$Family;", .fieldLink RX2 101 "MourningRibbons$Family" "alive" "[Z", .fieldLink RX2 19 "MourningRibbons" "codes" "LMourningRibbons$Codes;", .fieldLink RX2 71 "MourningRibbons$Family" "degrees" "[I", .methodLink RX2 97 yX0_daysOfAll, .instanceMethod yX0_daysOfAll, .selects RX0 yX0_daysOfAll yX0_daysOfAll, .initialized RX0, .code yX0_daysOfAll cX0_daysOfAll 5 (some .int), .fieldLink RX0 15 "MourningRibbons$Codes" "days" "[I", .methodLink RX0 18 yX0_place, .static yX0_place, .code yX0_place cX0_place 3 (some .int)] ++ wsX20 ++ wsX10 ++ wsX00)
def wsX2_beginMourningsFor_r1 : List Cond := [Cond.fieldLink RX2 12 "MourningRibbons" "family" "LMourningRibbons$Family;", Cond.fieldLink RX2 128 "MourningRibbons$Family" "count" "I", Cond.fieldLink RX2 23 "MourningRibbons" "mournedBy" "[I", Cond.fieldLink RX2 71 "MourningRibbons$Family" "degrees" "[I", Cond.methodLink RX2 68 yX1_findDegrees, Cond.instanceMethod yX1_findDegrees, Cond.selects RX1 yX1_findDegrees yX1_findDegrees, Cond.initialized RX1, Cond.code yX1_findDegrees cX1_findDegrees 4 none, Cond.fieldLink RX1 22 "MourningRibbons$Family" "degrees" "[I", Cond.fieldLink RX1 25 "MourningRibbons$Family" "count" "I", Cond.methodLink RX1 33 yJ7_fill_53178, Cond.static yJ7_fill_53178, Cond.initialized RJ7, Cond.code yJ7_fill_53178 cJ7_fill_53178 4 none, Cond.methodLink RX1 39 yX1_reachFrom, Cond.instanceMethod yX1_reachFrom, Cond.selects RX1 yX1_reachFrom yX1_reachFrom, Cond.code yX1_reachFrom cX1_reachFrom 5 none, Cond.methodLink RX1 43 yX1_isStep, Cond.instanceMethod yX1_isStep, Cond.selects RX1 yX1_isStep yX1_isStep, Cond.code yX1_isStep cX1_isStep 3 (some .boolean), Cond.fieldLink RX1 9 "MourningRibbons$Family" "parent" "[I"]
def wsX2_beginMourningsFor_r2 : List Cond := [Cond.fieldLink RX1 15 "MourningRibbons$Family" "spouse" "[I", Cond.methodLink RX2 186 yX2_wouldBegin, Cond.instanceMethod yX2_wouldBegin, Cond.selects RX2 yX2_wouldBegin yX2_wouldBegin, Cond.initialized RX2, Cond.code yX2_wouldBegin cX2_wouldBegin 2 (some .boolean), Cond.fieldLink RX2 101 "MourningRibbons$Family" "alive" "[Z", Cond.fieldLink RX2 19 "MourningRibbons" "codes" "LMourningRibbons$Codes;", Cond.methodLink RX2 97 yX0_daysOfAll, Cond.instanceMethod yX0_daysOfAll, Cond.selects RX0 yX0_daysOfAll yX0_daysOfAll, Cond.initialized RX0, Cond.code yX0_daysOfAll cX0_daysOfAll 5 (some .int), Cond.fieldLink RX0 15 "MourningRibbons$Codes" "days" "[I", Cond.methodLink RX0 18 yX0_place, Cond.static yX0_place, Cond.code yX0_place cX0_place 3 (some .int), Cond.methodLink RX2 123 yX2_pair, Cond.static yX2_pair, Cond.code yX2_pair cX2_pair 2 (some .int)]
def wsX2_beginMourningsFor : List Cond := .code yX2_beginMourningsFor cX2_beginMourningsFor 4 (some .int) :: ((wsX2_beginMourningsFor_r1 ++ wsX2_beginMourningsFor_r2) ++ wsX20 ++ wsX10 ++ wsX00)
def wsX2_die_r1 : List Cond := [Cond.fieldLink RX2 12 "MourningRibbons" "family" "LMourningRibbons$Family;", Cond.fieldLink RX2 101 "MourningRibbons$Family" "alive" "[Z", Cond.fieldLink RX2 27 "MourningRibbons" "deathDay" "[I", Cond.fieldLink RX2 105 "MourningRibbons" "today" "I", Cond.fieldLink RX2 19 "MourningRibbons" "codes" "LMourningRibbons$Codes;", Cond.methodLink RX2 46 yX2_needPerson, Cond.instanceMethod yX2_needPerson, Cond.selects RX2 yX2_needPerson yX2_needPerson, Cond.initialized RX2, Cond.code yX2_needPerson cX2_needPerson 2 none, Cond.classLink RX2 173 "java/lang/IndexOutOfBoundsException", Cond.initialized "java/lang/IndexOutOfBoundsException", Cond.fieldLink RX2 128 "MourningRibbons$Family" "count" "I", Cond.methodLink RX2 50 yX2_needAlive, Cond.instanceMethod yX2_needAlive, Cond.selects RX2 yX2_needAlive yX2_needAlive, Cond.code yX2_needAlive cX2_needAlive 2 none, Cond.classLink RX2 61 "java/lang/IllegalStateException", Cond.initialized "java/lang/IllegalStateException", Cond.methodLink RX2 109 yX0_keepFor, Cond.instanceMethod yX0_keepFor, Cond.selects RX0 yX0_keepFor yX0_keepFor, Cond.initialized RX0, Cond.code yX0_keepFor cX0_keepFor 4 none]
def wsX2_die_r2 : List Cond := [Cond.fieldLink RX0 11 "MourningRibbons$Codes" "colours" "[I", Cond.methodLink RX0 22 arraycopyName, Cond.native arraycopyName, Cond.static arraycopyName, Cond.initialized "java/lang/System", Cond.fieldLink RX0 15 "MourningRibbons$Codes" "days" "[I", Cond.methodLink RX0 18 yX0_place, Cond.static yX0_place, Cond.code yX0_place cX0_place 3 (some .int), Cond.methodLink RX2 112 yX2_endMourningsOf, Cond.instanceMethod yX2_endMourningsOf, Cond.selects RX2 yX2_endMourningsOf yX2_endMourningsOf, Cond.code yX2_endMourningsOf cX2_endMourningsOf 3 none, Cond.fieldLink RX2 23 "MourningRibbons" "mournedBy" "[I", Cond.methodLink RX2 123 yX2_pair, Cond.static yX2_pair, Cond.code yX2_pair cX2_pair 2 (some .int), Cond.methodLink RX2 115 yX2_beginMourningsFor, Cond.instanceMethod yX2_beginMourningsFor, Cond.selects RX2 yX2_beginMourningsFor yX2_beginMourningsFor, Cond.code yX2_beginMourningsFor cX2_beginMourningsFor 4 (some .int), Cond.fieldLink RX2 71 "MourningRibbons$Family" "degrees" "[I", Cond.methodLink RX2 68 yX1_findDegrees, Cond.instanceMethod yX1_findDegrees]
def wsX2_die_r3 : List Cond := [Cond.selects RX1 yX1_findDegrees yX1_findDegrees, Cond.initialized RX1, Cond.code yX1_findDegrees cX1_findDegrees 4 none, Cond.fieldLink RX1 22 "MourningRibbons$Family" "degrees" "[I", Cond.fieldLink RX1 25 "MourningRibbons$Family" "count" "I", Cond.methodLink RX1 33 yJ7_fill_53178, Cond.static yJ7_fill_53178, Cond.initialized RJ7, Cond.code yJ7_fill_53178 cJ7_fill_53178 4 none, Cond.methodLink RX1 39 yX1_reachFrom, Cond.instanceMethod yX1_reachFrom, Cond.selects RX1 yX1_reachFrom yX1_reachFrom, Cond.code yX1_reachFrom cX1_reachFrom 5 none, Cond.methodLink RX1 43 yX1_isStep, Cond.instanceMethod yX1_isStep, Cond.selects RX1 yX1_isStep yX1_isStep, Cond.code yX1_isStep cX1_isStep 3 (some .boolean), Cond.fieldLink RX1 9 "MourningRibbons$Family" "parent" "[I", Cond.fieldLink RX1 15 "MourningRibbons$Family" "spouse" "[I", Cond.methodLink RX2 186 yX2_wouldBegin, Cond.instanceMethod yX2_wouldBegin, Cond.selects RX2 yX2_wouldBegin yX2_wouldBegin, Cond.code yX2_wouldBegin cX2_wouldBegin 2 (some .boolean), Cond.methodLink RX2 97 yX0_daysOfAll]
def wsX2_die_r4 : List Cond := [Cond.instanceMethod yX0_daysOfAll, Cond.selects RX0 yX0_daysOfAll yX0_daysOfAll, Cond.code yX0_daysOfAll cX0_daysOfAll 5 (some .int)]
def wsX2_die : List Cond := .code yX2_die cX2_die 2 (some .int) :: ((wsX2_die_r1 ++ (wsX2_die_r2 ++ (wsX2_die_r3 ++ wsX2_die_r4))) ++ wsX20 ++ wsX10 ++ wsX00 ++ (vx_atS RX2 177 "java/lang/IndexOutOfBoundsException" ["java/lang/RuntimeException", "java/lang/Exception"]).filter goodWord ++ (vx_atS RX2 65 "java/lang/IllegalStateException" ["java/lang/RuntimeException", "java/lang/Exception"]).filter goodWord)
def wsX2_leftFor : List Cond := .code yX2_leftFor cX2_leftFor 4 (some .int) :: ([.fieldLink RX2 19 "MourningRibbons" "codes" "LMourningRibbons$Codes;", .fieldLink RX2 23 "MourningRibbons" "mournedBy" "[I", .fieldLink RX2 105 "MourningRibbons" "today" "I", .fieldLink RX2 27 "MourningRibbons" "deathDay" "[I", .methodLink RX2 181 Lib.Math.max.name, .static Lib.Math.max.name, .initialized "java/lang/Math", .code Lib.Math.max.name Lib.Math.max.code 2 (some .int), .methodLink RX2 123 yX2_pair, .static yX2_pair, .initialized RX2, .code yX2_pair cX2_pair 2 (some .int), .methodLink RX2 97 yX0_daysOfAll, .instanceMethod yX0_daysOfAll, .selects RX0 yX0_daysOfAll yX0_daysOfAll, .initialized RX0, .code yX0_daysOfAll cX0_daysOfAll 5 (some .int), .fieldLink RX0 15 "MourningRibbons$Codes" "days" "[I", .methodLink RX0 18 yX0_place, .static yX0_place, .code yX0_place cX0_place 3 (some .int)] ++ wsX20 ++ wsX00)
def wsX2_release_r1 : List Cond := [Cond.classLink RX2 61 "java/lang/IllegalStateException", Cond.initialized "java/lang/IllegalStateException", Cond.fieldLink RX2 23 "MourningRibbons" "mournedBy" "[I", Cond.methodLink RX2 46 yX2_needPerson, Cond.instanceMethod yX2_needPerson, Cond.selects RX2 yX2_needPerson yX2_needPerson, Cond.initialized RX2, Cond.code yX2_needPerson cX2_needPerson 2 none, Cond.classLink RX2 173 "java/lang/IndexOutOfBoundsException", Cond.initialized "java/lang/IndexOutOfBoundsException", Cond.fieldLink RX2 12 "MourningRibbons" "family" "LMourningRibbons$Family;", Cond.fieldLink RX2 128 "MourningRibbons$Family" "count" "I", Cond.methodLink RX2 118 yX2_leftFor, Cond.instanceMethod yX2_leftFor, Cond.selects RX2 yX2_leftFor yX2_leftFor, Cond.code yX2_leftFor cX2_leftFor 4 (some .int), Cond.fieldLink RX2 19 "MourningRibbons" "codes" "LMourningRibbons$Codes;", Cond.fieldLink RX2 105 "MourningRibbons" "today" "I", Cond.fieldLink RX2 27 "MourningRibbons" "deathDay" "[I", Cond.methodLink RX2 181 Lib.Math.max.name, Cond.static Lib.Math.max.name, Cond.initialized "java/lang/Math", Cond.code Lib.Math.max.name Lib.Math.max.code 2 (some .int), Cond.methodLink RX2 123 yX2_pair]
def wsX2_release_r2 : List Cond := [Cond.static yX2_pair, Cond.code yX2_pair cX2_pair 2 (some .int), Cond.methodLink RX2 97 yX0_daysOfAll, Cond.instanceMethod yX0_daysOfAll, Cond.selects RX0 yX0_daysOfAll yX0_daysOfAll, Cond.initialized RX0, Cond.code yX0_daysOfAll cX0_daysOfAll 5 (some .int), Cond.fieldLink RX0 15 "MourningRibbons$Codes" "days" "[I", Cond.methodLink RX0 18 yX0_place, Cond.static yX0_place, Cond.code yX0_place cX0_place 3 (some .int)]
def wsX2_release : List Cond := .code yX2_release cX2_release 4 (some .int) :: ((wsX2_release_r1 ++ wsX2_release_r2) ++ wsX20 ++ wsX10 ++ wsX00 ++ (vx_atS RX2 65 "java/lang/IllegalStateException" ["java/lang/RuntimeException", "java/lang/Exception"]).filter goodWord ++ (vx_atS RX2 177 "java/lang/IndexOutOfBoundsException" ["java/lang/RuntimeException", "java/lang/Exception"]).filter goodWord)
def wsX2_paintAhead_r1 : List Cond := [Cond.fieldLink RX2 30 "MourningRibbons" "ahead" "[I", Cond.fieldLink RX2 12 "MourningRibbons" "family" "LMourningRibbons$Family;", Cond.fieldLink RX2 128 "MourningRibbons$Family" "count" "I", Cond.fieldLink RX2 23 "MourningRibbons" "mournedBy" "[I", Cond.fieldLink RX2 105 "MourningRibbons" "today" "I", Cond.fieldLink RX2 27 "MourningRibbons" "deathDay" "[I", Cond.methodLink RX2 274 Lib.Math.min.name, Cond.static Lib.Math.min.name, Cond.initialized "java/lang/Math", Cond.code Lib.Math.min.name Lib.Math.min.code 2 (some .int), Cond.fieldLink RX2 19 "MourningRibbons" "codes" "LMourningRibbons$Codes;", Cond.methodLink RX2 181 Lib.Math.max.name, Cond.static Lib.Math.max.name, Cond.code Lib.Math.max.name Lib.Math.max.code 2 (some .int), Cond.methodLink RX2 192 yJ7_fill_53178, Cond.static yJ7_fill_53178, Cond.initialized RJ7, Cond.code yJ7_fill_53178 cJ7_fill_53178 4 none, Cond.methodLink RX2 123 yX2_pair, Cond.static yX2_pair, Cond.initialized RX2, Cond.code yX2_pair cX2_pair 2 (some .int), Cond.methodLink RX2 118 yX2_leftFor, Cond.instanceMethod yX2_leftFor]
def wsX2_paintAhead_r2 : List Cond := [Cond.selects RX2 yX2_leftFor yX2_leftFor, Cond.code yX2_leftFor cX2_leftFor 4 (some .int), Cond.methodLink RX2 97 yX0_daysOfAll, Cond.instanceMethod yX0_daysOfAll, Cond.selects RX0 yX0_daysOfAll yX0_daysOfAll, Cond.initialized RX0, Cond.code yX0_daysOfAll cX0_daysOfAll 5 (some .int), Cond.fieldLink RX0 15 "MourningRibbons$Codes" "days" "[I", Cond.methodLink RX0 18 yX0_place, Cond.static yX0_place, Cond.code yX0_place cX0_place 3 (some .int), Cond.methodLink RX2 189 yX0_colourOn, Cond.instanceMethod yX0_colourOn, Cond.selects RX0 yX0_colourOn yX0_colourOn, Cond.code yX0_colourOn cX0_colourOn 7 (some .int), Cond.fieldLink RX0 11 "MourningRibbons$Codes" "colours" "[I"]
def wsX2_paintAhead : List Cond := .code yX2_paintAhead cX2_paintAhead 7 none :: ((wsX2_paintAhead_r1 ++ wsX2_paintAhead_r2) ++ wsX20 ++ wsX10 ++ wsX00)
def wsX2_wornAhead : List Cond := .code yX2_wornAhead cX2_wornAhead 4 (some .int) :: ([.fieldLink RX2 30 "MourningRibbons" "ahead" "[I"] ++ wsX20)
def wsX2_colourAfter : List Cond := .code yX2_colourAfter cX2_colourAfter 6 (some .int) :: ([.fieldLink RX2 12 "MourningRibbons" "family" "LMourningRibbons$Family;", .fieldLink RX2 128 "MourningRibbons$Family" "count" "I", .fieldLink RX2 105 "MourningRibbons" "today" "I", .fieldLink RX2 27 "MourningRibbons" "deathDay" "[I", .fieldLink RX2 19 "MourningRibbons" "codes" "LMourningRibbons$Codes;", .fieldLink RX2 23 "MourningRibbons" "mournedBy" "[I", .methodLink RX2 181 Lib.Math.max.name, .static Lib.Math.max.name, .initialized "java/lang/Math", .code Lib.Math.max.name Lib.Math.max.code 2 (some .int), .methodLink RX2 123 yX2_pair, .static yX2_pair, .initialized RX2, .code yX2_pair cX2_pair 2 (some .int), .methodLink RX2 189 yX0_colourOn, .instanceMethod yX0_colourOn, .selects RX0 yX0_colourOn yX0_colourOn, .initialized RX0, .code yX0_colourOn cX0_colourOn 7 (some .int), .fieldLink RX0 15 "MourningRibbons$Codes" "days" "[I", .fieldLink RX0 11 "MourningRibbons$Codes" "colours" "[I", .methodLink RX0 18 yX0_place, .static yX0_place, .code yX0_place cX0_place 3 (some .int)] ++ wsX20 ++ wsX10 ++ wsX00)
def wsX2_countWearing_r1 : List Cond := [Cond.fieldLink RX2 12 "MourningRibbons" "family" "LMourningRibbons$Family;", Cond.fieldLink RX2 128 "MourningRibbons$Family" "count" "I", Cond.fieldLink RX2 101 "MourningRibbons$Family" "alive" "[Z", Cond.methodLink RX2 159 yX2_colourAfter, Cond.instanceMethod yX2_colourAfter, Cond.selects RX2 yX2_colourAfter yX2_colourAfter, Cond.initialized RX2, Cond.code yX2_colourAfter cX2_colourAfter 6 (some .int), Cond.fieldLink RX2 105 "MourningRibbons" "today" "I", Cond.fieldLink RX2 27 "MourningRibbons" "deathDay" "[I", Cond.fieldLink RX2 19 "MourningRibbons" "codes" "LMourningRibbons$Codes;", Cond.fieldLink RX2 23 "MourningRibbons" "mournedBy" "[I", Cond.methodLink RX2 181 Lib.Math.max.name, Cond.static Lib.Math.max.name, Cond.initialized "java/lang/Math", Cond.code Lib.Math.max.name Lib.Math.max.code 2 (some .int), Cond.methodLink RX2 123 yX2_pair, Cond.static yX2_pair, Cond.code yX2_pair cX2_pair 2 (some .int), Cond.methodLink RX2 189 yX0_colourOn, Cond.instanceMethod yX0_colourOn, Cond.selects RX0 yX0_colourOn yX0_colourOn, Cond.initialized RX0, Cond.code yX0_colourOn cX0_colourOn 7 (some .int)]
def wsX2_countWearing_r2 : List Cond := [Cond.fieldLink RX0 15 "MourningRibbons$Codes" "days" "[I", Cond.fieldLink RX0 11 "MourningRibbons$Codes" "colours" "[I", Cond.methodLink RX0 18 yX0_place, Cond.static yX0_place, Cond.code yX0_place cX0_place 3 (some .int)]
def wsX2_countWearing : List Cond := .code yX2_countWearing cX2_countWearing 4 (some .int) :: ((wsX2_countWearing_r1 ++ wsX2_countWearing_r2) ++ wsX20 ++ wsX10 ++ wsX00)
def wsX2_pass_r1 : List Cond := [Cond.classLink RX2 80 "java/lang/IllegalArgumentException", Cond.initialized "java/lang/IllegalArgumentException", Cond.fieldLink RX2 12 "MourningRibbons" "family" "LMourningRibbons$Family;", Cond.fieldLink RX2 128 "MourningRibbons$Family" "count" "I", Cond.fieldLink RX2 134 "MourningRibbons" "wornSoFar" "I", Cond.fieldLink RX2 105 "MourningRibbons" "today" "I", Cond.methodLink RX2 131 yX2_paintAhead, Cond.instanceMethod yX2_paintAhead, Cond.selects RX2 yX2_paintAhead yX2_paintAhead, Cond.initialized RX2, Cond.code yX2_paintAhead cX2_paintAhead 7 none, Cond.fieldLink RX2 30 "MourningRibbons" "ahead" "[I", Cond.fieldLink RX2 23 "MourningRibbons" "mournedBy" "[I", Cond.fieldLink RX2 27 "MourningRibbons" "deathDay" "[I", Cond.methodLink RX2 274 Lib.Math.min.name, Cond.static Lib.Math.min.name, Cond.initialized "java/lang/Math", Cond.code Lib.Math.min.name Lib.Math.min.code 2 (some .int), Cond.fieldLink RX2 19 "MourningRibbons" "codes" "LMourningRibbons$Codes;", Cond.methodLink RX2 181 Lib.Math.max.name, Cond.static Lib.Math.max.name, Cond.code Lib.Math.max.name Lib.Math.max.code 2 (some .int), Cond.methodLink RX2 192 yJ7_fill_53178, Cond.static yJ7_fill_53178]
def wsX2_pass_r2 : List Cond := [Cond.initialized RJ7, Cond.code yJ7_fill_53178 cJ7_fill_53178 4 none, Cond.methodLink RX2 123 yX2_pair, Cond.static yX2_pair, Cond.code yX2_pair cX2_pair 2 (some .int), Cond.methodLink RX2 118 yX2_leftFor, Cond.instanceMethod yX2_leftFor, Cond.selects RX2 yX2_leftFor yX2_leftFor, Cond.code yX2_leftFor cX2_leftFor 4 (some .int), Cond.methodLink RX2 97 yX0_daysOfAll, Cond.instanceMethod yX0_daysOfAll, Cond.selects RX0 yX0_daysOfAll yX0_daysOfAll, Cond.initialized RX0, Cond.code yX0_daysOfAll cX0_daysOfAll 5 (some .int), Cond.fieldLink RX0 15 "MourningRibbons$Codes" "days" "[I", Cond.methodLink RX0 18 yX0_place, Cond.static yX0_place, Cond.code yX0_place cX0_place 3 (some .int), Cond.methodLink RX2 189 yX0_colourOn, Cond.instanceMethod yX0_colourOn, Cond.selects RX0 yX0_colourOn yX0_colourOn, Cond.code yX0_colourOn cX0_colourOn 7 (some .int), Cond.fieldLink RX0 11 "MourningRibbons$Codes" "colours" "[I", Cond.methodLink RX2 137 yX2_wornAhead]
def wsX2_pass_r3 : List Cond := [Cond.instanceMethod yX2_wornAhead, Cond.selects RX2 yX2_wornAhead yX2_wornAhead, Cond.code yX2_wornAhead cX2_wornAhead 4 (some .int), Cond.methodLink RX2 140 yX1_livingCount, Cond.instanceMethod yX1_livingCount, Cond.selects RX1 yX1_livingCount yX1_livingCount, Cond.initialized RX1, Cond.code yX1_livingCount cX1_livingCount 3 (some .int), Cond.fieldLink RX1 25 "MourningRibbons$Family" "count" "I", Cond.fieldLink RX1 18 "MourningRibbons$Family" "alive" "[Z", Cond.methodLink RX2 144 yX2_countWearing, Cond.instanceMethod yX2_countWearing, Cond.selects RX2 yX2_countWearing yX2_countWearing, Cond.code yX2_countWearing cX2_countWearing 4 (some .int), Cond.fieldLink RX2 101 "MourningRibbons$Family" "alive" "[Z", Cond.methodLink RX2 159 yX2_colourAfter, Cond.instanceMethod yX2_colourAfter, Cond.selects RX2 yX2_colourAfter yX2_colourAfter, Cond.code yX2_colourAfter cX2_colourAfter 6 (some .int)]
def wsX2_pass : List Cond := .code yX2_pass cX2_pass 3 (some .int) :: ((wsX2_pass_r1 ++ (wsX2_pass_r2 ++ wsX2_pass_r3)) ++ wsX20 ++ wsX10 ++ wsX00 ++ (vx_atS RX2 84 "java/lang/IllegalArgumentException" ["java/lang/RuntimeException", "java/lang/Exception"]).filter goodWord)
def wsX2_people : List Cond := .code yX2_people cX2_people 1 (some .int) :: ([.fieldLink RX2 12 "MourningRibbons" "family" "LMourningRibbons$Family;", .fieldLink RX2 128 "MourningRibbons$Family" "count" "I"] ++ wsX20 ++ wsX10)
def wsX2_living : List Cond := .code yX2_living cX2_living 1 (some .int) :: ([.fieldLink RX2 12 "MourningRibbons" "family" "LMourningRibbons$Family;", .methodLink RX2 140 yX1_livingCount, .instanceMethod yX1_livingCount, .selects RX1 yX1_livingCount yX1_livingCount, .initialized RX1, .code yX1_livingCount cX1_livingCount 3 (some .int), .fieldLink RX1 25 "MourningRibbons$Family" "count" "I", .fieldLink RX1 18 "MourningRibbons$Family" "alive" "[Z"] ++ wsX20 ++ wsX10)
def wsX2_isAlive : List Cond := .code yX2_isAlive cX2_isAlive 2 (some .boolean) :: ([.fieldLink RX2 12 "MourningRibbons" "family" "LMourningRibbons$Family;", .fieldLink RX2 101 "MourningRibbons$Family" "alive" "[Z", .methodLink RX2 46 yX2_needPerson, .instanceMethod yX2_needPerson, .selects RX2 yX2_needPerson yX2_needPerson, .initialized RX2, .code yX2_needPerson cX2_needPerson 2 none, .classLink RX2 173 "java/lang/IndexOutOfBoundsException", .initialized "java/lang/IndexOutOfBoundsException", .fieldLink RX2 128 "MourningRibbons$Family" "count" "I"] ++ wsX20 ++ wsX10 ++ (vx_atS RX2 177 "java/lang/IndexOutOfBoundsException" ["java/lang/RuntimeException", "java/lang/Exception"]).filter goodWord)
def wsX2_parentOf : List Cond := .code yX2_parentOf cX2_parentOf 2 (some .int) :: ([.fieldLink RX2 12 "MourningRibbons" "family" "LMourningRibbons$Family;", .fieldLink RX2 147 "MourningRibbons$Family" "parent" "[I", .methodLink RX2 46 yX2_needPerson, .instanceMethod yX2_needPerson, .selects RX2 yX2_needPerson yX2_needPerson, .initialized RX2, .code yX2_needPerson cX2_needPerson 2 none, .classLink RX2 173 "java/lang/IndexOutOfBoundsException", .initialized "java/lang/IndexOutOfBoundsException", .fieldLink RX2 128 "MourningRibbons$Family" "count" "I"] ++ wsX20 ++ wsX10 ++ (vx_atS RX2 177 "java/lang/IndexOutOfBoundsException" ["java/lang/RuntimeException", "java/lang/Exception"]).filter goodWord)
def wsX2_marriedTo : List Cond := .code yX2_marriedTo cX2_marriedTo 2 (some .int) :: ([.fieldLink RX2 12 "MourningRibbons" "family" "LMourningRibbons$Family;", .fieldLink RX2 150 "MourningRibbons$Family" "spouse" "[I", .methodLink RX2 46 yX2_needPerson, .instanceMethod yX2_needPerson, .selects RX2 yX2_needPerson yX2_needPerson, .initialized RX2, .code yX2_needPerson cX2_needPerson 2 none, .classLink RX2 173 "java/lang/IndexOutOfBoundsException", .initialized "java/lang/IndexOutOfBoundsException", .fieldLink RX2 128 "MourningRibbons$Family" "count" "I"] ++ wsX20 ++ wsX10 ++ (vx_atS RX2 177 "java/lang/IndexOutOfBoundsException" ["java/lang/RuntimeException", "java/lang/Exception"]).filter goodWord)
def wsX2_degreeOf_r1 : List Cond := [Cond.fieldLink RX2 12 "MourningRibbons" "family" "LMourningRibbons$Family;", Cond.fieldLink RX2 71 "MourningRibbons$Family" "degrees" "[I", Cond.methodLink RX2 46 yX2_needPerson, Cond.instanceMethod yX2_needPerson, Cond.selects RX2 yX2_needPerson yX2_needPerson, Cond.initialized RX2, Cond.code yX2_needPerson cX2_needPerson 2 none, Cond.classLink RX2 173 "java/lang/IndexOutOfBoundsException", Cond.initialized "java/lang/IndexOutOfBoundsException", Cond.fieldLink RX2 128 "MourningRibbons$Family" "count" "I", Cond.methodLink RX2 68 yX1_findDegrees, Cond.instanceMethod yX1_findDegrees, Cond.selects RX1 yX1_findDegrees yX1_findDegrees, Cond.initialized RX1, Cond.code yX1_findDegrees cX1_findDegrees 4 none, Cond.fieldLink RX1 22 "MourningRibbons$Family" "degrees" "[I", Cond.fieldLink RX1 25 "MourningRibbons$Family" "count" "I", Cond.methodLink RX1 33 yJ7_fill_53178, Cond.static yJ7_fill_53178, Cond.initialized RJ7, Cond.code yJ7_fill_53178 cJ7_fill_53178 4 none, Cond.methodLink RX1 39 yX1_reachFrom, Cond.instanceMethod yX1_reachFrom, Cond.selects RX1 yX1_reachFrom yX1_reachFrom]
def wsX2_degreeOf_r2 : List Cond := [Cond.code yX1_reachFrom cX1_reachFrom 5 none, Cond.methodLink RX1 43 yX1_isStep, Cond.instanceMethod yX1_isStep, Cond.selects RX1 yX1_isStep yX1_isStep, Cond.code yX1_isStep cX1_isStep 3 (some .boolean), Cond.fieldLink RX1 9 "MourningRibbons$Family" "parent" "[I", Cond.fieldLink RX1 15 "MourningRibbons$Family" "spouse" "[I"]
def wsX2_degreeOf : List Cond := .code yX2_degreeOf cX2_degreeOf 3 (some .int) :: ((wsX2_degreeOf_r1 ++ wsX2_degreeOf_r2) ++ wsX20 ++ wsX10 ++ (vx_atS RX2 177 "java/lang/IndexOutOfBoundsException" ["java/lang/RuntimeException", "java/lang/Exception"]).filter goodWord)
def wsX2_kinOf_r1 : List Cond := [Cond.fieldLink RX2 12 "MourningRibbons" "family" "LMourningRibbons$Family;", Cond.methodLink RX2 46 yX2_needPerson, Cond.instanceMethod yX2_needPerson, Cond.selects RX2 yX2_needPerson yX2_needPerson, Cond.initialized RX2, Cond.code yX2_needPerson cX2_needPerson 2 none, Cond.classLink RX2 173 "java/lang/IndexOutOfBoundsException", Cond.initialized "java/lang/IndexOutOfBoundsException", Cond.fieldLink RX2 128 "MourningRibbons$Family" "count" "I", Cond.methodLink RX2 153 yX2_needDegree, Cond.instanceMethod yX2_needDegree, Cond.selects RX2 yX2_needDegree yX2_needDegree, Cond.code yX2_needDegree cX2_needDegree 2 none, Cond.methodLink RX2 68 yX1_findDegrees, Cond.instanceMethod yX1_findDegrees, Cond.selects RX1 yX1_findDegrees yX1_findDegrees, Cond.initialized RX1, Cond.code yX1_findDegrees cX1_findDegrees 4 none, Cond.fieldLink RX1 22 "MourningRibbons$Family" "degrees" "[I", Cond.fieldLink RX1 25 "MourningRibbons$Family" "count" "I", Cond.methodLink RX1 33 yJ7_fill_53178, Cond.static yJ7_fill_53178, Cond.initialized RJ7, Cond.code yJ7_fill_53178 cJ7_fill_53178 4 none]
def wsX2_kinOf_r2 : List Cond := [Cond.methodLink RX1 39 yX1_reachFrom, Cond.instanceMethod yX1_reachFrom, Cond.selects RX1 yX1_reachFrom yX1_reachFrom, Cond.code yX1_reachFrom cX1_reachFrom 5 none, Cond.methodLink RX1 43 yX1_isStep, Cond.instanceMethod yX1_isStep, Cond.selects RX1 yX1_isStep yX1_isStep, Cond.code yX1_isStep cX1_isStep 3 (some .boolean), Cond.fieldLink RX1 9 "MourningRibbons$Family" "parent" "[I", Cond.fieldLink RX1 15 "MourningRibbons$Family" "spouse" "[I", Cond.methodLink RX2 156 yX1_countKin, Cond.instanceMethod yX1_countKin, Cond.selects RX1 yX1_countKin yX1_countKin, Cond.code yX1_countKin cX1_countKin 4 (some .int), Cond.fieldLink RX1 18 "MourningRibbons$Family" "alive" "[Z"]
def wsX2_kinOf : List Cond := .code yX2_kinOf cX2_kinOf 3 (some .int) :: ((wsX2_kinOf_r1 ++ wsX2_kinOf_r2) ++ wsX20 ++ wsX10 ++ (vx_atS RX2 177 "java/lang/IndexOutOfBoundsException" ["java/lang/RuntimeException", "java/lang/Exception"]).filter goodWord)
def wsX2_stageColour : List Cond := .code yX2_stageColour cX2_stageColour 3 (some .int) :: ([.fieldLink RX2 19 "MourningRibbons" "codes" "LMourningRibbons$Codes;", .fieldLink RX2 91 "MourningRibbons$Codes" "colours" "[I", .methodLink RX2 77 yX2_needStage, .instanceMethod yX2_needStage, .selects RX2 yX2_needStage yX2_needStage, .initialized RX2, .code yX2_needStage cX2_needStage 3 none, .classLink RX2 173 "java/lang/IndexOutOfBoundsException", .initialized "java/lang/IndexOutOfBoundsException", .methodLink RX2 153 yX2_needDegree, .instanceMethod yX2_needDegree, .selects RX2 yX2_needDegree yX2_needDegree, .code yX2_needDegree cX2_needDegree 2 none, .methodLink RX2 87 yX0_place, .static yX0_place, .initialized RX0, .code yX0_place cX0_place 3 (some .int)] ++ wsX20 ++ wsX00 ++ (vx_atS RX2 177 "java/lang/IndexOutOfBoundsException" ["java/lang/RuntimeException", "java/lang/Exception"]).filter goodWord)
def wsX2_stageDays : List Cond := .code yX2_stageDays cX2_stageDays 3 (some .int) :: ([.fieldLink RX2 19 "MourningRibbons" "codes" "LMourningRibbons$Codes;", .fieldLink RX2 94 "MourningRibbons$Codes" "days" "[I", .methodLink RX2 77 yX2_needStage, .instanceMethod yX2_needStage, .selects RX2 yX2_needStage yX2_needStage, .initialized RX2, .code yX2_needStage cX2_needStage 3 none, .classLink RX2 173 "java/lang/IndexOutOfBoundsException", .initialized "java/lang/IndexOutOfBoundsException", .methodLink RX2 153 yX2_needDegree, .instanceMethod yX2_needDegree, .selects RX2 yX2_needDegree yX2_needDegree, .code yX2_needDegree cX2_needDegree 2 none, .methodLink RX2 87 yX0_place, .static yX0_place, .initialized RX0, .code yX0_place cX0_place 3 (some .int)] ++ wsX20 ++ wsX00 ++ (vx_atS RX2 177 "java/lang/IndexOutOfBoundsException" ["java/lang/RuntimeException", "java/lang/Exception"]).filter goodWord)
def wsX2_day : List Cond := .code yX2_day cX2_day 1 (some .int) :: ([.fieldLink RX2 105 "MourningRibbons" "today" "I"] ++ wsX20)
def wsX2_colourOf_r1 : List Cond := [Cond.methodLink RX2 46 yX2_needPerson, Cond.instanceMethod yX2_needPerson, Cond.selects RX2 yX2_needPerson yX2_needPerson, Cond.initialized RX2, Cond.code yX2_needPerson cX2_needPerson 2 none, Cond.classLink RX2 173 "java/lang/IndexOutOfBoundsException", Cond.initialized "java/lang/IndexOutOfBoundsException", Cond.fieldLink RX2 12 "MourningRibbons" "family" "LMourningRibbons$Family;", Cond.fieldLink RX2 128 "MourningRibbons$Family" "count" "I", Cond.methodLink RX2 159 yX2_colourAfter, Cond.instanceMethod yX2_colourAfter, Cond.selects RX2 yX2_colourAfter yX2_colourAfter, Cond.code yX2_colourAfter cX2_colourAfter 6 (some .int), Cond.fieldLink RX2 105 "MourningRibbons" "today" "I", Cond.fieldLink RX2 27 "MourningRibbons" "deathDay" "[I", Cond.fieldLink RX2 19 "MourningRibbons" "codes" "LMourningRibbons$Codes;", Cond.fieldLink RX2 23 "MourningRibbons" "mournedBy" "[I", Cond.methodLink RX2 181 Lib.Math.max.name, Cond.static Lib.Math.max.name, Cond.initialized "java/lang/Math", Cond.code Lib.Math.max.name Lib.Math.max.code 2 (some .int), Cond.methodLink RX2 123 yX2_pair, Cond.static yX2_pair, Cond.code yX2_pair cX2_pair 2 (some .int)]
def wsX2_colourOf_r2 : List Cond := [Cond.methodLink RX2 189 yX0_colourOn, Cond.instanceMethod yX0_colourOn, Cond.selects RX0 yX0_colourOn yX0_colourOn, Cond.initialized RX0, Cond.code yX0_colourOn cX0_colourOn 7 (some .int), Cond.fieldLink RX0 15 "MourningRibbons$Codes" "days" "[I", Cond.fieldLink RX0 11 "MourningRibbons$Codes" "colours" "[I", Cond.methodLink RX0 18 yX0_place, Cond.static yX0_place, Cond.code yX0_place cX0_place 3 (some .int)]
def wsX2_colourOf : List Cond := .code yX2_colourOf cX2_colourOf 2 (some .int) :: ((wsX2_colourOf_r1 ++ wsX2_colourOf_r2) ++ wsX20 ++ wsX10 ++ wsX00 ++ (vx_atS RX2 177 "java/lang/IndexOutOfBoundsException" ["java/lang/RuntimeException", "java/lang/Exception"]).filter goodWord)
def wsX2_colourIn_r1 : List Cond := [Cond.classLink RX2 80 "java/lang/IllegalArgumentException", Cond.initialized "java/lang/IllegalArgumentException", Cond.methodLink RX2 46 yX2_needPerson, Cond.instanceMethod yX2_needPerson, Cond.selects RX2 yX2_needPerson yX2_needPerson, Cond.initialized RX2, Cond.code yX2_needPerson cX2_needPerson 2 none, Cond.classLink RX2 173 "java/lang/IndexOutOfBoundsException", Cond.initialized "java/lang/IndexOutOfBoundsException", Cond.fieldLink RX2 12 "MourningRibbons" "family" "LMourningRibbons$Family;", Cond.fieldLink RX2 128 "MourningRibbons$Family" "count" "I", Cond.methodLink RX2 159 yX2_colourAfter, Cond.instanceMethod yX2_colourAfter, Cond.selects RX2 yX2_colourAfter yX2_colourAfter, Cond.code yX2_colourAfter cX2_colourAfter 6 (some .int), Cond.fieldLink RX2 105 "MourningRibbons" "today" "I", Cond.fieldLink RX2 27 "MourningRibbons" "deathDay" "[I", Cond.fieldLink RX2 19 "MourningRibbons" "codes" "LMourningRibbons$Codes;", Cond.fieldLink RX2 23 "MourningRibbons" "mournedBy" "[I", Cond.methodLink RX2 181 Lib.Math.max.name, Cond.static Lib.Math.max.name, Cond.initialized "java/lang/Math", Cond.code Lib.Math.max.name Lib.Math.max.code 2 (some .int), Cond.methodLink RX2 123 yX2_pair]
def wsX2_colourIn_r2 : List Cond := [Cond.static yX2_pair, Cond.code yX2_pair cX2_pair 2 (some .int), Cond.methodLink RX2 189 yX0_colourOn, Cond.instanceMethod yX0_colourOn, Cond.selects RX0 yX0_colourOn yX0_colourOn, Cond.initialized RX0, Cond.code yX0_colourOn cX0_colourOn 7 (some .int), Cond.fieldLink RX0 15 "MourningRibbons$Codes" "days" "[I", Cond.fieldLink RX0 11 "MourningRibbons$Codes" "colours" "[I", Cond.methodLink RX0 18 yX0_place, Cond.static yX0_place, Cond.code yX0_place cX0_place 3 (some .int)]
def wsX2_colourIn : List Cond := .code yX2_colourIn cX2_colourIn 3 (some .int) :: ((wsX2_colourIn_r1 ++ wsX2_colourIn_r2) ++ wsX20 ++ wsX10 ++ wsX00 ++ (vx_atS RX2 84 "java/lang/IllegalArgumentException" ["java/lang/RuntimeException", "java/lang/Exception"]).filter goodWord ++ (vx_atS RX2 177 "java/lang/IndexOutOfBoundsException" ["java/lang/RuntimeException", "java/lang/Exception"]).filter goodWord)
def wsX2_countMournings_r1 : List Cond := [Cond.fieldLink RX2 12 "MourningRibbons" "family" "LMourningRibbons$Family;", Cond.fieldLink RX2 128 "MourningRibbons$Family" "count" "I", Cond.methodLink RX2 118 yX2_leftFor, Cond.instanceMethod yX2_leftFor, Cond.selects RX2 yX2_leftFor yX2_leftFor, Cond.initialized RX2, Cond.code yX2_leftFor cX2_leftFor 4 (some .int), Cond.fieldLink RX2 19 "MourningRibbons" "codes" "LMourningRibbons$Codes;", Cond.fieldLink RX2 23 "MourningRibbons" "mournedBy" "[I", Cond.fieldLink RX2 105 "MourningRibbons" "today" "I", Cond.fieldLink RX2 27 "MourningRibbons" "deathDay" "[I", Cond.methodLink RX2 181 Lib.Math.max.name, Cond.static Lib.Math.max.name, Cond.initialized "java/lang/Math", Cond.code Lib.Math.max.name Lib.Math.max.code 2 (some .int), Cond.methodLink RX2 123 yX2_pair, Cond.static yX2_pair, Cond.code yX2_pair cX2_pair 2 (some .int), Cond.methodLink RX2 97 yX0_daysOfAll, Cond.instanceMethod yX0_daysOfAll, Cond.selects RX0 yX0_daysOfAll yX0_daysOfAll, Cond.initialized RX0, Cond.code yX0_daysOfAll cX0_daysOfAll 5 (some .int), Cond.fieldLink RX0 15 "MourningRibbons$Codes" "days" "[I"]
def wsX2_countMournings_r2 : List Cond := [Cond.methodLink RX0 18 yX0_place, Cond.static yX0_place, Cond.code yX0_place cX0_place 3 (some .int)]
def wsX2_countMournings : List Cond := .code yX2_countMournings cX2_countMournings 4 (some .int) :: ((wsX2_countMournings_r1 ++ wsX2_countMournings_r2) ++ wsX20 ++ wsX10 ++ wsX00)
def wsX2_mourningsOf_r1 : List Cond := [Cond.methodLink RX2 46 yX2_needPerson, Cond.instanceMethod yX2_needPerson, Cond.selects RX2 yX2_needPerson yX2_needPerson, Cond.initialized RX2, Cond.code yX2_needPerson cX2_needPerson 2 none, Cond.classLink RX2 173 "java/lang/IndexOutOfBoundsException", Cond.initialized "java/lang/IndexOutOfBoundsException", Cond.fieldLink RX2 12 "MourningRibbons" "family" "LMourningRibbons$Family;", Cond.fieldLink RX2 128 "MourningRibbons$Family" "count" "I", Cond.methodLink RX2 164 yX2_countMournings, Cond.instanceMethod yX2_countMournings, Cond.selects RX2 yX2_countMournings yX2_countMournings, Cond.code yX2_countMournings cX2_countMournings 4 (some .int), Cond.methodLink RX2 118 yX2_leftFor, Cond.instanceMethod yX2_leftFor, Cond.selects RX2 yX2_leftFor yX2_leftFor, Cond.code yX2_leftFor cX2_leftFor 4 (some .int), Cond.fieldLink RX2 19 "MourningRibbons" "codes" "LMourningRibbons$Codes;", Cond.fieldLink RX2 23 "MourningRibbons" "mournedBy" "[I", Cond.fieldLink RX2 105 "MourningRibbons" "today" "I", Cond.fieldLink RX2 27 "MourningRibbons" "deathDay" "[I", Cond.methodLink RX2 181 Lib.Math.max.name, Cond.static Lib.Math.max.name, Cond.initialized "java/lang/Math"]
def wsX2_mourningsOf_r2 : List Cond := [Cond.code Lib.Math.max.name Lib.Math.max.code 2 (some .int), Cond.methodLink RX2 123 yX2_pair, Cond.static yX2_pair, Cond.code yX2_pair cX2_pair 2 (some .int), Cond.methodLink RX2 97 yX0_daysOfAll, Cond.instanceMethod yX0_daysOfAll, Cond.selects RX0 yX0_daysOfAll yX0_daysOfAll, Cond.initialized RX0, Cond.code yX0_daysOfAll cX0_daysOfAll 5 (some .int), Cond.fieldLink RX0 15 "MourningRibbons$Codes" "days" "[I", Cond.methodLink RX0 18 yX0_place, Cond.static yX0_place, Cond.code yX0_place cX0_place 3 (some .int)]
def wsX2_mourningsOf : List Cond := .code yX2_mourningsOf cX2_mourningsOf 2 (some .int) :: ((wsX2_mourningsOf_r1 ++ wsX2_mourningsOf_r2) ++ wsX20 ++ wsX10 ++ wsX00 ++ (vx_atS RX2 177 "java/lang/IndexOutOfBoundsException" ["java/lang/RuntimeException", "java/lang/Exception"]).filter goodWord)
def wsX2_daysLeftFor_r1 : List Cond := [Cond.methodLink RX2 46 yX2_needPerson, Cond.instanceMethod yX2_needPerson, Cond.selects RX2 yX2_needPerson yX2_needPerson, Cond.initialized RX2, Cond.code yX2_needPerson cX2_needPerson 2 none, Cond.classLink RX2 173 "java/lang/IndexOutOfBoundsException", Cond.initialized "java/lang/IndexOutOfBoundsException", Cond.fieldLink RX2 12 "MourningRibbons" "family" "LMourningRibbons$Family;", Cond.fieldLink RX2 128 "MourningRibbons$Family" "count" "I", Cond.methodLink RX2 118 yX2_leftFor, Cond.instanceMethod yX2_leftFor, Cond.selects RX2 yX2_leftFor yX2_leftFor, Cond.code yX2_leftFor cX2_leftFor 4 (some .int), Cond.fieldLink RX2 19 "MourningRibbons" "codes" "LMourningRibbons$Codes;", Cond.fieldLink RX2 23 "MourningRibbons" "mournedBy" "[I", Cond.fieldLink RX2 105 "MourningRibbons" "today" "I", Cond.fieldLink RX2 27 "MourningRibbons" "deathDay" "[I", Cond.methodLink RX2 181 Lib.Math.max.name, Cond.static Lib.Math.max.name, Cond.initialized "java/lang/Math", Cond.code Lib.Math.max.name Lib.Math.max.code 2 (some .int), Cond.methodLink RX2 123 yX2_pair, Cond.static yX2_pair, Cond.code yX2_pair cX2_pair 2 (some .int)]
def wsX2_daysLeftFor_r2 : List Cond := [Cond.methodLink RX2 97 yX0_daysOfAll, Cond.instanceMethod yX0_daysOfAll, Cond.selects RX0 yX0_daysOfAll yX0_daysOfAll, Cond.initialized RX0, Cond.code yX0_daysOfAll cX0_daysOfAll 5 (some .int), Cond.fieldLink RX0 15 "MourningRibbons$Codes" "days" "[I", Cond.methodLink RX0 18 yX0_place, Cond.static yX0_place, Cond.code yX0_place cX0_place 3 (some .int)]
def wsX2_daysLeftFor : List Cond := .code yX2_daysLeftFor cX2_daysLeftFor 3 (some .int) :: ((wsX2_daysLeftFor_r1 ++ wsX2_daysLeftFor_r2) ++ wsX20 ++ wsX10 ++ wsX00 ++ (vx_atS RX2 177 "java/lang/IndexOutOfBoundsException" ["java/lang/RuntimeException", "java/lang/Exception"]).filter goodWord)
def wsX2_longestLeft_r1 : List Cond := [Cond.fieldLink RX2 12 "MourningRibbons" "family" "LMourningRibbons$Family;", Cond.fieldLink RX2 128 "MourningRibbons$Family" "count" "I", Cond.methodLink RX2 181 Lib.Math.max.name, Cond.static Lib.Math.max.name, Cond.initialized "java/lang/Math", Cond.code Lib.Math.max.name Lib.Math.max.code 2 (some .int), Cond.methodLink RX2 118 yX2_leftFor, Cond.instanceMethod yX2_leftFor, Cond.selects RX2 yX2_leftFor yX2_leftFor, Cond.initialized RX2, Cond.code yX2_leftFor cX2_leftFor 4 (some .int), Cond.fieldLink RX2 19 "MourningRibbons" "codes" "LMourningRibbons$Codes;", Cond.fieldLink RX2 23 "MourningRibbons" "mournedBy" "[I", Cond.fieldLink RX2 105 "MourningRibbons" "today" "I", Cond.fieldLink RX2 27 "MourningRibbons" "deathDay" "[I", Cond.methodLink RX2 123 yX2_pair, Cond.static yX2_pair, Cond.code yX2_pair cX2_pair 2 (some .int), Cond.methodLink RX2 97 yX0_daysOfAll, Cond.instanceMethod yX0_daysOfAll, Cond.selects RX0 yX0_daysOfAll yX0_daysOfAll, Cond.initialized RX0, Cond.code yX0_daysOfAll cX0_daysOfAll 5 (some .int), Cond.fieldLink RX0 15 "MourningRibbons$Codes" "days" "[I"]
def wsX2_longestLeft_r2 : List Cond := [Cond.methodLink RX0 18 yX0_place, Cond.static yX0_place, Cond.code yX0_place cX0_place 3 (some .int)]
def wsX2_longestLeft : List Cond := .code yX2_longestLeft cX2_longestLeft 4 (some .int) :: ((wsX2_longestLeft_r1 ++ wsX2_longestLeft_r2) ++ wsX20 ++ wsX10 ++ wsX00)
def wsX2_daysLeft_r1 : List Cond := [Cond.methodLink RX2 46 yX2_needPerson, Cond.instanceMethod yX2_needPerson, Cond.selects RX2 yX2_needPerson yX2_needPerson, Cond.initialized RX2, Cond.code yX2_needPerson cX2_needPerson 2 none, Cond.classLink RX2 173 "java/lang/IndexOutOfBoundsException", Cond.initialized "java/lang/IndexOutOfBoundsException", Cond.fieldLink RX2 12 "MourningRibbons" "family" "LMourningRibbons$Family;", Cond.fieldLink RX2 128 "MourningRibbons$Family" "count" "I", Cond.methodLink RX2 167 yX2_longestLeft, Cond.instanceMethod yX2_longestLeft, Cond.selects RX2 yX2_longestLeft yX2_longestLeft, Cond.code yX2_longestLeft cX2_longestLeft 4 (some .int), Cond.methodLink RX2 181 Lib.Math.max.name, Cond.static Lib.Math.max.name, Cond.initialized "java/lang/Math", Cond.code Lib.Math.max.name Lib.Math.max.code 2 (some .int), Cond.methodLink RX2 118 yX2_leftFor, Cond.instanceMethod yX2_leftFor, Cond.selects RX2 yX2_leftFor yX2_leftFor, Cond.code yX2_leftFor cX2_leftFor 4 (some .int), Cond.fieldLink RX2 19 "MourningRibbons" "codes" "LMourningRibbons$Codes;", Cond.fieldLink RX2 23 "MourningRibbons" "mournedBy" "[I", Cond.fieldLink RX2 105 "MourningRibbons" "today" "I"]
def wsX2_daysLeft_r2 : List Cond := [Cond.fieldLink RX2 27 "MourningRibbons" "deathDay" "[I", Cond.methodLink RX2 123 yX2_pair, Cond.static yX2_pair, Cond.code yX2_pair cX2_pair 2 (some .int), Cond.methodLink RX2 97 yX0_daysOfAll, Cond.instanceMethod yX0_daysOfAll, Cond.selects RX0 yX0_daysOfAll yX0_daysOfAll, Cond.initialized RX0, Cond.code yX0_daysOfAll cX0_daysOfAll 5 (some .int), Cond.fieldLink RX0 15 "MourningRibbons$Codes" "days" "[I", Cond.methodLink RX0 18 yX0_place, Cond.static yX0_place, Cond.code yX0_place cX0_place 3 (some .int)]
def wsX2_daysLeft : List Cond := .code yX2_daysLeft cX2_daysLeft 2 (some .int) :: ((wsX2_daysLeft_r1 ++ wsX2_daysLeft_r2) ++ wsX20 ++ wsX10 ++ wsX00 ++ (vx_atS RX2 177 "java/lang/IndexOutOfBoundsException" ["java/lang/RuntimeException", "java/lang/Exception"]).filter goodWord)
def wsX2_firstLighterDay : List Cond := .code yX2_firstLighterDay cX2_firstLighterDay 2 (some .int) :: ([.fieldLink RX2 30 "MourningRibbons" "ahead" "[I"] ++ wsX20)
def wsX2_daysUntilLighter_r1 : List Cond := [Cond.methodLink RX2 46 yX2_needPerson, Cond.instanceMethod yX2_needPerson, Cond.selects RX2 yX2_needPerson yX2_needPerson, Cond.initialized RX2, Cond.code yX2_needPerson cX2_needPerson 2 none, Cond.classLink RX2 173 "java/lang/IndexOutOfBoundsException", Cond.initialized "java/lang/IndexOutOfBoundsException", Cond.fieldLink RX2 12 "MourningRibbons" "family" "LMourningRibbons$Family;", Cond.fieldLink RX2 128 "MourningRibbons$Family" "count" "I", Cond.methodLink RX2 131 yX2_paintAhead, Cond.instanceMethod yX2_paintAhead, Cond.selects RX2 yX2_paintAhead yX2_paintAhead, Cond.code yX2_paintAhead cX2_paintAhead 7 none, Cond.fieldLink RX2 30 "MourningRibbons" "ahead" "[I", Cond.fieldLink RX2 23 "MourningRibbons" "mournedBy" "[I", Cond.fieldLink RX2 105 "MourningRibbons" "today" "I", Cond.fieldLink RX2 27 "MourningRibbons" "deathDay" "[I", Cond.methodLink RX2 274 Lib.Math.min.name, Cond.static Lib.Math.min.name, Cond.initialized "java/lang/Math", Cond.code Lib.Math.min.name Lib.Math.min.code 2 (some .int), Cond.fieldLink RX2 19 "MourningRibbons" "codes" "LMourningRibbons$Codes;", Cond.methodLink RX2 181 Lib.Math.max.name, Cond.static Lib.Math.max.name]
def wsX2_daysUntilLighter_r2 : List Cond := [Cond.code Lib.Math.max.name Lib.Math.max.code 2 (some .int), Cond.methodLink RX2 192 yJ7_fill_53178, Cond.static yJ7_fill_53178, Cond.initialized RJ7, Cond.code yJ7_fill_53178 cJ7_fill_53178 4 none, Cond.methodLink RX2 123 yX2_pair, Cond.static yX2_pair, Cond.code yX2_pair cX2_pair 2 (some .int), Cond.methodLink RX2 118 yX2_leftFor, Cond.instanceMethod yX2_leftFor, Cond.selects RX2 yX2_leftFor yX2_leftFor, Cond.code yX2_leftFor cX2_leftFor 4 (some .int), Cond.methodLink RX2 97 yX0_daysOfAll, Cond.instanceMethod yX0_daysOfAll, Cond.selects RX0 yX0_daysOfAll yX0_daysOfAll, Cond.initialized RX0, Cond.code yX0_daysOfAll cX0_daysOfAll 5 (some .int), Cond.fieldLink RX0 15 "MourningRibbons$Codes" "days" "[I", Cond.methodLink RX0 18 yX0_place, Cond.static yX0_place, Cond.code yX0_place cX0_place 3 (some .int), Cond.methodLink RX2 189 yX0_colourOn, Cond.instanceMethod yX0_colourOn, Cond.selects RX0 yX0_colourOn yX0_colourOn]
def wsX2_daysUntilLighter_r3 : List Cond := [Cond.code yX0_colourOn cX0_colourOn 7 (some .int), Cond.fieldLink RX0 11 "MourningRibbons$Codes" "colours" "[I", Cond.methodLink RX2 170 yX2_firstLighterDay, Cond.instanceMethod yX2_firstLighterDay, Cond.selects RX2 yX2_firstLighterDay yX2_firstLighterDay, Cond.code yX2_firstLighterDay cX2_firstLighterDay 2 (some .int)]
def wsX2_daysUntilLighter : List Cond := .code yX2_daysUntilLighter cX2_daysUntilLighter 2 (some .int) :: ((wsX2_daysUntilLighter_r1 ++ (wsX2_daysUntilLighter_r2 ++ wsX2_daysUntilLighter_r3)) ++ wsX20 ++ wsX10 ++ wsX00 ++ (vx_atS RX2 177 "java/lang/IndexOutOfBoundsException" ["java/lang/RuntimeException", "java/lang/Exception"]).filter goodWord)
def wsX2_countAhead : List Cond := .code yX2_countAhead cX2_countAhead 4 (some .int) :: ([.fieldLink RX2 30 "MourningRibbons" "ahead" "[I"] ++ wsX20)
def wsX2_daysIn_r1 : List Cond := [Cond.classLink RX2 173 "java/lang/IndexOutOfBoundsException", Cond.initialized "java/lang/IndexOutOfBoundsException", Cond.methodLink RX2 46 yX2_needPerson, Cond.instanceMethod yX2_needPerson, Cond.selects RX2 yX2_needPerson yX2_needPerson, Cond.initialized RX2, Cond.code yX2_needPerson cX2_needPerson 2 none, Cond.fieldLink RX2 12 "MourningRibbons" "family" "LMourningRibbons$Family;", Cond.fieldLink RX2 128 "MourningRibbons$Family" "count" "I", Cond.methodLink RX2 131 yX2_paintAhead, Cond.instanceMethod yX2_paintAhead, Cond.selects RX2 yX2_paintAhead yX2_paintAhead, Cond.code yX2_paintAhead cX2_paintAhead 7 none, Cond.fieldLink RX2 30 "MourningRibbons" "ahead" "[I", Cond.fieldLink RX2 23 "MourningRibbons" "mournedBy" "[I", Cond.fieldLink RX2 105 "MourningRibbons" "today" "I", Cond.fieldLink RX2 27 "MourningRibbons" "deathDay" "[I", Cond.methodLink RX2 274 Lib.Math.min.name, Cond.static Lib.Math.min.name, Cond.initialized "java/lang/Math", Cond.code Lib.Math.min.name Lib.Math.min.code 2 (some .int), Cond.fieldLink RX2 19 "MourningRibbons" "codes" "LMourningRibbons$Codes;", Cond.methodLink RX2 181 Lib.Math.max.name, Cond.static Lib.Math.max.name]
def wsX2_daysIn_r2 : List Cond := [Cond.code Lib.Math.max.name Lib.Math.max.code 2 (some .int), Cond.methodLink RX2 192 yJ7_fill_53178, Cond.static yJ7_fill_53178, Cond.initialized RJ7, Cond.code yJ7_fill_53178 cJ7_fill_53178 4 none, Cond.methodLink RX2 123 yX2_pair, Cond.static yX2_pair, Cond.code yX2_pair cX2_pair 2 (some .int), Cond.methodLink RX2 118 yX2_leftFor, Cond.instanceMethod yX2_leftFor, Cond.selects RX2 yX2_leftFor yX2_leftFor, Cond.code yX2_leftFor cX2_leftFor 4 (some .int), Cond.methodLink RX2 97 yX0_daysOfAll, Cond.instanceMethod yX0_daysOfAll, Cond.selects RX0 yX0_daysOfAll yX0_daysOfAll, Cond.initialized RX0, Cond.code yX0_daysOfAll cX0_daysOfAll 5 (some .int), Cond.fieldLink RX0 15 "MourningRibbons$Codes" "days" "[I", Cond.methodLink RX0 18 yX0_place, Cond.static yX0_place, Cond.code yX0_place cX0_place 3 (some .int), Cond.methodLink RX2 189 yX0_colourOn, Cond.instanceMethod yX0_colourOn, Cond.selects RX0 yX0_colourOn yX0_colourOn]
def wsX2_daysIn_r3 : List Cond := [Cond.code yX0_colourOn cX0_colourOn 7 (some .int), Cond.fieldLink RX0 11 "MourningRibbons$Codes" "colours" "[I", Cond.methodLink RX2 178 yX2_countAhead, Cond.instanceMethod yX2_countAhead, Cond.selects RX2 yX2_countAhead yX2_countAhead, Cond.code yX2_countAhead cX2_countAhead 4 (some .int)]
def wsX2_daysIn : List Cond := .code yX2_daysIn cX2_daysIn 3 (some .int) :: ((wsX2_daysIn_r1 ++ (wsX2_daysIn_r2 ++ wsX2_daysIn_r3)) ++ wsX20 ++ wsX10 ++ wsX00 ++ (vx_atS RX2 177 "java/lang/IndexOutOfBoundsException" ["java/lang/RuntimeException", "java/lang/Exception"]).filter goodWord)
def wsX2_wearing_r1 : List Cond := [Cond.classLink RX2 173 "java/lang/IndexOutOfBoundsException", Cond.initialized "java/lang/IndexOutOfBoundsException", Cond.methodLink RX2 144 yX2_countWearing, Cond.instanceMethod yX2_countWearing, Cond.selects RX2 yX2_countWearing yX2_countWearing, Cond.initialized RX2, Cond.code yX2_countWearing cX2_countWearing 4 (some .int), Cond.fieldLink RX2 12 "MourningRibbons" "family" "LMourningRibbons$Family;", Cond.fieldLink RX2 128 "MourningRibbons$Family" "count" "I", Cond.fieldLink RX2 101 "MourningRibbons$Family" "alive" "[Z", Cond.methodLink RX2 159 yX2_colourAfter, Cond.instanceMethod yX2_colourAfter, Cond.selects RX2 yX2_colourAfter yX2_colourAfter, Cond.code yX2_colourAfter cX2_colourAfter 6 (some .int), Cond.fieldLink RX2 105 "MourningRibbons" "today" "I", Cond.fieldLink RX2 27 "MourningRibbons" "deathDay" "[I", Cond.fieldLink RX2 19 "MourningRibbons" "codes" "LMourningRibbons$Codes;", Cond.fieldLink RX2 23 "MourningRibbons" "mournedBy" "[I", Cond.methodLink RX2 181 Lib.Math.max.name, Cond.static Lib.Math.max.name, Cond.initialized "java/lang/Math", Cond.code Lib.Math.max.name Lib.Math.max.code 2 (some .int), Cond.methodLink RX2 123 yX2_pair, Cond.static yX2_pair]
def wsX2_wearing_r2 : List Cond := [Cond.code yX2_pair cX2_pair 2 (some .int), Cond.methodLink RX2 189 yX0_colourOn, Cond.instanceMethod yX0_colourOn, Cond.selects RX0 yX0_colourOn yX0_colourOn, Cond.initialized RX0, Cond.code yX0_colourOn cX0_colourOn 7 (some .int), Cond.fieldLink RX0 15 "MourningRibbons$Codes" "days" "[I", Cond.fieldLink RX0 11 "MourningRibbons$Codes" "colours" "[I", Cond.methodLink RX0 18 yX0_place, Cond.static yX0_place, Cond.code yX0_place cX0_place 3 (some .int)]
def wsX2_wearing : List Cond := .code yX2_wearing cX2_wearing 2 (some .int) :: ((wsX2_wearing_r1 ++ wsX2_wearing_r2) ++ wsX20 ++ wsX10 ++ wsX00 ++ (vx_atS RX2 177 "java/lang/IndexOutOfBoundsException" ["java/lang/RuntimeException", "java/lang/Exception"]).filter goodWord)
def wsX2_strictest_r1 : List Cond := [Cond.fieldLink RX2 12 "MourningRibbons" "family" "LMourningRibbons$Family;", Cond.fieldLink RX2 128 "MourningRibbons$Family" "count" "I", Cond.methodLink RX2 181 Lib.Math.max.name, Cond.static Lib.Math.max.name, Cond.initialized "java/lang/Math", Cond.code Lib.Math.max.name Lib.Math.max.code 2 (some .int), Cond.methodLink RX2 159 yX2_colourAfter, Cond.instanceMethod yX2_colourAfter, Cond.selects RX2 yX2_colourAfter yX2_colourAfter, Cond.initialized RX2, Cond.code yX2_colourAfter cX2_colourAfter 6 (some .int), Cond.fieldLink RX2 105 "MourningRibbons" "today" "I", Cond.fieldLink RX2 27 "MourningRibbons" "deathDay" "[I", Cond.fieldLink RX2 19 "MourningRibbons" "codes" "LMourningRibbons$Codes;", Cond.fieldLink RX2 23 "MourningRibbons" "mournedBy" "[I", Cond.methodLink RX2 123 yX2_pair, Cond.static yX2_pair, Cond.code yX2_pair cX2_pair 2 (some .int), Cond.methodLink RX2 189 yX0_colourOn, Cond.instanceMethod yX0_colourOn, Cond.selects RX0 yX0_colourOn yX0_colourOn, Cond.initialized RX0, Cond.code yX0_colourOn cX0_colourOn 7 (some .int), Cond.fieldLink RX0 15 "MourningRibbons$Codes" "days" "[I"]
def wsX2_strictest_r2 : List Cond := [Cond.fieldLink RX0 11 "MourningRibbons$Codes" "colours" "[I", Cond.methodLink RX0 18 yX0_place, Cond.static yX0_place, Cond.code yX0_place cX0_place 3 (some .int)]
def wsX2_strictest : List Cond := .code yX2_strictest cX2_strictest 3 (some .int) :: ((wsX2_strictest_r1 ++ wsX2_strictest_r2) ++ wsX20 ++ wsX10 ++ wsX00)
def wsX2_longestMourner_r1 : List Cond := [Cond.fieldLink RX2 12 "MourningRibbons" "family" "LMourningRibbons$Family;", Cond.fieldLink RX2 128 "MourningRibbons$Family" "count" "I", Cond.methodLink RX2 167 yX2_longestLeft, Cond.instanceMethod yX2_longestLeft, Cond.selects RX2 yX2_longestLeft yX2_longestLeft, Cond.initialized RX2, Cond.code yX2_longestLeft cX2_longestLeft 4 (some .int), Cond.methodLink RX2 181 Lib.Math.max.name, Cond.static Lib.Math.max.name, Cond.initialized "java/lang/Math", Cond.code Lib.Math.max.name Lib.Math.max.code 2 (some .int), Cond.methodLink RX2 118 yX2_leftFor, Cond.instanceMethod yX2_leftFor, Cond.selects RX2 yX2_leftFor yX2_leftFor, Cond.code yX2_leftFor cX2_leftFor 4 (some .int), Cond.fieldLink RX2 19 "MourningRibbons" "codes" "LMourningRibbons$Codes;", Cond.fieldLink RX2 23 "MourningRibbons" "mournedBy" "[I", Cond.fieldLink RX2 105 "MourningRibbons" "today" "I", Cond.fieldLink RX2 27 "MourningRibbons" "deathDay" "[I", Cond.methodLink RX2 123 yX2_pair, Cond.static yX2_pair, Cond.code yX2_pair cX2_pair 2 (some .int), Cond.methodLink RX2 97 yX0_daysOfAll, Cond.instanceMethod yX0_daysOfAll]
def wsX2_longestMourner_r2 : List Cond := [Cond.selects RX0 yX0_daysOfAll yX0_daysOfAll, Cond.initialized RX0, Cond.code yX0_daysOfAll cX0_daysOfAll 5 (some .int), Cond.fieldLink RX0 15 "MourningRibbons$Codes" "days" "[I", Cond.methodLink RX0 18 yX0_place, Cond.static yX0_place, Cond.code yX0_place cX0_place 3 (some .int)]
def wsX2_longestMourner : List Cond := .code yX2_longestMourner cX2_longestMourner 5 (some .int) :: ((wsX2_longestMourner_r1 ++ wsX2_longestMourner_r2) ++ wsX20 ++ wsX10 ++ wsX00)
def wsX2_daysWorn : List Cond := .code yX2_daysWorn cX2_daysWorn 1 (some .int) :: ([.fieldLink RX2 134 "MourningRibbons" "wornSoFar" "I"] ++ wsX20)
def wsX2_wouldMourn_r1 : List Cond := [Cond.fieldLink RX2 12 "MourningRibbons" "family" "LMourningRibbons$Family;", Cond.fieldLink RX2 128 "MourningRibbons$Family" "count" "I", Cond.methodLink RX2 46 yX2_needPerson, Cond.instanceMethod yX2_needPerson, Cond.selects RX2 yX2_needPerson yX2_needPerson, Cond.initialized RX2, Cond.code yX2_needPerson cX2_needPerson 2 none, Cond.classLink RX2 173 "java/lang/IndexOutOfBoundsException", Cond.initialized "java/lang/IndexOutOfBoundsException", Cond.methodLink RX2 50 yX2_needAlive, Cond.instanceMethod yX2_needAlive, Cond.selects RX2 yX2_needAlive yX2_needAlive, Cond.code yX2_needAlive cX2_needAlive 2 none, Cond.classLink RX2 61 "java/lang/IllegalStateException", Cond.initialized "java/lang/IllegalStateException", Cond.fieldLink RX2 101 "MourningRibbons$Family" "alive" "[Z", Cond.methodLink RX2 68 yX1_findDegrees, Cond.instanceMethod yX1_findDegrees, Cond.selects RX1 yX1_findDegrees yX1_findDegrees, Cond.initialized RX1, Cond.code yX1_findDegrees cX1_findDegrees 4 none, Cond.fieldLink RX1 22 "MourningRibbons$Family" "degrees" "[I", Cond.fieldLink RX1 25 "MourningRibbons$Family" "count" "I", Cond.methodLink RX1 33 yJ7_fill_53178]
def wsX2_wouldMourn_r2 : List Cond := [Cond.static yJ7_fill_53178, Cond.initialized RJ7, Cond.code yJ7_fill_53178 cJ7_fill_53178 4 none, Cond.methodLink RX1 39 yX1_reachFrom, Cond.instanceMethod yX1_reachFrom, Cond.selects RX1 yX1_reachFrom yX1_reachFrom, Cond.code yX1_reachFrom cX1_reachFrom 5 none, Cond.methodLink RX1 43 yX1_isStep, Cond.instanceMethod yX1_isStep, Cond.selects RX1 yX1_isStep yX1_isStep, Cond.code yX1_isStep cX1_isStep 3 (some .boolean), Cond.fieldLink RX1 9 "MourningRibbons$Family" "parent" "[I", Cond.fieldLink RX1 15 "MourningRibbons$Family" "spouse" "[I", Cond.methodLink RX2 186 yX2_wouldBegin, Cond.instanceMethod yX2_wouldBegin, Cond.selects RX2 yX2_wouldBegin yX2_wouldBegin, Cond.code yX2_wouldBegin cX2_wouldBegin 2 (some .boolean), Cond.fieldLink RX2 19 "MourningRibbons" "codes" "LMourningRibbons$Codes;", Cond.fieldLink RX2 71 "MourningRibbons$Family" "degrees" "[I", Cond.methodLink RX2 97 yX0_daysOfAll, Cond.instanceMethod yX0_daysOfAll, Cond.selects RX0 yX0_daysOfAll yX0_daysOfAll, Cond.initialized RX0, Cond.code yX0_daysOfAll cX0_daysOfAll 5 (some .int)]
def wsX2_wouldMourn_r3 : List Cond := [Cond.fieldLink RX0 15 "MourningRibbons$Codes" "days" "[I", Cond.methodLink RX0 18 yX0_place, Cond.static yX0_place, Cond.code yX0_place cX0_place 3 (some .int)]
def wsX2_wouldMourn : List Cond := .code yX2_wouldMourn cX2_wouldMourn 4 (some .int) :: ((wsX2_wouldMourn_r1 ++ (wsX2_wouldMourn_r2 ++ wsX2_wouldMourn_r3)) ++ wsX20 ++ wsX10 ++ wsX00 ++ (vx_atS RX2 177 "java/lang/IndexOutOfBoundsException" ["java/lang/RuntimeException", "java/lang/Exception"]).filter goodWord ++ (vx_atS RX2 65 "java/lang/IllegalStateException" ["java/lang/RuntimeException", "java/lang/Exception"]).filter goodWord)
def wsX2_wouldWear_r1 : List Cond := [Cond.fieldLink RX2 12 "MourningRibbons" "family" "LMourningRibbons$Family;", Cond.fieldLink RX2 19 "MourningRibbons" "codes" "LMourningRibbons$Codes;", Cond.fieldLink RX2 71 "MourningRibbons$Family" "degrees" "[I", Cond.methodLink RX2 181 Lib.Math.max.name, Cond.static Lib.Math.max.name, Cond.initialized "java/lang/Math", Cond.code Lib.Math.max.name Lib.Math.max.code 2 (some .int), Cond.methodLink RX2 46 yX2_needPerson, Cond.instanceMethod yX2_needPerson, Cond.selects RX2 yX2_needPerson yX2_needPerson, Cond.initialized RX2, Cond.code yX2_needPerson cX2_needPerson 2 none, Cond.classLink RX2 173 "java/lang/IndexOutOfBoundsException", Cond.initialized "java/lang/IndexOutOfBoundsException", Cond.fieldLink RX2 128 "MourningRibbons$Family" "count" "I", Cond.methodLink RX2 53 yX2_needTwo, Cond.instanceMethod yX2_needTwo, Cond.selects RX2 yX2_needTwo yX2_needTwo, Cond.code yX2_needTwo cX2_needTwo 3 none, Cond.classLink RX2 80 "java/lang/IllegalArgumentException", Cond.initialized "java/lang/IllegalArgumentException", Cond.methodLink RX2 50 yX2_needAlive, Cond.instanceMethod yX2_needAlive, Cond.selects RX2 yX2_needAlive yX2_needAlive]
def wsX2_wouldWear_r2 : List Cond := [Cond.code yX2_needAlive cX2_needAlive 2 none, Cond.classLink RX2 61 "java/lang/IllegalStateException", Cond.initialized "java/lang/IllegalStateException", Cond.fieldLink RX2 101 "MourningRibbons$Family" "alive" "[Z", Cond.methodLink RX2 68 yX1_findDegrees, Cond.instanceMethod yX1_findDegrees, Cond.selects RX1 yX1_findDegrees yX1_findDegrees, Cond.initialized RX1, Cond.code yX1_findDegrees cX1_findDegrees 4 none, Cond.fieldLink RX1 22 "MourningRibbons$Family" "degrees" "[I", Cond.fieldLink RX1 25 "MourningRibbons$Family" "count" "I", Cond.methodLink RX1 33 yJ7_fill_53178, Cond.static yJ7_fill_53178, Cond.initialized RJ7, Cond.code yJ7_fill_53178 cJ7_fill_53178 4 none, Cond.methodLink RX1 39 yX1_reachFrom, Cond.instanceMethod yX1_reachFrom, Cond.selects RX1 yX1_reachFrom yX1_reachFrom, Cond.code yX1_reachFrom cX1_reachFrom 5 none, Cond.methodLink RX1 43 yX1_isStep, Cond.instanceMethod yX1_isStep, Cond.selects RX1 yX1_isStep yX1_isStep, Cond.code yX1_isStep cX1_isStep 3 (some .boolean), Cond.fieldLink RX1 9 "MourningRibbons$Family" "parent" "[I"]
def wsX2_wouldWear_r3 : List Cond := [Cond.fieldLink RX1 15 "MourningRibbons$Family" "spouse" "[I", Cond.methodLink RX2 189 yX0_colourOn, Cond.instanceMethod yX0_colourOn, Cond.selects RX0 yX0_colourOn yX0_colourOn, Cond.initialized RX0, Cond.code yX0_colourOn cX0_colourOn 7 (some .int), Cond.fieldLink RX0 15 "MourningRibbons$Codes" "days" "[I", Cond.fieldLink RX0 11 "MourningRibbons$Codes" "colours" "[I", Cond.methodLink RX0 18 yX0_place, Cond.static yX0_place, Cond.code yX0_place cX0_place 3 (some .int), Cond.methodLink RX2 159 yX2_colourAfter, Cond.instanceMethod yX2_colourAfter, Cond.selects RX2 yX2_colourAfter yX2_colourAfter, Cond.code yX2_colourAfter cX2_colourAfter 6 (some .int), Cond.fieldLink RX2 105 "MourningRibbons" "today" "I", Cond.fieldLink RX2 27 "MourningRibbons" "deathDay" "[I", Cond.fieldLink RX2 23 "MourningRibbons" "mournedBy" "[I", Cond.methodLink RX2 123 yX2_pair, Cond.static yX2_pair, Cond.code yX2_pair cX2_pair 2 (some .int)]
def wsX2_wouldWear : List Cond := .code yX2_wouldWear cX2_wouldWear 4 (some .int) :: ((wsX2_wouldWear_r1 ++ (wsX2_wouldWear_r2 ++ wsX2_wouldWear_r3)) ++ wsX20 ++ wsX10 ++ wsX00 ++ (vx_atS RX2 177 "java/lang/IndexOutOfBoundsException" ["java/lang/RuntimeException", "java/lang/Exception"]).filter goodWord ++ (vx_atS RX2 84 "java/lang/IllegalArgumentException" ["java/lang/RuntimeException", "java/lang/Exception"]).filter goodWord ++ (vx_atS RX2 65 "java/lang/IllegalStateException" ["java/lang/RuntimeException", "java/lang/Exception"]).filter goodWord)
def wsX2_wornAheadWith : List Cond := .code yX2_wornAheadWith cX2_wornAheadWith 4 (some .int) :: ([.fieldLink RX2 30 "MourningRibbons" "ahead" "[I", .fieldLink RX2 19 "MourningRibbons" "codes" "LMourningRibbons$Codes;", .methodLink RX2 189 yX0_colourOn, .instanceMethod yX0_colourOn, .selects RX0 yX0_colourOn yX0_colourOn, .initialized RX0, .code yX0_colourOn cX0_colourOn 7 (some .int), .fieldLink RX0 15 "MourningRibbons$Codes" "days" "[I", .fieldLink RX0 11 "MourningRibbons$Codes" "colours" "[I", .methodLink RX0 18 yX0_place, .static yX0_place, .code yX0_place cX0_place 3 (some .int)] ++ wsX20 ++ wsX00)
def wsX2_addLossesOf_r1 : List Cond := [Cond.fieldLink RX2 33 "MourningRibbons" "wornIfLost" "[I", Cond.fieldLink RX2 12 "MourningRibbons" "family" "LMourningRibbons$Family;", Cond.fieldLink RX2 128 "MourningRibbons$Family" "count" "I", Cond.fieldLink RX2 36 "MourningRibbons" "loss" "[I", Cond.fieldLink RX2 71 "MourningRibbons$Family" "degrees" "[I", Cond.methodLink RX2 131 yX2_paintAhead, Cond.instanceMethod yX2_paintAhead, Cond.selects RX2 yX2_paintAhead yX2_paintAhead, Cond.initialized RX2, Cond.code yX2_paintAhead cX2_paintAhead 7 none, Cond.fieldLink RX2 30 "MourningRibbons" "ahead" "[I", Cond.fieldLink RX2 23 "MourningRibbons" "mournedBy" "[I", Cond.fieldLink RX2 105 "MourningRibbons" "today" "I", Cond.fieldLink RX2 27 "MourningRibbons" "deathDay" "[I", Cond.methodLink RX2 274 Lib.Math.min.name, Cond.static Lib.Math.min.name, Cond.initialized "java/lang/Math", Cond.code Lib.Math.min.name Lib.Math.min.code 2 (some .int), Cond.fieldLink RX2 19 "MourningRibbons" "codes" "LMourningRibbons$Codes;", Cond.methodLink RX2 181 Lib.Math.max.name, Cond.static Lib.Math.max.name, Cond.code Lib.Math.max.name Lib.Math.max.code 2 (some .int), Cond.methodLink RX2 192 yJ7_fill_53178, Cond.static yJ7_fill_53178]
def wsX2_addLossesOf_r2 : List Cond := [Cond.initialized RJ7, Cond.code yJ7_fill_53178 cJ7_fill_53178 4 none, Cond.methodLink RX2 123 yX2_pair, Cond.static yX2_pair, Cond.code yX2_pair cX2_pair 2 (some .int), Cond.methodLink RX2 118 yX2_leftFor, Cond.instanceMethod yX2_leftFor, Cond.selects RX2 yX2_leftFor yX2_leftFor, Cond.code yX2_leftFor cX2_leftFor 4 (some .int), Cond.methodLink RX2 97 yX0_daysOfAll, Cond.instanceMethod yX0_daysOfAll, Cond.selects RX0 yX0_daysOfAll yX0_daysOfAll, Cond.initialized RX0, Cond.code yX0_daysOfAll cX0_daysOfAll 5 (some .int), Cond.fieldLink RX0 15 "MourningRibbons$Codes" "days" "[I", Cond.methodLink RX0 18 yX0_place, Cond.static yX0_place, Cond.code yX0_place cX0_place 3 (some .int), Cond.methodLink RX2 189 yX0_colourOn, Cond.instanceMethod yX0_colourOn, Cond.selects RX0 yX0_colourOn yX0_colourOn, Cond.code yX0_colourOn cX0_colourOn 7 (some .int), Cond.fieldLink RX0 11 "MourningRibbons$Codes" "colours" "[I", Cond.methodLink RX2 277 yX2_wornAheadWith]
def wsX2_addLossesOf_r3 : List Cond := [Cond.instanceMethod yX2_wornAheadWith, Cond.selects RX2 yX2_wornAheadWith yX2_wornAheadWith, Cond.code yX2_wornAheadWith cX2_wornAheadWith 4 (some .int), Cond.methodLink RX2 68 yX1_findDegrees, Cond.instanceMethod yX1_findDegrees, Cond.selects RX1 yX1_findDegrees yX1_findDegrees, Cond.initialized RX1, Cond.code yX1_findDegrees cX1_findDegrees 4 none, Cond.fieldLink RX1 22 "MourningRibbons$Family" "degrees" "[I", Cond.fieldLink RX1 25 "MourningRibbons$Family" "count" "I", Cond.methodLink RX1 33 yJ7_fill_53178, Cond.methodLink RX1 39 yX1_reachFrom, Cond.instanceMethod yX1_reachFrom, Cond.selects RX1 yX1_reachFrom yX1_reachFrom, Cond.code yX1_reachFrom cX1_reachFrom 5 none, Cond.methodLink RX1 43 yX1_isStep, Cond.instanceMethod yX1_isStep, Cond.selects RX1 yX1_isStep yX1_isStep, Cond.code yX1_isStep cX1_isStep 3 (some .boolean), Cond.fieldLink RX1 9 "MourningRibbons$Family" "parent" "[I", Cond.fieldLink RX1 15 "MourningRibbons$Family" "spouse" "[I"]
def wsX2_addLossesOf : List Cond := .code yX2_addLossesOf cX2_addLossesOf 3 none :: ((wsX2_addLossesOf_r1 ++ (wsX2_addLossesOf_r2 ++ wsX2_addLossesOf_r3)) ++ wsX20 ++ wsX10 ++ wsX00)
def wsX2_heaviestLoss_r1 : List Cond := [Cond.fieldLink RX2 36 "MourningRibbons" "loss" "[I", Cond.fieldLink RX2 12 "MourningRibbons" "family" "LMourningRibbons$Family;", Cond.fieldLink RX2 128 "MourningRibbons$Family" "count" "I", Cond.fieldLink RX2 101 "MourningRibbons$Family" "alive" "[Z", Cond.methodLink RX2 192 yJ7_fill_53178, Cond.static yJ7_fill_53178, Cond.initialized RJ7, Cond.code yJ7_fill_53178 cJ7_fill_53178 4 none, Cond.methodLink RX2 198 yX2_addLossesOf, Cond.instanceMethod yX2_addLossesOf, Cond.selects RX2 yX2_addLossesOf yX2_addLossesOf, Cond.initialized RX2, Cond.code yX2_addLossesOf cX2_addLossesOf 3 none, Cond.fieldLink RX2 33 "MourningRibbons" "wornIfLost" "[I", Cond.fieldLink RX2 71 "MourningRibbons$Family" "degrees" "[I", Cond.methodLink RX2 131 yX2_paintAhead, Cond.instanceMethod yX2_paintAhead, Cond.selects RX2 yX2_paintAhead yX2_paintAhead, Cond.code yX2_paintAhead cX2_paintAhead 7 none, Cond.fieldLink RX2 30 "MourningRibbons" "ahead" "[I", Cond.fieldLink RX2 23 "MourningRibbons" "mournedBy" "[I", Cond.fieldLink RX2 105 "MourningRibbons" "today" "I", Cond.fieldLink RX2 27 "MourningRibbons" "deathDay" "[I", Cond.methodLink RX2 274 Lib.Math.min.name]
def wsX2_heaviestLoss_r2 : List Cond := [Cond.static Lib.Math.min.name, Cond.initialized "java/lang/Math", Cond.code Lib.Math.min.name Lib.Math.min.code 2 (some .int), Cond.fieldLink RX2 19 "MourningRibbons" "codes" "LMourningRibbons$Codes;", Cond.methodLink RX2 181 Lib.Math.max.name, Cond.static Lib.Math.max.name, Cond.code Lib.Math.max.name Lib.Math.max.code 2 (some .int), Cond.methodLink RX2 123 yX2_pair, Cond.static yX2_pair, Cond.code yX2_pair cX2_pair 2 (some .int), Cond.methodLink RX2 118 yX2_leftFor, Cond.instanceMethod yX2_leftFor, Cond.selects RX2 yX2_leftFor yX2_leftFor, Cond.code yX2_leftFor cX2_leftFor 4 (some .int), Cond.methodLink RX2 97 yX0_daysOfAll, Cond.instanceMethod yX0_daysOfAll, Cond.selects RX0 yX0_daysOfAll yX0_daysOfAll, Cond.initialized RX0, Cond.code yX0_daysOfAll cX0_daysOfAll 5 (some .int), Cond.fieldLink RX0 15 "MourningRibbons$Codes" "days" "[I", Cond.methodLink RX0 18 yX0_place, Cond.static yX0_place, Cond.code yX0_place cX0_place 3 (some .int), Cond.methodLink RX2 189 yX0_colourOn]
def wsX2_heaviestLoss_r3 : List Cond := [Cond.instanceMethod yX0_colourOn, Cond.selects RX0 yX0_colourOn yX0_colourOn, Cond.code yX0_colourOn cX0_colourOn 7 (some .int), Cond.fieldLink RX0 11 "MourningRibbons$Codes" "colours" "[I", Cond.methodLink RX2 277 yX2_wornAheadWith, Cond.instanceMethod yX2_wornAheadWith, Cond.selects RX2 yX2_wornAheadWith yX2_wornAheadWith, Cond.code yX2_wornAheadWith cX2_wornAheadWith 4 (some .int), Cond.methodLink RX2 68 yX1_findDegrees, Cond.instanceMethod yX1_findDegrees, Cond.selects RX1 yX1_findDegrees yX1_findDegrees, Cond.initialized RX1, Cond.code yX1_findDegrees cX1_findDegrees 4 none, Cond.fieldLink RX1 22 "MourningRibbons$Family" "degrees" "[I", Cond.fieldLink RX1 25 "MourningRibbons$Family" "count" "I", Cond.methodLink RX1 33 yJ7_fill_53178, Cond.methodLink RX1 39 yX1_reachFrom, Cond.instanceMethod yX1_reachFrom, Cond.selects RX1 yX1_reachFrom yX1_reachFrom, Cond.code yX1_reachFrom cX1_reachFrom 5 none, Cond.methodLink RX1 43 yX1_isStep, Cond.instanceMethod yX1_isStep, Cond.selects RX1 yX1_isStep yX1_isStep, Cond.code yX1_isStep cX1_isStep 3 (some .boolean)]
def wsX2_heaviestLoss_r4 : List Cond := [Cond.fieldLink RX1 9 "MourningRibbons$Family" "parent" "[I", Cond.fieldLink RX1 15 "MourningRibbons$Family" "spouse" "[I"]
def wsX2_heaviestLoss : List Cond := .code yX2_heaviestLoss cX2_heaviestLoss 3 (some .int) :: ((wsX2_heaviestLoss_r1 ++ (wsX2_heaviestLoss_r2 ++ (wsX2_heaviestLoss_r3 ++ wsX2_heaviestLoss_r4))) ++ wsX20 ++ wsX10 ++ wsX00)
def wsX2_meanDaysLeft_r1 : List Cond := [Cond.fieldLink RX2 12 "MourningRibbons" "family" "LMourningRibbons$Family;", Cond.fieldLink RX2 128 "MourningRibbons$Family" "count" "I", Cond.methodLink RX2 140 yX1_livingCount, Cond.instanceMethod yX1_livingCount, Cond.selects RX1 yX1_livingCount yX1_livingCount, Cond.initialized RX1, Cond.code yX1_livingCount cX1_livingCount 3 (some .int), Cond.fieldLink RX1 25 "MourningRibbons$Family" "count" "I", Cond.fieldLink RX1 18 "MourningRibbons$Family" "alive" "[Z", Cond.methodLink RX2 167 yX2_longestLeft, Cond.instanceMethod yX2_longestLeft, Cond.selects RX2 yX2_longestLeft yX2_longestLeft, Cond.initialized RX2, Cond.code yX2_longestLeft cX2_longestLeft 4 (some .int), Cond.methodLink RX2 181 Lib.Math.max.name, Cond.static Lib.Math.max.name, Cond.initialized "java/lang/Math", Cond.code Lib.Math.max.name Lib.Math.max.code 2 (some .int), Cond.methodLink RX2 118 yX2_leftFor, Cond.instanceMethod yX2_leftFor, Cond.selects RX2 yX2_leftFor yX2_leftFor, Cond.code yX2_leftFor cX2_leftFor 4 (some .int), Cond.fieldLink RX2 19 "MourningRibbons" "codes" "LMourningRibbons$Codes;", Cond.fieldLink RX2 23 "MourningRibbons" "mournedBy" "[I"]
def wsX2_meanDaysLeft_r2 : List Cond := [Cond.fieldLink RX2 105 "MourningRibbons" "today" "I", Cond.fieldLink RX2 27 "MourningRibbons" "deathDay" "[I", Cond.methodLink RX2 123 yX2_pair, Cond.static yX2_pair, Cond.code yX2_pair cX2_pair 2 (some .int), Cond.methodLink RX2 97 yX0_daysOfAll, Cond.instanceMethod yX0_daysOfAll, Cond.selects RX0 yX0_daysOfAll yX0_daysOfAll, Cond.initialized RX0, Cond.code yX0_daysOfAll cX0_daysOfAll 5 (some .int), Cond.fieldLink RX0 15 "MourningRibbons$Codes" "days" "[I", Cond.methodLink RX0 18 yX0_place, Cond.static yX0_place, Cond.code yX0_place cX0_place 3 (some .int)]
def wsX2_meanDaysLeft : List Cond := .code yX2_meanDaysLeft cX2_meanDaysLeft 4 (some .double) :: ((wsX2_meanDaysLeft_r1 ++ wsX2_meanDaysLeft_r2) ++ wsX20 ++ wsX10 ++ wsX00)
def wsX2_digestCode_r1 : List Cond := [Cond.constantLong RX2 203 (31), Cond.methodLink RX2 231 yX2_stageColour, Cond.instanceMethod yX2_stageColour, Cond.selects RX2 yX2_stageColour yX2_stageColour, Cond.initialized RX2, Cond.code yX2_stageColour cX2_stageColour 3 (some .int), Cond.fieldLink RX2 19 "MourningRibbons" "codes" "LMourningRibbons$Codes;", Cond.fieldLink RX2 91 "MourningRibbons$Codes" "colours" "[I", Cond.methodLink RX2 77 yX2_needStage, Cond.instanceMethod yX2_needStage, Cond.selects RX2 yX2_needStage yX2_needStage, Cond.code yX2_needStage cX2_needStage 3 none, Cond.classLink RX2 173 "java/lang/IndexOutOfBoundsException", Cond.initialized "java/lang/IndexOutOfBoundsException", Cond.methodLink RX2 153 yX2_needDegree, Cond.instanceMethod yX2_needDegree, Cond.selects RX2 yX2_needDegree yX2_needDegree, Cond.code yX2_needDegree cX2_needDegree 2 none, Cond.methodLink RX2 87 yX0_place, Cond.static yX0_place, Cond.initialized RX0, Cond.code yX0_place cX0_place 3 (some .int), Cond.methodLink RX2 234 yX2_stageDays, Cond.instanceMethod yX2_stageDays]
def wsX2_digestCode_r2 : List Cond := [Cond.selects RX2 yX2_stageDays yX2_stageDays, Cond.code yX2_stageDays cX2_stageDays 3 (some .int), Cond.fieldLink RX2 94 "MourningRibbons$Codes" "days" "[I"]
def wsX2_digestCode : List Cond := .code yX2_digestCode cX2_digestCode 7 (some .long) :: ((wsX2_digestCode_r1 ++ wsX2_digestCode_r2) ++ wsX20 ++ wsX00 ++ (vx_atS RX2 177 "java/lang/IndexOutOfBoundsException" ["java/lang/RuntimeException", "java/lang/Exception"]).filter goodWord)
def wsX2_digestPerson_r1 : List Cond := [Cond.constantLong RX2 203 (31), Cond.fieldLink RX2 12 "MourningRibbons" "family" "LMourningRibbons$Family;", Cond.methodLink RX2 237 yX2_isAlive, Cond.instanceMethod yX2_isAlive, Cond.selects RX2 yX2_isAlive yX2_isAlive, Cond.initialized RX2, Cond.code yX2_isAlive cX2_isAlive 2 (some .boolean), Cond.fieldLink RX2 101 "MourningRibbons$Family" "alive" "[Z", Cond.methodLink RX2 46 yX2_needPerson, Cond.instanceMethod yX2_needPerson, Cond.selects RX2 yX2_needPerson yX2_needPerson, Cond.code yX2_needPerson cX2_needPerson 2 none, Cond.classLink RX2 173 "java/lang/IndexOutOfBoundsException", Cond.initialized "java/lang/IndexOutOfBoundsException", Cond.fieldLink RX2 128 "MourningRibbons$Family" "count" "I", Cond.methodLink RX2 240 yX2_parentOf, Cond.instanceMethod yX2_parentOf, Cond.selects RX2 yX2_parentOf yX2_parentOf, Cond.code yX2_parentOf cX2_parentOf 2 (some .int), Cond.fieldLink RX2 147 "MourningRibbons$Family" "parent" "[I", Cond.methodLink RX2 243 yX2_marriedTo, Cond.instanceMethod yX2_marriedTo, Cond.selects RX2 yX2_marriedTo yX2_marriedTo, Cond.code yX2_marriedTo cX2_marriedTo 2 (some .int)]
def wsX2_digestPerson_r2 : List Cond := [Cond.fieldLink RX2 150 "MourningRibbons$Family" "spouse" "[I", Cond.methodLink RX2 246 yX2_colourOf, Cond.instanceMethod yX2_colourOf, Cond.selects RX2 yX2_colourOf yX2_colourOf, Cond.code yX2_colourOf cX2_colourOf 2 (some .int), Cond.methodLink RX2 159 yX2_colourAfter, Cond.instanceMethod yX2_colourAfter, Cond.selects RX2 yX2_colourAfter yX2_colourAfter, Cond.code yX2_colourAfter cX2_colourAfter 6 (some .int), Cond.fieldLink RX2 105 "MourningRibbons" "today" "I", Cond.fieldLink RX2 27 "MourningRibbons" "deathDay" "[I", Cond.fieldLink RX2 19 "MourningRibbons" "codes" "LMourningRibbons$Codes;", Cond.fieldLink RX2 23 "MourningRibbons" "mournedBy" "[I", Cond.methodLink RX2 181 Lib.Math.max.name, Cond.static Lib.Math.max.name, Cond.initialized "java/lang/Math", Cond.code Lib.Math.max.name Lib.Math.max.code 2 (some .int), Cond.methodLink RX2 123 yX2_pair, Cond.static yX2_pair, Cond.code yX2_pair cX2_pair 2 (some .int), Cond.methodLink RX2 189 yX0_colourOn, Cond.instanceMethod yX0_colourOn, Cond.selects RX0 yX0_colourOn yX0_colourOn, Cond.initialized RX0]
def wsX2_digestPerson_r3 : List Cond := [Cond.code yX0_colourOn cX0_colourOn 7 (some .int), Cond.fieldLink RX0 15 "MourningRibbons$Codes" "days" "[I", Cond.fieldLink RX0 11 "MourningRibbons$Codes" "colours" "[I", Cond.methodLink RX0 18 yX0_place, Cond.static yX0_place, Cond.code yX0_place cX0_place 3 (some .int), Cond.methodLink RX2 249 yX2_mourningsOf, Cond.instanceMethod yX2_mourningsOf, Cond.selects RX2 yX2_mourningsOf yX2_mourningsOf, Cond.code yX2_mourningsOf cX2_mourningsOf 2 (some .int), Cond.methodLink RX2 164 yX2_countMournings, Cond.instanceMethod yX2_countMournings, Cond.selects RX2 yX2_countMournings yX2_countMournings, Cond.code yX2_countMournings cX2_countMournings 4 (some .int), Cond.methodLink RX2 118 yX2_leftFor, Cond.instanceMethod yX2_leftFor, Cond.selects RX2 yX2_leftFor yX2_leftFor, Cond.code yX2_leftFor cX2_leftFor 4 (some .int), Cond.methodLink RX2 97 yX0_daysOfAll, Cond.instanceMethod yX0_daysOfAll, Cond.selects RX0 yX0_daysOfAll yX0_daysOfAll, Cond.code yX0_daysOfAll cX0_daysOfAll 5 (some .int), Cond.methodLink RX2 252 yX2_daysLeft, Cond.instanceMethod yX2_daysLeft]
def wsX2_digestPerson_r4 : List Cond := [Cond.selects RX2 yX2_daysLeft yX2_daysLeft, Cond.code yX2_daysLeft cX2_daysLeft 2 (some .int), Cond.methodLink RX2 167 yX2_longestLeft, Cond.instanceMethod yX2_longestLeft, Cond.selects RX2 yX2_longestLeft yX2_longestLeft, Cond.code yX2_longestLeft cX2_longestLeft 4 (some .int), Cond.methodLink RX2 255 yX2_daysUntilLighter, Cond.instanceMethod yX2_daysUntilLighter, Cond.selects RX2 yX2_daysUntilLighter yX2_daysUntilLighter, Cond.code yX2_daysUntilLighter cX2_daysUntilLighter 2 (some .int), Cond.methodLink RX2 131 yX2_paintAhead, Cond.instanceMethod yX2_paintAhead, Cond.selects RX2 yX2_paintAhead yX2_paintAhead, Cond.code yX2_paintAhead cX2_paintAhead 7 none, Cond.fieldLink RX2 30 "MourningRibbons" "ahead" "[I", Cond.methodLink RX2 274 Lib.Math.min.name, Cond.static Lib.Math.min.name, Cond.code Lib.Math.min.name Lib.Math.min.code 2 (some .int), Cond.methodLink RX2 192 yJ7_fill_53178, Cond.static yJ7_fill_53178, Cond.initialized RJ7, Cond.code yJ7_fill_53178 cJ7_fill_53178 4 none, Cond.methodLink RX2 170 yX2_firstLighterDay, Cond.instanceMethod yX2_firstLighterDay]
def wsX2_digestPerson_r5 : List Cond := [Cond.selects RX2 yX2_firstLighterDay yX2_firstLighterDay, Cond.code yX2_firstLighterDay cX2_firstLighterDay 2 (some .int), Cond.methodLink RX2 68 yX1_findDegrees, Cond.instanceMethod yX1_findDegrees, Cond.selects RX1 yX1_findDegrees yX1_findDegrees, Cond.initialized RX1, Cond.code yX1_findDegrees cX1_findDegrees 4 none, Cond.fieldLink RX1 22 "MourningRibbons$Family" "degrees" "[I", Cond.fieldLink RX1 25 "MourningRibbons$Family" "count" "I", Cond.methodLink RX1 33 yJ7_fill_53178, Cond.methodLink RX1 39 yX1_reachFrom, Cond.instanceMethod yX1_reachFrom, Cond.selects RX1 yX1_reachFrom yX1_reachFrom, Cond.code yX1_reachFrom cX1_reachFrom 5 none, Cond.methodLink RX1 43 yX1_isStep, Cond.instanceMethod yX1_isStep, Cond.selects RX1 yX1_isStep yX1_isStep, Cond.code yX1_isStep cX1_isStep 3 (some .boolean), Cond.fieldLink RX1 9 "MourningRibbons$Family" "parent" "[I", Cond.fieldLink RX1 15 "MourningRibbons$Family" "spouse" "[I", Cond.methodLink RX2 156 yX1_countKin, Cond.instanceMethod yX1_countKin, Cond.selects RX1 yX1_countKin yX1_countKin, Cond.code yX1_countKin cX1_countKin 4 (some .int)]
def wsX2_digestPerson_r6 : List Cond := [Cond.fieldLink RX1 18 "MourningRibbons$Family" "alive" "[Z"]
def wsX2_digestPerson : List Cond := .code yX2_digestPerson cX2_digestPerson 7 (some .long) :: ((wsX2_digestPerson_r1 ++ (wsX2_digestPerson_r2 ++ (wsX2_digestPerson_r3 ++ (wsX2_digestPerson_r4 ++ (wsX2_digestPerson_r5 ++ wsX2_digestPerson_r6))))) ++ wsX20 ++ wsX10 ++ wsX00 ++ (vx_atS RX2 177 "java/lang/IndexOutOfBoundsException" ["java/lang/RuntimeException", "java/lang/Exception"]).filter goodWord)
def wsX2_digest_r1 : List Cond := [Cond.constantLong RX2 201 (1931), Cond.constantLong RX2 203 (31), Cond.fieldLink RX2 12 "MourningRibbons" "family" "LMourningRibbons$Family;", Cond.fieldLink RX2 128 "MourningRibbons$Family" "count" "I", Cond.methodLink RX2 205 yX2_people, Cond.instanceMethod yX2_people, Cond.selects RX2 yX2_people yX2_people, Cond.initialized RX2, Cond.code yX2_people cX2_people 1 (some .int), Cond.methodLink RX2 208 yX2_living, Cond.instanceMethod yX2_living, Cond.selects RX2 yX2_living yX2_living, Cond.code yX2_living cX2_living 1 (some .int), Cond.methodLink RX2 140 yX1_livingCount, Cond.instanceMethod yX1_livingCount, Cond.selects RX1 yX1_livingCount yX1_livingCount, Cond.initialized RX1, Cond.code yX1_livingCount cX1_livingCount 3 (some .int), Cond.fieldLink RX1 25 "MourningRibbons$Family" "count" "I", Cond.fieldLink RX1 18 "MourningRibbons$Family" "alive" "[Z", Cond.methodLink RX2 211 yX2_day, Cond.instanceMethod yX2_day, Cond.selects RX2 yX2_day yX2_day, Cond.code yX2_day cX2_day 1 (some .int)]
def wsX2_digest_r2 : List Cond := [Cond.fieldLink RX2 105 "MourningRibbons" "today" "I", Cond.methodLink RX2 214 yX2_strictest, Cond.instanceMethod yX2_strictest, Cond.selects RX2 yX2_strictest yX2_strictest, Cond.code yX2_strictest cX2_strictest 3 (some .int), Cond.methodLink RX2 181 Lib.Math.max.name, Cond.static Lib.Math.max.name, Cond.initialized "java/lang/Math", Cond.code Lib.Math.max.name Lib.Math.max.code 2 (some .int), Cond.methodLink RX2 159 yX2_colourAfter, Cond.instanceMethod yX2_colourAfter, Cond.selects RX2 yX2_colourAfter yX2_colourAfter, Cond.code yX2_colourAfter cX2_colourAfter 6 (some .int), Cond.fieldLink RX2 27 "MourningRibbons" "deathDay" "[I", Cond.fieldLink RX2 19 "MourningRibbons" "codes" "LMourningRibbons$Codes;", Cond.fieldLink RX2 23 "MourningRibbons" "mournedBy" "[I", Cond.methodLink RX2 123 yX2_pair, Cond.static yX2_pair, Cond.code yX2_pair cX2_pair 2 (some .int), Cond.methodLink RX2 189 yX0_colourOn, Cond.instanceMethod yX0_colourOn, Cond.selects RX0 yX0_colourOn yX0_colourOn, Cond.initialized RX0, Cond.code yX0_colourOn cX0_colourOn 7 (some .int)]
def wsX2_digest_r3 : List Cond := [Cond.fieldLink RX0 15 "MourningRibbons$Codes" "days" "[I", Cond.fieldLink RX0 11 "MourningRibbons$Codes" "colours" "[I", Cond.methodLink RX0 18 yX0_place, Cond.static yX0_place, Cond.code yX0_place cX0_place 3 (some .int), Cond.methodLink RX2 217 yX2_longestMourner, Cond.instanceMethod yX2_longestMourner, Cond.selects RX2 yX2_longestMourner yX2_longestMourner, Cond.code yX2_longestMourner cX2_longestMourner 5 (some .int), Cond.methodLink RX2 167 yX2_longestLeft, Cond.instanceMethod yX2_longestLeft, Cond.selects RX2 yX2_longestLeft yX2_longestLeft, Cond.code yX2_longestLeft cX2_longestLeft 4 (some .int), Cond.methodLink RX2 118 yX2_leftFor, Cond.instanceMethod yX2_leftFor, Cond.selects RX2 yX2_leftFor yX2_leftFor, Cond.code yX2_leftFor cX2_leftFor 4 (some .int), Cond.methodLink RX2 97 yX0_daysOfAll, Cond.instanceMethod yX0_daysOfAll, Cond.selects RX0 yX0_daysOfAll yX0_daysOfAll, Cond.code yX0_daysOfAll cX0_daysOfAll 5 (some .int), Cond.methodLink RX2 220 yX2_daysWorn, Cond.instanceMethod yX2_daysWorn, Cond.selects RX2 yX2_daysWorn yX2_daysWorn]
def wsX2_digest_r4 : List Cond := [Cond.code yX2_daysWorn cX2_daysWorn 1 (some .int), Cond.fieldLink RX2 134 "MourningRibbons" "wornSoFar" "I", Cond.methodLink RX2 223 yX2_digestCode, Cond.instanceMethod yX2_digestCode, Cond.selects RX2 yX2_digestCode yX2_digestCode, Cond.code yX2_digestCode cX2_digestCode 7 (some .long), Cond.methodLink RX2 231 yX2_stageColour, Cond.instanceMethod yX2_stageColour, Cond.selects RX2 yX2_stageColour yX2_stageColour, Cond.code yX2_stageColour cX2_stageColour 3 (some .int), Cond.fieldLink RX2 91 "MourningRibbons$Codes" "colours" "[I", Cond.methodLink RX2 77 yX2_needStage, Cond.instanceMethod yX2_needStage, Cond.selects RX2 yX2_needStage yX2_needStage, Cond.code yX2_needStage cX2_needStage 3 none, Cond.classLink RX2 173 "java/lang/IndexOutOfBoundsException", Cond.initialized "java/lang/IndexOutOfBoundsException", Cond.methodLink RX2 153 yX2_needDegree, Cond.instanceMethod yX2_needDegree, Cond.selects RX2 yX2_needDegree yX2_needDegree, Cond.code yX2_needDegree cX2_needDegree 2 none, Cond.methodLink RX2 87 yX0_place, Cond.methodLink RX2 234 yX2_stageDays, Cond.instanceMethod yX2_stageDays]
def wsX2_digest_r5 : List Cond := [Cond.selects RX2 yX2_stageDays yX2_stageDays, Cond.code yX2_stageDays cX2_stageDays 3 (some .int), Cond.fieldLink RX2 94 "MourningRibbons$Codes" "days" "[I", Cond.methodLink RX2 227 yX2_digestPerson, Cond.instanceMethod yX2_digestPerson, Cond.selects RX2 yX2_digestPerson yX2_digestPerson, Cond.code yX2_digestPerson cX2_digestPerson 7 (some .long), Cond.methodLink RX2 237 yX2_isAlive, Cond.instanceMethod yX2_isAlive, Cond.selects RX2 yX2_isAlive yX2_isAlive, Cond.code yX2_isAlive cX2_isAlive 2 (some .boolean), Cond.fieldLink RX2 101 "MourningRibbons$Family" "alive" "[Z", Cond.methodLink RX2 46 yX2_needPerson, Cond.instanceMethod yX2_needPerson, Cond.selects RX2 yX2_needPerson yX2_needPerson, Cond.code yX2_needPerson cX2_needPerson 2 none, Cond.methodLink RX2 240 yX2_parentOf, Cond.instanceMethod yX2_parentOf, Cond.selects RX2 yX2_parentOf yX2_parentOf, Cond.code yX2_parentOf cX2_parentOf 2 (some .int), Cond.fieldLink RX2 147 "MourningRibbons$Family" "parent" "[I", Cond.methodLink RX2 243 yX2_marriedTo, Cond.instanceMethod yX2_marriedTo, Cond.selects RX2 yX2_marriedTo yX2_marriedTo]
def wsX2_digest_r6 : List Cond := [Cond.code yX2_marriedTo cX2_marriedTo 2 (some .int), Cond.fieldLink RX2 150 "MourningRibbons$Family" "spouse" "[I", Cond.methodLink RX2 246 yX2_colourOf, Cond.instanceMethod yX2_colourOf, Cond.selects RX2 yX2_colourOf yX2_colourOf, Cond.code yX2_colourOf cX2_colourOf 2 (some .int), Cond.methodLink RX2 249 yX2_mourningsOf, Cond.instanceMethod yX2_mourningsOf, Cond.selects RX2 yX2_mourningsOf yX2_mourningsOf, Cond.code yX2_mourningsOf cX2_mourningsOf 2 (some .int), Cond.methodLink RX2 164 yX2_countMournings, Cond.instanceMethod yX2_countMournings, Cond.selects RX2 yX2_countMournings yX2_countMournings, Cond.code yX2_countMournings cX2_countMournings 4 (some .int), Cond.methodLink RX2 252 yX2_daysLeft, Cond.instanceMethod yX2_daysLeft, Cond.selects RX2 yX2_daysLeft yX2_daysLeft, Cond.code yX2_daysLeft cX2_daysLeft 2 (some .int), Cond.methodLink RX2 255 yX2_daysUntilLighter, Cond.instanceMethod yX2_daysUntilLighter, Cond.selects RX2 yX2_daysUntilLighter yX2_daysUntilLighter, Cond.code yX2_daysUntilLighter cX2_daysUntilLighter 2 (some .int), Cond.methodLink RX2 131 yX2_paintAhead, Cond.instanceMethod yX2_paintAhead]
def wsX2_digest_r7 : List Cond := [Cond.selects RX2 yX2_paintAhead yX2_paintAhead, Cond.code yX2_paintAhead cX2_paintAhead 7 none, Cond.fieldLink RX2 30 "MourningRibbons" "ahead" "[I", Cond.methodLink RX2 274 Lib.Math.min.name, Cond.static Lib.Math.min.name, Cond.code Lib.Math.min.name Lib.Math.min.code 2 (some .int), Cond.methodLink RX2 192 yJ7_fill_53178, Cond.static yJ7_fill_53178, Cond.initialized RJ7, Cond.code yJ7_fill_53178 cJ7_fill_53178 4 none, Cond.methodLink RX2 170 yX2_firstLighterDay, Cond.instanceMethod yX2_firstLighterDay, Cond.selects RX2 yX2_firstLighterDay yX2_firstLighterDay, Cond.code yX2_firstLighterDay cX2_firstLighterDay 2 (some .int), Cond.methodLink RX2 68 yX1_findDegrees, Cond.instanceMethod yX1_findDegrees, Cond.selects RX1 yX1_findDegrees yX1_findDegrees, Cond.code yX1_findDegrees cX1_findDegrees 4 none, Cond.fieldLink RX1 22 "MourningRibbons$Family" "degrees" "[I", Cond.methodLink RX1 33 yJ7_fill_53178, Cond.methodLink RX1 39 yX1_reachFrom, Cond.instanceMethod yX1_reachFrom, Cond.selects RX1 yX1_reachFrom yX1_reachFrom, Cond.code yX1_reachFrom cX1_reachFrom 5 none]
def wsX2_digest_r8 : List Cond := [Cond.methodLink RX1 43 yX1_isStep, Cond.instanceMethod yX1_isStep, Cond.selects RX1 yX1_isStep yX1_isStep, Cond.code yX1_isStep cX1_isStep 3 (some .boolean), Cond.fieldLink RX1 9 "MourningRibbons$Family" "parent" "[I", Cond.fieldLink RX1 15 "MourningRibbons$Family" "spouse" "[I", Cond.methodLink RX2 156 yX1_countKin, Cond.instanceMethod yX1_countKin, Cond.selects RX1 yX1_countKin yX1_countKin, Cond.code yX1_countKin cX1_countKin 4 (some .int)]
def wsX2_digest : List Cond := .code yX2_digest cX2_digest 4 (some .long) :: ((wsX2_digest_r1 ++ (wsX2_digest_r2 ++ (wsX2_digest_r3 ++ (wsX2_digest_r4 ++ (wsX2_digest_r5 ++ (wsX2_digest_r6 ++ (wsX2_digest_r7 ++ wsX2_digest_r8))))))) ++ wsX20 ++ wsX10 ++ wsX00 ++ (vx_atS RX2 177 "java/lang/IndexOutOfBoundsException" ["java/lang/RuntimeException", "java/lang/Exception"]).filter goodWord)
def wsX3_init : List Cond := .code yX3_init cX3_init 1 none :: ([.methodLink RX3 1 objectInit, .instanceMethod objectInit, .code objectInit ⟨#[0xb1]⟩ 1 none, .classLink RX3 7 "[I", .fieldLink RX3 9 "MourningRibbonsLaw$Sim" "people" "[[I", .fieldLink RX3 17 "MourningRibbonsLaw$Sim" "code" "[[[I", .fieldLink RX3 20 "MourningRibbonsLaw$Sim" "mournings" "[[I"] ++ wsX30)
def wsX3_more : List Cond := .code yX3_more cX3_more 4 (some (.array (.array .int))) :: ([.classLink RX3 7 "[I"])
def wsX3_degrees : List Cond := .code yX3_degrees cX3_degrees 7 (some (.array (.array .int))) :: ([.fieldLink RX3 9 "MourningRibbonsLaw$Sim" "people" "[[I", .classLink RX3 23 "[[I", .arrayClass .int] ++ wsX30)
def wsX3_length : List Cond := .code yX3_length cX3_length 2 (some .int) :: ([.fieldLink RX3 17 "MourningRibbonsLaw$Sim" "code" "[[[I"] ++ wsX30)
def wsX3_on : List Cond := .code yX3_on cX3_on 4 (some .int) :: ([])
def wsX3_end : List Cond := .code yX3_end cX3_end 1 (some .int) :: ([])
def wsX3_wears : List Cond := .code yX3_wears cX3_wears 8 (some .int) :: ([.fieldLink RX3 20 "MourningRibbonsLaw$Sim" "mournings" "[[I", .methodLink RX3 28 Lib.Math.max.name, .static Lib.Math.max.name, .initialized "java/lang/Math", .code Lib.Math.max.name Lib.Math.max.code 2 (some .int), .methodLink RX3 24 yX3_on, .static yX3_on, .initialized RX3, .code yX3_on cX3_on 4 (some .int)] ++ wsX30)
def wsX3_left : List Cond := .code yX3_left cX3_left 8 (some .int) :: ([.fieldLink RX3 20 "MourningRibbonsLaw$Sim" "mournings" "[[I", .fieldLink RX3 38 "MourningRibbonsLaw$Sim" "day" "I", .methodLink RX3 28 Lib.Math.max.name, .static Lib.Math.max.name, .initialized "java/lang/Math", .code Lib.Math.max.name Lib.Math.max.code 2 (some .int), .methodLink RX3 34 yX3_end, .static yX3_end, .initialized RX3, .code yX3_end cX3_end 1 (some .int)] ++ wsX30)
def wsX3_brought : List Cond := .code yX3_brought cX3_brought 7 (some (.array (.array .int))) :: ([.classLink RX3 7 "[I", .fieldLink RX3 9 "MourningRibbonsLaw$Sim" "people" "[[I", .fieldLink RX3 17 "MourningRibbonsLaw$Sim" "code" "[[[I", .arrayClass .int, .fieldLink RX3 38 "MourningRibbonsLaw$Sim" "day" "I", .methodLink RX3 42 yX3_degrees, .instanceMethod yX3_degrees, .selects RX3 yX3_degrees yX3_degrees, .initialized RX3, .code yX3_degrees cX3_degrees 7 (some (.array (.array .int))), .classLink RX3 23 "[[I", .methodLink RX3 46 yX3_length, .instanceMethod yX3_length, .selects RX3 yX3_length yX3_length, .code yX3_length cX3_length 2 (some .int), .methodLink RX3 50 yX3_more, .static yX3_more, .code yX3_more cX3_more 4 (some (.array (.array .int)))] ++ wsX30)
def wsX3_die : List Cond := .code yX3_die cX3_die 8 (some .int) :: ([.classLink RX3 7 "[I", .fieldLink RX3 20 "MourningRibbonsLaw$Sim" "mournings" "[[I", .fieldLink RX3 9 "MourningRibbonsLaw$Sim" "people" "[[I", .methodLink RX3 54 yX3_brought, .instanceMethod yX3_brought, .selects RX3 yX3_brought yX3_brought, .initialized RX3, .code yX3_brought cX3_brought 7 (some (.array (.array .int))), .fieldLink RX3 17 "MourningRibbonsLaw$Sim" "code" "[[[I", .arrayClass .int, .fieldLink RX3 38 "MourningRibbonsLaw$Sim" "day" "I", .methodLink RX3 42 yX3_degrees, .instanceMethod yX3_degrees, .selects RX3 yX3_degrees yX3_degrees, .code yX3_degrees cX3_degrees 7 (some (.array (.array .int))), .classLink RX3 23 "[[I", .methodLink RX3 46 yX3_length, .instanceMethod yX3_length, .selects RX3 yX3_length yX3_length, .code yX3_length cX3_length 2 (some .int), .methodLink RX3 50 yX3_more, .static yX3_more, .code yX3_more cX3_more 4 (some (.array (.array .int)))] ++ wsX30)
def wsX3_drop : List Cond := .code yX3_drop cX3_drop 8 none :: ([.classLink RX3 7 "[I", .fieldLink RX3 20 "MourningRibbonsLaw$Sim" "mournings" "[[I", .methodLink RX3 50 yX3_more, .static yX3_more, .initialized RX3, .code yX3_more cX3_more 4 (some (.array (.array .int)))] ++ wsX30)
def wsX3_inColour : List Cond := .code yX3_inColour cX3_inColour 3 (some .int) :: ([.fieldLink RX3 9 "MourningRibbonsLaw$Sim" "people" "[[I", .fieldLink RX3 38 "MourningRibbonsLaw$Sim" "day" "I", .methodLink RX3 58 yX3_wears, .instanceMethod yX3_wears, .selects RX3 yX3_wears yX3_wears, .initialized RX3, .code yX3_wears cX3_wears 8 (some .int), .fieldLink RX3 20 "MourningRibbonsLaw$Sim" "mournings" "[[I", .methodLink RX3 28 Lib.Math.max.name, .static Lib.Math.max.name, .initialized "java/lang/Math", .code Lib.Math.max.name Lib.Math.max.code 2 (some .int), .methodLink RX3 24 yX3_on, .static yX3_on, .code yX3_on cX3_on 4 (some .int)] ++ wsX30)
def wsX3_pass_r1 : List Cond := [Cond.fieldLink RX3 61 "MourningRibbonsLaw$Sim" "worn" "I", Cond.fieldLink RX3 38 "MourningRibbonsLaw$Sim" "day" "I", Cond.classLink RX3 7 "[I", Cond.fieldLink RX3 20 "MourningRibbonsLaw$Sim" "mournings" "[[I", Cond.methodLink RX3 64 yX3_inColour, Cond.instanceMethod yX3_inColour, Cond.selects RX3 yX3_inColour yX3_inColour, Cond.initialized RX3, Cond.code yX3_inColour cX3_inColour 3 (some .int), Cond.fieldLink RX3 9 "MourningRibbonsLaw$Sim" "people" "[[I", Cond.methodLink RX3 58 yX3_wears, Cond.instanceMethod yX3_wears, Cond.selects RX3 yX3_wears yX3_wears, Cond.code yX3_wears cX3_wears 8 (some .int), Cond.methodLink RX3 28 Lib.Math.max.name, Cond.static Lib.Math.max.name, Cond.initialized "java/lang/Math", Cond.code Lib.Math.max.name Lib.Math.max.code 2 (some .int), Cond.methodLink RX3 24 yX3_on, Cond.static yX3_on, Cond.code yX3_on cX3_on 4 (some .int), Cond.methodLink RX3 34 yX3_end, Cond.static yX3_end, Cond.code yX3_end cX3_end 1 (some .int)]
def wsX3_pass_r2 : List Cond := [Cond.methodLink RX3 50 yX3_more, Cond.static yX3_more, Cond.code yX3_more cX3_more 4 (some (.array (.array .int)))]
def wsX3_pass : List Cond := .code yX3_pass cX3_pass 7 (some .int) :: ((wsX3_pass_r1 ++ wsX3_pass_r2) ++ wsX30)
def wsX3_canMarry : List Cond := .code yX3_canMarry cX3_canMarry 2 (some .boolean) :: ([.fieldLink RX3 9 "MourningRibbonsLaw$Sim" "people" "[[I"] ++ wsX30)
def wsX3_marry : List Cond := .code yX3_marry cX3_marry 3 none :: ([.fieldLink RX3 9 "MourningRibbonsLaw$Sim" "people" "[[I"] ++ wsX30)
def wsX3_isSame_r1 : List Cond := [Cond.fieldLink RX3 9 "MourningRibbonsLaw$Sim" "people" "[[I", Cond.arrayClass .int, Cond.fieldLink RX3 38 "MourningRibbonsLaw$Sim" "day" "I", Cond.fieldLink RX3 17 "MourningRibbonsLaw$Sim" "code" "[[[I", Cond.fieldLink RX3 61 "MourningRibbonsLaw$Sim" "worn" "I", Cond.methodLink RX3 42 yX3_degrees, Cond.instanceMethod yX3_degrees, Cond.selects RX3 yX3_degrees yX3_degrees, Cond.initialized RX3, Cond.code yX3_degrees cX3_degrees 7 (some (.array (.array .int))), Cond.classLink RX3 23 "[[I", Cond.methodLink RX3 68 yX3_left, Cond.instanceMethod yX3_left, Cond.selects RX3 yX3_left yX3_left, Cond.code yX3_left cX3_left 8 (some .int), Cond.fieldLink RX3 20 "MourningRibbonsLaw$Sim" "mournings" "[[I", Cond.methodLink RX3 28 Lib.Math.max.name, Cond.static Lib.Math.max.name, Cond.initialized "java/lang/Math", Cond.code Lib.Math.max.name Lib.Math.max.code 2 (some .int), Cond.methodLink RX3 34 yX3_end, Cond.static yX3_end, Cond.code yX3_end cX3_end 1 (some .int), Cond.methodLink RX3 71 yX2_daysLeftFor]
def wsX3_isSame_r2 : List Cond := [Cond.instanceMethod yX2_daysLeftFor, Cond.selects RX2 yX2_daysLeftFor yX2_daysLeftFor, Cond.initialized RX2, Cond.code yX2_daysLeftFor cX2_daysLeftFor 3 (some .int), Cond.methodLink RX2 46 yX2_needPerson, Cond.instanceMethod yX2_needPerson, Cond.selects RX2 yX2_needPerson yX2_needPerson, Cond.code yX2_needPerson cX2_needPerson 2 none, Cond.classLink RX2 173 "java/lang/IndexOutOfBoundsException", Cond.initialized "java/lang/IndexOutOfBoundsException", Cond.fieldLink RX2 12 "MourningRibbons" "family" "LMourningRibbons$Family;", Cond.fieldLink RX2 128 "MourningRibbons$Family" "count" "I", Cond.methodLink RX2 118 yX2_leftFor, Cond.instanceMethod yX2_leftFor, Cond.selects RX2 yX2_leftFor yX2_leftFor, Cond.code yX2_leftFor cX2_leftFor 4 (some .int), Cond.fieldLink RX2 19 "MourningRibbons" "codes" "LMourningRibbons$Codes;", Cond.fieldLink RX2 23 "MourningRibbons" "mournedBy" "[I", Cond.fieldLink RX2 105 "MourningRibbons" "today" "I", Cond.fieldLink RX2 27 "MourningRibbons" "deathDay" "[I", Cond.methodLink RX2 181 Lib.Math.max.name, Cond.methodLink RX2 123 yX2_pair, Cond.static yX2_pair, Cond.code yX2_pair cX2_pair 2 (some .int)]
def wsX3_isSame_r3 : List Cond := [Cond.methodLink RX2 97 yX0_daysOfAll, Cond.instanceMethod yX0_daysOfAll, Cond.selects RX0 yX0_daysOfAll yX0_daysOfAll, Cond.initialized RX0, Cond.code yX0_daysOfAll cX0_daysOfAll 5 (some .int), Cond.fieldLink RX0 15 "MourningRibbons$Codes" "days" "[I", Cond.methodLink RX0 18 yX0_place, Cond.static yX0_place, Cond.code yX0_place cX0_place 3 (some .int), Cond.methodLink RX3 76 yX2_degreeOf, Cond.instanceMethod yX2_degreeOf, Cond.selects RX2 yX2_degreeOf yX2_degreeOf, Cond.code yX2_degreeOf cX2_degreeOf 3 (some .int), Cond.fieldLink RX2 71 "MourningRibbons$Family" "degrees" "[I", Cond.methodLink RX2 68 yX1_findDegrees, Cond.instanceMethod yX1_findDegrees, Cond.selects RX1 yX1_findDegrees yX1_findDegrees, Cond.initialized RX1, Cond.code yX1_findDegrees cX1_findDegrees 4 none, Cond.fieldLink RX1 22 "MourningRibbons$Family" "degrees" "[I", Cond.fieldLink RX1 25 "MourningRibbons$Family" "count" "I", Cond.methodLink RX1 33 yJ7_fill_53178, Cond.static yJ7_fill_53178, Cond.initialized RJ7]
def wsX3_isSame_r4 : List Cond := [Cond.code yJ7_fill_53178 cJ7_fill_53178 4 none, Cond.methodLink RX1 39 yX1_reachFrom, Cond.instanceMethod yX1_reachFrom, Cond.selects RX1 yX1_reachFrom yX1_reachFrom, Cond.code yX1_reachFrom cX1_reachFrom 5 none, Cond.methodLink RX1 43 yX1_isStep, Cond.instanceMethod yX1_isStep, Cond.selects RX1 yX1_isStep yX1_isStep, Cond.code yX1_isStep cX1_isStep 3 (some .boolean), Cond.fieldLink RX1 9 "MourningRibbons$Family" "parent" "[I", Cond.fieldLink RX1 15 "MourningRibbons$Family" "spouse" "[I", Cond.methodLink RX3 79 yX2_kinOf, Cond.instanceMethod yX2_kinOf, Cond.selects RX2 yX2_kinOf yX2_kinOf, Cond.code yX2_kinOf cX2_kinOf 3 (some .int), Cond.methodLink RX2 153 yX2_needDegree, Cond.instanceMethod yX2_needDegree, Cond.selects RX2 yX2_needDegree yX2_needDegree, Cond.code yX2_needDegree cX2_needDegree 2 none, Cond.methodLink RX2 156 yX1_countKin, Cond.instanceMethod yX1_countKin, Cond.selects RX1 yX1_countKin yX1_countKin, Cond.code yX1_countKin cX1_countKin 4 (some .int), Cond.fieldLink RX1 18 "MourningRibbons$Family" "alive" "[Z"]
def wsX3_isSame_r5 : List Cond := [Cond.methodLink RX3 58 yX3_wears, Cond.instanceMethod yX3_wears, Cond.selects RX3 yX3_wears yX3_wears, Cond.code yX3_wears cX3_wears 8 (some .int), Cond.methodLink RX3 24 yX3_on, Cond.static yX3_on, Cond.code yX3_on cX3_on 4 (some .int), Cond.methodLink RX3 82 yX2_isAlive, Cond.instanceMethod yX2_isAlive, Cond.selects RX2 yX2_isAlive yX2_isAlive, Cond.code yX2_isAlive cX2_isAlive 2 (some .boolean), Cond.fieldLink RX2 101 "MourningRibbons$Family" "alive" "[Z", Cond.methodLink RX3 86 yX2_parentOf, Cond.instanceMethod yX2_parentOf, Cond.selects RX2 yX2_parentOf yX2_parentOf, Cond.code yX2_parentOf cX2_parentOf 2 (some .int), Cond.fieldLink RX2 147 "MourningRibbons$Family" "parent" "[I", Cond.methodLink RX3 89 yX2_marriedTo, Cond.instanceMethod yX2_marriedTo, Cond.selects RX2 yX2_marriedTo yX2_marriedTo, Cond.code yX2_marriedTo cX2_marriedTo 2 (some .int), Cond.fieldLink RX2 150 "MourningRibbons$Family" "spouse" "[I", Cond.methodLink RX3 92 yX2_colourOf, Cond.instanceMethod yX2_colourOf]
def wsX3_isSame_r6 : List Cond := [Cond.selects RX2 yX2_colourOf yX2_colourOf, Cond.code yX2_colourOf cX2_colourOf 2 (some .int), Cond.methodLink RX2 159 yX2_colourAfter, Cond.instanceMethod yX2_colourAfter, Cond.selects RX2 yX2_colourAfter yX2_colourAfter, Cond.code yX2_colourAfter cX2_colourAfter 6 (some .int), Cond.methodLink RX2 189 yX0_colourOn, Cond.instanceMethod yX0_colourOn, Cond.selects RX0 yX0_colourOn yX0_colourOn, Cond.code yX0_colourOn cX0_colourOn 7 (some .int), Cond.fieldLink RX0 11 "MourningRibbons$Codes" "colours" "[I", Cond.methodLink RX3 95 yX2_mourningsOf, Cond.instanceMethod yX2_mourningsOf, Cond.selects RX2 yX2_mourningsOf yX2_mourningsOf, Cond.code yX2_mourningsOf cX2_mourningsOf 2 (some .int), Cond.methodLink RX2 164 yX2_countMournings, Cond.instanceMethod yX2_countMournings, Cond.selects RX2 yX2_countMournings yX2_countMournings, Cond.code yX2_countMournings cX2_countMournings 4 (some .int), Cond.methodLink RX3 98 yX2_daysLeft, Cond.instanceMethod yX2_daysLeft, Cond.selects RX2 yX2_daysLeft yX2_daysLeft, Cond.code yX2_daysLeft cX2_daysLeft 2 (some .int), Cond.methodLink RX2 167 yX2_longestLeft]
def wsX3_isSame_r7 : List Cond := [Cond.instanceMethod yX2_longestLeft, Cond.selects RX2 yX2_longestLeft yX2_longestLeft, Cond.code yX2_longestLeft cX2_longestLeft 4 (some .int), Cond.methodLink RX3 101 yX2_wearing, Cond.instanceMethod yX2_wearing, Cond.selects RX2 yX2_wearing yX2_wearing, Cond.code yX2_wearing cX2_wearing 2 (some .int), Cond.methodLink RX2 144 yX2_countWearing, Cond.instanceMethod yX2_countWearing, Cond.selects RX2 yX2_countWearing yX2_countWearing, Cond.code yX2_countWearing cX2_countWearing 4 (some .int), Cond.methodLink RX3 104 yX2_stageColour, Cond.instanceMethod yX2_stageColour, Cond.selects RX2 yX2_stageColour yX2_stageColour, Cond.code yX2_stageColour cX2_stageColour 3 (some .int), Cond.fieldLink RX2 91 "MourningRibbons$Codes" "colours" "[I", Cond.methodLink RX2 77 yX2_needStage, Cond.instanceMethod yX2_needStage, Cond.selects RX2 yX2_needStage yX2_needStage, Cond.code yX2_needStage cX2_needStage 3 none, Cond.methodLink RX2 87 yX0_place, Cond.methodLink RX3 107 yX2_stageDays, Cond.instanceMethod yX2_stageDays, Cond.selects RX2 yX2_stageDays yX2_stageDays]
def wsX3_isSame_r8 : List Cond := [Cond.code yX2_stageDays cX2_stageDays 3 (some .int), Cond.fieldLink RX2 94 "MourningRibbons$Codes" "days" "[I", Cond.methodLink RX3 110 yX2_people, Cond.instanceMethod yX2_people, Cond.selects RX2 yX2_people yX2_people, Cond.code yX2_people cX2_people 1 (some .int), Cond.methodLink RX3 112 yX2_living, Cond.instanceMethod yX2_living, Cond.selects RX2 yX2_living yX2_living, Cond.code yX2_living cX2_living 1 (some .int), Cond.methodLink RX2 140 yX1_livingCount, Cond.instanceMethod yX1_livingCount, Cond.selects RX1 yX1_livingCount yX1_livingCount, Cond.code yX1_livingCount cX1_livingCount 3 (some .int), Cond.methodLink RX3 115 yX2_day, Cond.instanceMethod yX2_day, Cond.selects RX2 yX2_day yX2_day, Cond.code yX2_day cX2_day 1 (some .int), Cond.methodLink RX3 117 yX2_strictest, Cond.instanceMethod yX2_strictest, Cond.selects RX2 yX2_strictest yX2_strictest, Cond.code yX2_strictest cX2_strictest 3 (some .int), Cond.methodLink RX3 120 yX2_longestMourner, Cond.instanceMethod yX2_longestMourner]
def wsX3_isSame_r9 : List Cond := [Cond.selects RX2 yX2_longestMourner yX2_longestMourner, Cond.code yX2_longestMourner cX2_longestMourner 5 (some .int), Cond.methodLink RX3 123 yX2_daysWorn, Cond.instanceMethod yX2_daysWorn, Cond.selects RX2 yX2_daysWorn yX2_daysWorn, Cond.code yX2_daysWorn cX2_daysWorn 1 (some .int), Cond.fieldLink RX2 134 "MourningRibbons" "wornSoFar" "I", Cond.methodLink RX3 126 yX2_meanDaysLeft, Cond.instanceMethod yX2_meanDaysLeft, Cond.selects RX2 yX2_meanDaysLeft yX2_meanDaysLeft, Cond.code yX2_meanDaysLeft cX2_meanDaysLeft 4 (some .double)]
def wsX3_isSame : List Cond := .code yX3_isSame cX3_isSame 14 (some .boolean) :: ((wsX3_isSame_r1 ++ (wsX3_isSame_r2 ++ (wsX3_isSame_r3 ++ (wsX3_isSame_r4 ++ (wsX3_isSame_r5 ++ (wsX3_isSame_r6 ++ (wsX3_isSame_r7 ++ (wsX3_isSame_r8 ++ wsX3_isSame_r9)))))))) ++ wsX30 ++ wsX20 ++ wsX10 ++ wsX00 ++ (vx_atS RX2 177 "java/lang/IndexOutOfBoundsException" ["java/lang/RuntimeException", "java/lang/Exception"]).filter goodWord)
def wsJ9_max_7cf53 : List Cond := .code yJ9_max_7cf53 cJ9_max_7cf53 2 (some .int) :: ([])
def wsJ9_min_7cf53 : List Cond := .code yJ9_min_7cf53 cJ9_min_7cf53 2 (some .int) :: ([])
def wsL_below : List Cond := .code yL_below cL_below 2 (some .int) :: ([.constant RL 7 (2147483647)])
def wsL_cell : List Cond := .code yL_cell cL_cell 2 (some .int) :: ([.constant RL 8 (790386105)])
def wsL_act_r1 : List Cond := [Cond.classLink RL 31 "java/lang/IllegalStateException", Cond.fieldLink RL 9 "MourningRibbonsLaw$Sim" "people" "[[I", Cond.arrayClass .int, Cond.fieldLink RL 51 "MourningRibbonsLaw$Sim" "code" "[[[I", Cond.methodLink RL 15 yL_below, Cond.static yL_below, Cond.initialized RL, Cond.code yL_below cL_below 2 (some .int), Cond.constant RL 7 (2147483647), Cond.methodLink RL 21 yX3_more, Cond.static yX3_more, Cond.initialized RX3, Cond.code yX3_more cX3_more 4 (some (.array (.array .int))), Cond.classLink RX3 7 "[I", Cond.methodLink RL 25 yX2_addPerson, Cond.instanceMethod yX2_addPerson, Cond.selects RX2 yX2_addPerson yX2_addPerson, Cond.initialized RX2, Cond.code yX2_addPerson cX2_addPerson 1 (some .int), Cond.fieldLink RX2 12 "MourningRibbons" "family" "LMourningRibbons$Family;", Cond.methodLink RX2 39 yX2_needRoom, Cond.instanceMethod yX2_needRoom, Cond.selects RX2 yX2_needRoom yX2_needRoom, Cond.code yX2_needRoom cX2_needRoom 1 none]
def wsL_act_r2 : List Cond := [Cond.classLink RX2 61 "java/lang/IllegalStateException", Cond.initialized "java/lang/IllegalStateException", Cond.methodLink RX2 260 yX1_isFull, Cond.instanceMethod yX1_isFull, Cond.selects RX1 yX1_isFull yX1_isFull, Cond.initialized RX1, Cond.code yX1_isFull cX1_isFull 1 (some .boolean), Cond.fieldLink RX1 25 "MourningRibbons$Family" "count" "I", Cond.methodLink RX2 42 yX1_add, Cond.instanceMethod yX1_add, Cond.selects RX1 yX1_add yX1_add, Cond.code yX1_add cX1_add 3 (some .int), Cond.fieldLink RX1 9 "MourningRibbons$Family" "parent" "[I", Cond.fieldLink RX1 15 "MourningRibbons$Family" "spouse" "[I", Cond.fieldLink RX1 18 "MourningRibbons$Family" "alive" "[Z", Cond.methodLink RL 33 yX2_addChild, Cond.instanceMethod yX2_addChild, Cond.selects RX2 yX2_addChild yX2_addChild, Cond.code yX2_addChild cX2_addChild 2 (some .int), Cond.methodLink RX2 46 yX2_needPerson, Cond.instanceMethod yX2_needPerson, Cond.selects RX2 yX2_needPerson yX2_needPerson, Cond.code yX2_needPerson cX2_needPerson 2 none, Cond.classLink RX2 173 "java/lang/IndexOutOfBoundsException"]
def wsL_act_r3 : List Cond := [Cond.initialized "java/lang/IndexOutOfBoundsException", Cond.fieldLink RX2 128 "MourningRibbons$Family" "count" "I", Cond.methodLink RX2 50 yX2_needAlive, Cond.instanceMethod yX2_needAlive, Cond.selects RX2 yX2_needAlive yX2_needAlive, Cond.code yX2_needAlive cX2_needAlive 2 none, Cond.fieldLink RX2 101 "MourningRibbons$Family" "alive" "[Z", Cond.methodLink RL 37 yX3_canMarry, Cond.instanceMethod yX3_canMarry, Cond.selects RX3 yX3_canMarry yX3_canMarry, Cond.code yX3_canMarry cX3_canMarry 2 (some .boolean), Cond.fieldLink RX3 9 "MourningRibbonsLaw$Sim" "people" "[[I", Cond.methodLink RL 41 yX3_degrees, Cond.instanceMethod yX3_degrees, Cond.selects RX3 yX3_degrees yX3_degrees, Cond.code yX3_degrees cX3_degrees 7 (some (.array (.array .int))), Cond.classLink RX3 23 "[[I", Cond.methodLink RL 45 yX3_marry, Cond.instanceMethod yX3_marry, Cond.selects RX3 yX3_marry yX3_marry, Cond.code yX3_marry cX3_marry 3 none, Cond.methodLink RL 49 yX2_marry, Cond.instanceMethod yX2_marry, Cond.selects RX2 yX2_marry yX2_marry]
def wsL_act_r4 : List Cond := [Cond.code yX2_marry cX2_marry 4 (some .int), Cond.fieldLink RX2 71 "MourningRibbons$Family" "degrees" "[I", Cond.methodLink RX2 53 yX2_needTwo, Cond.instanceMethod yX2_needTwo, Cond.selects RX2 yX2_needTwo yX2_needTwo, Cond.code yX2_needTwo cX2_needTwo 3 none, Cond.classLink RX2 80 "java/lang/IllegalArgumentException", Cond.initialized "java/lang/IllegalArgumentException", Cond.methodLink RX2 57 yX1_hasLivingSpouse, Cond.instanceMethod yX1_hasLivingSpouse, Cond.selects RX1 yX1_hasLivingSpouse yX1_hasLivingSpouse, Cond.code yX1_hasLivingSpouse cX1_hasLivingSpouse 2 (some .boolean), Cond.methodLink RX2 68 yX1_findDegrees, Cond.instanceMethod yX1_findDegrees, Cond.selects RX1 yX1_findDegrees yX1_findDegrees, Cond.code yX1_findDegrees cX1_findDegrees 4 none, Cond.fieldLink RX1 22 "MourningRibbons$Family" "degrees" "[I", Cond.methodLink RX1 33 yJ7_fill_53178, Cond.static yJ7_fill_53178, Cond.initialized RJ7, Cond.code yJ7_fill_53178 cJ7_fill_53178 4 none, Cond.methodLink RX1 39 yX1_reachFrom, Cond.instanceMethod yX1_reachFrom, Cond.selects RX1 yX1_reachFrom yX1_reachFrom]
def wsL_act_r5 : List Cond := [Cond.code yX1_reachFrom cX1_reachFrom 5 none, Cond.methodLink RX1 43 yX1_isStep, Cond.instanceMethod yX1_isStep, Cond.selects RX1 yX1_isStep yX1_isStep, Cond.code yX1_isStep cX1_isStep 3 (some .boolean), Cond.methodLink RX2 74 yX1_wed, Cond.instanceMethod yX1_wed, Cond.selects RX1 yX1_wed yX1_wed, Cond.code yX1_wed cX1_wed 3 none, Cond.methodLink RX1 29 yX1_leaveSpouse, Cond.instanceMethod yX1_leaveSpouse, Cond.selects RX1 yX1_leaveSpouse yX1_leaveSpouse, Cond.code yX1_leaveSpouse cX1_leaveSpouse 2 none, Cond.methodLink RL 55 yX2_setStage, Cond.instanceMethod yX2_setStage, Cond.selects RX2 yX2_setStage yX2_setStage, Cond.code yX2_setStage cX2_setStage 6 (some .int), Cond.fieldLink RX2 19 "MourningRibbons" "codes" "LMourningRibbons$Codes;", Cond.fieldLink RX2 91 "MourningRibbons$Codes" "colours" "[I", Cond.fieldLink RX2 94 "MourningRibbons$Codes" "days" "[I", Cond.methodLink RX2 77 yX2_needStage, Cond.instanceMethod yX2_needStage, Cond.selects RX2 yX2_needStage yX2_needStage, Cond.code yX2_needStage cX2_needStage 3 none]
def wsL_act_r6 : List Cond := [Cond.methodLink RX2 153 yX2_needDegree, Cond.instanceMethod yX2_needDegree, Cond.selects RX2 yX2_needDegree yX2_needDegree, Cond.code yX2_needDegree cX2_needDegree 2 none, Cond.methodLink RX2 87 yX0_place, Cond.static yX0_place, Cond.initialized RX0, Cond.code yX0_place cX0_place 3 (some .int), Cond.methodLink RX2 97 yX0_daysOfAll, Cond.instanceMethod yX0_daysOfAll, Cond.selects RX0 yX0_daysOfAll yX0_daysOfAll, Cond.code yX0_daysOfAll cX0_daysOfAll 5 (some .int), Cond.fieldLink RX0 15 "MourningRibbons$Codes" "days" "[I", Cond.methodLink RX0 18 yX0_place, Cond.methodLink RL 59 yX3_length, Cond.instanceMethod yX3_length, Cond.selects RX3 yX3_length yX3_length, Cond.code yX3_length cX3_length 2 (some .int), Cond.fieldLink RX3 17 "MourningRibbonsLaw$Sim" "code" "[[[I", Cond.methodLink RL 62 yX3_die, Cond.instanceMethod yX3_die, Cond.selects RX3 yX3_die yX3_die, Cond.code yX3_die cX3_die 8 (some .int), Cond.fieldLink RX3 20 "MourningRibbonsLaw$Sim" "mournings" "[[I"]
def wsL_act_r7 : List Cond := [Cond.methodLink RX3 54 yX3_brought, Cond.instanceMethod yX3_brought, Cond.selects RX3 yX3_brought yX3_brought, Cond.code yX3_brought cX3_brought 7 (some (.array (.array .int))), Cond.fieldLink RX3 38 "MourningRibbonsLaw$Sim" "day" "I", Cond.methodLink RX3 42 yX3_degrees, Cond.methodLink RX3 46 yX3_length, Cond.methodLink RX3 50 yX3_more, Cond.methodLink RL 65 yX2_die, Cond.instanceMethod yX2_die, Cond.selects RX2 yX2_die yX2_die, Cond.code yX2_die cX2_die 2 (some .int), Cond.fieldLink RX2 27 "MourningRibbons" "deathDay" "[I", Cond.fieldLink RX2 105 "MourningRibbons" "today" "I", Cond.methodLink RX2 109 yX0_keepFor, Cond.instanceMethod yX0_keepFor, Cond.selects RX0 yX0_keepFor yX0_keepFor, Cond.code yX0_keepFor cX0_keepFor 4 none, Cond.fieldLink RX0 11 "MourningRibbons$Codes" "colours" "[I", Cond.methodLink RX0 22 arraycopyName, Cond.native arraycopyName, Cond.static arraycopyName, Cond.initialized "java/lang/System", Cond.methodLink RX2 112 yX2_endMourningsOf]
def wsL_act_r8 : List Cond := [Cond.instanceMethod yX2_endMourningsOf, Cond.selects RX2 yX2_endMourningsOf yX2_endMourningsOf, Cond.code yX2_endMourningsOf cX2_endMourningsOf 3 none, Cond.fieldLink RX2 23 "MourningRibbons" "mournedBy" "[I", Cond.methodLink RX2 123 yX2_pair, Cond.static yX2_pair, Cond.code yX2_pair cX2_pair 2 (some .int), Cond.methodLink RX2 115 yX2_beginMourningsFor, Cond.instanceMethod yX2_beginMourningsFor, Cond.selects RX2 yX2_beginMourningsFor yX2_beginMourningsFor, Cond.code yX2_beginMourningsFor cX2_beginMourningsFor 4 (some .int), Cond.methodLink RX2 186 yX2_wouldBegin, Cond.instanceMethod yX2_wouldBegin, Cond.selects RX2 yX2_wouldBegin yX2_wouldBegin, Cond.code yX2_wouldBegin cX2_wouldBegin 2 (some .boolean), Cond.methodLink RL 66 yX3_left, Cond.instanceMethod yX3_left, Cond.selects RX3 yX3_left yX3_left, Cond.code yX3_left cX3_left 8 (some .int), Cond.methodLink RX3 28 Lib.Math.max.name, Cond.static Lib.Math.max.name, Cond.initialized "java/lang/Math", Cond.code Lib.Math.max.name Lib.Math.max.code 2 (some .int), Cond.methodLink RX3 34 yX3_end]
def wsL_act_r9 : List Cond := [Cond.static yX3_end, Cond.code yX3_end cX3_end 1 (some .int), Cond.methodLink RL 69 yX3_drop, Cond.instanceMethod yX3_drop, Cond.selects RX3 yX3_drop yX3_drop, Cond.code yX3_drop cX3_drop 8 none, Cond.methodLink RL 72 yX2_release, Cond.instanceMethod yX2_release, Cond.selects RX2 yX2_release yX2_release, Cond.code yX2_release cX2_release 4 (some .int), Cond.methodLink RX2 118 yX2_leftFor, Cond.instanceMethod yX2_leftFor, Cond.selects RX2 yX2_leftFor yX2_leftFor, Cond.code yX2_leftFor cX2_leftFor 4 (some .int), Cond.methodLink RX2 181 Lib.Math.max.name, Cond.methodLink RL 75 yX2_pass, Cond.instanceMethod yX2_pass, Cond.selects RX2 yX2_pass yX2_pass, Cond.code yX2_pass cX2_pass 3 (some .int), Cond.fieldLink RX2 134 "MourningRibbons" "wornSoFar" "I", Cond.methodLink RX2 131 yX2_paintAhead, Cond.instanceMethod yX2_paintAhead, Cond.selects RX2 yX2_paintAhead yX2_paintAhead, Cond.code yX2_paintAhead cX2_paintAhead 7 none]
def wsL_act_r10 : List Cond := [Cond.fieldLink RX2 30 "MourningRibbons" "ahead" "[I", Cond.methodLink RX2 274 Lib.Math.min.name, Cond.static Lib.Math.min.name, Cond.code Lib.Math.min.name Lib.Math.min.code 2 (some .int), Cond.methodLink RX2 192 yJ7_fill_53178, Cond.methodLink RX2 189 yX0_colourOn, Cond.instanceMethod yX0_colourOn, Cond.selects RX0 yX0_colourOn yX0_colourOn, Cond.code yX0_colourOn cX0_colourOn 7 (some .int), Cond.methodLink RX2 137 yX2_wornAhead, Cond.instanceMethod yX2_wornAhead, Cond.selects RX2 yX2_wornAhead yX2_wornAhead, Cond.code yX2_wornAhead cX2_wornAhead 4 (some .int), Cond.methodLink RX2 140 yX1_livingCount, Cond.instanceMethod yX1_livingCount, Cond.selects RX1 yX1_livingCount yX1_livingCount, Cond.code yX1_livingCount cX1_livingCount 3 (some .int), Cond.methodLink RX2 144 yX2_countWearing, Cond.instanceMethod yX2_countWearing, Cond.selects RX2 yX2_countWearing yX2_countWearing, Cond.code yX2_countWearing cX2_countWearing 4 (some .int), Cond.methodLink RX2 159 yX2_colourAfter, Cond.instanceMethod yX2_colourAfter, Cond.selects RX2 yX2_colourAfter yX2_colourAfter]
def wsL_act_r11 : List Cond := [Cond.code yX2_colourAfter cX2_colourAfter 6 (some .int), Cond.methodLink RL 78 yX3_pass, Cond.instanceMethod yX3_pass, Cond.selects RX3 yX3_pass yX3_pass, Cond.code yX3_pass cX3_pass 7 (some .int), Cond.fieldLink RX3 61 "MourningRibbonsLaw$Sim" "worn" "I", Cond.methodLink RX3 64 yX3_inColour, Cond.instanceMethod yX3_inColour, Cond.selects RX3 yX3_inColour yX3_inColour, Cond.code yX3_inColour cX3_inColour 3 (some .int), Cond.methodLink RX3 58 yX3_wears, Cond.instanceMethod yX3_wears, Cond.selects RX3 yX3_wears yX3_wears, Cond.code yX3_wears cX3_wears 8 (some .int), Cond.methodLink RX3 24 yX3_on, Cond.static yX3_on, Cond.code yX3_on cX3_on 4 (some .int)]
def wsL_act : List Cond := .codeWith yL_act cL_act 10 (some .boolean) [(155, 161, 164, 31), (232, 240, 243, 31), (309, 319, 322, 31), (497, 505, 508, 31), (554, 564, 567, 31)] :: ((wsL_act_r1 ++ (wsL_act_r2 ++ (wsL_act_r3 ++ (wsL_act_r4 ++ (wsL_act_r5 ++ (wsL_act_r6 ++ (wsL_act_r7 ++ (wsL_act_r8 ++ (wsL_act_r9 ++ (wsL_act_r10 ++ wsL_act_r11)))))))))) ++ wsX30 ++ wsX20 ++ wsX10 ++ wsX00 ++ (vx_atS RX2 65 "java/lang/IllegalStateException" ["java/lang/RuntimeException", "java/lang/Exception"]).filter goodWord ++ (vx_atS RX2 177 "java/lang/IndexOutOfBoundsException" ["java/lang/RuntimeException", "java/lang/Exception"]).filter goodWord ++ (vx_atS RX2 84 "java/lang/IllegalArgumentException" ["java/lang/RuntimeException", "java/lang/Exception"]).filter goodWord)
def wsL_build_r1 : List Cond := [Cond.classLink RL 10 RX3, Cond.instantiable RX3 5, Cond.initialized RX3, Cond.fieldLink RL 9 "MourningRibbonsLaw$Sim" "people" "[[I", Cond.arrayClass .int, Cond.fieldLink RL 51 "MourningRibbonsLaw$Sim" "code" "[[[I", Cond.instanceMethod yX3_init, Cond.code yX3_init cX3_init 1 none, Cond.methodLink RX3 1 objectInit, Cond.instanceMethod objectInit, Cond.code objectInit ⟨#[0xb1]⟩ 1 none, Cond.classLink RX3 7 "[I", Cond.fieldLink RX3 9 "MourningRibbonsLaw$Sim" "people" "[[I", Cond.fieldLink RX3 17 "MourningRibbonsLaw$Sim" "code" "[[[I", Cond.fieldLink RX3 20 "MourningRibbonsLaw$Sim" "mournings" "[[I", Cond.methodLink RL 80 yL_cell, Cond.static yL_cell, Cond.initialized RL, Cond.code yL_cell cL_cell 2 (some .int), Cond.constant RL 8 (790386105), Cond.methodLink RL 15 yL_below, Cond.static yL_below, Cond.code yL_below cL_below 2 (some .int), Cond.constant RL 7 (2147483647)]
def wsL_build_r2 : List Cond := [Cond.methodLink RL 21 yX3_more, Cond.static yX3_more, Cond.code yX3_more cX3_more 4 (some (.array (.array .int))), Cond.methodLink RL 25 yX2_addPerson, Cond.instanceMethod yX2_addPerson, Cond.selects RX2 yX2_addPerson yX2_addPerson, Cond.initialized RX2, Cond.code yX2_addPerson cX2_addPerson 1 (some .int), Cond.fieldLink RX2 12 "MourningRibbons" "family" "LMourningRibbons$Family;", Cond.methodLink RX2 39 yX2_needRoom, Cond.instanceMethod yX2_needRoom, Cond.selects RX2 yX2_needRoom yX2_needRoom, Cond.code yX2_needRoom cX2_needRoom 1 none, Cond.classLink RX2 61 "java/lang/IllegalStateException", Cond.initialized "java/lang/IllegalStateException", Cond.methodLink RX2 260 yX1_isFull, Cond.instanceMethod yX1_isFull, Cond.selects RX1 yX1_isFull yX1_isFull, Cond.initialized RX1, Cond.code yX1_isFull cX1_isFull 1 (some .boolean), Cond.fieldLink RX1 25 "MourningRibbons$Family" "count" "I", Cond.methodLink RX2 42 yX1_add, Cond.instanceMethod yX1_add, Cond.selects RX1 yX1_add yX1_add]
def wsL_build_r3 : List Cond := [Cond.code yX1_add cX1_add 3 (some .int), Cond.fieldLink RX1 9 "MourningRibbons$Family" "parent" "[I", Cond.fieldLink RX1 15 "MourningRibbons$Family" "spouse" "[I", Cond.fieldLink RX1 18 "MourningRibbons$Family" "alive" "[Z", Cond.methodLink RL 33 yX2_addChild, Cond.instanceMethod yX2_addChild, Cond.selects RX2 yX2_addChild yX2_addChild, Cond.code yX2_addChild cX2_addChild 2 (some .int), Cond.methodLink RX2 46 yX2_needPerson, Cond.instanceMethod yX2_needPerson, Cond.selects RX2 yX2_needPerson yX2_needPerson, Cond.code yX2_needPerson cX2_needPerson 2 none, Cond.classLink RX2 173 "java/lang/IndexOutOfBoundsException", Cond.initialized "java/lang/IndexOutOfBoundsException", Cond.fieldLink RX2 128 "MourningRibbons$Family" "count" "I", Cond.methodLink RX2 50 yX2_needAlive, Cond.instanceMethod yX2_needAlive, Cond.selects RX2 yX2_needAlive yX2_needAlive, Cond.code yX2_needAlive cX2_needAlive 2 none, Cond.fieldLink RX2 101 "MourningRibbons$Family" "alive" "[Z", Cond.methodLink RL 41 yX3_degrees, Cond.instanceMethod yX3_degrees, Cond.selects RX3 yX3_degrees yX3_degrees, Cond.code yX3_degrees cX3_degrees 7 (some (.array (.array .int)))]
def wsL_build_r4 : List Cond := [Cond.classLink RX3 23 "[[I", Cond.methodLink RL 45 yX3_marry, Cond.instanceMethod yX3_marry, Cond.selects RX3 yX3_marry yX3_marry, Cond.code yX3_marry cX3_marry 3 none, Cond.methodLink RL 49 yX2_marry, Cond.instanceMethod yX2_marry, Cond.selects RX2 yX2_marry yX2_marry, Cond.code yX2_marry cX2_marry 4 (some .int), Cond.fieldLink RX2 71 "MourningRibbons$Family" "degrees" "[I", Cond.methodLink RX2 53 yX2_needTwo, Cond.instanceMethod yX2_needTwo, Cond.selects RX2 yX2_needTwo yX2_needTwo, Cond.code yX2_needTwo cX2_needTwo 3 none, Cond.classLink RX2 80 "java/lang/IllegalArgumentException", Cond.initialized "java/lang/IllegalArgumentException", Cond.methodLink RX2 57 yX1_hasLivingSpouse, Cond.instanceMethod yX1_hasLivingSpouse, Cond.selects RX1 yX1_hasLivingSpouse yX1_hasLivingSpouse, Cond.code yX1_hasLivingSpouse cX1_hasLivingSpouse 2 (some .boolean), Cond.methodLink RX2 68 yX1_findDegrees, Cond.instanceMethod yX1_findDegrees, Cond.selects RX1 yX1_findDegrees yX1_findDegrees, Cond.code yX1_findDegrees cX1_findDegrees 4 none]
def wsL_build_r5 : List Cond := [Cond.fieldLink RX1 22 "MourningRibbons$Family" "degrees" "[I", Cond.methodLink RX1 33 yJ7_fill_53178, Cond.static yJ7_fill_53178, Cond.initialized RJ7, Cond.code yJ7_fill_53178 cJ7_fill_53178 4 none, Cond.methodLink RX1 39 yX1_reachFrom, Cond.instanceMethod yX1_reachFrom, Cond.selects RX1 yX1_reachFrom yX1_reachFrom, Cond.code yX1_reachFrom cX1_reachFrom 5 none, Cond.methodLink RX1 43 yX1_isStep, Cond.instanceMethod yX1_isStep, Cond.selects RX1 yX1_isStep yX1_isStep, Cond.code yX1_isStep cX1_isStep 3 (some .boolean), Cond.methodLink RX2 74 yX1_wed, Cond.instanceMethod yX1_wed, Cond.selects RX1 yX1_wed yX1_wed, Cond.code yX1_wed cX1_wed 3 none, Cond.methodLink RX1 29 yX1_leaveSpouse, Cond.instanceMethod yX1_leaveSpouse, Cond.selects RX1 yX1_leaveSpouse yX1_leaveSpouse, Cond.code yX1_leaveSpouse cX1_leaveSpouse 2 none, Cond.methodLink RL 55 yX2_setStage, Cond.instanceMethod yX2_setStage, Cond.selects RX2 yX2_setStage yX2_setStage]
def wsL_build_r6 : List Cond := [Cond.code yX2_setStage cX2_setStage 6 (some .int), Cond.fieldLink RX2 19 "MourningRibbons" "codes" "LMourningRibbons$Codes;", Cond.fieldLink RX2 91 "MourningRibbons$Codes" "colours" "[I", Cond.fieldLink RX2 94 "MourningRibbons$Codes" "days" "[I", Cond.methodLink RX2 77 yX2_needStage, Cond.instanceMethod yX2_needStage, Cond.selects RX2 yX2_needStage yX2_needStage, Cond.code yX2_needStage cX2_needStage 3 none, Cond.methodLink RX2 153 yX2_needDegree, Cond.instanceMethod yX2_needDegree, Cond.selects RX2 yX2_needDegree yX2_needDegree, Cond.code yX2_needDegree cX2_needDegree 2 none, Cond.methodLink RX2 87 yX0_place, Cond.static yX0_place, Cond.initialized RX0, Cond.code yX0_place cX0_place 3 (some .int), Cond.methodLink RX2 97 yX0_daysOfAll, Cond.instanceMethod yX0_daysOfAll, Cond.selects RX0 yX0_daysOfAll yX0_daysOfAll, Cond.code yX0_daysOfAll cX0_daysOfAll 5 (some .int), Cond.fieldLink RX0 15 "MourningRibbons$Codes" "days" "[I", Cond.methodLink RX0 18 yX0_place, Cond.methodLink RL 59 yX3_length, Cond.instanceMethod yX3_length]
def wsL_build_r7 : List Cond := [Cond.selects RX3 yX3_length yX3_length, Cond.code yX3_length cX3_length 2 (some .int)]
def wsL_build : List Cond := .code yL_build cL_build 9 (some (.object "MourningRibbonsLaw$Sim")) :: ((wsL_build_r1 ++ (wsL_build_r2 ++ (wsL_build_r3 ++ (wsL_build_r4 ++ (wsL_build_r5 ++ (wsL_build_r6 ++ wsL_build_r7)))))) ++ wsX30 ++ wsX20 ++ wsX10 ++ wsX00 ++ (vx_atS RX2 65 "java/lang/IllegalStateException" ["java/lang/RuntimeException", "java/lang/Exception"]).filter goodWord ++ (vx_atS RX2 177 "java/lang/IndexOutOfBoundsException" ["java/lang/RuntimeException", "java/lang/Exception"]).filter goodWord ++ (vx_atS RX2 84 "java/lang/IllegalArgumentException" ["java/lang/RuntimeException", "java/lang/Exception"]).filter goodWord)
def wsL_law0_r1 : List Cond := [Cond.classLink RL 26 RX2, Cond.instantiable RX2 9, Cond.initialized RX2, Cond.methodLink RL 114 Lib.Math.max.name, Cond.static Lib.Math.max.name, Cond.initialized "java/lang/Math", Cond.code Lib.Math.max.name Lib.Math.max.code 2 (some .int), Cond.arrayClass .int, Cond.methodLink RL 84 yX2_init, Cond.instanceMethod yX2_init, Cond.code yX2_init cX2_init 1 none, Cond.methodLink RX2 3 objectInit, Cond.instanceMethod objectInit, Cond.code objectInit ⟨#[0xb1]⟩ 1 none, Cond.classLink RX2 9 RX1, Cond.instantiable RX1 5, Cond.initialized RX1, Cond.fieldLink RX2 12 "MourningRibbons" "family" "LMourningRibbons$Family;", Cond.classLink RX2 16 RX0, Cond.instantiable RX0 2, Cond.initialized RX0, Cond.fieldLink RX2 19 "MourningRibbons" "codes" "LMourningRibbons$Codes;", Cond.fieldLink RX2 23 "MourningRibbons" "mournedBy" "[I", Cond.fieldLink RX2 27 "MourningRibbons" "deathDay" "[I"]
def wsL_law0_r2 : List Cond := [Cond.fieldLink RX2 30 "MourningRibbons" "ahead" "[I", Cond.fieldLink RX2 33 "MourningRibbons" "wornIfLost" "[I", Cond.fieldLink RX2 36 "MourningRibbons" "loss" "[I", Cond.instanceMethod yX1_init, Cond.code yX1_init cX1_init 1 none, Cond.methodLink RX1 3 objectInit, Cond.fieldLink RX1 9 "MourningRibbons$Family" "parent" "[I", Cond.fieldLink RX1 15 "MourningRibbons$Family" "spouse" "[I", Cond.arrayClass .boolean, Cond.fieldLink RX1 18 "MourningRibbons$Family" "alive" "[Z", Cond.fieldLink RX1 22 "MourningRibbons$Family" "degrees" "[I", Cond.instanceMethod yX0_init, Cond.code yX0_init cX0_init 1 none, Cond.methodLink RX0 3 objectInit, Cond.fieldLink RX0 11 "MourningRibbons$Codes" "colours" "[I", Cond.fieldLink RX0 15 "MourningRibbons$Codes" "days" "[I", Cond.methodLink RL 85 yL_build, Cond.static yL_build, Cond.initialized RL, Cond.code yL_build cL_build 9 (some (.object "MourningRibbonsLaw$Sim")), Cond.classLink RL 10 RX3, Cond.instantiable RX3 5, Cond.initialized RX3, Cond.fieldLink RL 9 "MourningRibbonsLaw$Sim" "people" "[[I"]
def wsL_law0_r3 : List Cond := [Cond.fieldLink RL 51 "MourningRibbonsLaw$Sim" "code" "[[[I", Cond.instanceMethod yX3_init, Cond.code yX3_init cX3_init 1 none, Cond.methodLink RX3 1 objectInit, Cond.classLink RX3 7 "[I", Cond.fieldLink RX3 9 "MourningRibbonsLaw$Sim" "people" "[[I", Cond.fieldLink RX3 17 "MourningRibbonsLaw$Sim" "code" "[[[I", Cond.fieldLink RX3 20 "MourningRibbonsLaw$Sim" "mournings" "[[I", Cond.methodLink RL 80 yL_cell, Cond.static yL_cell, Cond.code yL_cell cL_cell 2 (some .int), Cond.constant RL 8 (790386105), Cond.methodLink RL 15 yL_below, Cond.static yL_below, Cond.code yL_below cL_below 2 (some .int), Cond.constant RL 7 (2147483647), Cond.methodLink RL 21 yX3_more, Cond.static yX3_more, Cond.code yX3_more cX3_more 4 (some (.array (.array .int))), Cond.methodLink RL 25 yX2_addPerson, Cond.instanceMethod yX2_addPerson, Cond.selects RX2 yX2_addPerson yX2_addPerson, Cond.code yX2_addPerson cX2_addPerson 1 (some .int), Cond.methodLink RX2 39 yX2_needRoom]
def wsL_law0_r4 : List Cond := [Cond.instanceMethod yX2_needRoom, Cond.selects RX2 yX2_needRoom yX2_needRoom, Cond.code yX2_needRoom cX2_needRoom 1 none, Cond.classLink RX2 61 "java/lang/IllegalStateException", Cond.initialized "java/lang/IllegalStateException", Cond.methodLink RX2 260 yX1_isFull, Cond.instanceMethod yX1_isFull, Cond.selects RX1 yX1_isFull yX1_isFull, Cond.code yX1_isFull cX1_isFull 1 (some .boolean), Cond.fieldLink RX1 25 "MourningRibbons$Family" "count" "I", Cond.methodLink RX2 42 yX1_add, Cond.instanceMethod yX1_add, Cond.selects RX1 yX1_add yX1_add, Cond.code yX1_add cX1_add 3 (some .int), Cond.methodLink RL 33 yX2_addChild, Cond.instanceMethod yX2_addChild, Cond.selects RX2 yX2_addChild yX2_addChild, Cond.code yX2_addChild cX2_addChild 2 (some .int), Cond.methodLink RX2 46 yX2_needPerson, Cond.instanceMethod yX2_needPerson, Cond.selects RX2 yX2_needPerson yX2_needPerson, Cond.code yX2_needPerson cX2_needPerson 2 none, Cond.classLink RX2 173 "java/lang/IndexOutOfBoundsException", Cond.initialized "java/lang/IndexOutOfBoundsException"]
def wsL_law0_r5 : List Cond := [Cond.fieldLink RX2 128 "MourningRibbons$Family" "count" "I", Cond.methodLink RX2 50 yX2_needAlive, Cond.instanceMethod yX2_needAlive, Cond.selects RX2 yX2_needAlive yX2_needAlive, Cond.code yX2_needAlive cX2_needAlive 2 none, Cond.fieldLink RX2 101 "MourningRibbons$Family" "alive" "[Z", Cond.methodLink RL 41 yX3_degrees, Cond.instanceMethod yX3_degrees, Cond.selects RX3 yX3_degrees yX3_degrees, Cond.code yX3_degrees cX3_degrees 7 (some (.array (.array .int))), Cond.classLink RX3 23 "[[I", Cond.methodLink RL 45 yX3_marry, Cond.instanceMethod yX3_marry, Cond.selects RX3 yX3_marry yX3_marry, Cond.code yX3_marry cX3_marry 3 none, Cond.methodLink RL 49 yX2_marry, Cond.instanceMethod yX2_marry, Cond.selects RX2 yX2_marry yX2_marry, Cond.code yX2_marry cX2_marry 4 (some .int), Cond.fieldLink RX2 71 "MourningRibbons$Family" "degrees" "[I", Cond.methodLink RX2 53 yX2_needTwo, Cond.instanceMethod yX2_needTwo, Cond.selects RX2 yX2_needTwo yX2_needTwo, Cond.code yX2_needTwo cX2_needTwo 3 none]
def wsL_law0_r6 : List Cond := [Cond.classLink RX2 80 "java/lang/IllegalArgumentException", Cond.initialized "java/lang/IllegalArgumentException", Cond.methodLink RX2 57 yX1_hasLivingSpouse, Cond.instanceMethod yX1_hasLivingSpouse, Cond.selects RX1 yX1_hasLivingSpouse yX1_hasLivingSpouse, Cond.code yX1_hasLivingSpouse cX1_hasLivingSpouse 2 (some .boolean), Cond.methodLink RX2 68 yX1_findDegrees, Cond.instanceMethod yX1_findDegrees, Cond.selects RX1 yX1_findDegrees yX1_findDegrees, Cond.code yX1_findDegrees cX1_findDegrees 4 none, Cond.methodLink RX1 33 yJ7_fill_53178, Cond.static yJ7_fill_53178, Cond.initialized RJ7, Cond.code yJ7_fill_53178 cJ7_fill_53178 4 none, Cond.methodLink RX1 39 yX1_reachFrom, Cond.instanceMethod yX1_reachFrom, Cond.selects RX1 yX1_reachFrom yX1_reachFrom, Cond.code yX1_reachFrom cX1_reachFrom 5 none, Cond.methodLink RX1 43 yX1_isStep, Cond.instanceMethod yX1_isStep, Cond.selects RX1 yX1_isStep yX1_isStep, Cond.code yX1_isStep cX1_isStep 3 (some .boolean), Cond.methodLink RX2 74 yX1_wed, Cond.instanceMethod yX1_wed]
def wsL_law0_r7 : List Cond := [Cond.selects RX1 yX1_wed yX1_wed, Cond.code yX1_wed cX1_wed 3 none, Cond.methodLink RX1 29 yX1_leaveSpouse, Cond.instanceMethod yX1_leaveSpouse, Cond.selects RX1 yX1_leaveSpouse yX1_leaveSpouse, Cond.code yX1_leaveSpouse cX1_leaveSpouse 2 none, Cond.methodLink RL 55 yX2_setStage, Cond.instanceMethod yX2_setStage, Cond.selects RX2 yX2_setStage yX2_setStage, Cond.code yX2_setStage cX2_setStage 6 (some .int), Cond.fieldLink RX2 91 "MourningRibbons$Codes" "colours" "[I", Cond.fieldLink RX2 94 "MourningRibbons$Codes" "days" "[I", Cond.methodLink RX2 77 yX2_needStage, Cond.instanceMethod yX2_needStage, Cond.selects RX2 yX2_needStage yX2_needStage, Cond.code yX2_needStage cX2_needStage 3 none, Cond.methodLink RX2 153 yX2_needDegree, Cond.instanceMethod yX2_needDegree, Cond.selects RX2 yX2_needDegree yX2_needDegree, Cond.code yX2_needDegree cX2_needDegree 2 none, Cond.methodLink RX2 87 yX0_place, Cond.static yX0_place, Cond.code yX0_place cX0_place 3 (some .int), Cond.methodLink RX2 97 yX0_daysOfAll]
def wsL_law0_r8 : List Cond := [Cond.instanceMethod yX0_daysOfAll, Cond.selects RX0 yX0_daysOfAll yX0_daysOfAll, Cond.code yX0_daysOfAll cX0_daysOfAll 5 (some .int), Cond.methodLink RX0 18 yX0_place, Cond.methodLink RL 59 yX3_length, Cond.instanceMethod yX3_length, Cond.selects RX3 yX3_length yX3_length, Cond.code yX3_length cX3_length 2 (some .int), Cond.methodLink RL 89 yL_act, Cond.static yL_act, Cond.codeWith yL_act cL_act 10 (some .boolean) [(155, 161, 164, 31), (232, 240, 243, 31), (309, 319, 322, 31), (497, 505, 508, 31), (554, 564, 567, 31)], Cond.classLink RL 31 "java/lang/IllegalStateException", Cond.methodLink RL 37 yX3_canMarry, Cond.instanceMethod yX3_canMarry, Cond.selects RX3 yX3_canMarry yX3_canMarry, Cond.code yX3_canMarry cX3_canMarry 2 (some .boolean), Cond.methodLink RL 62 yX3_die, Cond.instanceMethod yX3_die, Cond.selects RX3 yX3_die yX3_die, Cond.code yX3_die cX3_die 8 (some .int), Cond.methodLink RX3 54 yX3_brought, Cond.instanceMethod yX3_brought, Cond.selects RX3 yX3_brought yX3_brought, Cond.code yX3_brought cX3_brought 7 (some (.array (.array .int)))]
def wsL_law0_r9 : List Cond := [Cond.fieldLink RX3 38 "MourningRibbonsLaw$Sim" "day" "I", Cond.methodLink RX3 42 yX3_degrees, Cond.methodLink RX3 46 yX3_length, Cond.methodLink RX3 50 yX3_more, Cond.methodLink RL 65 yX2_die, Cond.instanceMethod yX2_die, Cond.selects RX2 yX2_die yX2_die, Cond.code yX2_die cX2_die 2 (some .int), Cond.fieldLink RX2 105 "MourningRibbons" "today" "I", Cond.methodLink RX2 109 yX0_keepFor, Cond.instanceMethod yX0_keepFor, Cond.selects RX0 yX0_keepFor yX0_keepFor, Cond.code yX0_keepFor cX0_keepFor 4 none, Cond.methodLink RX0 22 arraycopyName, Cond.native arraycopyName, Cond.static arraycopyName, Cond.initialized "java/lang/System", Cond.methodLink RX2 112 yX2_endMourningsOf, Cond.instanceMethod yX2_endMourningsOf, Cond.selects RX2 yX2_endMourningsOf yX2_endMourningsOf, Cond.code yX2_endMourningsOf cX2_endMourningsOf 3 none, Cond.methodLink RX2 123 yX2_pair, Cond.static yX2_pair, Cond.code yX2_pair cX2_pair 2 (some .int)]
def wsL_law0_r10 : List Cond := [Cond.methodLink RX2 115 yX2_beginMourningsFor, Cond.instanceMethod yX2_beginMourningsFor, Cond.selects RX2 yX2_beginMourningsFor yX2_beginMourningsFor, Cond.code yX2_beginMourningsFor cX2_beginMourningsFor 4 (some .int), Cond.methodLink RX2 186 yX2_wouldBegin, Cond.instanceMethod yX2_wouldBegin, Cond.selects RX2 yX2_wouldBegin yX2_wouldBegin, Cond.code yX2_wouldBegin cX2_wouldBegin 2 (some .boolean), Cond.methodLink RL 66 yX3_left, Cond.instanceMethod yX3_left, Cond.selects RX3 yX3_left yX3_left, Cond.code yX3_left cX3_left 8 (some .int), Cond.methodLink RX3 28 Lib.Math.max.name, Cond.methodLink RX3 34 yX3_end, Cond.static yX3_end, Cond.code yX3_end cX3_end 1 (some .int), Cond.methodLink RL 69 yX3_drop, Cond.instanceMethod yX3_drop, Cond.selects RX3 yX3_drop yX3_drop, Cond.code yX3_drop cX3_drop 8 none, Cond.methodLink RL 72 yX2_release, Cond.instanceMethod yX2_release, Cond.selects RX2 yX2_release yX2_release, Cond.code yX2_release cX2_release 4 (some .int)]
def wsL_law0_r11 : List Cond := [Cond.methodLink RX2 118 yX2_leftFor, Cond.instanceMethod yX2_leftFor, Cond.selects RX2 yX2_leftFor yX2_leftFor, Cond.code yX2_leftFor cX2_leftFor 4 (some .int), Cond.methodLink RX2 181 Lib.Math.max.name, Cond.methodLink RL 75 yX2_pass, Cond.instanceMethod yX2_pass, Cond.selects RX2 yX2_pass yX2_pass, Cond.code yX2_pass cX2_pass 3 (some .int), Cond.fieldLink RX2 134 "MourningRibbons" "wornSoFar" "I", Cond.methodLink RX2 131 yX2_paintAhead, Cond.instanceMethod yX2_paintAhead, Cond.selects RX2 yX2_paintAhead yX2_paintAhead, Cond.code yX2_paintAhead cX2_paintAhead 7 none, Cond.methodLink RX2 274 Lib.Math.min.name, Cond.static Lib.Math.min.name, Cond.code Lib.Math.min.name Lib.Math.min.code 2 (some .int), Cond.methodLink RX2 192 yJ7_fill_53178, Cond.methodLink RX2 189 yX0_colourOn, Cond.instanceMethod yX0_colourOn, Cond.selects RX0 yX0_colourOn yX0_colourOn, Cond.code yX0_colourOn cX0_colourOn 7 (some .int), Cond.methodLink RX2 137 yX2_wornAhead, Cond.instanceMethod yX2_wornAhead]
def wsL_law0_r12 : List Cond := [Cond.selects RX2 yX2_wornAhead yX2_wornAhead, Cond.code yX2_wornAhead cX2_wornAhead 4 (some .int), Cond.methodLink RX2 140 yX1_livingCount, Cond.instanceMethod yX1_livingCount, Cond.selects RX1 yX1_livingCount yX1_livingCount, Cond.code yX1_livingCount cX1_livingCount 3 (some .int), Cond.methodLink RX2 144 yX2_countWearing, Cond.instanceMethod yX2_countWearing, Cond.selects RX2 yX2_countWearing yX2_countWearing, Cond.code yX2_countWearing cX2_countWearing 4 (some .int), Cond.methodLink RX2 159 yX2_colourAfter, Cond.instanceMethod yX2_colourAfter, Cond.selects RX2 yX2_colourAfter yX2_colourAfter, Cond.code yX2_colourAfter cX2_colourAfter 6 (some .int), Cond.methodLink RL 78 yX3_pass, Cond.instanceMethod yX3_pass, Cond.selects RX3 yX3_pass yX3_pass, Cond.code yX3_pass cX3_pass 7 (some .int), Cond.fieldLink RX3 61 "MourningRibbonsLaw$Sim" "worn" "I", Cond.methodLink RX3 64 yX3_inColour, Cond.instanceMethod yX3_inColour, Cond.selects RX3 yX3_inColour yX3_inColour, Cond.code yX3_inColour cX3_inColour 3 (some .int), Cond.methodLink RX3 58 yX3_wears]
def wsL_law0_r13 : List Cond := [Cond.instanceMethod yX3_wears, Cond.selects RX3 yX3_wears yX3_wears, Cond.code yX3_wears cX3_wears 8 (some .int), Cond.methodLink RX3 24 yX3_on, Cond.static yX3_on, Cond.code yX3_on cX3_on 4 (some .int), Cond.methodLink RL 93 yX2_digest, Cond.instanceMethod yX2_digest, Cond.selects RX2 yX2_digest yX2_digest, Cond.code yX2_digest cX2_digest 4 (some .long), Cond.constantLong RX2 201 (1931), Cond.constantLong RX2 203 (31), Cond.methodLink RX2 205 yX2_people, Cond.instanceMethod yX2_people, Cond.selects RX2 yX2_people yX2_people, Cond.code yX2_people cX2_people 1 (some .int), Cond.methodLink RX2 208 yX2_living, Cond.instanceMethod yX2_living, Cond.selects RX2 yX2_living yX2_living, Cond.code yX2_living cX2_living 1 (some .int), Cond.methodLink RX2 211 yX2_day, Cond.instanceMethod yX2_day, Cond.selects RX2 yX2_day yX2_day, Cond.code yX2_day cX2_day 1 (some .int)]
def wsL_law0_r14 : List Cond := [Cond.methodLink RX2 214 yX2_strictest, Cond.instanceMethod yX2_strictest, Cond.selects RX2 yX2_strictest yX2_strictest, Cond.code yX2_strictest cX2_strictest 3 (some .int), Cond.methodLink RX2 217 yX2_longestMourner, Cond.instanceMethod yX2_longestMourner, Cond.selects RX2 yX2_longestMourner yX2_longestMourner, Cond.code yX2_longestMourner cX2_longestMourner 5 (some .int), Cond.methodLink RX2 167 yX2_longestLeft, Cond.instanceMethod yX2_longestLeft, Cond.selects RX2 yX2_longestLeft yX2_longestLeft, Cond.code yX2_longestLeft cX2_longestLeft 4 (some .int), Cond.methodLink RX2 220 yX2_daysWorn, Cond.instanceMethod yX2_daysWorn, Cond.selects RX2 yX2_daysWorn yX2_daysWorn, Cond.code yX2_daysWorn cX2_daysWorn 1 (some .int), Cond.methodLink RX2 223 yX2_digestCode, Cond.instanceMethod yX2_digestCode, Cond.selects RX2 yX2_digestCode yX2_digestCode, Cond.code yX2_digestCode cX2_digestCode 7 (some .long), Cond.methodLink RX2 231 yX2_stageColour, Cond.instanceMethod yX2_stageColour, Cond.selects RX2 yX2_stageColour yX2_stageColour, Cond.code yX2_stageColour cX2_stageColour 3 (some .int)]
def wsL_law0_r15 : List Cond := [Cond.methodLink RX2 234 yX2_stageDays, Cond.instanceMethod yX2_stageDays, Cond.selects RX2 yX2_stageDays yX2_stageDays, Cond.code yX2_stageDays cX2_stageDays 3 (some .int), Cond.methodLink RX2 227 yX2_digestPerson, Cond.instanceMethod yX2_digestPerson, Cond.selects RX2 yX2_digestPerson yX2_digestPerson, Cond.code yX2_digestPerson cX2_digestPerson 7 (some .long), Cond.methodLink RX2 237 yX2_isAlive, Cond.instanceMethod yX2_isAlive, Cond.selects RX2 yX2_isAlive yX2_isAlive, Cond.code yX2_isAlive cX2_isAlive 2 (some .boolean), Cond.methodLink RX2 240 yX2_parentOf, Cond.instanceMethod yX2_parentOf, Cond.selects RX2 yX2_parentOf yX2_parentOf, Cond.code yX2_parentOf cX2_parentOf 2 (some .int), Cond.fieldLink RX2 147 "MourningRibbons$Family" "parent" "[I", Cond.methodLink RX2 243 yX2_marriedTo, Cond.instanceMethod yX2_marriedTo, Cond.selects RX2 yX2_marriedTo yX2_marriedTo, Cond.code yX2_marriedTo cX2_marriedTo 2 (some .int), Cond.fieldLink RX2 150 "MourningRibbons$Family" "spouse" "[I", Cond.methodLink RX2 246 yX2_colourOf, Cond.instanceMethod yX2_colourOf]
def wsL_law0_r16 : List Cond := [Cond.selects RX2 yX2_colourOf yX2_colourOf, Cond.code yX2_colourOf cX2_colourOf 2 (some .int), Cond.methodLink RX2 249 yX2_mourningsOf, Cond.instanceMethod yX2_mourningsOf, Cond.selects RX2 yX2_mourningsOf yX2_mourningsOf, Cond.code yX2_mourningsOf cX2_mourningsOf 2 (some .int), Cond.methodLink RX2 164 yX2_countMournings, Cond.instanceMethod yX2_countMournings, Cond.selects RX2 yX2_countMournings yX2_countMournings, Cond.code yX2_countMournings cX2_countMournings 4 (some .int), Cond.methodLink RX2 252 yX2_daysLeft, Cond.instanceMethod yX2_daysLeft, Cond.selects RX2 yX2_daysLeft yX2_daysLeft, Cond.code yX2_daysLeft cX2_daysLeft 2 (some .int), Cond.methodLink RX2 255 yX2_daysUntilLighter, Cond.instanceMethod yX2_daysUntilLighter, Cond.selects RX2 yX2_daysUntilLighter yX2_daysUntilLighter, Cond.code yX2_daysUntilLighter cX2_daysUntilLighter 2 (some .int), Cond.methodLink RX2 170 yX2_firstLighterDay, Cond.instanceMethod yX2_firstLighterDay, Cond.selects RX2 yX2_firstLighterDay yX2_firstLighterDay, Cond.code yX2_firstLighterDay cX2_firstLighterDay 2 (some .int), Cond.methodLink RX2 156 yX1_countKin, Cond.instanceMethod yX1_countKin]
def wsL_law0_r17 : List Cond := [Cond.selects RX1 yX1_countKin yX1_countKin, Cond.code yX1_countKin cX1_countKin 4 (some .int), Cond.methodLink RL 97 yX2_people, Cond.methodLink RL 99 yX2_isAlive, Cond.methodLink RL 102 yX2_degreeOf, Cond.instanceMethod yX2_degreeOf, Cond.selects RX2 yX2_degreeOf yX2_degreeOf, Cond.code yX2_degreeOf cX2_degreeOf 3 (some .int), Cond.methodLink RL 105 yX2_parentOf, Cond.methodLink RL 108 yX2_marriedTo, Cond.methodLink RL 111 yX2_daysLeftFor, Cond.instanceMethod yX2_daysLeftFor, Cond.selects RX2 yX2_daysLeftFor yX2_daysLeftFor, Cond.code yX2_daysLeftFor cX2_daysLeftFor 3 (some .int), Cond.methodLink RL 119 yX2_kinOf, Cond.instanceMethod yX2_kinOf, Cond.selects RX2 yX2_kinOf yX2_kinOf, Cond.code yX2_kinOf cX2_kinOf 3 (some .int), Cond.methodLink RL 122 yX2_daysIn, Cond.instanceMethod yX2_daysIn, Cond.selects RX2 yX2_daysIn yX2_daysIn, Cond.code yX2_daysIn cX2_daysIn 3 (some .int), Cond.methodLink RX2 178 yX2_countAhead, Cond.instanceMethod yX2_countAhead]
def wsL_law0_r18 : List Cond := [Cond.selects RX2 yX2_countAhead yX2_countAhead, Cond.code yX2_countAhead cX2_countAhead 4 (some .int), Cond.methodLink RL 125 yX2_daysLeft, Cond.methodLink RL 128 yX2_mourningsOf, Cond.methodLink RL 131 yX2_colourOf, Cond.methodLink RL 134 yX2_colourIn, Cond.instanceMethod yX2_colourIn, Cond.selects RX2 yX2_colourIn yX2_colourIn, Cond.code yX2_colourIn cX2_colourIn 3 (some .int), Cond.methodLink RL 137 yX2_daysUntilLighter, Cond.methodLink RL 140 yX2_wearing, Cond.instanceMethod yX2_wearing, Cond.selects RX2 yX2_wearing yX2_wearing, Cond.code yX2_wearing cX2_wearing 2 (some .int), Cond.methodLink RL 143 yX2_strictest, Cond.methodLink RL 146 yX2_longestMourner, Cond.methodLink RL 149 yX2_living, Cond.methodLink RL 152 yX2_heaviestLoss, Cond.instanceMethod yX2_heaviestLoss, Cond.selects RX2 yX2_heaviestLoss yX2_heaviestLoss, Cond.code yX2_heaviestLoss cX2_heaviestLoss 3 (some .int), Cond.methodLink RX2 198 yX2_addLossesOf, Cond.instanceMethod yX2_addLossesOf, Cond.selects RX2 yX2_addLossesOf yX2_addLossesOf]
def wsL_law0_r19 : List Cond := [Cond.code yX2_addLossesOf cX2_addLossesOf 3 none, Cond.methodLink RX2 277 yX2_wornAheadWith, Cond.instanceMethod yX2_wornAheadWith, Cond.selects RX2 yX2_wornAheadWith yX2_wornAheadWith, Cond.code yX2_wornAheadWith cX2_wornAheadWith 4 (some .int), Cond.methodLink RL 155 yX2_wouldMourn, Cond.instanceMethod yX2_wouldMourn, Cond.selects RX2 yX2_wouldMourn yX2_wouldMourn, Cond.code yX2_wouldMourn cX2_wouldMourn 4 (some .int), Cond.methodLink RL 158 yX2_wouldWear, Cond.instanceMethod yX2_wouldWear, Cond.selects RX2 yX2_wouldWear yX2_wouldWear, Cond.code yX2_wouldWear cX2_wouldWear 4 (some .int), Cond.methodLink RL 161 yX2_daysWorn, Cond.methodLink RL 164 yX3_isSame, Cond.instanceMethod yX3_isSame, Cond.selects RX3 yX3_isSame yX3_isSame, Cond.code yX3_isSame cX3_isSame 14 (some .boolean), Cond.methodLink RX3 68 yX3_left, Cond.methodLink RX3 71 yX2_daysLeftFor, Cond.methodLink RX3 76 yX2_degreeOf, Cond.methodLink RX3 79 yX2_kinOf, Cond.methodLink RX3 82 yX2_isAlive, Cond.methodLink RX3 86 yX2_parentOf]
def wsL_law0_r20 : List Cond := [Cond.methodLink RX3 89 yX2_marriedTo, Cond.methodLink RX3 92 yX2_colourOf, Cond.methodLink RX3 95 yX2_mourningsOf, Cond.methodLink RX3 98 yX2_daysLeft, Cond.methodLink RX3 101 yX2_wearing, Cond.methodLink RX3 104 yX2_stageColour, Cond.methodLink RX3 107 yX2_stageDays, Cond.methodLink RX3 110 yX2_people, Cond.methodLink RX3 112 yX2_living, Cond.methodLink RX3 115 yX2_day, Cond.methodLink RX3 117 yX2_strictest, Cond.methodLink RX3 120 yX2_longestMourner, Cond.methodLink RX3 123 yX2_daysWorn, Cond.methodLink RX3 126 yX2_meanDaysLeft, Cond.instanceMethod yX2_meanDaysLeft, Cond.selects RX2 yX2_meanDaysLeft yX2_meanDaysLeft, Cond.code yX2_meanDaysLeft cX2_meanDaysLeft 4 (some .double)]
def wsL_law0 : List Cond := (wsL_law0_r1 ++ (wsL_law0_r2 ++ (wsL_law0_r3 ++ (wsL_law0_r4 ++ (wsL_law0_r5 ++ (wsL_law0_r6 ++ (wsL_law0_r7 ++ (wsL_law0_r8 ++ (wsL_law0_r9 ++ (wsL_law0_r10 ++ (wsL_law0_r11 ++ (wsL_law0_r12 ++ (wsL_law0_r13 ++ (wsL_law0_r14 ++ (wsL_law0_r15 ++ (wsL_law0_r16 ++ (wsL_law0_r17 ++ (wsL_law0_r18 ++ (wsL_law0_r19 ++ wsL_law0_r20))))))))))))))))))) ++ wsX20 ++ wsX10 ++ wsX00 ++ wsX30 ++ ([] : List Cond)
def wsL_law : List Cond := wsL_law0 ++ (vx_atS RX2 65 "java/lang/IllegalStateException" ["java/lang/RuntimeException", "java/lang/Exception"]).filter goodWord ++ (vx_atS RX2 177 "java/lang/IndexOutOfBoundsException" ["java/lang/RuntimeException", "java/lang/Exception"]).filter goodWord ++ (vx_atS RX2 84 "java/lang/IllegalArgumentException" ["java/lang/RuntimeException", "java/lang/Exception"]).filter goodWord
end
section
set_option maxRecDepth 20000 in
theorem wsL_in_r1_0 : ∀ w ∈ ((wsL_law0_r1.drop 0).take 8), w ∈ lw_tbl := fun w h => (goodIn_p ((wsL_law0_r1.drop 0).take 8) [291] (by decide +kernel) (by decide +kernel) w h).1
set_option maxRecDepth 20000 in
theorem wsL_in_r1_1 : ∀ w ∈ ((wsL_law0_r1.drop 8).take 8), w ∈ lw_tbl := fun w h => (goodIn_p ((wsL_law0_r1.drop 8).take 8) [44, 47] (by decide +kernel) (by decide +kernel) w h).1
set_option maxRecDepth 20000 in
theorem wsL_in_r1_2 : ∀ w ∈ ((wsL_law0_r1.drop 16).take 8), w ∈ lw_tbl := fun w h => (goodIn_p ((wsL_law0_r1.drop 16).take 8) [] (by decide +kernel) (by decide +kernel) w h).1
theorem wsL_in_r1 : ∀ w ∈ wsL_law0_r1, w ∈ lw_tbl := List.forall_mem_append.mpr ⟨wsL_in_r1_0, List.forall_mem_append.mpr ⟨wsL_in_r1_1, wsL_in_r1_2⟩⟩
set_option maxRecDepth 20000 in
theorem wsL_in_r2_0 : ∀ w ∈ ((wsL_law0_r2.drop 0).take 8), w ∈ lw_tbl := fun w h => (goodIn_p ((wsL_law0_r2.drop 0).take 8) [52] (by decide +kernel) (by decide +kernel) w h).1
set_option maxRecDepth 20000 in
theorem wsL_in_r2_1 : ∀ w ∈ ((wsL_law0_r2.drop 8).take 8), w ∈ lw_tbl := fun w h => (goodIn_p ((wsL_law0_r2.drop 8).take 8) [81] (by decide +kernel) (by decide +kernel) w h).1
set_option maxRecDepth 20000 in
theorem wsL_in_r2_2 : ∀ w ∈ ((wsL_law0_r2.drop 16).take 8), w ∈ lw_tbl := fun w h => (goodIn_p ((wsL_law0_r2.drop 16).take 8) [633] (by decide +kernel) (by decide +kernel) w h).1
theorem wsL_in_r2 : ∀ w ∈ wsL_law0_r2, w ∈ lw_tbl := List.forall_mem_append.mpr ⟨wsL_in_r2_0, List.forall_mem_append.mpr ⟨wsL_in_r2_1, wsL_in_r2_2⟩⟩
set_option maxRecDepth 20000 in
theorem wsL_in_r3_0 : ∀ w ∈ ((wsL_law0_r3.drop 0).take 8), w ∈ lw_tbl := fun w h => (goodIn_p ((wsL_law0_r3.drop 0).take 8) [638] (by decide +kernel) (by decide +kernel) w h).1
set_option maxRecDepth 20000 in
theorem wsL_in_r3_1 : ∀ w ∈ ((wsL_law0_r3.drop 8).take 8), w ∈ lw_tbl := fun w h => (goodIn_p ((wsL_law0_r3.drop 8).take 8) [561, 557] (by decide +kernel) (by decide +kernel) w h).1
set_option maxRecDepth 20000 in
theorem wsL_in_r3_2 : ∀ w ∈ ((wsL_law0_r3.drop 16).take 8), w ∈ lw_tbl := fun w h => (goodIn_p ((wsL_law0_r3.drop 16).take 8) [505, 571] (by decide +kernel) (by decide +kernel) w h).1
theorem wsL_in_r3 : ∀ w ∈ wsL_law0_r3, w ∈ lw_tbl := List.forall_mem_append.mpr ⟨wsL_in_r3_0, List.forall_mem_append.mpr ⟨wsL_in_r3_1, wsL_in_r3_2⟩⟩
set_option maxRecDepth 20000 in
theorem wsL_in_r4_0 : ∀ w ∈ ((wsL_law0_r4.drop 0).take 8), w ∈ lw_tbl := fun w h => (goodIn_p ((wsL_law0_r4.drop 0).take 8) [575] (by decide +kernel) (by decide +kernel) w h).1
set_option maxRecDepth 20000 in
theorem wsL_in_r4_1 : ∀ w ∈ ((wsL_law0_r4.drop 8).take 8), w ∈ lw_tbl := fun w h => (goodIn_p ((wsL_law0_r4.drop 8).take 8) [579, 584] (by decide +kernel) (by decide +kernel) w h).1
set_option maxRecDepth 20000 in
theorem wsL_in_r4_2 : ∀ w ∈ ((wsL_law0_r4.drop 16).take 8), w ∈ lw_tbl := fun w h => (goodIn_p ((wsL_law0_r4.drop 16).take 8) [588, 127] (by decide +kernel) (by decide +kernel) w h).1
theorem wsL_in_r4 : ∀ w ∈ wsL_law0_r4, w ∈ lw_tbl := List.forall_mem_append.mpr ⟨wsL_in_r4_0, List.forall_mem_append.mpr ⟨wsL_in_r4_1, wsL_in_r4_2⟩⟩
set_option maxRecDepth 20000 in
theorem wsL_in_r5_0 : ∀ w ∈ ((wsL_law0_r5.drop 0).take 8), w ∈ lw_tbl := fun w h => (goodIn_p ((wsL_law0_r5.drop 0).take 8) [199] (by decide +kernel) (by decide +kernel) w h).1
set_option maxRecDepth 20000 in
theorem wsL_in_r5_1 : ∀ w ∈ ((wsL_law0_r5.drop 8).take 8), w ∈ lw_tbl := fun w h => (goodIn_p ((wsL_law0_r5.drop 8).take 8) [495, 597] (by decide +kernel) (by decide +kernel) w h).1
set_option maxRecDepth 20000 in
theorem wsL_in_r5_2 : ∀ w ∈ ((wsL_law0_r5.drop 16).take 8), w ∈ lw_tbl := fun w h => (goodIn_p ((wsL_law0_r5.drop 16).take 8) [601, 426] (by decide +kernel) (by decide +kernel) w h).1
theorem wsL_in_r5 : ∀ w ∈ wsL_law0_r5, w ∈ lw_tbl := List.forall_mem_append.mpr ⟨wsL_in_r5_0, List.forall_mem_append.mpr ⟨wsL_in_r5_1, wsL_in_r5_2⟩⟩
set_option maxRecDepth 20000 in
theorem wsL_in_r6_0 : ∀ w ∈ ((wsL_law0_r6.drop 0).take 8), w ∈ lw_tbl := fun w h => (goodIn_p ((wsL_law0_r6.drop 0).take 8) [605] (by decide +kernel) (by decide +kernel) w h).1
set_option maxRecDepth 20000 in
theorem wsL_in_r6_1 : ∀ w ∈ ((wsL_law0_r6.drop 8).take 8), w ∈ lw_tbl := fun w h => (goodIn_p ((wsL_law0_r6.drop 8).take 8) [240, 243] (by decide +kernel) (by decide +kernel) w h).1
set_option maxRecDepth 20000 in
theorem wsL_in_r6_2 : ∀ w ∈ ((wsL_law0_r6.drop 16).take 8), w ∈ lw_tbl := fun w h => (goodIn_p ((wsL_law0_r6.drop 16).take 8) [247, 251] (by decide +kernel) (by decide +kernel) w h).1
theorem wsL_in_r6 : ∀ w ∈ wsL_law0_r6, w ∈ lw_tbl := List.forall_mem_append.mpr ⟨wsL_in_r6_0, List.forall_mem_append.mpr ⟨wsL_in_r6_1, wsL_in_r6_2⟩⟩
set_option maxRecDepth 20000 in
theorem wsL_in_r7_0 : ∀ w ∈ ((wsL_law0_r7.drop 0).take 8), w ∈ lw_tbl := fun w h => (goodIn_p ((wsL_law0_r7.drop 0).take 8) [610, 614] (by decide +kernel) (by decide +kernel) w h).1
set_option maxRecDepth 20000 in
theorem wsL_in_r7_1 : ∀ w ∈ ((wsL_law0_r7.drop 8).take 8), w ∈ lw_tbl := fun w h => (goodIn_p ((wsL_law0_r7.drop 8).take 8) [618, 466] (by decide +kernel) (by decide +kernel) w h).1
set_option maxRecDepth 20000 in
theorem wsL_in_r7_2 : ∀ w ∈ ((wsL_law0_r7.drop 16).take 8), w ∈ lw_tbl := fun w h => (goodIn_p ((wsL_law0_r7.drop 16).take 8) [346, 222] (by decide +kernel) (by decide +kernel) w h).1
theorem wsL_in_r7 : ∀ w ∈ wsL_law0_r7, w ∈ lw_tbl := List.forall_mem_append.mpr ⟨wsL_in_r7_0, List.forall_mem_append.mpr ⟨wsL_in_r7_1, wsL_in_r7_2⟩⟩
set_option maxRecDepth 20000 in
theorem wsL_in_r8_0 : ∀ w ∈ ((wsL_law0_r8.drop 0).take 8), w ∈ lw_tbl := fun w h => (goodIn_p ((wsL_law0_r8.drop 0).take 8) [259, 502] (by decide +kernel) (by decide +kernel) w h).1
set_option maxRecDepth 20000 in
theorem wsL_in_r8_1 : ∀ w ∈ ((wsL_law0_r8.drop 8).take 2), w ∈ lw_tbl := fun w h => (goodIn_p ((wsL_law0_r8.drop 8).take 2) [] (by decide +kernel) (by decide +kernel) w h).1
set_option maxRecDepth 100000 in
theorem wsL_in_r8_2 : ∀ w ∈ ((wsL_law0_r8.drop 10).take 1), w ∈ lw_tbl := by
  intro w h
  have e : w = Cond.codeWith yL_act cL_act 10 (some .boolean) [(155, 161, 164, 31), (232, 240, 243, 31), (309, 319, 322, 31), (497, 505, 508, 31), (554, 564, 567, 31)] := List.mem_singleton.mp h
  rw [e]
  exact List.mem_append_right _ (List.mem_of_getElem? (i := 539) rfl)
set_option maxRecDepth 20000 in
theorem wsL_in_r8_3 : ∀ w ∈ ((wsL_law0_r8.drop 11).take 8), w ∈ lw_tbl := fun w h => (goodIn_p ((wsL_law0_r8.drop 11).take 8) [592] (by decide +kernel) (by decide +kernel) w h).1
set_option maxRecDepth 20000 in
theorem wsL_in_r8_4 : ∀ w ∈ ((wsL_law0_r8.drop 19).take 5), w ∈ lw_tbl := fun w h => (goodIn_p ((wsL_law0_r8.drop 19).take 5) [487, 491] (by decide +kernel) (by decide +kernel) w h).1
theorem wsL_in_r8 : ∀ w ∈ wsL_law0_r8, w ∈ lw_tbl := List.forall_mem_append.mpr ⟨wsL_in_r8_0, List.forall_mem_append.mpr ⟨wsL_in_r8_1, List.forall_mem_append.mpr ⟨wsL_in_r8_2, List.forall_mem_append.mpr ⟨wsL_in_r8_3, wsL_in_r8_4⟩⟩⟩⟩
set_option maxRecDepth 20000 in
theorem wsL_in_r9_0 : ∀ w ∈ ((wsL_law0_r9.drop 0).take 8), w ∈ lw_tbl := fun w h => (goodIn_p ((wsL_law0_r9.drop 0).take 8) [123] (by decide +kernel) (by decide +kernel) w h).1
set_option maxRecDepth 20000 in
theorem wsL_in_r9_1 : ∀ w ∈ ((wsL_law0_r9.drop 8).take 8), w ∈ lw_tbl := fun w h => (goodIn_p ((wsL_law0_r9.drop 8).take 8) [219] (by decide +kernel) (by decide +kernel) w h).1
set_option maxRecDepth 20000 in
theorem wsL_in_r9_2 : ∀ w ∈ ((wsL_law0_r9.drop 16).take 8), w ∈ lw_tbl := fun w h => (goodIn_p ((wsL_law0_r9.drop 16).take 8) [229, 232] (by decide +kernel) (by decide +kernel) w h).1
theorem wsL_in_r9 : ∀ w ∈ wsL_law0_r9, w ∈ lw_tbl := List.forall_mem_append.mpr ⟨wsL_in_r9_0, List.forall_mem_append.mpr ⟨wsL_in_r9_1, wsL_in_r9_2⟩⟩
set_option maxRecDepth 20000 in
theorem wsL_in_r10_0 : ∀ w ∈ ((wsL_law0_r10.drop 0).take 8), w ∈ lw_tbl := fun w h => (goodIn_p ((wsL_law0_r10.drop 0).take 8) [236, 255] (by decide +kernel) (by decide +kernel) w h).1
set_option maxRecDepth 20000 in
theorem wsL_in_r10_1 : ∀ w ∈ ((wsL_law0_r10.drop 8).take 8), w ∈ lw_tbl := fun w h => (goodIn_p ((wsL_law0_r10.drop 8).take 8) [532, 524] (by decide +kernel) (by decide +kernel) w h).1
set_option maxRecDepth 20000 in
theorem wsL_in_r10_2 : ∀ w ∈ ((wsL_law0_r10.drop 16).take 8), w ∈ lw_tbl := fun w h => (goodIn_p ((wsL_law0_r10.drop 16).take 8) [625, 629] (by decide +kernel) (by decide +kernel) w h).1
theorem wsL_in_r10 : ∀ w ∈ wsL_law0_r10, w ∈ lw_tbl := List.forall_mem_append.mpr ⟨wsL_in_r10_0, List.forall_mem_append.mpr ⟨wsL_in_r10_1, wsL_in_r10_2⟩⟩
set_option maxRecDepth 20000 in
theorem wsL_in_r11_0 : ∀ w ∈ ((wsL_law0_r11.drop 0).take 8), w ∈ lw_tbl := fun w h => (goodIn_p ((wsL_law0_r11.drop 0).take 8) [288] (by decide +kernel) (by decide +kernel) w h).1
end
section
set_option maxRecDepth 20000 in
theorem wsL_in_r11_1 : ∀ w ∈ ((wsL_law0_r11.drop 8).take 8), w ∈ lw_tbl := fun w h => (goodIn_p ((wsL_law0_r11.drop 8).take 8) [263, 283] (by decide +kernel) (by decide +kernel) w h).1
set_option maxRecDepth 20000 in
theorem wsL_in_r11_2 : ∀ w ∈ ((wsL_law0_r11.drop 16).take 8), w ∈ lw_tbl := fun w h => (goodIn_p ((wsL_law0_r11.drop 16).take 8) [294, 298] (by decide +kernel) (by decide +kernel) w h).1
theorem wsL_in_r11 : ∀ w ∈ wsL_law0_r11, w ∈ lw_tbl := List.forall_mem_append.mpr ⟨wsL_in_r11_0, List.forall_mem_append.mpr ⟨wsL_in_r11_1, wsL_in_r11_2⟩⟩
set_option maxRecDepth 20000 in
theorem wsL_in_r12_0 : ∀ w ∈ ((wsL_law0_r12.drop 0).take 8), w ∈ lw_tbl := fun w h => (goodIn_p ((wsL_law0_r12.drop 0).take 8) [302, 306] (by decide +kernel) (by decide +kernel) w h).1
set_option maxRecDepth 20000 in
theorem wsL_in_r12_1 : ∀ w ∈ ((wsL_law0_r12.drop 8).take 8), w ∈ lw_tbl := fun w h => (goodIn_p ((wsL_law0_r12.drop 8).take 8) [310, 314] (by decide +kernel) (by decide +kernel) w h).1
set_option maxRecDepth 20000 in
theorem wsL_in_r12_2 : ∀ w ∈ ((wsL_law0_r12.drop 16).take 8), w ∈ lw_tbl := fun w h => (goodIn_p ((wsL_law0_r12.drop 16).take 8) [509, 513] (by decide +kernel) (by decide +kernel) w h).1
theorem wsL_in_r12 : ∀ w ∈ wsL_law0_r12, w ∈ lw_tbl := List.forall_mem_append.mpr ⟨wsL_in_r12_0, List.forall_mem_append.mpr ⟨wsL_in_r12_1, wsL_in_r12_2⟩⟩
set_option maxRecDepth 20000 in
theorem wsL_in_r13_0 : ∀ w ∈ ((wsL_law0_r13.drop 0).take 8), w ∈ lw_tbl := fun w h => (goodIn_p ((wsL_law0_r13.drop 0).take 8) [517, 520] (by decide +kernel) (by decide +kernel) w h).1
set_option maxRecDepth 20000 in
theorem wsL_in_r13_1 : ∀ w ∈ ((wsL_law0_r13.drop 8).take 8), w ∈ lw_tbl := fun w h => (goodIn_p ((wsL_law0_r13.drop 8).take 8) [443, 318] (by decide +kernel) (by decide +kernel) w h).1
set_option maxRecDepth 20000 in
theorem wsL_in_r13_2 : ∀ w ∈ ((wsL_law0_r13.drop 16).take 8), w ∈ lw_tbl := fun w h => (goodIn_p ((wsL_law0_r13.drop 16).take 8) [322, 451] (by decide +kernel) (by decide +kernel) w h).1
theorem wsL_in_r13 : ∀ w ∈ wsL_law0_r13, w ∈ lw_tbl := List.forall_mem_append.mpr ⟨wsL_in_r13_0, List.forall_mem_append.mpr ⟨wsL_in_r13_1, wsL_in_r13_2⟩⟩
set_option maxRecDepth 20000 in
theorem wsL_in_r14_0 : ∀ w ∈ ((wsL_law0_r14.drop 0).take 8), w ∈ lw_tbl := fun w h => (goodIn_p ((wsL_law0_r14.drop 0).take 8) [406, 410] (by decide +kernel) (by decide +kernel) w h).1
set_option maxRecDepth 20000 in
theorem wsL_in_r14_1 : ∀ w ∈ ((wsL_law0_r14.drop 8).take 8), w ∈ lw_tbl := fun w h => (goodIn_p ((wsL_law0_r14.drop 8).take 8) [380, 414] (by decide +kernel) (by decide +kernel) w h).1
set_option maxRecDepth 20000 in
theorem wsL_in_r14_2 : ∀ w ∈ ((wsL_law0_r14.drop 16).take 8), w ∈ lw_tbl := fun w h => (goodIn_p ((wsL_law0_r14.drop 16).take 8) [458, 462] (by decide +kernel) (by decide +kernel) w h).1
theorem wsL_in_r14 : ∀ w ∈ wsL_law0_r14, w ∈ lw_tbl := List.forall_mem_append.mpr ⟨wsL_in_r14_0, List.forall_mem_append.mpr ⟨wsL_in_r14_1, wsL_in_r14_2⟩⟩
set_option maxRecDepth 20000 in
theorem wsL_in_r15_0 : ∀ w ∈ ((wsL_law0_r15.drop 0).take 8), w ∈ lw_tbl := fun w h => (goodIn_p ((wsL_law0_r15.drop 0).take 8) [472, 476] (by decide +kernel) (by decide +kernel) w h).1
set_option maxRecDepth 20000 in
theorem wsL_in_r15_1 : ∀ w ∈ ((wsL_law0_r15.drop 8).take 8), w ∈ lw_tbl := fun w h => (goodIn_p ((wsL_law0_r15.drop 8).take 8) [326, 330] (by decide +kernel) (by decide +kernel) w h).1
set_option maxRecDepth 20000 in
theorem wsL_in_r15_2 : ∀ w ∈ ((wsL_law0_r15.drop 16).take 8), w ∈ lw_tbl := fun w h => (goodIn_p ((wsL_law0_r15.drop 16).take 8) [334] (by decide +kernel) (by decide +kernel) w h).1
theorem wsL_in_r15 : ∀ w ∈ wsL_law0_r15, w ∈ lw_tbl := List.forall_mem_append.mpr ⟨wsL_in_r15_0, List.forall_mem_append.mpr ⟨wsL_in_r15_1, wsL_in_r15_2⟩⟩
set_option maxRecDepth 20000 in
theorem wsL_in_r16_0 : ∀ w ∈ ((wsL_law0_r16.drop 0).take 8), w ∈ lw_tbl := fun w h => (goodIn_p ((wsL_law0_r16.drop 0).take 8) [355, 364] (by decide +kernel) (by decide +kernel) w h).1
set_option maxRecDepth 20000 in
theorem wsL_in_r16_1 : ∀ w ∈ ((wsL_law0_r16.drop 8).take 8), w ∈ lw_tbl := fun w h => (goodIn_p ((wsL_law0_r16.drop 8).take 8) [368, 376] (by decide +kernel) (by decide +kernel) w h).1
set_option maxRecDepth 20000 in
theorem wsL_in_r16_2 : ∀ w ∈ ((wsL_law0_r16.drop 16).take 8), w ∈ lw_tbl := fun w h => (goodIn_p ((wsL_law0_r16.drop 16).take 8) [384, 388] (by decide +kernel) (by decide +kernel) w h).1
theorem wsL_in_r16 : ∀ w ∈ wsL_law0_r16, w ∈ lw_tbl := List.forall_mem_append.mpr ⟨wsL_in_r16_0, List.forall_mem_append.mpr ⟨wsL_in_r16_1, wsL_in_r16_2⟩⟩
set_option maxRecDepth 20000 in
theorem wsL_in_r17_0 : ∀ w ∈ ((wsL_law0_r17.drop 0).take 8), w ∈ lw_tbl := fun w h => (goodIn_p ((wsL_law0_r17.drop 0).take 8) [351, 338] (by decide +kernel) (by decide +kernel) w h).1
set_option maxRecDepth 20000 in
theorem wsL_in_r17_1 : ∀ w ∈ ((wsL_law0_r17.drop 8).take 8), w ∈ lw_tbl := fun w h => (goodIn_p ((wsL_law0_r17.drop 8).take 8) [372] (by decide +kernel) (by decide +kernel) w h).1
set_option maxRecDepth 20000 in
theorem wsL_in_r17_2 : ∀ w ∈ ((wsL_law0_r17.drop 16).take 8), w ∈ lw_tbl := fun w h => (goodIn_p ((wsL_law0_r17.drop 16).take 8) [342, 392] (by decide +kernel) (by decide +kernel) w h).1
theorem wsL_in_r17 : ∀ w ∈ wsL_law0_r17, w ∈ lw_tbl := List.forall_mem_append.mpr ⟨wsL_in_r17_0, List.forall_mem_append.mpr ⟨wsL_in_r17_1, wsL_in_r17_2⟩⟩
set_option maxRecDepth 20000 in
theorem wsL_in_r18_0 : ∀ w ∈ ((wsL_law0_r18.drop 0).take 8), w ∈ lw_tbl := fun w h => (goodIn_p ((wsL_law0_r18.drop 0).take 8) [397] (by decide +kernel) (by decide +kernel) w h).1
set_option maxRecDepth 20000 in
theorem wsL_in_r18_1 : ∀ w ∈ ((wsL_law0_r18.drop 8).take 8), w ∈ lw_tbl := fun w h => (goodIn_p ((wsL_law0_r18.drop 8).take 8) [359, 401] (by decide +kernel) (by decide +kernel) w h).1
set_option maxRecDepth 20000 in
theorem wsL_in_r18_2 : ∀ w ∈ ((wsL_law0_r18.drop 16).take 8), w ∈ lw_tbl := fun w h => (goodIn_p ((wsL_law0_r18.drop 16).take 8) [431] (by decide +kernel) (by decide +kernel) w h).1
theorem wsL_in_r18 : ∀ w ∈ wsL_law0_r18, w ∈ lw_tbl := List.forall_mem_append.mpr ⟨wsL_in_r18_0, List.forall_mem_append.mpr ⟨wsL_in_r18_1, wsL_in_r18_2⟩⟩
set_option maxRecDepth 20000 in
theorem wsL_in_r19_0 : ∀ w ∈ ((wsL_law0_r19.drop 0).take 8), w ∈ lw_tbl := fun w h => (goodIn_p ((wsL_law0_r19.drop 0).take 8) [435, 439] (by decide +kernel) (by decide +kernel) w h).1
set_option maxRecDepth 20000 in
theorem wsL_in_r19_1 : ∀ w ∈ ((wsL_law0_r19.drop 8).take 8), w ∈ lw_tbl := fun w h => (goodIn_p ((wsL_law0_r19.drop 8).take 8) [418, 422] (by decide +kernel) (by decide +kernel) w h).1
set_option maxRecDepth 20000 in
theorem wsL_in_r19_2 : ∀ w ∈ ((wsL_law0_r19.drop 16).take 8), w ∈ lw_tbl := fun w h => (goodIn_p ((wsL_law0_r19.drop 16).take 8) [528] (by decide +kernel) (by decide +kernel) w h).1
theorem wsL_in_r19 : ∀ w ∈ wsL_law0_r19, w ∈ lw_tbl := List.forall_mem_append.mpr ⟨wsL_in_r19_0, List.forall_mem_append.mpr ⟨wsL_in_r19_1, wsL_in_r19_2⟩⟩
set_option maxRecDepth 20000 in
theorem wsL_in_r20_0 : ∀ w ∈ ((wsL_law0_r20.drop 0).take 8), w ∈ lw_tbl := fun w h => (goodIn_p ((wsL_law0_r20.drop 0).take 8) [] (by decide +kernel) (by decide +kernel) w h).1
set_option maxRecDepth 20000 in
theorem wsL_in_r20_1 : ∀ w ∈ ((wsL_law0_r20.drop 8).take 8), w ∈ lw_tbl := fun w h => (goodIn_p ((wsL_law0_r20.drop 8).take 8) [] (by decide +kernel) (by decide +kernel) w h).1
set_option maxRecDepth 20000 in
theorem wsL_in_r20_2 : ∀ w ∈ ((wsL_law0_r20.drop 16).take 1), w ∈ lw_tbl := fun w h => (goodIn_p ((wsL_law0_r20.drop 16).take 1) [554] (by decide +kernel) (by decide +kernel) w h).1
theorem wsL_in_r20 : ∀ w ∈ wsL_law0_r20, w ∈ lw_tbl := List.forall_mem_append.mpr ⟨wsL_in_r20_0, List.forall_mem_append.mpr ⟨wsL_in_r20_1, wsL_in_r20_2⟩⟩
theorem wsL_in_wsX20 : ∀ w ∈ wsX20, w ∈ lw_tbl := by decide +kernel
theorem wsL_in_wsX10 : ∀ w ∈ wsX10, w ∈ lw_tbl := by decide +kernel
theorem wsL_in_wsX00 : ∀ w ∈ wsX00, w ∈ lw_tbl := by decide +kernel
theorem wsL_in_wsX30 : ∀ w ∈ wsX30, w ∈ lw_tbl := by decide +kernel
theorem wsL_law_in0 : ∀ w ∈ wsL_law0, w ∈ lw_tbl := List.forall_mem_append.mpr ⟨List.forall_mem_append.mpr ⟨List.forall_mem_append.mpr ⟨List.forall_mem_append.mpr ⟨List.forall_mem_append.mpr ⟨List.forall_mem_append.mpr ⟨wsL_in_r1, List.forall_mem_append.mpr ⟨wsL_in_r2, List.forall_mem_append.mpr ⟨wsL_in_r3, List.forall_mem_append.mpr ⟨wsL_in_r4, List.forall_mem_append.mpr ⟨wsL_in_r5, List.forall_mem_append.mpr ⟨wsL_in_r6, List.forall_mem_append.mpr ⟨wsL_in_r7, List.forall_mem_append.mpr ⟨wsL_in_r8, List.forall_mem_append.mpr ⟨wsL_in_r9, List.forall_mem_append.mpr ⟨wsL_in_r10, List.forall_mem_append.mpr ⟨wsL_in_r11, List.forall_mem_append.mpr ⟨wsL_in_r12, List.forall_mem_append.mpr ⟨wsL_in_r13, List.forall_mem_append.mpr ⟨wsL_in_r14, List.forall_mem_append.mpr ⟨wsL_in_r15, List.forall_mem_append.mpr ⟨wsL_in_r16, List.forall_mem_append.mpr ⟨wsL_in_r17, List.forall_mem_append.mpr ⟨wsL_in_r18, List.forall_mem_append.mpr ⟨wsL_in_r19, wsL_in_r20⟩⟩⟩⟩⟩⟩⟩⟩⟩⟩⟩⟩⟩⟩⟩⟩⟩⟩⟩, wsL_in_wsX20⟩, wsL_in_wsX10⟩, wsL_in_wsX00⟩, wsL_in_wsX30⟩, fun _ h => nomatch h⟩
end
section
theorem wsL_law_x0 : ∀ w ∈ (vx_atS RX2 65 "java/lang/IllegalStateException" ["java/lang/RuntimeException", "java/lang/Exception"]).filter goodWord, w ∈ lw_tbl := by decide +kernel
theorem wsL_law_x1 : ∀ w ∈ (vx_atS RX2 177 "java/lang/IndexOutOfBoundsException" ["java/lang/RuntimeException", "java/lang/Exception"]).filter goodWord, w ∈ lw_tbl := by decide +kernel
theorem wsL_law_x2 : ∀ w ∈ (vx_atS RX2 84 "java/lang/IllegalArgumentException" ["java/lang/RuntimeException", "java/lang/Exception"]).filter goodWord, w ∈ lw_tbl := by decide +kernel
theorem wsL_law_in : ∀ w ∈ wsL_law, w ∈ lw_tbl := fun w h => (List.mem_append.mp h).elim (fun h => (List.mem_append.mp h).elim (fun h => (List.mem_append.mp h).elim (fun h => wsL_law_in0 w h) (fun h => wsL_law_x0 w h)) (fun h => wsL_law_x1 w h)) (fun h => wsL_law_x2 w h)
theorem inlX0 : ∀ w ∈ wsX00, w ∈ wsL_law := fun _ h => List.mem_append_left _ (List.mem_append_left _ (List.mem_append_left _ (List.mem_append_left _ (List.mem_append_left _ (List.mem_append_right _ h)))))
theorem inX0 : ∀ w ∈ wsX00, w ∈ lw_tbl := fun w h => wsL_law_in w (inlX0 w h)
theorem inlX1 : ∀ w ∈ wsX10, w ∈ wsL_law := fun _ h => List.mem_append_left _ (List.mem_append_left _ (List.mem_append_left _ (List.mem_append_left _ (List.mem_append_left _ (List.mem_append_left _ (List.mem_append_right _ h))))))
theorem inX1 : ∀ w ∈ wsX10, w ∈ lw_tbl := fun w h => wsL_law_in w (inlX1 w h)
theorem inlX2 : ∀ w ∈ wsX20, w ∈ wsL_law := fun _ h => List.mem_append_left _ (List.mem_append_left _ (List.mem_append_left _ (List.mem_append_left _ (List.mem_append_left _ (List.mem_append_left _ (List.mem_append_left _ (List.mem_append_right _ h)))))))
theorem inX2 : ∀ w ∈ wsX20, w ∈ lw_tbl := fun w h => wsL_law_in w (inlX2 w h)
theorem inlX3 : ∀ w ∈ wsX30, w ∈ wsL_law := fun _ h => List.mem_append_left _ (List.mem_append_left _ (List.mem_append_left _ (List.mem_append_left _ (List.mem_append_right _ h))))
theorem inX3 : ∀ w ∈ wsX30, w ∈ lw_tbl := fun w h => wsL_law_in w (inlX3 w h)
theorem inX4 : ∀ w ∈ wsX40, w ∈ lw_tbl := by decide +kernel
theorem inJx145de : ∀ w ∈ wsJx145de0, w ∈ lw_tbl := by decide +kernel
theorem inJ9 : ∀ w ∈ wsJ90, w ∈ lw_tbl := by decide +kernel
theorem inJ0 : ∀ w ∈ wsJ00, w ∈ lw_tbl := by decide +kernel
theorem inJ10 : ∀ w ∈ wsJ100, w ∈ lw_tbl := by decide +kernel
theorem inJ7 : ∀ w ∈ wsJ70, w ∈ lw_tbl := by decide +kernel
theorem dX0_init_0 : decode cX0_init 0 = .ok (.aload_n 0, 1) := by decide +kernel
theorem dX0_init_1 : decode cX0_init 1 = .ok (.invokespecial 3, 3) := by decide +kernel
theorem dX0_init_4 : decode cX0_init 4 = .ok (.aload_n 0, 1) := by decide +kernel
theorem dX0_init_5 : decode cX0_init 5 = .ok (.sipush 204, 3) := by decide +kernel
theorem dX0_init_8 : decode cX0_init 8 = .ok (.newarray .int, 2) := by decide +kernel
theorem dX0_init_10 : decode cX0_init 10 = .ok (.putfield 11, 3) := by decide +kernel
theorem dX0_init_13 : decode cX0_init 13 = .ok (.aload_n 0, 1) := by decide +kernel
theorem dX0_init_14 : decode cX0_init 14 = .ok (.sipush 204, 3) := by decide +kernel
theorem dX0_init_17 : decode cX0_init 17 = .ok (.newarray .int, 2) := by decide +kernel
theorem dX0_init_19 : decode cX0_init 19 = .ok (.putfield 15, 3) := by decide +kernel
theorem dX0_init_22 : decode cX0_init 22 = .ok (.return_, 1) := by decide +kernel
theorem dX0_place_0 : decode cX0_place 0 = .ok (.iload_n 0, 1) := by decide +kernel
theorem dX0_place_1 : decode cX0_place 1 = .ok (.bipush 12, 2) := by decide +kernel
theorem dX0_place_3 : decode cX0_place 3 = .ok (.imul, 1) := by decide +kernel
theorem dX0_place_4 : decode cX0_place 4 = .ok (.iload_n 1, 1) := by decide +kernel
theorem dX0_place_5 : decode cX0_place 5 = .ok (.iconst 1, 1) := by decide +kernel
theorem dX0_place_6 : decode cX0_place 6 = .ok (.isub, 1) := by decide +kernel
theorem dX0_place_7 : decode cX0_place 7 = .ok (.iconst 3, 1) := by decide +kernel
theorem dX0_place_8 : decode cX0_place 8 = .ok (.imul, 1) := by decide +kernel
theorem dX0_place_9 : decode cX0_place 9 = .ok (.iadd, 1) := by decide +kernel
theorem dX0_place_10 : decode cX0_place 10 = .ok (.iload_n 2, 1) := by decide +kernel
theorem dX0_place_11 : decode cX0_place 11 = .ok (.iadd, 1) := by decide +kernel
theorem dX0_place_12 : decode cX0_place 12 = .ok (.ireturn, 1) := by decide +kernel
set_option maxRecDepth 20000 in
theorem ggX0_keepFor_X0_place : GoodIn wsX0_keepFor wsX0_place := goodIn_r _ [10] (by decide +kernel) (by decide +kernel)
set_option maxRecDepth 20000 in
theorem gX0_keepFor_X0_place : GoodIn wsX0_keepFor (va_wsS RX0 18 yX0_place wsX0_place) := goodIn_app (goodIn_of _ (by decide +kernel)) ggX0_keepFor_X0_place
theorem dX0_keepFor_0 : decode cX0_keepFor 0 = .ok (.bipush 16, 2) := by decide +kernel
theorem dX0_keepFor_2 : decode cX0_keepFor 2 = .ok (.iconst 1, 1) := by decide +kernel
theorem dX0_keepFor_3 : decode cX0_keepFor 3 = .ok (.iconst 0, 1) := by decide +kernel
theorem dX0_keepFor_4 : decode cX0_keepFor 4 = .ok (.invokestatic 18, 3) := by decide +kernel
theorem dX0_keepFor_7 : decode cX0_keepFor 7 = .ok (.istore_n 2, 1) := by decide +kernel
theorem dX0_keepFor_8 : decode cX0_keepFor 8 = .ok (.iload_n 1, 1) := by decide +kernel
theorem dX0_keepFor_9 : decode cX0_keepFor 9 = .ok (.iconst 1, 1) := by decide +kernel
theorem dX0_keepFor_10 : decode cX0_keepFor 10 = .ok (.iconst 0, 1) := by decide +kernel
theorem dX0_keepFor_11 : decode cX0_keepFor 11 = .ok (.invokestatic 18, 3) := by decide +kernel
theorem dX0_keepFor_14 : decode cX0_keepFor 14 = .ok (.istore_n 3, 1) := by decide +kernel
theorem dX0_keepFor_15 : decode cX0_keepFor 15 = .ok (.aload_n 0, 1) := by decide +kernel
theorem dX0_keepFor_16 : decode cX0_keepFor 16 = .ok (.getfield 11, 3) := by decide +kernel
theorem dX0_keepFor_19 : decode cX0_keepFor 19 = .ok (.iload_n 2, 1) := by decide +kernel
theorem dX0_keepFor_20 : decode cX0_keepFor 20 = .ok (.aload_n 0, 1) := by decide +kernel
theorem dX0_keepFor_21 : decode cX0_keepFor 21 = .ok (.getfield 11, 3) := by decide +kernel
theorem dX0_keepFor_24 : decode cX0_keepFor 24 = .ok (.iload_n 3, 1) := by decide +kernel
theorem dX0_keepFor_25 : decode cX0_keepFor 25 = .ok (.bipush 12, 2) := by decide +kernel
theorem dX0_keepFor_27 : decode cX0_keepFor 27 = .ok (.invokestatic 22, 3) := by decide +kernel
theorem dX0_keepFor_30 : decode cX0_keepFor 30 = .ok (.aload_n 0, 1) := by decide +kernel
theorem dX0_keepFor_31 : decode cX0_keepFor 31 = .ok (.getfield 15, 3) := by decide +kernel
theorem dX0_keepFor_34 : decode cX0_keepFor 34 = .ok (.iload_n 2, 1) := by decide +kernel
theorem dX0_keepFor_35 : decode cX0_keepFor 35 = .ok (.aload_n 0, 1) := by decide +kernel
theorem dX0_keepFor_36 : decode cX0_keepFor 36 = .ok (.getfield 15, 3) := by decide +kernel
theorem dX0_keepFor_39 : decode cX0_keepFor 39 = .ok (.iload_n 3, 1) := by decide +kernel
theorem dX0_keepFor_40 : decode cX0_keepFor 40 = .ok (.bipush 12, 2) := by decide +kernel
theorem dX0_keepFor_42 : decode cX0_keepFor 42 = .ok (.invokestatic 22, 3) := by decide +kernel
theorem dX0_keepFor_45 : decode cX0_keepFor 45 = .ok (.return_, 1) := by decide +kernel
set_option maxRecDepth 20000 in
theorem ggX0_daysOfAll_X0_place : GoodIn wsX0_daysOfAll wsX0_place := goodIn_r _ [5] (by decide +kernel) (by decide +kernel)
set_option maxRecDepth 20000 in
theorem gX0_daysOfAll_X0_place : GoodIn wsX0_daysOfAll (va_wsS RX0 18 yX0_place wsX0_place) := goodIn_app (goodIn_of _ (by decide +kernel)) ggX0_daysOfAll_X0_place
theorem dX0_daysOfAll_0 : decode cX0_daysOfAll 0 = .ok (.iload_n 2, 1) := by decide +kernel
theorem dX0_daysOfAll_1 : decode cX0_daysOfAll 1 = .ok (.iconst 1, 1) := by decide +kernel
theorem dX0_daysOfAll_2 : decode cX0_daysOfAll 2 = .ok (.if_icmp .lt 8, 3) := by decide +kernel
theorem dX0_daysOfAll_5 : decode cX0_daysOfAll 5 = .ok (.iload_n 2, 1) := by decide +kernel
theorem dX0_daysOfAll_6 : decode cX0_daysOfAll 6 = .ok (.iconst 4, 1) := by decide +kernel
theorem dX0_daysOfAll_7 : decode cX0_daysOfAll 7 = .ok (.if_icmp .le 5, 3) := by decide +kernel
theorem dX0_daysOfAll_10 : decode cX0_daysOfAll 10 = .ok (.iconst 0, 1) := by decide +kernel
theorem dX0_daysOfAll_11 : decode cX0_daysOfAll 11 = .ok (.ireturn, 1) := by decide +kernel
theorem dX0_daysOfAll_12 : decode cX0_daysOfAll 12 = .ok (.iconst 0, 1) := by decide +kernel
theorem dX0_daysOfAll_13 : decode cX0_daysOfAll 13 = .ok (.istore_n 3, 1) := by decide +kernel
theorem dX0_daysOfAll_14 : decode cX0_daysOfAll 14 = .ok (.iconst 0, 1) := by decide +kernel
theorem dX0_daysOfAll_15 : decode cX0_daysOfAll 15 = .ok (.istore 4, 2) := by decide +kernel
theorem dX0_daysOfAll_17 : decode cX0_daysOfAll 17 = .ok (.iload 4, 2) := by decide +kernel
theorem dX0_daysOfAll_19 : decode cX0_daysOfAll 19 = .ok (.iconst 3, 1) := by decide +kernel
theorem dX0_daysOfAll_20 : decode cX0_daysOfAll 20 = .ok (.if_icmp .ge 24, 3) := by decide +kernel
theorem dX0_daysOfAll_23 : decode cX0_daysOfAll 23 = .ok (.iload_n 3, 1) := by decide +kernel
theorem dX0_daysOfAll_24 : decode cX0_daysOfAll 24 = .ok (.aload_n 0, 1) := by decide +kernel
theorem dX0_daysOfAll_25 : decode cX0_daysOfAll 25 = .ok (.getfield 15, 3) := by decide +kernel
theorem dX0_daysOfAll_28 : decode cX0_daysOfAll 28 = .ok (.iload_n 1, 1) := by decide +kernel
theorem dX0_daysOfAll_29 : decode cX0_daysOfAll 29 = .ok (.iload_n 2, 1) := by decide +kernel
theorem dX0_daysOfAll_30 : decode cX0_daysOfAll 30 = .ok (.iload 4, 2) := by decide +kernel
theorem dX0_daysOfAll_32 : decode cX0_daysOfAll 32 = .ok (.invokestatic 18, 3) := by decide +kernel
theorem dX0_daysOfAll_35 : decode cX0_daysOfAll 35 = .ok (.iaload, 1) := by decide +kernel
theorem dX0_daysOfAll_36 : decode cX0_daysOfAll 36 = .ok (.iadd, 1) := by decide +kernel
theorem dX0_daysOfAll_37 : decode cX0_daysOfAll 37 = .ok (.istore_n 3, 1) := by decide +kernel
theorem dX0_daysOfAll_38 : decode cX0_daysOfAll 38 = .ok (.iinc 4 1, 3) := by decide +kernel
theorem dX0_daysOfAll_41 : decode cX0_daysOfAll 41 = .ok (.goto (-24), 3) := by decide +kernel
theorem dX0_daysOfAll_44 : decode cX0_daysOfAll 44 = .ok (.iload_n 3, 1) := by decide +kernel
theorem dX0_daysOfAll_45 : decode cX0_daysOfAll 45 = .ok (.ireturn, 1) := by decide +kernel
set_option maxRecDepth 20000 in
theorem ggX0_colourOn_X0_place : GoodIn wsX0_colourOn wsX0_place := goodIn_r _ [6] (by decide +kernel) (by decide +kernel)
set_option maxRecDepth 20000 in
theorem gX0_colourOn_X0_place : GoodIn wsX0_colourOn (va_wsS RX0 18 yX0_place wsX0_place) := goodIn_app (goodIn_of _ (by decide +kernel)) ggX0_colourOn_X0_place
theorem dX0_colourOn_0 : decode cX0_colourOn 0 = .ok (.iload_n 2, 1) := by decide +kernel
theorem dX0_colourOn_1 : decode cX0_colourOn 1 = .ok (.iconst 1, 1) := by decide +kernel
theorem dX0_colourOn_2 : decode cX0_colourOn 2 = .ok (.if_icmp .lt 12, 3) := by decide +kernel
theorem dX0_colourOn_5 : decode cX0_colourOn 5 = .ok (.iload_n 2, 1) := by decide +kernel
theorem dX0_colourOn_6 : decode cX0_colourOn 6 = .ok (.iconst 4, 1) := by decide +kernel
theorem dX0_colourOn_7 : decode cX0_colourOn 7 = .ok (.if_icmp .gt 7, 3) := by decide +kernel
theorem dX0_colourOn_10 : decode cX0_colourOn 10 = .ok (.iload_n 3, 1) := by decide +kernel
theorem dX0_colourOn_11 : decode cX0_colourOn 11 = .ok (.ifCond .ge 5, 3) := by decide +kernel
theorem dX0_colourOn_14 : decode cX0_colourOn 14 = .ok (.iconst 0, 1) := by decide +kernel
theorem dX0_colourOn_15 : decode cX0_colourOn 15 = .ok (.ireturn, 1) := by decide +kernel
theorem dX0_colourOn_16 : decode cX0_colourOn 16 = .ok (.iconst 0, 1) := by decide +kernel
theorem dX0_colourOn_17 : decode cX0_colourOn 17 = .ok (.istore 4, 2) := by decide +kernel
theorem dX0_colourOn_19 : decode cX0_colourOn 19 = .ok (.iconst 0, 1) := by decide +kernel
theorem dX0_colourOn_20 : decode cX0_colourOn 20 = .ok (.istore 5, 2) := by decide +kernel
theorem dX0_colourOn_22 : decode cX0_colourOn 22 = .ok (.iload 5, 2) := by decide +kernel
theorem dX0_colourOn_24 : decode cX0_colourOn 24 = .ok (.iconst 3, 1) := by decide +kernel
theorem dX0_colourOn_25 : decode cX0_colourOn 25 = .ok (.if_icmp .ge 44, 3) := by decide +kernel
theorem dX0_colourOn_28 : decode cX0_colourOn 28 = .ok (.iload_n 1, 1) := by decide +kernel
theorem dX0_colourOn_29 : decode cX0_colourOn 29 = .ok (.iload_n 2, 1) := by decide +kernel
theorem dX0_colourOn_30 : decode cX0_colourOn 30 = .ok (.iload 5, 2) := by decide +kernel
theorem dX0_colourOn_32 : decode cX0_colourOn 32 = .ok (.invokestatic 18, 3) := by decide +kernel
theorem dX0_colourOn_35 : decode cX0_colourOn 35 = .ok (.istore 6, 2) := by decide +kernel
theorem dX0_colourOn_37 : decode cX0_colourOn 37 = .ok (.iload 4, 2) := by decide +kernel
theorem dX0_colourOn_39 : decode cX0_colourOn 39 = .ok (.aload_n 0, 1) := by decide +kernel
theorem dX0_colourOn_40 : decode cX0_colourOn 40 = .ok (.getfield 15, 3) := by decide +kernel
theorem dX0_colourOn_43 : decode cX0_colourOn 43 = .ok (.iload 6, 2) := by decide +kernel
theorem dX0_colourOn_45 : decode cX0_colourOn 45 = .ok (.iaload, 1) := by decide +kernel
theorem dX0_colourOn_46 : decode cX0_colourOn 46 = .ok (.iadd, 1) := by decide +kernel
theorem dX0_colourOn_47 : decode cX0_colourOn 47 = .ok (.istore 4, 2) := by decide +kernel
theorem dX0_colourOn_49 : decode cX0_colourOn 49 = .ok (.iload_n 3, 1) := by decide +kernel
theorem dX0_colourOn_50 : decode cX0_colourOn 50 = .ok (.iload 4, 2) := by decide +kernel
theorem dX0_colourOn_52 : decode cX0_colourOn 52 = .ok (.if_icmp .ge 11, 3) := by decide +kernel
theorem dX0_colourOn_55 : decode cX0_colourOn 55 = .ok (.aload_n 0, 1) := by decide +kernel
theorem dX0_colourOn_56 : decode cX0_colourOn 56 = .ok (.getfield 11, 3) := by decide +kernel
theorem dX0_colourOn_59 : decode cX0_colourOn 59 = .ok (.iload 6, 2) := by decide +kernel
theorem dX0_colourOn_61 : decode cX0_colourOn 61 = .ok (.iaload, 1) := by decide +kernel
theorem dX0_colourOn_62 : decode cX0_colourOn 62 = .ok (.ireturn, 1) := by decide +kernel
theorem dX0_colourOn_63 : decode cX0_colourOn 63 = .ok (.iinc 5 1, 3) := by decide +kernel
theorem dX0_colourOn_66 : decode cX0_colourOn 66 = .ok (.goto (-44), 3) := by decide +kernel
theorem dX0_colourOn_69 : decode cX0_colourOn 69 = .ok (.iconst 0, 1) := by decide +kernel
theorem dX0_colourOn_70 : decode cX0_colourOn 70 = .ok (.ireturn, 1) := by decide +kernel
theorem dX1_init_0 : decode cX1_init 0 = .ok (.aload_n 0, 1) := by decide +kernel
theorem dX1_init_1 : decode cX1_init 1 = .ok (.invokespecial 3, 3) := by decide +kernel
theorem dX1_init_4 : decode cX1_init 4 = .ok (.aload_n 0, 1) := by decide +kernel
theorem dX1_init_5 : decode cX1_init 5 = .ok (.bipush 16, 2) := by decide +kernel
theorem dX1_init_7 : decode cX1_init 7 = .ok (.newarray .int, 2) := by decide +kernel
theorem dX1_init_9 : decode cX1_init 9 = .ok (.putfield 9, 3) := by decide +kernel
theorem dX1_init_12 : decode cX1_init 12 = .ok (.aload_n 0, 1) := by decide +kernel
theorem dX1_init_13 : decode cX1_init 13 = .ok (.bipush 16, 2) := by decide +kernel
theorem dX1_init_15 : decode cX1_init 15 = .ok (.newarray .int, 2) := by decide +kernel
theorem dX1_init_17 : decode cX1_init 17 = .ok (.putfield 15, 3) := by decide +kernel
theorem dX1_init_20 : decode cX1_init 20 = .ok (.aload_n 0, 1) := by decide +kernel
theorem dX1_init_21 : decode cX1_init 21 = .ok (.bipush 16, 2) := by decide +kernel
theorem dX1_init_23 : decode cX1_init 23 = .ok (.newarray .boolean, 2) := by decide +kernel
theorem dX1_init_25 : decode cX1_init 25 = .ok (.putfield 18, 3) := by decide +kernel
theorem dX1_init_28 : decode cX1_init 28 = .ok (.aload_n 0, 1) := by decide +kernel
theorem dX1_init_29 : decode cX1_init 29 = .ok (.bipush 16, 2) := by decide +kernel
theorem dX1_init_31 : decode cX1_init 31 = .ok (.newarray .int, 2) := by decide +kernel
theorem dX1_init_33 : decode cX1_init 33 = .ok (.putfield 22, 3) := by decide +kernel
theorem dX1_init_36 : decode cX1_init 36 = .ok (.return_, 1) := by decide +kernel
theorem dX1_isFull_0 : decode cX1_isFull 0 = .ok (.aload_n 0, 1) := by decide +kernel
theorem dX1_isFull_1 : decode cX1_isFull 1 = .ok (.getfield 25, 3) := by decide +kernel
theorem dX1_isFull_4 : decode cX1_isFull 4 = .ok (.bipush 16, 2) := by decide +kernel
theorem dX1_isFull_6 : decode cX1_isFull 6 = .ok (.if_icmp .lt 7, 3) := by decide +kernel
theorem dX1_isFull_9 : decode cX1_isFull 9 = .ok (.iconst 1, 1) := by decide +kernel
theorem dX1_isFull_10 : decode cX1_isFull 10 = .ok (.goto 4, 3) := by decide +kernel
theorem dX1_isFull_13 : decode cX1_isFull 13 = .ok (.iconst 0, 1) := by decide +kernel
theorem dX1_isFull_14 : decode cX1_isFull 14 = .ok (.ireturn, 1) := by decide +kernel
theorem dX1_add_0 : decode cX1_add 0 = .ok (.aload_n 0, 1) := by decide +kernel
theorem dX1_add_1 : decode cX1_add 1 = .ok (.getfield 25, 3) := by decide +kernel
theorem dX1_add_4 : decode cX1_add 4 = .ok (.istore_n 2, 1) := by decide +kernel
theorem dX1_add_5 : decode cX1_add 5 = .ok (.aload_n 0, 1) := by decide +kernel
theorem dX1_add_6 : decode cX1_add 6 = .ok (.getfield 9, 3) := by decide +kernel
theorem dX1_add_9 : decode cX1_add 9 = .ok (.iload_n 2, 1) := by decide +kernel
theorem dX1_add_10 : decode cX1_add 10 = .ok (.iload_n 1, 1) := by decide +kernel
theorem dX1_add_11 : decode cX1_add 11 = .ok (.iastore, 1) := by decide +kernel
theorem dX1_add_12 : decode cX1_add 12 = .ok (.aload_n 0, 1) := by decide +kernel
theorem dX1_add_13 : decode cX1_add 13 = .ok (.getfield 15, 3) := by decide +kernel
theorem dX1_add_16 : decode cX1_add 16 = .ok (.iload_n 2, 1) := by decide +kernel
theorem dX1_add_17 : decode cX1_add 17 = .ok (.iconst (-1), 1) := by decide +kernel
theorem dX1_add_18 : decode cX1_add 18 = .ok (.iastore, 1) := by decide +kernel
theorem dX1_add_19 : decode cX1_add 19 = .ok (.aload_n 0, 1) := by decide +kernel
theorem dX1_add_20 : decode cX1_add 20 = .ok (.getfield 18, 3) := by decide +kernel
theorem dX1_add_23 : decode cX1_add 23 = .ok (.iload_n 2, 1) := by decide +kernel
theorem dX1_add_24 : decode cX1_add 24 = .ok (.iconst 1, 1) := by decide +kernel
theorem dX1_add_25 : decode cX1_add 25 = .ok (.bastore, 1) := by decide +kernel
theorem dX1_add_26 : decode cX1_add 26 = .ok (.aload_n 0, 1) := by decide +kernel
theorem dX1_add_27 : decode cX1_add 27 = .ok (.dup, 1) := by decide +kernel
theorem dX1_add_28 : decode cX1_add 28 = .ok (.getfield 25, 3) := by decide +kernel
theorem dX1_add_31 : decode cX1_add 31 = .ok (.iconst 1, 1) := by decide +kernel
theorem dX1_add_32 : decode cX1_add 32 = .ok (.iadd, 1) := by decide +kernel
theorem dX1_add_33 : decode cX1_add 33 = .ok (.putfield 25, 3) := by decide +kernel
theorem dX1_add_36 : decode cX1_add 36 = .ok (.iload_n 2, 1) := by decide +kernel
theorem dX1_add_37 : decode cX1_add 37 = .ok (.ireturn, 1) := by decide +kernel
theorem dX1_livingCount_0 : decode cX1_livingCount 0 = .ok (.iconst 0, 1) := by decide +kernel
theorem dX1_livingCount_1 : decode cX1_livingCount 1 = .ok (.istore_n 1, 1) := by decide +kernel
theorem dX1_livingCount_2 : decode cX1_livingCount 2 = .ok (.iconst 0, 1) := by decide +kernel
theorem dX1_livingCount_3 : decode cX1_livingCount 3 = .ok (.istore_n 2, 1) := by decide +kernel
theorem dX1_livingCount_4 : decode cX1_livingCount 4 = .ok (.iload_n 2, 1) := by decide +kernel
theorem dX1_livingCount_5 : decode cX1_livingCount 5 = .ok (.aload_n 0, 1) := by decide +kernel
theorem dX1_livingCount_6 : decode cX1_livingCount 6 = .ok (.getfield 25, 3) := by decide +kernel
theorem dX1_livingCount_9 : decode cX1_livingCount 9 = .ok (.if_icmp .ge 21, 3) := by decide +kernel
theorem dX1_livingCount_12 : decode cX1_livingCount 12 = .ok (.aload_n 0, 1) := by decide +kernel
theorem dX1_livingCount_13 : decode cX1_livingCount 13 = .ok (.getfield 18, 3) := by decide +kernel
theorem dX1_livingCount_16 : decode cX1_livingCount 16 = .ok (.iload_n 2, 1) := by decide +kernel
theorem dX1_livingCount_17 : decode cX1_livingCount 17 = .ok (.baload, 1) := by decide +kernel
theorem dX1_livingCount_18 : decode cX1_livingCount 18 = .ok (.ifCond .eq 6, 3) := by decide +kernel
theorem dX1_livingCount_21 : decode cX1_livingCount 21 = .ok (.iinc 1 1, 3) := by decide +kernel
theorem dX1_livingCount_24 : decode cX1_livingCount 24 = .ok (.iinc 2 1, 3) := by decide +kernel
theorem dX1_livingCount_27 : decode cX1_livingCount 27 = .ok (.goto (-23), 3) := by decide +kernel
theorem dX1_livingCount_30 : decode cX1_livingCount 30 = .ok (.iload_n 1, 1) := by decide +kernel
theorem dX1_livingCount_31 : decode cX1_livingCount 31 = .ok (.ireturn, 1) := by decide +kernel
theorem dX1_hasLivingSpouse_0 : decode cX1_hasLivingSpouse 0 = .ok (.aload_n 0, 1) := by decide +kernel
theorem dX1_hasLivingSpouse_1 : decode cX1_hasLivingSpouse 1 = .ok (.getfield 15, 3) := by decide +kernel
theorem dX1_hasLivingSpouse_4 : decode cX1_hasLivingSpouse 4 = .ok (.iload_n 1, 1) := by decide +kernel
theorem dX1_hasLivingSpouse_5 : decode cX1_hasLivingSpouse 5 = .ok (.iaload, 1) := by decide +kernel
theorem dX1_hasLivingSpouse_6 : decode cX1_hasLivingSpouse 6 = .ok (.iconst (-1), 1) := by decide +kernel
theorem dX1_hasLivingSpouse_7 : decode cX1_hasLivingSpouse 7 = .ok (.if_icmp .eq 21, 3) := by decide +kernel
theorem dX1_hasLivingSpouse_10 : decode cX1_hasLivingSpouse 10 = .ok (.aload_n 0, 1) := by decide +kernel
theorem dX1_hasLivingSpouse_11 : decode cX1_hasLivingSpouse 11 = .ok (.getfield 18, 3) := by decide +kernel
theorem dX1_hasLivingSpouse_14 : decode cX1_hasLivingSpouse 14 = .ok (.aload_n 0, 1) := by decide +kernel
theorem dX1_hasLivingSpouse_15 : decode cX1_hasLivingSpouse 15 = .ok (.getfield 15, 3) := by decide +kernel
theorem dX1_hasLivingSpouse_18 : decode cX1_hasLivingSpouse 18 = .ok (.iload_n 1, 1) := by decide +kernel
theorem dX1_hasLivingSpouse_19 : decode cX1_hasLivingSpouse 19 = .ok (.iaload, 1) := by decide +kernel
theorem dX1_hasLivingSpouse_20 : decode cX1_hasLivingSpouse 20 = .ok (.baload, 1) := by decide +kernel
theorem dX1_hasLivingSpouse_21 : decode cX1_hasLivingSpouse 21 = .ok (.ifCond .eq 7, 3) := by decide +kernel
theorem dX1_hasLivingSpouse_24 : decode cX1_hasLivingSpouse 24 = .ok (.iconst 1, 1) := by decide +kernel
theorem dX1_hasLivingSpouse_25 : decode cX1_hasLivingSpouse 25 = .ok (.goto 4, 3) := by decide +kernel
theorem dX1_hasLivingSpouse_28 : decode cX1_hasLivingSpouse 28 = .ok (.iconst 0, 1) := by decide +kernel
theorem dX1_hasLivingSpouse_29 : decode cX1_hasLivingSpouse 29 = .ok (.ireturn, 1) := by decide +kernel
set_option maxRecDepth 20000 in
theorem ggX1_wed_X1_leaveSpouse : GoodIn wsX1_wed wsX1_leaveSpouse := goodIn_r _ [6, 1, 7, 8, 9, 10, 11] (by decide +kernel) (by decide +kernel)
set_option maxRecDepth 20000 in
theorem gX1_wed_X1_leaveSpouse : GoodIn wsX1_wed (wsV RX1 29 RX1 yX1_leaveSpouse wsX1_leaveSpouse) := goodIn_app (goodIn_of _ (by decide +kernel)) ggX1_wed_X1_leaveSpouse
theorem dX1_wed_0 : decode cX1_wed 0 = .ok (.aload_n 0, 1) := by decide +kernel
theorem dX1_wed_1 : decode cX1_wed 1 = .ok (.iload_n 1, 1) := by decide +kernel
theorem dX1_wed_2 : decode cX1_wed 2 = .ok (.invokevirtual 29, 3) := by decide +kernel
theorem dX1_wed_5 : decode cX1_wed 5 = .ok (.aload_n 0, 1) := by decide +kernel
theorem dX1_wed_6 : decode cX1_wed 6 = .ok (.iload_n 2, 1) := by decide +kernel
theorem dX1_wed_7 : decode cX1_wed 7 = .ok (.invokevirtual 29, 3) := by decide +kernel
theorem dX1_wed_10 : decode cX1_wed 10 = .ok (.aload_n 0, 1) := by decide +kernel
theorem dX1_wed_11 : decode cX1_wed 11 = .ok (.getfield 15, 3) := by decide +kernel
theorem dX1_wed_14 : decode cX1_wed 14 = .ok (.iload_n 1, 1) := by decide +kernel
theorem dX1_wed_15 : decode cX1_wed 15 = .ok (.iload_n 2, 1) := by decide +kernel
theorem dX1_wed_16 : decode cX1_wed 16 = .ok (.iastore, 1) := by decide +kernel
theorem dX1_wed_17 : decode cX1_wed 17 = .ok (.aload_n 0, 1) := by decide +kernel
theorem dX1_wed_18 : decode cX1_wed 18 = .ok (.getfield 15, 3) := by decide +kernel
theorem dX1_wed_21 : decode cX1_wed 21 = .ok (.iload_n 2, 1) := by decide +kernel
theorem dX1_wed_22 : decode cX1_wed 22 = .ok (.iload_n 1, 1) := by decide +kernel
theorem dX1_wed_23 : decode cX1_wed 23 = .ok (.iastore, 1) := by decide +kernel
theorem dX1_wed_24 : decode cX1_wed 24 = .ok (.return_, 1) := by decide +kernel
theorem dX1_leaveSpouse_0 : decode cX1_leaveSpouse 0 = .ok (.aload_n 0, 1) := by decide +kernel
theorem dX1_leaveSpouse_1 : decode cX1_leaveSpouse 1 = .ok (.getfield 15, 3) := by decide +kernel
theorem dX1_leaveSpouse_4 : decode cX1_leaveSpouse 4 = .ok (.iload_n 1, 1) := by decide +kernel
theorem dX1_leaveSpouse_5 : decode cX1_leaveSpouse 5 = .ok (.iaload, 1) := by decide +kernel
theorem dX1_leaveSpouse_6 : decode cX1_leaveSpouse 6 = .ok (.iconst (-1), 1) := by decide +kernel
theorem dX1_leaveSpouse_7 : decode cX1_leaveSpouse 7 = .ok (.if_icmp .eq 15, 3) := by decide +kernel
theorem dX1_leaveSpouse_10 : decode cX1_leaveSpouse 10 = .ok (.aload_n 0, 1) := by decide +kernel
theorem dX1_leaveSpouse_11 : decode cX1_leaveSpouse 11 = .ok (.getfield 15, 3) := by decide +kernel
theorem dX1_leaveSpouse_14 : decode cX1_leaveSpouse 14 = .ok (.aload_n 0, 1) := by decide +kernel
theorem dX1_leaveSpouse_15 : decode cX1_leaveSpouse 15 = .ok (.getfield 15, 3) := by decide +kernel
theorem dX1_leaveSpouse_18 : decode cX1_leaveSpouse 18 = .ok (.iload_n 1, 1) := by decide +kernel
theorem dX1_leaveSpouse_19 : decode cX1_leaveSpouse 19 = .ok (.iaload, 1) := by decide +kernel
theorem dX1_leaveSpouse_20 : decode cX1_leaveSpouse 20 = .ok (.iconst (-1), 1) := by decide +kernel
theorem dX1_leaveSpouse_21 : decode cX1_leaveSpouse 21 = .ok (.iastore, 1) := by decide +kernel
theorem dX1_leaveSpouse_22 : decode cX1_leaveSpouse 22 = .ok (.return_, 1) := by decide +kernel
set_option maxRecDepth 20000 in
theorem ggX1_findDegrees_J7_fill_53178 : GoodIn wsX1_findDegrees wsJ7_fill_53178 := goodIn_r _ [6] (by decide +kernel) (by decide +kernel)
set_option maxRecDepth 20000 in
theorem gX1_findDegrees_J7_fill_53178 : GoodIn wsX1_findDegrees (va_wsS RX1 33 yJ7_fill_53178 wsJ7_fill_53178) := goodIn_app (goodIn_of _ (by decide +kernel)) ggX1_findDegrees_J7_fill_53178
set_option maxRecDepth 20000 in
theorem ggX1_findDegrees_X1_reachFrom : GoodIn wsX1_findDegrees wsX1_reachFrom := goodIn_r _ [11, 2, 1, 12, 13, 14, 10, 15, 16, 17, 18, 19, 20, 21, 22] (by decide +kernel) (by decide +kernel)
set_option maxRecDepth 20000 in
theorem gX1_findDegrees_X1_reachFrom : GoodIn wsX1_findDegrees (wsV RX1 39 RX1 yX1_reachFrom wsX1_reachFrom) := goodIn_app (goodIn_of _ (by decide +kernel)) ggX1_findDegrees_X1_reachFrom
theorem dX1_findDegrees_0 : decode cX1_findDegrees 0 = .ok (.aload_n 0, 1) := by decide +kernel
theorem dX1_findDegrees_1 : decode cX1_findDegrees 1 = .ok (.getfield 22, 3) := by decide +kernel
theorem dX1_findDegrees_4 : decode cX1_findDegrees 4 = .ok (.iconst 0, 1) := by decide +kernel
theorem dX1_findDegrees_5 : decode cX1_findDegrees 5 = .ok (.invokestatic 33, 3) := by decide +kernel
theorem dX1_findDegrees_8 : decode cX1_findDegrees 8 = .ok (.aload_n 0, 1) := by decide +kernel
theorem dX1_findDegrees_9 : decode cX1_findDegrees 9 = .ok (.iload_n 1, 1) := by decide +kernel
theorem dX1_findDegrees_10 : decode cX1_findDegrees 10 = .ok (.iload_n 1, 1) := by decide +kernel
theorem dX1_findDegrees_11 : decode cX1_findDegrees 11 = .ok (.iconst 1, 1) := by decide +kernel
theorem dX1_findDegrees_12 : decode cX1_findDegrees 12 = .ok (.invokevirtual 39, 3) := by decide +kernel
theorem dX1_findDegrees_15 : decode cX1_findDegrees 15 = .ok (.iconst 2, 1) := by decide +kernel
theorem dX1_findDegrees_16 : decode cX1_findDegrees 16 = .ok (.istore_n 2, 1) := by decide +kernel
theorem dX1_findDegrees_17 : decode cX1_findDegrees 17 = .ok (.iload_n 2, 1) := by decide +kernel
theorem dX1_findDegrees_18 : decode cX1_findDegrees 18 = .ok (.iconst 4, 1) := by decide +kernel
theorem dX1_findDegrees_19 : decode cX1_findDegrees 19 = .ok (.if_icmp .gt 44, 3) := by decide +kernel
theorem dX1_findDegrees_22 : decode cX1_findDegrees 22 = .ok (.iconst 0, 1) := by decide +kernel
theorem dX1_findDegrees_23 : decode cX1_findDegrees 23 = .ok (.istore_n 3, 1) := by decide +kernel
theorem dX1_findDegrees_24 : decode cX1_findDegrees 24 = .ok (.iload_n 3, 1) := by decide +kernel
theorem dX1_findDegrees_25 : decode cX1_findDegrees 25 = .ok (.aload_n 0, 1) := by decide +kernel
theorem dX1_findDegrees_26 : decode cX1_findDegrees 26 = .ok (.getfield 25, 3) := by decide +kernel
theorem dX1_findDegrees_29 : decode cX1_findDegrees 29 = .ok (.if_icmp .ge 28, 3) := by decide +kernel
theorem dX1_findDegrees_32 : decode cX1_findDegrees 32 = .ok (.aload_n 0, 1) := by decide +kernel
theorem dX1_findDegrees_33 : decode cX1_findDegrees 33 = .ok (.getfield 22, 3) := by decide +kernel
theorem dX1_findDegrees_36 : decode cX1_findDegrees 36 = .ok (.iload_n 3, 1) := by decide +kernel
theorem dX1_findDegrees_37 : decode cX1_findDegrees 37 = .ok (.iaload, 1) := by decide +kernel
theorem dX1_findDegrees_38 : decode cX1_findDegrees 38 = .ok (.iload_n 2, 1) := by decide +kernel
theorem dX1_findDegrees_39 : decode cX1_findDegrees 39 = .ok (.iconst 1, 1) := by decide +kernel
theorem dX1_findDegrees_40 : decode cX1_findDegrees 40 = .ok (.isub, 1) := by decide +kernel
theorem dX1_findDegrees_41 : decode cX1_findDegrees 41 = .ok (.if_icmp .ne 10, 3) := by decide +kernel
theorem dX1_findDegrees_44 : decode cX1_findDegrees 44 = .ok (.aload_n 0, 1) := by decide +kernel
theorem dX1_findDegrees_45 : decode cX1_findDegrees 45 = .ok (.iload_n 1, 1) := by decide +kernel
theorem dX1_findDegrees_46 : decode cX1_findDegrees 46 = .ok (.iload_n 3, 1) := by decide +kernel
theorem dX1_findDegrees_47 : decode cX1_findDegrees 47 = .ok (.iload_n 2, 1) := by decide +kernel
theorem dX1_findDegrees_48 : decode cX1_findDegrees 48 = .ok (.invokevirtual 39, 3) := by decide +kernel
theorem dX1_findDegrees_51 : decode cX1_findDegrees 51 = .ok (.iinc 3 1, 3) := by decide +kernel
theorem dX1_findDegrees_54 : decode cX1_findDegrees 54 = .ok (.goto (-30), 3) := by decide +kernel
theorem dX1_findDegrees_57 : decode cX1_findDegrees 57 = .ok (.iinc 2 1, 3) := by decide +kernel
theorem dX1_findDegrees_60 : decode cX1_findDegrees 60 = .ok (.goto (-43), 3) := by decide +kernel
theorem dX1_findDegrees_63 : decode cX1_findDegrees 63 = .ok (.return_, 1) := by decide +kernel
set_option maxRecDepth 20000 in
theorem ggX1_reachFrom_X1_isStep : GoodIn wsX1_reachFrom wsX1_isStep := goodIn_r _ [7, 8, 9, 10, 11, 12, 13, 14] (by decide +kernel) (by decide +kernel)
set_option maxRecDepth 20000 in
theorem gX1_reachFrom_X1_isStep : GoodIn wsX1_reachFrom (wsV RX1 43 RX1 yX1_isStep wsX1_isStep) := goodIn_app (goodIn_of _ (by decide +kernel)) ggX1_reachFrom_X1_isStep
theorem dX1_reachFrom_0 : decode cX1_reachFrom 0 = .ok (.iconst 0, 1) := by decide +kernel
theorem dX1_reachFrom_1 : decode cX1_reachFrom 1 = .ok (.istore 4, 2) := by decide +kernel
theorem dX1_reachFrom_3 : decode cX1_reachFrom 3 = .ok (.iload 4, 2) := by decide +kernel
theorem dX1_reachFrom_5 : decode cX1_reachFrom 5 = .ok (.aload_n 0, 1) := by decide +kernel
theorem dX1_reachFrom_6 : decode cX1_reachFrom 6 = .ok (.getfield 25, 3) := by decide +kernel
theorem dX1_reachFrom_9 : decode cX1_reachFrom 9 = .ok (.if_icmp .ge 43, 3) := by decide +kernel
theorem dX1_reachFrom_12 : decode cX1_reachFrom 12 = .ok (.iload 4, 2) := by decide +kernel
theorem dX1_reachFrom_14 : decode cX1_reachFrom 14 = .ok (.iload_n 1, 1) := by decide +kernel
theorem dX1_reachFrom_15 : decode cX1_reachFrom 15 = .ok (.if_icmp .eq 31, 3) := by decide +kernel
theorem dX1_reachFrom_18 : decode cX1_reachFrom 18 = .ok (.aload_n 0, 1) := by decide +kernel
theorem dX1_reachFrom_19 : decode cX1_reachFrom 19 = .ok (.getfield 22, 3) := by decide +kernel
theorem dX1_reachFrom_22 : decode cX1_reachFrom 22 = .ok (.iload 4, 2) := by decide +kernel
theorem dX1_reachFrom_24 : decode cX1_reachFrom 24 = .ok (.iaload, 1) := by decide +kernel
theorem dX1_reachFrom_25 : decode cX1_reachFrom 25 = .ok (.ifCond .ne 21, 3) := by decide +kernel
theorem dX1_reachFrom_28 : decode cX1_reachFrom 28 = .ok (.aload_n 0, 1) := by decide +kernel
theorem dX1_reachFrom_29 : decode cX1_reachFrom 29 = .ok (.iload_n 2, 1) := by decide +kernel
theorem dX1_reachFrom_30 : decode cX1_reachFrom 30 = .ok (.iload 4, 2) := by decide +kernel
theorem dX1_reachFrom_32 : decode cX1_reachFrom 32 = .ok (.invokevirtual 43, 3) := by decide +kernel
theorem dX1_reachFrom_35 : decode cX1_reachFrom 35 = .ok (.ifCond .eq 11, 3) := by decide +kernel
theorem dX1_reachFrom_38 : decode cX1_reachFrom 38 = .ok (.aload_n 0, 1) := by decide +kernel
theorem dX1_reachFrom_39 : decode cX1_reachFrom 39 = .ok (.getfield 22, 3) := by decide +kernel
theorem dX1_reachFrom_42 : decode cX1_reachFrom 42 = .ok (.iload 4, 2) := by decide +kernel
theorem dX1_reachFrom_44 : decode cX1_reachFrom 44 = .ok (.iload_n 3, 1) := by decide +kernel
theorem dX1_reachFrom_45 : decode cX1_reachFrom 45 = .ok (.iastore, 1) := by decide +kernel
theorem dX1_reachFrom_46 : decode cX1_reachFrom 46 = .ok (.iinc 4 1, 3) := by decide +kernel
theorem dX1_reachFrom_49 : decode cX1_reachFrom 49 = .ok (.goto (-46), 3) := by decide +kernel
theorem dX1_reachFrom_52 : decode cX1_reachFrom 52 = .ok (.return_, 1) := by decide +kernel
theorem dX1_isStep_0 : decode cX1_isStep 0 = .ok (.aload_n 0, 1) := by decide +kernel
theorem dX1_isStep_1 : decode cX1_isStep 1 = .ok (.getfield 9, 3) := by decide +kernel
theorem dX1_isStep_4 : decode cX1_isStep 4 = .ok (.iload_n 1, 1) := by decide +kernel
theorem dX1_isStep_5 : decode cX1_isStep 5 = .ok (.iaload, 1) := by decide +kernel
theorem dX1_isStep_6 : decode cX1_isStep 6 = .ok (.iload_n 2, 1) := by decide +kernel
theorem dX1_isStep_7 : decode cX1_isStep 7 = .ok (.if_icmp .eq 23, 3) := by decide +kernel
theorem dX1_isStep_10 : decode cX1_isStep 10 = .ok (.aload_n 0, 1) := by decide +kernel
theorem dX1_isStep_11 : decode cX1_isStep 11 = .ok (.getfield 9, 3) := by decide +kernel
theorem dX1_isStep_14 : decode cX1_isStep 14 = .ok (.iload_n 2, 1) := by decide +kernel
theorem dX1_isStep_15 : decode cX1_isStep 15 = .ok (.iaload, 1) := by decide +kernel
theorem dX1_isStep_16 : decode cX1_isStep 16 = .ok (.iload_n 1, 1) := by decide +kernel
theorem dX1_isStep_17 : decode cX1_isStep 17 = .ok (.if_icmp .eq 13, 3) := by decide +kernel
theorem dX1_isStep_20 : decode cX1_isStep 20 = .ok (.aload_n 0, 1) := by decide +kernel
theorem dX1_isStep_21 : decode cX1_isStep 21 = .ok (.getfield 15, 3) := by decide +kernel
theorem dX1_isStep_24 : decode cX1_isStep 24 = .ok (.iload_n 1, 1) := by decide +kernel
theorem dX1_isStep_25 : decode cX1_isStep 25 = .ok (.iaload, 1) := by decide +kernel
theorem dX1_isStep_26 : decode cX1_isStep 26 = .ok (.iload_n 2, 1) := by decide +kernel
theorem dX1_isStep_27 : decode cX1_isStep 27 = .ok (.if_icmp .ne 7, 3) := by decide +kernel
theorem dX1_isStep_30 : decode cX1_isStep 30 = .ok (.iconst 1, 1) := by decide +kernel
theorem dX1_isStep_31 : decode cX1_isStep 31 = .ok (.goto 4, 3) := by decide +kernel
theorem dX1_isStep_34 : decode cX1_isStep 34 = .ok (.iconst 0, 1) := by decide +kernel
theorem dX1_isStep_35 : decode cX1_isStep 35 = .ok (.ireturn, 1) := by decide +kernel
theorem dX1_countKin_0 : decode cX1_countKin 0 = .ok (.iconst 0, 1) := by decide +kernel
theorem dX1_countKin_1 : decode cX1_countKin 1 = .ok (.istore_n 2, 1) := by decide +kernel
theorem dX1_countKin_2 : decode cX1_countKin 2 = .ok (.iconst 0, 1) := by decide +kernel
theorem dX1_countKin_3 : decode cX1_countKin 3 = .ok (.istore_n 3, 1) := by decide +kernel
theorem dX1_countKin_4 : decode cX1_countKin 4 = .ok (.iload_n 3, 1) := by decide +kernel
theorem dX1_countKin_5 : decode cX1_countKin 5 = .ok (.aload_n 0, 1) := by decide +kernel
theorem dX1_countKin_6 : decode cX1_countKin 6 = .ok (.getfield 25, 3) := by decide +kernel
theorem dX1_countKin_9 : decode cX1_countKin 9 = .ok (.if_icmp .ge 31, 3) := by decide +kernel
theorem dX1_countKin_12 : decode cX1_countKin 12 = .ok (.aload_n 0, 1) := by decide +kernel
theorem dX1_countKin_13 : decode cX1_countKin 13 = .ok (.getfield 18, 3) := by decide +kernel
theorem dX1_countKin_16 : decode cX1_countKin 16 = .ok (.iload_n 3, 1) := by decide +kernel
theorem dX1_countKin_17 : decode cX1_countKin 17 = .ok (.baload, 1) := by decide +kernel
theorem dX1_countKin_18 : decode cX1_countKin 18 = .ok (.ifCond .eq 16, 3) := by decide +kernel
theorem dX1_countKin_21 : decode cX1_countKin 21 = .ok (.aload_n 0, 1) := by decide +kernel
theorem dX1_countKin_22 : decode cX1_countKin 22 = .ok (.getfield 22, 3) := by decide +kernel
theorem dX1_countKin_25 : decode cX1_countKin 25 = .ok (.iload_n 3, 1) := by decide +kernel
theorem dX1_countKin_26 : decode cX1_countKin 26 = .ok (.iaload, 1) := by decide +kernel
theorem dX1_countKin_27 : decode cX1_countKin 27 = .ok (.iload_n 1, 1) := by decide +kernel
theorem dX1_countKin_28 : decode cX1_countKin 28 = .ok (.if_icmp .ne 6, 3) := by decide +kernel
theorem dX1_countKin_31 : decode cX1_countKin 31 = .ok (.iinc 2 1, 3) := by decide +kernel
theorem dX1_countKin_34 : decode cX1_countKin 34 = .ok (.iinc 3 1, 3) := by decide +kernel
theorem dX1_countKin_37 : decode cX1_countKin 37 = .ok (.goto (-33), 3) := by decide +kernel
theorem dX1_countKin_40 : decode cX1_countKin 40 = .ok (.iload_n 2, 1) := by decide +kernel
theorem dX1_countKin_41 : decode cX1_countKin 41 = .ok (.ireturn, 1) := by decide +kernel
set_option maxRecDepth 20000 in
theorem ggX2_init_X1_init : GoodIn wsX2_init wsX1_init := goodIn_r _ [19, 20, 2, 3, 12, 21, 22, 23, 24, 25, 31, 32, 33, 34, 35] (by decide +kernel) (by decide +kernel)
set_option maxRecDepth 20000 in
theorem gX2_init_X1_init_n11 : GoodIn wsX2_init (wsX1_init) := ggX2_init_X1_init
set_option maxRecDepth 20000 in
theorem ggX2_init_X0_init : GoodIn wsX2_init wsX0_init := goodIn_r _ [27, 28, 2, 3, 12, 29, 30, 45, 46] (by decide +kernel) (by decide +kernel)
set_option maxRecDepth 20000 in
theorem gX2_init_X0_init_n18 : GoodIn wsX2_init (wsX0_init) := ggX2_init_X0_init
theorem dX2_init_0 : decode cX2_init 0 = .ok (.aload_n 0, 1) := by decide +kernel
theorem dX2_init_1 : decode cX2_init 1 = .ok (.invokespecial 3, 3) := by decide +kernel
theorem dX2_init_4 : decode cX2_init 4 = .ok (.aload_n 0, 1) := by decide +kernel
theorem dX2_init_5 : decode cX2_init 5 = .ok (.new 9, 3) := by decide +kernel
theorem dX2_init_8 : decode cX2_init 8 = .ok (.dup, 1) := by decide +kernel
theorem dX2_init_9 : decode cX2_init 9 = .ok (.invokespecial 11, 3) := by decide +kernel
theorem dX2_init_12 : decode cX2_init 12 = .ok (.putfield 12, 3) := by decide +kernel
theorem dX2_init_15 : decode cX2_init 15 = .ok (.aload_n 0, 1) := by decide +kernel
theorem dX2_init_16 : decode cX2_init 16 = .ok (.new 16, 3) := by decide +kernel
theorem dX2_init_19 : decode cX2_init 19 = .ok (.dup, 1) := by decide +kernel
theorem dX2_init_20 : decode cX2_init 20 = .ok (.invokespecial 18, 3) := by decide +kernel
theorem dX2_init_23 : decode cX2_init 23 = .ok (.putfield 19, 3) := by decide +kernel
theorem dX2_init_26 : decode cX2_init 26 = .ok (.aload_n 0, 1) := by decide +kernel
theorem dX2_init_27 : decode cX2_init 27 = .ok (.sipush 256, 3) := by decide +kernel
theorem dX2_init_30 : decode cX2_init 30 = .ok (.newarray .int, 2) := by decide +kernel
theorem dX2_init_32 : decode cX2_init 32 = .ok (.putfield 23, 3) := by decide +kernel
theorem dX2_init_35 : decode cX2_init 35 = .ok (.aload_n 0, 1) := by decide +kernel
theorem dX2_init_36 : decode cX2_init 36 = .ok (.bipush 16, 2) := by decide +kernel
theorem dX2_init_38 : decode cX2_init 38 = .ok (.newarray .int, 2) := by decide +kernel
theorem dX2_init_40 : decode cX2_init 40 = .ok (.putfield 27, 3) := by decide +kernel
theorem dX2_init_43 : decode cX2_init 43 = .ok (.aload_n 0, 1) := by decide +kernel
theorem dX2_init_44 : decode cX2_init 44 = .ok (.sipush 180, 3) := by decide +kernel
theorem dX2_init_47 : decode cX2_init 47 = .ok (.newarray .int, 2) := by decide +kernel
theorem dX2_init_49 : decode cX2_init 49 = .ok (.putfield 30, 3) := by decide +kernel
theorem dX2_init_52 : decode cX2_init 52 = .ok (.aload_n 0, 1) := by decide +kernel
theorem dX2_init_53 : decode cX2_init 53 = .ok (.iconst 5, 1) := by decide +kernel
theorem dX2_init_54 : decode cX2_init 54 = .ok (.newarray .int, 2) := by decide +kernel
theorem dX2_init_56 : decode cX2_init 56 = .ok (.putfield 33, 3) := by decide +kernel
theorem dX2_init_59 : decode cX2_init 59 = .ok (.aload_n 0, 1) := by decide +kernel
theorem dX2_init_60 : decode cX2_init 60 = .ok (.bipush 16, 2) := by decide +kernel
theorem dX2_init_62 : decode cX2_init 62 = .ok (.newarray .int, 2) := by decide +kernel
theorem dX2_init_64 : decode cX2_init 64 = .ok (.putfield 36, 3) := by decide +kernel
theorem dX2_init_67 : decode cX2_init 67 = .ok (.return_, 1) := by decide +kernel
set_option maxRecDepth 20000 in
theorem ggX2_addPerson_X2_needRoom : GoodIn wsX2_addPerson wsX2_needRoom := goodIn_ca (goodIn_r _ [6, 7, 8, 1, 9, 10, 11, 12, 13, 14, 22, 23, 24, 25, 26, 27, 28, 29, 30, 31, 32, 33, 34, 35] (by decide +kernel) (by decide +kernel)) (goodIn_sub (fun _ h => List.mem_cons_of_mem _ (List.mem_append_right _ h)) (by decide +kernel))
set_option maxRecDepth 20000 in
theorem gX2_addPerson_X2_needRoom : GoodIn wsX2_addPerson (wsV RX2 39 RX2 yX2_needRoom wsX2_needRoom) := goodIn_app (goodIn_of _ (by decide +kernel)) ggX2_addPerson_X2_needRoom
set_option maxRecDepth 20000 in
theorem ggX2_addPerson_X1_add : GoodIn wsX2_addPerson wsX1_add := goodIn_r _ [18, 14, 19, 20, 21, 31, 32, 33, 34, 35] (by decide +kernel) (by decide +kernel)
set_option maxRecDepth 20000 in
theorem gX2_addPerson_X1_add : GoodIn wsX2_addPerson (wsV RX2 42 RX1 yX1_add wsX1_add) := goodIn_app (goodIn_of _ (by decide +kernel)) ggX2_addPerson_X1_add
theorem dX2_addPerson_0 : decode cX2_addPerson 0 = .ok (.aload_n 0, 1) := by decide +kernel
theorem dX2_addPerson_1 : decode cX2_addPerson 1 = .ok (.invokevirtual 39, 3) := by decide +kernel
theorem dX2_addPerson_4 : decode cX2_addPerson 4 = .ok (.aload_n 0, 1) := by decide +kernel
theorem dX2_addPerson_5 : decode cX2_addPerson 5 = .ok (.getfield 12, 3) := by decide +kernel
theorem dX2_addPerson_8 : decode cX2_addPerson 8 = .ok (.iconst (-1), 1) := by decide +kernel
theorem dX2_addPerson_9 : decode cX2_addPerson 9 = .ok (.invokevirtual 42, 3) := by decide +kernel
theorem dX2_addPerson_12 : decode cX2_addPerson 12 = .ok (.ireturn, 1) := by decide +kernel
set_option maxRecDepth 20000 in
theorem ggX2_addChild_X2_needPerson : GoodIn wsX2_addChild wsX2_needPerson := goodIn_ca (goodIn_r _ [6, 7, 8, 1, 9, 34, 35, 36, 37, 38, 39, 40, 41, 42, 43, 44, 45, 46, 47] (by decide +kernel) (by decide +kernel)) (goodIn_sub (fun _ h => List.mem_cons_of_mem _ (List.mem_append_left _ (List.mem_append_right _ h))) (by decide +kernel))
set_option maxRecDepth 20000 in
theorem gX2_addChild_X2_needPerson : GoodIn wsX2_addChild (wsV RX2 46 RX2 yX2_needPerson wsX2_needPerson) := goodIn_app (goodIn_of _ (by decide +kernel)) ggX2_addChild_X2_needPerson
set_option maxRecDepth 20000 in
theorem ggX2_addChild_X2_needAlive : GoodIn wsX2_addChild wsX2_needAlive := goodIn_ca (goodIn_r _ [13, 14, 15, 1, 16, 34, 35, 36, 37, 38, 39, 40, 41, 42, 43, 44, 45, 46, 47] (by decide +kernel) (by decide +kernel)) (goodIn_sub (fun _ h => List.mem_cons_of_mem _ (List.mem_append_right _ h)) (by decide +kernel))
set_option maxRecDepth 20000 in
theorem gX2_addChild_X2_needAlive : GoodIn wsX2_addChild (wsV RX2 50 RX2 yX2_needAlive wsX2_needAlive) := goodIn_app (goodIn_of _ (by decide +kernel)) ggX2_addChild_X2_needAlive
set_option maxRecDepth 20000 in
theorem ggX2_addChild_X2_needRoom : GoodIn wsX2_addChild wsX2_needRoom := goodIn_ca (goodIn_r _ [20, 14, 15, 1, 21, 22, 23, 24, 25, 26, 34, 35, 36, 37, 38, 39, 40, 41, 42, 43, 44, 45, 46, 47] (by decide +kernel) (by decide +kernel)) (goodIn_sub (fun _ h => List.mem_cons_of_mem _ (List.mem_append_right _ h)) (by decide +kernel))
set_option maxRecDepth 20000 in
theorem gX2_addChild_X2_needRoom : GoodIn wsX2_addChild (wsV RX2 39 RX2 yX2_needRoom wsX2_needRoom) := goodIn_app (goodIn_of _ (by decide +kernel)) ggX2_addChild_X2_needRoom
set_option maxRecDepth 20000 in
theorem ggX2_addChild_X1_add : GoodIn wsX2_addChild wsX1_add := goodIn_r _ [30, 26, 31, 32, 33, 43, 44, 45, 46, 47] (by decide +kernel) (by decide +kernel)
set_option maxRecDepth 20000 in
theorem gX2_addChild_X1_add : GoodIn wsX2_addChild (wsV RX2 42 RX1 yX1_add wsX1_add) := goodIn_app (goodIn_of _ (by decide +kernel)) ggX2_addChild_X1_add
theorem dX2_addChild_0 : decode cX2_addChild 0 = .ok (.aload_n 0, 1) := by decide +kernel
theorem dX2_addChild_1 : decode cX2_addChild 1 = .ok (.iload_n 1, 1) := by decide +kernel
theorem dX2_addChild_2 : decode cX2_addChild 2 = .ok (.invokevirtual 46, 3) := by decide +kernel
theorem dX2_addChild_5 : decode cX2_addChild 5 = .ok (.aload_n 0, 1) := by decide +kernel
theorem dX2_addChild_6 : decode cX2_addChild 6 = .ok (.iload_n 1, 1) := by decide +kernel
theorem dX2_addChild_7 : decode cX2_addChild 7 = .ok (.invokevirtual 50, 3) := by decide +kernel
theorem dX2_addChild_10 : decode cX2_addChild 10 = .ok (.aload_n 0, 1) := by decide +kernel
theorem dX2_addChild_11 : decode cX2_addChild 11 = .ok (.invokevirtual 39, 3) := by decide +kernel
theorem dX2_addChild_14 : decode cX2_addChild 14 = .ok (.aload_n 0, 1) := by decide +kernel
theorem dX2_addChild_15 : decode cX2_addChild 15 = .ok (.getfield 12, 3) := by decide +kernel
theorem dX2_addChild_18 : decode cX2_addChild 18 = .ok (.iload_n 1, 1) := by decide +kernel
theorem dX2_addChild_19 : decode cX2_addChild 19 = .ok (.invokevirtual 42, 3) := by decide +kernel
theorem dX2_addChild_22 : decode cX2_addChild 22 = .ok (.ireturn, 1) := by decide +kernel
set_option maxRecDepth 20000 in
theorem ggX2_marry_X2_needPerson : GoodIn wsX2_marry wsX2_needPerson := goodIn_ca (goodIn_r _ [9, 10, 11, 3, 12, 58, 59, 60, 61, 62, 63, 64, 65, 66, 67, 68, 69, 70, 71] (by decide +kernel) (by decide +kernel)) (goodIn_sub (fun _ h => List.mem_cons_of_mem _ (List.mem_append_left _ (List.mem_append_right _ h))) (by decide +kernel))
set_option maxRecDepth 20000 in
theorem gX2_marry_X2_needPerson : GoodIn wsX2_marry (wsV RX2 46 RX2 yX2_needPerson wsX2_needPerson) := goodIn_app (goodIn_of _ (by decide +kernel)) ggX2_marry_X2_needPerson
set_option maxRecDepth 20000 in
theorem ggX2_marry_X2_needTwo : GoodIn wsX2_marry wsX2_needTwo := goodIn_ca (goodIn_r _ [16, 17, 18] (by decide +kernel) (by decide +kernel)) (goodIn_sub (fun _ h => List.mem_cons_of_mem _ (List.mem_append_right _ h)) (by decide +kernel))
set_option maxRecDepth 20000 in
theorem gX2_marry_X2_needTwo : GoodIn wsX2_marry (wsV RX2 53 RX2 yX2_needTwo wsX2_needTwo) := goodIn_app (goodIn_of _ (by decide +kernel)) ggX2_marry_X2_needTwo
set_option maxRecDepth 20000 in
theorem ggX2_marry_X2_needAlive : GoodIn wsX2_marry wsX2_needAlive := goodIn_ca (goodIn_r _ [22, 1, 2, 3, 23, 58, 59, 60, 61, 62, 63, 64, 65, 66, 67, 68, 69, 70, 71] (by decide +kernel) (by decide +kernel)) (goodIn_sub (fun _ h => List.mem_cons_of_mem _ (List.mem_append_left _ (List.mem_append_left _ (List.mem_append_right _ h)))) (by decide +kernel))
set_option maxRecDepth 20000 in
theorem gX2_marry_X2_needAlive : GoodIn wsX2_marry (wsV RX2 50 RX2 yX2_needAlive wsX2_needAlive) := goodIn_app (goodIn_of _ (by decide +kernel)) ggX2_marry_X2_needAlive
set_option maxRecDepth 20000 in
theorem ggX2_marry_X1_hasLivingSpouse : GoodIn wsX2_marry wsX1_hasLivingSpouse := goodIn_r _ [28, 29, 30, 67, 68, 69, 70, 71] (by decide +kernel) (by decide +kernel)
set_option maxRecDepth 20000 in
theorem gX2_marry_X1_hasLivingSpouse : GoodIn wsX2_marry (wsV RX2 57 RX1 yX1_hasLivingSpouse wsX1_hasLivingSpouse) := goodIn_app (goodIn_of _ (by decide +kernel)) ggX2_marry_X1_hasLivingSpouse
set_option maxRecDepth 20000 in
theorem ggX2_marry_X1_findDegrees : GoodIn wsX2_marry wsX1_findDegrees := goodIn_r _ [34, 35, 36, 37, 38, 39, 40, 41, 42, 43, 27, 44, 45, 46, 47, 48, 49, 29, 67, 68, 69, 70, 71] (by decide +kernel) (by decide +kernel)
set_option maxRecDepth 20000 in
theorem gX2_marry_X1_findDegrees : GoodIn wsX2_marry (wsV RX2 68 RX1 yX1_findDegrees wsX1_findDegrees) := goodIn_app (goodIn_of _ (by decide +kernel)) ggX2_marry_X1_findDegrees
set_option maxRecDepth 20000 in
theorem ggX2_marry_X1_wed : GoodIn wsX2_marry wsX1_wed := goodIn_r _ [53, 29, 54, 55, 56, 27, 57, 67, 68, 69, 70, 71] (by decide +kernel) (by decide +kernel)
set_option maxRecDepth 20000 in
theorem gX2_marry_X1_wed : GoodIn wsX2_marry (wsV RX2 74 RX1 yX1_wed wsX1_wed) := goodIn_app (goodIn_of _ (by decide +kernel)) ggX2_marry_X1_wed
theorem dX2_marry_0 : decode cX2_marry 0 = .ok (.aload_n 0, 1) := by decide +kernel
theorem dX2_marry_1 : decode cX2_marry 1 = .ok (.iload_n 1, 1) := by decide +kernel
theorem dX2_marry_2 : decode cX2_marry 2 = .ok (.invokevirtual 46, 3) := by decide +kernel
theorem dX2_marry_5 : decode cX2_marry 5 = .ok (.aload_n 0, 1) := by decide +kernel
theorem dX2_marry_6 : decode cX2_marry 6 = .ok (.iload_n 2, 1) := by decide +kernel
theorem dX2_marry_7 : decode cX2_marry 7 = .ok (.invokevirtual 46, 3) := by decide +kernel
theorem dX2_marry_10 : decode cX2_marry 10 = .ok (.aload_n 0, 1) := by decide +kernel
theorem dX2_marry_11 : decode cX2_marry 11 = .ok (.iload_n 1, 1) := by decide +kernel
theorem dX2_marry_12 : decode cX2_marry 12 = .ok (.iload_n 2, 1) := by decide +kernel
theorem dX2_marry_13 : decode cX2_marry 13 = .ok (.invokevirtual 53, 3) := by decide +kernel
theorem dX2_marry_16 : decode cX2_marry 16 = .ok (.aload_n 0, 1) := by decide +kernel
theorem dX2_marry_17 : decode cX2_marry 17 = .ok (.iload_n 1, 1) := by decide +kernel
theorem dX2_marry_18 : decode cX2_marry 18 = .ok (.invokevirtual 50, 3) := by decide +kernel
theorem dX2_marry_21 : decode cX2_marry 21 = .ok (.aload_n 0, 1) := by decide +kernel
theorem dX2_marry_22 : decode cX2_marry 22 = .ok (.iload_n 2, 1) := by decide +kernel
theorem dX2_marry_23 : decode cX2_marry 23 = .ok (.invokevirtual 50, 3) := by decide +kernel
theorem dX2_marry_26 : decode cX2_marry 26 = .ok (.aload_n 0, 1) := by decide +kernel
theorem dX2_marry_27 : decode cX2_marry 27 = .ok (.getfield 12, 3) := by decide +kernel
theorem dX2_marry_30 : decode cX2_marry 30 = .ok (.iload_n 1, 1) := by decide +kernel
theorem dX2_marry_31 : decode cX2_marry 31 = .ok (.invokevirtual 57, 3) := by decide +kernel
theorem dX2_marry_34 : decode cX2_marry 34 = .ok (.ifCond .ne 14, 3) := by decide +kernel
theorem dX2_marry_37 : decode cX2_marry 37 = .ok (.aload_n 0, 1) := by decide +kernel
theorem dX2_marry_38 : decode cX2_marry 38 = .ok (.getfield 12, 3) := by decide +kernel
theorem dX2_marry_41 : decode cX2_marry 41 = .ok (.iload_n 2, 1) := by decide +kernel
theorem dX2_marry_42 : decode cX2_marry 42 = .ok (.invokevirtual 57, 3) := by decide +kernel
theorem dX2_marry_45 : decode cX2_marry 45 = .ok (.ifCond .eq 13, 3) := by decide +kernel
theorem dX2_marry_48 : decode cX2_marry 48 = .ok (.new 61, 3) := by decide +kernel
theorem dX2_marry_51 : decode cX2_marry 51 = .ok (.dup, 1) := by decide +kernel
theorem dX2_marry_52 : decode cX2_marry 52 = .ok (.ldc 63, 2) := by decide +kernel
theorem dX2_marry_54 : decode cX2_marry 54 = .ok (.invokespecial 65, 3) := by decide +kernel
theorem dX2_marry_57 : decode cX2_marry 57 = .ok (.athrow, 1) := by decide +kernel
theorem dX2_marry_58 : decode cX2_marry 58 = .ok (.aload_n 0, 1) := by decide +kernel
theorem dX2_marry_59 : decode cX2_marry 59 = .ok (.getfield 12, 3) := by decide +kernel
theorem dX2_marry_62 : decode cX2_marry 62 = .ok (.iload_n 1, 1) := by decide +kernel
theorem dX2_marry_63 : decode cX2_marry 63 = .ok (.invokevirtual 68, 3) := by decide +kernel
theorem dX2_marry_66 : decode cX2_marry 66 = .ok (.aload_n 0, 1) := by decide +kernel
theorem dX2_marry_67 : decode cX2_marry 67 = .ok (.getfield 12, 3) := by decide +kernel
theorem dX2_marry_70 : decode cX2_marry 70 = .ok (.getfield 71, 3) := by decide +kernel
theorem dX2_marry_73 : decode cX2_marry 73 = .ok (.iload_n 2, 1) := by decide +kernel
theorem dX2_marry_74 : decode cX2_marry 74 = .ok (.iaload, 1) := by decide +kernel
theorem dX2_marry_75 : decode cX2_marry 75 = .ok (.istore_n 3, 1) := by decide +kernel
theorem dX2_marry_76 : decode cX2_marry 76 = .ok (.aload_n 0, 1) := by decide +kernel
theorem dX2_marry_77 : decode cX2_marry 77 = .ok (.getfield 12, 3) := by decide +kernel
theorem dX2_marry_80 : decode cX2_marry 80 = .ok (.iload_n 1, 1) := by decide +kernel
theorem dX2_marry_81 : decode cX2_marry 81 = .ok (.iload_n 2, 1) := by decide +kernel
theorem dX2_marry_82 : decode cX2_marry 82 = .ok (.invokevirtual 74, 3) := by decide +kernel
theorem dX2_marry_85 : decode cX2_marry 85 = .ok (.iload_n 3, 1) := by decide +kernel
theorem dX2_marry_86 : decode cX2_marry 86 = .ok (.ireturn, 1) := by decide +kernel
set_option maxRecDepth 20000 in
theorem ggX2_setStage_X2_needStage : GoodIn wsX2_setStage wsX2_needStage := goodIn_ca (goodIn_r _ [10, 11, 12, 13, 14, 15, 9, 16] (by decide +kernel) (by decide +kernel)) (goodIn_sub (fun _ h => List.mem_cons_of_mem _ (List.mem_append_right _ h)) (by decide +kernel))
set_option maxRecDepth 20000 in
theorem gX2_setStage_X2_needStage : GoodIn wsX2_setStage (wsV RX2 77 RX2 yX2_needStage wsX2_needStage) := goodIn_app (goodIn_of _ (by decide +kernel)) ggX2_setStage_X2_needStage
set_option maxRecDepth 20000 in
theorem ggX2_setStage_X0_place : GoodIn wsX2_setStage wsX0_place := goodIn_r _ [20] (by decide +kernel) (by decide +kernel)
set_option maxRecDepth 20000 in
theorem gX2_setStage_X0_place : GoodIn wsX2_setStage (va_wsS RX2 87 yX0_place wsX0_place) := goodIn_app (goodIn_of _ (by decide +kernel)) ggX2_setStage_X0_place
set_option maxRecDepth 20000 in
theorem ggX2_setStage_X0_daysOfAll : GoodIn wsX2_setStage wsX0_daysOfAll := goodIn_r _ [24, 25, 26, 18, 19, 20, 36, 37] (by decide +kernel) (by decide +kernel)
set_option maxRecDepth 20000 in
theorem gX2_setStage_X0_daysOfAll : GoodIn wsX2_setStage (wsV RX2 97 RX0 yX0_daysOfAll wsX0_daysOfAll) := goodIn_app (goodIn_of _ (by decide +kernel)) ggX2_setStage_X0_daysOfAll
theorem dX2_setStage_0 : decode cX2_setStage 0 = .ok (.aload_n 0, 1) := by decide +kernel
theorem dX2_setStage_1 : decode cX2_setStage 1 = .ok (.iload_n 1, 1) := by decide +kernel
theorem dX2_setStage_2 : decode cX2_setStage 2 = .ok (.iload_n 2, 1) := by decide +kernel
theorem dX2_setStage_3 : decode cX2_setStage 3 = .ok (.invokevirtual 77, 3) := by decide +kernel
theorem dX2_setStage_6 : decode cX2_setStage 6 = .ok (.iload_n 3, 1) := by decide +kernel
theorem dX2_setStage_7 : decode cX2_setStage 7 = .ok (.ifCond .lt 8, 3) := by decide +kernel
theorem dX2_setStage_10 : decode cX2_setStage 10 = .ok (.iload_n 3, 1) := by decide +kernel
theorem dX2_setStage_11 : decode cX2_setStage 11 = .ok (.iconst 5, 1) := by decide +kernel
theorem dX2_setStage_12 : decode cX2_setStage 12 = .ok (.if_icmp .le 13, 3) := by decide +kernel
theorem dX2_setStage_15 : decode cX2_setStage 15 = .ok (.new 80, 3) := by decide +kernel
theorem dX2_setStage_18 : decode cX2_setStage 18 = .ok (.dup, 1) := by decide +kernel
theorem dX2_setStage_19 : decode cX2_setStage 19 = .ok (.ldc 82, 2) := by decide +kernel
theorem dX2_setStage_21 : decode cX2_setStage 21 = .ok (.invokespecial 84, 3) := by decide +kernel
theorem dX2_setStage_24 : decode cX2_setStage 24 = .ok (.athrow, 1) := by decide +kernel
theorem dX2_setStage_25 : decode cX2_setStage 25 = .ok (.iload 4, 2) := by decide +kernel
theorem dX2_setStage_27 : decode cX2_setStage 27 = .ok (.ifCond .lt 10, 3) := by decide +kernel
theorem dX2_setStage_30 : decode cX2_setStage 30 = .ok (.iload 4, 2) := by decide +kernel
theorem dX2_setStage_32 : decode cX2_setStage 32 = .ok (.bipush 60, 2) := by decide +kernel
theorem dX2_setStage_34 : decode cX2_setStage 34 = .ok (.if_icmp .le 13, 3) := by decide +kernel
theorem dX2_setStage_37 : decode cX2_setStage 37 = .ok (.new 80, 3) := by decide +kernel
theorem dX2_setStage_40 : decode cX2_setStage 40 = .ok (.dup, 1) := by decide +kernel
theorem dX2_setStage_41 : decode cX2_setStage 41 = .ok (.ldc 85, 2) := by decide +kernel
theorem dX2_setStage_43 : decode cX2_setStage 43 = .ok (.invokespecial 84, 3) := by decide +kernel
theorem dX2_setStage_46 : decode cX2_setStage 46 = .ok (.athrow, 1) := by decide +kernel
theorem dX2_setStage_47 : decode cX2_setStage 47 = .ok (.bipush 16, 2) := by decide +kernel
theorem dX2_setStage_49 : decode cX2_setStage 49 = .ok (.iload_n 1, 1) := by decide +kernel
theorem dX2_setStage_50 : decode cX2_setStage 50 = .ok (.iload_n 2, 1) := by decide +kernel
theorem dX2_setStage_51 : decode cX2_setStage 51 = .ok (.invokestatic 87, 3) := by decide +kernel
theorem dX2_setStage_54 : decode cX2_setStage 54 = .ok (.istore 5, 2) := by decide +kernel
theorem dX2_setStage_56 : decode cX2_setStage 56 = .ok (.aload_n 0, 1) := by decide +kernel
theorem dX2_setStage_57 : decode cX2_setStage 57 = .ok (.getfield 19, 3) := by decide +kernel
theorem dX2_setStage_60 : decode cX2_setStage 60 = .ok (.getfield 91, 3) := by decide +kernel
theorem dX2_setStage_63 : decode cX2_setStage 63 = .ok (.iload 5, 2) := by decide +kernel
theorem dX2_setStage_65 : decode cX2_setStage 65 = .ok (.iload_n 3, 1) := by decide +kernel
theorem dX2_setStage_66 : decode cX2_setStage 66 = .ok (.iastore, 1) := by decide +kernel
theorem dX2_setStage_67 : decode cX2_setStage 67 = .ok (.aload_n 0, 1) := by decide +kernel
theorem dX2_setStage_68 : decode cX2_setStage 68 = .ok (.getfield 19, 3) := by decide +kernel
theorem dX2_setStage_71 : decode cX2_setStage 71 = .ok (.getfield 94, 3) := by decide +kernel
theorem dX2_setStage_74 : decode cX2_setStage 74 = .ok (.iload 5, 2) := by decide +kernel
theorem dX2_setStage_76 : decode cX2_setStage 76 = .ok (.iload 4, 2) := by decide +kernel
theorem dX2_setStage_78 : decode cX2_setStage 78 = .ok (.iastore, 1) := by decide +kernel
theorem dX2_setStage_79 : decode cX2_setStage 79 = .ok (.aload_n 0, 1) := by decide +kernel
theorem dX2_setStage_80 : decode cX2_setStage 80 = .ok (.getfield 19, 3) := by decide +kernel
theorem dX2_setStage_83 : decode cX2_setStage 83 = .ok (.bipush 16, 2) := by decide +kernel
theorem dX2_setStage_85 : decode cX2_setStage 85 = .ok (.iload_n 1, 1) := by decide +kernel
theorem dX2_setStage_86 : decode cX2_setStage 86 = .ok (.invokevirtual 97, 3) := by decide +kernel
theorem dX2_setStage_89 : decode cX2_setStage 89 = .ok (.ireturn, 1) := by decide +kernel
set_option maxRecDepth 20000 in
theorem ggX2_die_X2_needPerson : GoodIn wsX2_die wsX2_needPerson := goodIn_ca (goodIn_r _ [10, 11, 12, 1, 13, 76, 77, 78, 79, 80, 81, 82, 83, 84, 85, 86, 87, 88, 89] (by decide +kernel) (by decide +kernel)) (goodIn_sub (fun _ h => List.mem_cons_of_mem _ (List.mem_append_left _ (List.mem_append_right _ h))) (by decide +kernel))
set_option maxRecDepth 20000 in
theorem gX2_die_X2_needPerson : GoodIn wsX2_die (wsV RX2 46 RX2 yX2_needPerson wsX2_needPerson) := goodIn_app (goodIn_of _ (by decide +kernel)) ggX2_die_X2_needPerson
set_option maxRecDepth 20000 in
theorem ggX2_die_X2_needAlive : GoodIn wsX2_die wsX2_needAlive := goodIn_ca (goodIn_r _ [17, 18, 19, 1, 2, 76, 77, 78, 79, 80, 81, 82, 83, 84, 85, 86, 87, 88, 89] (by decide +kernel) (by decide +kernel)) (goodIn_sub (fun _ h => List.mem_cons_of_mem _ (List.mem_append_right _ h)) (by decide +kernel))
set_option maxRecDepth 20000 in
theorem gX2_die_X2_needAlive : GoodIn wsX2_die (wsV RX2 50 RX2 yX2_needAlive wsX2_needAlive) := goodIn_app (goodIn_of _ (by decide +kernel)) ggX2_die_X2_needAlive
set_option maxRecDepth 20000 in
theorem ggX2_die_X0_keepFor : GoodIn wsX2_die wsX0_keepFor := goodIn_r _ [24, 25, 26, 27, 28, 29, 30, 31, 32, 23, 33, 90, 91] (by decide +kernel) (by decide +kernel)
set_option maxRecDepth 20000 in
theorem gX2_die_X0_keepFor : GoodIn wsX2_die (wsV RX2 109 RX0 yX0_keepFor wsX0_keepFor) := goodIn_app (goodIn_of _ (by decide +kernel)) ggX2_die_X0_keepFor
set_option maxRecDepth 20000 in
theorem ggX2_die_X2_endMourningsOf : GoodIn wsX2_die wsX2_endMourningsOf := goodIn_r _ [37, 38, 39, 40, 9, 41, 76, 77, 78, 79, 80, 81, 82, 83, 84] (by decide +kernel) (by decide +kernel)
set_option maxRecDepth 20000 in
theorem gX2_die_X2_endMourningsOf : GoodIn wsX2_die (wsV RX2 112 RX2 yX2_endMourningsOf wsX2_endMourningsOf) := goodIn_app (goodIn_of _ (by decide +kernel)) ggX2_die_X2_endMourningsOf
set_option maxRecDepth 20000 in
theorem ggX2_die_X2_beginMourningsFor : GoodIn wsX2_die wsX2_beginMourningsFor := goodIn_r _ [45, 1, 13, 38, 46, 47, 48, 49, 50, 51, 52, 53, 54, 55, 56, 57, 58, 59, 60, 61, 62, 63, 64, 65, 66, 67, 68, 69, 70, 9, 71, 2, 5, 72, 73, 74, 23, 75, 30, 31, 32, 33, 39, 40, 41, 76, 77, 78, 79, 80, 81, 82, 83, 84, 85, 86, 87, 88, 89, 90, 91] (by decide +kernel) (by decide +kernel)
set_option maxRecDepth 20000 in
theorem gX2_die_X2_beginMourningsFor : GoodIn wsX2_die (wsV RX2 115 RX2 yX2_beginMourningsFor wsX2_beginMourningsFor) := goodIn_app (goodIn_of _ (by decide +kernel)) ggX2_die_X2_beginMourningsFor
theorem dX2_die_0 : decode cX2_die 0 = .ok (.aload_n 0, 1) := by decide +kernel
theorem dX2_die_1 : decode cX2_die 1 = .ok (.iload_n 1, 1) := by decide +kernel
theorem dX2_die_2 : decode cX2_die 2 = .ok (.invokevirtual 46, 3) := by decide +kernel
theorem dX2_die_5 : decode cX2_die 5 = .ok (.aload_n 0, 1) := by decide +kernel
theorem dX2_die_6 : decode cX2_die 6 = .ok (.iload_n 1, 1) := by decide +kernel
theorem dX2_die_7 : decode cX2_die 7 = .ok (.invokevirtual 50, 3) := by decide +kernel
theorem dX2_die_10 : decode cX2_die 10 = .ok (.aload_n 0, 1) := by decide +kernel
theorem dX2_die_11 : decode cX2_die 11 = .ok (.getfield 12, 3) := by decide +kernel
end
section
theorem dX2_die_14 : decode cX2_die 14 = .ok (.getfield 101, 3) := by decide +kernel
theorem dX2_die_17 : decode cX2_die 17 = .ok (.iload_n 1, 1) := by decide +kernel
theorem dX2_die_18 : decode cX2_die 18 = .ok (.iconst 0, 1) := by decide +kernel
theorem dX2_die_19 : decode cX2_die 19 = .ok (.bastore, 1) := by decide +kernel
theorem dX2_die_20 : decode cX2_die 20 = .ok (.aload_n 0, 1) := by decide +kernel
theorem dX2_die_21 : decode cX2_die 21 = .ok (.getfield 27, 3) := by decide +kernel
theorem dX2_die_24 : decode cX2_die 24 = .ok (.iload_n 1, 1) := by decide +kernel
theorem dX2_die_25 : decode cX2_die 25 = .ok (.aload_n 0, 1) := by decide +kernel
theorem dX2_die_26 : decode cX2_die 26 = .ok (.getfield 105, 3) := by decide +kernel
theorem dX2_die_29 : decode cX2_die 29 = .ok (.iastore, 1) := by decide +kernel
theorem dX2_die_30 : decode cX2_die 30 = .ok (.aload_n 0, 1) := by decide +kernel
theorem dX2_die_31 : decode cX2_die 31 = .ok (.getfield 19, 3) := by decide +kernel
theorem dX2_die_34 : decode cX2_die 34 = .ok (.iload_n 1, 1) := by decide +kernel
theorem dX2_die_35 : decode cX2_die 35 = .ok (.invokevirtual 109, 3) := by decide +kernel
theorem dX2_die_38 : decode cX2_die 38 = .ok (.aload_n 0, 1) := by decide +kernel
theorem dX2_die_39 : decode cX2_die 39 = .ok (.iload_n 1, 1) := by decide +kernel
theorem dX2_die_40 : decode cX2_die 40 = .ok (.invokevirtual 112, 3) := by decide +kernel
theorem dX2_die_43 : decode cX2_die 43 = .ok (.aload_n 0, 1) := by decide +kernel
theorem dX2_die_44 : decode cX2_die 44 = .ok (.iload_n 1, 1) := by decide +kernel
theorem dX2_die_45 : decode cX2_die 45 = .ok (.invokevirtual 115, 3) := by decide +kernel
theorem dX2_die_48 : decode cX2_die 48 = .ok (.ireturn, 1) := by decide +kernel
set_option maxRecDepth 20000 in
theorem ggX2_release_X2_needPerson : GoodIn wsX2_release wsX2_needPerson := goodIn_ca (goodIn_r _ [8, 9, 10, 11, 12, 36, 37, 38, 39, 40, 41, 42, 43, 44, 45, 46, 47, 48, 49] (by decide +kernel) (by decide +kernel)) (goodIn_sub (fun _ h => List.mem_cons_of_mem _ (List.mem_append_right _ h)) (by decide +kernel))
set_option maxRecDepth 20000 in
theorem gX2_release_X2_needPerson : GoodIn wsX2_release (wsV RX2 46 RX2 yX2_needPerson wsX2_needPerson) := goodIn_app (goodIn_of _ (by decide +kernel)) ggX2_release_X2_needPerson
set_option maxRecDepth 20000 in
theorem ggX2_release_X2_leftFor : GoodIn wsX2_release wsX2_leftFor := goodIn_r _ [16, 17, 3, 18, 19, 20, 21, 22, 23, 24, 25, 7, 26, 27, 28, 29, 30, 31, 32, 33, 34, 35, 36, 37, 38, 39, 40, 41, 42, 43, 44, 50, 51] (by decide +kernel) (by decide +kernel)
set_option maxRecDepth 20000 in
theorem gX2_release_X2_leftFor : GoodIn wsX2_release (wsV RX2 118 RX2 yX2_leftFor wsX2_leftFor) := goodIn_app (goodIn_of _ (by decide +kernel)) ggX2_release_X2_leftFor
set_option maxRecDepth 20000 in
theorem ggX2_release_X2_pair : GoodIn wsX2_release wsX2_pair := goodIn_r _ [26] (by decide +kernel) (by decide +kernel)
set_option maxRecDepth 20000 in
theorem gX2_release_X2_pair : GoodIn wsX2_release (va_wsS RX2 123 yX2_pair wsX2_pair) := goodIn_app (goodIn_of _ (by decide +kernel)) ggX2_release_X2_pair
theorem dX2_release_0 : decode cX2_release 0 = .ok (.aload_n 0, 1) := by decide +kernel
theorem dX2_release_1 : decode cX2_release 1 = .ok (.iload_n 1, 1) := by decide +kernel
theorem dX2_release_2 : decode cX2_release 2 = .ok (.invokevirtual 46, 3) := by decide +kernel
theorem dX2_release_5 : decode cX2_release 5 = .ok (.aload_n 0, 1) := by decide +kernel
theorem dX2_release_6 : decode cX2_release 6 = .ok (.iload_n 2, 1) := by decide +kernel
theorem dX2_release_7 : decode cX2_release 7 = .ok (.invokevirtual 46, 3) := by decide +kernel
theorem dX2_release_10 : decode cX2_release 10 = .ok (.aload_n 0, 1) := by decide +kernel
theorem dX2_release_11 : decode cX2_release 11 = .ok (.iload_n 1, 1) := by decide +kernel
theorem dX2_release_12 : decode cX2_release 12 = .ok (.iload_n 2, 1) := by decide +kernel
theorem dX2_release_13 : decode cX2_release 13 = .ok (.invokevirtual 118, 3) := by decide +kernel
theorem dX2_release_16 : decode cX2_release 16 = .ok (.istore_n 3, 1) := by decide +kernel
theorem dX2_release_17 : decode cX2_release 17 = .ok (.iload_n 3, 1) := by decide +kernel
theorem dX2_release_18 : decode cX2_release 18 = .ok (.ifCond .ne 13, 3) := by decide +kernel
theorem dX2_release_21 : decode cX2_release 21 = .ok (.new 61, 3) := by decide +kernel
theorem dX2_release_24 : decode cX2_release 24 = .ok (.dup, 1) := by decide +kernel
theorem dX2_release_25 : decode cX2_release 25 = .ok (.ldc 121, 2) := by decide +kernel
theorem dX2_release_27 : decode cX2_release 27 = .ok (.invokespecial 65, 3) := by decide +kernel
theorem dX2_release_30 : decode cX2_release 30 = .ok (.athrow, 1) := by decide +kernel
theorem dX2_release_31 : decode cX2_release 31 = .ok (.aload_n 0, 1) := by decide +kernel
theorem dX2_release_32 : decode cX2_release 32 = .ok (.getfield 23, 3) := by decide +kernel
theorem dX2_release_35 : decode cX2_release 35 = .ok (.iload_n 1, 1) := by decide +kernel
theorem dX2_release_36 : decode cX2_release 36 = .ok (.iload_n 2, 1) := by decide +kernel
theorem dX2_release_37 : decode cX2_release 37 = .ok (.invokestatic 123, 3) := by decide +kernel
theorem dX2_release_40 : decode cX2_release 40 = .ok (.iconst 0, 1) := by decide +kernel
theorem dX2_release_41 : decode cX2_release 41 = .ok (.iastore, 1) := by decide +kernel
theorem dX2_release_42 : decode cX2_release 42 = .ok (.iload_n 3, 1) := by decide +kernel
theorem dX2_release_43 : decode cX2_release 43 = .ok (.ireturn, 1) := by decide +kernel
set_option maxRecDepth 20000 in
theorem ggX2_pass_X2_paintAhead : GoodIn wsX2_pass wsX2_paintAhead := goodIn_r _ [11, 12, 3, 4, 13, 6, 14, 15, 16, 17, 18, 19, 20, 21, 22, 23, 24, 25, 26, 27, 28, 10, 29, 30, 31, 32, 33, 34, 35, 36, 37, 38, 39, 40, 41, 42, 43, 44, 45, 46, 47, 68, 69, 70, 71, 72, 73, 74, 75, 76, 77, 78, 79, 80, 81, 82, 83] (by decide +kernel) (by decide +kernel)
set_option maxRecDepth 20000 in
theorem gX2_pass_X2_paintAhead : GoodIn wsX2_pass (wsV RX2 131 RX2 yX2_paintAhead wsX2_paintAhead) := goodIn_app (goodIn_of _ (by decide +kernel)) ggX2_pass_X2_paintAhead
set_option maxRecDepth 20000 in
theorem ggX2_pass_X2_wornAhead : GoodIn wsX2_pass wsX2_wornAhead := goodIn_r _ [51, 12, 68, 69, 70, 71, 72, 73, 74, 75, 76] (by decide +kernel) (by decide +kernel)
set_option maxRecDepth 20000 in
theorem gX2_pass_X2_wornAhead : GoodIn wsX2_pass (wsV RX2 137 RX2 yX2_wornAhead wsX2_wornAhead) := goodIn_app (goodIn_of _ (by decide +kernel)) ggX2_pass_X2_wornAhead
set_option maxRecDepth 20000 in
theorem ggX2_pass_X1_livingCount : GoodIn wsX2_pass wsX1_livingCount := goodIn_r _ [56, 57, 58, 77, 78, 79, 80, 81] (by decide +kernel) (by decide +kernel)
set_option maxRecDepth 20000 in
theorem gX2_pass_X1_livingCount : GoodIn wsX2_pass (wsV RX2 140 RX1 yX1_livingCount wsX1_livingCount) := goodIn_app (goodIn_of _ (by decide +kernel)) ggX2_pass_X1_livingCount
set_option maxRecDepth 20000 in
theorem ggX2_pass_X2_countWearing : GoodIn wsX2_pass wsX2_countWearing := goodIn_r _ [62, 3, 4, 63, 64, 65, 66, 10, 67, 6, 14, 19, 13, 20, 21, 17, 22, 27, 28, 29, 43, 44, 45, 37, 46, 39, 47, 40, 41, 42, 68, 69, 70, 71, 72, 73, 74, 75, 76, 77, 78, 79, 80, 81, 82, 83] (by decide +kernel) (by decide +kernel)
set_option maxRecDepth 20000 in
theorem gX2_pass_X2_countWearing : GoodIn wsX2_pass (wsV RX2 144 RX2 yX2_countWearing wsX2_countWearing) := goodIn_app (goodIn_of _ (by decide +kernel)) ggX2_pass_X2_countWearing
theorem dX2_pass_0 : decode cX2_pass 0 = .ok (.iload_n 1, 1) := by decide +kernel
theorem dX2_pass_1 : decode cX2_pass 1 = .ok (.iconst 1, 1) := by decide +kernel
theorem dX2_pass_2 : decode cX2_pass 2 = .ok (.if_icmp .lt 10, 3) := by decide +kernel
theorem dX2_pass_5 : decode cX2_pass 5 = .ok (.iload_n 1, 1) := by decide +kernel
theorem dX2_pass_6 : decode cX2_pass 6 = .ok (.sipush 200, 3) := by decide +kernel
theorem dX2_pass_9 : decode cX2_pass 9 = .ok (.if_icmp .le 13, 3) := by decide +kernel
theorem dX2_pass_12 : decode cX2_pass 12 = .ok (.new 80, 3) := by decide +kernel
theorem dX2_pass_15 : decode cX2_pass 15 = .ok (.dup, 1) := by decide +kernel
theorem dX2_pass_16 : decode cX2_pass 16 = .ok (.ldc 126, 2) := by decide +kernel
theorem dX2_pass_18 : decode cX2_pass 18 = .ok (.invokespecial 84, 3) := by decide +kernel
theorem dX2_pass_21 : decode cX2_pass 21 = .ok (.athrow, 1) := by decide +kernel
theorem dX2_pass_22 : decode cX2_pass 22 = .ok (.iconst 0, 1) := by decide +kernel
theorem dX2_pass_23 : decode cX2_pass 23 = .ok (.istore_n 2, 1) := by decide +kernel
theorem dX2_pass_24 : decode cX2_pass 24 = .ok (.iload_n 2, 1) := by decide +kernel
theorem dX2_pass_25 : decode cX2_pass 25 = .ok (.aload_n 0, 1) := by decide +kernel
theorem dX2_pass_26 : decode cX2_pass 26 = .ok (.getfield 12, 3) := by decide +kernel
theorem dX2_pass_29 : decode cX2_pass 29 = .ok (.getfield 128, 3) := by decide +kernel
theorem dX2_pass_32 : decode cX2_pass 32 = .ok (.if_icmp .ge 28, 3) := by decide +kernel
theorem dX2_pass_35 : decode cX2_pass 35 = .ok (.aload_n 0, 1) := by decide +kernel
theorem dX2_pass_36 : decode cX2_pass 36 = .ok (.iload_n 2, 1) := by decide +kernel
theorem dX2_pass_37 : decode cX2_pass 37 = .ok (.invokevirtual 131, 3) := by decide +kernel
theorem dX2_pass_40 : decode cX2_pass 40 = .ok (.aload_n 0, 1) := by decide +kernel
theorem dX2_pass_41 : decode cX2_pass 41 = .ok (.dup, 1) := by decide +kernel
theorem dX2_pass_42 : decode cX2_pass 42 = .ok (.getfield 134, 3) := by decide +kernel
theorem dX2_pass_45 : decode cX2_pass 45 = .ok (.aload_n 0, 1) := by decide +kernel
theorem dX2_pass_46 : decode cX2_pass 46 = .ok (.iload_n 1, 1) := by decide +kernel
theorem dX2_pass_47 : decode cX2_pass 47 = .ok (.invokevirtual 137, 3) := by decide +kernel
theorem dX2_pass_50 : decode cX2_pass 50 = .ok (.iadd, 1) := by decide +kernel
theorem dX2_pass_51 : decode cX2_pass 51 = .ok (.putfield 134, 3) := by decide +kernel
theorem dX2_pass_54 : decode cX2_pass 54 = .ok (.iinc 2 1, 3) := by decide +kernel
theorem dX2_pass_57 : decode cX2_pass 57 = .ok (.goto (-33), 3) := by decide +kernel
theorem dX2_pass_60 : decode cX2_pass 60 = .ok (.aload_n 0, 1) := by decide +kernel
theorem dX2_pass_61 : decode cX2_pass 61 = .ok (.dup, 1) := by decide +kernel
theorem dX2_pass_62 : decode cX2_pass 62 = .ok (.getfield 105, 3) := by decide +kernel
theorem dX2_pass_65 : decode cX2_pass 65 = .ok (.iload_n 1, 1) := by decide +kernel
theorem dX2_pass_66 : decode cX2_pass 66 = .ok (.iadd, 1) := by decide +kernel
theorem dX2_pass_67 : decode cX2_pass 67 = .ok (.putfield 105, 3) := by decide +kernel
theorem dX2_pass_70 : decode cX2_pass 70 = .ok (.aload_n 0, 1) := by decide +kernel
theorem dX2_pass_71 : decode cX2_pass 71 = .ok (.getfield 12, 3) := by decide +kernel
theorem dX2_pass_74 : decode cX2_pass 74 = .ok (.invokevirtual 140, 3) := by decide +kernel
theorem dX2_pass_77 : decode cX2_pass 77 = .ok (.aload_n 0, 1) := by decide +kernel
theorem dX2_pass_78 : decode cX2_pass 78 = .ok (.iconst 0, 1) := by decide +kernel
theorem dX2_pass_79 : decode cX2_pass 79 = .ok (.invokevirtual 144, 3) := by decide +kernel
theorem dX2_pass_82 : decode cX2_pass 82 = .ok (.isub, 1) := by decide +kernel
theorem dX2_pass_83 : decode cX2_pass 83 = .ok (.ireturn, 1) := by decide +kernel
theorem dX2_people_0 : decode cX2_people 0 = .ok (.aload_n 0, 1) := by decide +kernel
theorem dX2_people_1 : decode cX2_people 1 = .ok (.getfield 12, 3) := by decide +kernel
theorem dX2_people_4 : decode cX2_people 4 = .ok (.getfield 128, 3) := by decide +kernel
theorem dX2_people_7 : decode cX2_people 7 = .ok (.ireturn, 1) := by decide +kernel
set_option maxRecDepth 20000 in
theorem ggX2_living_X1_livingCount : GoodIn wsX2_living wsX1_livingCount := goodIn_r _ [6, 7, 8, 18, 19, 20, 21, 22] (by decide +kernel) (by decide +kernel)
set_option maxRecDepth 20000 in
theorem gX2_living_X1_livingCount : GoodIn wsX2_living (wsV RX2 140 RX1 yX1_livingCount wsX1_livingCount) := goodIn_app (goodIn_of _ (by decide +kernel)) ggX2_living_X1_livingCount
theorem dX2_living_0 : decode cX2_living 0 = .ok (.aload_n 0, 1) := by decide +kernel
theorem dX2_living_1 : decode cX2_living 1 = .ok (.getfield 12, 3) := by decide +kernel
theorem dX2_living_4 : decode cX2_living 4 = .ok (.invokevirtual 140, 3) := by decide +kernel
theorem dX2_living_7 : decode cX2_living 7 = .ok (.ireturn, 1) := by decide +kernel
set_option maxRecDepth 20000 in
theorem ggX2_isAlive_X2_needPerson : GoodIn wsX2_isAlive wsX2_needPerson := goodIn_ca (goodIn_r _ [7, 8, 9, 1, 10, 11, 12, 13, 14, 15, 16, 17, 18, 19, 20, 21, 22, 23, 24] (by decide +kernel) (by decide +kernel)) (goodIn_sub (fun _ h => List.mem_cons_of_mem _ (List.mem_append_right _ h)) (by decide +kernel))
set_option maxRecDepth 20000 in
theorem gX2_isAlive_X2_needPerson : GoodIn wsX2_isAlive (wsV RX2 46 RX2 yX2_needPerson wsX2_needPerson) := goodIn_app (goodIn_of _ (by decide +kernel)) ggX2_isAlive_X2_needPerson
theorem dX2_isAlive_0 : decode cX2_isAlive 0 = .ok (.aload_n 0, 1) := by decide +kernel
theorem dX2_isAlive_1 : decode cX2_isAlive 1 = .ok (.iload_n 1, 1) := by decide +kernel
theorem dX2_isAlive_2 : decode cX2_isAlive 2 = .ok (.invokevirtual 46, 3) := by decide +kernel
theorem dX2_isAlive_5 : decode cX2_isAlive 5 = .ok (.aload_n 0, 1) := by decide +kernel
theorem dX2_isAlive_6 : decode cX2_isAlive 6 = .ok (.getfield 12, 3) := by decide +kernel
theorem dX2_isAlive_9 : decode cX2_isAlive 9 = .ok (.getfield 101, 3) := by decide +kernel
theorem dX2_isAlive_12 : decode cX2_isAlive 12 = .ok (.iload_n 1, 1) := by decide +kernel
theorem dX2_isAlive_13 : decode cX2_isAlive 13 = .ok (.baload, 1) := by decide +kernel
theorem dX2_isAlive_14 : decode cX2_isAlive 14 = .ok (.ireturn, 1) := by decide +kernel
set_option maxRecDepth 20000 in
theorem ggX2_parentOf_X2_needPerson : GoodIn wsX2_parentOf wsX2_needPerson := goodIn_ca (goodIn_r _ [7, 8, 9, 1, 10, 11, 12, 13, 14, 15, 16, 17, 18, 19, 20, 21, 22, 23, 24] (by decide +kernel) (by decide +kernel)) (goodIn_sub (fun _ h => List.mem_cons_of_mem _ (List.mem_append_right _ h)) (by decide +kernel))
set_option maxRecDepth 20000 in
theorem gX2_parentOf_X2_needPerson : GoodIn wsX2_parentOf (wsV RX2 46 RX2 yX2_needPerson wsX2_needPerson) := goodIn_app (goodIn_of _ (by decide +kernel)) ggX2_parentOf_X2_needPerson
theorem dX2_parentOf_0 : decode cX2_parentOf 0 = .ok (.aload_n 0, 1) := by decide +kernel
theorem dX2_parentOf_1 : decode cX2_parentOf 1 = .ok (.iload_n 1, 1) := by decide +kernel
theorem dX2_parentOf_2 : decode cX2_parentOf 2 = .ok (.invokevirtual 46, 3) := by decide +kernel
theorem dX2_parentOf_5 : decode cX2_parentOf 5 = .ok (.aload_n 0, 1) := by decide +kernel
theorem dX2_parentOf_6 : decode cX2_parentOf 6 = .ok (.getfield 12, 3) := by decide +kernel
theorem dX2_parentOf_9 : decode cX2_parentOf 9 = .ok (.getfield 147, 3) := by decide +kernel
theorem dX2_parentOf_12 : decode cX2_parentOf 12 = .ok (.iload_n 1, 1) := by decide +kernel
theorem dX2_parentOf_13 : decode cX2_parentOf 13 = .ok (.iaload, 1) := by decide +kernel
theorem dX2_parentOf_14 : decode cX2_parentOf 14 = .ok (.ireturn, 1) := by decide +kernel
set_option maxRecDepth 20000 in
theorem ggX2_marriedTo_X2_needPerson : GoodIn wsX2_marriedTo wsX2_needPerson := goodIn_ca (goodIn_r _ [7, 8, 9, 1, 10, 11, 12, 13, 14, 15, 16, 17, 18, 19, 20, 21, 22, 23, 24] (by decide +kernel) (by decide +kernel)) (goodIn_sub (fun _ h => List.mem_cons_of_mem _ (List.mem_append_right _ h)) (by decide +kernel))
set_option maxRecDepth 20000 in
theorem gX2_marriedTo_X2_needPerson : GoodIn wsX2_marriedTo (wsV RX2 46 RX2 yX2_needPerson wsX2_needPerson) := goodIn_app (goodIn_of _ (by decide +kernel)) ggX2_marriedTo_X2_needPerson
theorem dX2_marriedTo_0 : decode cX2_marriedTo 0 = .ok (.aload_n 0, 1) := by decide +kernel
theorem dX2_marriedTo_1 : decode cX2_marriedTo 1 = .ok (.iload_n 1, 1) := by decide +kernel
theorem dX2_marriedTo_2 : decode cX2_marriedTo 2 = .ok (.invokevirtual 46, 3) := by decide +kernel
theorem dX2_marriedTo_5 : decode cX2_marriedTo 5 = .ok (.aload_n 0, 1) := by decide +kernel
theorem dX2_marriedTo_6 : decode cX2_marriedTo 6 = .ok (.getfield 12, 3) := by decide +kernel
theorem dX2_marriedTo_9 : decode cX2_marriedTo 9 = .ok (.getfield 150, 3) := by decide +kernel
theorem dX2_marriedTo_12 : decode cX2_marriedTo 12 = .ok (.iload_n 1, 1) := by decide +kernel
theorem dX2_marriedTo_13 : decode cX2_marriedTo 13 = .ok (.iaload, 1) := by decide +kernel
theorem dX2_marriedTo_14 : decode cX2_marriedTo 14 = .ok (.ireturn, 1) := by decide +kernel
set_option maxRecDepth 20000 in
theorem ggX2_degreeOf_X2_needPerson : GoodIn wsX2_degreeOf wsX2_needPerson := goodIn_ca (goodIn_r _ [7, 8, 9, 1, 10, 32, 33, 34, 35, 36, 37, 38, 39, 40, 41, 42, 43, 44, 45] (by decide +kernel) (by decide +kernel)) (goodIn_sub (fun _ h => List.mem_cons_of_mem _ (List.mem_append_right _ h)) (by decide +kernel))
set_option maxRecDepth 20000 in
theorem gX2_degreeOf_X2_needPerson : GoodIn wsX2_degreeOf (wsV RX2 46 RX2 yX2_needPerson wsX2_needPerson) := goodIn_app (goodIn_of _ (by decide +kernel)) ggX2_degreeOf_X2_needPerson
set_option maxRecDepth 20000 in
theorem ggX2_degreeOf_X1_findDegrees : GoodIn wsX2_degreeOf wsX1_findDegrees := goodIn_r _ [15, 16, 17, 18, 19, 20, 21, 22, 23, 24, 14, 25, 26, 27, 28, 29, 30, 31, 41, 42, 43, 44, 45] (by decide +kernel) (by decide +kernel)
set_option maxRecDepth 20000 in
theorem gX2_degreeOf_X1_findDegrees : GoodIn wsX2_degreeOf (wsV RX2 68 RX1 yX1_findDegrees wsX1_findDegrees) := goodIn_app (goodIn_of _ (by decide +kernel)) ggX2_degreeOf_X1_findDegrees
theorem dX2_degreeOf_0 : decode cX2_degreeOf 0 = .ok (.aload_n 0, 1) := by decide +kernel
theorem dX2_degreeOf_1 : decode cX2_degreeOf 1 = .ok (.iload_n 1, 1) := by decide +kernel
theorem dX2_degreeOf_2 : decode cX2_degreeOf 2 = .ok (.invokevirtual 46, 3) := by decide +kernel
theorem dX2_degreeOf_5 : decode cX2_degreeOf 5 = .ok (.aload_n 0, 1) := by decide +kernel
theorem dX2_degreeOf_6 : decode cX2_degreeOf 6 = .ok (.iload_n 2, 1) := by decide +kernel
theorem dX2_degreeOf_7 : decode cX2_degreeOf 7 = .ok (.invokevirtual 46, 3) := by decide +kernel
theorem dX2_degreeOf_10 : decode cX2_degreeOf 10 = .ok (.aload_n 0, 1) := by decide +kernel
theorem dX2_degreeOf_11 : decode cX2_degreeOf 11 = .ok (.getfield 12, 3) := by decide +kernel
theorem dX2_degreeOf_14 : decode cX2_degreeOf 14 = .ok (.iload_n 1, 1) := by decide +kernel
theorem dX2_degreeOf_15 : decode cX2_degreeOf 15 = .ok (.invokevirtual 68, 3) := by decide +kernel
theorem dX2_degreeOf_18 : decode cX2_degreeOf 18 = .ok (.aload_n 0, 1) := by decide +kernel
theorem dX2_degreeOf_19 : decode cX2_degreeOf 19 = .ok (.getfield 12, 3) := by decide +kernel
theorem dX2_degreeOf_22 : decode cX2_degreeOf 22 = .ok (.getfield 71, 3) := by decide +kernel
theorem dX2_degreeOf_25 : decode cX2_degreeOf 25 = .ok (.iload_n 2, 1) := by decide +kernel
theorem dX2_degreeOf_26 : decode cX2_degreeOf 26 = .ok (.iaload, 1) := by decide +kernel
theorem dX2_degreeOf_27 : decode cX2_degreeOf 27 = .ok (.ireturn, 1) := by decide +kernel
set_option maxRecDepth 20000 in
theorem ggX2_kinOf_X2_needPerson : GoodIn wsX2_kinOf wsX2_needPerson := goodIn_ca (goodIn_r _ [6, 7, 8, 1, 9, 40, 41, 42, 43, 44, 45, 46, 47, 48, 49, 50, 51, 52, 53] (by decide +kernel) (by decide +kernel)) (goodIn_sub (fun _ h => List.mem_cons_of_mem _ (List.mem_append_right _ h)) (by decide +kernel))
set_option maxRecDepth 20000 in
theorem gX2_kinOf_X2_needPerson : GoodIn wsX2_kinOf (wsV RX2 46 RX2 yX2_needPerson wsX2_needPerson) := goodIn_app (goodIn_of _ (by decide +kernel)) ggX2_kinOf_X2_needPerson
set_option maxRecDepth 20000 in
theorem ggX2_kinOf_X2_needDegree : GoodIn wsX2_kinOf wsX2_needDegree := goodIn_ca (goodIn_r _ [13, 7, 8] (by decide +kernel) (by decide +kernel)) (goodIn_sub (fun _ h => List.mem_cons_of_mem _ (List.mem_append_right _ h)) (by decide +kernel))
set_option maxRecDepth 20000 in
theorem gX2_kinOf_X2_needDegree : GoodIn wsX2_kinOf (wsV RX2 153 RX2 yX2_needDegree wsX2_needDegree) := goodIn_app (goodIn_of _ (by decide +kernel)) ggX2_kinOf_X2_needDegree
set_option maxRecDepth 20000 in
theorem ggX2_kinOf_X1_findDegrees : GoodIn wsX2_kinOf wsX1_findDegrees := goodIn_r _ [18, 19, 20, 21, 22, 23, 24, 25, 26, 27, 17, 28, 29, 30, 31, 32, 33, 34, 49, 50, 51, 52, 53] (by decide +kernel) (by decide +kernel)
set_option maxRecDepth 20000 in
theorem gX2_kinOf_X1_findDegrees : GoodIn wsX2_kinOf (wsV RX2 68 RX1 yX1_findDegrees wsX1_findDegrees) := goodIn_app (goodIn_of _ (by decide +kernel)) ggX2_kinOf_X1_findDegrees
set_option maxRecDepth 20000 in
theorem ggX2_kinOf_X1_countKin : GoodIn wsX2_kinOf wsX1_countKin := goodIn_r _ [38, 20, 39, 19, 49, 50, 51, 52, 53] (by decide +kernel) (by decide +kernel)
set_option maxRecDepth 20000 in
theorem gX2_kinOf_X1_countKin : GoodIn wsX2_kinOf (wsV RX2 156 RX1 yX1_countKin wsX1_countKin) := goodIn_app (goodIn_of _ (by decide +kernel)) ggX2_kinOf_X1_countKin
theorem dX2_kinOf_0 : decode cX2_kinOf 0 = .ok (.aload_n 0, 1) := by decide +kernel
theorem dX2_kinOf_1 : decode cX2_kinOf 1 = .ok (.iload_n 1, 1) := by decide +kernel
theorem dX2_kinOf_2 : decode cX2_kinOf 2 = .ok (.invokevirtual 46, 3) := by decide +kernel
theorem dX2_kinOf_5 : decode cX2_kinOf 5 = .ok (.aload_n 0, 1) := by decide +kernel
theorem dX2_kinOf_6 : decode cX2_kinOf 6 = .ok (.iload_n 2, 1) := by decide +kernel
theorem dX2_kinOf_7 : decode cX2_kinOf 7 = .ok (.invokevirtual 153, 3) := by decide +kernel
theorem dX2_kinOf_10 : decode cX2_kinOf 10 = .ok (.aload_n 0, 1) := by decide +kernel
theorem dX2_kinOf_11 : decode cX2_kinOf 11 = .ok (.getfield 12, 3) := by decide +kernel
theorem dX2_kinOf_14 : decode cX2_kinOf 14 = .ok (.iload_n 1, 1) := by decide +kernel
theorem dX2_kinOf_15 : decode cX2_kinOf 15 = .ok (.invokevirtual 68, 3) := by decide +kernel
theorem dX2_kinOf_18 : decode cX2_kinOf 18 = .ok (.aload_n 0, 1) := by decide +kernel
theorem dX2_kinOf_19 : decode cX2_kinOf 19 = .ok (.getfield 12, 3) := by decide +kernel
theorem dX2_kinOf_22 : decode cX2_kinOf 22 = .ok (.iload_n 2, 1) := by decide +kernel
theorem dX2_kinOf_23 : decode cX2_kinOf 23 = .ok (.invokevirtual 156, 3) := by decide +kernel
theorem dX2_kinOf_26 : decode cX2_kinOf 26 = .ok (.ireturn, 1) := by decide +kernel
set_option maxRecDepth 20000 in
theorem ggX2_stageColour_X2_needStage : GoodIn wsX2_stageColour wsX2_needStage := goodIn_ca (goodIn_r _ [7, 8, 9, 10, 11, 12, 6, 13] (by decide +kernel) (by decide +kernel)) (goodIn_sub (fun _ h => List.mem_cons_of_mem _ (List.mem_append_right _ h)) (by decide +kernel))
set_option maxRecDepth 20000 in
theorem gX2_stageColour_X2_needStage : GoodIn wsX2_stageColour (wsV RX2 77 RX2 yX2_needStage wsX2_needStage) := goodIn_app (goodIn_of _ (by decide +kernel)) ggX2_stageColour_X2_needStage
set_option maxRecDepth 20000 in
theorem ggX2_stageColour_X0_place : GoodIn wsX2_stageColour wsX0_place := goodIn_r _ [17] (by decide +kernel) (by decide +kernel)
set_option maxRecDepth 20000 in
theorem gX2_stageColour_X0_place : GoodIn wsX2_stageColour (va_wsS RX2 87 yX0_place wsX0_place) := goodIn_app (goodIn_of _ (by decide +kernel)) ggX2_stageColour_X0_place
theorem dX2_stageColour_0 : decode cX2_stageColour 0 = .ok (.aload_n 0, 1) := by decide +kernel
theorem dX2_stageColour_1 : decode cX2_stageColour 1 = .ok (.iload_n 1, 1) := by decide +kernel
theorem dX2_stageColour_2 : decode cX2_stageColour 2 = .ok (.iload_n 2, 1) := by decide +kernel
theorem dX2_stageColour_3 : decode cX2_stageColour 3 = .ok (.invokevirtual 77, 3) := by decide +kernel
theorem dX2_stageColour_6 : decode cX2_stageColour 6 = .ok (.aload_n 0, 1) := by decide +kernel
theorem dX2_stageColour_7 : decode cX2_stageColour 7 = .ok (.getfield 19, 3) := by decide +kernel
theorem dX2_stageColour_10 : decode cX2_stageColour 10 = .ok (.getfield 91, 3) := by decide +kernel
theorem dX2_stageColour_13 : decode cX2_stageColour 13 = .ok (.bipush 16, 2) := by decide +kernel
theorem dX2_stageColour_15 : decode cX2_stageColour 15 = .ok (.iload_n 1, 1) := by decide +kernel
theorem dX2_stageColour_16 : decode cX2_stageColour 16 = .ok (.iload_n 2, 1) := by decide +kernel
theorem dX2_stageColour_17 : decode cX2_stageColour 17 = .ok (.invokestatic 87, 3) := by decide +kernel
theorem dX2_stageColour_20 : decode cX2_stageColour 20 = .ok (.iaload, 1) := by decide +kernel
theorem dX2_stageColour_21 : decode cX2_stageColour 21 = .ok (.ireturn, 1) := by decide +kernel
set_option maxRecDepth 20000 in
theorem ggX2_stageDays_X2_needStage : GoodIn wsX2_stageDays wsX2_needStage := goodIn_ca (goodIn_r _ [7, 8, 9, 10, 11, 12, 6, 13] (by decide +kernel) (by decide +kernel)) (goodIn_sub (fun _ h => List.mem_cons_of_mem _ (List.mem_append_right _ h)) (by decide +kernel))
set_option maxRecDepth 20000 in
theorem gX2_stageDays_X2_needStage : GoodIn wsX2_stageDays (wsV RX2 77 RX2 yX2_needStage wsX2_needStage) := goodIn_app (goodIn_of _ (by decide +kernel)) ggX2_stageDays_X2_needStage
set_option maxRecDepth 20000 in
theorem ggX2_stageDays_X0_place : GoodIn wsX2_stageDays wsX0_place := goodIn_r _ [17] (by decide +kernel) (by decide +kernel)
set_option maxRecDepth 20000 in
theorem gX2_stageDays_X0_place : GoodIn wsX2_stageDays (va_wsS RX2 87 yX0_place wsX0_place) := goodIn_app (goodIn_of _ (by decide +kernel)) ggX2_stageDays_X0_place
theorem dX2_stageDays_0 : decode cX2_stageDays 0 = .ok (.aload_n 0, 1) := by decide +kernel
theorem dX2_stageDays_1 : decode cX2_stageDays 1 = .ok (.iload_n 1, 1) := by decide +kernel
theorem dX2_stageDays_2 : decode cX2_stageDays 2 = .ok (.iload_n 2, 1) := by decide +kernel
theorem dX2_stageDays_3 : decode cX2_stageDays 3 = .ok (.invokevirtual 77, 3) := by decide +kernel
theorem dX2_stageDays_6 : decode cX2_stageDays 6 = .ok (.aload_n 0, 1) := by decide +kernel
theorem dX2_stageDays_7 : decode cX2_stageDays 7 = .ok (.getfield 19, 3) := by decide +kernel
theorem dX2_stageDays_10 : decode cX2_stageDays 10 = .ok (.getfield 94, 3) := by decide +kernel
theorem dX2_stageDays_13 : decode cX2_stageDays 13 = .ok (.bipush 16, 2) := by decide +kernel
theorem dX2_stageDays_15 : decode cX2_stageDays 15 = .ok (.iload_n 1, 1) := by decide +kernel
theorem dX2_stageDays_16 : decode cX2_stageDays 16 = .ok (.iload_n 2, 1) := by decide +kernel
theorem dX2_stageDays_17 : decode cX2_stageDays 17 = .ok (.invokestatic 87, 3) := by decide +kernel
theorem dX2_stageDays_20 : decode cX2_stageDays 20 = .ok (.iaload, 1) := by decide +kernel
theorem dX2_stageDays_21 : decode cX2_stageDays 21 = .ok (.ireturn, 1) := by decide +kernel
theorem dX2_day_0 : decode cX2_day 0 = .ok (.aload_n 0, 1) := by decide +kernel
theorem dX2_day_1 : decode cX2_day 1 = .ok (.getfield 105, 3) := by decide +kernel
theorem dX2_day_4 : decode cX2_day 4 = .ok (.ireturn, 1) := by decide +kernel
set_option maxRecDepth 20000 in
theorem ggX2_colourOf_X2_needPerson : GoodIn wsX2_colourOf wsX2_needPerson := goodIn_ca (goodIn_r _ [5, 6, 7, 8, 9, 35, 36, 37, 38, 39, 40, 41, 42, 43, 44, 45, 46, 47, 48] (by decide +kernel) (by decide +kernel)) (goodIn_sub (fun _ h => List.mem_cons_of_mem _ (List.mem_append_right _ h)) (by decide +kernel))
set_option maxRecDepth 20000 in
theorem gX2_colourOf_X2_needPerson : GoodIn wsX2_colourOf (wsV RX2 46 RX2 yX2_needPerson wsX2_needPerson) := goodIn_app (goodIn_of _ (by decide +kernel)) ggX2_colourOf_X2_needPerson
set_option maxRecDepth 20000 in
theorem ggX2_colourOf_X2_colourAfter : GoodIn wsX2_colourOf wsX2_colourAfter := goodIn_r _ [13, 8, 9, 14, 15, 16, 17, 18, 19, 20, 21, 22, 23, 4, 24, 25, 26, 27, 28, 29, 30, 31, 32, 33, 34, 35, 36, 37, 38, 39, 40, 41, 42, 43, 44, 45, 46, 47, 48, 49, 50] (by decide +kernel) (by decide +kernel)
set_option maxRecDepth 20000 in
theorem gX2_colourOf_X2_colourAfter : GoodIn wsX2_colourOf (wsV RX2 159 RX2 yX2_colourAfter wsX2_colourAfter) := goodIn_app (goodIn_of _ (by decide +kernel)) ggX2_colourOf_X2_colourAfter
theorem dX2_colourOf_0 : decode cX2_colourOf 0 = .ok (.aload_n 0, 1) := by decide +kernel
theorem dX2_colourOf_1 : decode cX2_colourOf 1 = .ok (.iload_n 1, 1) := by decide +kernel
theorem dX2_colourOf_2 : decode cX2_colourOf 2 = .ok (.invokevirtual 46, 3) := by decide +kernel
theorem dX2_colourOf_5 : decode cX2_colourOf 5 = .ok (.aload_n 0, 1) := by decide +kernel
theorem dX2_colourOf_6 : decode cX2_colourOf 6 = .ok (.iload_n 1, 1) := by decide +kernel
theorem dX2_colourOf_7 : decode cX2_colourOf 7 = .ok (.iconst 0, 1) := by decide +kernel
theorem dX2_colourOf_8 : decode cX2_colourOf 8 = .ok (.invokevirtual 159, 3) := by decide +kernel
theorem dX2_colourOf_11 : decode cX2_colourOf 11 = .ok (.ireturn, 1) := by decide +kernel
set_option maxRecDepth 20000 in
theorem ggX2_colourIn_X2_needPerson : GoodIn wsX2_colourIn wsX2_needPerson := goodIn_ca (goodIn_r _ [7, 8, 9, 10, 11, 37, 38, 39, 40, 41, 42, 43, 44, 45, 46, 47, 48, 49, 50] (by decide +kernel) (by decide +kernel)) (goodIn_sub (fun _ h => List.mem_cons_of_mem _ (List.mem_append_right _ h)) (by decide +kernel))
set_option maxRecDepth 20000 in
theorem gX2_colourIn_X2_needPerson : GoodIn wsX2_colourIn (wsV RX2 46 RX2 yX2_needPerson wsX2_needPerson) := goodIn_app (goodIn_of _ (by decide +kernel)) ggX2_colourIn_X2_needPerson
set_option maxRecDepth 20000 in
theorem ggX2_colourIn_X2_colourAfter : GoodIn wsX2_colourIn wsX2_colourAfter := goodIn_r _ [15, 10, 11, 16, 17, 18, 19, 20, 21, 22, 23, 24, 25, 6, 26, 27, 28, 29, 30, 31, 32, 33, 34, 35, 36, 37, 38, 39, 40, 41, 42, 43, 44, 45, 46, 47, 48, 49, 50, 51, 52] (by decide +kernel) (by decide +kernel)
set_option maxRecDepth 20000 in
theorem gX2_colourIn_X2_colourAfter : GoodIn wsX2_colourIn (wsV RX2 159 RX2 yX2_colourAfter wsX2_colourAfter) := goodIn_app (goodIn_of _ (by decide +kernel)) ggX2_colourIn_X2_colourAfter
theorem dX2_colourIn_0 : decode cX2_colourIn 0 = .ok (.aload_n 0, 1) := by decide +kernel
theorem dX2_colourIn_1 : decode cX2_colourIn 1 = .ok (.iload_n 1, 1) := by decide +kernel
theorem dX2_colourIn_2 : decode cX2_colourIn 2 = .ok (.invokevirtual 46, 3) := by decide +kernel
theorem dX2_colourIn_5 : decode cX2_colourIn 5 = .ok (.iload_n 2, 1) := by decide +kernel
theorem dX2_colourIn_6 : decode cX2_colourIn 6 = .ok (.ifCond .lt 10, 3) := by decide +kernel
theorem dX2_colourIn_9 : decode cX2_colourIn 9 = .ok (.iload_n 2, 1) := by decide +kernel
theorem dX2_colourIn_10 : decode cX2_colourIn 10 = .ok (.sipush 200, 3) := by decide +kernel
theorem dX2_colourIn_13 : decode cX2_colourIn 13 = .ok (.if_icmp .le 13, 3) := by decide +kernel
theorem dX2_colourIn_16 : decode cX2_colourIn 16 = .ok (.new 80, 3) := by decide +kernel
theorem dX2_colourIn_19 : decode cX2_colourIn 19 = .ok (.dup, 1) := by decide +kernel
theorem dX2_colourIn_20 : decode cX2_colourIn 20 = .ok (.ldc 162, 2) := by decide +kernel
theorem dX2_colourIn_22 : decode cX2_colourIn 22 = .ok (.invokespecial 84, 3) := by decide +kernel
theorem dX2_colourIn_25 : decode cX2_colourIn 25 = .ok (.athrow, 1) := by decide +kernel
theorem dX2_colourIn_26 : decode cX2_colourIn 26 = .ok (.aload_n 0, 1) := by decide +kernel
theorem dX2_colourIn_27 : decode cX2_colourIn 27 = .ok (.iload_n 1, 1) := by decide +kernel
theorem dX2_colourIn_28 : decode cX2_colourIn 28 = .ok (.iload_n 2, 1) := by decide +kernel
theorem dX2_colourIn_29 : decode cX2_colourIn 29 = .ok (.invokevirtual 159, 3) := by decide +kernel
theorem dX2_colourIn_32 : decode cX2_colourIn 32 = .ok (.ireturn, 1) := by decide +kernel
set_option maxRecDepth 20000 in
theorem ggX2_mourningsOf_X2_needPerson : GoodIn wsX2_mourningsOf wsX2_needPerson := goodIn_ca (goodIn_r _ [5, 6, 7, 8, 9, 38, 39, 40, 41, 42, 43, 44, 45, 46, 47, 48, 49, 50, 51] (by decide +kernel) (by decide +kernel)) (goodIn_sub (fun _ h => List.mem_cons_of_mem _ (List.mem_append_right _ h)) (by decide +kernel))
set_option maxRecDepth 20000 in
theorem gX2_mourningsOf_X2_needPerson : GoodIn wsX2_mourningsOf (wsV RX2 46 RX2 yX2_needPerson wsX2_needPerson) := goodIn_app (goodIn_of _ (by decide +kernel)) ggX2_mourningsOf_X2_needPerson
set_option maxRecDepth 20000 in
theorem ggX2_mourningsOf_X2_countMournings : GoodIn wsX2_mourningsOf wsX2_countMournings := goodIn_r _ [13, 8, 9, 14, 15, 16, 4, 17, 18, 19, 20, 21, 22, 23, 24, 25, 26, 27, 28, 29, 30, 31, 32, 33, 34, 35, 36, 37, 38, 39, 40, 41, 42, 43, 44, 45, 46, 47, 48, 49, 50, 51, 52, 53] (by decide +kernel) (by decide +kernel)
set_option maxRecDepth 20000 in
theorem gX2_mourningsOf_X2_countMournings : GoodIn wsX2_mourningsOf (wsV RX2 164 RX2 yX2_countMournings wsX2_countMournings) := goodIn_app (goodIn_of _ (by decide +kernel)) ggX2_mourningsOf_X2_countMournings
theorem dX2_mourningsOf_0 : decode cX2_mourningsOf 0 = .ok (.aload_n 0, 1) := by decide +kernel
theorem dX2_mourningsOf_1 : decode cX2_mourningsOf 1 = .ok (.iload_n 1, 1) := by decide +kernel
theorem dX2_mourningsOf_2 : decode cX2_mourningsOf 2 = .ok (.invokevirtual 46, 3) := by decide +kernel
theorem dX2_mourningsOf_5 : decode cX2_mourningsOf 5 = .ok (.aload_n 0, 1) := by decide +kernel
theorem dX2_mourningsOf_6 : decode cX2_mourningsOf 6 = .ok (.iload_n 1, 1) := by decide +kernel
theorem dX2_mourningsOf_7 : decode cX2_mourningsOf 7 = .ok (.invokevirtual 164, 3) := by decide +kernel
theorem dX2_mourningsOf_10 : decode cX2_mourningsOf 10 = .ok (.ireturn, 1) := by decide +kernel
set_option maxRecDepth 20000 in
theorem ggX2_daysLeftFor_X2_needPerson : GoodIn wsX2_daysLeftFor wsX2_needPerson := goodIn_ca (goodIn_r _ [5, 6, 7, 8, 9, 34, 35, 36, 37, 38, 39, 40, 41, 42, 43, 44, 45, 46, 47] (by decide +kernel) (by decide +kernel)) (goodIn_sub (fun _ h => List.mem_cons_of_mem _ (List.mem_append_right _ h)) (by decide +kernel))
set_option maxRecDepth 20000 in
theorem gX2_daysLeftFor_X2_needPerson : GoodIn wsX2_daysLeftFor (wsV RX2 46 RX2 yX2_needPerson wsX2_needPerson) := goodIn_app (goodIn_of _ (by decide +kernel)) ggX2_daysLeftFor_X2_needPerson
set_option maxRecDepth 20000 in
theorem ggX2_daysLeftFor_X2_leftFor : GoodIn wsX2_daysLeftFor wsX2_leftFor := goodIn_r _ [13, 14, 15, 16, 17, 18, 19, 20, 21, 22, 23, 4, 24, 25, 26, 27, 28, 29, 30, 31, 32, 33, 34, 35, 36, 37, 38, 39, 40, 41, 42, 48, 49] (by decide +kernel) (by decide +kernel)
set_option maxRecDepth 20000 in
theorem gX2_daysLeftFor_X2_leftFor : GoodIn wsX2_daysLeftFor (wsV RX2 118 RX2 yX2_leftFor wsX2_leftFor) := goodIn_app (goodIn_of _ (by decide +kernel)) ggX2_daysLeftFor_X2_leftFor
theorem dX2_daysLeftFor_0 : decode cX2_daysLeftFor 0 = .ok (.aload_n 0, 1) := by decide +kernel
theorem dX2_daysLeftFor_1 : decode cX2_daysLeftFor 1 = .ok (.iload_n 1, 1) := by decide +kernel
theorem dX2_daysLeftFor_2 : decode cX2_daysLeftFor 2 = .ok (.invokevirtual 46, 3) := by decide +kernel
theorem dX2_daysLeftFor_5 : decode cX2_daysLeftFor 5 = .ok (.aload_n 0, 1) := by decide +kernel
theorem dX2_daysLeftFor_6 : decode cX2_daysLeftFor 6 = .ok (.iload_n 2, 1) := by decide +kernel
theorem dX2_daysLeftFor_7 : decode cX2_daysLeftFor 7 = .ok (.invokevirtual 46, 3) := by decide +kernel
theorem dX2_daysLeftFor_10 : decode cX2_daysLeftFor 10 = .ok (.aload_n 0, 1) := by decide +kernel
theorem dX2_daysLeftFor_11 : decode cX2_daysLeftFor 11 = .ok (.iload_n 1, 1) := by decide +kernel
theorem dX2_daysLeftFor_12 : decode cX2_daysLeftFor 12 = .ok (.iload_n 2, 1) := by decide +kernel
theorem dX2_daysLeftFor_13 : decode cX2_daysLeftFor 13 = .ok (.invokevirtual 118, 3) := by decide +kernel
theorem dX2_daysLeftFor_16 : decode cX2_daysLeftFor 16 = .ok (.ireturn, 1) := by decide +kernel
set_option maxRecDepth 20000 in
theorem ggX2_daysLeft_X2_needPerson : GoodIn wsX2_daysLeft wsX2_needPerson := goodIn_ca (goodIn_r _ [5, 6, 7, 8, 9, 38, 39, 40, 41, 42, 43, 44, 45, 46, 47, 48, 49, 50, 51] (by decide +kernel) (by decide +kernel)) (goodIn_sub (fun _ h => List.mem_cons_of_mem _ (List.mem_append_right _ h)) (by decide +kernel))
set_option maxRecDepth 20000 in
theorem gX2_daysLeft_X2_needPerson : GoodIn wsX2_daysLeft (wsV RX2 46 RX2 yX2_needPerson wsX2_needPerson) := goodIn_app (goodIn_of _ (by decide +kernel)) ggX2_daysLeft_X2_needPerson
set_option maxRecDepth 20000 in
theorem ggX2_daysLeft_X2_longestLeft : GoodIn wsX2_daysLeft wsX2_longestLeft := goodIn_r _ [13, 8, 9, 14, 15, 16, 17, 18, 19, 20, 4, 21, 22, 23, 24, 25, 26, 27, 28, 29, 30, 31, 32, 33, 34, 35, 36, 37, 38, 39, 40, 41, 42, 43, 44, 45, 46, 47, 48, 49, 50, 51, 52, 53] (by decide +kernel) (by decide +kernel)
set_option maxRecDepth 20000 in
theorem gX2_daysLeft_X2_longestLeft : GoodIn wsX2_daysLeft (wsV RX2 167 RX2 yX2_longestLeft wsX2_longestLeft) := goodIn_app (goodIn_of _ (by decide +kernel)) ggX2_daysLeft_X2_longestLeft
theorem dX2_daysLeft_0 : decode cX2_daysLeft 0 = .ok (.aload_n 0, 1) := by decide +kernel
theorem dX2_daysLeft_1 : decode cX2_daysLeft 1 = .ok (.iload_n 1, 1) := by decide +kernel
theorem dX2_daysLeft_2 : decode cX2_daysLeft 2 = .ok (.invokevirtual 46, 3) := by decide +kernel
theorem dX2_daysLeft_5 : decode cX2_daysLeft 5 = .ok (.aload_n 0, 1) := by decide +kernel
theorem dX2_daysLeft_6 : decode cX2_daysLeft 6 = .ok (.iload_n 1, 1) := by decide +kernel
theorem dX2_daysLeft_7 : decode cX2_daysLeft 7 = .ok (.invokevirtual 167, 3) := by decide +kernel
theorem dX2_daysLeft_10 : decode cX2_daysLeft 10 = .ok (.ireturn, 1) := by decide +kernel
set_option maxRecDepth 20000 in
theorem ggX2_daysUntilLighter_X2_needPerson : GoodIn wsX2_daysUntilLighter wsX2_needPerson := goodIn_ca (goodIn_r _ [5, 6, 7, 8, 9, 55, 56, 57, 58, 59, 60, 61, 62, 63, 64, 65, 66, 67, 68] (by decide +kernel) (by decide +kernel)) (goodIn_sub (fun _ h => List.mem_cons_of_mem _ (List.mem_append_right _ h)) (by decide +kernel))
set_option maxRecDepth 20000 in
theorem gX2_daysUntilLighter_X2_needPerson : GoodIn wsX2_daysUntilLighter (wsV RX2 46 RX2 yX2_needPerson wsX2_needPerson) := goodIn_app (goodIn_of _ (by decide +kernel)) ggX2_daysUntilLighter_X2_needPerson
set_option maxRecDepth 20000 in
theorem ggX2_daysUntilLighter_X2_paintAhead : GoodIn wsX2_daysUntilLighter wsX2_paintAhead := goodIn_r _ [13, 14, 8, 9, 15, 16, 17, 18, 19, 20, 21, 22, 23, 24, 25, 26, 27, 28, 29, 30, 31, 4, 32, 33, 34, 35, 36, 37, 38, 39, 40, 41, 42, 43, 44, 45, 46, 47, 48, 49, 50, 55, 56, 57, 58, 59, 60, 61, 62, 63, 64, 65, 66, 67, 68, 69, 70] (by decide +kernel) (by decide +kernel)
set_option maxRecDepth 20000 in
theorem gX2_daysUntilLighter_X2_paintAhead : GoodIn wsX2_daysUntilLighter (wsV RX2 131 RX2 yX2_paintAhead wsX2_paintAhead) := goodIn_app (goodIn_of _ (by decide +kernel)) ggX2_daysUntilLighter_X2_paintAhead
set_option maxRecDepth 20000 in
theorem ggX2_daysUntilLighter_X2_firstLighterDay : GoodIn wsX2_daysUntilLighter wsX2_firstLighterDay := goodIn_r _ [54, 14, 55, 56, 57, 58, 59, 60, 61, 62, 63] (by decide +kernel) (by decide +kernel)
set_option maxRecDepth 20000 in
theorem gX2_daysUntilLighter_X2_firstLighterDay : GoodIn wsX2_daysUntilLighter (wsV RX2 170 RX2 yX2_firstLighterDay wsX2_firstLighterDay) := goodIn_app (goodIn_of _ (by decide +kernel)) ggX2_daysUntilLighter_X2_firstLighterDay
theorem dX2_daysUntilLighter_0 : decode cX2_daysUntilLighter 0 = .ok (.aload_n 0, 1) := by decide +kernel
theorem dX2_daysUntilLighter_1 : decode cX2_daysUntilLighter 1 = .ok (.iload_n 1, 1) := by decide +kernel
theorem dX2_daysUntilLighter_2 : decode cX2_daysUntilLighter 2 = .ok (.invokevirtual 46, 3) := by decide +kernel
theorem dX2_daysUntilLighter_5 : decode cX2_daysUntilLighter 5 = .ok (.aload_n 0, 1) := by decide +kernel
theorem dX2_daysUntilLighter_6 : decode cX2_daysUntilLighter 6 = .ok (.iload_n 1, 1) := by decide +kernel
theorem dX2_daysUntilLighter_7 : decode cX2_daysUntilLighter 7 = .ok (.invokevirtual 131, 3) := by decide +kernel
theorem dX2_daysUntilLighter_10 : decode cX2_daysUntilLighter 10 = .ok (.aload_n 0, 1) := by decide +kernel
theorem dX2_daysUntilLighter_11 : decode cX2_daysUntilLighter 11 = .ok (.invokevirtual 170, 3) := by decide +kernel
theorem dX2_daysUntilLighter_14 : decode cX2_daysUntilLighter 14 = .ok (.ireturn, 1) := by decide +kernel
set_option maxRecDepth 20000 in
theorem ggX2_daysIn_X2_needPerson : GoodIn wsX2_daysIn wsX2_needPerson := goodIn_ca (goodIn_r _ [7, 1, 2, 8, 9, 55, 56, 57, 58, 59, 60, 61, 62, 63, 64, 65, 66, 67, 68] (by decide +kernel) (by decide +kernel)) (goodIn_sub (fun _ h => List.mem_cons_of_mem _ (List.mem_append_right _ h)) (by decide +kernel))
set_option maxRecDepth 20000 in
theorem gX2_daysIn_X2_needPerson : GoodIn wsX2_daysIn (wsV RX2 46 RX2 yX2_needPerson wsX2_needPerson) := goodIn_app (goodIn_of _ (by decide +kernel)) ggX2_daysIn_X2_needPerson
set_option maxRecDepth 20000 in
theorem ggX2_daysIn_X2_paintAhead : GoodIn wsX2_daysIn wsX2_paintAhead := goodIn_r _ [13, 14, 8, 9, 15, 16, 17, 18, 19, 20, 21, 22, 23, 24, 25, 26, 27, 28, 29, 30, 31, 6, 32, 33, 34, 35, 36, 37, 38, 39, 40, 41, 42, 43, 44, 45, 46, 47, 48, 49, 50, 55, 56, 57, 58, 59, 60, 61, 62, 63, 64, 65, 66, 67, 68, 69, 70] (by decide +kernel) (by decide +kernel)
set_option maxRecDepth 20000 in
theorem gX2_daysIn_X2_paintAhead : GoodIn wsX2_daysIn (wsV RX2 131 RX2 yX2_paintAhead wsX2_paintAhead) := goodIn_app (goodIn_of _ (by decide +kernel)) ggX2_daysIn_X2_paintAhead
set_option maxRecDepth 20000 in
theorem ggX2_daysIn_X2_countAhead : GoodIn wsX2_daysIn wsX2_countAhead := goodIn_r _ [54, 14, 55, 56, 57, 58, 59, 60, 61, 62, 63] (by decide +kernel) (by decide +kernel)
set_option maxRecDepth 20000 in
theorem gX2_daysIn_X2_countAhead : GoodIn wsX2_daysIn (wsV RX2 178 RX2 yX2_countAhead wsX2_countAhead) := goodIn_app (goodIn_of _ (by decide +kernel)) ggX2_daysIn_X2_countAhead
theorem dX2_daysIn_0 : decode cX2_daysIn 0 = .ok (.aload_n 0, 1) := by decide +kernel
theorem dX2_daysIn_1 : decode cX2_daysIn 1 = .ok (.iload_n 1, 1) := by decide +kernel
theorem dX2_daysIn_2 : decode cX2_daysIn 2 = .ok (.invokevirtual 46, 3) := by decide +kernel
theorem dX2_daysIn_5 : decode cX2_daysIn 5 = .ok (.iload_n 2, 1) := by decide +kernel
theorem dX2_daysIn_6 : decode cX2_daysIn 6 = .ok (.ifCond .le 8, 3) := by decide +kernel
theorem dX2_daysIn_9 : decode cX2_daysIn 9 = .ok (.iload_n 2, 1) := by decide +kernel
theorem dX2_daysIn_10 : decode cX2_daysIn 10 = .ok (.iconst 5, 1) := by decide +kernel
theorem dX2_daysIn_11 : decode cX2_daysIn 11 = .ok (.if_icmp .le 13, 3) := by decide +kernel
theorem dX2_daysIn_14 : decode cX2_daysIn 14 = .ok (.new 173, 3) := by decide +kernel
theorem dX2_daysIn_17 : decode cX2_daysIn 17 = .ok (.dup, 1) := by decide +kernel
theorem dX2_daysIn_18 : decode cX2_daysIn 18 = .ok (.ldc 175, 2) := by decide +kernel
theorem dX2_daysIn_20 : decode cX2_daysIn 20 = .ok (.invokespecial 177, 3) := by decide +kernel
theorem dX2_daysIn_23 : decode cX2_daysIn 23 = .ok (.athrow, 1) := by decide +kernel
theorem dX2_daysIn_24 : decode cX2_daysIn 24 = .ok (.aload_n 0, 1) := by decide +kernel
theorem dX2_daysIn_25 : decode cX2_daysIn 25 = .ok (.iload_n 1, 1) := by decide +kernel
theorem dX2_daysIn_26 : decode cX2_daysIn 26 = .ok (.invokevirtual 131, 3) := by decide +kernel
theorem dX2_daysIn_29 : decode cX2_daysIn 29 = .ok (.aload_n 0, 1) := by decide +kernel
theorem dX2_daysIn_30 : decode cX2_daysIn 30 = .ok (.iload_n 2, 1) := by decide +kernel
theorem dX2_daysIn_31 : decode cX2_daysIn 31 = .ok (.invokevirtual 178, 3) := by decide +kernel
theorem dX2_daysIn_34 : decode cX2_daysIn 34 = .ok (.ireturn, 1) := by decide +kernel
set_option maxRecDepth 20000 in
theorem ggX2_wearing_X2_countWearing : GoodIn wsX2_wearing wsX2_countWearing := goodIn_r _ [7, 8, 9, 10, 11, 12, 13, 6, 14, 15, 16, 17, 18, 19, 20, 21, 22, 23, 24, 25, 26, 27, 28, 29, 30, 31, 32, 33, 34, 35, 36, 37, 38, 39, 40, 41, 42, 43, 44, 45, 46, 47, 48, 49, 50, 51] (by decide +kernel) (by decide +kernel)
set_option maxRecDepth 20000 in
theorem gX2_wearing_X2_countWearing : GoodIn wsX2_wearing (wsV RX2 144 RX2 yX2_countWearing wsX2_countWearing) := goodIn_app (goodIn_of _ (by decide +kernel)) ggX2_wearing_X2_countWearing
theorem dX2_wearing_0 : decode cX2_wearing 0 = .ok (.iload_n 1, 1) := by decide +kernel
theorem dX2_wearing_1 : decode cX2_wearing 1 = .ok (.ifCond .lt 8, 3) := by decide +kernel
theorem dX2_wearing_4 : decode cX2_wearing 4 = .ok (.iload_n 1, 1) := by decide +kernel
theorem dX2_wearing_5 : decode cX2_wearing 5 = .ok (.iconst 5, 1) := by decide +kernel
theorem dX2_wearing_6 : decode cX2_wearing 6 = .ok (.if_icmp .le 13, 3) := by decide +kernel
theorem dX2_wearing_9 : decode cX2_wearing 9 = .ok (.new 173, 3) := by decide +kernel
theorem dX2_wearing_12 : decode cX2_wearing 12 = .ok (.dup, 1) := by decide +kernel
theorem dX2_wearing_13 : decode cX2_wearing 13 = .ok (.ldc 82, 2) := by decide +kernel
theorem dX2_wearing_15 : decode cX2_wearing 15 = .ok (.invokespecial 177, 3) := by decide +kernel
theorem dX2_wearing_18 : decode cX2_wearing 18 = .ok (.athrow, 1) := by decide +kernel
theorem dX2_wearing_19 : decode cX2_wearing 19 = .ok (.aload_n 0, 1) := by decide +kernel
theorem dX2_wearing_20 : decode cX2_wearing 20 = .ok (.iload_n 1, 1) := by decide +kernel
theorem dX2_wearing_21 : decode cX2_wearing 21 = .ok (.invokevirtual 144, 3) := by decide +kernel
theorem dX2_wearing_24 : decode cX2_wearing 24 = .ok (.ireturn, 1) := by decide +kernel
set_option maxRecDepth 20000 in
theorem ggX2_strictest_X2_colourAfter : GoodIn wsX2_strictest wsX2_colourAfter := goodIn_r _ [11, 1, 2, 12, 13, 14, 15, 3, 4, 5, 6, 16, 17, 10, 18, 19, 20, 21, 22, 23, 24, 25, 26, 27, 28, 29, 30, 31, 32, 33, 34, 35, 36, 37, 38, 39, 40, 41, 42, 43, 44] (by decide +kernel) (by decide +kernel)
set_option maxRecDepth 20000 in
theorem gX2_strictest_X2_colourAfter : GoodIn wsX2_strictest (wsV RX2 159 RX2 yX2_colourAfter wsX2_colourAfter) := goodIn_app (goodIn_of _ (by decide +kernel)) ggX2_strictest_X2_colourAfter
theorem dX2_strictest_0 : decode cX2_strictest 0 = .ok (.iconst 0, 1) := by decide +kernel
theorem dX2_strictest_1 : decode cX2_strictest 1 = .ok (.istore_n 1, 1) := by decide +kernel
theorem dX2_strictest_2 : decode cX2_strictest 2 = .ok (.iconst 0, 1) := by decide +kernel
theorem dX2_strictest_3 : decode cX2_strictest 3 = .ok (.istore_n 2, 1) := by decide +kernel
theorem dX2_strictest_4 : decode cX2_strictest 4 = .ok (.iload_n 2, 1) := by decide +kernel
theorem dX2_strictest_5 : decode cX2_strictest 5 = .ok (.aload_n 0, 1) := by decide +kernel
theorem dX2_strictest_6 : decode cX2_strictest 6 = .ok (.getfield 12, 3) := by decide +kernel
theorem dX2_strictest_9 : decode cX2_strictest 9 = .ok (.getfield 128, 3) := by decide +kernel
theorem dX2_strictest_12 : decode cX2_strictest 12 = .ok (.if_icmp .ge 20, 3) := by decide +kernel
theorem dX2_strictest_15 : decode cX2_strictest 15 = .ok (.iload_n 1, 1) := by decide +kernel
theorem dX2_strictest_16 : decode cX2_strictest 16 = .ok (.aload_n 0, 1) := by decide +kernel
theorem dX2_strictest_17 : decode cX2_strictest 17 = .ok (.iload_n 2, 1) := by decide +kernel
theorem dX2_strictest_18 : decode cX2_strictest 18 = .ok (.iconst 0, 1) := by decide +kernel
theorem dX2_strictest_19 : decode cX2_strictest 19 = .ok (.invokevirtual 159, 3) := by decide +kernel
theorem dX2_strictest_22 : decode cX2_strictest 22 = .ok (.invokestatic 181, 3) := by decide +kernel
theorem dX2_strictest_25 : decode cX2_strictest 25 = .ok (.istore_n 1, 1) := by decide +kernel
theorem dX2_strictest_26 : decode cX2_strictest 26 = .ok (.iinc 2 1, 3) := by decide +kernel
theorem dX2_strictest_29 : decode cX2_strictest 29 = .ok (.goto (-25), 3) := by decide +kernel
theorem dX2_strictest_32 : decode cX2_strictest 32 = .ok (.iload_n 1, 1) := by decide +kernel
theorem dX2_strictest_33 : decode cX2_strictest 33 = .ok (.ireturn, 1) := by decide +kernel
set_option maxRecDepth 20000 in
theorem ggX2_longestMourner_X2_longestLeft : GoodIn wsX2_longestMourner wsX2_longestLeft := goodIn_r _ [7, 1, 2, 8, 9, 10, 11, 12, 13, 14, 6, 15, 16, 17, 18, 19, 20, 21, 22, 23, 24, 25, 26, 27, 28, 29, 30, 31, 32, 33, 34, 35, 36, 37, 38, 39, 40, 41, 42, 43, 44, 45, 46, 47] (by decide +kernel) (by decide +kernel)
set_option maxRecDepth 20000 in
theorem gX2_longestMourner_X2_longestLeft : GoodIn wsX2_longestMourner (wsV RX2 167 RX2 yX2_longestLeft wsX2_longestLeft) := goodIn_app (goodIn_of _ (by decide +kernel)) ggX2_longestMourner_X2_longestLeft
theorem dX2_longestMourner_0 : decode cX2_longestMourner 0 = .ok (.iconst (-1), 1) := by decide +kernel
theorem dX2_longestMourner_1 : decode cX2_longestMourner 1 = .ok (.istore_n 1, 1) := by decide +kernel
theorem dX2_longestMourner_2 : decode cX2_longestMourner 2 = .ok (.iconst 0, 1) := by decide +kernel
theorem dX2_longestMourner_3 : decode cX2_longestMourner 3 = .ok (.istore_n 2, 1) := by decide +kernel
theorem dX2_longestMourner_4 : decode cX2_longestMourner 4 = .ok (.iconst 0, 1) := by decide +kernel
theorem dX2_longestMourner_5 : decode cX2_longestMourner 5 = .ok (.istore_n 3, 1) := by decide +kernel
theorem dX2_longestMourner_6 : decode cX2_longestMourner 6 = .ok (.iload_n 3, 1) := by decide +kernel
theorem dX2_longestMourner_7 : decode cX2_longestMourner 7 = .ok (.aload_n 0, 1) := by decide +kernel
theorem dX2_longestMourner_8 : decode cX2_longestMourner 8 = .ok (.getfield 12, 3) := by decide +kernel
theorem dX2_longestMourner_11 : decode cX2_longestMourner 11 = .ok (.getfield 128, 3) := by decide +kernel
theorem dX2_longestMourner_14 : decode cX2_longestMourner 14 = .ok (.if_icmp .ge 27, 3) := by decide +kernel
theorem dX2_longestMourner_17 : decode cX2_longestMourner 17 = .ok (.aload_n 0, 1) := by decide +kernel
theorem dX2_longestMourner_18 : decode cX2_longestMourner 18 = .ok (.iload_n 3, 1) := by decide +kernel
theorem dX2_longestMourner_19 : decode cX2_longestMourner 19 = .ok (.invokevirtual 167, 3) := by decide +kernel
theorem dX2_longestMourner_22 : decode cX2_longestMourner 22 = .ok (.istore 4, 2) := by decide +kernel
theorem dX2_longestMourner_24 : decode cX2_longestMourner 24 = .ok (.iload 4, 2) := by decide +kernel
theorem dX2_longestMourner_26 : decode cX2_longestMourner 26 = .ok (.iload_n 2, 1) := by decide +kernel
theorem dX2_longestMourner_27 : decode cX2_longestMourner 27 = .ok (.if_icmp .le 8, 3) := by decide +kernel
theorem dX2_longestMourner_30 : decode cX2_longestMourner 30 = .ok (.iload 4, 2) := by decide +kernel
theorem dX2_longestMourner_32 : decode cX2_longestMourner 32 = .ok (.istore_n 2, 1) := by decide +kernel
theorem dX2_longestMourner_33 : decode cX2_longestMourner 33 = .ok (.iload_n 3, 1) := by decide +kernel
theorem dX2_longestMourner_34 : decode cX2_longestMourner 34 = .ok (.istore_n 1, 1) := by decide +kernel
theorem dX2_longestMourner_35 : decode cX2_longestMourner 35 = .ok (.iinc 3 1, 3) := by decide +kernel
theorem dX2_longestMourner_38 : decode cX2_longestMourner 38 = .ok (.goto (-32), 3) := by decide +kernel
theorem dX2_longestMourner_41 : decode cX2_longestMourner 41 = .ok (.iload_n 1, 1) := by decide +kernel
theorem dX2_longestMourner_42 : decode cX2_longestMourner 42 = .ok (.ireturn, 1) := by decide +kernel
theorem dX2_daysWorn_0 : decode cX2_daysWorn 0 = .ok (.aload_n 0, 1) := by decide +kernel
theorem dX2_daysWorn_1 : decode cX2_daysWorn 1 = .ok (.getfield 134, 3) := by decide +kernel
theorem dX2_daysWorn_4 : decode cX2_daysWorn 4 = .ok (.ireturn, 1) := by decide +kernel
set_option maxRecDepth 20000 in
theorem ggX2_wouldMourn_X2_needPerson : GoodIn wsX2_wouldMourn wsX2_needPerson := goodIn_ca (goodIn_r _ [7, 8, 9, 1, 2, 53, 54, 55, 56, 57, 58, 59, 60, 61, 62, 63, 64, 65, 66] (by decide +kernel) (by decide +kernel)) (goodIn_sub (fun _ h => List.mem_cons_of_mem _ (List.mem_append_left _ (List.mem_append_right _ h))) (by decide +kernel))
set_option maxRecDepth 20000 in
theorem gX2_wouldMourn_X2_needPerson : GoodIn wsX2_wouldMourn (wsV RX2 46 RX2 yX2_needPerson wsX2_needPerson) := goodIn_app (goodIn_of _ (by decide +kernel)) ggX2_wouldMourn_X2_needPerson
set_option maxRecDepth 20000 in
theorem ggX2_wouldMourn_X2_needAlive : GoodIn wsX2_wouldMourn wsX2_needAlive := goodIn_ca (goodIn_r _ [13, 14, 15, 1, 16, 53, 54, 55, 56, 57, 58, 59, 60, 61, 62, 63, 64, 65, 66] (by decide +kernel) (by decide +kernel)) (goodIn_sub (fun _ h => List.mem_cons_of_mem _ (List.mem_append_right _ h)) (by decide +kernel))
set_option maxRecDepth 20000 in
theorem gX2_wouldMourn_X2_needAlive : GoodIn wsX2_wouldMourn (wsV RX2 50 RX2 yX2_needAlive wsX2_needAlive) := goodIn_app (goodIn_of _ (by decide +kernel)) ggX2_wouldMourn_X2_needAlive
set_option maxRecDepth 20000 in
theorem ggX2_wouldMourn_X1_findDegrees : GoodIn wsX2_wouldMourn wsX1_findDegrees := goodIn_r _ [21, 22, 23, 24, 25, 26, 27, 28, 29, 30, 20, 31, 32, 33, 34, 35, 36, 37, 62, 63, 64, 65, 66] (by decide +kernel) (by decide +kernel)
set_option maxRecDepth 20000 in
theorem gX2_wouldMourn_X1_findDegrees : GoodIn wsX2_wouldMourn (wsV RX2 68 RX1 yX1_findDegrees wsX1_findDegrees) := goodIn_app (goodIn_of _ (by decide +kernel)) ggX2_wouldMourn_X1_findDegrees
set_option maxRecDepth 20000 in
theorem ggX2_wouldMourn_X2_wouldBegin : GoodIn wsX2_wouldMourn wsX2_wouldBegin := goodIn_r _ [41, 1, 16, 42, 43, 44, 45, 46, 47, 48, 49, 50, 51, 52, 53, 54, 55, 56, 57, 58, 59, 60, 61, 62, 63, 64, 65, 66, 67, 68] (by decide +kernel) (by decide +kernel)
set_option maxRecDepth 20000 in
theorem gX2_wouldMourn_X2_wouldBegin : GoodIn wsX2_wouldMourn (wsV RX2 186 RX2 yX2_wouldBegin wsX2_wouldBegin) := goodIn_app (goodIn_of _ (by decide +kernel)) ggX2_wouldMourn_X2_wouldBegin
theorem dX2_wouldMourn_0 : decode cX2_wouldMourn 0 = .ok (.aload_n 0, 1) := by decide +kernel
theorem dX2_wouldMourn_1 : decode cX2_wouldMourn 1 = .ok (.iload_n 1, 1) := by decide +kernel
theorem dX2_wouldMourn_2 : decode cX2_wouldMourn 2 = .ok (.invokevirtual 46, 3) := by decide +kernel
theorem dX2_wouldMourn_5 : decode cX2_wouldMourn 5 = .ok (.aload_n 0, 1) := by decide +kernel
theorem dX2_wouldMourn_6 : decode cX2_wouldMourn 6 = .ok (.iload_n 1, 1) := by decide +kernel
theorem dX2_wouldMourn_7 : decode cX2_wouldMourn 7 = .ok (.invokevirtual 50, 3) := by decide +kernel
theorem dX2_wouldMourn_10 : decode cX2_wouldMourn 10 = .ok (.aload_n 0, 1) := by decide +kernel
theorem dX2_wouldMourn_11 : decode cX2_wouldMourn 11 = .ok (.getfield 12, 3) := by decide +kernel
theorem dX2_wouldMourn_14 : decode cX2_wouldMourn 14 = .ok (.iload_n 1, 1) := by decide +kernel
theorem dX2_wouldMourn_15 : decode cX2_wouldMourn 15 = .ok (.invokevirtual 68, 3) := by decide +kernel
theorem dX2_wouldMourn_18 : decode cX2_wouldMourn 18 = .ok (.iconst 0, 1) := by decide +kernel
theorem dX2_wouldMourn_19 : decode cX2_wouldMourn 19 = .ok (.istore_n 2, 1) := by decide +kernel
theorem dX2_wouldMourn_20 : decode cX2_wouldMourn 20 = .ok (.iconst 0, 1) := by decide +kernel
theorem dX2_wouldMourn_21 : decode cX2_wouldMourn 21 = .ok (.istore_n 3, 1) := by decide +kernel
theorem dX2_wouldMourn_22 : decode cX2_wouldMourn 22 = .ok (.iload_n 3, 1) := by decide +kernel
theorem dX2_wouldMourn_23 : decode cX2_wouldMourn 23 = .ok (.aload_n 0, 1) := by decide +kernel
theorem dX2_wouldMourn_24 : decode cX2_wouldMourn 24 = .ok (.getfield 12, 3) := by decide +kernel
theorem dX2_wouldMourn_27 : decode cX2_wouldMourn 27 = .ok (.getfield 128, 3) := by decide +kernel
theorem dX2_wouldMourn_30 : decode cX2_wouldMourn 30 = .ok (.if_icmp .ge 20, 3) := by decide +kernel
theorem dX2_wouldMourn_33 : decode cX2_wouldMourn 33 = .ok (.aload_n 0, 1) := by decide +kernel
theorem dX2_wouldMourn_34 : decode cX2_wouldMourn 34 = .ok (.iload_n 3, 1) := by decide +kernel
theorem dX2_wouldMourn_35 : decode cX2_wouldMourn 35 = .ok (.invokevirtual 186, 3) := by decide +kernel
theorem dX2_wouldMourn_38 : decode cX2_wouldMourn 38 = .ok (.ifCond .eq 6, 3) := by decide +kernel
theorem dX2_wouldMourn_41 : decode cX2_wouldMourn 41 = .ok (.iinc 2 1, 3) := by decide +kernel
theorem dX2_wouldMourn_44 : decode cX2_wouldMourn 44 = .ok (.iinc 3 1, 3) := by decide +kernel
theorem dX2_wouldMourn_47 : decode cX2_wouldMourn 47 = .ok (.goto (-25), 3) := by decide +kernel
theorem dX2_wouldMourn_50 : decode cX2_wouldMourn 50 = .ok (.iload_n 2, 1) := by decide +kernel
theorem dX2_wouldMourn_51 : decode cX2_wouldMourn 51 = .ok (.ireturn, 1) := by decide +kernel
set_option maxRecDepth 20000 in
theorem ggX2_wouldWear_X2_needPerson : GoodIn wsX2_wouldWear wsX2_needPerson := goodIn_ca (goodIn_r _ [12, 13, 14, 1, 15, 70, 71, 72, 73, 74, 75, 76, 77, 78, 79, 80, 81, 82, 83] (by decide +kernel) (by decide +kernel)) (goodIn_sub (fun _ h => List.mem_cons_of_mem _ (List.mem_append_left _ (List.mem_append_left _ (List.mem_append_right _ h)))) (by decide +kernel))
set_option maxRecDepth 20000 in
theorem gX2_wouldWear_X2_needPerson : GoodIn wsX2_wouldWear (wsV RX2 46 RX2 yX2_needPerson wsX2_needPerson) := goodIn_app (goodIn_of _ (by decide +kernel)) ggX2_wouldWear_X2_needPerson
set_option maxRecDepth 20000 in
theorem ggX2_wouldWear_X2_needTwo : GoodIn wsX2_wouldWear wsX2_needTwo := goodIn_ca (goodIn_r _ [19, 20, 21] (by decide +kernel) (by decide +kernel)) (goodIn_sub (fun _ h => List.mem_cons_of_mem _ (List.mem_append_left _ (List.mem_append_right _ h))) (by decide +kernel))
set_option maxRecDepth 20000 in
theorem gX2_wouldWear_X2_needTwo : GoodIn wsX2_wouldWear (wsV RX2 53 RX2 yX2_needTwo wsX2_needTwo) := goodIn_app (goodIn_of _ (by decide +kernel)) ggX2_wouldWear_X2_needTwo
set_option maxRecDepth 20000 in
theorem ggX2_wouldWear_X2_needAlive : GoodIn wsX2_wouldWear wsX2_needAlive := goodIn_ca (goodIn_r _ [25, 26, 27, 1, 28, 70, 71, 72, 73, 74, 75, 76, 77, 78, 79, 80, 81, 82, 83] (by decide +kernel) (by decide +kernel)) (goodIn_sub (fun _ h => List.mem_cons_of_mem _ (List.mem_append_right _ h)) (by decide +kernel))
set_option maxRecDepth 20000 in
theorem gX2_wouldWear_X2_needAlive : GoodIn wsX2_wouldWear (wsV RX2 50 RX2 yX2_needAlive wsX2_needAlive) := goodIn_app (goodIn_of _ (by decide +kernel)) ggX2_wouldWear_X2_needAlive
set_option maxRecDepth 20000 in
theorem ggX2_wouldWear_X1_findDegrees : GoodIn wsX2_wouldWear wsX1_findDegrees := goodIn_r _ [33, 34, 35, 36, 37, 38, 39, 40, 41, 42, 32, 43, 44, 45, 46, 47, 48, 49, 79, 80, 81, 82, 83] (by decide +kernel) (by decide +kernel)
set_option maxRecDepth 20000 in
theorem gX2_wouldWear_X1_findDegrees : GoodIn wsX2_wouldWear (wsV RX2 68 RX1 yX1_findDegrees wsX1_findDegrees) := goodIn_app (goodIn_of _ (by decide +kernel)) ggX2_wouldWear_X1_findDegrees
set_option maxRecDepth 20000 in
theorem ggX2_wouldWear_X0_colourOn : GoodIn wsX2_wouldWear wsX0_colourOn := goodIn_r _ [54, 55, 56, 57, 58, 53, 59, 84, 85] (by decide +kernel) (by decide +kernel)
set_option maxRecDepth 20000 in
theorem gX2_wouldWear_X0_colourOn : GoodIn wsX2_wouldWear (wsV RX2 189 RX0 yX0_colourOn wsX0_colourOn) := goodIn_app (goodIn_of _ (by decide +kernel)) ggX2_wouldWear_X0_colourOn
set_option maxRecDepth 20000 in
theorem ggX2_wouldWear_X2_colourAfter : GoodIn wsX2_wouldWear wsX2_colourAfter := goodIn_r _ [63, 1, 15, 64, 65, 2, 66, 4, 5, 6, 7, 67, 68, 11, 69, 50, 51, 52, 53, 54, 55, 56, 57, 58, 59, 70, 71, 72, 73, 74, 75, 76, 77, 78, 79, 80, 81, 82, 83, 84, 85] (by decide +kernel) (by decide +kernel)
set_option maxRecDepth 20000 in
theorem gX2_wouldWear_X2_colourAfter : GoodIn wsX2_wouldWear (wsV RX2 159 RX2 yX2_colourAfter wsX2_colourAfter) := goodIn_app (goodIn_of _ (by decide +kernel)) ggX2_wouldWear_X2_colourAfter
theorem dX2_wouldWear_0 : decode cX2_wouldWear 0 = .ok (.aload_n 0, 1) := by decide +kernel
theorem dX2_wouldWear_1 : decode cX2_wouldWear 1 = .ok (.iload_n 1, 1) := by decide +kernel
theorem dX2_wouldWear_2 : decode cX2_wouldWear 2 = .ok (.invokevirtual 46, 3) := by decide +kernel
theorem dX2_wouldWear_5 : decode cX2_wouldWear 5 = .ok (.aload_n 0, 1) := by decide +kernel
theorem dX2_wouldWear_6 : decode cX2_wouldWear 6 = .ok (.iload_n 2, 1) := by decide +kernel
theorem dX2_wouldWear_7 : decode cX2_wouldWear 7 = .ok (.invokevirtual 46, 3) := by decide +kernel
theorem dX2_wouldWear_10 : decode cX2_wouldWear 10 = .ok (.aload_n 0, 1) := by decide +kernel
theorem dX2_wouldWear_11 : decode cX2_wouldWear 11 = .ok (.iload_n 1, 1) := by decide +kernel
theorem dX2_wouldWear_12 : decode cX2_wouldWear 12 = .ok (.iload_n 2, 1) := by decide +kernel
theorem dX2_wouldWear_13 : decode cX2_wouldWear 13 = .ok (.invokevirtual 53, 3) := by decide +kernel
theorem dX2_wouldWear_16 : decode cX2_wouldWear 16 = .ok (.aload_n 0, 1) := by decide +kernel
theorem dX2_wouldWear_17 : decode cX2_wouldWear 17 = .ok (.iload_n 1, 1) := by decide +kernel
theorem dX2_wouldWear_18 : decode cX2_wouldWear 18 = .ok (.invokevirtual 50, 3) := by decide +kernel
theorem dX2_wouldWear_21 : decode cX2_wouldWear 21 = .ok (.aload_n 0, 1) := by decide +kernel
theorem dX2_wouldWear_22 : decode cX2_wouldWear 22 = .ok (.iload_n 2, 1) := by decide +kernel
theorem dX2_wouldWear_23 : decode cX2_wouldWear 23 = .ok (.invokevirtual 50, 3) := by decide +kernel
theorem dX2_wouldWear_26 : decode cX2_wouldWear 26 = .ok (.aload_n 0, 1) := by decide +kernel
theorem dX2_wouldWear_27 : decode cX2_wouldWear 27 = .ok (.getfield 12, 3) := by decide +kernel
theorem dX2_wouldWear_30 : decode cX2_wouldWear 30 = .ok (.iload_n 2, 1) := by decide +kernel
theorem dX2_wouldWear_31 : decode cX2_wouldWear 31 = .ok (.invokevirtual 68, 3) := by decide +kernel
theorem dX2_wouldWear_34 : decode cX2_wouldWear 34 = .ok (.aload_n 0, 1) := by decide +kernel
theorem dX2_wouldWear_35 : decode cX2_wouldWear 35 = .ok (.getfield 19, 3) := by decide +kernel
theorem dX2_wouldWear_38 : decode cX2_wouldWear 38 = .ok (.bipush 16, 2) := by decide +kernel
theorem dX2_wouldWear_40 : decode cX2_wouldWear 40 = .ok (.aload_n 0, 1) := by decide +kernel
theorem dX2_wouldWear_41 : decode cX2_wouldWear 41 = .ok (.getfield 12, 3) := by decide +kernel
theorem dX2_wouldWear_44 : decode cX2_wouldWear 44 = .ok (.getfield 71, 3) := by decide +kernel
theorem dX2_wouldWear_47 : decode cX2_wouldWear 47 = .ok (.iload_n 1, 1) := by decide +kernel
theorem dX2_wouldWear_48 : decode cX2_wouldWear 48 = .ok (.iaload, 1) := by decide +kernel
theorem dX2_wouldWear_49 : decode cX2_wouldWear 49 = .ok (.iconst 0, 1) := by decide +kernel
theorem dX2_wouldWear_50 : decode cX2_wouldWear 50 = .ok (.invokevirtual 189, 3) := by decide +kernel
theorem dX2_wouldWear_53 : decode cX2_wouldWear 53 = .ok (.istore_n 3, 1) := by decide +kernel
theorem dX2_wouldWear_54 : decode cX2_wouldWear 54 = .ok (.aload_n 0, 1) := by decide +kernel
theorem dX2_wouldWear_55 : decode cX2_wouldWear 55 = .ok (.iload_n 1, 1) := by decide +kernel
theorem dX2_wouldWear_56 : decode cX2_wouldWear 56 = .ok (.iconst 0, 1) := by decide +kernel
theorem dX2_wouldWear_57 : decode cX2_wouldWear 57 = .ok (.invokevirtual 159, 3) := by decide +kernel
theorem dX2_wouldWear_60 : decode cX2_wouldWear 60 = .ok (.iload_n 3, 1) := by decide +kernel
theorem dX2_wouldWear_61 : decode cX2_wouldWear 61 = .ok (.invokestatic 181, 3) := by decide +kernel
theorem dX2_wouldWear_64 : decode cX2_wouldWear 64 = .ok (.ireturn, 1) := by decide +kernel
set_option maxRecDepth 20000 in
theorem ggX2_heaviestLoss_J7_fill_53178 : GoodIn wsX2_heaviestLoss wsJ7_fill_53178 := goodIn_r _ [8] (by decide +kernel) (by decide +kernel)
end
section
set_option maxRecDepth 20000 in
theorem gX2_heaviestLoss_J7_fill_53178 : GoodIn wsX2_heaviestLoss (va_wsS RX2 192 yJ7_fill_53178 wsJ7_fill_53178) := goodIn_app (goodIn_of _ (by decide +kernel)) ggX2_heaviestLoss_J7_fill_53178
set_option maxRecDepth 20000 in
theorem ggX2_heaviestLoss_X2_addLossesOf : GoodIn wsX2_heaviestLoss wsX2_addLossesOf := goodIn_r _ [13, 14, 2, 3, 1, 15, 16, 17, 18, 12, 19, 20, 21, 22, 23, 24, 25, 26, 27, 28, 29, 30, 31, 5, 6, 7, 8, 32, 33, 34, 35, 36, 37, 38, 39, 40, 41, 42, 43, 44, 45, 46, 47, 48, 49, 50, 51, 52, 53, 54, 55, 56, 57, 58, 59, 60, 61, 62, 63, 64, 65, 66, 67, 68, 69, 70, 71, 72, 73, 74, 75, 76, 77, 78, 79, 80, 81, 82, 83, 84, 85, 86, 87, 88, 89, 90] (by decide +kernel) (by decide +kernel)
set_option maxRecDepth 20000 in
theorem gX2_heaviestLoss_X2_addLossesOf : GoodIn wsX2_heaviestLoss (wsV RX2 198 RX2 yX2_addLossesOf wsX2_addLossesOf) := goodIn_app (goodIn_of _ (by decide +kernel)) ggX2_heaviestLoss_X2_addLossesOf
theorem dX2_heaviestLoss_0 : decode cX2_heaviestLoss 0 = .ok (.aload_n 0, 1) := by decide +kernel
theorem dX2_heaviestLoss_1 : decode cX2_heaviestLoss 1 = .ok (.getfield 36, 3) := by decide +kernel
theorem dX2_heaviestLoss_4 : decode cX2_heaviestLoss 4 = .ok (.iconst 0, 1) := by decide +kernel
theorem dX2_heaviestLoss_5 : decode cX2_heaviestLoss 5 = .ok (.invokestatic 192, 3) := by decide +kernel
theorem dX2_heaviestLoss_8 : decode cX2_heaviestLoss 8 = .ok (.iconst 0, 1) := by decide +kernel
theorem dX2_heaviestLoss_9 : decode cX2_heaviestLoss 9 = .ok (.istore_n 1, 1) := by decide +kernel
theorem dX2_heaviestLoss_10 : decode cX2_heaviestLoss 10 = .ok (.iload_n 1, 1) := by decide +kernel
theorem dX2_heaviestLoss_11 : decode cX2_heaviestLoss 11 = .ok (.aload_n 0, 1) := by decide +kernel
theorem dX2_heaviestLoss_12 : decode cX2_heaviestLoss 12 = .ok (.getfield 12, 3) := by decide +kernel
theorem dX2_heaviestLoss_15 : decode cX2_heaviestLoss 15 = .ok (.getfield 128, 3) := by decide +kernel
theorem dX2_heaviestLoss_18 : decode cX2_heaviestLoss 18 = .ok (.if_icmp .ge 26, 3) := by decide +kernel
theorem dX2_heaviestLoss_21 : decode cX2_heaviestLoss 21 = .ok (.aload_n 0, 1) := by decide +kernel
theorem dX2_heaviestLoss_22 : decode cX2_heaviestLoss 22 = .ok (.getfield 12, 3) := by decide +kernel
theorem dX2_heaviestLoss_25 : decode cX2_heaviestLoss 25 = .ok (.getfield 101, 3) := by decide +kernel
theorem dX2_heaviestLoss_28 : decode cX2_heaviestLoss 28 = .ok (.iload_n 1, 1) := by decide +kernel
theorem dX2_heaviestLoss_29 : decode cX2_heaviestLoss 29 = .ok (.baload, 1) := by decide +kernel
theorem dX2_heaviestLoss_30 : decode cX2_heaviestLoss 30 = .ok (.ifCond .eq 8, 3) := by decide +kernel
theorem dX2_heaviestLoss_33 : decode cX2_heaviestLoss 33 = .ok (.aload_n 0, 1) := by decide +kernel
theorem dX2_heaviestLoss_34 : decode cX2_heaviestLoss 34 = .ok (.iload_n 1, 1) := by decide +kernel
theorem dX2_heaviestLoss_35 : decode cX2_heaviestLoss 35 = .ok (.invokevirtual 198, 3) := by decide +kernel
theorem dX2_heaviestLoss_38 : decode cX2_heaviestLoss 38 = .ok (.iinc 1 1, 3) := by decide +kernel
theorem dX2_heaviestLoss_41 : decode cX2_heaviestLoss 41 = .ok (.goto (-31), 3) := by decide +kernel
theorem dX2_heaviestLoss_44 : decode cX2_heaviestLoss 44 = .ok (.iconst (-1), 1) := by decide +kernel
theorem dX2_heaviestLoss_45 : decode cX2_heaviestLoss 45 = .ok (.istore_n 1, 1) := by decide +kernel
theorem dX2_heaviestLoss_46 : decode cX2_heaviestLoss 46 = .ok (.iconst 0, 1) := by decide +kernel
theorem dX2_heaviestLoss_47 : decode cX2_heaviestLoss 47 = .ok (.istore_n 2, 1) := by decide +kernel
theorem dX2_heaviestLoss_48 : decode cX2_heaviestLoss 48 = .ok (.iload_n 2, 1) := by decide +kernel
theorem dX2_heaviestLoss_49 : decode cX2_heaviestLoss 49 = .ok (.aload_n 0, 1) := by decide +kernel
theorem dX2_heaviestLoss_50 : decode cX2_heaviestLoss 50 = .ok (.getfield 12, 3) := by decide +kernel
theorem dX2_heaviestLoss_53 : decode cX2_heaviestLoss 53 = .ok (.getfield 128, 3) := by decide +kernel
theorem dX2_heaviestLoss_56 : decode cX2_heaviestLoss 56 = .ok (.if_icmp .ge 43, 3) := by decide +kernel
theorem dX2_heaviestLoss_59 : decode cX2_heaviestLoss 59 = .ok (.aload_n 0, 1) := by decide +kernel
theorem dX2_heaviestLoss_60 : decode cX2_heaviestLoss 60 = .ok (.getfield 12, 3) := by decide +kernel
theorem dX2_heaviestLoss_63 : decode cX2_heaviestLoss 63 = .ok (.getfield 101, 3) := by decide +kernel
theorem dX2_heaviestLoss_66 : decode cX2_heaviestLoss 66 = .ok (.iload_n 2, 1) := by decide +kernel
theorem dX2_heaviestLoss_67 : decode cX2_heaviestLoss 67 = .ok (.baload, 1) := by decide +kernel
theorem dX2_heaviestLoss_68 : decode cX2_heaviestLoss 68 = .ok (.ifCond .eq 25, 3) := by decide +kernel
theorem dX2_heaviestLoss_71 : decode cX2_heaviestLoss 71 = .ok (.iload_n 1, 1) := by decide +kernel
theorem dX2_heaviestLoss_72 : decode cX2_heaviestLoss 72 = .ok (.iconst (-1), 1) := by decide +kernel
theorem dX2_heaviestLoss_73 : decode cX2_heaviestLoss 73 = .ok (.if_icmp .eq 18, 3) := by decide +kernel
theorem dX2_heaviestLoss_76 : decode cX2_heaviestLoss 76 = .ok (.aload_n 0, 1) := by decide +kernel
theorem dX2_heaviestLoss_77 : decode cX2_heaviestLoss 77 = .ok (.getfield 36, 3) := by decide +kernel
theorem dX2_heaviestLoss_80 : decode cX2_heaviestLoss 80 = .ok (.iload_n 2, 1) := by decide +kernel
theorem dX2_heaviestLoss_81 : decode cX2_heaviestLoss 81 = .ok (.iaload, 1) := by decide +kernel
theorem dX2_heaviestLoss_82 : decode cX2_heaviestLoss 82 = .ok (.aload_n 0, 1) := by decide +kernel
theorem dX2_heaviestLoss_83 : decode cX2_heaviestLoss 83 = .ok (.getfield 36, 3) := by decide +kernel
theorem dX2_heaviestLoss_86 : decode cX2_heaviestLoss 86 = .ok (.iload_n 1, 1) := by decide +kernel
theorem dX2_heaviestLoss_87 : decode cX2_heaviestLoss 87 = .ok (.iaload, 1) := by decide +kernel
theorem dX2_heaviestLoss_88 : decode cX2_heaviestLoss 88 = .ok (.if_icmp .le 5, 3) := by decide +kernel
theorem dX2_heaviestLoss_91 : decode cX2_heaviestLoss 91 = .ok (.iload_n 2, 1) := by decide +kernel
theorem dX2_heaviestLoss_92 : decode cX2_heaviestLoss 92 = .ok (.istore_n 1, 1) := by decide +kernel
theorem dX2_heaviestLoss_93 : decode cX2_heaviestLoss 93 = .ok (.iinc 2 1, 3) := by decide +kernel
theorem dX2_heaviestLoss_96 : decode cX2_heaviestLoss 96 = .ok (.goto (-48), 3) := by decide +kernel
theorem dX2_heaviestLoss_99 : decode cX2_heaviestLoss 99 = .ok (.iload_n 1, 1) := by decide +kernel
theorem dX2_heaviestLoss_100 : decode cX2_heaviestLoss 100 = .ok (.ireturn, 1) := by decide +kernel
set_option maxRecDepth 20000 in
theorem ggX2_meanDaysLeft_X1_livingCount : GoodIn wsX2_meanDaysLeft wsX1_livingCount := goodIn_r _ [7, 8, 9, 48, 49, 50, 51, 52] (by decide +kernel) (by decide +kernel)
set_option maxRecDepth 20000 in
theorem gX2_meanDaysLeft_X1_livingCount : GoodIn wsX2_meanDaysLeft (wsV RX2 140 RX1 yX1_livingCount wsX1_livingCount) := goodIn_app (goodIn_of _ (by decide +kernel)) ggX2_meanDaysLeft_X1_livingCount
set_option maxRecDepth 20000 in
theorem ggX2_meanDaysLeft_X2_longestLeft : GoodIn wsX2_meanDaysLeft wsX2_longestLeft := goodIn_r _ [14, 1, 2, 15, 16, 17, 18, 19, 20, 21, 13, 22, 23, 24, 25, 26, 27, 28, 29, 30, 31, 32, 33, 34, 35, 36, 37, 38, 39, 40, 41, 42, 43, 44, 45, 46, 47, 48, 49, 50, 51, 52, 53, 54] (by decide +kernel) (by decide +kernel)
set_option maxRecDepth 20000 in
theorem gX2_meanDaysLeft_X2_longestLeft : GoodIn wsX2_meanDaysLeft (wsV RX2 167 RX2 yX2_longestLeft wsX2_longestLeft) := goodIn_app (goodIn_of _ (by decide +kernel)) ggX2_meanDaysLeft_X2_longestLeft
theorem dX2_meanDaysLeft_0 : decode cX2_meanDaysLeft 0 = .ok (.aload_n 0, 1) := by decide +kernel
theorem dX2_meanDaysLeft_1 : decode cX2_meanDaysLeft 1 = .ok (.getfield 12, 3) := by decide +kernel
theorem dX2_meanDaysLeft_4 : decode cX2_meanDaysLeft 4 = .ok (.invokevirtual 140, 3) := by decide +kernel
theorem dX2_meanDaysLeft_7 : decode cX2_meanDaysLeft 7 = .ok (.istore_n 1, 1) := by decide +kernel
theorem dX2_meanDaysLeft_8 : decode cX2_meanDaysLeft 8 = .ok (.iload_n 1, 1) := by decide +kernel
theorem dX2_meanDaysLeft_9 : decode cX2_meanDaysLeft 9 = .ok (.ifCond .ne 5, 3) := by decide +kernel
theorem dX2_meanDaysLeft_12 : decode cX2_meanDaysLeft 12 = .ok (.dconst 0, 1) := by decide +kernel
theorem dX2_meanDaysLeft_13 : decode cX2_meanDaysLeft 13 = .ok (.dreturn, 1) := by decide +kernel
theorem dX2_meanDaysLeft_14 : decode cX2_meanDaysLeft 14 = .ok (.iconst 0, 1) := by decide +kernel
theorem dX2_meanDaysLeft_15 : decode cX2_meanDaysLeft 15 = .ok (.istore_n 2, 1) := by decide +kernel
theorem dX2_meanDaysLeft_16 : decode cX2_meanDaysLeft 16 = .ok (.iconst 0, 1) := by decide +kernel
theorem dX2_meanDaysLeft_17 : decode cX2_meanDaysLeft 17 = .ok (.istore_n 3, 1) := by decide +kernel
theorem dX2_meanDaysLeft_18 : decode cX2_meanDaysLeft 18 = .ok (.iload_n 3, 1) := by decide +kernel
theorem dX2_meanDaysLeft_19 : decode cX2_meanDaysLeft 19 = .ok (.aload_n 0, 1) := by decide +kernel
theorem dX2_meanDaysLeft_20 : decode cX2_meanDaysLeft 20 = .ok (.getfield 12, 3) := by decide +kernel
theorem dX2_meanDaysLeft_23 : decode cX2_meanDaysLeft 23 = .ok (.getfield 128, 3) := by decide +kernel
theorem dX2_meanDaysLeft_26 : decode cX2_meanDaysLeft 26 = .ok (.if_icmp .ge 17, 3) := by decide +kernel
theorem dX2_meanDaysLeft_29 : decode cX2_meanDaysLeft 29 = .ok (.iload_n 2, 1) := by decide +kernel
theorem dX2_meanDaysLeft_30 : decode cX2_meanDaysLeft 30 = .ok (.aload_n 0, 1) := by decide +kernel
theorem dX2_meanDaysLeft_31 : decode cX2_meanDaysLeft 31 = .ok (.iload_n 3, 1) := by decide +kernel
theorem dX2_meanDaysLeft_32 : decode cX2_meanDaysLeft 32 = .ok (.invokevirtual 167, 3) := by decide +kernel
theorem dX2_meanDaysLeft_35 : decode cX2_meanDaysLeft 35 = .ok (.iadd, 1) := by decide +kernel
theorem dX2_meanDaysLeft_36 : decode cX2_meanDaysLeft 36 = .ok (.istore_n 2, 1) := by decide +kernel
theorem dX2_meanDaysLeft_37 : decode cX2_meanDaysLeft 37 = .ok (.iinc 3 1, 3) := by decide +kernel
theorem dX2_meanDaysLeft_40 : decode cX2_meanDaysLeft 40 = .ok (.goto (-22), 3) := by decide +kernel
theorem dX2_meanDaysLeft_43 : decode cX2_meanDaysLeft 43 = .ok (.iload_n 2, 1) := by decide +kernel
theorem dX2_meanDaysLeft_44 : decode cX2_meanDaysLeft 44 = .ok (.i2d, 1) := by decide +kernel
theorem dX2_meanDaysLeft_45 : decode cX2_meanDaysLeft 45 = .ok (.iload_n 1, 1) := by decide +kernel
theorem dX2_meanDaysLeft_46 : decode cX2_meanDaysLeft 46 = .ok (.i2d, 1) := by decide +kernel
theorem dX2_meanDaysLeft_47 : decode cX2_meanDaysLeft 47 = .ok (.ddiv, 1) := by decide +kernel
theorem dX2_meanDaysLeft_48 : decode cX2_meanDaysLeft 48 = .ok (.dreturn, 1) := by decide +kernel
set_option maxRecDepth 20000 in
theorem ggX2_digest_X2_people : GoodIn wsX2_digest wsX2_people := goodIn_r _ [9, 3, 4, 179, 180, 181, 182, 183, 184, 185, 186, 187, 188, 189, 190, 191, 192] (by decide +kernel) (by decide +kernel)
set_option maxRecDepth 20000 in
theorem gX2_digest_X2_people : GoodIn wsX2_digest (wsV RX2 205 RX2 yX2_people wsX2_people) := goodIn_app (goodIn_of _ (by decide +kernel)) ggX2_digest_X2_people
set_option maxRecDepth 20000 in
theorem ggX2_digest_X2_living : GoodIn wsX2_digest wsX2_living := goodIn_r _ [13, 3, 14, 15, 16, 17, 18, 19, 20, 179, 180, 181, 182, 183, 184, 185, 186, 187, 188, 189, 190, 191, 192] (by decide +kernel) (by decide +kernel)
set_option maxRecDepth 20000 in
theorem gX2_digest_X2_living : GoodIn wsX2_digest (wsV RX2 208 RX2 yX2_living wsX2_living) := goodIn_app (goodIn_of _ (by decide +kernel)) ggX2_digest_X2_living
set_option maxRecDepth 20000 in
theorem ggX2_digest_X2_day : GoodIn wsX2_digest wsX2_day := goodIn_r _ [24, 25, 179, 180, 181, 182, 183, 184, 185, 186, 187] (by decide +kernel) (by decide +kernel)
set_option maxRecDepth 20000 in
theorem gX2_digest_X2_day : GoodIn wsX2_digest (wsV RX2 211 RX2 yX2_day wsX2_day) := goodIn_app (goodIn_of _ (by decide +kernel)) ggX2_digest_X2_day
set_option maxRecDepth 20000 in
theorem ggX2_digest_X2_strictest : GoodIn wsX2_digest wsX2_strictest := goodIn_r _ [29, 3, 4, 30, 31, 32, 33, 34, 35, 36, 8, 37, 25, 38, 39, 40, 41, 42, 43, 44, 45, 46, 47, 48, 49, 50, 51, 52, 53, 179, 180, 181, 182, 183, 184, 185, 186, 187, 188, 189, 190, 191, 192, 193, 194] (by decide +kernel) (by decide +kernel)
set_option maxRecDepth 20000 in
theorem gX2_digest_X2_strictest : GoodIn wsX2_digest (wsV RX2 214 RX2 yX2_strictest wsX2_strictest) := goodIn_app (goodIn_of _ (by decide +kernel)) ggX2_digest_X2_strictest
set_option maxRecDepth 20000 in
theorem ggX2_digest_X2_longestMourner : GoodIn wsX2_digest wsX2_longestMourner := goodIn_r _ [57, 3, 4, 58, 59, 60, 8, 61, 30, 31, 32, 33, 62, 63, 64, 65, 39, 40, 25, 38, 41, 42, 43, 66, 67, 68, 47, 69, 49, 51, 52, 53, 179, 180, 181, 182, 183, 184, 185, 186, 187, 188, 189, 190, 191, 192, 193, 194] (by decide +kernel) (by decide +kernel)
set_option maxRecDepth 20000 in
theorem gX2_digest_X2_longestMourner : GoodIn wsX2_digest (wsV RX2 217 RX2 yX2_longestMourner wsX2_longestMourner) := goodIn_app (goodIn_of _ (by decide +kernel)) ggX2_digest_X2_longestMourner
set_option maxRecDepth 20000 in
theorem ggX2_digest_X2_daysWorn : GoodIn wsX2_digest wsX2_daysWorn := goodIn_r _ [73, 74, 179, 180, 181, 182, 183, 184, 185, 186, 187] (by decide +kernel) (by decide +kernel)
set_option maxRecDepth 20000 in
theorem gX2_digest_X2_daysWorn : GoodIn wsX2_digest (wsV RX2 220 RX2 yX2_daysWorn wsX2_daysWorn) := goodIn_app (goodIn_of _ (by decide +kernel)) ggX2_digest_X2_daysWorn
set_option maxRecDepth 20000 in
theorem ggX2_digest_X2_digestCode : GoodIn wsX2_digest wsX2_digestCode := goodIn_ca (goodIn_r _ [78, 2, 79, 80, 81, 8, 82, 39, 83, 84, 85, 86, 87, 88, 89, 90, 91, 92, 93, 94, 52, 47, 53, 95, 96, 97, 98, 99, 179, 180, 181, 182, 183, 184, 185, 186, 187, 193, 194] (by decide +kernel) (by decide +kernel)) (goodIn_sub (fun _ h => List.mem_cons_of_mem _ (List.mem_append_right _ h)) (by decide +kernel))
set_option maxRecDepth 20000 in
theorem gX2_digest_X2_digestCode : GoodIn wsX2_digest (wsV RX2 223 RX2 yX2_digestCode wsX2_digestCode) := goodIn_app (goodIn_of _ (by decide +kernel)) ggX2_digest_X2_digestCode
set_option maxRecDepth 20000 in
theorem ggX2_digest_X2_digestPerson : GoodIn wsX2_digest wsX2_digestPerson := goodIn_ca (goodIn_r _ [103, 2, 3, 104, 105, 106, 8, 107, 108, 109, 110, 111, 112, 88, 89, 4, 113, 114, 115, 116, 117, 118, 119, 120, 121, 122, 123, 124, 125, 126, 34, 35, 36, 37, 25, 38, 39, 40, 30, 31, 32, 33, 41, 42, 43, 44, 45, 46, 47, 48, 49, 50, 51, 52, 53, 127, 128, 129, 130, 131, 132, 133, 134, 62, 63, 64, 65, 66, 67, 68, 69, 135, 136, 137, 138, 58, 59, 60, 61, 139, 140, 141, 142, 143, 144, 145, 146, 147, 148, 149, 150, 151, 152, 153, 154, 155, 156, 157, 158, 159, 160, 161, 17, 162, 163, 19, 164, 165, 166, 167, 168, 169, 170, 171, 172, 173, 174, 175, 176, 177, 178, 20, 179, 180, 181, 182, 183, 184, 185, 186, 187, 188, 189, 190, 191, 192, 193, 194] (by decide +kernel) (by decide +kernel)) (goodIn_sub (fun _ h => List.mem_cons_of_mem _ (List.mem_append_right _ h)) (by decide +kernel))
set_option maxRecDepth 20000 in
theorem gX2_digest_X2_digestPerson : GoodIn wsX2_digest (wsV RX2 227 RX2 yX2_digestPerson wsX2_digestPerson) := goodIn_app (goodIn_of _ (by decide +kernel)) ggX2_digest_X2_digestPerson
theorem dX2_digest_0 : decode cX2_digest 0 = .ok (.ldc2_w 201, 3) := by decide +kernel
theorem dX2_digest_3 : decode cX2_digest 3 = .ok (.lstore_n 1, 1) := by decide +kernel
theorem dX2_digest_4 : decode cX2_digest 4 = .ok (.lload_n 1, 1) := by decide +kernel
theorem dX2_digest_5 : decode cX2_digest 5 = .ok (.ldc2_w 203, 3) := by decide +kernel
theorem dX2_digest_8 : decode cX2_digest 8 = .ok (.lmul, 1) := by decide +kernel
theorem dX2_digest_9 : decode cX2_digest 9 = .ok (.aload_n 0, 1) := by decide +kernel
theorem dX2_digest_10 : decode cX2_digest 10 = .ok (.invokevirtual 205, 3) := by decide +kernel
theorem dX2_digest_13 : decode cX2_digest 13 = .ok (.i2l, 1) := by decide +kernel
theorem dX2_digest_14 : decode cX2_digest 14 = .ok (.ladd, 1) := by decide +kernel
theorem dX2_digest_15 : decode cX2_digest 15 = .ok (.lstore_n 1, 1) := by decide +kernel
theorem dX2_digest_16 : decode cX2_digest 16 = .ok (.lload_n 1, 1) := by decide +kernel
theorem dX2_digest_17 : decode cX2_digest 17 = .ok (.ldc2_w 203, 3) := by decide +kernel
theorem dX2_digest_20 : decode cX2_digest 20 = .ok (.lmul, 1) := by decide +kernel
theorem dX2_digest_21 : decode cX2_digest 21 = .ok (.aload_n 0, 1) := by decide +kernel
theorem dX2_digest_22 : decode cX2_digest 22 = .ok (.invokevirtual 208, 3) := by decide +kernel
theorem dX2_digest_25 : decode cX2_digest 25 = .ok (.i2l, 1) := by decide +kernel
theorem dX2_digest_26 : decode cX2_digest 26 = .ok (.ladd, 1) := by decide +kernel
theorem dX2_digest_27 : decode cX2_digest 27 = .ok (.lstore_n 1, 1) := by decide +kernel
theorem dX2_digest_28 : decode cX2_digest 28 = .ok (.lload_n 1, 1) := by decide +kernel
theorem dX2_digest_29 : decode cX2_digest 29 = .ok (.ldc2_w 203, 3) := by decide +kernel
theorem dX2_digest_32 : decode cX2_digest 32 = .ok (.lmul, 1) := by decide +kernel
theorem dX2_digest_33 : decode cX2_digest 33 = .ok (.aload_n 0, 1) := by decide +kernel
theorem dX2_digest_34 : decode cX2_digest 34 = .ok (.invokevirtual 211, 3) := by decide +kernel
theorem dX2_digest_37 : decode cX2_digest 37 = .ok (.i2l, 1) := by decide +kernel
theorem dX2_digest_38 : decode cX2_digest 38 = .ok (.ladd, 1) := by decide +kernel
theorem dX2_digest_39 : decode cX2_digest 39 = .ok (.lstore_n 1, 1) := by decide +kernel
theorem dX2_digest_40 : decode cX2_digest 40 = .ok (.lload_n 1, 1) := by decide +kernel
theorem dX2_digest_41 : decode cX2_digest 41 = .ok (.ldc2_w 203, 3) := by decide +kernel
theorem dX2_digest_44 : decode cX2_digest 44 = .ok (.lmul, 1) := by decide +kernel
theorem dX2_digest_45 : decode cX2_digest 45 = .ok (.aload_n 0, 1) := by decide +kernel
theorem dX2_digest_46 : decode cX2_digest 46 = .ok (.invokevirtual 214, 3) := by decide +kernel
theorem dX2_digest_49 : decode cX2_digest 49 = .ok (.i2l, 1) := by decide +kernel
theorem dX2_digest_50 : decode cX2_digest 50 = .ok (.ladd, 1) := by decide +kernel
theorem dX2_digest_51 : decode cX2_digest 51 = .ok (.lstore_n 1, 1) := by decide +kernel
theorem dX2_digest_52 : decode cX2_digest 52 = .ok (.lload_n 1, 1) := by decide +kernel
theorem dX2_digest_53 : decode cX2_digest 53 = .ok (.ldc2_w 203, 3) := by decide +kernel
theorem dX2_digest_56 : decode cX2_digest 56 = .ok (.lmul, 1) := by decide +kernel
theorem dX2_digest_57 : decode cX2_digest 57 = .ok (.aload_n 0, 1) := by decide +kernel
theorem dX2_digest_58 : decode cX2_digest 58 = .ok (.invokevirtual 217, 3) := by decide +kernel
theorem dX2_digest_61 : decode cX2_digest 61 = .ok (.i2l, 1) := by decide +kernel
theorem dX2_digest_62 : decode cX2_digest 62 = .ok (.ladd, 1) := by decide +kernel
theorem dX2_digest_63 : decode cX2_digest 63 = .ok (.lstore_n 1, 1) := by decide +kernel
theorem dX2_digest_64 : decode cX2_digest 64 = .ok (.lload_n 1, 1) := by decide +kernel
theorem dX2_digest_65 : decode cX2_digest 65 = .ok (.ldc2_w 203, 3) := by decide +kernel
theorem dX2_digest_68 : decode cX2_digest 68 = .ok (.lmul, 1) := by decide +kernel
theorem dX2_digest_69 : decode cX2_digest 69 = .ok (.aload_n 0, 1) := by decide +kernel
theorem dX2_digest_70 : decode cX2_digest 70 = .ok (.invokevirtual 220, 3) := by decide +kernel
theorem dX2_digest_73 : decode cX2_digest 73 = .ok (.i2l, 1) := by decide +kernel
theorem dX2_digest_74 : decode cX2_digest 74 = .ok (.ladd, 1) := by decide +kernel
theorem dX2_digest_75 : decode cX2_digest 75 = .ok (.lstore_n 1, 1) := by decide +kernel
theorem dX2_digest_76 : decode cX2_digest 76 = .ok (.aload_n 0, 1) := by decide +kernel
theorem dX2_digest_77 : decode cX2_digest 77 = .ok (.lload_n 1, 1) := by decide +kernel
theorem dX2_digest_78 : decode cX2_digest 78 = .ok (.invokevirtual 223, 3) := by decide +kernel
theorem dX2_digest_81 : decode cX2_digest 81 = .ok (.lstore_n 1, 1) := by decide +kernel
theorem dX2_digest_82 : decode cX2_digest 82 = .ok (.iconst 0, 1) := by decide +kernel
theorem dX2_digest_83 : decode cX2_digest 83 = .ok (.istore_n 3, 1) := by decide +kernel
theorem dX2_digest_84 : decode cX2_digest 84 = .ok (.iload_n 3, 1) := by decide +kernel
theorem dX2_digest_85 : decode cX2_digest 85 = .ok (.aload_n 0, 1) := by decide +kernel
theorem dX2_digest_86 : decode cX2_digest 86 = .ok (.getfield 12, 3) := by decide +kernel
theorem dX2_digest_89 : decode cX2_digest 89 = .ok (.getfield 128, 3) := by decide +kernel
theorem dX2_digest_92 : decode cX2_digest 92 = .ok (.if_icmp .ge 16, 3) := by decide +kernel
theorem dX2_digest_95 : decode cX2_digest 95 = .ok (.aload_n 0, 1) := by decide +kernel
theorem dX2_digest_96 : decode cX2_digest 96 = .ok (.lload_n 1, 1) := by decide +kernel
theorem dX2_digest_97 : decode cX2_digest 97 = .ok (.iload_n 3, 1) := by decide +kernel
theorem dX2_digest_98 : decode cX2_digest 98 = .ok (.invokevirtual 227, 3) := by decide +kernel
theorem dX2_digest_101 : decode cX2_digest 101 = .ok (.lstore_n 1, 1) := by decide +kernel
theorem dX2_digest_102 : decode cX2_digest 102 = .ok (.iinc 3 1, 3) := by decide +kernel
theorem dX2_digest_105 : decode cX2_digest 105 = .ok (.goto (-21), 3) := by decide +kernel
theorem dX2_digest_108 : decode cX2_digest 108 = .ok (.lload_n 1, 1) := by decide +kernel
theorem dX2_digest_109 : decode cX2_digest 109 = .ok (.lreturn, 1) := by decide +kernel
set_option maxRecDepth 20000 in
theorem ggX2_digestCode_X2_stageColour : GoodIn wsX2_digestCode wsX2_stageColour := goodIn_ca (goodIn_r _ [6, 7, 8, 9, 10, 11, 5, 12, 13, 14, 15, 16, 17, 18, 19, 20, 21, 22, 28, 29, 30, 31, 32, 33, 34, 35, 36, 37, 38] (by decide +kernel) (by decide +kernel)) (goodIn_sub (fun _ h => List.mem_cons_of_mem _ (List.mem_append_right _ h)) (by decide +kernel))
set_option maxRecDepth 20000 in
theorem gX2_digestCode_X2_stageColour : GoodIn wsX2_digestCode (wsV RX2 231 RX2 yX2_stageColour wsX2_stageColour) := goodIn_app (goodIn_of _ (by decide +kernel)) ggX2_digestCode_X2_stageColour
set_option maxRecDepth 20000 in
theorem ggX2_digestCode_X2_stageDays : GoodIn wsX2_digestCode wsX2_stageDays := goodIn_ca (goodIn_r _ [26, 7, 27, 9, 10, 11, 5, 12, 13, 14, 15, 16, 17, 18, 19, 20, 21, 22, 28, 29, 30, 31, 32, 33, 34, 35, 36, 37, 38] (by decide +kernel) (by decide +kernel)) (goodIn_sub (fun _ h => List.mem_cons_of_mem _ (List.mem_append_right _ h)) (by decide +kernel))
set_option maxRecDepth 20000 in
theorem gX2_digestCode_X2_stageDays : GoodIn wsX2_digestCode (wsV RX2 234 RX2 yX2_stageDays wsX2_stageDays) := goodIn_app (goodIn_of _ (by decide +kernel)) ggX2_digestCode_X2_stageDays
theorem dX2_digestCode_0 : decode cX2_digestCode 0 = .ok (.lload_n 1, 1) := by decide +kernel
theorem dX2_digestCode_1 : decode cX2_digestCode 1 = .ok (.lstore_n 3, 1) := by decide +kernel
theorem dX2_digestCode_2 : decode cX2_digestCode 2 = .ok (.iconst 1, 1) := by decide +kernel
theorem dX2_digestCode_3 : decode cX2_digestCode 3 = .ok (.istore 5, 2) := by decide +kernel
theorem dX2_digestCode_5 : decode cX2_digestCode 5 = .ok (.iload 5, 2) := by decide +kernel
theorem dX2_digestCode_7 : decode cX2_digestCode 7 = .ok (.iconst 4, 1) := by decide +kernel
theorem dX2_digestCode_8 : decode cX2_digestCode 8 = .ok (.if_icmp .gt 56, 3) := by decide +kernel
theorem dX2_digestCode_11 : decode cX2_digestCode 11 = .ok (.iconst 0, 1) := by decide +kernel
theorem dX2_digestCode_12 : decode cX2_digestCode 12 = .ok (.istore 6, 2) := by decide +kernel
theorem dX2_digestCode_14 : decode cX2_digestCode 14 = .ok (.iload 6, 2) := by decide +kernel
theorem dX2_digestCode_16 : decode cX2_digestCode 16 = .ok (.iconst 3, 1) := by decide +kernel
theorem dX2_digestCode_17 : decode cX2_digestCode 17 = .ok (.if_icmp .ge 41, 3) := by decide +kernel
theorem dX2_digestCode_20 : decode cX2_digestCode 20 = .ok (.lload_n 3, 1) := by decide +kernel
theorem dX2_digestCode_21 : decode cX2_digestCode 21 = .ok (.ldc2_w 203, 3) := by decide +kernel
theorem dX2_digestCode_24 : decode cX2_digestCode 24 = .ok (.lmul, 1) := by decide +kernel
theorem dX2_digestCode_25 : decode cX2_digestCode 25 = .ok (.aload_n 0, 1) := by decide +kernel
theorem dX2_digestCode_26 : decode cX2_digestCode 26 = .ok (.iload 5, 2) := by decide +kernel
theorem dX2_digestCode_28 : decode cX2_digestCode 28 = .ok (.iload 6, 2) := by decide +kernel
theorem dX2_digestCode_30 : decode cX2_digestCode 30 = .ok (.invokevirtual 231, 3) := by decide +kernel
theorem dX2_digestCode_33 : decode cX2_digestCode 33 = .ok (.i2l, 1) := by decide +kernel
theorem dX2_digestCode_34 : decode cX2_digestCode 34 = .ok (.ladd, 1) := by decide +kernel
theorem dX2_digestCode_35 : decode cX2_digestCode 35 = .ok (.lstore_n 3, 1) := by decide +kernel
theorem dX2_digestCode_36 : decode cX2_digestCode 36 = .ok (.lload_n 3, 1) := by decide +kernel
theorem dX2_digestCode_37 : decode cX2_digestCode 37 = .ok (.ldc2_w 203, 3) := by decide +kernel
theorem dX2_digestCode_40 : decode cX2_digestCode 40 = .ok (.lmul, 1) := by decide +kernel
theorem dX2_digestCode_41 : decode cX2_digestCode 41 = .ok (.aload_n 0, 1) := by decide +kernel
theorem dX2_digestCode_42 : decode cX2_digestCode 42 = .ok (.iload 5, 2) := by decide +kernel
theorem dX2_digestCode_44 : decode cX2_digestCode 44 = .ok (.iload 6, 2) := by decide +kernel
theorem dX2_digestCode_46 : decode cX2_digestCode 46 = .ok (.invokevirtual 234, 3) := by decide +kernel
theorem dX2_digestCode_49 : decode cX2_digestCode 49 = .ok (.i2l, 1) := by decide +kernel
theorem dX2_digestCode_50 : decode cX2_digestCode 50 = .ok (.ladd, 1) := by decide +kernel
theorem dX2_digestCode_51 : decode cX2_digestCode 51 = .ok (.lstore_n 3, 1) := by decide +kernel
theorem dX2_digestCode_52 : decode cX2_digestCode 52 = .ok (.iinc 6 1, 3) := by decide +kernel
theorem dX2_digestCode_55 : decode cX2_digestCode 55 = .ok (.goto (-41), 3) := by decide +kernel
theorem dX2_digestCode_58 : decode cX2_digestCode 58 = .ok (.iinc 5 1, 3) := by decide +kernel
theorem dX2_digestCode_61 : decode cX2_digestCode 61 = .ok (.goto (-56), 3) := by decide +kernel
theorem dX2_digestCode_64 : decode cX2_digestCode 64 = .ok (.lload_n 3, 1) := by decide +kernel
theorem dX2_digestCode_65 : decode cX2_digestCode 65 = .ok (.lreturn, 1) := by decide +kernel
set_option maxRecDepth 20000 in
theorem ggX2_digestPerson_X2_isAlive : GoodIn wsX2_digestPerson wsX2_isAlive := goodIn_ca (goodIn_r _ [7, 2, 8, 9, 10, 11, 6, 12, 13, 14, 15, 122, 123, 124, 125, 126, 127, 128, 129, 130, 131, 132, 133, 134, 135] (by decide +kernel) (by decide +kernel)) (goodIn_sub (fun _ h => List.mem_cons_of_mem _ (List.mem_append_right _ h)) (by decide +kernel))
set_option maxRecDepth 20000 in
theorem gX2_digestPerson_X2_isAlive : GoodIn wsX2_digestPerson (wsV RX2 237 RX2 yX2_isAlive wsX2_isAlive) := goodIn_app (goodIn_of _ (by decide +kernel)) ggX2_digestPerson_X2_isAlive
set_option maxRecDepth 20000 in
theorem ggX2_digestPerson_X2_parentOf : GoodIn wsX2_digestPerson wsX2_parentOf := goodIn_ca (goodIn_r _ [19, 2, 20, 9, 10, 11, 6, 12, 13, 14, 15, 122, 123, 124, 125, 126, 127, 128, 129, 130, 131, 132, 133, 134, 135] (by decide +kernel) (by decide +kernel)) (goodIn_sub (fun _ h => List.mem_cons_of_mem _ (List.mem_append_right _ h)) (by decide +kernel))
set_option maxRecDepth 20000 in
theorem gX2_digestPerson_X2_parentOf : GoodIn wsX2_digestPerson (wsV RX2 240 RX2 yX2_parentOf wsX2_parentOf) := goodIn_app (goodIn_of _ (by decide +kernel)) ggX2_digestPerson_X2_parentOf
set_option maxRecDepth 20000 in
theorem ggX2_digestPerson_X2_marriedTo : GoodIn wsX2_digestPerson wsX2_marriedTo := goodIn_ca (goodIn_r _ [24, 2, 25, 9, 10, 11, 6, 12, 13, 14, 15, 122, 123, 124, 125, 126, 127, 128, 129, 130, 131, 132, 133, 134, 135] (by decide +kernel) (by decide +kernel)) (goodIn_sub (fun _ h => List.mem_cons_of_mem _ (List.mem_append_right _ h)) (by decide +kernel))
set_option maxRecDepth 20000 in
theorem gX2_digestPerson_X2_marriedTo : GoodIn wsX2_digestPerson (wsV RX2 243 RX2 yX2_marriedTo wsX2_marriedTo) := goodIn_app (goodIn_of _ (by decide +kernel)) ggX2_digestPerson_X2_marriedTo
set_option maxRecDepth 20000 in
theorem ggX2_digestPerson_X2_colourOf : GoodIn wsX2_digestPerson wsX2_colourOf := goodIn_ca (goodIn_r _ [29, 9, 10, 11, 6, 12, 13, 14, 2, 15, 30, 31, 32, 33, 34, 35, 36, 37, 38, 39, 40, 41, 42, 43, 44, 45, 46, 47, 48, 49, 50, 51, 52, 53, 54, 122, 123, 124, 125, 126, 127, 128, 129, 130, 131, 132, 133, 134, 135, 136, 137] (by decide +kernel) (by decide +kernel)) (goodIn_sub (fun _ h => List.mem_cons_of_mem _ (List.mem_append_right _ h)) (by decide +kernel))
set_option maxRecDepth 20000 in
theorem gX2_digestPerson_X2_colourOf : GoodIn wsX2_digestPerson (wsV RX2 246 RX2 yX2_colourOf wsX2_colourOf) := goodIn_app (goodIn_of _ (by decide +kernel)) ggX2_digestPerson_X2_colourOf
set_option maxRecDepth 20000 in
theorem ggX2_digestPerson_X2_mourningsOf : GoodIn wsX2_digestPerson wsX2_mourningsOf := goodIn_ca (goodIn_r _ [58, 9, 10, 11, 6, 12, 13, 14, 2, 15, 59, 60, 61, 62, 63, 64, 65, 66, 36, 37, 34, 35, 38, 39, 40, 41, 42, 43, 44, 67, 68, 69, 48, 70, 50, 52, 53, 54, 122, 123, 124, 125, 126, 127, 128, 129, 130, 131, 132, 133, 134, 135, 136, 137] (by decide +kernel) (by decide +kernel)) (goodIn_sub (fun _ h => List.mem_cons_of_mem _ (List.mem_append_right _ h)) (by decide +kernel))
set_option maxRecDepth 20000 in
theorem gX2_digestPerson_X2_mourningsOf : GoodIn wsX2_digestPerson (wsV RX2 249 RX2 yX2_mourningsOf wsX2_mourningsOf) := goodIn_app (goodIn_of _ (by decide +kernel)) ggX2_digestPerson_X2_mourningsOf
set_option maxRecDepth 20000 in
theorem ggX2_digestPerson_X2_daysLeft : GoodIn wsX2_digestPerson wsX2_daysLeft := goodIn_ca (goodIn_r _ [74, 9, 10, 11, 6, 12, 13, 14, 2, 15, 75, 76, 77, 78, 38, 39, 40, 41, 63, 64, 65, 66, 36, 37, 34, 35, 42, 43, 44, 67, 68, 69, 48, 70, 50, 52, 53, 54, 122, 123, 124, 125, 126, 127, 128, 129, 130, 131, 132, 133, 134, 135, 136, 137] (by decide +kernel) (by decide +kernel)) (goodIn_sub (fun _ h => List.mem_cons_of_mem _ (List.mem_append_right _ h)) (by decide +kernel))
set_option maxRecDepth 20000 in
theorem gX2_digestPerson_X2_daysLeft : GoodIn wsX2_digestPerson (wsV RX2 252 RX2 yX2_daysLeft wsX2_daysLeft) := goodIn_app (goodIn_of _ (by decide +kernel)) ggX2_digestPerson_X2_daysLeft
set_option maxRecDepth 20000 in
theorem ggX2_digestPerson_X2_daysUntilLighter : GoodIn wsX2_digestPerson wsX2_daysUntilLighter := goodIn_ca (goodIn_r _ [82, 9, 10, 11, 6, 12, 13, 14, 2, 15, 83, 84, 85, 86, 87, 37, 34, 35, 88, 89, 40, 90, 36, 38, 39, 41, 91, 92, 93, 94, 42, 43, 44, 63, 64, 65, 66, 67, 68, 69, 48, 70, 50, 52, 53, 54, 45, 46, 47, 49, 51, 95, 96, 97, 98, 122, 123, 124, 125, 126, 127, 128, 129, 130, 131, 132, 133, 134, 135, 136, 137] (by decide +kernel) (by decide +kernel)) (goodIn_sub (fun _ h => List.mem_cons_of_mem _ (List.mem_append_right _ h)) (by decide +kernel))
set_option maxRecDepth 20000 in
theorem gX2_digestPerson_X2_daysUntilLighter : GoodIn wsX2_digestPerson (wsV RX2 255 RX2 yX2_daysUntilLighter wsX2_daysUntilLighter) := goodIn_app (goodIn_of _ (by decide +kernel)) ggX2_digestPerson_X2_daysUntilLighter
set_option maxRecDepth 20000 in
theorem ggX2_digestPerson_X1_findDegrees : GoodIn wsX2_digestPerson wsX1_findDegrees := goodIn_r _ [103, 104, 105, 106, 92, 93, 94, 107, 108, 109, 102, 110, 111, 112, 113, 114, 115, 116, 131, 132, 133, 134, 135] (by decide +kernel) (by decide +kernel)
set_option maxRecDepth 20000 in
theorem gX2_digestPerson_X1_findDegrees : GoodIn wsX2_digestPerson (wsV RX2 68 RX1 yX1_findDegrees wsX1_findDegrees) := goodIn_app (goodIn_of _ (by decide +kernel)) ggX2_digestPerson_X1_findDegrees
set_option maxRecDepth 20000 in
theorem ggX2_digestPerson_X1_countKin : GoodIn wsX2_digestPerson wsX1_countKin := goodIn_r _ [120, 105, 121, 104, 131, 132, 133, 134, 135] (by decide +kernel) (by decide +kernel)
set_option maxRecDepth 20000 in
theorem gX2_digestPerson_X1_countKin : GoodIn wsX2_digestPerson (wsV RX2 156 RX1 yX1_countKin wsX1_countKin) := goodIn_app (goodIn_of _ (by decide +kernel)) ggX2_digestPerson_X1_countKin
theorem dX2_digestPerson_0 : decode cX2_digestPerson 0 = .ok (.lload_n 1, 1) := by decide +kernel
theorem dX2_digestPerson_1 : decode cX2_digestPerson 1 = .ok (.lstore 4, 2) := by decide +kernel
theorem dX2_digestPerson_3 : decode cX2_digestPerson 3 = .ok (.lload 4, 2) := by decide +kernel
theorem dX2_digestPerson_5 : decode cX2_digestPerson 5 = .ok (.ldc2_w 203, 3) := by decide +kernel
theorem dX2_digestPerson_8 : decode cX2_digestPerson 8 = .ok (.lmul, 1) := by decide +kernel
theorem dX2_digestPerson_9 : decode cX2_digestPerson 9 = .ok (.aload_n 0, 1) := by decide +kernel
theorem dX2_digestPerson_10 : decode cX2_digestPerson 10 = .ok (.iload_n 3, 1) := by decide +kernel
theorem dX2_digestPerson_11 : decode cX2_digestPerson 11 = .ok (.invokevirtual 237, 3) := by decide +kernel
theorem dX2_digestPerson_14 : decode cX2_digestPerson 14 = .ok (.ifCond .eq 7, 3) := by decide +kernel
theorem dX2_digestPerson_17 : decode cX2_digestPerson 17 = .ok (.iconst 1, 1) := by decide +kernel
theorem dX2_digestPerson_18 : decode cX2_digestPerson 18 = .ok (.goto 4, 3) := by decide +kernel
theorem dX2_digestPerson_21 : decode cX2_digestPerson 21 = .ok (.iconst 0, 1) := by decide +kernel
theorem dX2_digestPerson_22 : decode cX2_digestPerson 22 = .ok (.i2l, 1) := by decide +kernel
theorem dX2_digestPerson_23 : decode cX2_digestPerson 23 = .ok (.ladd, 1) := by decide +kernel
theorem dX2_digestPerson_24 : decode cX2_digestPerson 24 = .ok (.lstore 4, 2) := by decide +kernel
theorem dX2_digestPerson_26 : decode cX2_digestPerson 26 = .ok (.lload 4, 2) := by decide +kernel
theorem dX2_digestPerson_28 : decode cX2_digestPerson 28 = .ok (.ldc2_w 203, 3) := by decide +kernel
theorem dX2_digestPerson_31 : decode cX2_digestPerson 31 = .ok (.lmul, 1) := by decide +kernel
theorem dX2_digestPerson_32 : decode cX2_digestPerson 32 = .ok (.aload_n 0, 1) := by decide +kernel
theorem dX2_digestPerson_33 : decode cX2_digestPerson 33 = .ok (.iload_n 3, 1) := by decide +kernel
theorem dX2_digestPerson_34 : decode cX2_digestPerson 34 = .ok (.invokevirtual 240, 3) := by decide +kernel
theorem dX2_digestPerson_37 : decode cX2_digestPerson 37 = .ok (.i2l, 1) := by decide +kernel
theorem dX2_digestPerson_38 : decode cX2_digestPerson 38 = .ok (.ladd, 1) := by decide +kernel
theorem dX2_digestPerson_39 : decode cX2_digestPerson 39 = .ok (.lstore 4, 2) := by decide +kernel
theorem dX2_digestPerson_41 : decode cX2_digestPerson 41 = .ok (.lload 4, 2) := by decide +kernel
theorem dX2_digestPerson_43 : decode cX2_digestPerson 43 = .ok (.ldc2_w 203, 3) := by decide +kernel
theorem dX2_digestPerson_46 : decode cX2_digestPerson 46 = .ok (.lmul, 1) := by decide +kernel
theorem dX2_digestPerson_47 : decode cX2_digestPerson 47 = .ok (.aload_n 0, 1) := by decide +kernel
theorem dX2_digestPerson_48 : decode cX2_digestPerson 48 = .ok (.iload_n 3, 1) := by decide +kernel
theorem dX2_digestPerson_49 : decode cX2_digestPerson 49 = .ok (.invokevirtual 243, 3) := by decide +kernel
theorem dX2_digestPerson_52 : decode cX2_digestPerson 52 = .ok (.i2l, 1) := by decide +kernel
theorem dX2_digestPerson_53 : decode cX2_digestPerson 53 = .ok (.ladd, 1) := by decide +kernel
theorem dX2_digestPerson_54 : decode cX2_digestPerson 54 = .ok (.lstore 4, 2) := by decide +kernel
theorem dX2_digestPerson_56 : decode cX2_digestPerson 56 = .ok (.lload 4, 2) := by decide +kernel
theorem dX2_digestPerson_58 : decode cX2_digestPerson 58 = .ok (.ldc2_w 203, 3) := by decide +kernel
theorem dX2_digestPerson_61 : decode cX2_digestPerson 61 = .ok (.lmul, 1) := by decide +kernel
theorem dX2_digestPerson_62 : decode cX2_digestPerson 62 = .ok (.aload_n 0, 1) := by decide +kernel
theorem dX2_digestPerson_63 : decode cX2_digestPerson 63 = .ok (.iload_n 3, 1) := by decide +kernel
theorem dX2_digestPerson_64 : decode cX2_digestPerson 64 = .ok (.invokevirtual 246, 3) := by decide +kernel
theorem dX2_digestPerson_67 : decode cX2_digestPerson 67 = .ok (.i2l, 1) := by decide +kernel
theorem dX2_digestPerson_68 : decode cX2_digestPerson 68 = .ok (.ladd, 1) := by decide +kernel
theorem dX2_digestPerson_69 : decode cX2_digestPerson 69 = .ok (.lstore 4, 2) := by decide +kernel
theorem dX2_digestPerson_71 : decode cX2_digestPerson 71 = .ok (.lload 4, 2) := by decide +kernel
theorem dX2_digestPerson_73 : decode cX2_digestPerson 73 = .ok (.ldc2_w 203, 3) := by decide +kernel
theorem dX2_digestPerson_76 : decode cX2_digestPerson 76 = .ok (.lmul, 1) := by decide +kernel
theorem dX2_digestPerson_77 : decode cX2_digestPerson 77 = .ok (.aload_n 0, 1) := by decide +kernel
theorem dX2_digestPerson_78 : decode cX2_digestPerson 78 = .ok (.iload_n 3, 1) := by decide +kernel
theorem dX2_digestPerson_79 : decode cX2_digestPerson 79 = .ok (.invokevirtual 249, 3) := by decide +kernel
theorem dX2_digestPerson_82 : decode cX2_digestPerson 82 = .ok (.i2l, 1) := by decide +kernel
theorem dX2_digestPerson_83 : decode cX2_digestPerson 83 = .ok (.ladd, 1) := by decide +kernel
theorem dX2_digestPerson_84 : decode cX2_digestPerson 84 = .ok (.lstore 4, 2) := by decide +kernel
theorem dX2_digestPerson_86 : decode cX2_digestPerson 86 = .ok (.lload 4, 2) := by decide +kernel
theorem dX2_digestPerson_88 : decode cX2_digestPerson 88 = .ok (.ldc2_w 203, 3) := by decide +kernel
theorem dX2_digestPerson_91 : decode cX2_digestPerson 91 = .ok (.lmul, 1) := by decide +kernel
theorem dX2_digestPerson_92 : decode cX2_digestPerson 92 = .ok (.aload_n 0, 1) := by decide +kernel
theorem dX2_digestPerson_93 : decode cX2_digestPerson 93 = .ok (.iload_n 3, 1) := by decide +kernel
theorem dX2_digestPerson_94 : decode cX2_digestPerson 94 = .ok (.invokevirtual 252, 3) := by decide +kernel
theorem dX2_digestPerson_97 : decode cX2_digestPerson 97 = .ok (.i2l, 1) := by decide +kernel
theorem dX2_digestPerson_98 : decode cX2_digestPerson 98 = .ok (.ladd, 1) := by decide +kernel
theorem dX2_digestPerson_99 : decode cX2_digestPerson 99 = .ok (.lstore 4, 2) := by decide +kernel
theorem dX2_digestPerson_101 : decode cX2_digestPerson 101 = .ok (.lload 4, 2) := by decide +kernel
theorem dX2_digestPerson_103 : decode cX2_digestPerson 103 = .ok (.ldc2_w 203, 3) := by decide +kernel
theorem dX2_digestPerson_106 : decode cX2_digestPerson 106 = .ok (.lmul, 1) := by decide +kernel
theorem dX2_digestPerson_107 : decode cX2_digestPerson 107 = .ok (.aload_n 0, 1) := by decide +kernel
theorem dX2_digestPerson_108 : decode cX2_digestPerson 108 = .ok (.iload_n 3, 1) := by decide +kernel
theorem dX2_digestPerson_109 : decode cX2_digestPerson 109 = .ok (.invokevirtual 255, 3) := by decide +kernel
theorem dX2_digestPerson_112 : decode cX2_digestPerson 112 = .ok (.i2l, 1) := by decide +kernel
theorem dX2_digestPerson_113 : decode cX2_digestPerson 113 = .ok (.ladd, 1) := by decide +kernel
theorem dX2_digestPerson_114 : decode cX2_digestPerson 114 = .ok (.lstore 4, 2) := by decide +kernel
theorem dX2_digestPerson_116 : decode cX2_digestPerson 116 = .ok (.aload_n 0, 1) := by decide +kernel
theorem dX2_digestPerson_117 : decode cX2_digestPerson 117 = .ok (.getfield 12, 3) := by decide +kernel
theorem dX2_digestPerson_120 : decode cX2_digestPerson 120 = .ok (.iload_n 3, 1) := by decide +kernel
theorem dX2_digestPerson_121 : decode cX2_digestPerson 121 = .ok (.invokevirtual 68, 3) := by decide +kernel
theorem dX2_digestPerson_124 : decode cX2_digestPerson 124 = .ok (.iconst 1, 1) := by decide +kernel
theorem dX2_digestPerson_125 : decode cX2_digestPerson 125 = .ok (.istore 6, 2) := by decide +kernel
theorem dX2_digestPerson_127 : decode cX2_digestPerson 127 = .ok (.iload 6, 2) := by decide +kernel
theorem dX2_digestPerson_129 : decode cX2_digestPerson 129 = .ok (.iconst 4, 1) := by decide +kernel
theorem dX2_digestPerson_130 : decode cX2_digestPerson 130 = .ok (.if_icmp .gt 28, 3) := by decide +kernel
theorem dX2_digestPerson_133 : decode cX2_digestPerson 133 = .ok (.lload 4, 2) := by decide +kernel
theorem dX2_digestPerson_135 : decode cX2_digestPerson 135 = .ok (.ldc2_w 203, 3) := by decide +kernel
theorem dX2_digestPerson_138 : decode cX2_digestPerson 138 = .ok (.lmul, 1) := by decide +kernel
theorem dX2_digestPerson_139 : decode cX2_digestPerson 139 = .ok (.aload_n 0, 1) := by decide +kernel
theorem dX2_digestPerson_140 : decode cX2_digestPerson 140 = .ok (.getfield 12, 3) := by decide +kernel
theorem dX2_digestPerson_143 : decode cX2_digestPerson 143 = .ok (.iload 6, 2) := by decide +kernel
theorem dX2_digestPerson_145 : decode cX2_digestPerson 145 = .ok (.invokevirtual 156, 3) := by decide +kernel
theorem dX2_digestPerson_148 : decode cX2_digestPerson 148 = .ok (.i2l, 1) := by decide +kernel
theorem dX2_digestPerson_149 : decode cX2_digestPerson 149 = .ok (.ladd, 1) := by decide +kernel
theorem dX2_digestPerson_150 : decode cX2_digestPerson 150 = .ok (.lstore 4, 2) := by decide +kernel
theorem dX2_digestPerson_152 : decode cX2_digestPerson 152 = .ok (.iinc 6 1, 3) := by decide +kernel
theorem dX2_digestPerson_155 : decode cX2_digestPerson 155 = .ok (.goto (-28), 3) := by decide +kernel
theorem dX2_digestPerson_158 : decode cX2_digestPerson 158 = .ok (.lload 4, 2) := by decide +kernel
theorem dX2_digestPerson_160 : decode cX2_digestPerson 160 = .ok (.lreturn, 1) := by decide +kernel
theorem dX2_needPerson_0 : decode cX2_needPerson 0 = .ok (.iload_n 1, 1) := by decide +kernel
theorem dX2_needPerson_1 : decode cX2_needPerson 1 = .ok (.ifCond .lt 14, 3) := by decide +kernel
theorem dX2_needPerson_4 : decode cX2_needPerson 4 = .ok (.iload_n 1, 1) := by decide +kernel
theorem dX2_needPerson_5 : decode cX2_needPerson 5 = .ok (.aload_n 0, 1) := by decide +kernel
theorem dX2_needPerson_6 : decode cX2_needPerson 6 = .ok (.getfield 12, 3) := by decide +kernel
theorem dX2_needPerson_9 : decode cX2_needPerson 9 = .ok (.getfield 128, 3) := by decide +kernel
theorem dX2_needPerson_12 : decode cX2_needPerson 12 = .ok (.if_icmp .lt 14, 3) := by decide +kernel
theorem dX2_needPerson_15 : decode cX2_needPerson 15 = .ok (.new 173, 3) := by decide +kernel
theorem dX2_needPerson_18 : decode cX2_needPerson 18 = .ok (.dup, 1) := by decide +kernel
theorem dX2_needPerson_19 : decode cX2_needPerson 19 = .ok (.ldc_w 258, 3) := by decide +kernel
theorem dX2_needPerson_22 : decode cX2_needPerson 22 = .ok (.invokespecial 177, 3) := by decide +kernel
theorem dX2_needPerson_25 : decode cX2_needPerson 25 = .ok (.athrow, 1) := by decide +kernel
theorem dX2_needPerson_26 : decode cX2_needPerson 26 = .ok (.return_, 1) := by decide +kernel
set_option maxRecDepth 20000 in
theorem ggX2_needRoom_X1_isFull : GoodIn wsX2_needRoom wsX1_isFull := goodIn_r _ [8, 9, 19, 20, 21, 22, 23] (by decide +kernel) (by decide +kernel)
set_option maxRecDepth 20000 in
theorem gX2_needRoom_X1_isFull : GoodIn wsX2_needRoom (wsV RX2 260 RX1 yX1_isFull wsX1_isFull) := goodIn_app (goodIn_of _ (by decide +kernel)) ggX2_needRoom_X1_isFull
theorem dX2_needRoom_0 : decode cX2_needRoom 0 = .ok (.aload_n 0, 1) := by decide +kernel
theorem dX2_needRoom_1 : decode cX2_needRoom 1 = .ok (.getfield 12, 3) := by decide +kernel
theorem dX2_needRoom_4 : decode cX2_needRoom 4 = .ok (.invokevirtual 260, 3) := by decide +kernel
theorem dX2_needRoom_7 : decode cX2_needRoom 7 = .ok (.ifCond .eq 14, 3) := by decide +kernel
theorem dX2_needRoom_10 : decode cX2_needRoom 10 = .ok (.new 61, 3) := by decide +kernel
theorem dX2_needRoom_13 : decode cX2_needRoom 13 = .ok (.dup, 1) := by decide +kernel
theorem dX2_needRoom_14 : decode cX2_needRoom 14 = .ok (.ldc_w 264, 3) := by decide +kernel
theorem dX2_needRoom_17 : decode cX2_needRoom 17 = .ok (.invokespecial 65, 3) := by decide +kernel
theorem dX2_needRoom_20 : decode cX2_needRoom 20 = .ok (.athrow, 1) := by decide +kernel
theorem dX2_needRoom_21 : decode cX2_needRoom 21 = .ok (.return_, 1) := by decide +kernel
theorem dX2_needTwo_0 : decode cX2_needTwo 0 = .ok (.iload_n 1, 1) := by decide +kernel
theorem dX2_needTwo_1 : decode cX2_needTwo 1 = .ok (.iload_n 2, 1) := by decide +kernel
theorem dX2_needTwo_2 : decode cX2_needTwo 2 = .ok (.if_icmp .ne 14, 3) := by decide +kernel
theorem dX2_needTwo_5 : decode cX2_needTwo 5 = .ok (.new 80, 3) := by decide +kernel
theorem dX2_needTwo_8 : decode cX2_needTwo 8 = .ok (.dup, 1) := by decide +kernel
theorem dX2_needTwo_9 : decode cX2_needTwo 9 = .ok (.ldc_w 266, 3) := by decide +kernel
theorem dX2_needTwo_12 : decode cX2_needTwo 12 = .ok (.invokespecial 84, 3) := by decide +kernel
theorem dX2_needTwo_15 : decode cX2_needTwo 15 = .ok (.athrow, 1) := by decide +kernel
theorem dX2_needTwo_16 : decode cX2_needTwo 16 = .ok (.return_, 1) := by decide +kernel
theorem dX2_needAlive_0 : decode cX2_needAlive 0 = .ok (.aload_n 0, 1) := by decide +kernel
theorem dX2_needAlive_1 : decode cX2_needAlive 1 = .ok (.getfield 12, 3) := by decide +kernel
theorem dX2_needAlive_4 : decode cX2_needAlive 4 = .ok (.getfield 101, 3) := by decide +kernel
theorem dX2_needAlive_7 : decode cX2_needAlive 7 = .ok (.iload_n 1, 1) := by decide +kernel
theorem dX2_needAlive_8 : decode cX2_needAlive 8 = .ok (.baload, 1) := by decide +kernel
theorem dX2_needAlive_9 : decode cX2_needAlive 9 = .ok (.ifCond .ne 14, 3) := by decide +kernel
theorem dX2_needAlive_12 : decode cX2_needAlive 12 = .ok (.new 61, 3) := by decide +kernel
theorem dX2_needAlive_15 : decode cX2_needAlive 15 = .ok (.dup, 1) := by decide +kernel
theorem dX2_needAlive_16 : decode cX2_needAlive 16 = .ok (.ldc_w 268, 3) := by decide +kernel
theorem dX2_needAlive_19 : decode cX2_needAlive 19 = .ok (.invokespecial 65, 3) := by decide +kernel
theorem dX2_needAlive_22 : decode cX2_needAlive 22 = .ok (.athrow, 1) := by decide +kernel
theorem dX2_needAlive_23 : decode cX2_needAlive 23 = .ok (.return_, 1) := by decide +kernel
theorem dX2_needDegree_0 : decode cX2_needDegree 0 = .ok (.iload_n 1, 1) := by decide +kernel
theorem dX2_needDegree_1 : decode cX2_needDegree 1 = .ok (.iconst 1, 1) := by decide +kernel
theorem dX2_needDegree_2 : decode cX2_needDegree 2 = .ok (.if_icmp .lt 8, 3) := by decide +kernel
theorem dX2_needDegree_5 : decode cX2_needDegree 5 = .ok (.iload_n 1, 1) := by decide +kernel
theorem dX2_needDegree_6 : decode cX2_needDegree 6 = .ok (.iconst 4, 1) := by decide +kernel
theorem dX2_needDegree_7 : decode cX2_needDegree 7 = .ok (.if_icmp .le 14, 3) := by decide +kernel
theorem dX2_needDegree_10 : decode cX2_needDegree 10 = .ok (.new 173, 3) := by decide +kernel
theorem dX2_needDegree_13 : decode cX2_needDegree 13 = .ok (.dup, 1) := by decide +kernel
theorem dX2_needDegree_14 : decode cX2_needDegree 14 = .ok (.ldc_w 270, 3) := by decide +kernel
theorem dX2_needDegree_17 : decode cX2_needDegree 17 = .ok (.invokespecial 177, 3) := by decide +kernel
theorem dX2_needDegree_20 : decode cX2_needDegree 20 = .ok (.athrow, 1) := by decide +kernel
theorem dX2_needDegree_21 : decode cX2_needDegree 21 = .ok (.return_, 1) := by decide +kernel
set_option maxRecDepth 20000 in
theorem ggX2_needStage_X2_needDegree : GoodIn wsX2_needStage wsX2_needDegree := goodIn_ca (goodIn_r _ [7, 1, 2] (by decide +kernel) (by decide +kernel)) (goodIn_sub (fun _ h => List.mem_cons_of_mem _ (List.mem_append_right _ h)) (by decide +kernel))
set_option maxRecDepth 20000 in
theorem gX2_needStage_X2_needDegree : GoodIn wsX2_needStage (wsV RX2 153 RX2 yX2_needDegree wsX2_needDegree) := goodIn_app (goodIn_of _ (by decide +kernel)) ggX2_needStage_X2_needDegree
theorem dX2_needStage_0 : decode cX2_needStage 0 = .ok (.aload_n 0, 1) := by decide +kernel
theorem dX2_needStage_1 : decode cX2_needStage 1 = .ok (.iload_n 1, 1) := by decide +kernel
theorem dX2_needStage_2 : decode cX2_needStage 2 = .ok (.invokevirtual 153, 3) := by decide +kernel
theorem dX2_needStage_5 : decode cX2_needStage 5 = .ok (.iload_n 2, 1) := by decide +kernel
theorem dX2_needStage_6 : decode cX2_needStage 6 = .ok (.ifCond .lt 8, 3) := by decide +kernel
theorem dX2_needStage_9 : decode cX2_needStage 9 = .ok (.iload_n 2, 1) := by decide +kernel
theorem dX2_needStage_10 : decode cX2_needStage 10 = .ok (.iconst 3, 1) := by decide +kernel
theorem dX2_needStage_11 : decode cX2_needStage 11 = .ok (.if_icmp .lt 14, 3) := by decide +kernel
theorem dX2_needStage_14 : decode cX2_needStage 14 = .ok (.new 173, 3) := by decide +kernel
theorem dX2_needStage_17 : decode cX2_needStage 17 = .ok (.dup, 1) := by decide +kernel
theorem dX2_needStage_18 : decode cX2_needStage 18 = .ok (.ldc_w 272, 3) := by decide +kernel
theorem dX2_needStage_21 : decode cX2_needStage 21 = .ok (.invokespecial 177, 3) := by decide +kernel
theorem dX2_needStage_24 : decode cX2_needStage 24 = .ok (.athrow, 1) := by decide +kernel
theorem dX2_needStage_25 : decode cX2_needStage 25 = .ok (.return_, 1) := by decide +kernel
theorem dX2_pair_0 : decode cX2_pair 0 = .ok (.iload_n 0, 1) := by decide +kernel
theorem dX2_pair_1 : decode cX2_pair 1 = .ok (.bipush 16, 2) := by decide +kernel
theorem dX2_pair_3 : decode cX2_pair 3 = .ok (.imul, 1) := by decide +kernel
theorem dX2_pair_4 : decode cX2_pair 4 = .ok (.iload_n 1, 1) := by decide +kernel
theorem dX2_pair_5 : decode cX2_pair 5 = .ok (.iadd, 1) := by decide +kernel
theorem dX2_pair_6 : decode cX2_pair 6 = .ok (.ireturn, 1) := by decide +kernel
set_option maxRecDepth 20000 in
theorem ggX2_endMourningsOf_X2_pair : GoodIn wsX2_endMourningsOf wsX2_pair := goodIn_r _ [5] (by decide +kernel) (by decide +kernel)
set_option maxRecDepth 20000 in
theorem gX2_endMourningsOf_X2_pair : GoodIn wsX2_endMourningsOf (va_wsS RX2 123 yX2_pair wsX2_pair) := goodIn_app (goodIn_of _ (by decide +kernel)) ggX2_endMourningsOf_X2_pair
theorem dX2_endMourningsOf_0 : decode cX2_endMourningsOf 0 = .ok (.iconst 0, 1) := by decide +kernel
theorem dX2_endMourningsOf_1 : decode cX2_endMourningsOf 1 = .ok (.istore_n 2, 1) := by decide +kernel
theorem dX2_endMourningsOf_2 : decode cX2_endMourningsOf 2 = .ok (.iload_n 2, 1) := by decide +kernel
theorem dX2_endMourningsOf_3 : decode cX2_endMourningsOf 3 = .ok (.bipush 16, 2) := by decide +kernel
theorem dX2_endMourningsOf_5 : decode cX2_endMourningsOf 5 = .ok (.if_icmp .ge 20, 3) := by decide +kernel
theorem dX2_endMourningsOf_8 : decode cX2_endMourningsOf 8 = .ok (.aload_n 0, 1) := by decide +kernel
theorem dX2_endMourningsOf_9 : decode cX2_endMourningsOf 9 = .ok (.getfield 23, 3) := by decide +kernel
theorem dX2_endMourningsOf_12 : decode cX2_endMourningsOf 12 = .ok (.iload_n 1, 1) := by decide +kernel
theorem dX2_endMourningsOf_13 : decode cX2_endMourningsOf 13 = .ok (.iload_n 2, 1) := by decide +kernel
theorem dX2_endMourningsOf_14 : decode cX2_endMourningsOf 14 = .ok (.invokestatic 123, 3) := by decide +kernel
theorem dX2_endMourningsOf_17 : decode cX2_endMourningsOf 17 = .ok (.iconst 0, 1) := by decide +kernel
theorem dX2_endMourningsOf_18 : decode cX2_endMourningsOf 18 = .ok (.iastore, 1) := by decide +kernel
theorem dX2_endMourningsOf_19 : decode cX2_endMourningsOf 19 = .ok (.iinc 2 1, 3) := by decide +kernel
theorem dX2_endMourningsOf_22 : decode cX2_endMourningsOf 22 = .ok (.goto (-20), 3) := by decide +kernel
theorem dX2_endMourningsOf_25 : decode cX2_endMourningsOf 25 = .ok (.return_, 1) := by decide +kernel
set_option maxRecDepth 20000 in
theorem ggX2_beginMourningsFor_X1_findDegrees : GoodIn wsX2_beginMourningsFor wsX1_findDegrees := goodIn_r _ [9, 10, 11, 12, 13, 14, 15, 16, 17, 18, 8, 19, 20, 21, 22, 23, 24, 25, 54, 55, 56, 57, 58] (by decide +kernel) (by decide +kernel)
set_option maxRecDepth 20000 in
theorem gX2_beginMourningsFor_X1_findDegrees : GoodIn wsX2_beginMourningsFor (wsV RX2 68 RX1 yX1_findDegrees wsX1_findDegrees) := goodIn_app (goodIn_of _ (by decide +kernel)) ggX2_beginMourningsFor_X1_findDegrees
set_option maxRecDepth 20000 in
theorem ggX2_beginMourningsFor_X2_wouldBegin : GoodIn wsX2_beginMourningsFor wsX2_wouldBegin := goodIn_r _ [30, 1, 31, 32, 4, 33, 34, 35, 36, 37, 38, 39, 40, 41, 45, 46, 47, 48, 49, 50, 51, 52, 53, 54, 55, 56, 57, 58, 59, 60] (by decide +kernel) (by decide +kernel)
set_option maxRecDepth 20000 in
theorem gX2_beginMourningsFor_X2_wouldBegin : GoodIn wsX2_beginMourningsFor (wsV RX2 186 RX2 yX2_wouldBegin wsX2_wouldBegin) := goodIn_app (goodIn_of _ (by decide +kernel)) ggX2_beginMourningsFor_X2_wouldBegin
set_option maxRecDepth 20000 in
theorem ggX2_beginMourningsFor_X2_pair : GoodIn wsX2_beginMourningsFor wsX2_pair := goodIn_r _ [44] (by decide +kernel) (by decide +kernel)
set_option maxRecDepth 20000 in
theorem gX2_beginMourningsFor_X2_pair : GoodIn wsX2_beginMourningsFor (va_wsS RX2 123 yX2_pair wsX2_pair) := goodIn_app (goodIn_of _ (by decide +kernel)) ggX2_beginMourningsFor_X2_pair
theorem dX2_beginMourningsFor_0 : decode cX2_beginMourningsFor 0 = .ok (.aload_n 0, 1) := by decide +kernel
theorem dX2_beginMourningsFor_1 : decode cX2_beginMourningsFor 1 = .ok (.getfield 12, 3) := by decide +kernel
theorem dX2_beginMourningsFor_4 : decode cX2_beginMourningsFor 4 = .ok (.iload_n 1, 1) := by decide +kernel
theorem dX2_beginMourningsFor_5 : decode cX2_beginMourningsFor 5 = .ok (.invokevirtual 68, 3) := by decide +kernel
theorem dX2_beginMourningsFor_8 : decode cX2_beginMourningsFor 8 = .ok (.iconst 0, 1) := by decide +kernel
theorem dX2_beginMourningsFor_9 : decode cX2_beginMourningsFor 9 = .ok (.istore_n 2, 1) := by decide +kernel
theorem dX2_beginMourningsFor_10 : decode cX2_beginMourningsFor 10 = .ok (.iconst 0, 1) := by decide +kernel
theorem dX2_beginMourningsFor_11 : decode cX2_beginMourningsFor 11 = .ok (.istore_n 3, 1) := by decide +kernel
theorem dX2_beginMourningsFor_12 : decode cX2_beginMourningsFor 12 = .ok (.iload_n 3, 1) := by decide +kernel
theorem dX2_beginMourningsFor_13 : decode cX2_beginMourningsFor 13 = .ok (.aload_n 0, 1) := by decide +kernel
theorem dX2_beginMourningsFor_14 : decode cX2_beginMourningsFor 14 = .ok (.getfield 12, 3) := by decide +kernel
theorem dX2_beginMourningsFor_17 : decode cX2_beginMourningsFor 17 = .ok (.getfield 128, 3) := by decide +kernel
theorem dX2_beginMourningsFor_20 : decode cX2_beginMourningsFor 20 = .ok (.if_icmp .ge 39, 3) := by decide +kernel
theorem dX2_beginMourningsFor_23 : decode cX2_beginMourningsFor 23 = .ok (.aload_n 0, 1) := by decide +kernel
theorem dX2_beginMourningsFor_24 : decode cX2_beginMourningsFor 24 = .ok (.iload_n 3, 1) := by decide +kernel
theorem dX2_beginMourningsFor_25 : decode cX2_beginMourningsFor 25 = .ok (.invokevirtual 186, 3) := by decide +kernel
theorem dX2_beginMourningsFor_28 : decode cX2_beginMourningsFor 28 = .ok (.ifCond .eq 25, 3) := by decide +kernel
theorem dX2_beginMourningsFor_31 : decode cX2_beginMourningsFor 31 = .ok (.aload_n 0, 1) := by decide +kernel
theorem dX2_beginMourningsFor_32 : decode cX2_beginMourningsFor 32 = .ok (.getfield 23, 3) := by decide +kernel
theorem dX2_beginMourningsFor_35 : decode cX2_beginMourningsFor 35 = .ok (.iload_n 3, 1) := by decide +kernel
theorem dX2_beginMourningsFor_36 : decode cX2_beginMourningsFor 36 = .ok (.iload_n 1, 1) := by decide +kernel
theorem dX2_beginMourningsFor_37 : decode cX2_beginMourningsFor 37 = .ok (.invokestatic 123, 3) := by decide +kernel
theorem dX2_beginMourningsFor_40 : decode cX2_beginMourningsFor 40 = .ok (.aload_n 0, 1) := by decide +kernel
theorem dX2_beginMourningsFor_41 : decode cX2_beginMourningsFor 41 = .ok (.getfield 12, 3) := by decide +kernel
theorem dX2_beginMourningsFor_44 : decode cX2_beginMourningsFor 44 = .ok (.getfield 71, 3) := by decide +kernel
theorem dX2_beginMourningsFor_47 : decode cX2_beginMourningsFor 47 = .ok (.iload_n 3, 1) := by decide +kernel
theorem dX2_beginMourningsFor_48 : decode cX2_beginMourningsFor 48 = .ok (.iaload, 1) := by decide +kernel
theorem dX2_beginMourningsFor_49 : decode cX2_beginMourningsFor 49 = .ok (.iastore, 1) := by decide +kernel
theorem dX2_beginMourningsFor_50 : decode cX2_beginMourningsFor 50 = .ok (.iinc 2 1, 3) := by decide +kernel
theorem dX2_beginMourningsFor_53 : decode cX2_beginMourningsFor 53 = .ok (.iinc 3 1, 3) := by decide +kernel
theorem dX2_beginMourningsFor_56 : decode cX2_beginMourningsFor 56 = .ok (.goto (-44), 3) := by decide +kernel
theorem dX2_beginMourningsFor_59 : decode cX2_beginMourningsFor 59 = .ok (.iload_n 2, 1) := by decide +kernel
theorem dX2_beginMourningsFor_60 : decode cX2_beginMourningsFor 60 = .ok (.ireturn, 1) := by decide +kernel
set_option maxRecDepth 20000 in
theorem ggX2_wouldBegin_X0_daysOfAll : GoodIn wsX2_wouldBegin wsX0_daysOfAll := goodIn_r _ [9, 10, 11, 12, 8, 13, 28, 29] (by decide +kernel) (by decide +kernel)
set_option maxRecDepth 20000 in
theorem gX2_wouldBegin_X0_daysOfAll : GoodIn wsX2_wouldBegin (wsV RX2 97 RX0 yX0_daysOfAll wsX0_daysOfAll) := goodIn_app (goodIn_of _ (by decide +kernel)) ggX2_wouldBegin_X0_daysOfAll
theorem dX2_wouldBegin_0 : decode cX2_wouldBegin 0 = .ok (.aload_n 0, 1) := by decide +kernel
theorem dX2_wouldBegin_1 : decode cX2_wouldBegin 1 = .ok (.getfield 12, 3) := by decide +kernel
theorem dX2_wouldBegin_4 : decode cX2_wouldBegin 4 = .ok (.getfield 101, 3) := by decide +kernel
theorem dX2_wouldBegin_7 : decode cX2_wouldBegin 7 = .ok (.iload_n 1, 1) := by decide +kernel
theorem dX2_wouldBegin_8 : decode cX2_wouldBegin 8 = .ok (.baload, 1) := by decide +kernel
theorem dX2_wouldBegin_9 : decode cX2_wouldBegin 9 = .ok (.ifCond .eq 28, 3) := by decide +kernel
theorem dX2_wouldBegin_12 : decode cX2_wouldBegin 12 = .ok (.aload_n 0, 1) := by decide +kernel
theorem dX2_wouldBegin_13 : decode cX2_wouldBegin 13 = .ok (.getfield 19, 3) := by decide +kernel
theorem dX2_wouldBegin_16 : decode cX2_wouldBegin 16 = .ok (.bipush 16, 2) := by decide +kernel
theorem dX2_wouldBegin_18 : decode cX2_wouldBegin 18 = .ok (.aload_n 0, 1) := by decide +kernel
theorem dX2_wouldBegin_19 : decode cX2_wouldBegin 19 = .ok (.getfield 12, 3) := by decide +kernel
theorem dX2_wouldBegin_22 : decode cX2_wouldBegin 22 = .ok (.getfield 71, 3) := by decide +kernel
theorem dX2_wouldBegin_25 : decode cX2_wouldBegin 25 = .ok (.iload_n 1, 1) := by decide +kernel
theorem dX2_wouldBegin_26 : decode cX2_wouldBegin 26 = .ok (.iaload, 1) := by decide +kernel
theorem dX2_wouldBegin_27 : decode cX2_wouldBegin 27 = .ok (.invokevirtual 97, 3) := by decide +kernel
theorem dX2_wouldBegin_30 : decode cX2_wouldBegin 30 = .ok (.ifCond .le 7, 3) := by decide +kernel
theorem dX2_wouldBegin_33 : decode cX2_wouldBegin 33 = .ok (.iconst 1, 1) := by decide +kernel
theorem dX2_wouldBegin_34 : decode cX2_wouldBegin 34 = .ok (.goto 4, 3) := by decide +kernel
theorem dX2_wouldBegin_37 : decode cX2_wouldBegin 37 = .ok (.iconst 0, 1) := by decide +kernel
theorem dX2_wouldBegin_38 : decode cX2_wouldBegin 38 = .ok (.ireturn, 1) := by decide +kernel
set_option maxRecDepth 20000 in
theorem ggX2_leftFor_X2_pair : GoodIn wsX2_leftFor wsX2_pair := goodIn_r _ [12] (by decide +kernel) (by decide +kernel)
set_option maxRecDepth 20000 in
theorem gX2_leftFor_X2_pair : GoodIn wsX2_leftFor (va_wsS RX2 123 yX2_pair wsX2_pair) := goodIn_app (goodIn_of _ (by decide +kernel)) ggX2_leftFor_X2_pair
set_option maxRecDepth 20000 in
theorem ggX2_leftFor_X0_daysOfAll : GoodIn wsX2_leftFor wsX0_daysOfAll := goodIn_r _ [17, 18, 19, 20, 16, 21, 31, 32] (by decide +kernel) (by decide +kernel)
set_option maxRecDepth 20000 in
theorem gX2_leftFor_X0_daysOfAll : GoodIn wsX2_leftFor (wsV RX2 97 RX0 yX0_daysOfAll wsX0_daysOfAll) := goodIn_app (goodIn_of _ (by decide +kernel)) ggX2_leftFor_X0_daysOfAll
theorem dX2_leftFor_0 : decode cX2_leftFor 0 = .ok (.aload_n 0, 1) := by decide +kernel
theorem dX2_leftFor_1 : decode cX2_leftFor 1 = .ok (.getfield 19, 3) := by decide +kernel
theorem dX2_leftFor_4 : decode cX2_leftFor 4 = .ok (.iload_n 2, 1) := by decide +kernel
theorem dX2_leftFor_5 : decode cX2_leftFor 5 = .ok (.aload_n 0, 1) := by decide +kernel
theorem dX2_leftFor_6 : decode cX2_leftFor 6 = .ok (.getfield 23, 3) := by decide +kernel
theorem dX2_leftFor_9 : decode cX2_leftFor 9 = .ok (.iload_n 1, 1) := by decide +kernel
theorem dX2_leftFor_10 : decode cX2_leftFor 10 = .ok (.iload_n 2, 1) := by decide +kernel
theorem dX2_leftFor_11 : decode cX2_leftFor 11 = .ok (.invokestatic 123, 3) := by decide +kernel
theorem dX2_leftFor_14 : decode cX2_leftFor 14 = .ok (.iaload, 1) := by decide +kernel
theorem dX2_leftFor_15 : decode cX2_leftFor 15 = .ok (.invokevirtual 97, 3) := by decide +kernel
theorem dX2_leftFor_18 : decode cX2_leftFor 18 = .ok (.istore_n 3, 1) := by decide +kernel
theorem dX2_leftFor_19 : decode cX2_leftFor 19 = .ok (.iconst 0, 1) := by decide +kernel
theorem dX2_leftFor_20 : decode cX2_leftFor 20 = .ok (.iload_n 3, 1) := by decide +kernel
theorem dX2_leftFor_21 : decode cX2_leftFor 21 = .ok (.aload_n 0, 1) := by decide +kernel
theorem dX2_leftFor_22 : decode cX2_leftFor 22 = .ok (.getfield 105, 3) := by decide +kernel
theorem dX2_leftFor_25 : decode cX2_leftFor 25 = .ok (.aload_n 0, 1) := by decide +kernel
theorem dX2_leftFor_26 : decode cX2_leftFor 26 = .ok (.getfield 27, 3) := by decide +kernel
theorem dX2_leftFor_29 : decode cX2_leftFor 29 = .ok (.iload_n 2, 1) := by decide +kernel
theorem dX2_leftFor_30 : decode cX2_leftFor 30 = .ok (.iaload, 1) := by decide +kernel
theorem dX2_leftFor_31 : decode cX2_leftFor 31 = .ok (.isub, 1) := by decide +kernel
theorem dX2_leftFor_32 : decode cX2_leftFor 32 = .ok (.isub, 1) := by decide +kernel
theorem dX2_leftFor_33 : decode cX2_leftFor 33 = .ok (.invokestatic 181, 3) := by decide +kernel
theorem dX2_leftFor_36 : decode cX2_leftFor 36 = .ok (.ireturn, 1) := by decide +kernel
set_option maxRecDepth 20000 in
theorem ggX2_longestLeft_X2_leftFor : GoodIn wsX2_longestLeft wsX2_leftFor := goodIn_r _ [11, 12, 13, 14, 15, 3, 4, 5, 6, 16, 17, 10, 18, 19, 20, 21, 22, 23, 24, 25, 26, 27, 28, 29, 30, 31, 32, 33, 34, 35, 36, 42, 43] (by decide +kernel) (by decide +kernel)
set_option maxRecDepth 20000 in
theorem gX2_longestLeft_X2_leftFor : GoodIn wsX2_longestLeft (wsV RX2 118 RX2 yX2_leftFor wsX2_leftFor) := goodIn_app (goodIn_of _ (by decide +kernel)) ggX2_longestLeft_X2_leftFor
theorem dX2_longestLeft_0 : decode cX2_longestLeft 0 = .ok (.iconst 0, 1) := by decide +kernel
theorem dX2_longestLeft_1 : decode cX2_longestLeft 1 = .ok (.istore_n 2, 1) := by decide +kernel
theorem dX2_longestLeft_2 : decode cX2_longestLeft 2 = .ok (.iconst 0, 1) := by decide +kernel
theorem dX2_longestLeft_3 : decode cX2_longestLeft 3 = .ok (.istore_n 3, 1) := by decide +kernel
theorem dX2_longestLeft_4 : decode cX2_longestLeft 4 = .ok (.iload_n 3, 1) := by decide +kernel
theorem dX2_longestLeft_5 : decode cX2_longestLeft 5 = .ok (.aload_n 0, 1) := by decide +kernel
theorem dX2_longestLeft_6 : decode cX2_longestLeft 6 = .ok (.getfield 12, 3) := by decide +kernel
theorem dX2_longestLeft_9 : decode cX2_longestLeft 9 = .ok (.getfield 128, 3) := by decide +kernel
theorem dX2_longestLeft_12 : decode cX2_longestLeft 12 = .ok (.if_icmp .ge 20, 3) := by decide +kernel
theorem dX2_longestLeft_15 : decode cX2_longestLeft 15 = .ok (.iload_n 2, 1) := by decide +kernel
theorem dX2_longestLeft_16 : decode cX2_longestLeft 16 = .ok (.aload_n 0, 1) := by decide +kernel
theorem dX2_longestLeft_17 : decode cX2_longestLeft 17 = .ok (.iload_n 1, 1) := by decide +kernel
theorem dX2_longestLeft_18 : decode cX2_longestLeft 18 = .ok (.iload_n 3, 1) := by decide +kernel
theorem dX2_longestLeft_19 : decode cX2_longestLeft 19 = .ok (.invokevirtual 118, 3) := by decide +kernel
theorem dX2_longestLeft_22 : decode cX2_longestLeft 22 = .ok (.invokestatic 181, 3) := by decide +kernel
theorem dX2_longestLeft_25 : decode cX2_longestLeft 25 = .ok (.istore_n 2, 1) := by decide +kernel
theorem dX2_longestLeft_26 : decode cX2_longestLeft 26 = .ok (.iinc 3 1, 3) := by decide +kernel
theorem dX2_longestLeft_29 : decode cX2_longestLeft 29 = .ok (.goto (-25), 3) := by decide +kernel
theorem dX2_longestLeft_32 : decode cX2_longestLeft 32 = .ok (.iload_n 2, 1) := by decide +kernel
theorem dX2_longestLeft_33 : decode cX2_longestLeft 33 = .ok (.ireturn, 1) := by decide +kernel
set_option maxRecDepth 20000 in
theorem ggX2_countMournings_X2_leftFor : GoodIn wsX2_countMournings wsX2_leftFor := goodIn_r _ [7, 8, 9, 10, 11, 12, 13, 14, 15, 16, 17, 6, 18, 19, 20, 21, 22, 23, 24, 25, 26, 27, 28, 29, 30, 31, 32, 33, 34, 35, 36, 42, 43] (by decide +kernel) (by decide +kernel)
set_option maxRecDepth 20000 in
theorem gX2_countMournings_X2_leftFor : GoodIn wsX2_countMournings (wsV RX2 118 RX2 yX2_leftFor wsX2_leftFor) := goodIn_app (goodIn_of _ (by decide +kernel)) ggX2_countMournings_X2_leftFor
theorem dX2_countMournings_0 : decode cX2_countMournings 0 = .ok (.iconst 0, 1) := by decide +kernel
theorem dX2_countMournings_1 : decode cX2_countMournings 1 = .ok (.istore_n 2, 1) := by decide +kernel
theorem dX2_countMournings_2 : decode cX2_countMournings 2 = .ok (.iconst 0, 1) := by decide +kernel
theorem dX2_countMournings_3 : decode cX2_countMournings 3 = .ok (.istore_n 3, 1) := by decide +kernel
theorem dX2_countMournings_4 : decode cX2_countMournings 4 = .ok (.iload_n 3, 1) := by decide +kernel
theorem dX2_countMournings_5 : decode cX2_countMournings 5 = .ok (.aload_n 0, 1) := by decide +kernel
theorem dX2_countMournings_6 : decode cX2_countMournings 6 = .ok (.getfield 12, 3) := by decide +kernel
theorem dX2_countMournings_9 : decode cX2_countMournings 9 = .ok (.getfield 128, 3) := by decide +kernel
theorem dX2_countMournings_12 : decode cX2_countMournings 12 = .ok (.if_icmp .ge 21, 3) := by decide +kernel
theorem dX2_countMournings_15 : decode cX2_countMournings 15 = .ok (.aload_n 0, 1) := by decide +kernel
theorem dX2_countMournings_16 : decode cX2_countMournings 16 = .ok (.iload_n 1, 1) := by decide +kernel
theorem dX2_countMournings_17 : decode cX2_countMournings 17 = .ok (.iload_n 3, 1) := by decide +kernel
theorem dX2_countMournings_18 : decode cX2_countMournings 18 = .ok (.invokevirtual 118, 3) := by decide +kernel
theorem dX2_countMournings_21 : decode cX2_countMournings 21 = .ok (.ifCond .le 6, 3) := by decide +kernel
theorem dX2_countMournings_24 : decode cX2_countMournings 24 = .ok (.iinc 2 1, 3) := by decide +kernel
theorem dX2_countMournings_27 : decode cX2_countMournings 27 = .ok (.iinc 3 1, 3) := by decide +kernel
theorem dX2_countMournings_30 : decode cX2_countMournings 30 = .ok (.goto (-26), 3) := by decide +kernel
theorem dX2_countMournings_33 : decode cX2_countMournings 33 = .ok (.iload_n 2, 1) := by decide +kernel
theorem dX2_countMournings_34 : decode cX2_countMournings 34 = .ok (.ireturn, 1) := by decide +kernel
set_option maxRecDepth 20000 in
theorem ggX2_colourAfter_X2_pair : GoodIn wsX2_colourAfter wsX2_pair := goodIn_r _ [14] (by decide +kernel) (by decide +kernel)
set_option maxRecDepth 20000 in
theorem gX2_colourAfter_X2_pair : GoodIn wsX2_colourAfter (va_wsS RX2 123 yX2_pair wsX2_pair) := goodIn_app (goodIn_of _ (by decide +kernel)) ggX2_colourAfter_X2_pair
end
section
set_option maxRecDepth 20000 in
theorem ggX2_colourAfter_X0_colourOn : GoodIn wsX2_colourAfter wsX0_colourOn := goodIn_r _ [19, 20, 21, 22, 23, 18, 24, 39, 40] (by decide +kernel) (by decide +kernel)
set_option maxRecDepth 20000 in
theorem gX2_colourAfter_X0_colourOn : GoodIn wsX2_colourAfter (wsV RX2 189 RX0 yX0_colourOn wsX0_colourOn) := goodIn_app (goodIn_of _ (by decide +kernel)) ggX2_colourAfter_X0_colourOn
theorem dX2_colourAfter_0 : decode cX2_colourAfter 0 = .ok (.iconst 0, 1) := by decide +kernel
theorem dX2_colourAfter_1 : decode cX2_colourAfter 1 = .ok (.istore_n 3, 1) := by decide +kernel
theorem dX2_colourAfter_2 : decode cX2_colourAfter 2 = .ok (.iconst 0, 1) := by decide +kernel
theorem dX2_colourAfter_3 : decode cX2_colourAfter 3 = .ok (.istore 4, 2) := by decide +kernel
theorem dX2_colourAfter_5 : decode cX2_colourAfter 5 = .ok (.iload 4, 2) := by decide +kernel
theorem dX2_colourAfter_7 : decode cX2_colourAfter 7 = .ok (.aload_n 0, 1) := by decide +kernel
theorem dX2_colourAfter_8 : decode cX2_colourAfter 8 = .ok (.getfield 12, 3) := by decide +kernel
theorem dX2_colourAfter_11 : decode cX2_colourAfter 11 = .ok (.getfield 128, 3) := by decide +kernel
theorem dX2_colourAfter_14 : decode cX2_colourAfter 14 = .ok (.if_icmp .ge 52, 3) := by decide +kernel
theorem dX2_colourAfter_17 : decode cX2_colourAfter 17 = .ok (.aload_n 0, 1) := by decide +kernel
theorem dX2_colourAfter_18 : decode cX2_colourAfter 18 = .ok (.getfield 105, 3) := by decide +kernel
theorem dX2_colourAfter_21 : decode cX2_colourAfter 21 = .ok (.aload_n 0, 1) := by decide +kernel
theorem dX2_colourAfter_22 : decode cX2_colourAfter 22 = .ok (.getfield 27, 3) := by decide +kernel
theorem dX2_colourAfter_25 : decode cX2_colourAfter 25 = .ok (.iload 4, 2) := by decide +kernel
theorem dX2_colourAfter_27 : decode cX2_colourAfter 27 = .ok (.iaload, 1) := by decide +kernel
theorem dX2_colourAfter_28 : decode cX2_colourAfter 28 = .ok (.isub, 1) := by decide +kernel
theorem dX2_colourAfter_29 : decode cX2_colourAfter 29 = .ok (.iload_n 2, 1) := by decide +kernel
theorem dX2_colourAfter_30 : decode cX2_colourAfter 30 = .ok (.iadd, 1) := by decide +kernel
theorem dX2_colourAfter_31 : decode cX2_colourAfter 31 = .ok (.istore 5, 2) := by decide +kernel
theorem dX2_colourAfter_33 : decode cX2_colourAfter 33 = .ok (.iload_n 3, 1) := by decide +kernel
theorem dX2_colourAfter_34 : decode cX2_colourAfter 34 = .ok (.aload_n 0, 1) := by decide +kernel
theorem dX2_colourAfter_35 : decode cX2_colourAfter 35 = .ok (.getfield 19, 3) := by decide +kernel
theorem dX2_colourAfter_38 : decode cX2_colourAfter 38 = .ok (.iload 4, 2) := by decide +kernel
theorem dX2_colourAfter_40 : decode cX2_colourAfter 40 = .ok (.aload_n 0, 1) := by decide +kernel
theorem dX2_colourAfter_41 : decode cX2_colourAfter 41 = .ok (.getfield 23, 3) := by decide +kernel
theorem dX2_colourAfter_44 : decode cX2_colourAfter 44 = .ok (.iload_n 1, 1) := by decide +kernel
theorem dX2_colourAfter_45 : decode cX2_colourAfter 45 = .ok (.iload 4, 2) := by decide +kernel
theorem dX2_colourAfter_47 : decode cX2_colourAfter 47 = .ok (.invokestatic 123, 3) := by decide +kernel
theorem dX2_colourAfter_50 : decode cX2_colourAfter 50 = .ok (.iaload, 1) := by decide +kernel
theorem dX2_colourAfter_51 : decode cX2_colourAfter 51 = .ok (.iload 5, 2) := by decide +kernel
theorem dX2_colourAfter_53 : decode cX2_colourAfter 53 = .ok (.invokevirtual 189, 3) := by decide +kernel
theorem dX2_colourAfter_56 : decode cX2_colourAfter 56 = .ok (.invokestatic 181, 3) := by decide +kernel
theorem dX2_colourAfter_59 : decode cX2_colourAfter 59 = .ok (.istore_n 3, 1) := by decide +kernel
theorem dX2_colourAfter_60 : decode cX2_colourAfter 60 = .ok (.iinc 4 1, 3) := by decide +kernel
theorem dX2_colourAfter_63 : decode cX2_colourAfter 63 = .ok (.goto (-58), 3) := by decide +kernel
theorem dX2_colourAfter_66 : decode cX2_colourAfter 66 = .ok (.iload_n 3, 1) := by decide +kernel
theorem dX2_colourAfter_67 : decode cX2_colourAfter 67 = .ok (.ireturn, 1) := by decide +kernel
set_option maxRecDepth 20000 in
theorem ggX2_countWearing_X2_colourAfter : GoodIn wsX2_countWearing wsX2_colourAfter := goodIn_r _ [8, 1, 2, 9, 10, 11, 12, 13, 14, 15, 16, 17, 18, 7, 19, 20, 21, 22, 23, 24, 25, 26, 27, 28, 29, 30, 31, 32, 33, 34, 35, 36, 37, 38, 39, 40, 41, 42, 43, 44, 45] (by decide +kernel) (by decide +kernel)
set_option maxRecDepth 20000 in
theorem gX2_countWearing_X2_colourAfter : GoodIn wsX2_countWearing (wsV RX2 159 RX2 yX2_colourAfter wsX2_colourAfter) := goodIn_app (goodIn_of _ (by decide +kernel)) ggX2_countWearing_X2_colourAfter
theorem dX2_countWearing_0 : decode cX2_countWearing 0 = .ok (.iconst 0, 1) := by decide +kernel
theorem dX2_countWearing_1 : decode cX2_countWearing 1 = .ok (.istore_n 2, 1) := by decide +kernel
theorem dX2_countWearing_2 : decode cX2_countWearing 2 = .ok (.iconst 0, 1) := by decide +kernel
theorem dX2_countWearing_3 : decode cX2_countWearing 3 = .ok (.istore_n 3, 1) := by decide +kernel
theorem dX2_countWearing_4 : decode cX2_countWearing 4 = .ok (.iload_n 3, 1) := by decide +kernel
theorem dX2_countWearing_5 : decode cX2_countWearing 5 = .ok (.aload_n 0, 1) := by decide +kernel
theorem dX2_countWearing_6 : decode cX2_countWearing 6 = .ok (.getfield 12, 3) := by decide +kernel
theorem dX2_countWearing_9 : decode cX2_countWearing 9 = .ok (.getfield 128, 3) := by decide +kernel
theorem dX2_countWearing_12 : decode cX2_countWearing 12 = .ok (.if_icmp .ge 34, 3) := by decide +kernel
theorem dX2_countWearing_15 : decode cX2_countWearing 15 = .ok (.aload_n 0, 1) := by decide +kernel
theorem dX2_countWearing_16 : decode cX2_countWearing 16 = .ok (.getfield 12, 3) := by decide +kernel
theorem dX2_countWearing_19 : decode cX2_countWearing 19 = .ok (.getfield 101, 3) := by decide +kernel
theorem dX2_countWearing_22 : decode cX2_countWearing 22 = .ok (.iload_n 3, 1) := by decide +kernel
theorem dX2_countWearing_23 : decode cX2_countWearing 23 = .ok (.baload, 1) := by decide +kernel
theorem dX2_countWearing_24 : decode cX2_countWearing 24 = .ok (.ifCond .eq 16, 3) := by decide +kernel
theorem dX2_countWearing_27 : decode cX2_countWearing 27 = .ok (.aload_n 0, 1) := by decide +kernel
theorem dX2_countWearing_28 : decode cX2_countWearing 28 = .ok (.iload_n 3, 1) := by decide +kernel
theorem dX2_countWearing_29 : decode cX2_countWearing 29 = .ok (.iconst 0, 1) := by decide +kernel
theorem dX2_countWearing_30 : decode cX2_countWearing 30 = .ok (.invokevirtual 159, 3) := by decide +kernel
theorem dX2_countWearing_33 : decode cX2_countWearing 33 = .ok (.iload_n 1, 1) := by decide +kernel
theorem dX2_countWearing_34 : decode cX2_countWearing 34 = .ok (.if_icmp .ne 6, 3) := by decide +kernel
theorem dX2_countWearing_37 : decode cX2_countWearing 37 = .ok (.iinc 2 1, 3) := by decide +kernel
theorem dX2_countWearing_40 : decode cX2_countWearing 40 = .ok (.iinc 3 1, 3) := by decide +kernel
theorem dX2_countWearing_43 : decode cX2_countWearing 43 = .ok (.goto (-39), 3) := by decide +kernel
theorem dX2_countWearing_46 : decode cX2_countWearing 46 = .ok (.iload_n 2, 1) := by decide +kernel
theorem dX2_countWearing_47 : decode cX2_countWearing 47 = .ok (.ireturn, 1) := by decide +kernel
set_option maxRecDepth 20000 in
theorem ggX2_paintAhead_J7_fill_53178 : GoodIn wsX2_paintAhead wsJ7_fill_53178 := goodIn_r _ [18] (by decide +kernel) (by decide +kernel)
set_option maxRecDepth 20000 in
theorem gX2_paintAhead_J7_fill_53178 : GoodIn wsX2_paintAhead (va_wsS RX2 192 yJ7_fill_53178 wsJ7_fill_53178) := goodIn_app (goodIn_of _ (by decide +kernel)) ggX2_paintAhead_J7_fill_53178
set_option maxRecDepth 20000 in
theorem ggX2_paintAhead_X2_pair : GoodIn wsX2_paintAhead wsX2_pair := goodIn_r _ [22] (by decide +kernel) (by decide +kernel)
set_option maxRecDepth 20000 in
theorem gX2_paintAhead_X2_pair : GoodIn wsX2_paintAhead (va_wsS RX2 123 yX2_pair wsX2_pair) := goodIn_app (goodIn_of _ (by decide +kernel)) ggX2_paintAhead_X2_pair
set_option maxRecDepth 20000 in
theorem ggX2_paintAhead_X2_leftFor : GoodIn wsX2_paintAhead wsX2_leftFor := goodIn_r _ [26, 11, 4, 5, 6, 12, 13, 9, 14, 19, 20, 21, 22, 27, 28, 29, 30, 31, 32, 33, 34, 35, 41, 42, 43, 44, 45, 46, 47, 48, 49, 55, 56] (by decide +kernel) (by decide +kernel)
set_option maxRecDepth 20000 in
theorem gX2_paintAhead_X2_leftFor : GoodIn wsX2_paintAhead (wsV RX2 118 RX2 yX2_leftFor wsX2_leftFor) := goodIn_app (goodIn_of _ (by decide +kernel)) ggX2_paintAhead_X2_leftFor
set_option maxRecDepth 20000 in
theorem ggX2_paintAhead_X0_colourOn : GoodIn wsX2_paintAhead wsX0_colourOn := goodIn_r _ [39, 32, 40, 33, 34, 30, 35, 55, 56] (by decide +kernel) (by decide +kernel)
set_option maxRecDepth 20000 in
theorem gX2_paintAhead_X0_colourOn : GoodIn wsX2_paintAhead (wsV RX2 189 RX0 yX0_colourOn wsX0_colourOn) := goodIn_app (goodIn_of _ (by decide +kernel)) ggX2_paintAhead_X0_colourOn
theorem dX2_paintAhead_0 : decode cX2_paintAhead 0 = .ok (.aload_n 0, 1) := by decide +kernel
theorem dX2_paintAhead_1 : decode cX2_paintAhead 1 = .ok (.getfield 30, 3) := by decide +kernel
theorem dX2_paintAhead_4 : decode cX2_paintAhead 4 = .ok (.iconst 0, 1) := by decide +kernel
theorem dX2_paintAhead_5 : decode cX2_paintAhead 5 = .ok (.invokestatic 192, 3) := by decide +kernel
theorem dX2_paintAhead_8 : decode cX2_paintAhead 8 = .ok (.iconst 0, 1) := by decide +kernel
theorem dX2_paintAhead_9 : decode cX2_paintAhead 9 = .ok (.istore_n 2, 1) := by decide +kernel
theorem dX2_paintAhead_10 : decode cX2_paintAhead 10 = .ok (.iload_n 2, 1) := by decide +kernel
theorem dX2_paintAhead_11 : decode cX2_paintAhead 11 = .ok (.aload_n 0, 1) := by decide +kernel
theorem dX2_paintAhead_12 : decode cX2_paintAhead 12 = .ok (.getfield 12, 3) := by decide +kernel
theorem dX2_paintAhead_15 : decode cX2_paintAhead 15 = .ok (.getfield 128, 3) := by decide +kernel
theorem dX2_paintAhead_18 : decode cX2_paintAhead 18 = .ok (.if_icmp .ge 96, 3) := by decide +kernel
theorem dX2_paintAhead_21 : decode cX2_paintAhead 21 = .ok (.aload_n 0, 1) := by decide +kernel
theorem dX2_paintAhead_22 : decode cX2_paintAhead 22 = .ok (.getfield 23, 3) := by decide +kernel
theorem dX2_paintAhead_25 : decode cX2_paintAhead 25 = .ok (.iload_n 1, 1) := by decide +kernel
theorem dX2_paintAhead_26 : decode cX2_paintAhead 26 = .ok (.iload_n 2, 1) := by decide +kernel
theorem dX2_paintAhead_27 : decode cX2_paintAhead 27 = .ok (.invokestatic 123, 3) := by decide +kernel
theorem dX2_paintAhead_30 : decode cX2_paintAhead 30 = .ok (.iaload, 1) := by decide +kernel
theorem dX2_paintAhead_31 : decode cX2_paintAhead 31 = .ok (.istore_n 3, 1) := by decide +kernel
theorem dX2_paintAhead_32 : decode cX2_paintAhead 32 = .ok (.aload_n 0, 1) := by decide +kernel
theorem dX2_paintAhead_33 : decode cX2_paintAhead 33 = .ok (.getfield 105, 3) := by decide +kernel
theorem dX2_paintAhead_36 : decode cX2_paintAhead 36 = .ok (.aload_n 0, 1) := by decide +kernel
theorem dX2_paintAhead_37 : decode cX2_paintAhead 37 = .ok (.getfield 27, 3) := by decide +kernel
theorem dX2_paintAhead_40 : decode cX2_paintAhead 40 = .ok (.iload_n 2, 1) := by decide +kernel
theorem dX2_paintAhead_41 : decode cX2_paintAhead 41 = .ok (.iaload, 1) := by decide +kernel
theorem dX2_paintAhead_42 : decode cX2_paintAhead 42 = .ok (.isub, 1) := by decide +kernel
theorem dX2_paintAhead_43 : decode cX2_paintAhead 43 = .ok (.istore 4, 2) := by decide +kernel
theorem dX2_paintAhead_45 : decode cX2_paintAhead 45 = .ok (.aload_n 0, 1) := by decide +kernel
theorem dX2_paintAhead_46 : decode cX2_paintAhead 46 = .ok (.iload_n 1, 1) := by decide +kernel
theorem dX2_paintAhead_47 : decode cX2_paintAhead 47 = .ok (.iload_n 2, 1) := by decide +kernel
theorem dX2_paintAhead_48 : decode cX2_paintAhead 48 = .ok (.invokevirtual 118, 3) := by decide +kernel
theorem dX2_paintAhead_51 : decode cX2_paintAhead 51 = .ok (.aload_n 0, 1) := by decide +kernel
theorem dX2_paintAhead_52 : decode cX2_paintAhead 52 = .ok (.getfield 30, 3) := by decide +kernel
theorem dX2_paintAhead_55 : decode cX2_paintAhead 55 = .ok (.arraylength, 1) := by decide +kernel
theorem dX2_paintAhead_56 : decode cX2_paintAhead 56 = .ok (.invokestatic 274, 3) := by decide +kernel
theorem dX2_paintAhead_59 : decode cX2_paintAhead 59 = .ok (.istore 5, 2) := by decide +kernel
theorem dX2_paintAhead_61 : decode cX2_paintAhead 61 = .ok (.iconst 0, 1) := by decide +kernel
theorem dX2_paintAhead_62 : decode cX2_paintAhead 62 = .ok (.istore 6, 2) := by decide +kernel
theorem dX2_paintAhead_64 : decode cX2_paintAhead 64 = .ok (.iload 6, 2) := by decide +kernel
theorem dX2_paintAhead_66 : decode cX2_paintAhead 66 = .ok (.iload 5, 2) := by decide +kernel
theorem dX2_paintAhead_68 : decode cX2_paintAhead 68 = .ok (.if_icmp .ge 40, 3) := by decide +kernel
theorem dX2_paintAhead_71 : decode cX2_paintAhead 71 = .ok (.aload_n 0, 1) := by decide +kernel
theorem dX2_paintAhead_72 : decode cX2_paintAhead 72 = .ok (.getfield 30, 3) := by decide +kernel
theorem dX2_paintAhead_75 : decode cX2_paintAhead 75 = .ok (.iload 6, 2) := by decide +kernel
theorem dX2_paintAhead_77 : decode cX2_paintAhead 77 = .ok (.aload_n 0, 1) := by decide +kernel
theorem dX2_paintAhead_78 : decode cX2_paintAhead 78 = .ok (.getfield 30, 3) := by decide +kernel
theorem dX2_paintAhead_81 : decode cX2_paintAhead 81 = .ok (.iload 6, 2) := by decide +kernel
theorem dX2_paintAhead_83 : decode cX2_paintAhead 83 = .ok (.iaload, 1) := by decide +kernel
theorem dX2_paintAhead_84 : decode cX2_paintAhead 84 = .ok (.aload_n 0, 1) := by decide +kernel
theorem dX2_paintAhead_85 : decode cX2_paintAhead 85 = .ok (.getfield 19, 3) := by decide +kernel
theorem dX2_paintAhead_88 : decode cX2_paintAhead 88 = .ok (.iload_n 2, 1) := by decide +kernel
theorem dX2_paintAhead_89 : decode cX2_paintAhead 89 = .ok (.iload_n 3, 1) := by decide +kernel
theorem dX2_paintAhead_90 : decode cX2_paintAhead 90 = .ok (.iload 4, 2) := by decide +kernel
theorem dX2_paintAhead_92 : decode cX2_paintAhead 92 = .ok (.iload 6, 2) := by decide +kernel
theorem dX2_paintAhead_94 : decode cX2_paintAhead 94 = .ok (.iadd, 1) := by decide +kernel
theorem dX2_paintAhead_95 : decode cX2_paintAhead 95 = .ok (.invokevirtual 189, 3) := by decide +kernel
theorem dX2_paintAhead_98 : decode cX2_paintAhead 98 = .ok (.invokestatic 181, 3) := by decide +kernel
theorem dX2_paintAhead_101 : decode cX2_paintAhead 101 = .ok (.iastore, 1) := by decide +kernel
theorem dX2_paintAhead_102 : decode cX2_paintAhead 102 = .ok (.iinc 6 1, 3) := by decide +kernel
theorem dX2_paintAhead_105 : decode cX2_paintAhead 105 = .ok (.goto (-41), 3) := by decide +kernel
theorem dX2_paintAhead_108 : decode cX2_paintAhead 108 = .ok (.iinc 2 1, 3) := by decide +kernel
theorem dX2_paintAhead_111 : decode cX2_paintAhead 111 = .ok (.goto (-101), 3) := by decide +kernel
theorem dX2_paintAhead_114 : decode cX2_paintAhead 114 = .ok (.return_, 1) := by decide +kernel
theorem dX2_wornAhead_0 : decode cX2_wornAhead 0 = .ok (.iconst 0, 1) := by decide +kernel
theorem dX2_wornAhead_1 : decode cX2_wornAhead 1 = .ok (.istore_n 2, 1) := by decide +kernel
theorem dX2_wornAhead_2 : decode cX2_wornAhead 2 = .ok (.iconst 0, 1) := by decide +kernel
theorem dX2_wornAhead_3 : decode cX2_wornAhead 3 = .ok (.istore_n 3, 1) := by decide +kernel
theorem dX2_wornAhead_4 : decode cX2_wornAhead 4 = .ok (.iload_n 3, 1) := by decide +kernel
theorem dX2_wornAhead_5 : decode cX2_wornAhead 5 = .ok (.iload_n 1, 1) := by decide +kernel
theorem dX2_wornAhead_6 : decode cX2_wornAhead 6 = .ok (.if_icmp .ge 30, 3) := by decide +kernel
theorem dX2_wornAhead_9 : decode cX2_wornAhead 9 = .ok (.iload_n 3, 1) := by decide +kernel
theorem dX2_wornAhead_10 : decode cX2_wornAhead 10 = .ok (.aload_n 0, 1) := by decide +kernel
theorem dX2_wornAhead_11 : decode cX2_wornAhead 11 = .ok (.getfield 30, 3) := by decide +kernel
theorem dX2_wornAhead_14 : decode cX2_wornAhead 14 = .ok (.arraylength, 1) := by decide +kernel
theorem dX2_wornAhead_15 : decode cX2_wornAhead 15 = .ok (.if_icmp .ge 21, 3) := by decide +kernel
theorem dX2_wornAhead_18 : decode cX2_wornAhead 18 = .ok (.aload_n 0, 1) := by decide +kernel
theorem dX2_wornAhead_19 : decode cX2_wornAhead 19 = .ok (.getfield 30, 3) := by decide +kernel
theorem dX2_wornAhead_22 : decode cX2_wornAhead 22 = .ok (.iload_n 3, 1) := by decide +kernel
theorem dX2_wornAhead_23 : decode cX2_wornAhead 23 = .ok (.iaload, 1) := by decide +kernel
theorem dX2_wornAhead_24 : decode cX2_wornAhead 24 = .ok (.ifCond .eq 6, 3) := by decide +kernel
theorem dX2_wornAhead_27 : decode cX2_wornAhead 27 = .ok (.iinc 2 1, 3) := by decide +kernel
theorem dX2_wornAhead_30 : decode cX2_wornAhead 30 = .ok (.iinc 3 1, 3) := by decide +kernel
theorem dX2_wornAhead_33 : decode cX2_wornAhead 33 = .ok (.goto (-29), 3) := by decide +kernel
theorem dX2_wornAhead_36 : decode cX2_wornAhead 36 = .ok (.iload_n 2, 1) := by decide +kernel
theorem dX2_wornAhead_37 : decode cX2_wornAhead 37 = .ok (.ireturn, 1) := by decide +kernel
theorem dX2_countAhead_0 : decode cX2_countAhead 0 = .ok (.iconst 0, 1) := by decide +kernel
theorem dX2_countAhead_1 : decode cX2_countAhead 1 = .ok (.istore_n 2, 1) := by decide +kernel
theorem dX2_countAhead_2 : decode cX2_countAhead 2 = .ok (.iconst 0, 1) := by decide +kernel
theorem dX2_countAhead_3 : decode cX2_countAhead 3 = .ok (.istore_n 3, 1) := by decide +kernel
theorem dX2_countAhead_4 : decode cX2_countAhead 4 = .ok (.iload_n 3, 1) := by decide +kernel
theorem dX2_countAhead_5 : decode cX2_countAhead 5 = .ok (.aload_n 0, 1) := by decide +kernel
theorem dX2_countAhead_6 : decode cX2_countAhead 6 = .ok (.getfield 30, 3) := by decide +kernel
theorem dX2_countAhead_9 : decode cX2_countAhead 9 = .ok (.arraylength, 1) := by decide +kernel
theorem dX2_countAhead_10 : decode cX2_countAhead 10 = .ok (.if_icmp .ge 22, 3) := by decide +kernel
theorem dX2_countAhead_13 : decode cX2_countAhead 13 = .ok (.aload_n 0, 1) := by decide +kernel
theorem dX2_countAhead_14 : decode cX2_countAhead 14 = .ok (.getfield 30, 3) := by decide +kernel
theorem dX2_countAhead_17 : decode cX2_countAhead 17 = .ok (.iload_n 3, 1) := by decide +kernel
theorem dX2_countAhead_18 : decode cX2_countAhead 18 = .ok (.iaload, 1) := by decide +kernel
theorem dX2_countAhead_19 : decode cX2_countAhead 19 = .ok (.iload_n 1, 1) := by decide +kernel
theorem dX2_countAhead_20 : decode cX2_countAhead 20 = .ok (.if_icmp .ne 6, 3) := by decide +kernel
theorem dX2_countAhead_23 : decode cX2_countAhead 23 = .ok (.iinc 2 1, 3) := by decide +kernel
theorem dX2_countAhead_26 : decode cX2_countAhead 26 = .ok (.iinc 3 1, 3) := by decide +kernel
theorem dX2_countAhead_29 : decode cX2_countAhead 29 = .ok (.goto (-25), 3) := by decide +kernel
theorem dX2_countAhead_32 : decode cX2_countAhead 32 = .ok (.iload_n 2, 1) := by decide +kernel
theorem dX2_countAhead_33 : decode cX2_countAhead 33 = .ok (.ireturn, 1) := by decide +kernel
theorem dX2_firstLighterDay_0 : decode cX2_firstLighterDay 0 = .ok (.aload_n 0, 1) := by decide +kernel
theorem dX2_firstLighterDay_1 : decode cX2_firstLighterDay 1 = .ok (.getfield 30, 3) := by decide +kernel
theorem dX2_firstLighterDay_4 : decode cX2_firstLighterDay 4 = .ok (.iconst 0, 1) := by decide +kernel
theorem dX2_firstLighterDay_5 : decode cX2_firstLighterDay 5 = .ok (.iaload, 1) := by decide +kernel
theorem dX2_firstLighterDay_6 : decode cX2_firstLighterDay 6 = .ok (.ifCond .ne 5, 3) := by decide +kernel
theorem dX2_firstLighterDay_9 : decode cX2_firstLighterDay 9 = .ok (.iconst (-1), 1) := by decide +kernel
theorem dX2_firstLighterDay_10 : decode cX2_firstLighterDay 10 = .ok (.ireturn, 1) := by decide +kernel
theorem dX2_firstLighterDay_11 : decode cX2_firstLighterDay 11 = .ok (.iconst 1, 1) := by decide +kernel
theorem dX2_firstLighterDay_12 : decode cX2_firstLighterDay 12 = .ok (.istore_n 1, 1) := by decide +kernel
theorem dX2_firstLighterDay_13 : decode cX2_firstLighterDay 13 = .ok (.iload_n 1, 1) := by decide +kernel
theorem dX2_firstLighterDay_14 : decode cX2_firstLighterDay 14 = .ok (.aload_n 0, 1) := by decide +kernel
theorem dX2_firstLighterDay_15 : decode cX2_firstLighterDay 15 = .ok (.getfield 30, 3) := by decide +kernel
theorem dX2_firstLighterDay_18 : decode cX2_firstLighterDay 18 = .ok (.arraylength, 1) := by decide +kernel
theorem dX2_firstLighterDay_19 : decode cX2_firstLighterDay 19 = .ok (.if_icmp .ge 26, 3) := by decide +kernel
theorem dX2_firstLighterDay_22 : decode cX2_firstLighterDay 22 = .ok (.aload_n 0, 1) := by decide +kernel
theorem dX2_firstLighterDay_23 : decode cX2_firstLighterDay 23 = .ok (.getfield 30, 3) := by decide +kernel
theorem dX2_firstLighterDay_26 : decode cX2_firstLighterDay 26 = .ok (.iload_n 1, 1) := by decide +kernel
theorem dX2_firstLighterDay_27 : decode cX2_firstLighterDay 27 = .ok (.iaload, 1) := by decide +kernel
theorem dX2_firstLighterDay_28 : decode cX2_firstLighterDay 28 = .ok (.aload_n 0, 1) := by decide +kernel
theorem dX2_firstLighterDay_29 : decode cX2_firstLighterDay 29 = .ok (.getfield 30, 3) := by decide +kernel
theorem dX2_firstLighterDay_32 : decode cX2_firstLighterDay 32 = .ok (.iconst 0, 1) := by decide +kernel
theorem dX2_firstLighterDay_33 : decode cX2_firstLighterDay 33 = .ok (.iaload, 1) := by decide +kernel
theorem dX2_firstLighterDay_34 : decode cX2_firstLighterDay 34 = .ok (.if_icmp .ge 5, 3) := by decide +kernel
theorem dX2_firstLighterDay_37 : decode cX2_firstLighterDay 37 = .ok (.iload_n 1, 1) := by decide +kernel
theorem dX2_firstLighterDay_38 : decode cX2_firstLighterDay 38 = .ok (.ireturn, 1) := by decide +kernel
theorem dX2_firstLighterDay_39 : decode cX2_firstLighterDay 39 = .ok (.iinc 1 1, 3) := by decide +kernel
theorem dX2_firstLighterDay_42 : decode cX2_firstLighterDay 42 = .ok (.goto (-29), 3) := by decide +kernel
theorem dX2_firstLighterDay_45 : decode cX2_firstLighterDay 45 = .ok (.aload_n 0, 1) := by decide +kernel
theorem dX2_firstLighterDay_46 : decode cX2_firstLighterDay 46 = .ok (.getfield 30, 3) := by decide +kernel
theorem dX2_firstLighterDay_49 : decode cX2_firstLighterDay 49 = .ok (.arraylength, 1) := by decide +kernel
theorem dX2_firstLighterDay_50 : decode cX2_firstLighterDay 50 = .ok (.ireturn, 1) := by decide +kernel
set_option maxRecDepth 20000 in
theorem ggX2_addLossesOf_X2_paintAhead : GoodIn wsX2_addLossesOf wsX2_paintAhead := goodIn_r _ [10, 11, 2, 3, 12, 13, 14, 15, 16, 17, 18, 19, 20, 21, 22, 23, 24, 25, 26, 27, 28, 9, 29, 30, 31, 32, 33, 34, 35, 36, 37, 38, 39, 40, 41, 42, 43, 44, 45, 46, 47, 70, 71, 72, 73, 74, 75, 76, 77, 78, 79, 80, 81, 82, 83, 84, 85] (by decide +kernel) (by decide +kernel)
set_option maxRecDepth 20000 in
theorem gX2_addLossesOf_X2_paintAhead : GoodIn wsX2_addLossesOf (wsV RX2 131 RX2 yX2_paintAhead wsX2_paintAhead) := goodIn_app (goodIn_of _ (by decide +kernel)) ggX2_addLossesOf_X2_paintAhead
set_option maxRecDepth 20000 in
theorem ggX2_addLossesOf_X2_wornAheadWith : GoodIn wsX2_addLossesOf wsX2_wornAheadWith := goodIn_r _ [51, 11, 19, 43, 44, 45, 37, 46, 39, 47, 40, 41, 42, 70, 71, 72, 73, 74, 75, 76, 77, 78, 84, 85] (by decide +kernel) (by decide +kernel)
set_option maxRecDepth 20000 in
theorem gX2_addLossesOf_X2_wornAheadWith : GoodIn wsX2_addLossesOf (wsV RX2 277 RX2 yX2_wornAheadWith wsX2_wornAheadWith) := goodIn_app (goodIn_of _ (by decide +kernel)) ggX2_addLossesOf_X2_wornAheadWith
set_option maxRecDepth 20000 in
theorem ggX2_addLossesOf_X1_findDegrees : GoodIn wsX2_addLossesOf wsX1_findDegrees := goodIn_r _ [56, 57, 58, 59, 24, 25, 26, 60, 61, 62, 55, 63, 64, 65, 66, 67, 68, 69, 79, 80, 81, 82, 83] (by decide +kernel) (by decide +kernel)
set_option maxRecDepth 20000 in
theorem gX2_addLossesOf_X1_findDegrees : GoodIn wsX2_addLossesOf (wsV RX2 68 RX1 yX1_findDegrees wsX1_findDegrees) := goodIn_app (goodIn_of _ (by decide +kernel)) ggX2_addLossesOf_X1_findDegrees
theorem dX2_addLossesOf_0 : decode cX2_addLossesOf 0 = .ok (.aload_n 0, 1) := by decide +kernel
theorem dX2_addLossesOf_1 : decode cX2_addLossesOf 1 = .ok (.iload_n 1, 1) := by decide +kernel
theorem dX2_addLossesOf_2 : decode cX2_addLossesOf 2 = .ok (.invokevirtual 131, 3) := by decide +kernel
theorem dX2_addLossesOf_5 : decode cX2_addLossesOf 5 = .ok (.iconst 0, 1) := by decide +kernel
theorem dX2_addLossesOf_6 : decode cX2_addLossesOf 6 = .ok (.istore_n 2, 1) := by decide +kernel
theorem dX2_addLossesOf_7 : decode cX2_addLossesOf 7 = .ok (.iload_n 2, 1) := by decide +kernel
theorem dX2_addLossesOf_8 : decode cX2_addLossesOf 8 = .ok (.aload_n 0, 1) := by decide +kernel
theorem dX2_addLossesOf_9 : decode cX2_addLossesOf 9 = .ok (.getfield 33, 3) := by decide +kernel
theorem dX2_addLossesOf_12 : decode cX2_addLossesOf 12 = .ok (.arraylength, 1) := by decide +kernel
theorem dX2_addLossesOf_13 : decode cX2_addLossesOf 13 = .ok (.if_icmp .ge 20, 3) := by decide +kernel
theorem dX2_addLossesOf_16 : decode cX2_addLossesOf 16 = .ok (.aload_n 0, 1) := by decide +kernel
theorem dX2_addLossesOf_17 : decode cX2_addLossesOf 17 = .ok (.getfield 33, 3) := by decide +kernel
theorem dX2_addLossesOf_20 : decode cX2_addLossesOf 20 = .ok (.iload_n 2, 1) := by decide +kernel
theorem dX2_addLossesOf_21 : decode cX2_addLossesOf 21 = .ok (.aload_n 0, 1) := by decide +kernel
theorem dX2_addLossesOf_22 : decode cX2_addLossesOf 22 = .ok (.iload_n 2, 1) := by decide +kernel
theorem dX2_addLossesOf_23 : decode cX2_addLossesOf 23 = .ok (.invokevirtual 277, 3) := by decide +kernel
theorem dX2_addLossesOf_26 : decode cX2_addLossesOf 26 = .ok (.iastore, 1) := by decide +kernel
theorem dX2_addLossesOf_27 : decode cX2_addLossesOf 27 = .ok (.iinc 2 1, 3) := by decide +kernel
theorem dX2_addLossesOf_30 : decode cX2_addLossesOf 30 = .ok (.goto (-23), 3) := by decide +kernel
theorem dX2_addLossesOf_33 : decode cX2_addLossesOf 33 = .ok (.aload_n 0, 1) := by decide +kernel
theorem dX2_addLossesOf_34 : decode cX2_addLossesOf 34 = .ok (.getfield 12, 3) := by decide +kernel
theorem dX2_addLossesOf_37 : decode cX2_addLossesOf 37 = .ok (.iload_n 1, 1) := by decide +kernel
theorem dX2_addLossesOf_38 : decode cX2_addLossesOf 38 = .ok (.invokevirtual 68, 3) := by decide +kernel
theorem dX2_addLossesOf_41 : decode cX2_addLossesOf 41 = .ok (.iconst 0, 1) := by decide +kernel
theorem dX2_addLossesOf_42 : decode cX2_addLossesOf 42 = .ok (.istore_n 2, 1) := by decide +kernel
theorem dX2_addLossesOf_43 : decode cX2_addLossesOf 43 = .ok (.iload_n 2, 1) := by decide +kernel
theorem dX2_addLossesOf_44 : decode cX2_addLossesOf 44 = .ok (.aload_n 0, 1) := by decide +kernel
theorem dX2_addLossesOf_45 : decode cX2_addLossesOf 45 = .ok (.getfield 12, 3) := by decide +kernel
theorem dX2_addLossesOf_48 : decode cX2_addLossesOf 48 = .ok (.getfield 128, 3) := by decide +kernel
theorem dX2_addLossesOf_51 : decode cX2_addLossesOf 51 = .ok (.if_icmp .ge 37, 3) := by decide +kernel
theorem dX2_addLossesOf_54 : decode cX2_addLossesOf 54 = .ok (.iload_n 2, 1) := by decide +kernel
theorem dX2_addLossesOf_55 : decode cX2_addLossesOf 55 = .ok (.iload_n 1, 1) := by decide +kernel
theorem dX2_addLossesOf_56 : decode cX2_addLossesOf 56 = .ok (.if_icmp .eq 26, 3) := by decide +kernel
theorem dX2_addLossesOf_59 : decode cX2_addLossesOf 59 = .ok (.aload_n 0, 1) := by decide +kernel
theorem dX2_addLossesOf_60 : decode cX2_addLossesOf 60 = .ok (.getfield 36, 3) := by decide +kernel
theorem dX2_addLossesOf_63 : decode cX2_addLossesOf 63 = .ok (.iload_n 2, 1) := by decide +kernel
theorem dX2_addLossesOf_64 : decode cX2_addLossesOf 64 = .ok (.dup2, 1) := by decide +kernel
theorem dX2_addLossesOf_65 : decode cX2_addLossesOf 65 = .ok (.iaload, 1) := by decide +kernel
theorem dX2_addLossesOf_66 : decode cX2_addLossesOf 66 = .ok (.aload_n 0, 1) := by decide +kernel
theorem dX2_addLossesOf_67 : decode cX2_addLossesOf 67 = .ok (.getfield 33, 3) := by decide +kernel
theorem dX2_addLossesOf_70 : decode cX2_addLossesOf 70 = .ok (.aload_n 0, 1) := by decide +kernel
theorem dX2_addLossesOf_71 : decode cX2_addLossesOf 71 = .ok (.getfield 12, 3) := by decide +kernel
theorem dX2_addLossesOf_74 : decode cX2_addLossesOf 74 = .ok (.getfield 71, 3) := by decide +kernel
theorem dX2_addLossesOf_77 : decode cX2_addLossesOf 77 = .ok (.iload_n 2, 1) := by decide +kernel
theorem dX2_addLossesOf_78 : decode cX2_addLossesOf 78 = .ok (.iaload, 1) := by decide +kernel
theorem dX2_addLossesOf_79 : decode cX2_addLossesOf 79 = .ok (.iaload, 1) := by decide +kernel
theorem dX2_addLossesOf_80 : decode cX2_addLossesOf 80 = .ok (.iadd, 1) := by decide +kernel
theorem dX2_addLossesOf_81 : decode cX2_addLossesOf 81 = .ok (.iastore, 1) := by decide +kernel
theorem dX2_addLossesOf_82 : decode cX2_addLossesOf 82 = .ok (.iinc 2 1, 3) := by decide +kernel
theorem dX2_addLossesOf_85 : decode cX2_addLossesOf 85 = .ok (.goto (-42), 3) := by decide +kernel
theorem dX2_addLossesOf_88 : decode cX2_addLossesOf 88 = .ok (.return_, 1) := by decide +kernel
set_option maxRecDepth 20000 in
theorem ggX2_wornAheadWith_X0_colourOn : GoodIn wsX2_wornAheadWith wsX0_colourOn := goodIn_r _ [7, 8, 9, 10, 11, 6, 12, 22, 23] (by decide +kernel) (by decide +kernel)
set_option maxRecDepth 20000 in
theorem gX2_wornAheadWith_X0_colourOn : GoodIn wsX2_wornAheadWith (wsV RX2 189 RX0 yX0_colourOn wsX0_colourOn) := goodIn_app (goodIn_of _ (by decide +kernel)) ggX2_wornAheadWith_X0_colourOn
theorem dX2_wornAheadWith_0 : decode cX2_wornAheadWith 0 = .ok (.iconst 0, 1) := by decide +kernel
theorem dX2_wornAheadWith_1 : decode cX2_wornAheadWith 1 = .ok (.istore_n 2, 1) := by decide +kernel
theorem dX2_wornAheadWith_2 : decode cX2_wornAheadWith 2 = .ok (.iconst 0, 1) := by decide +kernel
theorem dX2_wornAheadWith_3 : decode cX2_wornAheadWith 3 = .ok (.istore_n 3, 1) := by decide +kernel
theorem dX2_wornAheadWith_4 : decode cX2_wornAheadWith 4 = .ok (.iload_n 3, 1) := by decide +kernel
theorem dX2_wornAheadWith_5 : decode cX2_wornAheadWith 5 = .ok (.aload_n 0, 1) := by decide +kernel
theorem dX2_wornAheadWith_6 : decode cX2_wornAheadWith 6 = .ok (.getfield 30, 3) := by decide +kernel
theorem dX2_wornAheadWith_9 : decode cX2_wornAheadWith 9 = .ok (.arraylength, 1) := by decide +kernel
theorem dX2_wornAheadWith_10 : decode cX2_wornAheadWith 10 = .ok (.if_icmp .ge 35, 3) := by decide +kernel
theorem dX2_wornAheadWith_13 : decode cX2_wornAheadWith 13 = .ok (.aload_n 0, 1) := by decide +kernel
theorem dX2_wornAheadWith_14 : decode cX2_wornAheadWith 14 = .ok (.getfield 30, 3) := by decide +kernel
theorem dX2_wornAheadWith_17 : decode cX2_wornAheadWith 17 = .ok (.iload_n 3, 1) := by decide +kernel
theorem dX2_wornAheadWith_18 : decode cX2_wornAheadWith 18 = .ok (.iaload, 1) := by decide +kernel
theorem dX2_wornAheadWith_19 : decode cX2_wornAheadWith 19 = .ok (.ifCond .ne 17, 3) := by decide +kernel
theorem dX2_wornAheadWith_22 : decode cX2_wornAheadWith 22 = .ok (.aload_n 0, 1) := by decide +kernel
theorem dX2_wornAheadWith_23 : decode cX2_wornAheadWith 23 = .ok (.getfield 19, 3) := by decide +kernel
theorem dX2_wornAheadWith_26 : decode cX2_wornAheadWith 26 = .ok (.bipush 16, 2) := by decide +kernel
theorem dX2_wornAheadWith_28 : decode cX2_wornAheadWith 28 = .ok (.iload_n 1, 1) := by decide +kernel
theorem dX2_wornAheadWith_29 : decode cX2_wornAheadWith 29 = .ok (.iload_n 3, 1) := by decide +kernel
theorem dX2_wornAheadWith_30 : decode cX2_wornAheadWith 30 = .ok (.invokevirtual 189, 3) := by decide +kernel
theorem dX2_wornAheadWith_33 : decode cX2_wornAheadWith 33 = .ok (.ifCond .eq 6, 3) := by decide +kernel
theorem dX2_wornAheadWith_36 : decode cX2_wornAheadWith 36 = .ok (.iinc 2 1, 3) := by decide +kernel
theorem dX2_wornAheadWith_39 : decode cX2_wornAheadWith 39 = .ok (.iinc 3 1, 3) := by decide +kernel
theorem dX2_wornAheadWith_42 : decode cX2_wornAheadWith 42 = .ok (.goto (-38), 3) := by decide +kernel
theorem dX2_wornAheadWith_45 : decode cX2_wornAheadWith 45 = .ok (.iload_n 2, 1) := by decide +kernel
theorem dX2_wornAheadWith_46 : decode cX2_wornAheadWith 46 = .ok (.ireturn, 1) := by decide +kernel
theorem dX3_init_0 : decode cX3_init 0 = .ok (.aload_n 0, 1) := by decide +kernel
theorem dX3_init_1 : decode cX3_init 1 = .ok (.invokespecial 1, 3) := by decide +kernel
theorem dX3_init_4 : decode cX3_init 4 = .ok (.aload_n 0, 1) := by decide +kernel
theorem dX3_init_5 : decode cX3_init 5 = .ok (.iconst 0, 1) := by decide +kernel
theorem dX3_init_6 : decode cX3_init 6 = .ok (.anewarray 7, 3) := by decide +kernel
theorem dX3_init_9 : decode cX3_init 9 = .ok (.putfield 9, 3) := by decide +kernel
theorem dX3_init_12 : decode cX3_init 12 = .ok (.aload_n 0, 1) := by decide +kernel
theorem dX3_init_13 : decode cX3_init 13 = .ok (.iconst 5, 1) := by decide +kernel
theorem dX3_init_14 : decode cX3_init 14 = .ok (.iconst 3, 1) := by decide +kernel
theorem dX3_init_15 : decode cX3_init 15 = .ok (.iconst 2, 1) := by decide +kernel
theorem dX3_init_16 : decode cX3_init 16 = .ok (.multianewarray 15 3, 4) := by decide +kernel
theorem dX3_init_20 : decode cX3_init 20 = .ok (.putfield 17, 3) := by decide +kernel
theorem dX3_init_23 : decode cX3_init 23 = .ok (.aload_n 0, 1) := by decide +kernel
theorem dX3_init_24 : decode cX3_init 24 = .ok (.iconst 0, 1) := by decide +kernel
theorem dX3_init_25 : decode cX3_init 25 = .ok (.anewarray 7, 3) := by decide +kernel
theorem dX3_init_28 : decode cX3_init 28 = .ok (.putfield 20, 3) := by decide +kernel
theorem dX3_init_31 : decode cX3_init 31 = .ok (.return_, 1) := by decide +kernel
theorem dX3_more_0 : decode cX3_more 0 = .ok (.aload_n 0, 1) := by decide +kernel
theorem dX3_more_1 : decode cX3_more 1 = .ok (.arraylength, 1) := by decide +kernel
theorem dX3_more_2 : decode cX3_more 2 = .ok (.iconst 1, 1) := by decide +kernel
theorem dX3_more_3 : decode cX3_more 3 = .ok (.iadd, 1) := by decide +kernel
theorem dX3_more_4 : decode cX3_more 4 = .ok (.anewarray 7, 3) := by decide +kernel
theorem dX3_more_7 : decode cX3_more 7 = .ok (.astore_n 2, 1) := by decide +kernel
theorem dX3_more_8 : decode cX3_more 8 = .ok (.iconst 0, 1) := by decide +kernel
theorem dX3_more_9 : decode cX3_more 9 = .ok (.istore_n 3, 1) := by decide +kernel
theorem dX3_more_10 : decode cX3_more 10 = .ok (.iload_n 3, 1) := by decide +kernel
theorem dX3_more_11 : decode cX3_more 11 = .ok (.aload_n 0, 1) := by decide +kernel
theorem dX3_more_12 : decode cX3_more 12 = .ok (.arraylength, 1) := by decide +kernel
theorem dX3_more_13 : decode cX3_more 13 = .ok (.if_icmp .ge 15, 3) := by decide +kernel
theorem dX3_more_16 : decode cX3_more 16 = .ok (.aload_n 2, 1) := by decide +kernel
theorem dX3_more_17 : decode cX3_more 17 = .ok (.iload_n 3, 1) := by decide +kernel
theorem dX3_more_18 : decode cX3_more 18 = .ok (.aload_n 0, 1) := by decide +kernel
theorem dX3_more_19 : decode cX3_more 19 = .ok (.iload_n 3, 1) := by decide +kernel
theorem dX3_more_20 : decode cX3_more 20 = .ok (.aaload, 1) := by decide +kernel
theorem dX3_more_21 : decode cX3_more 21 = .ok (.aastore, 1) := by decide +kernel
theorem dX3_more_22 : decode cX3_more 22 = .ok (.iinc 3 1, 3) := by decide +kernel
theorem dX3_more_25 : decode cX3_more 25 = .ok (.goto (-15), 3) := by decide +kernel
theorem dX3_more_28 : decode cX3_more 28 = .ok (.aload_n 2, 1) := by decide +kernel
theorem dX3_more_29 : decode cX3_more 29 = .ok (.aload_n 0, 1) := by decide +kernel
theorem dX3_more_30 : decode cX3_more 30 = .ok (.arraylength, 1) := by decide +kernel
theorem dX3_more_31 : decode cX3_more 31 = .ok (.aload_n 1, 1) := by decide +kernel
theorem dX3_more_32 : decode cX3_more 32 = .ok (.aastore, 1) := by decide +kernel
theorem dX3_more_33 : decode cX3_more 33 = .ok (.aload_n 2, 1) := by decide +kernel
theorem dX3_more_34 : decode cX3_more 34 = .ok (.areturn, 1) := by decide +kernel
theorem dX3_degrees_0 : decode cX3_degrees 0 = .ok (.aload_n 0, 1) := by decide +kernel
theorem dX3_degrees_1 : decode cX3_degrees 1 = .ok (.getfield 9, 3) := by decide +kernel
theorem dX3_degrees_4 : decode cX3_degrees 4 = .ok (.arraylength, 1) := by decide +kernel
theorem dX3_degrees_5 : decode cX3_degrees 5 = .ok (.istore_n 1, 1) := by decide +kernel
theorem dX3_degrees_6 : decode cX3_degrees 6 = .ok (.iload_n 1, 1) := by decide +kernel
theorem dX3_degrees_7 : decode cX3_degrees 7 = .ok (.iload_n 1, 1) := by decide +kernel
theorem dX3_degrees_8 : decode cX3_degrees 8 = .ok (.multianewarray 23 2, 4) := by decide +kernel
theorem dX3_degrees_12 : decode cX3_degrees 12 = .ok (.astore_n 2, 1) := by decide +kernel
theorem dX3_degrees_13 : decode cX3_degrees 13 = .ok (.iconst 0, 1) := by decide +kernel
theorem dX3_degrees_14 : decode cX3_degrees 14 = .ok (.istore_n 3, 1) := by decide +kernel
theorem dX3_degrees_15 : decode cX3_degrees 15 = .ok (.iload_n 3, 1) := by decide +kernel
theorem dX3_degrees_16 : decode cX3_degrees 16 = .ok (.iload_n 1, 1) := by decide +kernel
theorem dX3_degrees_17 : decode cX3_degrees 17 = .ok (.if_icmp .ge 80, 3) := by decide +kernel
theorem dX3_degrees_20 : decode cX3_degrees 20 = .ok (.iconst 0, 1) := by decide +kernel
theorem dX3_degrees_21 : decode cX3_degrees 21 = .ok (.istore 4, 2) := by decide +kernel
theorem dX3_degrees_23 : decode cX3_degrees 23 = .ok (.iload 4, 2) := by decide +kernel
theorem dX3_degrees_25 : decode cX3_degrees 25 = .ok (.iload_n 1, 1) := by decide +kernel
theorem dX3_degrees_26 : decode cX3_degrees 26 = .ok (.if_icmp .ge 65, 3) := by decide +kernel
theorem dX3_degrees_29 : decode cX3_degrees 29 = .ok (.aload_n 2, 1) := by decide +kernel
theorem dX3_degrees_30 : decode cX3_degrees 30 = .ok (.iload_n 3, 1) := by decide +kernel
theorem dX3_degrees_31 : decode cX3_degrees 31 = .ok (.aaload, 1) := by decide +kernel
theorem dX3_degrees_32 : decode cX3_degrees 32 = .ok (.iload 4, 2) := by decide +kernel
theorem dX3_degrees_34 : decode cX3_degrees 34 = .ok (.iload_n 3, 1) := by decide +kernel
theorem dX3_degrees_35 : decode cX3_degrees 35 = .ok (.iload 4, 2) := by decide +kernel
theorem dX3_degrees_37 : decode cX3_degrees 37 = .ok (.if_icmp .eq 46, 3) := by decide +kernel
theorem dX3_degrees_40 : decode cX3_degrees 40 = .ok (.aload_n 0, 1) := by decide +kernel
theorem dX3_degrees_41 : decode cX3_degrees 41 = .ok (.getfield 9, 3) := by decide +kernel
theorem dX3_degrees_44 : decode cX3_degrees 44 = .ok (.iload_n 3, 1) := by decide +kernel
theorem dX3_degrees_45 : decode cX3_degrees 45 = .ok (.aaload, 1) := by decide +kernel
theorem dX3_degrees_46 : decode cX3_degrees 46 = .ok (.iconst 0, 1) := by decide +kernel
theorem dX3_degrees_47 : decode cX3_degrees 47 = .ok (.iaload, 1) := by decide +kernel
theorem dX3_degrees_48 : decode cX3_degrees 48 = .ok (.iload 4, 2) := by decide +kernel
theorem dX3_degrees_50 : decode cX3_degrees 50 = .ok (.if_icmp .eq 29, 3) := by decide +kernel
theorem dX3_degrees_53 : decode cX3_degrees 53 = .ok (.aload_n 0, 1) := by decide +kernel
theorem dX3_degrees_54 : decode cX3_degrees 54 = .ok (.getfield 9, 3) := by decide +kernel
theorem dX3_degrees_57 : decode cX3_degrees 57 = .ok (.iload 4, 2) := by decide +kernel
theorem dX3_degrees_59 : decode cX3_degrees 59 = .ok (.aaload, 1) := by decide +kernel
theorem dX3_degrees_60 : decode cX3_degrees 60 = .ok (.iconst 0, 1) := by decide +kernel
theorem dX3_degrees_61 : decode cX3_degrees 61 = .ok (.iaload, 1) := by decide +kernel
theorem dX3_degrees_62 : decode cX3_degrees 62 = .ok (.iload_n 3, 1) := by decide +kernel
theorem dX3_degrees_63 : decode cX3_degrees 63 = .ok (.if_icmp .eq 16, 3) := by decide +kernel
theorem dX3_degrees_66 : decode cX3_degrees 66 = .ok (.aload_n 0, 1) := by decide +kernel
theorem dX3_degrees_67 : decode cX3_degrees 67 = .ok (.getfield 9, 3) := by decide +kernel
theorem dX3_degrees_70 : decode cX3_degrees 70 = .ok (.iload_n 3, 1) := by decide +kernel
theorem dX3_degrees_71 : decode cX3_degrees 71 = .ok (.aaload, 1) := by decide +kernel
theorem dX3_degrees_72 : decode cX3_degrees 72 = .ok (.iconst 1, 1) := by decide +kernel
theorem dX3_degrees_73 : decode cX3_degrees 73 = .ok (.iaload, 1) := by decide +kernel
theorem dX3_degrees_74 : decode cX3_degrees 74 = .ok (.iload 4, 2) := by decide +kernel
theorem dX3_degrees_76 : decode cX3_degrees 76 = .ok (.if_icmp .ne 7, 3) := by decide +kernel
theorem dX3_degrees_79 : decode cX3_degrees 79 = .ok (.iconst 1, 1) := by decide +kernel
theorem dX3_degrees_80 : decode cX3_degrees 80 = .ok (.goto 4, 3) := by decide +kernel
theorem dX3_degrees_83 : decode cX3_degrees 83 = .ok (.iconst 0, 1) := by decide +kernel
theorem dX3_degrees_84 : decode cX3_degrees 84 = .ok (.iastore, 1) := by decide +kernel
theorem dX3_degrees_85 : decode cX3_degrees 85 = .ok (.iinc 4 1, 3) := by decide +kernel
theorem dX3_degrees_88 : decode cX3_degrees 88 = .ok (.goto (-65), 3) := by decide +kernel
theorem dX3_degrees_91 : decode cX3_degrees 91 = .ok (.iinc 3 1, 3) := by decide +kernel
theorem dX3_degrees_94 : decode cX3_degrees 94 = .ok (.goto (-79), 3) := by decide +kernel
theorem dX3_degrees_97 : decode cX3_degrees 97 = .ok (.iconst 2, 1) := by decide +kernel
theorem dX3_degrees_98 : decode cX3_degrees 98 = .ok (.istore_n 3, 1) := by decide +kernel
theorem dX3_degrees_99 : decode cX3_degrees 99 = .ok (.iload_n 3, 1) := by decide +kernel
theorem dX3_degrees_100 : decode cX3_degrees 100 = .ok (.iconst 5, 1) := by decide +kernel
theorem dX3_degrees_101 : decode cX3_degrees 101 = .ok (.if_icmp .ge 106, 3) := by decide +kernel
theorem dX3_degrees_104 : decode cX3_degrees 104 = .ok (.iconst 0, 1) := by decide +kernel
theorem dX3_degrees_105 : decode cX3_degrees 105 = .ok (.istore 4, 2) := by decide +kernel
theorem dX3_degrees_107 : decode cX3_degrees 107 = .ok (.iload 4, 2) := by decide +kernel
theorem dX3_degrees_109 : decode cX3_degrees 109 = .ok (.iload_n 1, 1) := by decide +kernel
theorem dX3_degrees_110 : decode cX3_degrees 110 = .ok (.if_icmp .ge 91, 3) := by decide +kernel
theorem dX3_degrees_113 : decode cX3_degrees 113 = .ok (.iconst 0, 1) := by decide +kernel
theorem dX3_degrees_114 : decode cX3_degrees 114 = .ok (.istore 5, 2) := by decide +kernel
theorem dX3_degrees_116 : decode cX3_degrees 116 = .ok (.iload 5, 2) := by decide +kernel
theorem dX3_degrees_118 : decode cX3_degrees 118 = .ok (.iload_n 1, 1) := by decide +kernel
theorem dX3_degrees_119 : decode cX3_degrees 119 = .ok (.if_icmp .ge 76, 3) := by decide +kernel
theorem dX3_degrees_122 : decode cX3_degrees 122 = .ok (.aload_n 2, 1) := by decide +kernel
theorem dX3_degrees_123 : decode cX3_degrees 123 = .ok (.iload 4, 2) := by decide +kernel
theorem dX3_degrees_125 : decode cX3_degrees 125 = .ok (.aaload, 1) := by decide +kernel
theorem dX3_degrees_126 : decode cX3_degrees 126 = .ok (.iload 5, 2) := by decide +kernel
theorem dX3_degrees_128 : decode cX3_degrees 128 = .ok (.iaload, 1) := by decide +kernel
theorem dX3_degrees_129 : decode cX3_degrees 129 = .ok (.iload_n 3, 1) := by decide +kernel
theorem dX3_degrees_130 : decode cX3_degrees 130 = .ok (.iconst 1, 1) := by decide +kernel
theorem dX3_degrees_131 : decode cX3_degrees 131 = .ok (.isub, 1) := by decide +kernel
theorem dX3_degrees_132 : decode cX3_degrees 132 = .ok (.if_icmp .eq 6, 3) := by decide +kernel
theorem dX3_degrees_135 : decode cX3_degrees 135 = .ok (.goto 54, 3) := by decide +kernel
theorem dX3_degrees_138 : decode cX3_degrees 138 = .ok (.iconst 0, 1) := by decide +kernel
theorem dX3_degrees_139 : decode cX3_degrees 139 = .ok (.istore 6, 2) := by decide +kernel
theorem dX3_degrees_141 : decode cX3_degrees 141 = .ok (.iload 6, 2) := by decide +kernel
theorem dX3_degrees_143 : decode cX3_degrees 143 = .ok (.iload_n 1, 1) := by decide +kernel
theorem dX3_degrees_144 : decode cX3_degrees 144 = .ok (.if_icmp .ge 45, 3) := by decide +kernel
theorem dX3_degrees_147 : decode cX3_degrees 147 = .ok (.iload 6, 2) := by decide +kernel
theorem dX3_degrees_149 : decode cX3_degrees 149 = .ok (.iload 4, 2) := by decide +kernel
theorem dX3_degrees_151 : decode cX3_degrees 151 = .ok (.if_icmp .eq 32, 3) := by decide +kernel
theorem dX3_degrees_154 : decode cX3_degrees 154 = .ok (.aload_n 2, 1) := by decide +kernel
theorem dX3_degrees_155 : decode cX3_degrees 155 = .ok (.iload 4, 2) := by decide +kernel
theorem dX3_degrees_157 : decode cX3_degrees 157 = .ok (.aaload, 1) := by decide +kernel
theorem dX3_degrees_158 : decode cX3_degrees 158 = .ok (.iload 6, 2) := by decide +kernel
theorem dX3_degrees_160 : decode cX3_degrees 160 = .ok (.iaload, 1) := by decide +kernel
theorem dX3_degrees_161 : decode cX3_degrees 161 = .ok (.ifCond .ne 22, 3) := by decide +kernel
theorem dX3_degrees_164 : decode cX3_degrees 164 = .ok (.aload_n 2, 1) := by decide +kernel
theorem dX3_degrees_165 : decode cX3_degrees 165 = .ok (.iload 5, 2) := by decide +kernel
theorem dX3_degrees_167 : decode cX3_degrees 167 = .ok (.aaload, 1) := by decide +kernel
theorem dX3_degrees_168 : decode cX3_degrees 168 = .ok (.iload 6, 2) := by decide +kernel
theorem dX3_degrees_170 : decode cX3_degrees 170 = .ok (.iaload, 1) := by decide +kernel
theorem dX3_degrees_171 : decode cX3_degrees 171 = .ok (.iconst 1, 1) := by decide +kernel
theorem dX3_degrees_172 : decode cX3_degrees 172 = .ok (.if_icmp .ne 11, 3) := by decide +kernel
theorem dX3_degrees_175 : decode cX3_degrees 175 = .ok (.aload_n 2, 1) := by decide +kernel
theorem dX3_degrees_176 : decode cX3_degrees 176 = .ok (.iload 4, 2) := by decide +kernel
theorem dX3_degrees_178 : decode cX3_degrees 178 = .ok (.aaload, 1) := by decide +kernel
theorem dX3_degrees_179 : decode cX3_degrees 179 = .ok (.iload 6, 2) := by decide +kernel
theorem dX3_degrees_181 : decode cX3_degrees 181 = .ok (.iload_n 3, 1) := by decide +kernel
theorem dX3_degrees_182 : decode cX3_degrees 182 = .ok (.iastore, 1) := by decide +kernel
theorem dX3_degrees_183 : decode cX3_degrees 183 = .ok (.iinc 6 1, 3) := by decide +kernel
theorem dX3_degrees_186 : decode cX3_degrees 186 = .ok (.goto (-45), 3) := by decide +kernel
theorem dX3_degrees_189 : decode cX3_degrees 189 = .ok (.iinc 5 1, 3) := by decide +kernel
theorem dX3_degrees_192 : decode cX3_degrees 192 = .ok (.goto (-76), 3) := by decide +kernel
theorem dX3_degrees_195 : decode cX3_degrees 195 = .ok (.iinc 4 1, 3) := by decide +kernel
theorem dX3_degrees_198 : decode cX3_degrees 198 = .ok (.goto (-91), 3) := by decide +kernel
theorem dX3_degrees_201 : decode cX3_degrees 201 = .ok (.iinc 3 1, 3) := by decide +kernel
theorem dX3_degrees_204 : decode cX3_degrees 204 = .ok (.goto (-105), 3) := by decide +kernel
theorem dX3_degrees_207 : decode cX3_degrees 207 = .ok (.aload_n 2, 1) := by decide +kernel
theorem dX3_degrees_208 : decode cX3_degrees 208 = .ok (.areturn, 1) := by decide +kernel
theorem dX3_length_0 : decode cX3_length 0 = .ok (.aload_n 0, 1) := by decide +kernel
theorem dX3_length_1 : decode cX3_length 1 = .ok (.getfield 17, 3) := by decide +kernel
theorem dX3_length_4 : decode cX3_length 4 = .ok (.iload_n 1, 1) := by decide +kernel
theorem dX3_length_5 : decode cX3_length 5 = .ok (.aaload, 1) := by decide +kernel
theorem dX3_length_6 : decode cX3_length 6 = .ok (.iconst 0, 1) := by decide +kernel
theorem dX3_length_7 : decode cX3_length 7 = .ok (.aaload, 1) := by decide +kernel
theorem dX3_length_8 : decode cX3_length 8 = .ok (.iconst 1, 1) := by decide +kernel
theorem dX3_length_9 : decode cX3_length 9 = .ok (.iaload, 1) := by decide +kernel
theorem dX3_length_10 : decode cX3_length 10 = .ok (.aload_n 0, 1) := by decide +kernel
theorem dX3_length_11 : decode cX3_length 11 = .ok (.getfield 17, 3) := by decide +kernel
theorem dX3_length_14 : decode cX3_length 14 = .ok (.iload_n 1, 1) := by decide +kernel
theorem dX3_length_15 : decode cX3_length 15 = .ok (.aaload, 1) := by decide +kernel
theorem dX3_length_16 : decode cX3_length 16 = .ok (.iconst 1, 1) := by decide +kernel
theorem dX3_length_17 : decode cX3_length 17 = .ok (.aaload, 1) := by decide +kernel
theorem dX3_length_18 : decode cX3_length 18 = .ok (.iconst 1, 1) := by decide +kernel
theorem dX3_length_19 : decode cX3_length 19 = .ok (.iaload, 1) := by decide +kernel
theorem dX3_length_20 : decode cX3_length 20 = .ok (.iadd, 1) := by decide +kernel
theorem dX3_length_21 : decode cX3_length 21 = .ok (.aload_n 0, 1) := by decide +kernel
theorem dX3_length_22 : decode cX3_length 22 = .ok (.getfield 17, 3) := by decide +kernel
theorem dX3_length_25 : decode cX3_length 25 = .ok (.iload_n 1, 1) := by decide +kernel
theorem dX3_length_26 : decode cX3_length 26 = .ok (.aaload, 1) := by decide +kernel
theorem dX3_length_27 : decode cX3_length 27 = .ok (.iconst 2, 1) := by decide +kernel
theorem dX3_length_28 : decode cX3_length 28 = .ok (.aaload, 1) := by decide +kernel
theorem dX3_length_29 : decode cX3_length 29 = .ok (.iconst 1, 1) := by decide +kernel
theorem dX3_length_30 : decode cX3_length 30 = .ok (.iaload, 1) := by decide +kernel
theorem dX3_length_31 : decode cX3_length 31 = .ok (.iadd, 1) := by decide +kernel
theorem dX3_length_32 : decode cX3_length 32 = .ok (.ireturn, 1) := by decide +kernel
theorem dX3_on_0 : decode cX3_on 0 = .ok (.iload_n 1, 1) := by decide +kernel
theorem dX3_on_1 : decode cX3_on 1 = .ok (.aload_n 0, 1) := by decide +kernel
theorem dX3_on_2 : decode cX3_on 2 = .ok (.iconst 2, 1) := by decide +kernel
theorem dX3_on_3 : decode cX3_on 3 = .ok (.iaload, 1) := by decide +kernel
theorem dX3_on_4 : decode cX3_on 4 = .ok (.isub, 1) := by decide +kernel
theorem dX3_on_5 : decode cX3_on 5 = .ok (.istore_n 2, 1) := by decide +kernel
theorem dX3_on_6 : decode cX3_on 6 = .ok (.iconst 0, 1) := by decide +kernel
theorem dX3_on_7 : decode cX3_on 7 = .ok (.istore_n 3, 1) := by decide +kernel
theorem dX3_on_8 : decode cX3_on 8 = .ok (.iload_n 3, 1) := by decide +kernel
theorem dX3_on_9 : decode cX3_on 9 = .ok (.iconst 3, 1) := by decide +kernel
theorem dX3_on_10 : decode cX3_on 10 = .ok (.if_icmp .ge 38, 3) := by decide +kernel
theorem dX3_on_13 : decode cX3_on 13 = .ok (.iload_n 2, 1) := by decide +kernel
theorem dX3_on_14 : decode cX3_on 14 = .ok (.aload_n 0, 1) := by decide +kernel
theorem dX3_on_15 : decode cX3_on 15 = .ok (.iconst 4, 1) := by decide +kernel
theorem dX3_on_16 : decode cX3_on 16 = .ok (.iconst 2, 1) := by decide +kernel
theorem dX3_on_17 : decode cX3_on 17 = .ok (.iload_n 3, 1) := by decide +kernel
theorem dX3_on_18 : decode cX3_on 18 = .ok (.imul, 1) := by decide +kernel
theorem dX3_on_19 : decode cX3_on 19 = .ok (.iadd, 1) := by decide +kernel
theorem dX3_on_20 : decode cX3_on 20 = .ok (.iaload, 1) := by decide +kernel
theorem dX3_on_21 : decode cX3_on 21 = .ok (.if_icmp .ge 11, 3) := by decide +kernel
theorem dX3_on_24 : decode cX3_on 24 = .ok (.aload_n 0, 1) := by decide +kernel
theorem dX3_on_25 : decode cX3_on 25 = .ok (.iconst 3, 1) := by decide +kernel
theorem dX3_on_26 : decode cX3_on 26 = .ok (.iconst 2, 1) := by decide +kernel
theorem dX3_on_27 : decode cX3_on 27 = .ok (.iload_n 3, 1) := by decide +kernel
theorem dX3_on_28 : decode cX3_on 28 = .ok (.imul, 1) := by decide +kernel
theorem dX3_on_29 : decode cX3_on 29 = .ok (.iadd, 1) := by decide +kernel
theorem dX3_on_30 : decode cX3_on 30 = .ok (.iaload, 1) := by decide +kernel
theorem dX3_on_31 : decode cX3_on 31 = .ok (.ireturn, 1) := by decide +kernel
theorem dX3_on_32 : decode cX3_on 32 = .ok (.iload_n 2, 1) := by decide +kernel
theorem dX3_on_33 : decode cX3_on 33 = .ok (.aload_n 0, 1) := by decide +kernel
theorem dX3_on_34 : decode cX3_on 34 = .ok (.iconst 4, 1) := by decide +kernel
theorem dX3_on_35 : decode cX3_on 35 = .ok (.iconst 2, 1) := by decide +kernel
theorem dX3_on_36 : decode cX3_on 36 = .ok (.iload_n 3, 1) := by decide +kernel
theorem dX3_on_37 : decode cX3_on 37 = .ok (.imul, 1) := by decide +kernel
theorem dX3_on_38 : decode cX3_on 38 = .ok (.iadd, 1) := by decide +kernel
theorem dX3_on_39 : decode cX3_on 39 = .ok (.iaload, 1) := by decide +kernel
theorem dX3_on_40 : decode cX3_on 40 = .ok (.isub, 1) := by decide +kernel
theorem dX3_on_41 : decode cX3_on 41 = .ok (.istore_n 2, 1) := by decide +kernel
theorem dX3_on_42 : decode cX3_on 42 = .ok (.iinc 3 1, 3) := by decide +kernel
theorem dX3_on_45 : decode cX3_on 45 = .ok (.goto (-37), 3) := by decide +kernel
theorem dX3_on_48 : decode cX3_on 48 = .ok (.iconst (-1), 1) := by decide +kernel
theorem dX3_on_49 : decode cX3_on 49 = .ok (.ireturn, 1) := by decide +kernel
theorem dX3_end_0 : decode cX3_end 0 = .ok (.aload_n 0, 1) := by decide +kernel
theorem dX3_end_1 : decode cX3_end 1 = .ok (.iconst 2, 1) := by decide +kernel
theorem dX3_end_2 : decode cX3_end 2 = .ok (.iaload, 1) := by decide +kernel
theorem dX3_end_3 : decode cX3_end 3 = .ok (.aload_n 0, 1) := by decide +kernel
theorem dX3_end_4 : decode cX3_end 4 = .ok (.iconst 4, 1) := by decide +kernel
theorem dX3_end_5 : decode cX3_end 5 = .ok (.iaload, 1) := by decide +kernel
theorem dX3_end_6 : decode cX3_end 6 = .ok (.iadd, 1) := by decide +kernel
theorem dX3_end_7 : decode cX3_end 7 = .ok (.aload_n 0, 1) := by decide +kernel
theorem dX3_end_8 : decode cX3_end 8 = .ok (.bipush 6, 2) := by decide +kernel
theorem dX3_end_10 : decode cX3_end 10 = .ok (.iaload, 1) := by decide +kernel
theorem dX3_end_11 : decode cX3_end 11 = .ok (.iadd, 1) := by decide +kernel
theorem dX3_end_12 : decode cX3_end 12 = .ok (.aload_n 0, 1) := by decide +kernel
theorem dX3_end_13 : decode cX3_end 13 = .ok (.bipush 8, 2) := by decide +kernel
theorem dX3_end_15 : decode cX3_end 15 = .ok (.iaload, 1) := by decide +kernel
theorem dX3_end_16 : decode cX3_end 16 = .ok (.iadd, 1) := by decide +kernel
theorem dX3_end_17 : decode cX3_end 17 = .ok (.ireturn, 1) := by decide +kernel
set_option maxRecDepth 20000 in
theorem ggX3_wears_X3_on : GoodIn wsX3_wears wsX3_on := goodIn_r _ [9] (by decide +kernel) (by decide +kernel)
set_option maxRecDepth 20000 in
theorem gX3_wears_X3_on : GoodIn wsX3_wears (va_wsS RX3 24 yX3_on wsX3_on) := goodIn_app (goodIn_of _ (by decide +kernel)) ggX3_wears_X3_on
theorem dX3_wears_0 : decode cX3_wears 0 = .ok (.iconst 0, 1) := by decide +kernel
theorem dX3_wears_1 : decode cX3_wears 1 = .ok (.istore_n 3, 1) := by decide +kernel
theorem dX3_wears_2 : decode cX3_wears 2 = .ok (.aload_n 0, 1) := by decide +kernel
theorem dX3_wears_3 : decode cX3_wears 3 = .ok (.getfield 20, 3) := by decide +kernel
theorem dX3_wears_6 : decode cX3_wears 6 = .ok (.astore 4, 2) := by decide +kernel
theorem dX3_wears_8 : decode cX3_wears 8 = .ok (.aload 4, 2) := by decide +kernel
theorem dX3_wears_10 : decode cX3_wears 10 = .ok (.arraylength, 1) := by decide +kernel
theorem dX3_wears_11 : decode cX3_wears 11 = .ok (.istore 5, 2) := by decide +kernel
theorem dX3_wears_13 : decode cX3_wears 13 = .ok (.iconst 0, 1) := by decide +kernel
theorem dX3_wears_14 : decode cX3_wears 14 = .ok (.istore 6, 2) := by decide +kernel
theorem dX3_wears_16 : decode cX3_wears 16 = .ok (.iload 6, 2) := by decide +kernel
theorem dX3_wears_18 : decode cX3_wears 18 = .ok (.iload 5, 2) := by decide +kernel
theorem dX3_wears_20 : decode cX3_wears 20 = .ok (.if_icmp .ge 35, 3) := by decide +kernel
theorem dX3_wears_23 : decode cX3_wears 23 = .ok (.aload 4, 2) := by decide +kernel
theorem dX3_wears_25 : decode cX3_wears 25 = .ok (.iload 6, 2) := by decide +kernel
theorem dX3_wears_27 : decode cX3_wears 27 = .ok (.aaload, 1) := by decide +kernel
theorem dX3_wears_28 : decode cX3_wears 28 = .ok (.astore 7, 2) := by decide +kernel
theorem dX3_wears_30 : decode cX3_wears 30 = .ok (.aload 7, 2) := by decide +kernel
theorem dX3_wears_32 : decode cX3_wears 32 = .ok (.iconst 0, 1) := by decide +kernel
theorem dX3_wears_33 : decode cX3_wears 33 = .ok (.iaload, 1) := by decide +kernel
theorem dX3_wears_34 : decode cX3_wears 34 = .ok (.iload_n 1, 1) := by decide +kernel
theorem dX3_wears_35 : decode cX3_wears 35 = .ok (.if_icmp .ne 14, 3) := by decide +kernel
theorem dX3_wears_38 : decode cX3_wears 38 = .ok (.iload_n 3, 1) := by decide +kernel
theorem dX3_wears_39 : decode cX3_wears 39 = .ok (.aload 7, 2) := by decide +kernel
theorem dX3_wears_41 : decode cX3_wears 41 = .ok (.iload_n 2, 1) := by decide +kernel
theorem dX3_wears_42 : decode cX3_wears 42 = .ok (.invokestatic 24, 3) := by decide +kernel
theorem dX3_wears_45 : decode cX3_wears 45 = .ok (.invokestatic 28, 3) := by decide +kernel
theorem dX3_wears_48 : decode cX3_wears 48 = .ok (.istore_n 3, 1) := by decide +kernel
theorem dX3_wears_49 : decode cX3_wears 49 = .ok (.iinc 6 1, 3) := by decide +kernel
theorem dX3_wears_52 : decode cX3_wears 52 = .ok (.goto (-36), 3) := by decide +kernel
theorem dX3_wears_55 : decode cX3_wears 55 = .ok (.iload_n 3, 1) := by decide +kernel
theorem dX3_wears_56 : decode cX3_wears 56 = .ok (.ireturn, 1) := by decide +kernel
set_option maxRecDepth 20000 in
theorem ggX3_left_X3_end : GoodIn wsX3_left wsX3_end := goodIn_r _ [10] (by decide +kernel) (by decide +kernel)
set_option maxRecDepth 20000 in
theorem gX3_left_X3_end : GoodIn wsX3_left (va_wsS RX3 34 yX3_end wsX3_end) := goodIn_app (goodIn_of _ (by decide +kernel)) ggX3_left_X3_end
theorem dX3_left_0 : decode cX3_left 0 = .ok (.iconst 0, 1) := by decide +kernel
theorem dX3_left_1 : decode cX3_left 1 = .ok (.istore_n 3, 1) := by decide +kernel
theorem dX3_left_2 : decode cX3_left 2 = .ok (.aload_n 0, 1) := by decide +kernel
theorem dX3_left_3 : decode cX3_left 3 = .ok (.getfield 20, 3) := by decide +kernel
theorem dX3_left_6 : decode cX3_left 6 = .ok (.astore 4, 2) := by decide +kernel
theorem dX3_left_8 : decode cX3_left 8 = .ok (.aload 4, 2) := by decide +kernel
theorem dX3_left_10 : decode cX3_left 10 = .ok (.arraylength, 1) := by decide +kernel
theorem dX3_left_11 : decode cX3_left 11 = .ok (.istore 5, 2) := by decide +kernel
theorem dX3_left_13 : decode cX3_left 13 = .ok (.iconst 0, 1) := by decide +kernel
theorem dX3_left_14 : decode cX3_left 14 = .ok (.istore 6, 2) := by decide +kernel
theorem dX3_left_16 : decode cX3_left 16 = .ok (.iload 6, 2) := by decide +kernel
theorem dX3_left_18 : decode cX3_left 18 = .ok (.iload 5, 2) := by decide +kernel
theorem dX3_left_20 : decode cX3_left 20 = .ok (.if_icmp .ge 51, 3) := by decide +kernel
theorem dX3_left_23 : decode cX3_left 23 = .ok (.aload 4, 2) := by decide +kernel
theorem dX3_left_25 : decode cX3_left 25 = .ok (.iload 6, 2) := by decide +kernel
theorem dX3_left_27 : decode cX3_left 27 = .ok (.aaload, 1) := by decide +kernel
theorem dX3_left_28 : decode cX3_left 28 = .ok (.astore 7, 2) := by decide +kernel
theorem dX3_left_30 : decode cX3_left 30 = .ok (.aload 7, 2) := by decide +kernel
theorem dX3_left_32 : decode cX3_left 32 = .ok (.iconst 0, 1) := by decide +kernel
theorem dX3_left_33 : decode cX3_left 33 = .ok (.iaload, 1) := by decide +kernel
theorem dX3_left_34 : decode cX3_left 34 = .ok (.iload_n 1, 1) := by decide +kernel
theorem dX3_left_35 : decode cX3_left 35 = .ok (.if_icmp .ne 30, 3) := by decide +kernel
theorem dX3_left_38 : decode cX3_left 38 = .ok (.iload_n 2, 1) := by decide +kernel
theorem dX3_left_39 : decode cX3_left 39 = .ok (.ifCond .lt 11, 3) := by decide +kernel
theorem dX3_left_42 : decode cX3_left 42 = .ok (.aload 7, 2) := by decide +kernel
theorem dX3_left_44 : decode cX3_left 44 = .ok (.iconst 1, 1) := by decide +kernel
theorem dX3_left_45 : decode cX3_left 45 = .ok (.iaload, 1) := by decide +kernel
theorem dX3_left_46 : decode cX3_left 46 = .ok (.iload_n 2, 1) := by decide +kernel
theorem dX3_left_47 : decode cX3_left 47 = .ok (.if_icmp .ne 18, 3) := by decide +kernel
theorem dX3_left_50 : decode cX3_left 50 = .ok (.iload_n 3, 1) := by decide +kernel
theorem dX3_left_51 : decode cX3_left 51 = .ok (.aload 7, 2) := by decide +kernel
theorem dX3_left_53 : decode cX3_left 53 = .ok (.invokestatic 34, 3) := by decide +kernel
theorem dX3_left_56 : decode cX3_left 56 = .ok (.aload_n 0, 1) := by decide +kernel
theorem dX3_left_57 : decode cX3_left 57 = .ok (.getfield 38, 3) := by decide +kernel
theorem dX3_left_60 : decode cX3_left 60 = .ok (.isub, 1) := by decide +kernel
theorem dX3_left_61 : decode cX3_left 61 = .ok (.invokestatic 28, 3) := by decide +kernel
theorem dX3_left_64 : decode cX3_left 64 = .ok (.istore_n 3, 1) := by decide +kernel
theorem dX3_left_65 : decode cX3_left 65 = .ok (.iinc 6 1, 3) := by decide +kernel
theorem dX3_left_68 : decode cX3_left 68 = .ok (.goto (-52), 3) := by decide +kernel
theorem dX3_left_71 : decode cX3_left 71 = .ok (.iload_n 3, 1) := by decide +kernel
theorem dX3_left_72 : decode cX3_left 72 = .ok (.ireturn, 1) := by decide +kernel
set_option maxRecDepth 20000 in
theorem ggX3_brought_X3_degrees : GoodIn wsX3_brought wsX3_degrees := goodIn_r _ [10, 2, 11, 4, 19, 20, 21, 22, 23] (by decide +kernel) (by decide +kernel)
set_option maxRecDepth 20000 in
theorem gX3_brought_X3_degrees : GoodIn wsX3_brought (wsV RX3 42 RX3 yX3_degrees wsX3_degrees) := goodIn_app (goodIn_of _ (by decide +kernel)) ggX3_brought_X3_degrees
set_option maxRecDepth 20000 in
theorem ggX3_brought_X3_length : GoodIn wsX3_brought wsX3_length := goodIn_r _ [15, 3, 19, 20, 21, 22, 23] (by decide +kernel) (by decide +kernel)
set_option maxRecDepth 20000 in
theorem gX3_brought_X3_length : GoodIn wsX3_brought (wsV RX3 46 RX3 yX3_length wsX3_length) := goodIn_app (goodIn_of _ (by decide +kernel)) ggX3_brought_X3_length
set_option maxRecDepth 20000 in
theorem ggX3_brought_X3_more : GoodIn wsX3_brought wsX3_more := goodIn_r _ [18, 1] (by decide +kernel) (by decide +kernel)
set_option maxRecDepth 20000 in
theorem gX3_brought_X3_more : GoodIn wsX3_brought (va_wsS RX3 50 yX3_more wsX3_more) := goodIn_app (goodIn_of _ (by decide +kernel)) ggX3_brought_X3_more
theorem dX3_brought_0 : decode cX3_brought 0 = .ok (.aload_n 0, 1) := by decide +kernel
theorem dX3_brought_1 : decode cX3_brought 1 = .ok (.invokevirtual 42, 3) := by decide +kernel
theorem dX3_brought_4 : decode cX3_brought 4 = .ok (.astore_n 2, 1) := by decide +kernel
theorem dX3_brought_5 : decode cX3_brought 5 = .ok (.iconst 0, 1) := by decide +kernel
theorem dX3_brought_6 : decode cX3_brought 6 = .ok (.anewarray 7, 3) := by decide +kernel
theorem dX3_brought_9 : decode cX3_brought 9 = .ok (.astore_n 3, 1) := by decide +kernel
theorem dX3_brought_10 : decode cX3_brought 10 = .ok (.iconst 0, 1) := by decide +kernel
theorem dX3_brought_11 : decode cX3_brought 11 = .ok (.istore 4, 2) := by decide +kernel
theorem dX3_brought_13 : decode cX3_brought 13 = .ok (.iload 4, 2) := by decide +kernel
theorem dX3_brought_15 : decode cX3_brought 15 = .ok (.aload_n 0, 1) := by decide +kernel
theorem dX3_brought_16 : decode cX3_brought 16 = .ok (.getfield 9, 3) := by decide +kernel
theorem dX3_brought_19 : decode cX3_brought 19 = .ok (.arraylength, 1) := by decide +kernel
theorem dX3_brought_20 : decode cX3_brought 20 = .ok (.if_icmp .ge 137, 3) := by decide +kernel
theorem dX3_brought_23 : decode cX3_brought 23 = .ok (.aload_n 2, 1) := by decide +kernel
end
section
theorem dX3_brought_24 : decode cX3_brought 24 = .ok (.iload_n 1, 1) := by decide +kernel
theorem dX3_brought_25 : decode cX3_brought 25 = .ok (.aaload, 1) := by decide +kernel
theorem dX3_brought_26 : decode cX3_brought 26 = .ok (.iload 4, 2) := by decide +kernel
theorem dX3_brought_28 : decode cX3_brought 28 = .ok (.iaload, 1) := by decide +kernel
theorem dX3_brought_29 : decode cX3_brought 29 = .ok (.istore 5, 2) := by decide +kernel
theorem dX3_brought_31 : decode cX3_brought 31 = .ok (.aload_n 0, 1) := by decide +kernel
theorem dX3_brought_32 : decode cX3_brought 32 = .ok (.getfield 9, 3) := by decide +kernel
theorem dX3_brought_35 : decode cX3_brought 35 = .ok (.iload 4, 2) := by decide +kernel
theorem dX3_brought_37 : decode cX3_brought 37 = .ok (.aaload, 1) := by decide +kernel
theorem dX3_brought_38 : decode cX3_brought 38 = .ok (.iconst 2, 1) := by decide +kernel
theorem dX3_brought_39 : decode cX3_brought 39 = .ok (.iaload, 1) := by decide +kernel
theorem dX3_brought_40 : decode cX3_brought 40 = .ok (.ifCond .eq 111, 3) := by decide +kernel
theorem dX3_brought_43 : decode cX3_brought 43 = .ok (.iload 5, 2) := by decide +kernel
theorem dX3_brought_45 : decode cX3_brought 45 = .ok (.ifCond .eq 106, 3) := by decide +kernel
theorem dX3_brought_48 : decode cX3_brought 48 = .ok (.aload_n 0, 1) := by decide +kernel
theorem dX3_brought_49 : decode cX3_brought 49 = .ok (.iload 5, 2) := by decide +kernel
theorem dX3_brought_51 : decode cX3_brought 51 = .ok (.invokevirtual 46, 3) := by decide +kernel
theorem dX3_brought_54 : decode cX3_brought 54 = .ok (.ifCond .ne 6, 3) := by decide +kernel
theorem dX3_brought_57 : decode cX3_brought 57 = .ok (.goto 94, 3) := by decide +kernel
theorem dX3_brought_60 : decode cX3_brought 60 = .ok (.aload_n 0, 1) := by decide +kernel
theorem dX3_brought_61 : decode cX3_brought 61 = .ok (.getfield 17, 3) := by decide +kernel
theorem dX3_brought_64 : decode cX3_brought 64 = .ok (.iload 5, 2) := by decide +kernel
theorem dX3_brought_66 : decode cX3_brought 66 = .ok (.aaload, 1) := by decide +kernel
theorem dX3_brought_67 : decode cX3_brought 67 = .ok (.astore 6, 2) := by decide +kernel
theorem dX3_brought_69 : decode cX3_brought 69 = .ok (.aload_n 3, 1) := by decide +kernel
theorem dX3_brought_70 : decode cX3_brought 70 = .ok (.bipush 9, 2) := by decide +kernel
theorem dX3_brought_72 : decode cX3_brought 72 = .ok (.newarray .int, 2) := by decide +kernel
theorem dX3_brought_74 : decode cX3_brought 74 = .ok (.dup, 1) := by decide +kernel
theorem dX3_brought_75 : decode cX3_brought 75 = .ok (.iconst 0, 1) := by decide +kernel
theorem dX3_brought_76 : decode cX3_brought 76 = .ok (.iload 4, 2) := by decide +kernel
theorem dX3_brought_78 : decode cX3_brought 78 = .ok (.iastore, 1) := by decide +kernel
theorem dX3_brought_79 : decode cX3_brought 79 = .ok (.dup, 1) := by decide +kernel
theorem dX3_brought_80 : decode cX3_brought 80 = .ok (.iconst 1, 1) := by decide +kernel
theorem dX3_brought_81 : decode cX3_brought 81 = .ok (.iload_n 1, 1) := by decide +kernel
theorem dX3_brought_82 : decode cX3_brought 82 = .ok (.iastore, 1) := by decide +kernel
theorem dX3_brought_83 : decode cX3_brought 83 = .ok (.dup, 1) := by decide +kernel
theorem dX3_brought_84 : decode cX3_brought 84 = .ok (.iconst 2, 1) := by decide +kernel
theorem dX3_brought_85 : decode cX3_brought 85 = .ok (.aload_n 0, 1) := by decide +kernel
theorem dX3_brought_86 : decode cX3_brought 86 = .ok (.getfield 38, 3) := by decide +kernel
theorem dX3_brought_89 : decode cX3_brought 89 = .ok (.iastore, 1) := by decide +kernel
theorem dX3_brought_90 : decode cX3_brought 90 = .ok (.dup, 1) := by decide +kernel
theorem dX3_brought_91 : decode cX3_brought 91 = .ok (.iconst 3, 1) := by decide +kernel
theorem dX3_brought_92 : decode cX3_brought 92 = .ok (.aload 6, 2) := by decide +kernel
theorem dX3_brought_94 : decode cX3_brought 94 = .ok (.iconst 0, 1) := by decide +kernel
theorem dX3_brought_95 : decode cX3_brought 95 = .ok (.aaload, 1) := by decide +kernel
theorem dX3_brought_96 : decode cX3_brought 96 = .ok (.iconst 0, 1) := by decide +kernel
theorem dX3_brought_97 : decode cX3_brought 97 = .ok (.iaload, 1) := by decide +kernel
theorem dX3_brought_98 : decode cX3_brought 98 = .ok (.iastore, 1) := by decide +kernel
theorem dX3_brought_99 : decode cX3_brought 99 = .ok (.dup, 1) := by decide +kernel
theorem dX3_brought_100 : decode cX3_brought 100 = .ok (.iconst 4, 1) := by decide +kernel
theorem dX3_brought_101 : decode cX3_brought 101 = .ok (.aload 6, 2) := by decide +kernel
theorem dX3_brought_103 : decode cX3_brought 103 = .ok (.iconst 0, 1) := by decide +kernel
theorem dX3_brought_104 : decode cX3_brought 104 = .ok (.aaload, 1) := by decide +kernel
theorem dX3_brought_105 : decode cX3_brought 105 = .ok (.iconst 1, 1) := by decide +kernel
theorem dX3_brought_106 : decode cX3_brought 106 = .ok (.iaload, 1) := by decide +kernel
theorem dX3_brought_107 : decode cX3_brought 107 = .ok (.iastore, 1) := by decide +kernel
theorem dX3_brought_108 : decode cX3_brought 108 = .ok (.dup, 1) := by decide +kernel
theorem dX3_brought_109 : decode cX3_brought 109 = .ok (.iconst 5, 1) := by decide +kernel
theorem dX3_brought_110 : decode cX3_brought 110 = .ok (.aload 6, 2) := by decide +kernel
theorem dX3_brought_112 : decode cX3_brought 112 = .ok (.iconst 1, 1) := by decide +kernel
theorem dX3_brought_113 : decode cX3_brought 113 = .ok (.aaload, 1) := by decide +kernel
theorem dX3_brought_114 : decode cX3_brought 114 = .ok (.iconst 0, 1) := by decide +kernel
theorem dX3_brought_115 : decode cX3_brought 115 = .ok (.iaload, 1) := by decide +kernel
theorem dX3_brought_116 : decode cX3_brought 116 = .ok (.iastore, 1) := by decide +kernel
theorem dX3_brought_117 : decode cX3_brought 117 = .ok (.dup, 1) := by decide +kernel
theorem dX3_brought_118 : decode cX3_brought 118 = .ok (.bipush 6, 2) := by decide +kernel
theorem dX3_brought_120 : decode cX3_brought 120 = .ok (.aload 6, 2) := by decide +kernel
theorem dX3_brought_122 : decode cX3_brought 122 = .ok (.iconst 1, 1) := by decide +kernel
theorem dX3_brought_123 : decode cX3_brought 123 = .ok (.aaload, 1) := by decide +kernel
theorem dX3_brought_124 : decode cX3_brought 124 = .ok (.iconst 1, 1) := by decide +kernel
theorem dX3_brought_125 : decode cX3_brought 125 = .ok (.iaload, 1) := by decide +kernel
theorem dX3_brought_126 : decode cX3_brought 126 = .ok (.iastore, 1) := by decide +kernel
theorem dX3_brought_127 : decode cX3_brought 127 = .ok (.dup, 1) := by decide +kernel
theorem dX3_brought_128 : decode cX3_brought 128 = .ok (.bipush 7, 2) := by decide +kernel
theorem dX3_brought_130 : decode cX3_brought 130 = .ok (.aload 6, 2) := by decide +kernel
theorem dX3_brought_132 : decode cX3_brought 132 = .ok (.iconst 2, 1) := by decide +kernel
theorem dX3_brought_133 : decode cX3_brought 133 = .ok (.aaload, 1) := by decide +kernel
theorem dX3_brought_134 : decode cX3_brought 134 = .ok (.iconst 0, 1) := by decide +kernel
theorem dX3_brought_135 : decode cX3_brought 135 = .ok (.iaload, 1) := by decide +kernel
theorem dX3_brought_136 : decode cX3_brought 136 = .ok (.iastore, 1) := by decide +kernel
theorem dX3_brought_137 : decode cX3_brought 137 = .ok (.dup, 1) := by decide +kernel
theorem dX3_brought_138 : decode cX3_brought 138 = .ok (.bipush 8, 2) := by decide +kernel
theorem dX3_brought_140 : decode cX3_brought 140 = .ok (.aload 6, 2) := by decide +kernel
theorem dX3_brought_142 : decode cX3_brought 142 = .ok (.iconst 2, 1) := by decide +kernel
theorem dX3_brought_143 : decode cX3_brought 143 = .ok (.aaload, 1) := by decide +kernel
theorem dX3_brought_144 : decode cX3_brought 144 = .ok (.iconst 1, 1) := by decide +kernel
theorem dX3_brought_145 : decode cX3_brought 145 = .ok (.iaload, 1) := by decide +kernel
theorem dX3_brought_146 : decode cX3_brought 146 = .ok (.iastore, 1) := by decide +kernel
theorem dX3_brought_147 : decode cX3_brought 147 = .ok (.invokestatic 50, 3) := by decide +kernel
theorem dX3_brought_150 : decode cX3_brought 150 = .ok (.astore_n 3, 1) := by decide +kernel
theorem dX3_brought_151 : decode cX3_brought 151 = .ok (.iinc 4 1, 3) := by decide +kernel
theorem dX3_brought_154 : decode cX3_brought 154 = .ok (.goto (-141), 3) := by decide +kernel
theorem dX3_brought_157 : decode cX3_brought 157 = .ok (.aload_n 3, 1) := by decide +kernel
theorem dX3_brought_158 : decode cX3_brought 158 = .ok (.areturn, 1) := by decide +kernel
set_option maxRecDepth 20000 in
theorem ggX3_die_X3_brought : GoodIn wsX3_die wsX3_brought := goodIn_r _ [8, 1, 3, 9, 10, 11, 12, 13, 14, 7, 15, 16, 17, 18, 19, 20, 21, 22, 23, 24, 25, 26, 27, 28] (by decide +kernel) (by decide +kernel)
set_option maxRecDepth 20000 in
theorem gX3_die_X3_brought : GoodIn wsX3_die (wsV RX3 54 RX3 yX3_brought wsX3_brought) := goodIn_app (goodIn_of _ (by decide +kernel)) ggX3_die_X3_brought
set_option maxRecDepth 20000 in
theorem ggX3_die_X3_more : GoodIn wsX3_die wsX3_more := goodIn_r _ [23, 1] (by decide +kernel) (by decide +kernel)
set_option maxRecDepth 20000 in
theorem gX3_die_X3_more : GoodIn wsX3_die (va_wsS RX3 50 yX3_more wsX3_more) := goodIn_app (goodIn_of _ (by decide +kernel)) ggX3_die_X3_more
theorem dX3_die_0 : decode cX3_die 0 = .ok (.aload_n 0, 1) := by decide +kernel
theorem dX3_die_1 : decode cX3_die 1 = .ok (.iload_n 1, 1) := by decide +kernel
theorem dX3_die_2 : decode cX3_die 2 = .ok (.invokevirtual 54, 3) := by decide +kernel
theorem dX3_die_5 : decode cX3_die 5 = .ok (.astore_n 2, 1) := by decide +kernel
theorem dX3_die_6 : decode cX3_die 6 = .ok (.iconst 0, 1) := by decide +kernel
theorem dX3_die_7 : decode cX3_die 7 = .ok (.anewarray 7, 3) := by decide +kernel
theorem dX3_die_10 : decode cX3_die 10 = .ok (.astore_n 3, 1) := by decide +kernel
theorem dX3_die_11 : decode cX3_die 11 = .ok (.aload_n 0, 1) := by decide +kernel
theorem dX3_die_12 : decode cX3_die 12 = .ok (.getfield 20, 3) := by decide +kernel
theorem dX3_die_15 : decode cX3_die 15 = .ok (.astore 4, 2) := by decide +kernel
theorem dX3_die_17 : decode cX3_die 17 = .ok (.aload 4, 2) := by decide +kernel
theorem dX3_die_19 : decode cX3_die 19 = .ok (.arraylength, 1) := by decide +kernel
theorem dX3_die_20 : decode cX3_die 20 = .ok (.istore 5, 2) := by decide +kernel
theorem dX3_die_22 : decode cX3_die 22 = .ok (.iconst 0, 1) := by decide +kernel
theorem dX3_die_23 : decode cX3_die 23 = .ok (.istore 6, 2) := by decide +kernel
theorem dX3_die_25 : decode cX3_die 25 = .ok (.iload 6, 2) := by decide +kernel
theorem dX3_die_27 : decode cX3_die 27 = .ok (.iload 5, 2) := by decide +kernel
theorem dX3_die_29 : decode cX3_die 29 = .ok (.if_icmp .ge 31, 3) := by decide +kernel
theorem dX3_die_32 : decode cX3_die 32 = .ok (.aload 4, 2) := by decide +kernel
theorem dX3_die_34 : decode cX3_die 34 = .ok (.iload 6, 2) := by decide +kernel
theorem dX3_die_36 : decode cX3_die 36 = .ok (.aaload, 1) := by decide +kernel
theorem dX3_die_37 : decode cX3_die 37 = .ok (.astore 7, 2) := by decide +kernel
theorem dX3_die_39 : decode cX3_die 39 = .ok (.aload 7, 2) := by decide +kernel
theorem dX3_die_41 : decode cX3_die 41 = .ok (.iconst 0, 1) := by decide +kernel
theorem dX3_die_42 : decode cX3_die 42 = .ok (.iaload, 1) := by decide +kernel
theorem dX3_die_43 : decode cX3_die 43 = .ok (.iload_n 1, 1) := by decide +kernel
theorem dX3_die_44 : decode cX3_die 44 = .ok (.if_icmp .eq 10, 3) := by decide +kernel
theorem dX3_die_47 : decode cX3_die 47 = .ok (.aload_n 3, 1) := by decide +kernel
theorem dX3_die_48 : decode cX3_die 48 = .ok (.aload 7, 2) := by decide +kernel
theorem dX3_die_50 : decode cX3_die 50 = .ok (.invokestatic 50, 3) := by decide +kernel
theorem dX3_die_53 : decode cX3_die 53 = .ok (.astore_n 3, 1) := by decide +kernel
theorem dX3_die_54 : decode cX3_die 54 = .ok (.iinc 6 1, 3) := by decide +kernel
theorem dX3_die_57 : decode cX3_die 57 = .ok (.goto (-32), 3) := by decide +kernel
theorem dX3_die_60 : decode cX3_die 60 = .ok (.aload_n 2, 1) := by decide +kernel
theorem dX3_die_61 : decode cX3_die 61 = .ok (.astore 4, 2) := by decide +kernel
theorem dX3_die_63 : decode cX3_die 63 = .ok (.aload 4, 2) := by decide +kernel
theorem dX3_die_65 : decode cX3_die 65 = .ok (.arraylength, 1) := by decide +kernel
theorem dX3_die_66 : decode cX3_die 66 = .ok (.istore 5, 2) := by decide +kernel
theorem dX3_die_68 : decode cX3_die 68 = .ok (.iconst 0, 1) := by decide +kernel
theorem dX3_die_69 : decode cX3_die 69 = .ok (.istore 6, 2) := by decide +kernel
theorem dX3_die_71 : decode cX3_die 71 = .ok (.iload 6, 2) := by decide +kernel
theorem dX3_die_73 : decode cX3_die 73 = .ok (.iload 5, 2) := by decide +kernel
theorem dX3_die_75 : decode cX3_die 75 = .ok (.if_icmp .ge 23, 3) := by decide +kernel
theorem dX3_die_78 : decode cX3_die 78 = .ok (.aload 4, 2) := by decide +kernel
theorem dX3_die_80 : decode cX3_die 80 = .ok (.iload 6, 2) := by decide +kernel
theorem dX3_die_82 : decode cX3_die 82 = .ok (.aaload, 1) := by decide +kernel
theorem dX3_die_83 : decode cX3_die 83 = .ok (.astore 7, 2) := by decide +kernel
theorem dX3_die_85 : decode cX3_die 85 = .ok (.aload_n 3, 1) := by decide +kernel
theorem dX3_die_86 : decode cX3_die 86 = .ok (.aload 7, 2) := by decide +kernel
theorem dX3_die_88 : decode cX3_die 88 = .ok (.invokestatic 50, 3) := by decide +kernel
theorem dX3_die_91 : decode cX3_die 91 = .ok (.astore_n 3, 1) := by decide +kernel
theorem dX3_die_92 : decode cX3_die 92 = .ok (.iinc 6 1, 3) := by decide +kernel
theorem dX3_die_95 : decode cX3_die 95 = .ok (.goto (-24), 3) := by decide +kernel
theorem dX3_die_98 : decode cX3_die 98 = .ok (.aload_n 0, 1) := by decide +kernel
theorem dX3_die_99 : decode cX3_die 99 = .ok (.aload_n 3, 1) := by decide +kernel
theorem dX3_die_100 : decode cX3_die 100 = .ok (.putfield 20, 3) := by decide +kernel
theorem dX3_die_103 : decode cX3_die 103 = .ok (.aload_n 0, 1) := by decide +kernel
theorem dX3_die_104 : decode cX3_die 104 = .ok (.getfield 9, 3) := by decide +kernel
theorem dX3_die_107 : decode cX3_die 107 = .ok (.iload_n 1, 1) := by decide +kernel
theorem dX3_die_108 : decode cX3_die 108 = .ok (.aaload, 1) := by decide +kernel
theorem dX3_die_109 : decode cX3_die 109 = .ok (.iconst 2, 1) := by decide +kernel
theorem dX3_die_110 : decode cX3_die 110 = .ok (.iconst 0, 1) := by decide +kernel
theorem dX3_die_111 : decode cX3_die 111 = .ok (.iastore, 1) := by decide +kernel
theorem dX3_die_112 : decode cX3_die 112 = .ok (.aload_n 2, 1) := by decide +kernel
theorem dX3_die_113 : decode cX3_die 113 = .ok (.arraylength, 1) := by decide +kernel
theorem dX3_die_114 : decode cX3_die 114 = .ok (.ireturn, 1) := by decide +kernel
set_option maxRecDepth 20000 in
theorem ggX3_drop_X3_more : GoodIn wsX3_drop wsX3_more := goodIn_r _ [6, 1] (by decide +kernel) (by decide +kernel)
set_option maxRecDepth 20000 in
theorem gX3_drop_X3_more : GoodIn wsX3_drop (va_wsS RX3 50 yX3_more wsX3_more) := goodIn_app (goodIn_of _ (by decide +kernel)) ggX3_drop_X3_more
theorem dX3_drop_0 : decode cX3_drop 0 = .ok (.iconst 0, 1) := by decide +kernel
theorem dX3_drop_1 : decode cX3_drop 1 = .ok (.anewarray 7, 3) := by decide +kernel
theorem dX3_drop_4 : decode cX3_drop 4 = .ok (.astore_n 3, 1) := by decide +kernel
theorem dX3_drop_5 : decode cX3_drop 5 = .ok (.aload_n 0, 1) := by decide +kernel
theorem dX3_drop_6 : decode cX3_drop 6 = .ok (.getfield 20, 3) := by decide +kernel
theorem dX3_drop_9 : decode cX3_drop 9 = .ok (.astore 4, 2) := by decide +kernel
theorem dX3_drop_11 : decode cX3_drop 11 = .ok (.aload 4, 2) := by decide +kernel
theorem dX3_drop_13 : decode cX3_drop 13 = .ok (.arraylength, 1) := by decide +kernel
theorem dX3_drop_14 : decode cX3_drop 14 = .ok (.istore 5, 2) := by decide +kernel
theorem dX3_drop_16 : decode cX3_drop 16 = .ok (.iconst 0, 1) := by decide +kernel
theorem dX3_drop_17 : decode cX3_drop 17 = .ok (.istore 6, 2) := by decide +kernel
theorem dX3_drop_19 : decode cX3_drop 19 = .ok (.iload 6, 2) := by decide +kernel
theorem dX3_drop_21 : decode cX3_drop 21 = .ok (.iload 5, 2) := by decide +kernel
theorem dX3_drop_23 : decode cX3_drop 23 = .ok (.if_icmp .ge 39, 3) := by decide +kernel
theorem dX3_drop_26 : decode cX3_drop 26 = .ok (.aload 4, 2) := by decide +kernel
theorem dX3_drop_28 : decode cX3_drop 28 = .ok (.iload 6, 2) := by decide +kernel
theorem dX3_drop_30 : decode cX3_drop 30 = .ok (.aaload, 1) := by decide +kernel
theorem dX3_drop_31 : decode cX3_drop 31 = .ok (.astore 7, 2) := by decide +kernel
theorem dX3_drop_33 : decode cX3_drop 33 = .ok (.aload 7, 2) := by decide +kernel
theorem dX3_drop_35 : decode cX3_drop 35 = .ok (.iconst 0, 1) := by decide +kernel
theorem dX3_drop_36 : decode cX3_drop 36 = .ok (.iaload, 1) := by decide +kernel
theorem dX3_drop_37 : decode cX3_drop 37 = .ok (.iload_n 1, 1) := by decide +kernel
theorem dX3_drop_38 : decode cX3_drop 38 = .ok (.if_icmp .ne 11, 3) := by decide +kernel
theorem dX3_drop_41 : decode cX3_drop 41 = .ok (.aload 7, 2) := by decide +kernel
theorem dX3_drop_43 : decode cX3_drop 43 = .ok (.iconst 1, 1) := by decide +kernel
theorem dX3_drop_44 : decode cX3_drop 44 = .ok (.iaload, 1) := by decide +kernel
theorem dX3_drop_45 : decode cX3_drop 45 = .ok (.iload_n 2, 1) := by decide +kernel
theorem dX3_drop_46 : decode cX3_drop 46 = .ok (.if_icmp .eq 10, 3) := by decide +kernel
theorem dX3_drop_49 : decode cX3_drop 49 = .ok (.aload_n 3, 1) := by decide +kernel
theorem dX3_drop_50 : decode cX3_drop 50 = .ok (.aload 7, 2) := by decide +kernel
theorem dX3_drop_52 : decode cX3_drop 52 = .ok (.invokestatic 50, 3) := by decide +kernel
theorem dX3_drop_55 : decode cX3_drop 55 = .ok (.astore_n 3, 1) := by decide +kernel
theorem dX3_drop_56 : decode cX3_drop 56 = .ok (.iinc 6 1, 3) := by decide +kernel
theorem dX3_drop_59 : decode cX3_drop 59 = .ok (.goto (-40), 3) := by decide +kernel
theorem dX3_drop_62 : decode cX3_drop 62 = .ok (.aload_n 0, 1) := by decide +kernel
theorem dX3_drop_63 : decode cX3_drop 63 = .ok (.aload_n 3, 1) := by decide +kernel
theorem dX3_drop_64 : decode cX3_drop 64 = .ok (.putfield 20, 3) := by decide +kernel
theorem dX3_drop_67 : decode cX3_drop 67 = .ok (.return_, 1) := by decide +kernel
set_option maxRecDepth 20000 in
theorem ggX3_inColour_X3_wears : GoodIn wsX3_inColour wsX3_wears := goodIn_r _ [7, 8, 9, 10, 11, 12, 13, 14, 6, 15, 16, 17, 18, 19, 20] (by decide +kernel) (by decide +kernel)
set_option maxRecDepth 20000 in
theorem gX3_inColour_X3_wears : GoodIn wsX3_inColour (wsV RX3 58 RX3 yX3_wears wsX3_wears) := goodIn_app (goodIn_of _ (by decide +kernel)) ggX3_inColour_X3_wears
theorem dX3_inColour_0 : decode cX3_inColour 0 = .ok (.iconst 0, 1) := by decide +kernel
theorem dX3_inColour_1 : decode cX3_inColour 1 = .ok (.istore_n 1, 1) := by decide +kernel
theorem dX3_inColour_2 : decode cX3_inColour 2 = .ok (.iconst 0, 1) := by decide +kernel
theorem dX3_inColour_3 : decode cX3_inColour 3 = .ok (.istore_n 2, 1) := by decide +kernel
theorem dX3_inColour_4 : decode cX3_inColour 4 = .ok (.iload_n 2, 1) := by decide +kernel
theorem dX3_inColour_5 : decode cX3_inColour 5 = .ok (.aload_n 0, 1) := by decide +kernel
theorem dX3_inColour_6 : decode cX3_inColour 6 = .ok (.getfield 9, 3) := by decide +kernel
theorem dX3_inColour_9 : decode cX3_inColour 9 = .ok (.arraylength, 1) := by decide +kernel
theorem dX3_inColour_10 : decode cX3_inColour 10 = .ok (.if_icmp .ge 29, 3) := by decide +kernel
theorem dX3_inColour_13 : decode cX3_inColour 13 = .ok (.iload_n 1, 1) := by decide +kernel
theorem dX3_inColour_14 : decode cX3_inColour 14 = .ok (.aload_n 0, 1) := by decide +kernel
theorem dX3_inColour_15 : decode cX3_inColour 15 = .ok (.iload_n 2, 1) := by decide +kernel
theorem dX3_inColour_16 : decode cX3_inColour 16 = .ok (.aload_n 0, 1) := by decide +kernel
theorem dX3_inColour_17 : decode cX3_inColour 17 = .ok (.getfield 38, 3) := by decide +kernel
theorem dX3_inColour_20 : decode cX3_inColour 20 = .ok (.invokevirtual 58, 3) := by decide +kernel
theorem dX3_inColour_23 : decode cX3_inColour 23 = .ok (.ifCond .le 7, 3) := by decide +kernel
theorem dX3_inColour_26 : decode cX3_inColour 26 = .ok (.iconst 1, 1) := by decide +kernel
theorem dX3_inColour_27 : decode cX3_inColour 27 = .ok (.goto 4, 3) := by decide +kernel
theorem dX3_inColour_30 : decode cX3_inColour 30 = .ok (.iconst 0, 1) := by decide +kernel
theorem dX3_inColour_31 : decode cX3_inColour 31 = .ok (.iadd, 1) := by decide +kernel
theorem dX3_inColour_32 : decode cX3_inColour 32 = .ok (.istore_n 1, 1) := by decide +kernel
theorem dX3_inColour_33 : decode cX3_inColour 33 = .ok (.iinc 2 1, 3) := by decide +kernel
theorem dX3_inColour_36 : decode cX3_inColour 36 = .ok (.goto (-32), 3) := by decide +kernel
theorem dX3_inColour_39 : decode cX3_inColour 39 = .ok (.iload_n 1, 1) := by decide +kernel
theorem dX3_inColour_40 : decode cX3_inColour 40 = .ok (.ireturn, 1) := by decide +kernel
set_option maxRecDepth 20000 in
theorem ggX3_pass_X3_inColour : GoodIn wsX3_pass wsX3_inColour := goodIn_r _ [9, 10, 2, 11, 12, 13, 8, 14, 4, 15, 16, 17, 18, 19, 20, 21, 28, 29, 30, 31, 32] (by decide +kernel) (by decide +kernel)
set_option maxRecDepth 20000 in
theorem gX3_pass_X3_inColour : GoodIn wsX3_pass (wsV RX3 64 RX3 yX3_inColour wsX3_inColour) := goodIn_app (goodIn_of _ (by decide +kernel)) ggX3_pass_X3_inColour
set_option maxRecDepth 20000 in
theorem ggX3_pass_X3_end : GoodIn wsX3_pass wsX3_end := goodIn_r _ [24] (by decide +kernel) (by decide +kernel)
set_option maxRecDepth 20000 in
theorem gX3_pass_X3_end : GoodIn wsX3_pass (va_wsS RX3 34 yX3_end wsX3_end) := goodIn_app (goodIn_of _ (by decide +kernel)) ggX3_pass_X3_end
set_option maxRecDepth 20000 in
theorem ggX3_pass_X3_more : GoodIn wsX3_pass wsX3_more := goodIn_r _ [27, 3] (by decide +kernel) (by decide +kernel)
set_option maxRecDepth 20000 in
theorem gX3_pass_X3_more : GoodIn wsX3_pass (va_wsS RX3 50 yX3_more wsX3_more) := goodIn_app (goodIn_of _ (by decide +kernel)) ggX3_pass_X3_more
theorem dX3_pass_0 : decode cX3_pass 0 = .ok (.iconst 0, 1) := by decide +kernel
theorem dX3_pass_1 : decode cX3_pass 1 = .ok (.istore_n 2, 1) := by decide +kernel
theorem dX3_pass_2 : decode cX3_pass 2 = .ok (.iload_n 2, 1) := by decide +kernel
theorem dX3_pass_3 : decode cX3_pass 3 = .ok (.iload_n 1, 1) := by decide +kernel
theorem dX3_pass_4 : decode cX3_pass 4 = .ok (.if_icmp .ge 32, 3) := by decide +kernel
theorem dX3_pass_7 : decode cX3_pass 7 = .ok (.aload_n 0, 1) := by decide +kernel
theorem dX3_pass_8 : decode cX3_pass 8 = .ok (.dup, 1) := by decide +kernel
theorem dX3_pass_9 : decode cX3_pass 9 = .ok (.getfield 61, 3) := by decide +kernel
theorem dX3_pass_12 : decode cX3_pass 12 = .ok (.aload_n 0, 1) := by decide +kernel
theorem dX3_pass_13 : decode cX3_pass 13 = .ok (.invokevirtual 64, 3) := by decide +kernel
theorem dX3_pass_16 : decode cX3_pass 16 = .ok (.iadd, 1) := by decide +kernel
theorem dX3_pass_17 : decode cX3_pass 17 = .ok (.putfield 61, 3) := by decide +kernel
theorem dX3_pass_20 : decode cX3_pass 20 = .ok (.aload_n 0, 1) := by decide +kernel
theorem dX3_pass_21 : decode cX3_pass 21 = .ok (.dup, 1) := by decide +kernel
theorem dX3_pass_22 : decode cX3_pass 22 = .ok (.getfield 38, 3) := by decide +kernel
theorem dX3_pass_25 : decode cX3_pass 25 = .ok (.iconst 1, 1) := by decide +kernel
theorem dX3_pass_26 : decode cX3_pass 26 = .ok (.iadd, 1) := by decide +kernel
theorem dX3_pass_27 : decode cX3_pass 27 = .ok (.putfield 38, 3) := by decide +kernel
theorem dX3_pass_30 : decode cX3_pass 30 = .ok (.iinc 2 1, 3) := by decide +kernel
theorem dX3_pass_33 : decode cX3_pass 33 = .ok (.goto (-31), 3) := by decide +kernel
theorem dX3_pass_36 : decode cX3_pass 36 = .ok (.iconst 0, 1) := by decide +kernel
theorem dX3_pass_37 : decode cX3_pass 37 = .ok (.anewarray 7, 3) := by decide +kernel
theorem dX3_pass_40 : decode cX3_pass 40 = .ok (.astore_n 2, 1) := by decide +kernel
theorem dX3_pass_41 : decode cX3_pass 41 = .ok (.aload_n 0, 1) := by decide +kernel
theorem dX3_pass_42 : decode cX3_pass 42 = .ok (.getfield 20, 3) := by decide +kernel
theorem dX3_pass_45 : decode cX3_pass 45 = .ok (.astore_n 3, 1) := by decide +kernel
theorem dX3_pass_46 : decode cX3_pass 46 = .ok (.aload_n 3, 1) := by decide +kernel
theorem dX3_pass_47 : decode cX3_pass 47 = .ok (.arraylength, 1) := by decide +kernel
theorem dX3_pass_48 : decode cX3_pass 48 = .ok (.istore 4, 2) := by decide +kernel
theorem dX3_pass_50 : decode cX3_pass 50 = .ok (.iconst 0, 1) := by decide +kernel
theorem dX3_pass_51 : decode cX3_pass 51 = .ok (.istore 5, 2) := by decide +kernel
theorem dX3_pass_53 : decode cX3_pass 53 = .ok (.iload 5, 2) := by decide +kernel
theorem dX3_pass_55 : decode cX3_pass 55 = .ok (.iload 4, 2) := by decide +kernel
theorem dX3_pass_57 : decode cX3_pass 57 = .ok (.if_icmp .ge 34, 3) := by decide +kernel
theorem dX3_pass_60 : decode cX3_pass 60 = .ok (.aload_n 3, 1) := by decide +kernel
theorem dX3_pass_61 : decode cX3_pass 61 = .ok (.iload 5, 2) := by decide +kernel
theorem dX3_pass_63 : decode cX3_pass 63 = .ok (.aaload, 1) := by decide +kernel
theorem dX3_pass_64 : decode cX3_pass 64 = .ok (.astore 6, 2) := by decide +kernel
theorem dX3_pass_66 : decode cX3_pass 66 = .ok (.aload 6, 2) := by decide +kernel
theorem dX3_pass_68 : decode cX3_pass 68 = .ok (.invokestatic 34, 3) := by decide +kernel
theorem dX3_pass_71 : decode cX3_pass 71 = .ok (.aload_n 0, 1) := by decide +kernel
theorem dX3_pass_72 : decode cX3_pass 72 = .ok (.getfield 38, 3) := by decide +kernel
theorem dX3_pass_75 : decode cX3_pass 75 = .ok (.if_icmp .le 10, 3) := by decide +kernel
theorem dX3_pass_78 : decode cX3_pass 78 = .ok (.aload_n 2, 1) := by decide +kernel
theorem dX3_pass_79 : decode cX3_pass 79 = .ok (.aload 6, 2) := by decide +kernel
theorem dX3_pass_81 : decode cX3_pass 81 = .ok (.invokestatic 50, 3) := by decide +kernel
theorem dX3_pass_84 : decode cX3_pass 84 = .ok (.astore_n 2, 1) := by decide +kernel
theorem dX3_pass_85 : decode cX3_pass 85 = .ok (.iinc 5 1, 3) := by decide +kernel
theorem dX3_pass_88 : decode cX3_pass 88 = .ok (.goto (-35), 3) := by decide +kernel
theorem dX3_pass_91 : decode cX3_pass 91 = .ok (.aload_n 0, 1) := by decide +kernel
theorem dX3_pass_92 : decode cX3_pass 92 = .ok (.aload_n 2, 1) := by decide +kernel
theorem dX3_pass_93 : decode cX3_pass 93 = .ok (.putfield 20, 3) := by decide +kernel
theorem dX3_pass_96 : decode cX3_pass 96 = .ok (.aload_n 0, 1) := by decide +kernel
theorem dX3_pass_97 : decode cX3_pass 97 = .ok (.invokevirtual 64, 3) := by decide +kernel
theorem dX3_pass_100 : decode cX3_pass 100 = .ok (.ireturn, 1) := by decide +kernel
theorem dX3_canMarry_0 : decode cX3_canMarry 0 = .ok (.aload_n 0, 1) := by decide +kernel
theorem dX3_canMarry_1 : decode cX3_canMarry 1 = .ok (.getfield 9, 3) := by decide +kernel
theorem dX3_canMarry_4 : decode cX3_canMarry 4 = .ok (.iload_n 1, 1) := by decide +kernel
theorem dX3_canMarry_5 : decode cX3_canMarry 5 = .ok (.aaload, 1) := by decide +kernel
theorem dX3_canMarry_6 : decode cX3_canMarry 6 = .ok (.iconst 2, 1) := by decide +kernel
theorem dX3_canMarry_7 : decode cX3_canMarry 7 = .ok (.iaload, 1) := by decide +kernel
theorem dX3_canMarry_8 : decode cX3_canMarry 8 = .ok (.iconst 1, 1) := by decide +kernel
theorem dX3_canMarry_9 : decode cX3_canMarry 9 = .ok (.if_icmp .ne 36, 3) := by decide +kernel
theorem dX3_canMarry_12 : decode cX3_canMarry 12 = .ok (.aload_n 0, 1) := by decide +kernel
theorem dX3_canMarry_13 : decode cX3_canMarry 13 = .ok (.getfield 9, 3) := by decide +kernel
theorem dX3_canMarry_16 : decode cX3_canMarry 16 = .ok (.iload_n 1, 1) := by decide +kernel
theorem dX3_canMarry_17 : decode cX3_canMarry 17 = .ok (.aaload, 1) := by decide +kernel
theorem dX3_canMarry_18 : decode cX3_canMarry 18 = .ok (.iconst 1, 1) := by decide +kernel
theorem dX3_canMarry_19 : decode cX3_canMarry 19 = .ok (.iaload, 1) := by decide +kernel
theorem dX3_canMarry_20 : decode cX3_canMarry 20 = .ok (.ifCond .lt 21, 3) := by decide +kernel
theorem dX3_canMarry_23 : decode cX3_canMarry 23 = .ok (.aload_n 0, 1) := by decide +kernel
theorem dX3_canMarry_24 : decode cX3_canMarry 24 = .ok (.getfield 9, 3) := by decide +kernel
theorem dX3_canMarry_27 : decode cX3_canMarry 27 = .ok (.aload_n 0, 1) := by decide +kernel
theorem dX3_canMarry_28 : decode cX3_canMarry 28 = .ok (.getfield 9, 3) := by decide +kernel
theorem dX3_canMarry_31 : decode cX3_canMarry 31 = .ok (.iload_n 1, 1) := by decide +kernel
theorem dX3_canMarry_32 : decode cX3_canMarry 32 = .ok (.aaload, 1) := by decide +kernel
theorem dX3_canMarry_33 : decode cX3_canMarry 33 = .ok (.iconst 1, 1) := by decide +kernel
theorem dX3_canMarry_34 : decode cX3_canMarry 34 = .ok (.iaload, 1) := by decide +kernel
theorem dX3_canMarry_35 : decode cX3_canMarry 35 = .ok (.aaload, 1) := by decide +kernel
theorem dX3_canMarry_36 : decode cX3_canMarry 36 = .ok (.iconst 2, 1) := by decide +kernel
theorem dX3_canMarry_37 : decode cX3_canMarry 37 = .ok (.iaload, 1) := by decide +kernel
theorem dX3_canMarry_38 : decode cX3_canMarry 38 = .ok (.ifCond .ne 7, 3) := by decide +kernel
theorem dX3_canMarry_41 : decode cX3_canMarry 41 = .ok (.iconst 1, 1) := by decide +kernel
theorem dX3_canMarry_42 : decode cX3_canMarry 42 = .ok (.goto 4, 3) := by decide +kernel
theorem dX3_canMarry_45 : decode cX3_canMarry 45 = .ok (.iconst 0, 1) := by decide +kernel
theorem dX3_canMarry_46 : decode cX3_canMarry 46 = .ok (.ireturn, 1) := by decide +kernel
theorem dX3_marry_0 : decode cX3_marry 0 = .ok (.aload_n 0, 1) := by decide +kernel
theorem dX3_marry_1 : decode cX3_marry 1 = .ok (.getfield 9, 3) := by decide +kernel
theorem dX3_marry_4 : decode cX3_marry 4 = .ok (.iload_n 1, 1) := by decide +kernel
theorem dX3_marry_5 : decode cX3_marry 5 = .ok (.aaload, 1) := by decide +kernel
theorem dX3_marry_6 : decode cX3_marry 6 = .ok (.iconst 1, 1) := by decide +kernel
theorem dX3_marry_7 : decode cX3_marry 7 = .ok (.iaload, 1) := by decide +kernel
theorem dX3_marry_8 : decode cX3_marry 8 = .ok (.ifCond .lt 19, 3) := by decide +kernel
theorem dX3_marry_11 : decode cX3_marry 11 = .ok (.aload_n 0, 1) := by decide +kernel
theorem dX3_marry_12 : decode cX3_marry 12 = .ok (.getfield 9, 3) := by decide +kernel
theorem dX3_marry_15 : decode cX3_marry 15 = .ok (.aload_n 0, 1) := by decide +kernel
theorem dX3_marry_16 : decode cX3_marry 16 = .ok (.getfield 9, 3) := by decide +kernel
theorem dX3_marry_19 : decode cX3_marry 19 = .ok (.iload_n 1, 1) := by decide +kernel
theorem dX3_marry_20 : decode cX3_marry 20 = .ok (.aaload, 1) := by decide +kernel
theorem dX3_marry_21 : decode cX3_marry 21 = .ok (.iconst 1, 1) := by decide +kernel
theorem dX3_marry_22 : decode cX3_marry 22 = .ok (.iaload, 1) := by decide +kernel
theorem dX3_marry_23 : decode cX3_marry 23 = .ok (.aaload, 1) := by decide +kernel
theorem dX3_marry_24 : decode cX3_marry 24 = .ok (.iconst 1, 1) := by decide +kernel
theorem dX3_marry_25 : decode cX3_marry 25 = .ok (.iconst (-1), 1) := by decide +kernel
theorem dX3_marry_26 : decode cX3_marry 26 = .ok (.iastore, 1) := by decide +kernel
theorem dX3_marry_27 : decode cX3_marry 27 = .ok (.aload_n 0, 1) := by decide +kernel
theorem dX3_marry_28 : decode cX3_marry 28 = .ok (.getfield 9, 3) := by decide +kernel
theorem dX3_marry_31 : decode cX3_marry 31 = .ok (.iload_n 2, 1) := by decide +kernel
theorem dX3_marry_32 : decode cX3_marry 32 = .ok (.aaload, 1) := by decide +kernel
theorem dX3_marry_33 : decode cX3_marry 33 = .ok (.iconst 1, 1) := by decide +kernel
theorem dX3_marry_34 : decode cX3_marry 34 = .ok (.iaload, 1) := by decide +kernel
theorem dX3_marry_35 : decode cX3_marry 35 = .ok (.ifCond .lt 19, 3) := by decide +kernel
theorem dX3_marry_38 : decode cX3_marry 38 = .ok (.aload_n 0, 1) := by decide +kernel
theorem dX3_marry_39 : decode cX3_marry 39 = .ok (.getfield 9, 3) := by decide +kernel
theorem dX3_marry_42 : decode cX3_marry 42 = .ok (.aload_n 0, 1) := by decide +kernel
theorem dX3_marry_43 : decode cX3_marry 43 = .ok (.getfield 9, 3) := by decide +kernel
theorem dX3_marry_46 : decode cX3_marry 46 = .ok (.iload_n 2, 1) := by decide +kernel
theorem dX3_marry_47 : decode cX3_marry 47 = .ok (.aaload, 1) := by decide +kernel
theorem dX3_marry_48 : decode cX3_marry 48 = .ok (.iconst 1, 1) := by decide +kernel
theorem dX3_marry_49 : decode cX3_marry 49 = .ok (.iaload, 1) := by decide +kernel
theorem dX3_marry_50 : decode cX3_marry 50 = .ok (.aaload, 1) := by decide +kernel
theorem dX3_marry_51 : decode cX3_marry 51 = .ok (.iconst 1, 1) := by decide +kernel
theorem dX3_marry_52 : decode cX3_marry 52 = .ok (.iconst (-1), 1) := by decide +kernel
theorem dX3_marry_53 : decode cX3_marry 53 = .ok (.iastore, 1) := by decide +kernel
theorem dX3_marry_54 : decode cX3_marry 54 = .ok (.aload_n 0, 1) := by decide +kernel
theorem dX3_marry_55 : decode cX3_marry 55 = .ok (.getfield 9, 3) := by decide +kernel
theorem dX3_marry_58 : decode cX3_marry 58 = .ok (.iload_n 1, 1) := by decide +kernel
theorem dX3_marry_59 : decode cX3_marry 59 = .ok (.aaload, 1) := by decide +kernel
theorem dX3_marry_60 : decode cX3_marry 60 = .ok (.iconst 1, 1) := by decide +kernel
theorem dX3_marry_61 : decode cX3_marry 61 = .ok (.iload_n 2, 1) := by decide +kernel
theorem dX3_marry_62 : decode cX3_marry 62 = .ok (.iastore, 1) := by decide +kernel
theorem dX3_marry_63 : decode cX3_marry 63 = .ok (.aload_n 0, 1) := by decide +kernel
theorem dX3_marry_64 : decode cX3_marry 64 = .ok (.getfield 9, 3) := by decide +kernel
theorem dX3_marry_67 : decode cX3_marry 67 = .ok (.iload_n 2, 1) := by decide +kernel
theorem dX3_marry_68 : decode cX3_marry 68 = .ok (.aaload, 1) := by decide +kernel
theorem dX3_marry_69 : decode cX3_marry 69 = .ok (.iconst 1, 1) := by decide +kernel
theorem dX3_marry_70 : decode cX3_marry 70 = .ok (.iload_n 1, 1) := by decide +kernel
theorem dX3_marry_71 : decode cX3_marry 71 = .ok (.iastore, 1) := by decide +kernel
theorem dX3_marry_72 : decode cX3_marry 72 = .ok (.return_, 1) := by decide +kernel
set_option maxRecDepth 20000 in
theorem ggX3_isSame_X3_degrees : GoodIn wsX3_isSame wsX3_degrees := goodIn_r _ [10, 1, 11, 2, 204, 205, 206, 207, 208] (by decide +kernel) (by decide +kernel)
set_option maxRecDepth 20000 in
theorem gX3_isSame_X3_degrees : GoodIn wsX3_isSame (wsV RX3 42 RX3 yX3_degrees wsX3_degrees) := goodIn_app (goodIn_of _ (by decide +kernel)) ggX3_isSame_X3_degrees
set_option maxRecDepth 20000 in
theorem ggX3_isSame_X3_left : GoodIn wsX3_isSame wsX3_left := goodIn_r _ [15, 16, 3, 17, 18, 19, 20, 21, 22, 9, 23, 204, 205, 206, 207, 208] (by decide +kernel) (by decide +kernel)
set_option maxRecDepth 20000 in
theorem gX3_isSame_X3_left : GoodIn wsX3_isSame (wsV RX3 68 RX3 yX3_left wsX3_left) := goodIn_app (goodIn_of _ (by decide +kernel)) ggX3_isSame_X3_left
set_option maxRecDepth 20000 in
theorem ggX3_isSame_X2_daysLeftFor : GoodIn wsX3_isSame wsX2_daysLeftFor := goodIn_ca (goodIn_r _ [28, 29, 30, 31, 27, 32, 33, 34, 35, 36, 37, 38, 39, 40, 41, 42, 43, 44, 45, 18, 19, 20, 46, 47, 48, 49, 50, 51, 52, 53, 54, 55, 56, 57, 209, 210, 211, 212, 213, 214, 215, 216, 217, 218, 219, 220, 221, 222, 223, 224] (by decide +kernel) (by decide +kernel)) (goodIn_sub (fun _ h => List.mem_cons_of_mem _ (List.mem_append_right _ h)) (by decide +kernel))
set_option maxRecDepth 20000 in
theorem gX3_isSame_X2_daysLeftFor : GoodIn wsX3_isSame (wsV RX3 71 RX2 yX2_daysLeftFor wsX2_daysLeftFor) := goodIn_app (goodIn_of _ (by decide +kernel)) ggX3_isSame_X2_daysLeftFor
set_option maxRecDepth 20000 in
theorem ggX3_isSame_X2_degreeOf : GoodIn wsX3_isSame wsX2_degreeOf := goodIn_ca (goodIn_r _ [61, 35, 62, 29, 30, 31, 27, 32, 33, 34, 36, 63, 64, 65, 66, 67, 68, 69, 70, 71, 72, 73, 74, 75, 76, 77, 78, 79, 80, 81, 82, 83, 209, 210, 211, 212, 213, 214, 215, 216, 217, 218, 219, 220, 221, 222] (by decide +kernel) (by decide +kernel)) (goodIn_sub (fun _ h => List.mem_cons_of_mem _ (List.mem_append_right _ h)) (by decide +kernel))
set_option maxRecDepth 20000 in
theorem gX3_isSame_X2_degreeOf : GoodIn wsX3_isSame (wsV RX3 76 RX2 yX2_degreeOf wsX2_degreeOf) := goodIn_app (goodIn_of _ (by decide +kernel)) ggX3_isSame_X2_degreeOf
set_option maxRecDepth 20000 in
theorem ggX3_isSame_X2_kinOf : GoodIn wsX3_isSame wsX2_kinOf := goodIn_ca (goodIn_r _ [87, 35, 29, 30, 31, 27, 32, 33, 34, 36, 88, 89, 90, 91, 63, 64, 65, 66, 67, 68, 69, 70, 71, 72, 73, 74, 75, 76, 77, 78, 79, 80, 81, 82, 83, 92, 93, 94, 95, 96, 209, 210, 211, 212, 213, 214, 215, 216, 217, 218, 219, 220, 221, 222] (by decide +kernel) (by decide +kernel)) (goodIn_sub (fun _ h => List.mem_cons_of_mem _ (List.mem_append_right _ h)) (by decide +kernel))
set_option maxRecDepth 20000 in
theorem gX3_isSame_X2_kinOf : GoodIn wsX3_isSame (wsV RX3 79 RX2 yX2_kinOf wsX2_kinOf) := goodIn_app (goodIn_of _ (by decide +kernel)) ggX3_isSame_X2_kinOf
set_option maxRecDepth 20000 in
theorem ggX3_isSame_X3_wears : GoodIn wsX3_isSame wsX3_wears := goodIn_r _ [100, 16, 17, 18, 19, 20, 101, 102, 9, 103, 204, 205, 206, 207, 208] (by decide +kernel) (by decide +kernel)
set_option maxRecDepth 20000 in
theorem gX3_isSame_X3_wears : GoodIn wsX3_isSame (wsV RX3 58 RX3 yX3_wears wsX3_wears) := goodIn_app (goodIn_of _ (by decide +kernel)) ggX3_isSame_X3_wears
set_option maxRecDepth 20000 in
theorem ggX3_isSame_X2_isAlive : GoodIn wsX3_isSame wsX2_isAlive := goodIn_ca (goodIn_r _ [107, 35, 108, 29, 30, 31, 27, 32, 33, 34, 36, 209, 210, 211, 212, 213, 214, 215, 216, 217, 218, 219, 220, 221, 222] (by decide +kernel) (by decide +kernel)) (goodIn_sub (fun _ h => List.mem_cons_of_mem _ (List.mem_append_right _ h)) (by decide +kernel))
set_option maxRecDepth 20000 in
theorem gX3_isSame_X2_isAlive : GoodIn wsX3_isSame (wsV RX3 82 RX2 yX2_isAlive wsX2_isAlive) := goodIn_app (goodIn_of _ (by decide +kernel)) ggX3_isSame_X2_isAlive
set_option maxRecDepth 20000 in
theorem ggX3_isSame_X2_parentOf : GoodIn wsX3_isSame wsX2_parentOf := goodIn_ca (goodIn_r _ [112, 35, 113, 29, 30, 31, 27, 32, 33, 34, 36, 209, 210, 211, 212, 213, 214, 215, 216, 217, 218, 219, 220, 221, 222] (by decide +kernel) (by decide +kernel)) (goodIn_sub (fun _ h => List.mem_cons_of_mem _ (List.mem_append_right _ h)) (by decide +kernel))
set_option maxRecDepth 20000 in
theorem gX3_isSame_X2_parentOf : GoodIn wsX3_isSame (wsV RX3 86 RX2 yX2_parentOf wsX2_parentOf) := goodIn_app (goodIn_of _ (by decide +kernel)) ggX3_isSame_X2_parentOf
set_option maxRecDepth 20000 in
theorem ggX3_isSame_X2_marriedTo : GoodIn wsX3_isSame wsX2_marriedTo := goodIn_ca (goodIn_r _ [117, 35, 118, 29, 30, 31, 27, 32, 33, 34, 36, 209, 210, 211, 212, 213, 214, 215, 216, 217, 218, 219, 220, 221, 222] (by decide +kernel) (by decide +kernel)) (goodIn_sub (fun _ h => List.mem_cons_of_mem _ (List.mem_append_right _ h)) (by decide +kernel))
set_option maxRecDepth 20000 in
theorem gX3_isSame_X2_marriedTo : GoodIn wsX3_isSame (wsV RX3 89 RX2 yX2_marriedTo wsX2_marriedTo) := goodIn_app (goodIn_of _ (by decide +kernel)) ggX3_isSame_X2_marriedTo
set_option maxRecDepth 20000 in
theorem ggX3_isSame_X2_colourOf : GoodIn wsX3_isSame wsX2_colourOf := goodIn_ca (goodIn_r _ [122, 29, 30, 31, 27, 32, 33, 34, 35, 36, 123, 124, 125, 126, 43, 44, 41, 42, 45, 18, 19, 20, 46, 47, 48, 127, 128, 129, 52, 130, 54, 131, 55, 56, 57, 209, 210, 211, 212, 213, 214, 215, 216, 217, 218, 219, 220, 221, 222, 223, 224] (by decide +kernel) (by decide +kernel)) (goodIn_sub (fun _ h => List.mem_cons_of_mem _ (List.mem_append_right _ h)) (by decide +kernel))
set_option maxRecDepth 20000 in
theorem gX3_isSame_X2_colourOf : GoodIn wsX3_isSame (wsV RX3 92 RX2 yX2_colourOf wsX2_colourOf) := goodIn_app (goodIn_of _ (by decide +kernel)) ggX3_isSame_X2_colourOf
set_option maxRecDepth 20000 in
theorem ggX3_isSame_X2_mourningsOf : GoodIn wsX3_isSame wsX2_mourningsOf := goodIn_ca (goodIn_r _ [135, 29, 30, 31, 27, 32, 33, 34, 35, 36, 136, 137, 138, 139, 37, 38, 39, 40, 41, 42, 43, 44, 45, 18, 19, 20, 46, 47, 48, 49, 50, 51, 52, 53, 54, 55, 56, 57, 209, 210, 211, 212, 213, 214, 215, 216, 217, 218, 219, 220, 221, 222, 223, 224] (by decide +kernel) (by decide +kernel)) (goodIn_sub (fun _ h => List.mem_cons_of_mem _ (List.mem_append_right _ h)) (by decide +kernel))
set_option maxRecDepth 20000 in
theorem gX3_isSame_X2_mourningsOf : GoodIn wsX3_isSame (wsV RX3 95 RX2 yX2_mourningsOf wsX2_mourningsOf) := goodIn_app (goodIn_of _ (by decide +kernel)) ggX3_isSame_X2_mourningsOf
set_option maxRecDepth 20000 in
theorem ggX3_isSame_X2_daysLeft : GoodIn wsX3_isSame wsX2_daysLeft := goodIn_ca (goodIn_r _ [143, 29, 30, 31, 27, 32, 33, 34, 35, 36, 144, 145, 146, 147, 45, 18, 19, 20, 37, 38, 39, 40, 41, 42, 43, 44, 46, 47, 48, 49, 50, 51, 52, 53, 54, 55, 56, 57, 209, 210, 211, 212, 213, 214, 215, 216, 217, 218, 219, 220, 221, 222, 223, 224] (by decide +kernel) (by decide +kernel)) (goodIn_sub (fun _ h => List.mem_cons_of_mem _ (List.mem_append_right _ h)) (by decide +kernel))
set_option maxRecDepth 20000 in
theorem gX3_isSame_X2_daysLeft : GoodIn wsX3_isSame (wsV RX3 98 RX2 yX2_daysLeft wsX2_daysLeft) := goodIn_app (goodIn_of _ (by decide +kernel)) ggX3_isSame_X2_daysLeft
set_option maxRecDepth 20000 in
theorem ggX3_isSame_X2_wearing : GoodIn wsX3_isSame wsX2_wearing := goodIn_ca (goodIn_r _ [151, 33, 34, 152, 153, 154, 27, 155, 35, 36, 108, 123, 124, 125, 126, 43, 44, 41, 42, 45, 18, 19, 20, 46, 47, 48, 127, 128, 129, 52, 130, 54, 131, 55, 56, 57, 209, 210, 211, 212, 213, 214, 215, 216, 217, 218, 219, 220, 221, 222, 223, 224] (by decide +kernel) (by decide +kernel)) (goodIn_sub (fun _ h => List.mem_cons_of_mem _ (List.mem_append_right _ h)) (by decide +kernel))
set_option maxRecDepth 20000 in
theorem gX3_isSame_X2_wearing : GoodIn wsX3_isSame (wsV RX3 101 RX2 yX2_wearing wsX2_wearing) := goodIn_app (goodIn_of _ (by decide +kernel)) ggX3_isSame_X2_wearing
set_option maxRecDepth 20000 in
theorem ggX3_isSame_X2_stageColour : GoodIn wsX3_isSame wsX2_stageColour := goodIn_ca (goodIn_r _ [159, 41, 160, 161, 162, 163, 27, 164, 33, 34, 88, 89, 90, 91, 165, 56, 52, 57, 209, 210, 211, 212, 213, 214, 215, 216, 217, 223, 224] (by decide +kernel) (by decide +kernel)) (goodIn_sub (fun _ h => List.mem_cons_of_mem _ (List.mem_append_right _ h)) (by decide +kernel))
set_option maxRecDepth 20000 in
theorem gX3_isSame_X2_stageColour : GoodIn wsX3_isSame (wsV RX3 104 RX2 yX2_stageColour wsX2_stageColour) := goodIn_app (goodIn_of _ (by decide +kernel)) ggX3_isSame_X2_stageColour
set_option maxRecDepth 20000 in
theorem ggX3_isSame_X2_stageDays : GoodIn wsX3_isSame wsX2_stageDays := goodIn_ca (goodIn_r _ [169, 41, 170, 161, 162, 163, 27, 164, 33, 34, 88, 89, 90, 91, 165, 56, 52, 57, 209, 210, 211, 212, 213, 214, 215, 216, 217, 223, 224] (by decide +kernel) (by decide +kernel)) (goodIn_sub (fun _ h => List.mem_cons_of_mem _ (List.mem_append_right _ h)) (by decide +kernel))
set_option maxRecDepth 20000 in
theorem gX3_isSame_X2_stageDays : GoodIn wsX3_isSame (wsV RX3 107 RX2 yX2_stageDays wsX2_stageDays) := goodIn_app (goodIn_of _ (by decide +kernel)) ggX3_isSame_X2_stageDays
set_option maxRecDepth 20000 in
theorem ggX3_isSame_X2_people : GoodIn wsX3_isSame wsX2_people := goodIn_r _ [174, 35, 36, 209, 210, 211, 212, 213, 214, 215, 216, 217, 218, 219, 220, 221, 222] (by decide +kernel) (by decide +kernel)
set_option maxRecDepth 20000 in
theorem gX3_isSame_X2_people : GoodIn wsX3_isSame (wsV RX3 110 RX2 yX2_people wsX2_people) := goodIn_app (goodIn_of _ (by decide +kernel)) ggX3_isSame_X2_people
set_option maxRecDepth 20000 in
theorem ggX3_isSame_X2_living : GoodIn wsX3_isSame wsX2_living := goodIn_r _ [178, 35, 179, 180, 181, 66, 182, 69, 96, 209, 210, 211, 212, 213, 214, 215, 216, 217, 218, 219, 220, 221, 222] (by decide +kernel) (by decide +kernel)
set_option maxRecDepth 20000 in
theorem gX3_isSame_X2_living : GoodIn wsX3_isSame (wsV RX3 112 RX2 yX2_living wsX2_living) := goodIn_app (goodIn_of _ (by decide +kernel)) ggX3_isSame_X2_living
set_option maxRecDepth 20000 in
theorem ggX3_isSame_X2_day : GoodIn wsX3_isSame wsX2_day := goodIn_r _ [186, 43, 209, 210, 211, 212, 213, 214, 215, 216, 217] (by decide +kernel) (by decide +kernel)
set_option maxRecDepth 20000 in
theorem gX3_isSame_X2_day : GoodIn wsX3_isSame (wsV RX3 115 RX2 yX2_day wsX2_day) := goodIn_app (goodIn_of _ (by decide +kernel)) ggX3_isSame_X2_day
set_option maxRecDepth 20000 in
theorem ggX3_isSame_X2_strictest : GoodIn wsX3_isSame wsX2_strictest := goodIn_r _ [190, 35, 36, 45, 18, 19, 20, 123, 124, 125, 27, 126, 43, 44, 41, 42, 46, 47, 48, 127, 128, 129, 52, 130, 54, 131, 55, 56, 57, 209, 210, 211, 212, 213, 214, 215, 216, 217, 218, 219, 220, 221, 222, 223, 224] (by decide +kernel) (by decide +kernel)
set_option maxRecDepth 20000 in
theorem gX3_isSame_X2_strictest : GoodIn wsX3_isSame (wsV RX3 117 RX2 yX2_strictest wsX2_strictest) := goodIn_app (goodIn_of _ (by decide +kernel)) ggX3_isSame_X2_strictest
set_option maxRecDepth 20000 in
theorem ggX3_isSame_X2_longestMourner : GoodIn wsX3_isSame wsX2_longestMourner := goodIn_r _ [194, 35, 36, 144, 145, 146, 27, 147, 45, 18, 19, 20, 37, 38, 39, 40, 41, 42, 43, 44, 46, 47, 48, 49, 50, 51, 52, 53, 54, 55, 56, 57, 209, 210, 211, 212, 213, 214, 215, 216, 217, 218, 219, 220, 221, 222, 223, 224] (by decide +kernel) (by decide +kernel)
set_option maxRecDepth 20000 in
theorem gX3_isSame_X2_longestMourner : GoodIn wsX3_isSame (wsV RX3 120 RX2 yX2_longestMourner wsX2_longestMourner) := goodIn_app (goodIn_of _ (by decide +kernel)) ggX3_isSame_X2_longestMourner
set_option maxRecDepth 20000 in
theorem ggX3_isSame_X2_daysWorn : GoodIn wsX3_isSame wsX2_daysWorn := goodIn_r _ [198, 199, 209, 210, 211, 212, 213, 214, 215, 216, 217] (by decide +kernel) (by decide +kernel)
set_option maxRecDepth 20000 in
theorem gX3_isSame_X2_daysWorn : GoodIn wsX3_isSame (wsV RX3 123 RX2 yX2_daysWorn wsX2_daysWorn) := goodIn_app (goodIn_of _ (by decide +kernel)) ggX3_isSame_X2_daysWorn
set_option maxRecDepth 20000 in
theorem ggX3_isSame_X2_meanDaysLeft : GoodIn wsX3_isSame wsX2_meanDaysLeft := goodIn_r _ [203, 35, 36, 179, 180, 181, 66, 182, 69, 96, 144, 145, 146, 27, 147, 45, 18, 19, 20, 37, 38, 39, 40, 41, 42, 43, 44, 46, 47, 48, 49, 50, 51, 52, 53, 54, 55, 56, 57, 209, 210, 211, 212, 213, 214, 215, 216, 217, 218, 219, 220, 221, 222, 223, 224] (by decide +kernel) (by decide +kernel)
set_option maxRecDepth 20000 in
theorem gX3_isSame_X2_meanDaysLeft : GoodIn wsX3_isSame (wsV RX3 126 RX2 yX2_meanDaysLeft wsX2_meanDaysLeft) := goodIn_app (goodIn_of _ (by decide +kernel)) ggX3_isSame_X2_meanDaysLeft
theorem dX3_isSame_0 : decode cX3_isSame 0 = .ok (.aload_n 0, 1) := by decide +kernel
theorem dX3_isSame_1 : decode cX3_isSame 1 = .ok (.getfield 9, 3) := by decide +kernel
theorem dX3_isSame_4 : decode cX3_isSame 4 = .ok (.arraylength, 1) := by decide +kernel
theorem dX3_isSame_5 : decode cX3_isSame 5 = .ok (.istore_n 2, 1) := by decide +kernel
theorem dX3_isSame_6 : decode cX3_isSame 6 = .ok (.aload_n 0, 1) := by decide +kernel
theorem dX3_isSame_7 : decode cX3_isSame 7 = .ok (.invokevirtual 42, 3) := by decide +kernel
theorem dX3_isSame_10 : decode cX3_isSame 10 = .ok (.astore_n 3, 1) := by decide +kernel
theorem dX3_isSame_11 : decode cX3_isSame 11 = .ok (.bipush 6, 2) := by decide +kernel
theorem dX3_isSame_13 : decode cX3_isSame 13 = .ok (.newarray .int, 2) := by decide +kernel
theorem dX3_isSame_15 : decode cX3_isSame 15 = .ok (.astore 4, 2) := by decide +kernel
theorem dX3_isSame_17 : decode cX3_isSame 17 = .ok (.iconst 0, 1) := by decide +kernel
theorem dX3_isSame_18 : decode cX3_isSame 18 = .ok (.istore 5, 2) := by decide +kernel
theorem dX3_isSame_20 : decode cX3_isSame 20 = .ok (.iconst 0, 1) := by decide +kernel
theorem dX3_isSame_21 : decode cX3_isSame 21 = .ok (.istore 6, 2) := by decide +kernel
theorem dX3_isSame_23 : decode cX3_isSame 23 = .ok (.iconst 0, 1) := by decide +kernel
theorem dX3_isSame_24 : decode cX3_isSame 24 = .ok (.istore 7, 2) := by decide +kernel
theorem dX3_isSame_26 : decode cX3_isSame 26 = .ok (.iconst (-1), 1) := by decide +kernel
theorem dX3_isSame_27 : decode cX3_isSame 27 = .ok (.istore 8, 2) := by decide +kernel
theorem dX3_isSame_29 : decode cX3_isSame 29 = .ok (.iconst 0, 1) := by decide +kernel
theorem dX3_isSame_30 : decode cX3_isSame 30 = .ok (.istore 9, 2) := by decide +kernel
theorem dX3_isSame_32 : decode cX3_isSame 32 = .ok (.iload 9, 2) := by decide +kernel
theorem dX3_isSame_34 : decode cX3_isSame 34 = .ok (.iload_n 2, 1) := by decide +kernel
theorem dX3_isSame_35 : decode cX3_isSame 35 = .ok (.if_icmp .ge 335, 3) := by decide +kernel
theorem dX3_isSame_38 : decode cX3_isSame 38 = .ok (.iconst 0, 1) := by decide +kernel
theorem dX3_isSame_39 : decode cX3_isSame 39 = .ok (.istore 10, 2) := by decide +kernel
theorem dX3_isSame_41 : decode cX3_isSame 41 = .ok (.aload_n 0, 1) := by decide +kernel
theorem dX3_isSame_42 : decode cX3_isSame 42 = .ok (.iload 9, 2) := by decide +kernel
theorem dX3_isSame_44 : decode cX3_isSame 44 = .ok (.iconst (-1), 1) := by decide +kernel
theorem dX3_isSame_45 : decode cX3_isSame 45 = .ok (.invokevirtual 68, 3) := by decide +kernel
theorem dX3_isSame_48 : decode cX3_isSame 48 = .ok (.istore 11, 2) := by decide +kernel
theorem dX3_isSame_50 : decode cX3_isSame 50 = .ok (.iconst 0, 1) := by decide +kernel
theorem dX3_isSame_51 : decode cX3_isSame 51 = .ok (.istore 12, 2) := by decide +kernel
theorem dX3_isSame_53 : decode cX3_isSame 53 = .ok (.iload 12, 2) := by decide +kernel
theorem dX3_isSame_55 : decode cX3_isSame 55 = .ok (.iload_n 2, 1) := by decide +kernel
theorem dX3_isSame_56 : decode cX3_isSame 56 = .ok (.if_icmp .ge 67, 3) := by decide +kernel
theorem dX3_isSame_59 : decode cX3_isSame 59 = .ok (.aload_n 0, 1) := by decide +kernel
theorem dX3_isSame_60 : decode cX3_isSame 60 = .ok (.iload 9, 2) := by decide +kernel
theorem dX3_isSame_62 : decode cX3_isSame 62 = .ok (.iload 12, 2) := by decide +kernel
theorem dX3_isSame_64 : decode cX3_isSame 64 = .ok (.invokevirtual 68, 3) := by decide +kernel
theorem dX3_isSame_67 : decode cX3_isSame 67 = .ok (.istore 13, 2) := by decide +kernel
theorem dX3_isSame_69 : decode cX3_isSame 69 = .ok (.iload 10, 2) := by decide +kernel
theorem dX3_isSame_71 : decode cX3_isSame 71 = .ok (.iload 13, 2) := by decide +kernel
theorem dX3_isSame_73 : decode cX3_isSame 73 = .ok (.ifCond .le 7, 3) := by decide +kernel
theorem dX3_isSame_76 : decode cX3_isSame 76 = .ok (.iconst 1, 1) := by decide +kernel
theorem dX3_isSame_77 : decode cX3_isSame 77 = .ok (.goto 4, 3) := by decide +kernel
theorem dX3_isSame_80 : decode cX3_isSame 80 = .ok (.iconst 0, 1) := by decide +kernel
theorem dX3_isSame_81 : decode cX3_isSame 81 = .ok (.iadd, 1) := by decide +kernel
theorem dX3_isSame_82 : decode cX3_isSame 82 = .ok (.istore 10, 2) := by decide +kernel
theorem dX3_isSame_84 : decode cX3_isSame 84 = .ok (.aload_n 1, 1) := by decide +kernel
theorem dX3_isSame_85 : decode cX3_isSame 85 = .ok (.iload 9, 2) := by decide +kernel
theorem dX3_isSame_87 : decode cX3_isSame 87 = .ok (.iload 12, 2) := by decide +kernel
theorem dX3_isSame_89 : decode cX3_isSame 89 = .ok (.invokevirtual 71, 3) := by decide +kernel
theorem dX3_isSame_92 : decode cX3_isSame 92 = .ok (.iload 13, 2) := by decide +kernel
theorem dX3_isSame_94 : decode cX3_isSame 94 = .ok (.if_icmp .ne 21, 3) := by decide +kernel
theorem dX3_isSame_97 : decode cX3_isSame 97 = .ok (.aload_n 1, 1) := by decide +kernel
theorem dX3_isSame_98 : decode cX3_isSame 98 = .ok (.iload 9, 2) := by decide +kernel
theorem dX3_isSame_100 : decode cX3_isSame 100 = .ok (.iload 12, 2) := by decide +kernel
theorem dX3_isSame_102 : decode cX3_isSame 102 = .ok (.invokevirtual 76, 3) := by decide +kernel
theorem dX3_isSame_105 : decode cX3_isSame 105 = .ok (.aload_n 3, 1) := by decide +kernel
theorem dX3_isSame_106 : decode cX3_isSame 106 = .ok (.iload 9, 2) := by decide +kernel
theorem dX3_isSame_108 : decode cX3_isSame 108 = .ok (.aaload, 1) := by decide +kernel
theorem dX3_isSame_109 : decode cX3_isSame 109 = .ok (.iload 12, 2) := by decide +kernel
theorem dX3_isSame_111 : decode cX3_isSame 111 = .ok (.iaload, 1) := by decide +kernel
theorem dX3_isSame_112 : decode cX3_isSame 112 = .ok (.if_icmp .eq 5, 3) := by decide +kernel
theorem dX3_isSame_115 : decode cX3_isSame 115 = .ok (.iconst 0, 1) := by decide +kernel
theorem dX3_isSame_116 : decode cX3_isSame 116 = .ok (.ireturn, 1) := by decide +kernel
theorem dX3_isSame_117 : decode cX3_isSame 117 = .ok (.iinc 12 1, 3) := by decide +kernel
theorem dX3_isSame_120 : decode cX3_isSame 120 = .ok (.goto (-67), 3) := by decide +kernel
theorem dX3_isSame_123 : decode cX3_isSame 123 = .ok (.iconst 5, 1) := by decide +kernel
theorem dX3_isSame_124 : decode cX3_isSame 124 = .ok (.newarray .int, 2) := by decide +kernel
theorem dX3_isSame_126 : decode cX3_isSame 126 = .ok (.astore 12, 2) := by decide +kernel
theorem dX3_isSame_128 : decode cX3_isSame 128 = .ok (.iconst 0, 1) := by decide +kernel
theorem dX3_isSame_129 : decode cX3_isSame 129 = .ok (.istore 13, 2) := by decide +kernel
theorem dX3_isSame_131 : decode cX3_isSame 131 = .ok (.iload 13, 2) := by decide +kernel
theorem dX3_isSame_133 : decode cX3_isSame 133 = .ok (.iload_n 2, 1) := by decide +kernel
theorem dX3_isSame_134 : decode cX3_isSame 134 = .ok (.if_icmp .ge 31, 3) := by decide +kernel
theorem dX3_isSame_137 : decode cX3_isSame 137 = .ok (.aload 12, 2) := by decide +kernel
theorem dX3_isSame_139 : decode cX3_isSame 139 = .ok (.aload_n 3, 1) := by decide +kernel
theorem dX3_isSame_140 : decode cX3_isSame 140 = .ok (.iload 9, 2) := by decide +kernel
theorem dX3_isSame_142 : decode cX3_isSame 142 = .ok (.aaload, 1) := by decide +kernel
theorem dX3_isSame_143 : decode cX3_isSame 143 = .ok (.iload 13, 2) := by decide +kernel
theorem dX3_isSame_145 : decode cX3_isSame 145 = .ok (.iaload, 1) := by decide +kernel
theorem dX3_isSame_146 : decode cX3_isSame 146 = .ok (.dup2, 1) := by decide +kernel
theorem dX3_isSame_147 : decode cX3_isSame 147 = .ok (.iaload, 1) := by decide +kernel
theorem dX3_isSame_148 : decode cX3_isSame 148 = .ok (.aload_n 0, 1) := by decide +kernel
theorem dX3_isSame_149 : decode cX3_isSame 149 = .ok (.getfield 9, 3) := by decide +kernel
theorem dX3_isSame_152 : decode cX3_isSame 152 = .ok (.iload 13, 2) := by decide +kernel
theorem dX3_isSame_154 : decode cX3_isSame 154 = .ok (.aaload, 1) := by decide +kernel
theorem dX3_isSame_155 : decode cX3_isSame 155 = .ok (.iconst 2, 1) := by decide +kernel
theorem dX3_isSame_156 : decode cX3_isSame 156 = .ok (.iaload, 1) := by decide +kernel
theorem dX3_isSame_157 : decode cX3_isSame 157 = .ok (.iadd, 1) := by decide +kernel
theorem dX3_isSame_158 : decode cX3_isSame 158 = .ok (.iastore, 1) := by decide +kernel
theorem dX3_isSame_159 : decode cX3_isSame 159 = .ok (.iinc 13 1, 3) := by decide +kernel
theorem dX3_isSame_162 : decode cX3_isSame 162 = .ok (.goto (-31), 3) := by decide +kernel
theorem dX3_isSame_165 : decode cX3_isSame 165 = .ok (.iconst 1, 1) := by decide +kernel
theorem dX3_isSame_166 : decode cX3_isSame 166 = .ok (.istore 13, 2) := by decide +kernel
theorem dX3_isSame_168 : decode cX3_isSame 168 = .ok (.iload 13, 2) := by decide +kernel
theorem dX3_isSame_170 : decode cX3_isSame 170 = .ok (.iconst 5, 1) := by decide +kernel
theorem dX3_isSame_171 : decode cX3_isSame 171 = .ok (.if_icmp .ge 27, 3) := by decide +kernel
theorem dX3_isSame_174 : decode cX3_isSame 174 = .ok (.aload_n 1, 1) := by decide +kernel
theorem dX3_isSame_175 : decode cX3_isSame 175 = .ok (.iload 9, 2) := by decide +kernel
theorem dX3_isSame_177 : decode cX3_isSame 177 = .ok (.iload 13, 2) := by decide +kernel
theorem dX3_isSame_179 : decode cX3_isSame 179 = .ok (.invokevirtual 79, 3) := by decide +kernel
theorem dX3_isSame_182 : decode cX3_isSame 182 = .ok (.aload 12, 2) := by decide +kernel
theorem dX3_isSame_184 : decode cX3_isSame 184 = .ok (.iload 13, 2) := by decide +kernel
theorem dX3_isSame_186 : decode cX3_isSame 186 = .ok (.iaload, 1) := by decide +kernel
theorem dX3_isSame_187 : decode cX3_isSame 187 = .ok (.if_icmp .eq 5, 3) := by decide +kernel
theorem dX3_isSame_190 : decode cX3_isSame 190 = .ok (.iconst 0, 1) := by decide +kernel
theorem dX3_isSame_191 : decode cX3_isSame 191 = .ok (.ireturn, 1) := by decide +kernel
theorem dX3_isSame_192 : decode cX3_isSame 192 = .ok (.iinc 13 1, 3) := by decide +kernel
theorem dX3_isSame_195 : decode cX3_isSame 195 = .ok (.goto (-27), 3) := by decide +kernel
theorem dX3_isSame_198 : decode cX3_isSame 198 = .ok (.aload_n 0, 1) := by decide +kernel
theorem dX3_isSame_199 : decode cX3_isSame 199 = .ok (.iload 9, 2) := by decide +kernel
theorem dX3_isSame_201 : decode cX3_isSame 201 = .ok (.aload_n 0, 1) := by decide +kernel
theorem dX3_isSame_202 : decode cX3_isSame 202 = .ok (.getfield 38, 3) := by decide +kernel
theorem dX3_isSame_205 : decode cX3_isSame 205 = .ok (.invokevirtual 58, 3) := by decide +kernel
theorem dX3_isSame_208 : decode cX3_isSame 208 = .ok (.istore 13, 2) := by decide +kernel
theorem dX3_isSame_210 : decode cX3_isSame 210 = .ok (.aload_n 1, 1) := by decide +kernel
theorem dX3_isSame_211 : decode cX3_isSame 211 = .ok (.iload 9, 2) := by decide +kernel
theorem dX3_isSame_213 : decode cX3_isSame 213 = .ok (.invokevirtual 82, 3) := by decide +kernel
theorem dX3_isSame_216 : decode cX3_isSame 216 = .ok (.aload_n 0, 1) := by decide +kernel
theorem dX3_isSame_217 : decode cX3_isSame 217 = .ok (.getfield 9, 3) := by decide +kernel
theorem dX3_isSame_220 : decode cX3_isSame 220 = .ok (.iload 9, 2) := by decide +kernel
theorem dX3_isSame_222 : decode cX3_isSame 222 = .ok (.aaload, 1) := by decide +kernel
theorem dX3_isSame_223 : decode cX3_isSame 223 = .ok (.iconst 2, 1) := by decide +kernel
theorem dX3_isSame_224 : decode cX3_isSame 224 = .ok (.iaload, 1) := by decide +kernel
theorem dX3_isSame_225 : decode cX3_isSame 225 = .ok (.iconst 1, 1) := by decide +kernel
theorem dX3_isSame_226 : decode cX3_isSame 226 = .ok (.if_icmp .ne 7, 3) := by decide +kernel
theorem dX3_isSame_229 : decode cX3_isSame 229 = .ok (.iconst 1, 1) := by decide +kernel
theorem dX3_isSame_230 : decode cX3_isSame 230 = .ok (.goto 4, 3) := by decide +kernel
theorem dX3_isSame_233 : decode cX3_isSame 233 = .ok (.iconst 0, 1) := by decide +kernel
theorem dX3_isSame_234 : decode cX3_isSame 234 = .ok (.if_icmp .ne 72, 3) := by decide +kernel
theorem dX3_isSame_237 : decode cX3_isSame 237 = .ok (.aload_n 1, 1) := by decide +kernel
theorem dX3_isSame_238 : decode cX3_isSame 238 = .ok (.iload 9, 2) := by decide +kernel
theorem dX3_isSame_240 : decode cX3_isSame 240 = .ok (.invokevirtual 86, 3) := by decide +kernel
theorem dX3_isSame_243 : decode cX3_isSame 243 = .ok (.aload_n 0, 1) := by decide +kernel
theorem dX3_isSame_244 : decode cX3_isSame 244 = .ok (.getfield 9, 3) := by decide +kernel
theorem dX3_isSame_247 : decode cX3_isSame 247 = .ok (.iload 9, 2) := by decide +kernel
theorem dX3_isSame_249 : decode cX3_isSame 249 = .ok (.aaload, 1) := by decide +kernel
theorem dX3_isSame_250 : decode cX3_isSame 250 = .ok (.iconst 0, 1) := by decide +kernel
theorem dX3_isSame_251 : decode cX3_isSame 251 = .ok (.iaload, 1) := by decide +kernel
theorem dX3_isSame_252 : decode cX3_isSame 252 = .ok (.if_icmp .ne 54, 3) := by decide +kernel
theorem dX3_isSame_255 : decode cX3_isSame 255 = .ok (.aload_n 1, 1) := by decide +kernel
theorem dX3_isSame_256 : decode cX3_isSame 256 = .ok (.iload 9, 2) := by decide +kernel
theorem dX3_isSame_258 : decode cX3_isSame 258 = .ok (.invokevirtual 89, 3) := by decide +kernel
theorem dX3_isSame_261 : decode cX3_isSame 261 = .ok (.aload_n 0, 1) := by decide +kernel
theorem dX3_isSame_262 : decode cX3_isSame 262 = .ok (.getfield 9, 3) := by decide +kernel
theorem dX3_isSame_265 : decode cX3_isSame 265 = .ok (.iload 9, 2) := by decide +kernel
theorem dX3_isSame_267 : decode cX3_isSame 267 = .ok (.aaload, 1) := by decide +kernel
theorem dX3_isSame_268 : decode cX3_isSame 268 = .ok (.iconst 1, 1) := by decide +kernel
theorem dX3_isSame_269 : decode cX3_isSame 269 = .ok (.iaload, 1) := by decide +kernel
theorem dX3_isSame_270 : decode cX3_isSame 270 = .ok (.if_icmp .ne 36, 3) := by decide +kernel
theorem dX3_isSame_273 : decode cX3_isSame 273 = .ok (.aload_n 1, 1) := by decide +kernel
theorem dX3_isSame_274 : decode cX3_isSame 274 = .ok (.iload 9, 2) := by decide +kernel
theorem dX3_isSame_276 : decode cX3_isSame 276 = .ok (.invokevirtual 92, 3) := by decide +kernel
theorem dX3_isSame_279 : decode cX3_isSame 279 = .ok (.iload 13, 2) := by decide +kernel
theorem dX3_isSame_281 : decode cX3_isSame 281 = .ok (.if_icmp .ne 25, 3) := by decide +kernel
theorem dX3_isSame_284 : decode cX3_isSame 284 = .ok (.aload_n 1, 1) := by decide +kernel
theorem dX3_isSame_285 : decode cX3_isSame 285 = .ok (.iload 9, 2) := by decide +kernel
theorem dX3_isSame_287 : decode cX3_isSame 287 = .ok (.invokevirtual 95, 3) := by decide +kernel
theorem dX3_isSame_290 : decode cX3_isSame 290 = .ok (.iload 10, 2) := by decide +kernel
theorem dX3_isSame_292 : decode cX3_isSame 292 = .ok (.if_icmp .ne 14, 3) := by decide +kernel
theorem dX3_isSame_295 : decode cX3_isSame 295 = .ok (.aload_n 1, 1) := by decide +kernel
theorem dX3_isSame_296 : decode cX3_isSame 296 = .ok (.iload 9, 2) := by decide +kernel
end
section
theorem dX3_isSame_298 : decode cX3_isSame 298 = .ok (.invokevirtual 98, 3) := by decide +kernel
theorem dX3_isSame_301 : decode cX3_isSame 301 = .ok (.iload 11, 2) := by decide +kernel
theorem dX3_isSame_303 : decode cX3_isSame 303 = .ok (.if_icmp .eq 5, 3) := by decide +kernel
theorem dX3_isSame_306 : decode cX3_isSame 306 = .ok (.iconst 0, 1) := by decide +kernel
theorem dX3_isSame_307 : decode cX3_isSame 307 = .ok (.ireturn, 1) := by decide +kernel
theorem dX3_isSame_308 : decode cX3_isSame 308 = .ok (.aload 4, 2) := by decide +kernel
theorem dX3_isSame_310 : decode cX3_isSame 310 = .ok (.iload 13, 2) := by decide +kernel
theorem dX3_isSame_312 : decode cX3_isSame 312 = .ok (.dup2, 1) := by decide +kernel
theorem dX3_isSame_313 : decode cX3_isSame 313 = .ok (.iaload, 1) := by decide +kernel
theorem dX3_isSame_314 : decode cX3_isSame 314 = .ok (.aload_n 0, 1) := by decide +kernel
theorem dX3_isSame_315 : decode cX3_isSame 315 = .ok (.getfield 9, 3) := by decide +kernel
theorem dX3_isSame_318 : decode cX3_isSame 318 = .ok (.iload 9, 2) := by decide +kernel
theorem dX3_isSame_320 : decode cX3_isSame 320 = .ok (.aaload, 1) := by decide +kernel
theorem dX3_isSame_321 : decode cX3_isSame 321 = .ok (.iconst 2, 1) := by decide +kernel
theorem dX3_isSame_322 : decode cX3_isSame 322 = .ok (.iaload, 1) := by decide +kernel
theorem dX3_isSame_323 : decode cX3_isSame 323 = .ok (.iadd, 1) := by decide +kernel
theorem dX3_isSame_324 : decode cX3_isSame 324 = .ok (.iastore, 1) := by decide +kernel
theorem dX3_isSame_325 : decode cX3_isSame 325 = .ok (.iload 5, 2) := by decide +kernel
theorem dX3_isSame_327 : decode cX3_isSame 327 = .ok (.aload_n 0, 1) := by decide +kernel
theorem dX3_isSame_328 : decode cX3_isSame 328 = .ok (.getfield 9, 3) := by decide +kernel
theorem dX3_isSame_331 : decode cX3_isSame 331 = .ok (.iload 9, 2) := by decide +kernel
theorem dX3_isSame_333 : decode cX3_isSame 333 = .ok (.aaload, 1) := by decide +kernel
theorem dX3_isSame_334 : decode cX3_isSame 334 = .ok (.iconst 2, 1) := by decide +kernel
theorem dX3_isSame_335 : decode cX3_isSame 335 = .ok (.iaload, 1) := by decide +kernel
theorem dX3_isSame_336 : decode cX3_isSame 336 = .ok (.iadd, 1) := by decide +kernel
theorem dX3_isSame_337 : decode cX3_isSame 337 = .ok (.istore 5, 2) := by decide +kernel
theorem dX3_isSame_339 : decode cX3_isSame 339 = .ok (.iload 6, 2) := by decide +kernel
theorem dX3_isSame_341 : decode cX3_isSame 341 = .ok (.iload 11, 2) := by decide +kernel
theorem dX3_isSame_343 : decode cX3_isSame 343 = .ok (.iadd, 1) := by decide +kernel
theorem dX3_isSame_344 : decode cX3_isSame 344 = .ok (.istore 6, 2) := by decide +kernel
theorem dX3_isSame_346 : decode cX3_isSame 346 = .ok (.iload 11, 2) := by decide +kernel
theorem dX3_isSame_348 : decode cX3_isSame 348 = .ok (.iload 7, 2) := by decide +kernel
theorem dX3_isSame_350 : decode cX3_isSame 350 = .ok (.if_icmp .gt 6, 3) := by decide +kernel
theorem dX3_isSame_353 : decode cX3_isSame 353 = .ok (.goto 11, 3) := by decide +kernel
theorem dX3_isSame_356 : decode cX3_isSame 356 = .ok (.iload 11, 2) := by decide +kernel
theorem dX3_isSame_358 : decode cX3_isSame 358 = .ok (.istore 7, 2) := by decide +kernel
theorem dX3_isSame_360 : decode cX3_isSame 360 = .ok (.iload 9, 2) := by decide +kernel
theorem dX3_isSame_362 : decode cX3_isSame 362 = .ok (.istore 8, 2) := by decide +kernel
theorem dX3_isSame_364 : decode cX3_isSame 364 = .ok (.iinc 9 1, 3) := by decide +kernel
theorem dX3_isSame_367 : decode cX3_isSame 367 = .ok (.goto (-335), 3) := by decide +kernel
theorem dX3_isSame_370 : decode cX3_isSame 370 = .ok (.iconst 0, 1) := by decide +kernel
theorem dX3_isSame_371 : decode cX3_isSame 371 = .ok (.istore 9, 2) := by decide +kernel
theorem dX3_isSame_373 : decode cX3_isSame 373 = .ok (.iconst 0, 1) := by decide +kernel
theorem dX3_isSame_374 : decode cX3_isSame 374 = .ok (.istore 10, 2) := by decide +kernel
theorem dX3_isSame_376 : decode cX3_isSame 376 = .ok (.iload 10, 2) := by decide +kernel
theorem dX3_isSame_378 : decode cX3_isSame 378 = .ok (.bipush 6, 2) := by decide +kernel
theorem dX3_isSame_380 : decode cX3_isSame 380 = .ok (.if_icmp .ge 42, 3) := by decide +kernel
theorem dX3_isSame_383 : decode cX3_isSame 383 = .ok (.aload_n 1, 1) := by decide +kernel
theorem dX3_isSame_384 : decode cX3_isSame 384 = .ok (.iload 10, 2) := by decide +kernel
theorem dX3_isSame_386 : decode cX3_isSame 386 = .ok (.invokevirtual 101, 3) := by decide +kernel
theorem dX3_isSame_389 : decode cX3_isSame 389 = .ok (.aload 4, 2) := by decide +kernel
theorem dX3_isSame_391 : decode cX3_isSame 391 = .ok (.iload 10, 2) := by decide +kernel
theorem dX3_isSame_393 : decode cX3_isSame 393 = .ok (.iaload, 1) := by decide +kernel
theorem dX3_isSame_394 : decode cX3_isSame 394 = .ok (.if_icmp .eq 5, 3) := by decide +kernel
theorem dX3_isSame_397 : decode cX3_isSame 397 = .ok (.iconst 0, 1) := by decide +kernel
theorem dX3_isSame_398 : decode cX3_isSame 398 = .ok (.ireturn, 1) := by decide +kernel
theorem dX3_isSame_399 : decode cX3_isSame 399 = .ok (.iload 10, 2) := by decide +kernel
theorem dX3_isSame_401 : decode cX3_isSame 401 = .ok (.ifCond .le 15, 3) := by decide +kernel
theorem dX3_isSame_404 : decode cX3_isSame 404 = .ok (.aload 4, 2) := by decide +kernel
theorem dX3_isSame_406 : decode cX3_isSame 406 = .ok (.iload 10, 2) := by decide +kernel
theorem dX3_isSame_408 : decode cX3_isSame 408 = .ok (.iaload, 1) := by decide +kernel
theorem dX3_isSame_409 : decode cX3_isSame 409 = .ok (.ifCond .le 7, 3) := by decide +kernel
theorem dX3_isSame_412 : decode cX3_isSame 412 = .ok (.iload 10, 2) := by decide +kernel
theorem dX3_isSame_414 : decode cX3_isSame 414 = .ok (.istore 9, 2) := by decide +kernel
theorem dX3_isSame_416 : decode cX3_isSame 416 = .ok (.iinc 10 1, 3) := by decide +kernel
theorem dX3_isSame_419 : decode cX3_isSame 419 = .ok (.goto (-43), 3) := by decide +kernel
theorem dX3_isSame_422 : decode cX3_isSame 422 = .ok (.iconst 1, 1) := by decide +kernel
theorem dX3_isSame_423 : decode cX3_isSame 423 = .ok (.istore 10, 2) := by decide +kernel
theorem dX3_isSame_425 : decode cX3_isSame 425 = .ok (.iload 10, 2) := by decide +kernel
theorem dX3_isSame_427 : decode cX3_isSame 427 = .ok (.iconst 5, 1) := by decide +kernel
theorem dX3_isSame_428 : decode cX3_isSame 428 = .ok (.if_icmp .ge 72, 3) := by decide +kernel
theorem dX3_isSame_431 : decode cX3_isSame 431 = .ok (.iconst 0, 1) := by decide +kernel
theorem dX3_isSame_432 : decode cX3_isSame 432 = .ok (.istore 11, 2) := by decide +kernel
theorem dX3_isSame_434 : decode cX3_isSame 434 = .ok (.iload 11, 2) := by decide +kernel
theorem dX3_isSame_436 : decode cX3_isSame 436 = .ok (.iconst 3, 1) := by decide +kernel
theorem dX3_isSame_437 : decode cX3_isSame 437 = .ok (.if_icmp .ge 57, 3) := by decide +kernel
theorem dX3_isSame_440 : decode cX3_isSame 440 = .ok (.aload_n 1, 1) := by decide +kernel
theorem dX3_isSame_441 : decode cX3_isSame 441 = .ok (.iload 10, 2) := by decide +kernel
theorem dX3_isSame_443 : decode cX3_isSame 443 = .ok (.iload 11, 2) := by decide +kernel
theorem dX3_isSame_445 : decode cX3_isSame 445 = .ok (.invokevirtual 104, 3) := by decide +kernel
theorem dX3_isSame_448 : decode cX3_isSame 448 = .ok (.aload_n 0, 1) := by decide +kernel
theorem dX3_isSame_449 : decode cX3_isSame 449 = .ok (.getfield 17, 3) := by decide +kernel
theorem dX3_isSame_452 : decode cX3_isSame 452 = .ok (.iload 10, 2) := by decide +kernel
theorem dX3_isSame_454 : decode cX3_isSame 454 = .ok (.aaload, 1) := by decide +kernel
theorem dX3_isSame_455 : decode cX3_isSame 455 = .ok (.iload 11, 2) := by decide +kernel
theorem dX3_isSame_457 : decode cX3_isSame 457 = .ok (.aaload, 1) := by decide +kernel
theorem dX3_isSame_458 : decode cX3_isSame 458 = .ok (.iconst 0, 1) := by decide +kernel
theorem dX3_isSame_459 : decode cX3_isSame 459 = .ok (.iaload, 1) := by decide +kernel
theorem dX3_isSame_460 : decode cX3_isSame 460 = .ok (.if_icmp .ne 26, 3) := by decide +kernel
theorem dX3_isSame_463 : decode cX3_isSame 463 = .ok (.aload_n 1, 1) := by decide +kernel
theorem dX3_isSame_464 : decode cX3_isSame 464 = .ok (.iload 10, 2) := by decide +kernel
theorem dX3_isSame_466 : decode cX3_isSame 466 = .ok (.iload 11, 2) := by decide +kernel
theorem dX3_isSame_468 : decode cX3_isSame 468 = .ok (.invokevirtual 107, 3) := by decide +kernel
theorem dX3_isSame_471 : decode cX3_isSame 471 = .ok (.aload_n 0, 1) := by decide +kernel
theorem dX3_isSame_472 : decode cX3_isSame 472 = .ok (.getfield 17, 3) := by decide +kernel
theorem dX3_isSame_475 : decode cX3_isSame 475 = .ok (.iload 10, 2) := by decide +kernel
theorem dX3_isSame_477 : decode cX3_isSame 477 = .ok (.aaload, 1) := by decide +kernel
theorem dX3_isSame_478 : decode cX3_isSame 478 = .ok (.iload 11, 2) := by decide +kernel
theorem dX3_isSame_480 : decode cX3_isSame 480 = .ok (.aaload, 1) := by decide +kernel
theorem dX3_isSame_481 : decode cX3_isSame 481 = .ok (.iconst 1, 1) := by decide +kernel
theorem dX3_isSame_482 : decode cX3_isSame 482 = .ok (.iaload, 1) := by decide +kernel
theorem dX3_isSame_483 : decode cX3_isSame 483 = .ok (.if_icmp .eq 5, 3) := by decide +kernel
theorem dX3_isSame_486 : decode cX3_isSame 486 = .ok (.iconst 0, 1) := by decide +kernel
theorem dX3_isSame_487 : decode cX3_isSame 487 = .ok (.ireturn, 1) := by decide +kernel
theorem dX3_isSame_488 : decode cX3_isSame 488 = .ok (.iinc 11 1, 3) := by decide +kernel
theorem dX3_isSame_491 : decode cX3_isSame 491 = .ok (.goto (-57), 3) := by decide +kernel
theorem dX3_isSame_494 : decode cX3_isSame 494 = .ok (.iinc 10 1, 3) := by decide +kernel
theorem dX3_isSame_497 : decode cX3_isSame 497 = .ok (.goto (-72), 3) := by decide +kernel
theorem dX3_isSame_500 : decode cX3_isSame 500 = .ok (.aload_n 1, 1) := by decide +kernel
theorem dX3_isSame_501 : decode cX3_isSame 501 = .ok (.invokevirtual 110, 3) := by decide +kernel
theorem dX3_isSame_504 : decode cX3_isSame 504 = .ok (.iload_n 2, 1) := by decide +kernel
theorem dX3_isSame_505 : decode cX3_isSame 505 = .ok (.if_icmp .ne 80, 3) := by decide +kernel
theorem dX3_isSame_508 : decode cX3_isSame 508 = .ok (.aload_n 1, 1) := by decide +kernel
theorem dX3_isSame_509 : decode cX3_isSame 509 = .ok (.invokevirtual 112, 3) := by decide +kernel
theorem dX3_isSame_512 : decode cX3_isSame 512 = .ok (.iload 5, 2) := by decide +kernel
theorem dX3_isSame_514 : decode cX3_isSame 514 = .ok (.if_icmp .ne 71, 3) := by decide +kernel
theorem dX3_isSame_517 : decode cX3_isSame 517 = .ok (.aload_n 1, 1) := by decide +kernel
theorem dX3_isSame_518 : decode cX3_isSame 518 = .ok (.invokevirtual 115, 3) := by decide +kernel
theorem dX3_isSame_521 : decode cX3_isSame 521 = .ok (.aload_n 0, 1) := by decide +kernel
theorem dX3_isSame_522 : decode cX3_isSame 522 = .ok (.getfield 38, 3) := by decide +kernel
theorem dX3_isSame_525 : decode cX3_isSame 525 = .ok (.if_icmp .ne 60, 3) := by decide +kernel
theorem dX3_isSame_528 : decode cX3_isSame 528 = .ok (.aload_n 1, 1) := by decide +kernel
theorem dX3_isSame_529 : decode cX3_isSame 529 = .ok (.invokevirtual 117, 3) := by decide +kernel
theorem dX3_isSame_532 : decode cX3_isSame 532 = .ok (.iload 9, 2) := by decide +kernel
theorem dX3_isSame_534 : decode cX3_isSame 534 = .ok (.if_icmp .ne 51, 3) := by decide +kernel
theorem dX3_isSame_537 : decode cX3_isSame 537 = .ok (.aload_n 1, 1) := by decide +kernel
theorem dX3_isSame_538 : decode cX3_isSame 538 = .ok (.invokevirtual 120, 3) := by decide +kernel
theorem dX3_isSame_541 : decode cX3_isSame 541 = .ok (.iload 8, 2) := by decide +kernel
theorem dX3_isSame_543 : decode cX3_isSame 543 = .ok (.if_icmp .ne 42, 3) := by decide +kernel
theorem dX3_isSame_546 : decode cX3_isSame 546 = .ok (.aload_n 1, 1) := by decide +kernel
theorem dX3_isSame_547 : decode cX3_isSame 547 = .ok (.invokevirtual 123, 3) := by decide +kernel
theorem dX3_isSame_550 : decode cX3_isSame 550 = .ok (.aload_n 0, 1) := by decide +kernel
theorem dX3_isSame_551 : decode cX3_isSame 551 = .ok (.getfield 61, 3) := by decide +kernel
theorem dX3_isSame_554 : decode cX3_isSame 554 = .ok (.if_icmp .ne 31, 3) := by decide +kernel
theorem dX3_isSame_557 : decode cX3_isSame 557 = .ok (.aload_n 1, 1) := by decide +kernel
theorem dX3_isSame_558 : decode cX3_isSame 558 = .ok (.invokevirtual 126, 3) := by decide +kernel
theorem dX3_isSame_561 : decode cX3_isSame 561 = .ok (.iload 5, 2) := by decide +kernel
theorem dX3_isSame_563 : decode cX3_isSame 563 = .ok (.ifCond .ne 7, 3) := by decide +kernel
theorem dX3_isSame_566 : decode cX3_isSame 566 = .ok (.dconst 0, 1) := by decide +kernel
theorem dX3_isSame_567 : decode cX3_isSame 567 = .ok (.goto 10, 3) := by decide +kernel
theorem dX3_isSame_570 : decode cX3_isSame 570 = .ok (.iload 6, 2) := by decide +kernel
theorem dX3_isSame_572 : decode cX3_isSame 572 = .ok (.i2d, 1) := by decide +kernel
theorem dX3_isSame_573 : decode cX3_isSame 573 = .ok (.iload 5, 2) := by decide +kernel
theorem dX3_isSame_575 : decode cX3_isSame 575 = .ok (.i2d, 1) := by decide +kernel
theorem dX3_isSame_576 : decode cX3_isSame 576 = .ok (.ddiv, 1) := by decide +kernel
theorem dX3_isSame_577 : decode cX3_isSame 577 = .ok (.dcmp .l, 1) := by decide +kernel
theorem dX3_isSame_578 : decode cX3_isSame 578 = .ok (.ifCond .ne 7, 3) := by decide +kernel
theorem dX3_isSame_581 : decode cX3_isSame 581 = .ok (.iconst 1, 1) := by decide +kernel
theorem dX3_isSame_582 : decode cX3_isSame 582 = .ok (.goto 4, 3) := by decide +kernel
theorem dX3_isSame_585 : decode cX3_isSame 585 = .ok (.iconst 0, 1) := by decide +kernel
theorem dX3_isSame_586 : decode cX3_isSame 586 = .ok (.ireturn, 1) := by decide +kernel
theorem dJ9_max_7cf53_0 : decode cJ9_max_7cf53 0 = .ok (.iload_n 0, 1) := by decide +kernel
theorem dJ9_max_7cf53_1 : decode cJ9_max_7cf53 1 = .ok (.iload_n 1, 1) := by decide +kernel
theorem dJ9_max_7cf53_2 : decode cJ9_max_7cf53 2 = .ok (.if_icmp .lt 7, 3) := by decide +kernel
theorem dJ9_max_7cf53_5 : decode cJ9_max_7cf53 5 = .ok (.iload_n 0, 1) := by decide +kernel
theorem dJ9_max_7cf53_6 : decode cJ9_max_7cf53 6 = .ok (.goto 4, 3) := by decide +kernel
theorem dJ9_max_7cf53_9 : decode cJ9_max_7cf53 9 = .ok (.iload_n 1, 1) := by decide +kernel
theorem dJ9_max_7cf53_10 : decode cJ9_max_7cf53 10 = .ok (.ireturn, 1) := by decide +kernel
theorem dJ9_min_7cf53_0 : decode cJ9_min_7cf53 0 = .ok (.iload_n 0, 1) := by decide +kernel
theorem dJ9_min_7cf53_1 : decode cJ9_min_7cf53 1 = .ok (.iload_n 1, 1) := by decide +kernel
theorem dJ9_min_7cf53_2 : decode cJ9_min_7cf53 2 = .ok (.if_icmp .gt 7, 3) := by decide +kernel
theorem dJ9_min_7cf53_5 : decode cJ9_min_7cf53 5 = .ok (.iload_n 0, 1) := by decide +kernel
theorem dJ9_min_7cf53_6 : decode cJ9_min_7cf53 6 = .ok (.goto 4, 3) := by decide +kernel
theorem dJ9_min_7cf53_9 : decode cJ9_min_7cf53 9 = .ok (.iload_n 1, 1) := by decide +kernel
theorem dJ9_min_7cf53_10 : decode cJ9_min_7cf53 10 = .ok (.ireturn, 1) := by decide +kernel
theorem dJ7_fill_53178_0 : decode cJ7_fill_53178 0 = .ok (.iconst 0, 1) := by decide +kernel
theorem dJ7_fill_53178_1 : decode cJ7_fill_53178 1 = .ok (.istore_n 2, 1) := by decide +kernel
theorem dJ7_fill_53178_2 : decode cJ7_fill_53178 2 = .ok (.aload_n 0, 1) := by decide +kernel
theorem dJ7_fill_53178_3 : decode cJ7_fill_53178 3 = .ok (.arraylength, 1) := by decide +kernel
theorem dJ7_fill_53178_4 : decode cJ7_fill_53178 4 = .ok (.istore_n 3, 1) := by decide +kernel
theorem dJ7_fill_53178_5 : decode cJ7_fill_53178 5 = .ok (.iload_n 2, 1) := by decide +kernel
theorem dJ7_fill_53178_6 : decode cJ7_fill_53178 6 = .ok (.iload_n 3, 1) := by decide +kernel
theorem dJ7_fill_53178_7 : decode cJ7_fill_53178 7 = .ok (.if_icmp .ge 13, 3) := by decide +kernel
theorem dJ7_fill_53178_10 : decode cJ7_fill_53178 10 = .ok (.aload_n 0, 1) := by decide +kernel
theorem dJ7_fill_53178_11 : decode cJ7_fill_53178 11 = .ok (.iload_n 2, 1) := by decide +kernel
theorem dJ7_fill_53178_12 : decode cJ7_fill_53178 12 = .ok (.iload_n 1, 1) := by decide +kernel
theorem dJ7_fill_53178_13 : decode cJ7_fill_53178 13 = .ok (.iastore, 1) := by decide +kernel
theorem dJ7_fill_53178_14 : decode cJ7_fill_53178 14 = .ok (.iinc 2 1, 3) := by decide +kernel
theorem dJ7_fill_53178_17 : decode cJ7_fill_53178 17 = .ok (.goto (-12), 3) := by decide +kernel
theorem dJ7_fill_53178_20 : decode cJ7_fill_53178 20 = .ok (.return_, 1) := by decide +kernel
theorem dL_below_0 : decode cL_below 0 = .ok (.iload_n 0, 1) := by decide +kernel
theorem dL_below_1 : decode cL_below 1 = .ok (.ldc 7, 2) := by decide +kernel
theorem dL_below_3 : decode cL_below 3 = .ok (.iand, 1) := by decide +kernel
theorem dL_below_4 : decode cL_below 4 = .ok (.iload_n 1, 1) := by decide +kernel
theorem dL_below_5 : decode cL_below 5 = .ok (.irem, 1) := by decide +kernel
theorem dL_below_6 : decode cL_below 6 = .ok (.ireturn, 1) := by decide +kernel
theorem dL_cell_0 : decode cL_cell 0 = .ok (.iload_n 1, 1) := by decide +kernel
theorem dL_cell_1 : decode cL_cell 1 = .ok (.aload_n 0, 1) := by decide +kernel
theorem dL_cell_2 : decode cL_cell 2 = .ok (.arraylength, 1) := by decide +kernel
theorem dL_cell_3 : decode cL_cell 3 = .ok (.if_icmp .ge 9, 3) := by decide +kernel
theorem dL_cell_6 : decode cL_cell 6 = .ok (.aload_n 0, 1) := by decide +kernel
theorem dL_cell_7 : decode cL_cell 7 = .ok (.iload_n 1, 1) := by decide +kernel
theorem dL_cell_8 : decode cL_cell 8 = .ok (.iaload, 1) := by decide +kernel
theorem dL_cell_9 : decode cL_cell 9 = .ok (.goto 9, 3) := by decide +kernel
theorem dL_cell_12 : decode cL_cell 12 = .ok (.ldc 8, 2) := by decide +kernel
theorem dL_cell_14 : decode cL_cell 14 = .ok (.iload_n 1, 1) := by decide +kernel
theorem dL_cell_15 : decode cL_cell 15 = .ok (.iconst 3, 1) := by decide +kernel
theorem dL_cell_16 : decode cL_cell 16 = .ok (.iadd, 1) := by decide +kernel
theorem dL_cell_17 : decode cL_cell 17 = .ok (.imul, 1) := by decide +kernel
theorem dL_cell_18 : decode cL_cell 18 = .ok (.ireturn, 1) := by decide +kernel
set_option maxRecDepth 20000 in
theorem ggL_act_L_below : GoodIn wsL_act wsL_below := goodIn_r _ [8, 9] (by decide +kernel) (by decide +kernel)
set_option maxRecDepth 20000 in
theorem gL_act_L_below : GoodIn wsL_act (va_wsS RL 15 yL_below wsL_below) := goodIn_app (goodIn_of _ (by decide +kernel)) ggL_act_L_below
set_option maxRecDepth 20000 in
theorem ggL_act_X3_more : GoodIn wsL_act wsX3_more := goodIn_r _ [13, 14] (by decide +kernel) (by decide +kernel)
set_option maxRecDepth 20000 in
theorem gL_act_X3_more : GoodIn wsL_act (va_wsS RL 21 yX3_more wsX3_more) := goodIn_app (goodIn_of _ (by decide +kernel)) ggL_act_X3_more
set_option maxRecDepth 20000 in
theorem ggL_act_X2_addPerson : GoodIn wsL_act wsX2_addPerson := goodIn_ca (goodIn_r _ [19, 20, 21, 22, 23, 18, 24, 25, 26, 27, 28, 29, 30, 31, 32, 33, 34, 35, 36, 37, 38, 39, 263, 264, 265, 266, 267, 268, 269, 270, 271, 272, 273, 274, 275, 276] (by decide +kernel) (by decide +kernel)) (goodIn_sub (fun _ h => List.mem_cons_of_mem _ (List.mem_append_left _ (List.mem_append_left _ (List.mem_append_right _ h)))) (by decide +kernel))
set_option maxRecDepth 20000 in
theorem gL_act_X2_addPerson : GoodIn wsL_act (wsV RL 25 RX2 yX2_addPerson wsX2_addPerson) := goodIn_app (goodIn_of _ (by decide +kernel)) ggL_act_X2_addPerson
set_option maxRecDepth 20000 in
theorem ggL_act_X2_addChild : GoodIn wsL_act wsX2_addChild := goodIn_ca (goodIn_ca (goodIn_r _ [43, 20, 44, 45, 46, 18, 47, 48, 49, 50, 51, 52, 53, 54, 25, 26, 55, 21, 22, 23, 24, 27, 28, 29, 30, 31, 32, 33, 34, 35, 36, 37, 38, 39, 263, 264, 265, 266, 267, 268, 269, 270, 271, 272, 273, 274, 275, 276] (by decide +kernel) (by decide +kernel)) (goodIn_sub (fun _ h => List.mem_cons_of_mem _ (List.mem_append_left _ (List.mem_append_right _ h))) (by decide +kernel))) (goodIn_sub (fun _ h => List.mem_cons_of_mem _ (List.mem_append_left _ (List.mem_append_left _ (List.mem_append_right _ h)))) (by decide +kernel))
set_option maxRecDepth 20000 in
theorem gL_act_X2_addChild : GoodIn wsL_act (wsV RL 33 RX2 yX2_addChild wsX2_addChild) := goodIn_app (goodIn_of _ (by decide +kernel)) ggL_act_X2_addChild
set_option maxRecDepth 20000 in
theorem ggL_act_X3_canMarry : GoodIn wsL_act wsX3_canMarry := goodIn_r _ [59, 60, 258, 259, 260, 261, 262] (by decide +kernel) (by decide +kernel)
set_option maxRecDepth 20000 in
theorem gL_act_X3_canMarry : GoodIn wsL_act (wsV RL 37 RX3 yX3_canMarry wsX3_canMarry) := goodIn_app (goodIn_of _ (by decide +kernel)) ggL_act_X3_canMarry
set_option maxRecDepth 20000 in
theorem ggL_act_X3_degrees : GoodIn wsL_act wsX3_degrees := goodIn_r _ [64, 60, 65, 3, 258, 259, 260, 261, 262] (by decide +kernel) (by decide +kernel)
set_option maxRecDepth 20000 in
theorem gL_act_X3_degrees : GoodIn wsL_act (wsV RL 41 RX3 yX3_degrees wsX3_degrees) := goodIn_app (goodIn_of _ (by decide +kernel)) ggL_act_X3_degrees
set_option maxRecDepth 20000 in
theorem ggL_act_X3_marry : GoodIn wsL_act wsX3_marry := goodIn_r _ [69, 60, 258, 259, 260, 261, 262] (by decide +kernel) (by decide +kernel)
set_option maxRecDepth 20000 in
theorem gL_act_X3_marry : GoodIn wsL_act (wsV RL 45 RX3 yX3_marry wsX3_marry) := goodIn_app (goodIn_of _ (by decide +kernel)) ggL_act_X3_marry
set_option maxRecDepth 20000 in
theorem ggL_act_X2_marry : GoodIn wsL_act wsX2_marry := goodIn_ca (goodIn_ca (goodIn_ca (goodIn_r _ [73, 25, 26, 20, 74, 44, 45, 46, 18, 47, 48, 49, 50, 75, 76, 77, 78, 79, 80, 51, 52, 53, 54, 55, 81, 82, 83, 30, 84, 38, 39, 85, 86, 87, 88, 89, 32, 90, 91, 92, 93, 94, 95, 96, 97, 98, 99, 100, 101, 37, 102, 103, 104, 105, 106, 107, 108, 109, 263, 264, 265, 266, 267, 268, 269, 270, 271, 272, 273, 274, 275, 276] (by decide +kernel) (by decide +kernel)) (goodIn_sub (fun _ h => List.mem_cons_of_mem _ (List.mem_append_left _ (List.mem_append_left _ (List.mem_append_right _ h)))) (by decide +kernel))) (goodIn_sub (fun _ h => List.mem_cons_of_mem _ (List.mem_append_left _ (List.mem_append_right _ h))) (by decide +kernel))) (goodIn_sub (fun _ h => List.mem_cons_of_mem _ (List.mem_append_right _ h)) (by decide +kernel))
set_option maxRecDepth 20000 in
theorem gL_act_X2_marry : GoodIn wsL_act (wsV RL 49 RX2 yX2_marry wsX2_marry) := goodIn_app (goodIn_of _ (by decide +kernel)) ggL_act_X2_marry
set_option maxRecDepth 20000 in
theorem ggL_act_X2_setStage : GoodIn wsL_act wsX2_setStage := goodIn_ca (goodIn_ca (goodIn_r _ [113, 79, 80, 114, 115, 116, 117, 118, 119, 18, 120, 48, 49, 121, 122, 123, 124, 125, 126, 127, 128, 129, 130, 131, 132, 133, 134, 263, 264, 265, 266, 267, 268, 269, 270, 271, 277, 278] (by decide +kernel) (by decide +kernel)) (goodIn_sub (fun _ h => List.mem_cons_of_mem _ (List.mem_append_right _ h)) (by decide +kernel))) (goodIn_sub (fun _ h => List.mem_cons_of_mem _ (List.mem_append_left _ (List.mem_append_right _ h))) (by decide +kernel))
set_option maxRecDepth 20000 in
theorem gL_act_X2_setStage : GoodIn wsL_act (wsV RL 55 RX2 yX2_setStage wsX2_setStage) := goodIn_app (goodIn_of _ (by decide +kernel)) ggL_act_X2_setStage
set_option maxRecDepth 20000 in
theorem ggL_act_X3_length : GoodIn wsL_act wsX3_length := goodIn_r _ [138, 139, 258, 259, 260, 261, 262] (by decide +kernel) (by decide +kernel)
set_option maxRecDepth 20000 in
theorem gL_act_X3_length : GoodIn wsL_act (wsV RL 59 RX3 yX3_length wsX3_length) := goodIn_app (goodIn_of _ (by decide +kernel)) ggL_act_X3_length
set_option maxRecDepth 20000 in
theorem ggL_act_X3_die : GoodIn wsL_act wsX3_die := goodIn_r _ [143, 14, 144, 60, 145, 146, 147, 12, 148, 139, 3, 149, 150, 62, 63, 64, 65, 151, 136, 137, 138, 152, 11, 13, 258, 259, 260, 261, 262] (by decide +kernel) (by decide +kernel)
set_option maxRecDepth 20000 in
theorem gL_act_X3_die : GoodIn wsL_act (wsV RL 62 RX3 yX3_die wsX3_die) := goodIn_app (goodIn_of _ (by decide +kernel)) ggL_act_X3_die
set_option maxRecDepth 20000 in
theorem ggL_act_X2_die : GoodIn wsL_act wsX2_die := goodIn_ca (goodIn_ca (goodIn_r _ [156, 20, 55, 157, 158, 114, 44, 45, 46, 18, 47, 48, 49, 50, 51, 52, 53, 54, 25, 26, 159, 160, 161, 127, 162, 163, 164, 165, 166, 167, 133, 134, 126, 128, 168, 169, 170, 171, 172, 173, 174, 175, 176, 177, 178, 179, 74, 85, 86, 87, 30, 88, 89, 32, 90, 91, 92, 93, 94, 95, 96, 97, 98, 99, 100, 101, 37, 38, 180, 181, 182, 183, 129, 130, 131, 132, 263, 264, 265, 266, 267, 268, 269, 270, 271, 272, 273, 274, 275, 276, 277, 278] (by decide +kernel) (by decide +kernel)) (goodIn_sub (fun _ h => List.mem_cons_of_mem _ (List.mem_append_left _ (List.mem_append_right _ h))) (by decide +kernel))) (goodIn_sub (fun _ h => List.mem_cons_of_mem _ (List.mem_append_left _ (List.mem_append_left _ (List.mem_append_right _ h)))) (by decide +kernel))
set_option maxRecDepth 20000 in
theorem gL_act_X2_die : GoodIn wsL_act (wsV RL 65 RX2 yX2_die wsX2_die) := goodIn_app (goodIn_of _ (by decide +kernel)) ggL_act_X2_die
set_option maxRecDepth 20000 in
theorem ggL_act_X3_left : GoodIn wsL_act wsX3_left := goodIn_r _ [187, 144, 149, 188, 189, 190, 191, 192, 193, 12, 194, 258, 259, 260, 261, 262] (by decide +kernel) (by decide +kernel)
set_option maxRecDepth 20000 in
theorem gL_act_X3_left : GoodIn wsL_act (wsV RL 66 RX3 yX3_left wsX3_left) := goodIn_app (goodIn_of _ (by decide +kernel)) ggL_act_X3_left
set_option maxRecDepth 20000 in
theorem ggL_act_X3_drop : GoodIn wsL_act wsX3_drop := goodIn_r _ [198, 14, 144, 152, 11, 12, 13, 258, 259, 260, 261, 262] (by decide +kernel) (by decide +kernel)
set_option maxRecDepth 20000 in
theorem gL_act_X3_drop : GoodIn wsL_act (wsV RL 69 RX3 yX3_drop wsX3_drop) := goodIn_app (goodIn_of _ (by decide +kernel)) ggL_act_X3_drop
set_option maxRecDepth 20000 in
theorem ggL_act_X2_release : GoodIn wsL_act wsX2_release := goodIn_ca (goodIn_ca (goodIn_r _ [202, 25, 26, 172, 44, 45, 46, 18, 47, 48, 49, 20, 50, 203, 204, 205, 206, 114, 158, 157, 207, 189, 190, 191, 173, 174, 175, 129, 130, 131, 127, 132, 133, 134, 126, 128, 263, 264, 265, 266, 267, 268, 269, 270, 271, 272, 273, 274, 275, 276, 277, 278] (by decide +kernel) (by decide +kernel)) (goodIn_sub (fun _ h => List.mem_cons_of_mem _ (List.mem_append_left _ (List.mem_append_left _ (List.mem_append_right _ h)))) (by decide +kernel))) (goodIn_sub (fun _ h => List.mem_cons_of_mem _ (List.mem_append_left _ (List.mem_append_right _ h))) (by decide +kernel))
set_option maxRecDepth 20000 in
theorem gL_act_X2_release : GoodIn wsL_act (wsV RL 72 RX2 yX2_release wsX2_release) := goodIn_app (goodIn_of _ (by decide +kernel)) ggL_act_X2_release
set_option maxRecDepth 20000 in
theorem ggL_act_X2_pass : GoodIn wsL_act wsX2_pass := goodIn_ca (goodIn_r _ [211, 79, 80, 20, 50, 212, 158, 213, 214, 215, 18, 216, 217, 172, 157, 218, 219, 190, 220, 114, 207, 189, 191, 221, 91, 92, 93, 173, 174, 175, 203, 204, 205, 206, 129, 130, 131, 127, 132, 133, 134, 126, 128, 222, 223, 224, 225, 163, 226, 227, 228, 229, 230, 231, 232, 30, 233, 32, 39, 234, 235, 236, 237, 55, 238, 239, 240, 241, 263, 264, 265, 266, 267, 268, 269, 270, 271, 272, 273, 274, 275, 276, 277, 278] (by decide +kernel) (by decide +kernel)) (goodIn_sub (fun _ h => List.mem_cons_of_mem _ (List.mem_append_right _ h)) (by decide +kernel))
set_option maxRecDepth 20000 in
theorem gL_act_X2_pass : GoodIn wsL_act (wsV RL 75 RX2 yX2_pass wsX2_pass) := goodIn_app (goodIn_of _ (by decide +kernel)) ggL_act_X2_pass
set_option maxRecDepth 20000 in
theorem ggL_act_X3_pass : GoodIn wsL_act wsX3_pass := goodIn_r _ [245, 246, 149, 14, 144, 247, 248, 249, 12, 250, 60, 251, 252, 253, 254, 188, 189, 190, 191, 255, 256, 257, 192, 193, 194, 152, 11, 13, 258, 259, 260, 261, 262] (by decide +kernel) (by decide +kernel)
set_option maxRecDepth 20000 in
theorem gL_act_X3_pass : GoodIn wsL_act (wsV RL 78 RX3 yX3_pass wsX3_pass) := goodIn_app (goodIn_of _ (by decide +kernel)) ggL_act_X3_pass
theorem dL_act_0 : decode cL_act 0 = .ok (.aload_n 1, 1) := by decide +kernel
theorem dL_act_1 : decode cL_act 1 = .ok (.getfield 9, 3) := by decide +kernel
theorem dL_act_4 : decode cL_act 4 = .ok (.arraylength, 1) := by decide +kernel
theorem dL_act_5 : decode cL_act 5 = .ok (.istore_n 3, 1) := by decide +kernel
theorem dL_act_6 : decode cL_act 6 = .ok (.iload_n 3, 1) := by decide +kernel
theorem dL_act_7 : decode cL_act 7 = .ok (.ifCond .ne 7, 3) := by decide +kernel
theorem dL_act_10 : decode cL_act 10 = .ok (.iconst 0, 1) := by decide +kernel
theorem dL_act_11 : decode cL_act 11 = .ok (.goto 10, 3) := by decide +kernel
theorem dL_act_14 : decode cL_act 14 = .ok (.iload_n 2, 1) := by decide +kernel
theorem dL_act_15 : decode cL_act 15 = .ok (.iconst 4, 1) := by decide +kernel
theorem dL_act_16 : decode cL_act 16 = .ok (.ishr, 1) := by decide +kernel
theorem dL_act_17 : decode cL_act 17 = .ok (.iload_n 3, 1) := by decide +kernel
theorem dL_act_18 : decode cL_act 18 = .ok (.invokestatic 15, 3) := by decide +kernel
theorem dL_act_21 : decode cL_act 21 = .ok (.istore 4, 2) := by decide +kernel
theorem dL_act_23 : decode cL_act 23 = .ok (.iload_n 3, 1) := by decide +kernel
theorem dL_act_24 : decode cL_act 24 = .ok (.ifCond .ne 7, 3) := by decide +kernel
theorem dL_act_27 : decode cL_act 27 = .ok (.iconst 0, 1) := by decide +kernel
theorem dL_act_28 : decode cL_act 28 = .ok (.goto 11, 3) := by decide +kernel
theorem dL_act_31 : decode cL_act 31 = .ok (.iload_n 2, 1) := by decide +kernel
theorem dL_act_32 : decode cL_act 32 = .ok (.bipush 6, 2) := by decide +kernel
theorem dL_act_34 : decode cL_act 34 = .ok (.ishr, 1) := by decide +kernel
theorem dL_act_35 : decode cL_act 35 = .ok (.iload_n 3, 1) := by decide +kernel
theorem dL_act_36 : decode cL_act 36 = .ok (.invokestatic 15, 3) := by decide +kernel
theorem dL_act_39 : decode cL_act 39 = .ok (.istore 5, 2) := by decide +kernel
theorem dL_act_41 : decode cL_act 41 = .ok (.bipush (-9), 2) := by decide +kernel
theorem dL_act_43 : decode cL_act 43 = .ok (.istore 6, 2) := by decide +kernel
theorem dL_act_45 : decode cL_act 45 = .ok (.iload_n 3, 1) := by decide +kernel
theorem dL_act_46 : decode cL_act 46 = .ok (.ifCond .ne 7, 3) := by decide +kernel
theorem dL_act_49 : decode cL_act 49 = .ok (.iconst 0, 1) := by decide +kernel
theorem dL_act_50 : decode cL_act 50 = .ok (.goto 9, 3) := by decide +kernel
theorem dL_act_53 : decode cL_act 53 = .ok (.iload_n 2, 1) := by decide +kernel
theorem dL_act_54 : decode cL_act 54 = .ok (.bipush 18, 2) := by decide +kernel
theorem dL_act_56 : decode cL_act 56 = .ok (.invokestatic 15, 3) := by decide +kernel
theorem dL_act_59 : decode cL_act 59 = .ok (.tableswitch 527 0 11 #[61, 124, 124, 124, 203, 203, 282, 282, 282, 417, 417, 468], 61) := by decide +kernel
theorem dL_act_120 : decode cL_act 120 = .ok (.iload_n 3, 1) := by decide +kernel
theorem dL_act_121 : decode cL_act 121 = .ok (.bipush 16, 2) := by decide +kernel
theorem dL_act_123 : decode cL_act 123 = .ok (.if_icmp .ge 32, 3) := by decide +kernel
theorem dL_act_126 : decode cL_act 126 = .ok (.aload_n 1, 1) := by decide +kernel
theorem dL_act_127 : decode cL_act 127 = .ok (.aload_n 1, 1) := by decide +kernel
theorem dL_act_128 : decode cL_act 128 = .ok (.getfield 9, 3) := by decide +kernel
theorem dL_act_131 : decode cL_act 131 = .ok (.iconst 3, 1) := by decide +kernel
theorem dL_act_132 : decode cL_act 132 = .ok (.newarray .int, 2) := by decide +kernel
theorem dL_act_134 : decode cL_act 134 = .ok (.dup, 1) := by decide +kernel
theorem dL_act_135 : decode cL_act 135 = .ok (.iconst 0, 1) := by decide +kernel
theorem dL_act_136 : decode cL_act 136 = .ok (.iconst (-1), 1) := by decide +kernel
theorem dL_act_137 : decode cL_act 137 = .ok (.iastore, 1) := by decide +kernel
theorem dL_act_138 : decode cL_act 138 = .ok (.dup, 1) := by decide +kernel
theorem dL_act_139 : decode cL_act 139 = .ok (.iconst 1, 1) := by decide +kernel
theorem dL_act_140 : decode cL_act 140 = .ok (.iconst (-1), 1) := by decide +kernel
theorem dL_act_141 : decode cL_act 141 = .ok (.iastore, 1) := by decide +kernel
theorem dL_act_142 : decode cL_act 142 = .ok (.dup, 1) := by decide +kernel
theorem dL_act_143 : decode cL_act 143 = .ok (.iconst 2, 1) := by decide +kernel
theorem dL_act_144 : decode cL_act 144 = .ok (.iconst 1, 1) := by decide +kernel
theorem dL_act_145 : decode cL_act 145 = .ok (.iastore, 1) := by decide +kernel
theorem dL_act_146 : decode cL_act 146 = .ok (.invokestatic 21, 3) := by decide +kernel
theorem dL_act_149 : decode cL_act 149 = .ok (.putfield 9, 3) := by decide +kernel
theorem dL_act_152 : decode cL_act 152 = .ok (.iload_n 3, 1) := by decide +kernel
theorem dL_act_153 : decode cL_act 153 = .ok (.istore 6, 2) := by decide +kernel
theorem dL_act_155 : decode cL_act 155 = .ok (.aload_n 0, 1) := by decide +kernel
theorem dL_act_156 : decode cL_act 156 = .ok (.invokevirtual 25, 3) := by decide +kernel
theorem dL_act_159 : decode cL_act 159 = .ok (.istore 7, 2) := by decide +kernel
theorem dL_act_161 : decode cL_act 161 = .ok (.goto 9, 3) := by decide +kernel
theorem dL_act_164 : decode cL_act 164 = .ok (.astore 8, 2) := by decide +kernel
theorem dL_act_166 : decode cL_act 166 = .ok (.bipush (-9), 2) := by decide +kernel
theorem dL_act_168 : decode cL_act 168 = .ok (.istore 7, 2) := by decide +kernel
theorem dL_act_170 : decode cL_act 170 = .ok (.iload 7, 2) := by decide +kernel
theorem dL_act_172 : decode cL_act 172 = .ok (.iload 6, 2) := by decide +kernel
theorem dL_act_174 : decode cL_act 174 = .ok (.if_icmp .ne 7, 3) := by decide +kernel
theorem dL_act_177 : decode cL_act 177 = .ok (.iconst 1, 1) := by decide +kernel
theorem dL_act_178 : decode cL_act 178 = .ok (.goto 4, 3) := by decide +kernel
theorem dL_act_181 : decode cL_act 181 = .ok (.iconst 0, 1) := by decide +kernel
theorem dL_act_182 : decode cL_act 182 = .ok (.ireturn, 1) := by decide +kernel
theorem dL_act_183 : decode cL_act 183 = .ok (.iload_n 3, 1) := by decide +kernel
theorem dL_act_184 : decode cL_act 184 = .ok (.bipush 16, 2) := by decide +kernel
theorem dL_act_186 : decode cL_act 186 = .ok (.if_icmp .ge 46, 3) := by decide +kernel
theorem dL_act_189 : decode cL_act 189 = .ok (.aload_n 1, 1) := by decide +kernel
theorem dL_act_190 : decode cL_act 190 = .ok (.getfield 9, 3) := by decide +kernel
theorem dL_act_193 : decode cL_act 193 = .ok (.iload 4, 2) := by decide +kernel
theorem dL_act_195 : decode cL_act 195 = .ok (.aaload, 1) := by decide +kernel
theorem dL_act_196 : decode cL_act 196 = .ok (.iconst 2, 1) := by decide +kernel
theorem dL_act_197 : decode cL_act 197 = .ok (.iaload, 1) := by decide +kernel
theorem dL_act_198 : decode cL_act 198 = .ok (.iconst 1, 1) := by decide +kernel
theorem dL_act_199 : decode cL_act 199 = .ok (.if_icmp .ne 33, 3) := by decide +kernel
theorem dL_act_202 : decode cL_act 202 = .ok (.aload_n 1, 1) := by decide +kernel
theorem dL_act_203 : decode cL_act 203 = .ok (.aload_n 1, 1) := by decide +kernel
theorem dL_act_204 : decode cL_act 204 = .ok (.getfield 9, 3) := by decide +kernel
theorem dL_act_207 : decode cL_act 207 = .ok (.iconst 3, 1) := by decide +kernel
theorem dL_act_208 : decode cL_act 208 = .ok (.newarray .int, 2) := by decide +kernel
theorem dL_act_210 : decode cL_act 210 = .ok (.dup, 1) := by decide +kernel
theorem dL_act_211 : decode cL_act 211 = .ok (.iconst 0, 1) := by decide +kernel
theorem dL_act_212 : decode cL_act 212 = .ok (.iload 4, 2) := by decide +kernel
theorem dL_act_214 : decode cL_act 214 = .ok (.iastore, 1) := by decide +kernel
theorem dL_act_215 : decode cL_act 215 = .ok (.dup, 1) := by decide +kernel
theorem dL_act_216 : decode cL_act 216 = .ok (.iconst 1, 1) := by decide +kernel
theorem dL_act_217 : decode cL_act 217 = .ok (.iconst (-1), 1) := by decide +kernel
theorem dL_act_218 : decode cL_act 218 = .ok (.iastore, 1) := by decide +kernel
theorem dL_act_219 : decode cL_act 219 = .ok (.dup, 1) := by decide +kernel
theorem dL_act_220 : decode cL_act 220 = .ok (.iconst 2, 1) := by decide +kernel
theorem dL_act_221 : decode cL_act 221 = .ok (.iconst 1, 1) := by decide +kernel
theorem dL_act_222 : decode cL_act 222 = .ok (.iastore, 1) := by decide +kernel
theorem dL_act_223 : decode cL_act 223 = .ok (.invokestatic 21, 3) := by decide +kernel
theorem dL_act_226 : decode cL_act 226 = .ok (.putfield 9, 3) := by decide +kernel
theorem dL_act_229 : decode cL_act 229 = .ok (.iload_n 3, 1) := by decide +kernel
theorem dL_act_230 : decode cL_act 230 = .ok (.istore 6, 2) := by decide +kernel
theorem dL_act_232 : decode cL_act 232 = .ok (.aload_n 0, 1) := by decide +kernel
theorem dL_act_233 : decode cL_act 233 = .ok (.iload 4, 2) := by decide +kernel
theorem dL_act_235 : decode cL_act 235 = .ok (.invokevirtual 33, 3) := by decide +kernel
theorem dL_act_238 : decode cL_act 238 = .ok (.istore 7, 2) := by decide +kernel
theorem dL_act_240 : decode cL_act 240 = .ok (.goto 9, 3) := by decide +kernel
theorem dL_act_243 : decode cL_act 243 = .ok (.astore 8, 2) := by decide +kernel
theorem dL_act_245 : decode cL_act 245 = .ok (.bipush (-9), 2) := by decide +kernel
theorem dL_act_247 : decode cL_act 247 = .ok (.istore 7, 2) := by decide +kernel
theorem dL_act_249 : decode cL_act 249 = .ok (.iload 7, 2) := by decide +kernel
theorem dL_act_251 : decode cL_act 251 = .ok (.iload 6, 2) := by decide +kernel
theorem dL_act_253 : decode cL_act 253 = .ok (.if_icmp .ne 7, 3) := by decide +kernel
theorem dL_act_256 : decode cL_act 256 = .ok (.iconst 1, 1) := by decide +kernel
theorem dL_act_257 : decode cL_act 257 = .ok (.goto 4, 3) := by decide +kernel
theorem dL_act_260 : decode cL_act 260 = .ok (.iconst 0, 1) := by decide +kernel
theorem dL_act_261 : decode cL_act 261 = .ok (.ireturn, 1) := by decide +kernel
theorem dL_act_262 : decode cL_act 262 = .ok (.iload 4, 2) := by decide +kernel
theorem dL_act_264 : decode cL_act 264 = .ok (.iload 5, 2) := by decide +kernel
theorem dL_act_266 : decode cL_act 266 = .ok (.if_icmp .ne 5, 3) := by decide +kernel
theorem dL_act_269 : decode cL_act 269 = .ok (.iconst 1, 1) := by decide +kernel
theorem dL_act_270 : decode cL_act 270 = .ok (.ireturn, 1) := by decide +kernel
theorem dL_act_271 : decode cL_act 271 = .ok (.aload_n 1, 1) := by decide +kernel
theorem dL_act_272 : decode cL_act 272 = .ok (.iload 4, 2) := by decide +kernel
theorem dL_act_274 : decode cL_act 274 = .ok (.invokevirtual 37, 3) := by decide +kernel
theorem dL_act_277 : decode cL_act 277 = .ok (.ifCond .eq 32, 3) := by decide +kernel
theorem dL_act_280 : decode cL_act 280 = .ok (.aload_n 1, 1) := by decide +kernel
theorem dL_act_281 : decode cL_act 281 = .ok (.iload 5, 2) := by decide +kernel
theorem dL_act_283 : decode cL_act 283 = .ok (.invokevirtual 37, 3) := by decide +kernel
theorem dL_act_286 : decode cL_act 286 = .ok (.ifCond .eq 23, 3) := by decide +kernel
theorem dL_act_289 : decode cL_act 289 = .ok (.aload_n 1, 1) := by decide +kernel
theorem dL_act_290 : decode cL_act 290 = .ok (.invokevirtual 41, 3) := by decide +kernel
theorem dL_act_293 : decode cL_act 293 = .ok (.iload 4, 2) := by decide +kernel
theorem dL_act_295 : decode cL_act 295 = .ok (.aaload, 1) := by decide +kernel
theorem dL_act_296 : decode cL_act 296 = .ok (.iload 5, 2) := by decide +kernel
theorem dL_act_298 : decode cL_act 298 = .ok (.iaload, 1) := by decide +kernel
theorem dL_act_299 : decode cL_act 299 = .ok (.istore 6, 2) := by decide +kernel
theorem dL_act_301 : decode cL_act 301 = .ok (.aload_n 1, 1) := by decide +kernel
theorem dL_act_302 : decode cL_act 302 = .ok (.iload 4, 2) := by decide +kernel
theorem dL_act_304 : decode cL_act 304 = .ok (.iload 5, 2) := by decide +kernel
theorem dL_act_306 : decode cL_act 306 = .ok (.invokevirtual 45, 3) := by decide +kernel
theorem dL_act_309 : decode cL_act 309 = .ok (.aload_n 0, 1) := by decide +kernel
theorem dL_act_310 : decode cL_act 310 = .ok (.iload 4, 2) := by decide +kernel
theorem dL_act_312 : decode cL_act 312 = .ok (.iload 5, 2) := by decide +kernel
theorem dL_act_314 : decode cL_act 314 = .ok (.invokevirtual 49, 3) := by decide +kernel
theorem dL_act_317 : decode cL_act 317 = .ok (.istore 7, 2) := by decide +kernel
theorem dL_act_319 : decode cL_act 319 = .ok (.goto 9, 3) := by decide +kernel
theorem dL_act_322 : decode cL_act 322 = .ok (.astore 8, 2) := by decide +kernel
theorem dL_act_324 : decode cL_act 324 = .ok (.bipush (-9), 2) := by decide +kernel
theorem dL_act_326 : decode cL_act 326 = .ok (.istore 7, 2) := by decide +kernel
theorem dL_act_328 : decode cL_act 328 = .ok (.iload 7, 2) := by decide +kernel
theorem dL_act_330 : decode cL_act 330 = .ok (.iload 6, 2) := by decide +kernel
theorem dL_act_332 : decode cL_act 332 = .ok (.if_icmp .ne 7, 3) := by decide +kernel
theorem dL_act_335 : decode cL_act 335 = .ok (.iconst 1, 1) := by decide +kernel
theorem dL_act_336 : decode cL_act 336 = .ok (.goto 4, 3) := by decide +kernel
theorem dL_act_339 : decode cL_act 339 = .ok (.iconst 0, 1) := by decide +kernel
theorem dL_act_340 : decode cL_act 340 = .ok (.ireturn, 1) := by decide +kernel
theorem dL_act_341 : decode cL_act 341 = .ok (.iconst 1, 1) := by decide +kernel
theorem dL_act_342 : decode cL_act 342 = .ok (.iload_n 2, 1) := by decide +kernel
theorem dL_act_343 : decode cL_act 343 = .ok (.iconst 4, 1) := by decide +kernel
theorem dL_act_344 : decode cL_act 344 = .ok (.ishr, 1) := by decide +kernel
theorem dL_act_345 : decode cL_act 345 = .ok (.iconst 4, 1) := by decide +kernel
theorem dL_act_346 : decode cL_act 346 = .ok (.invokestatic 15, 3) := by decide +kernel
theorem dL_act_349 : decode cL_act 349 = .ok (.iadd, 1) := by decide +kernel
theorem dL_act_350 : decode cL_act 350 = .ok (.istore 8, 2) := by decide +kernel
theorem dL_act_352 : decode cL_act 352 = .ok (.iload_n 2, 1) := by decide +kernel
theorem dL_act_353 : decode cL_act 353 = .ok (.bipush 6, 2) := by decide +kernel
theorem dL_act_355 : decode cL_act 355 = .ok (.ishr, 1) := by decide +kernel
theorem dL_act_356 : decode cL_act 356 = .ok (.iconst 3, 1) := by decide +kernel
theorem dL_act_357 : decode cL_act 357 = .ok (.invokestatic 15, 3) := by decide +kernel
theorem dL_act_360 : decode cL_act 360 = .ok (.istore 9, 2) := by decide +kernel
theorem dL_act_362 : decode cL_act 362 = .ok (.aload_n 1, 1) := by decide +kernel
theorem dL_act_363 : decode cL_act 363 = .ok (.getfield 51, 3) := by decide +kernel
theorem dL_act_366 : decode cL_act 366 = .ok (.iload 8, 2) := by decide +kernel
theorem dL_act_368 : decode cL_act 368 = .ok (.aaload, 1) := by decide +kernel
theorem dL_act_369 : decode cL_act 369 = .ok (.iload 9, 2) := by decide +kernel
theorem dL_act_371 : decode cL_act 371 = .ok (.iconst 2, 1) := by decide +kernel
theorem dL_act_372 : decode cL_act 372 = .ok (.newarray .int, 2) := by decide +kernel
theorem dL_act_374 : decode cL_act 374 = .ok (.dup, 1) := by decide +kernel
theorem dL_act_375 : decode cL_act 375 = .ok (.iconst 0, 1) := by decide +kernel
theorem dL_act_376 : decode cL_act 376 = .ok (.iload_n 2, 1) := by decide +kernel
theorem dL_act_377 : decode cL_act 377 = .ok (.bipush 7, 2) := by decide +kernel
theorem dL_act_379 : decode cL_act 379 = .ok (.ishr, 1) := by decide +kernel
theorem dL_act_380 : decode cL_act 380 = .ok (.bipush 6, 2) := by decide +kernel
theorem dL_act_382 : decode cL_act 382 = .ok (.invokestatic 15, 3) := by decide +kernel
theorem dL_act_385 : decode cL_act 385 = .ok (.iastore, 1) := by decide +kernel
theorem dL_act_386 : decode cL_act 386 = .ok (.dup, 1) := by decide +kernel
theorem dL_act_387 : decode cL_act 387 = .ok (.iconst 1, 1) := by decide +kernel
theorem dL_act_388 : decode cL_act 388 = .ok (.iload_n 2, 1) := by decide +kernel
theorem dL_act_389 : decode cL_act 389 = .ok (.bipush 8, 2) := by decide +kernel
theorem dL_act_391 : decode cL_act 391 = .ok (.ishr, 1) := by decide +kernel
theorem dL_act_392 : decode cL_act 392 = .ok (.iconst 3, 1) := by decide +kernel
theorem dL_act_393 : decode cL_act 393 = .ok (.invokestatic 15, 3) := by decide +kernel
theorem dL_act_396 : decode cL_act 396 = .ok (.ifCond .ne 7, 3) := by decide +kernel
theorem dL_act_399 : decode cL_act 399 = .ok (.iconst 0, 1) := by decide +kernel
theorem dL_act_400 : decode cL_act 400 = .ok (.goto 27, 3) := by decide +kernel
theorem dL_act_403 : decode cL_act 403 = .ok (.iload_n 2, 1) := by decide +kernel
theorem dL_act_404 : decode cL_act 404 = .ok (.iconst 5, 1) := by decide +kernel
theorem dL_act_405 : decode cL_act 405 = .ok (.ishr, 1) := by decide +kernel
theorem dL_act_406 : decode cL_act 406 = .ok (.iload_n 2, 1) := by decide +kernel
theorem dL_act_407 : decode cL_act 407 = .ok (.bipush 9, 2) := by decide +kernel
theorem dL_act_409 : decode cL_act 409 = .ok (.ishr, 1) := by decide +kernel
theorem dL_act_410 : decode cL_act 410 = .ok (.iconst 3, 1) := by decide +kernel
theorem dL_act_411 : decode cL_act 411 = .ok (.invokestatic 15, 3) := by decide +kernel
theorem dL_act_414 : decode cL_act 414 = .ok (.ifCond .ne 8, 3) := by decide +kernel
theorem dL_act_417 : decode cL_act 417 = .ok (.bipush 61, 2) := by decide +kernel
theorem dL_act_419 : decode cL_act 419 = .ok (.goto 5, 3) := by decide +kernel
theorem dL_act_422 : decode cL_act 422 = .ok (.bipush 15, 2) := by decide +kernel
theorem dL_act_424 : decode cL_act 424 = .ok (.invokestatic 15, 3) := by decide +kernel
theorem dL_act_427 : decode cL_act 427 = .ok (.iastore, 1) := by decide +kernel
theorem dL_act_428 : decode cL_act 428 = .ok (.aastore, 1) := by decide +kernel
theorem dL_act_429 : decode cL_act 429 = .ok (.aload_n 0, 1) := by decide +kernel
theorem dL_act_430 : decode cL_act 430 = .ok (.iload 8, 2) := by decide +kernel
theorem dL_act_432 : decode cL_act 432 = .ok (.iload 9, 2) := by decide +kernel
theorem dL_act_434 : decode cL_act 434 = .ok (.aload_n 1, 1) := by decide +kernel
theorem dL_act_435 : decode cL_act 435 = .ok (.getfield 51, 3) := by decide +kernel
theorem dL_act_438 : decode cL_act 438 = .ok (.iload 8, 2) := by decide +kernel
theorem dL_act_440 : decode cL_act 440 = .ok (.aaload, 1) := by decide +kernel
theorem dL_act_441 : decode cL_act 441 = .ok (.iload 9, 2) := by decide +kernel
theorem dL_act_443 : decode cL_act 443 = .ok (.aaload, 1) := by decide +kernel
theorem dL_act_444 : decode cL_act 444 = .ok (.iconst 0, 1) := by decide +kernel
theorem dL_act_445 : decode cL_act 445 = .ok (.iaload, 1) := by decide +kernel
theorem dL_act_446 : decode cL_act 446 = .ok (.aload_n 1, 1) := by decide +kernel
theorem dL_act_447 : decode cL_act 447 = .ok (.getfield 51, 3) := by decide +kernel
theorem dL_act_450 : decode cL_act 450 = .ok (.iload 8, 2) := by decide +kernel
theorem dL_act_452 : decode cL_act 452 = .ok (.aaload, 1) := by decide +kernel
theorem dL_act_453 : decode cL_act 453 = .ok (.iload 9, 2) := by decide +kernel
theorem dL_act_455 : decode cL_act 455 = .ok (.aaload, 1) := by decide +kernel
theorem dL_act_456 : decode cL_act 456 = .ok (.iconst 1, 1) := by decide +kernel
theorem dL_act_457 : decode cL_act 457 = .ok (.iaload, 1) := by decide +kernel
theorem dL_act_458 : decode cL_act 458 = .ok (.invokevirtual 55, 3) := by decide +kernel
theorem dL_act_461 : decode cL_act 461 = .ok (.aload_n 1, 1) := by decide +kernel
theorem dL_act_462 : decode cL_act 462 = .ok (.iload 8, 2) := by decide +kernel
theorem dL_act_464 : decode cL_act 464 = .ok (.invokevirtual 59, 3) := by decide +kernel
theorem dL_act_467 : decode cL_act 467 = .ok (.if_icmp .ne 7, 3) := by decide +kernel
theorem dL_act_470 : decode cL_act 470 = .ok (.iconst 1, 1) := by decide +kernel
theorem dL_act_471 : decode cL_act 471 = .ok (.goto 4, 3) := by decide +kernel
theorem dL_act_474 : decode cL_act 474 = .ok (.iconst 0, 1) := by decide +kernel
theorem dL_act_475 : decode cL_act 475 = .ok (.ireturn, 1) := by decide +kernel
theorem dL_act_476 : decode cL_act 476 = .ok (.aload_n 1, 1) := by decide +kernel
theorem dL_act_477 : decode cL_act 477 = .ok (.getfield 9, 3) := by decide +kernel
theorem dL_act_480 : decode cL_act 480 = .ok (.iload 4, 2) := by decide +kernel
theorem dL_act_482 : decode cL_act 482 = .ok (.aaload, 1) := by decide +kernel
theorem dL_act_483 : decode cL_act 483 = .ok (.iconst 2, 1) := by decide +kernel
theorem dL_act_484 : decode cL_act 484 = .ok (.iaload, 1) := by decide +kernel
theorem dL_act_485 : decode cL_act 485 = .ok (.iconst 1, 1) := by decide +kernel
theorem dL_act_486 : decode cL_act 486 = .ok (.if_icmp .ne 11, 3) := by decide +kernel
theorem dL_act_489 : decode cL_act 489 = .ok (.aload_n 1, 1) := by decide +kernel
theorem dL_act_490 : decode cL_act 490 = .ok (.iload 4, 2) := by decide +kernel
theorem dL_act_492 : decode cL_act 492 = .ok (.invokevirtual 62, 3) := by decide +kernel
theorem dL_act_495 : decode cL_act 495 = .ok (.istore 6, 2) := by decide +kernel
theorem dL_act_497 : decode cL_act 497 = .ok (.aload_n 0, 1) := by decide +kernel
theorem dL_act_498 : decode cL_act 498 = .ok (.iload 4, 2) := by decide +kernel
theorem dL_act_500 : decode cL_act 500 = .ok (.invokevirtual 65, 3) := by decide +kernel
theorem dL_act_503 : decode cL_act 503 = .ok (.istore 7, 2) := by decide +kernel
theorem dL_act_505 : decode cL_act 505 = .ok (.goto 9, 3) := by decide +kernel
theorem dL_act_508 : decode cL_act 508 = .ok (.astore 8, 2) := by decide +kernel
theorem dL_act_510 : decode cL_act 510 = .ok (.bipush (-9), 2) := by decide +kernel
theorem dL_act_512 : decode cL_act 512 = .ok (.istore 7, 2) := by decide +kernel
theorem dL_act_514 : decode cL_act 514 = .ok (.iload 7, 2) := by decide +kernel
theorem dL_act_516 : decode cL_act 516 = .ok (.iload 6, 2) := by decide +kernel
theorem dL_act_518 : decode cL_act 518 = .ok (.if_icmp .ne 7, 3) := by decide +kernel
theorem dL_act_521 : decode cL_act 521 = .ok (.iconst 1, 1) := by decide +kernel
theorem dL_act_522 : decode cL_act 522 = .ok (.goto 4, 3) := by decide +kernel
theorem dL_act_525 : decode cL_act 525 = .ok (.iconst 0, 1) := by decide +kernel
theorem dL_act_526 : decode cL_act 526 = .ok (.ireturn, 1) := by decide +kernel
theorem dL_act_527 : decode cL_act 527 = .ok (.aload_n 1, 1) := by decide +kernel
theorem dL_act_528 : decode cL_act 528 = .ok (.iload 4, 2) := by decide +kernel
theorem dL_act_530 : decode cL_act 530 = .ok (.iload 5, 2) := by decide +kernel
theorem dL_act_532 : decode cL_act 532 = .ok (.invokevirtual 66, 3) := by decide +kernel
theorem dL_act_535 : decode cL_act 535 = .ok (.istore 8, 2) := by decide +kernel
theorem dL_act_537 : decode cL_act 537 = .ok (.iload 8, 2) := by decide +kernel
theorem dL_act_539 : decode cL_act 539 = .ok (.ifCond .le 15, 3) := by decide +kernel
theorem dL_act_542 : decode cL_act 542 = .ok (.iload 8, 2) := by decide +kernel
theorem dL_act_544 : decode cL_act 544 = .ok (.istore 6, 2) := by decide +kernel
theorem dL_act_546 : decode cL_act 546 = .ok (.aload_n 1, 1) := by decide +kernel
theorem dL_act_547 : decode cL_act 547 = .ok (.iload 4, 2) := by decide +kernel
theorem dL_act_549 : decode cL_act 549 = .ok (.iload 5, 2) := by decide +kernel
theorem dL_act_551 : decode cL_act 551 = .ok (.invokevirtual 69, 3) := by decide +kernel
theorem dL_act_554 : decode cL_act 554 = .ok (.aload_n 0, 1) := by decide +kernel
theorem dL_act_555 : decode cL_act 555 = .ok (.iload 4, 2) := by decide +kernel
theorem dL_act_557 : decode cL_act 557 = .ok (.iload 5, 2) := by decide +kernel
theorem dL_act_559 : decode cL_act 559 = .ok (.invokevirtual 72, 3) := by decide +kernel
theorem dL_act_562 : decode cL_act 562 = .ok (.istore 7, 2) := by decide +kernel
theorem dL_act_564 : decode cL_act 564 = .ok (.goto 9, 3) := by decide +kernel
theorem dL_act_567 : decode cL_act 567 = .ok (.astore 9, 2) := by decide +kernel
theorem dL_act_569 : decode cL_act 569 = .ok (.bipush (-9), 2) := by decide +kernel
theorem dL_act_571 : decode cL_act 571 = .ok (.istore 7, 2) := by decide +kernel
theorem dL_act_573 : decode cL_act 573 = .ok (.iload 7, 2) := by decide +kernel
theorem dL_act_575 : decode cL_act 575 = .ok (.iload 6, 2) := by decide +kernel
theorem dL_act_577 : decode cL_act 577 = .ok (.if_icmp .ne 7, 3) := by decide +kernel
theorem dL_act_580 : decode cL_act 580 = .ok (.iconst 1, 1) := by decide +kernel
theorem dL_act_581 : decode cL_act 581 = .ok (.goto 4, 3) := by decide +kernel
theorem dL_act_584 : decode cL_act 584 = .ok (.iconst 0, 1) := by decide +kernel
theorem dL_act_585 : decode cL_act 585 = .ok (.ireturn, 1) := by decide +kernel
theorem dL_act_586 : decode cL_act 586 = .ok (.iconst 1, 1) := by decide +kernel
theorem dL_act_587 : decode cL_act 587 = .ok (.iload_n 2, 1) := by decide +kernel
theorem dL_act_588 : decode cL_act 588 = .ok (.iconst 5, 1) := by decide +kernel
theorem dL_act_589 : decode cL_act 589 = .ok (.ishr, 1) := by decide +kernel
theorem dL_act_590 : decode cL_act 590 = .ok (.iload_n 2, 1) := by decide +kernel
theorem dL_act_591 : decode cL_act 591 = .ok (.bipush 8, 2) := by decide +kernel
theorem dL_act_593 : decode cL_act 593 = .ok (.ishr, 1) := by decide +kernel
theorem dL_act_594 : decode cL_act 594 = .ok (.bipush 6, 2) := by decide +kernel
theorem dL_act_596 : decode cL_act 596 = .ok (.invokestatic 15, 3) := by decide +kernel
theorem dL_act_599 : decode cL_act 599 = .ok (.ifCond .ne 8, 3) := by decide +kernel
theorem dL_act_602 : decode cL_act 602 = .ok (.bipush 60, 2) := by decide +kernel
theorem dL_act_604 : decode cL_act 604 = .ok (.goto 5, 3) := by decide +kernel
theorem dL_act_607 : decode cL_act 607 = .ok (.bipush 7, 2) := by decide +kernel
theorem dL_act_609 : decode cL_act 609 = .ok (.invokestatic 15, 3) := by decide +kernel
theorem dL_act_612 : decode cL_act 612 = .ok (.iadd, 1) := by decide +kernel
theorem dL_act_613 : decode cL_act 613 = .ok (.istore 8, 2) := by decide +kernel
theorem dL_act_615 : decode cL_act 615 = .ok (.aload_n 0, 1) := by decide +kernel
theorem dL_act_616 : decode cL_act 616 = .ok (.iload 8, 2) := by decide +kernel
theorem dL_act_618 : decode cL_act 618 = .ok (.invokevirtual 75, 3) := by decide +kernel
theorem dL_act_621 : decode cL_act 621 = .ok (.aload_n 1, 1) := by decide +kernel
theorem dL_act_622 : decode cL_act 622 = .ok (.iload 8, 2) := by decide +kernel
theorem dL_act_624 : decode cL_act 624 = .ok (.invokevirtual 78, 3) := by decide +kernel
theorem dL_act_627 : decode cL_act 627 = .ok (.if_icmp .ne 7, 3) := by decide +kernel
theorem dL_act_630 : decode cL_act 630 = .ok (.iconst 1, 1) := by decide +kernel
theorem dL_act_631 : decode cL_act 631 = .ok (.goto 4, 3) := by decide +kernel
theorem dL_act_634 : decode cL_act 634 = .ok (.iconst 0, 1) := by decide +kernel
theorem dL_act_635 : decode cL_act 635 = .ok (.ireturn, 1) := by decide +kernel
set_option maxRecDepth 20000 in
theorem ggL_build_X3_init : GoodIn wsL_build wsX3_init := goodIn_r _ [8, 9, 10, 11, 12, 13, 14, 15, 147, 148, 149, 150, 151] (by decide +kernel) (by decide +kernel)
set_option maxRecDepth 20000 in
theorem gL_build_X3_init_n79 : GoodIn wsL_build (wsX3_init) := ggL_build_X3_init
set_option maxRecDepth 20000 in
theorem ggL_build_L_cell : GoodIn wsL_build wsL_cell := goodIn_r _ [19, 20] (by decide +kernel) (by decide +kernel)
set_option maxRecDepth 20000 in
theorem gL_build_L_cell : GoodIn wsL_build (va_wsS RL 80 yL_cell wsL_cell) := goodIn_app (goodIn_of _ (by decide +kernel)) ggL_build_L_cell
set_option maxRecDepth 20000 in
theorem ggL_build_L_below : GoodIn wsL_build wsL_below := goodIn_r _ [23, 24] (by decide +kernel) (by decide +kernel)
set_option maxRecDepth 20000 in
theorem gL_build_L_below : GoodIn wsL_build (va_wsS RL 15 yL_below wsL_below) := goodIn_app (goodIn_of _ (by decide +kernel)) ggL_build_L_below
set_option maxRecDepth 20000 in
theorem ggL_build_X3_more : GoodIn wsL_build wsX3_more := goodIn_r _ [27, 12] (by decide +kernel) (by decide +kernel)
set_option maxRecDepth 20000 in
theorem gL_build_X3_more : GoodIn wsL_build (va_wsS RL 21 yX3_more wsX3_more) := goodIn_app (goodIn_of _ (by decide +kernel)) ggL_build_X3_more
set_option maxRecDepth 20000 in
theorem ggL_build_X2_addPerson : GoodIn wsL_build wsX2_addPerson := goodIn_ca (goodIn_r _ [32, 33, 34, 35, 36, 31, 37, 38, 39, 40, 41, 42, 43, 44, 45, 46, 47, 48, 49, 50, 51, 52, 152, 153, 154, 155, 156, 157, 158, 159, 160, 161, 162, 163, 164, 165] (by decide +kernel) (by decide +kernel)) (goodIn_sub (fun _ h => List.mem_cons_of_mem _ (List.mem_append_left _ (List.mem_append_left _ (List.mem_append_right _ h)))) (by decide +kernel))
set_option maxRecDepth 20000 in
theorem gL_build_X2_addPerson : GoodIn wsL_build (wsV RL 25 RX2 yX2_addPerson wsX2_addPerson) := goodIn_app (goodIn_of _ (by decide +kernel)) ggL_build_X2_addPerson
set_option maxRecDepth 20000 in
theorem ggL_build_X2_addChild : GoodIn wsL_build wsX2_addChild := goodIn_ca (goodIn_ca (goodIn_r _ [56, 33, 57, 58, 59, 31, 60, 61, 62, 63, 64, 65, 66, 67, 38, 39, 68, 34, 35, 36, 37, 40, 41, 42, 43, 44, 45, 46, 47, 48, 49, 50, 51, 52, 152, 153, 154, 155, 156, 157, 158, 159, 160, 161, 162, 163, 164, 165] (by decide +kernel) (by decide +kernel)) (goodIn_sub (fun _ h => List.mem_cons_of_mem _ (List.mem_append_left _ (List.mem_append_right _ h))) (by decide +kernel))) (goodIn_sub (fun _ h => List.mem_cons_of_mem _ (List.mem_append_left _ (List.mem_append_left _ (List.mem_append_right _ h)))) (by decide +kernel))
set_option maxRecDepth 20000 in
theorem gL_build_X2_addChild : GoodIn wsL_build (wsV RL 33 RX2 yX2_addChild wsX2_addChild) := goodIn_app (goodIn_of _ (by decide +kernel)) ggL_build_X2_addChild
set_option maxRecDepth 20000 in
theorem ggL_build_X3_degrees : GoodIn wsL_build wsX3_degrees := goodIn_r _ [72, 13, 73, 5, 147, 148, 149, 150, 151] (by decide +kernel) (by decide +kernel)
set_option maxRecDepth 20000 in
theorem gL_build_X3_degrees : GoodIn wsL_build (wsV RL 41 RX3 yX3_degrees wsX3_degrees) := goodIn_app (goodIn_of _ (by decide +kernel)) ggL_build_X3_degrees
set_option maxRecDepth 20000 in
theorem ggL_build_X3_marry : GoodIn wsL_build wsX3_marry := goodIn_r _ [77, 13, 147, 148, 149, 150, 151] (by decide +kernel) (by decide +kernel)
set_option maxRecDepth 20000 in
theorem gL_build_X3_marry : GoodIn wsL_build (wsV RL 45 RX3 yX3_marry wsX3_marry) := goodIn_app (goodIn_of _ (by decide +kernel)) ggL_build_X3_marry
set_option maxRecDepth 20000 in
theorem ggL_build_X2_marry : GoodIn wsL_build wsX2_marry := goodIn_ca (goodIn_ca (goodIn_ca (goodIn_r _ [81, 38, 39, 33, 82, 57, 58, 59, 31, 60, 61, 62, 63, 83, 84, 85, 86, 87, 88, 64, 65, 66, 67, 68, 89, 90, 91, 43, 92, 51, 52, 93, 94, 95, 96, 97, 45, 98, 99, 100, 101, 102, 103, 104, 105, 106, 107, 108, 109, 50, 110, 111, 112, 113, 114, 115, 116, 117, 152, 153, 154, 155, 156, 157, 158, 159, 160, 161, 162, 163, 164, 165] (by decide +kernel) (by decide +kernel)) (goodIn_sub (fun _ h => List.mem_cons_of_mem _ (List.mem_append_left _ (List.mem_append_left _ (List.mem_append_right _ h)))) (by decide +kernel))) (goodIn_sub (fun _ h => List.mem_cons_of_mem _ (List.mem_append_left _ (List.mem_append_right _ h))) (by decide +kernel))) (goodIn_sub (fun _ h => List.mem_cons_of_mem _ (List.mem_append_right _ h)) (by decide +kernel))
set_option maxRecDepth 20000 in
theorem gL_build_X2_marry : GoodIn wsL_build (wsV RL 49 RX2 yX2_marry wsX2_marry) := goodIn_app (goodIn_of _ (by decide +kernel)) ggL_build_X2_marry
set_option maxRecDepth 20000 in
theorem ggL_build_X2_setStage : GoodIn wsL_build wsX2_setStage := goodIn_ca (goodIn_ca (goodIn_r _ [121, 87, 88, 122, 123, 124, 125, 126, 127, 31, 128, 61, 62, 129, 130, 131, 132, 133, 134, 135, 136, 137, 138, 139, 140, 141, 142, 152, 153, 154, 155, 156, 157, 158, 159, 160, 166, 167] (by decide +kernel) (by decide +kernel)) (goodIn_sub (fun _ h => List.mem_cons_of_mem _ (List.mem_append_right _ h)) (by decide +kernel))) (goodIn_sub (fun _ h => List.mem_cons_of_mem _ (List.mem_append_left _ (List.mem_append_right _ h))) (by decide +kernel))
set_option maxRecDepth 20000 in
theorem gL_build_X2_setStage : GoodIn wsL_build (wsV RL 55 RX2 yX2_setStage wsX2_setStage) := goodIn_app (goodIn_of _ (by decide +kernel)) ggL_build_X2_setStage
set_option maxRecDepth 20000 in
theorem ggL_build_X3_length : GoodIn wsL_build wsX3_length := goodIn_r _ [146, 14, 147, 148, 149, 150, 151] (by decide +kernel) (by decide +kernel)
set_option maxRecDepth 20000 in
theorem gL_build_X3_length : GoodIn wsL_build (wsV RL 59 RX3 yX3_length wsX3_length) := goodIn_app (goodIn_of _ (by decide +kernel)) ggL_build_X3_length
theorem dL_build_0 : decode cL_build 0 = .ok (.new 10, 3) := by decide +kernel
theorem dL_build_3 : decode cL_build 3 = .ok (.dup, 1) := by decide +kernel
theorem dL_build_4 : decode cL_build 4 = .ok (.invokespecial 79, 3) := by decide +kernel
theorem dL_build_7 : decode cL_build 7 = .ok (.astore_n 2, 1) := by decide +kernel
theorem dL_build_8 : decode cL_build 8 = .ok (.iconst 1, 1) := by decide +kernel
theorem dL_build_9 : decode cL_build 9 = .ok (.aload_n 1, 1) := by decide +kernel
theorem dL_build_10 : decode cL_build 10 = .ok (.iconst 0, 1) := by decide +kernel
theorem dL_build_11 : decode cL_build 11 = .ok (.invokestatic 80, 3) := by decide +kernel
end
section
theorem dL_build_14 : decode cL_build 14 = .ok (.bipush 14, 2) := by decide +kernel
theorem dL_build_16 : decode cL_build 16 = .ok (.invokestatic 15, 3) := by decide +kernel
theorem dL_build_19 : decode cL_build 19 = .ok (.iadd, 1) := by decide +kernel
theorem dL_build_20 : decode cL_build 20 = .ok (.istore_n 3, 1) := by decide +kernel
theorem dL_build_21 : decode cL_build 21 = .ok (.iconst 0, 1) := by decide +kernel
theorem dL_build_22 : decode cL_build 22 = .ok (.istore 4, 2) := by decide +kernel
theorem dL_build_24 : decode cL_build 24 = .ok (.iload 4, 2) := by decide +kernel
theorem dL_build_26 : decode cL_build 26 = .ok (.iload_n 3, 1) := by decide +kernel
theorem dL_build_27 : decode cL_build 27 = .ok (.if_icmp .ge 186, 3) := by decide +kernel
theorem dL_build_30 : decode cL_build 30 = .ok (.aload_n 1, 1) := by decide +kernel
theorem dL_build_31 : decode cL_build 31 = .ok (.iconst 1, 1) := by decide +kernel
theorem dL_build_32 : decode cL_build 32 = .ok (.iload 4, 2) := by decide +kernel
theorem dL_build_34 : decode cL_build 34 = .ok (.iadd, 1) := by decide +kernel
theorem dL_build_35 : decode cL_build 35 = .ok (.invokestatic 80, 3) := by decide +kernel
theorem dL_build_38 : decode cL_build 38 = .ok (.istore 5, 2) := by decide +kernel
theorem dL_build_40 : decode cL_build 40 = .ok (.iload 4, 2) := by decide +kernel
theorem dL_build_42 : decode cL_build 42 = .ok (.ifCond .eq 12, 3) := by decide +kernel
theorem dL_build_45 : decode cL_build 45 = .ok (.iload 5, 2) := by decide +kernel
theorem dL_build_47 : decode cL_build 47 = .ok (.iconst 3, 1) := by decide +kernel
theorem dL_build_48 : decode cL_build 48 = .ok (.invokestatic 15, 3) := by decide +kernel
theorem dL_build_51 : decode cL_build 51 = .ok (.ifCond .ne 7, 3) := by decide +kernel
theorem dL_build_54 : decode cL_build 54 = .ok (.iconst (-1), 1) := by decide +kernel
theorem dL_build_55 : decode cL_build 55 = .ok (.goto 12, 3) := by decide +kernel
theorem dL_build_58 : decode cL_build 58 = .ok (.iload 5, 2) := by decide +kernel
theorem dL_build_60 : decode cL_build 60 = .ok (.iconst 3, 1) := by decide +kernel
theorem dL_build_61 : decode cL_build 61 = .ok (.ishr, 1) := by decide +kernel
theorem dL_build_62 : decode cL_build 62 = .ok (.iload 4, 2) := by decide +kernel
theorem dL_build_64 : decode cL_build 64 = .ok (.invokestatic 15, 3) := by decide +kernel
theorem dL_build_67 : decode cL_build 67 = .ok (.istore 6, 2) := by decide +kernel
theorem dL_build_69 : decode cL_build 69 = .ok (.aload_n 2, 1) := by decide +kernel
theorem dL_build_70 : decode cL_build 70 = .ok (.aload_n 2, 1) := by decide +kernel
theorem dL_build_71 : decode cL_build 71 = .ok (.getfield 9, 3) := by decide +kernel
theorem dL_build_74 : decode cL_build 74 = .ok (.iconst 3, 1) := by decide +kernel
theorem dL_build_75 : decode cL_build 75 = .ok (.newarray .int, 2) := by decide +kernel
theorem dL_build_77 : decode cL_build 77 = .ok (.dup, 1) := by decide +kernel
theorem dL_build_78 : decode cL_build 78 = .ok (.iconst 0, 1) := by decide +kernel
theorem dL_build_79 : decode cL_build 79 = .ok (.iload 6, 2) := by decide +kernel
theorem dL_build_81 : decode cL_build 81 = .ok (.iastore, 1) := by decide +kernel
theorem dL_build_82 : decode cL_build 82 = .ok (.dup, 1) := by decide +kernel
theorem dL_build_83 : decode cL_build 83 = .ok (.iconst 1, 1) := by decide +kernel
theorem dL_build_84 : decode cL_build 84 = .ok (.iconst (-1), 1) := by decide +kernel
theorem dL_build_85 : decode cL_build 85 = .ok (.iastore, 1) := by decide +kernel
theorem dL_build_86 : decode cL_build 86 = .ok (.dup, 1) := by decide +kernel
theorem dL_build_87 : decode cL_build 87 = .ok (.iconst 2, 1) := by decide +kernel
theorem dL_build_88 : decode cL_build 88 = .ok (.iconst 1, 1) := by decide +kernel
theorem dL_build_89 : decode cL_build 89 = .ok (.iastore, 1) := by decide +kernel
theorem dL_build_90 : decode cL_build 90 = .ok (.invokestatic 21, 3) := by decide +kernel
theorem dL_build_93 : decode cL_build 93 = .ok (.putfield 9, 3) := by decide +kernel
theorem dL_build_96 : decode cL_build 96 = .ok (.iload 6, 2) := by decide +kernel
theorem dL_build_98 : decode cL_build 98 = .ok (.ifCond .ge 10, 3) := by decide +kernel
theorem dL_build_101 : decode cL_build 101 = .ok (.aload_n 0, 1) := by decide +kernel
theorem dL_build_102 : decode cL_build 102 = .ok (.invokevirtual 25, 3) := by decide +kernel
theorem dL_build_105 : decode cL_build 105 = .ok (.goto 9, 3) := by decide +kernel
theorem dL_build_108 : decode cL_build 108 = .ok (.aload_n 0, 1) := by decide +kernel
theorem dL_build_109 : decode cL_build 109 = .ok (.iload 6, 2) := by decide +kernel
theorem dL_build_111 : decode cL_build 111 = .ok (.invokevirtual 33, 3) := by decide +kernel
theorem dL_build_114 : decode cL_build 114 = .ok (.iload 4, 2) := by decide +kernel
theorem dL_build_116 : decode cL_build 116 = .ok (.if_icmp .eq 5, 3) := by decide +kernel
theorem dL_build_119 : decode cL_build 119 = .ok (.aconst_null, 1) := by decide +kernel
theorem dL_build_120 : decode cL_build 120 = .ok (.areturn, 1) := by decide +kernel
theorem dL_build_121 : decode cL_build 121 = .ok (.iload 4, 2) := by decide +kernel
theorem dL_build_123 : decode cL_build 123 = .ok (.ifCond .ne 7, 3) := by decide +kernel
theorem dL_build_126 : decode cL_build 126 = .ok (.iconst 0, 1) := by decide +kernel
theorem dL_build_127 : decode cL_build 127 = .ok (.goto 12, 3) := by decide +kernel
theorem dL_build_130 : decode cL_build 130 = .ok (.iload 5, 2) := by decide +kernel
theorem dL_build_132 : decode cL_build 132 = .ok (.iconst 5, 1) := by decide +kernel
theorem dL_build_133 : decode cL_build 133 = .ok (.ishr, 1) := by decide +kernel
theorem dL_build_134 : decode cL_build 134 = .ok (.iload 4, 2) := by decide +kernel
theorem dL_build_136 : decode cL_build 136 = .ok (.invokestatic 15, 3) := by decide +kernel
theorem dL_build_139 : decode cL_build 139 = .ok (.istore 7, 2) := by decide +kernel
theorem dL_build_141 : decode cL_build 141 = .ok (.iload 5, 2) := by decide +kernel
theorem dL_build_143 : decode cL_build 143 = .ok (.iconst 2, 1) := by decide +kernel
theorem dL_build_144 : decode cL_build 144 = .ok (.ishr, 1) := by decide +kernel
theorem dL_build_145 : decode cL_build 145 = .ok (.iconst 3, 1) := by decide +kernel
theorem dL_build_146 : decode cL_build 146 = .ok (.invokestatic 15, 3) := by decide +kernel
theorem dL_build_149 : decode cL_build 149 = .ok (.ifCond .gt 58, 3) := by decide +kernel
theorem dL_build_152 : decode cL_build 152 = .ok (.iload 4, 2) := by decide +kernel
theorem dL_build_154 : decode cL_build 154 = .ok (.ifCond .eq 53, 3) := by decide +kernel
theorem dL_build_157 : decode cL_build 157 = .ok (.aload_n 2, 1) := by decide +kernel
theorem dL_build_158 : decode cL_build 158 = .ok (.getfield 9, 3) := by decide +kernel
theorem dL_build_161 : decode cL_build 161 = .ok (.iload 7, 2) := by decide +kernel
theorem dL_build_163 : decode cL_build 163 = .ok (.aaload, 1) := by decide +kernel
theorem dL_build_164 : decode cL_build 164 = .ok (.iconst 1, 1) := by decide +kernel
theorem dL_build_165 : decode cL_build 165 = .ok (.iaload, 1) := by decide +kernel
theorem dL_build_166 : decode cL_build 166 = .ok (.ifCond .lt 6, 3) := by decide +kernel
theorem dL_build_169 : decode cL_build 169 = .ok (.goto 38, 3) := by decide +kernel
theorem dL_build_172 : decode cL_build 172 = .ok (.aload_n 2, 1) := by decide +kernel
theorem dL_build_173 : decode cL_build 173 = .ok (.invokevirtual 41, 3) := by decide +kernel
theorem dL_build_176 : decode cL_build 176 = .ok (.iload 4, 2) := by decide +kernel
theorem dL_build_178 : decode cL_build 178 = .ok (.aaload, 1) := by decide +kernel
theorem dL_build_179 : decode cL_build 179 = .ok (.iload 7, 2) := by decide +kernel
theorem dL_build_181 : decode cL_build 181 = .ok (.iaload, 1) := by decide +kernel
theorem dL_build_182 : decode cL_build 182 = .ok (.istore 8, 2) := by decide +kernel
theorem dL_build_184 : decode cL_build 184 = .ok (.aload_n 2, 1) := by decide +kernel
theorem dL_build_185 : decode cL_build 185 = .ok (.iload 4, 2) := by decide +kernel
theorem dL_build_187 : decode cL_build 187 = .ok (.iload 7, 2) := by decide +kernel
theorem dL_build_189 : decode cL_build 189 = .ok (.invokevirtual 45, 3) := by decide +kernel
theorem dL_build_192 : decode cL_build 192 = .ok (.aload_n 0, 1) := by decide +kernel
theorem dL_build_193 : decode cL_build 193 = .ok (.iload 4, 2) := by decide +kernel
theorem dL_build_195 : decode cL_build 195 = .ok (.iload 7, 2) := by decide +kernel
theorem dL_build_197 : decode cL_build 197 = .ok (.invokevirtual 49, 3) := by decide +kernel
theorem dL_build_200 : decode cL_build 200 = .ok (.iload 8, 2) := by decide +kernel
theorem dL_build_202 : decode cL_build 202 = .ok (.if_icmp .eq 5, 3) := by decide +kernel
theorem dL_build_205 : decode cL_build 205 = .ok (.aconst_null, 1) := by decide +kernel
theorem dL_build_206 : decode cL_build 206 = .ok (.areturn, 1) := by decide +kernel
theorem dL_build_207 : decode cL_build 207 = .ok (.iinc 4 1, 3) := by decide +kernel
theorem dL_build_210 : decode cL_build 210 = .ok (.goto (-186), 3) := by decide +kernel
theorem dL_build_213 : decode cL_build 213 = .ok (.iconst 1, 1) := by decide +kernel
theorem dL_build_214 : decode cL_build 214 = .ok (.istore 4, 2) := by decide +kernel
theorem dL_build_216 : decode cL_build 216 = .ok (.iload 4, 2) := by decide +kernel
theorem dL_build_218 : decode cL_build 218 = .ok (.iconst 5, 1) := by decide +kernel
theorem dL_build_219 : decode cL_build 219 = .ok (.if_icmp .ge 132, 3) := by decide +kernel
theorem dL_build_222 : decode cL_build 222 = .ok (.iconst 0, 1) := by decide +kernel
theorem dL_build_223 : decode cL_build 223 = .ok (.istore 5, 2) := by decide +kernel
theorem dL_build_225 : decode cL_build 225 = .ok (.iload 5, 2) := by decide +kernel
theorem dL_build_227 : decode cL_build 227 = .ok (.iconst 3, 1) := by decide +kernel
theorem dL_build_228 : decode cL_build 228 = .ok (.if_icmp .ge 117, 3) := by decide +kernel
theorem dL_build_231 : decode cL_build 231 = .ok (.aload_n 1, 1) := by decide +kernel
theorem dL_build_232 : decode cL_build 232 = .ok (.iload 4, 2) := by decide +kernel
theorem dL_build_234 : decode cL_build 234 = .ok (.iconst 4, 1) := by decide +kernel
theorem dL_build_235 : decode cL_build 235 = .ok (.iload 5, 2) := by decide +kernel
theorem dL_build_237 : decode cL_build 237 = .ok (.imul, 1) := by decide +kernel
theorem dL_build_238 : decode cL_build 238 = .ok (.iadd, 1) := by decide +kernel
theorem dL_build_239 : decode cL_build 239 = .ok (.invokestatic 80, 3) := by decide +kernel
theorem dL_build_242 : decode cL_build 242 = .ok (.iconst 4, 1) := by decide +kernel
theorem dL_build_243 : decode cL_build 243 = .ok (.ishr, 1) := by decide +kernel
theorem dL_build_244 : decode cL_build 244 = .ok (.istore 6, 2) := by decide +kernel
theorem dL_build_246 : decode cL_build 246 = .ok (.aload_n 2, 1) := by decide +kernel
theorem dL_build_247 : decode cL_build 247 = .ok (.getfield 51, 3) := by decide +kernel
theorem dL_build_250 : decode cL_build 250 = .ok (.iload 4, 2) := by decide +kernel
theorem dL_build_252 : decode cL_build 252 = .ok (.aaload, 1) := by decide +kernel
theorem dL_build_253 : decode cL_build 253 = .ok (.iload 5, 2) := by decide +kernel
theorem dL_build_255 : decode cL_build 255 = .ok (.iconst 2, 1) := by decide +kernel
theorem dL_build_256 : decode cL_build 256 = .ok (.newarray .int, 2) := by decide +kernel
theorem dL_build_258 : decode cL_build 258 = .ok (.dup, 1) := by decide +kernel
theorem dL_build_259 : decode cL_build 259 = .ok (.iconst 0, 1) := by decide +kernel
theorem dL_build_260 : decode cL_build 260 = .ok (.iload 6, 2) := by decide +kernel
theorem dL_build_262 : decode cL_build 262 = .ok (.bipush 6, 2) := by decide +kernel
theorem dL_build_264 : decode cL_build 264 = .ok (.invokestatic 15, 3) := by decide +kernel
theorem dL_build_267 : decode cL_build 267 = .ok (.iastore, 1) := by decide +kernel
theorem dL_build_268 : decode cL_build 268 = .ok (.dup, 1) := by decide +kernel
theorem dL_build_269 : decode cL_build 269 = .ok (.iconst 1, 1) := by decide +kernel
theorem dL_build_270 : decode cL_build 270 = .ok (.iload 6, 2) := by decide +kernel
theorem dL_build_272 : decode cL_build 272 = .ok (.iconst 3, 1) := by decide +kernel
theorem dL_build_273 : decode cL_build 273 = .ok (.ishr, 1) := by decide +kernel
theorem dL_build_274 : decode cL_build 274 = .ok (.iconst 4, 1) := by decide +kernel
theorem dL_build_275 : decode cL_build 275 = .ok (.invokestatic 15, 3) := by decide +kernel
theorem dL_build_278 : decode cL_build 278 = .ok (.ifCond .ne 7, 3) := by decide +kernel
theorem dL_build_281 : decode cL_build 281 = .ok (.iconst 0, 1) := by decide +kernel
theorem dL_build_282 : decode cL_build 282 = .ok (.goto 12, 3) := by decide +kernel
theorem dL_build_285 : decode cL_build 285 = .ok (.iload 6, 2) := by decide +kernel
theorem dL_build_287 : decode cL_build 287 = .ok (.iconst 4, 1) := by decide +kernel
theorem dL_build_288 : decode cL_build 288 = .ok (.ishr, 1) := by decide +kernel
theorem dL_build_289 : decode cL_build 289 = .ok (.bipush 20, 2) := by decide +kernel
theorem dL_build_291 : decode cL_build 291 = .ok (.invokestatic 15, 3) := by decide +kernel
theorem dL_build_294 : decode cL_build 294 = .ok (.iastore, 1) := by decide +kernel
theorem dL_build_295 : decode cL_build 295 = .ok (.aastore, 1) := by decide +kernel
theorem dL_build_296 : decode cL_build 296 = .ok (.aload_n 0, 1) := by decide +kernel
theorem dL_build_297 : decode cL_build 297 = .ok (.iload 4, 2) := by decide +kernel
theorem dL_build_299 : decode cL_build 299 = .ok (.iload 5, 2) := by decide +kernel
theorem dL_build_301 : decode cL_build 301 = .ok (.aload_n 2, 1) := by decide +kernel
theorem dL_build_302 : decode cL_build 302 = .ok (.getfield 51, 3) := by decide +kernel
theorem dL_build_305 : decode cL_build 305 = .ok (.iload 4, 2) := by decide +kernel
theorem dL_build_307 : decode cL_build 307 = .ok (.aaload, 1) := by decide +kernel
theorem dL_build_308 : decode cL_build 308 = .ok (.iload 5, 2) := by decide +kernel
theorem dL_build_310 : decode cL_build 310 = .ok (.aaload, 1) := by decide +kernel
theorem dL_build_311 : decode cL_build 311 = .ok (.iconst 0, 1) := by decide +kernel
theorem dL_build_312 : decode cL_build 312 = .ok (.iaload, 1) := by decide +kernel
theorem dL_build_313 : decode cL_build 313 = .ok (.aload_n 2, 1) := by decide +kernel
theorem dL_build_314 : decode cL_build 314 = .ok (.getfield 51, 3) := by decide +kernel
theorem dL_build_317 : decode cL_build 317 = .ok (.iload 4, 2) := by decide +kernel
theorem dL_build_319 : decode cL_build 319 = .ok (.aaload, 1) := by decide +kernel
theorem dL_build_320 : decode cL_build 320 = .ok (.iload 5, 2) := by decide +kernel
theorem dL_build_322 : decode cL_build 322 = .ok (.aaload, 1) := by decide +kernel
theorem dL_build_323 : decode cL_build 323 = .ok (.iconst 1, 1) := by decide +kernel
theorem dL_build_324 : decode cL_build 324 = .ok (.iaload, 1) := by decide +kernel
theorem dL_build_325 : decode cL_build 325 = .ok (.invokevirtual 55, 3) := by decide +kernel
theorem dL_build_328 : decode cL_build 328 = .ok (.aload_n 2, 1) := by decide +kernel
theorem dL_build_329 : decode cL_build 329 = .ok (.iload 4, 2) := by decide +kernel
theorem dL_build_331 : decode cL_build 331 = .ok (.invokevirtual 59, 3) := by decide +kernel
theorem dL_build_334 : decode cL_build 334 = .ok (.if_icmp .eq 5, 3) := by decide +kernel
theorem dL_build_337 : decode cL_build 337 = .ok (.aconst_null, 1) := by decide +kernel
theorem dL_build_338 : decode cL_build 338 = .ok (.areturn, 1) := by decide +kernel
theorem dL_build_339 : decode cL_build 339 = .ok (.iinc 5 1, 3) := by decide +kernel
theorem dL_build_342 : decode cL_build 342 = .ok (.goto (-117), 3) := by decide +kernel
theorem dL_build_345 : decode cL_build 345 = .ok (.iinc 4 1, 3) := by decide +kernel
theorem dL_build_348 : decode cL_build 348 = .ok (.goto (-132), 3) := by decide +kernel
theorem dL_build_351 : decode cL_build 351 = .ok (.aload_n 2, 1) := by decide +kernel
theorem dL_build_352 : decode cL_build 352 = .ok (.areturn, 1) := by decide +kernel
set_option maxRecDepth 20000 in
theorem ggL_law_X2_init : GoodIn wsL_law wsX2_init := goodIn_r _ [10, 11, 12, 13, 14, 15, 16, 17, 18, 19, 20, 21, 7, 22, 23, 24, 25, 26, 27, 28, 29, 30, 31, 32, 33, 34, 35, 36, 37, 38, 39, 482, 483, 484, 485, 486, 473, 474, 475, 476, 477, 478, 479, 480, 481, 487, 488] (by decide +kernel) (by decide +kernel)
set_option maxRecDepth 20000 in
theorem gL_law_X2_init : GoodIn wsL_law (wsX2_init) := ggL_law_X2_init
set_option maxRecDepth 20000 in
theorem ggL_law_L_build : GoodIn wsL_law wsL_build := goodIn_ca (goodIn_ca (goodIn_ca (goodIn_r _ [43, 44, 45, 46, 47, 7, 48, 49, 50, 51, 12, 13, 52, 53, 54, 55, 56, 57, 42, 58, 59, 60, 61, 62, 63, 64, 65, 66, 67, 68, 69, 2, 70, 17, 71, 72, 73, 74, 75, 76, 77, 78, 79, 16, 80, 81, 82, 83, 84, 85, 30, 31, 33, 86, 87, 88, 89, 90, 91, 92, 93, 94, 95, 96, 97, 98, 99, 100, 101, 102, 103, 104, 105, 106, 107, 108, 109, 110, 111, 112, 113, 114, 115, 116, 117, 118, 119, 120, 121, 122, 123, 124, 125, 126, 127, 128, 129, 34, 130, 131, 132, 133, 134, 135, 136, 137, 138, 139, 140, 141, 142, 143, 144, 145, 146, 147, 148, 149, 150, 151, 152, 153, 21, 154, 155, 156, 157, 158, 159, 160, 161, 162, 163, 164, 165, 20, 166, 167, 168, 169, 170, 39, 171, 172, 173, 174, 175, 489, 490, 491, 492, 493, 473, 474, 475, 476, 477, 478, 479, 480, 481, 482, 483, 484, 485, 486, 487, 488] (by decide +kernel) (by decide +kernel)) (goodIn_sub (fun _ h => List.mem_append_left _ (List.mem_append_left _ (List.mem_append_right _ h))) (by decide +kernel))) (goodIn_sub (fun _ h => List.mem_append_left _ (List.mem_append_right _ h)) (by decide +kernel))) (goodIn_sub (fun _ h => List.mem_append_right _ h) (by decide +kernel))
set_option maxRecDepth 20000 in
theorem gL_law_L_build : GoodIn wsL_law (va_wsS RL 85 yL_build wsL_build) := goodIn_app (goodIn_of _ (by decide +kernel)) ggL_law_L_build
set_option maxRecDepth 20000 in
theorem ggL_law_L_cell : GoodIn wsL_law wsL_cell := goodIn_r _ [58, 59] (by decide +kernel) (by decide +kernel)
set_option maxRecDepth 20000 in
theorem gL_law_L_cell : GoodIn wsL_law (va_wsS RL 80 yL_cell wsL_cell) := goodIn_app (goodIn_of _ (by decide +kernel)) ggL_law_L_cell
set_option maxRecDepth 20000 in
theorem ggL_law_L_act : GoodIn wsL_law wsL_act := goodIn_ca (goodIn_ca (goodIn_ca (goodIn_r _ [178, 179, 47, 7, 48, 60, 61, 42, 62, 63, 64, 65, 46, 66, 52, 67, 68, 69, 2, 70, 17, 71, 72, 73, 74, 75, 76, 77, 78, 79, 16, 80, 81, 82, 83, 84, 85, 30, 31, 33, 86, 87, 88, 89, 90, 91, 92, 93, 94, 95, 96, 97, 98, 99, 100, 101, 180, 181, 182, 183, 53, 102, 103, 104, 105, 106, 107, 108, 109, 110, 111, 112, 113, 114, 115, 116, 117, 118, 119, 120, 121, 122, 123, 124, 125, 126, 127, 128, 129, 34, 130, 131, 132, 133, 134, 135, 136, 137, 138, 139, 140, 141, 142, 143, 144, 145, 146, 147, 148, 149, 150, 151, 152, 153, 21, 154, 155, 156, 157, 158, 159, 160, 161, 162, 163, 164, 165, 20, 166, 167, 168, 169, 170, 39, 171, 172, 173, 174, 175, 54, 184, 185, 186, 187, 55, 188, 189, 190, 191, 192, 193, 194, 195, 196, 197, 198, 199, 23, 200, 201, 202, 203, 204, 38, 205, 206, 207, 208, 209, 210, 211, 212, 22, 213, 214, 215, 216, 217, 218, 219, 220, 221, 222, 223, 224, 225, 226, 227, 228, 4, 5, 6, 229, 230, 231, 232, 233, 234, 235, 236, 237, 238, 239, 240, 241, 242, 243, 244, 245, 246, 247, 248, 249, 250, 251, 252, 253, 24, 254, 255, 256, 257, 258, 259, 260, 261, 262, 263, 264, 265, 266, 267, 268, 269, 270, 271, 272, 273, 274, 275, 276, 277, 278, 279, 280, 281, 282, 283, 284, 285, 286, 287, 288, 289, 290, 291, 292, 293, 489, 490, 491, 492, 493, 473, 474, 475, 476, 477, 478, 479, 480, 481, 482, 483, 484, 485, 486, 487, 488] (by decide +kernel) (by decide +kernel)) (goodIn_sub (fun _ h => List.mem_append_left _ (List.mem_append_left _ (List.mem_append_right _ h))) (by decide +kernel))) (goodIn_sub (fun _ h => List.mem_append_left _ (List.mem_append_right _ h)) (by decide +kernel))) (goodIn_sub (fun _ h => List.mem_append_right _ h) (by decide +kernel))
set_option maxRecDepth 20000 in
theorem gL_law_L_act : GoodIn wsL_law (va_wsS RL 89 yL_act wsL_act) := goodIn_app (goodIn_of _ (by decide +kernel)) ggL_law_L_act
set_option maxRecDepth 20000 in
theorem ggL_law_X2_digest : GoodIn wsL_law wsX2_digest := goodIn_ca (goodIn_r _ [297, 298, 299, 17, 96, 300, 301, 302, 2, 303, 304, 305, 306, 307, 266, 267, 268, 16, 269, 81, 33, 308, 309, 310, 311, 200, 312, 313, 314, 315, 244, 4, 5, 6, 274, 275, 276, 277, 23, 21, 22, 213, 214, 215, 258, 259, 260, 20, 261, 39, 38, 171, 165, 166, 316, 317, 318, 319, 320, 321, 322, 323, 240, 241, 242, 243, 167, 168, 169, 170, 324, 325, 326, 327, 249, 328, 329, 330, 331, 332, 333, 334, 335, 154, 156, 157, 158, 159, 94, 95, 160, 161, 162, 163, 164, 336, 337, 338, 339, 155, 340, 341, 342, 343, 344, 345, 346, 347, 101, 90, 91, 92, 93, 348, 349, 350, 351, 352, 353, 354, 355, 356, 357, 358, 359, 360, 361, 362, 363, 364, 365, 366, 367, 368, 369, 370, 371, 372, 373, 374, 375, 376, 377, 250, 251, 252, 253, 24, 254, 255, 256, 257, 131, 132, 133, 378, 379, 380, 381, 126, 127, 128, 129, 34, 130, 134, 135, 136, 137, 138, 139, 140, 141, 30, 31, 382, 383, 384, 385, 473, 474, 475, 476, 477, 478, 479, 480, 481, 482, 483, 484, 485, 486, 487, 488] (by decide +kernel) (by decide +kernel)) (goodIn_sub (fun _ h => List.mem_append_left _ (List.mem_append_right _ h)) (by decide +kernel))
set_option maxRecDepth 20000 in
theorem gL_law_X2_digest : GoodIn wsL_law (wsV RL 93 RX2 yX2_digest wsX2_digest) := goodIn_app (goodIn_of _ (by decide +kernel)) ggL_law_X2_digest
set_option maxRecDepth 20000 in
theorem ggL_law_X2_people : GoodIn wsL_law wsX2_people := goodIn_r _ [303, 17, 96, 473, 474, 475, 476, 477, 478, 479, 480, 481, 482, 483, 484, 485, 486] (by decide +kernel) (by decide +kernel)
set_option maxRecDepth 20000 in
theorem gL_law_X2_people : GoodIn wsL_law (wsV RL 97 RX2 yX2_people wsX2_people) := goodIn_app (goodIn_of _ (by decide +kernel)) ggL_law_X2_people
set_option maxRecDepth 20000 in
theorem ggL_law_X2_isAlive : GoodIn wsL_law wsX2_isAlive := goodIn_ca (goodIn_r _ [347, 17, 101, 90, 91, 92, 2, 93, 94, 95, 96, 473, 474, 475, 476, 477, 478, 479, 480, 481, 482, 483, 484, 485, 486] (by decide +kernel) (by decide +kernel)) (goodIn_sub (fun _ h => List.mem_append_left _ (List.mem_append_right _ h)) (by decide +kernel))
set_option maxRecDepth 20000 in
theorem gL_law_X2_isAlive : GoodIn wsL_law (wsV RL 99 RX2 yX2_isAlive wsX2_isAlive) := goodIn_app (goodIn_of _ (by decide +kernel)) ggL_law_X2_isAlive
set_option maxRecDepth 20000 in
theorem ggL_law_X2_degreeOf : GoodIn wsL_law wsX2_degreeOf := goodIn_ca (goodIn_r _ [391, 17, 115, 90, 91, 92, 2, 93, 94, 95, 96, 126, 127, 128, 16, 129, 34, 81, 130, 131, 132, 133, 134, 135, 136, 137, 138, 139, 140, 141, 30, 31, 473, 474, 475, 476, 477, 478, 479, 480, 481, 482, 483, 484, 485, 486] (by decide +kernel) (by decide +kernel)) (goodIn_sub (fun _ h => List.mem_append_left _ (List.mem_append_right _ h)) (by decide +kernel))
set_option maxRecDepth 20000 in
theorem gL_law_X2_degreeOf : GoodIn wsL_law (wsV RL 102 RX2 yX2_degreeOf wsX2_degreeOf) := goodIn_app (goodIn_of _ (by decide +kernel)) ggL_law_X2_degreeOf
set_option maxRecDepth 20000 in
theorem ggL_law_X2_parentOf : GoodIn wsL_law wsX2_parentOf := goodIn_ca (goodIn_r _ [351, 17, 352, 90, 91, 92, 2, 93, 94, 95, 96, 473, 474, 475, 476, 477, 478, 479, 480, 481, 482, 483, 484, 485, 486] (by decide +kernel) (by decide +kernel)) (goodIn_sub (fun _ h => List.mem_append_left _ (List.mem_append_right _ h)) (by decide +kernel))
set_option maxRecDepth 20000 in
theorem gL_law_X2_parentOf : GoodIn wsL_law (wsV RL 105 RX2 yX2_parentOf wsX2_parentOf) := goodIn_app (goodIn_of _ (by decide +kernel)) ggL_law_X2_parentOf
set_option maxRecDepth 20000 in
theorem ggL_law_X2_marriedTo : GoodIn wsL_law wsX2_marriedTo := goodIn_ca (goodIn_r _ [356, 17, 357, 90, 91, 92, 2, 93, 94, 95, 96, 473, 474, 475, 476, 477, 478, 479, 480, 481, 482, 483, 484, 485, 486] (by decide +kernel) (by decide +kernel)) (goodIn_sub (fun _ h => List.mem_append_left _ (List.mem_append_right _ h)) (by decide +kernel))
set_option maxRecDepth 20000 in
theorem gL_law_X2_marriedTo : GoodIn wsL_law (wsV RL 108 RX2 yX2_marriedTo wsX2_marriedTo) := goodIn_app (goodIn_of _ (by decide +kernel)) ggL_law_X2_marriedTo
set_option maxRecDepth 20000 in
theorem ggL_law_X2_daysLeftFor : GoodIn wsL_law wsX2_daysLeftFor := goodIn_ca (goodIn_r _ [397, 90, 91, 92, 2, 93, 94, 95, 17, 96, 240, 241, 242, 243, 21, 22, 200, 23, 244, 4, 5, 6, 213, 214, 215, 167, 168, 169, 20, 170, 39, 171, 165, 166, 473, 474, 475, 476, 477, 478, 479, 480, 481, 482, 483, 484, 485, 486, 487, 488] (by decide +kernel) (by decide +kernel)) (goodIn_sub (fun _ h => List.mem_append_left _ (List.mem_append_right _ h)) (by decide +kernel))
set_option maxRecDepth 20000 in
theorem gL_law_X2_daysLeftFor : GoodIn wsL_law (wsV RL 111 RX2 yX2_daysLeftFor wsX2_daysLeftFor) := goodIn_app (goodIn_of _ (by decide +kernel)) ggL_law_X2_daysLeftFor
set_option maxRecDepth 20000 in
theorem ggL_law_X2_kinOf : GoodIn wsL_law wsX2_kinOf := goodIn_ca (goodIn_r _ [401, 17, 90, 91, 92, 2, 93, 94, 95, 96, 160, 161, 162, 163, 126, 127, 128, 16, 129, 34, 81, 130, 131, 132, 133, 134, 135, 136, 137, 138, 139, 140, 141, 30, 31, 382, 383, 384, 385, 33, 473, 474, 475, 476, 477, 478, 479, 480, 481, 482, 483, 484, 485, 486] (by decide +kernel) (by decide +kernel)) (goodIn_sub (fun _ h => List.mem_append_left _ (List.mem_append_right _ h)) (by decide +kernel))
set_option maxRecDepth 20000 in
theorem gL_law_X2_kinOf : GoodIn wsL_law (wsV RL 119 RX2 yX2_kinOf wsX2_kinOf) := goodIn_app (goodIn_of _ (by decide +kernel)) ggL_law_X2_kinOf
set_option maxRecDepth 20000 in
theorem ggL_law_X2_daysIn : GoodIn wsL_law wsX2_daysIn := goodIn_ca (goodIn_r _ [405, 94, 95, 90, 91, 92, 2, 93, 17, 96, 250, 251, 252, 253, 24, 22, 200, 23, 254, 255, 5, 256, 21, 244, 4, 6, 257, 131, 132, 133, 213, 214, 215, 240, 241, 242, 243, 167, 168, 169, 20, 170, 39, 171, 165, 166, 258, 259, 260, 261, 38, 406, 407, 408, 409, 473, 474, 475, 476, 477, 478, 479, 480, 481, 482, 483, 484, 485, 486, 487, 488] (by decide +kernel) (by decide +kernel)) (goodIn_sub (fun _ h => List.mem_append_left _ (List.mem_append_right _ h)) (by decide +kernel))
set_option maxRecDepth 20000 in
theorem gL_law_X2_daysIn : GoodIn wsL_law (wsV RL 122 RX2 yX2_daysIn wsX2_daysIn) := goodIn_app (goodIn_of _ (by decide +kernel)) ggL_law_X2_daysIn
set_option maxRecDepth 20000 in
theorem ggL_law_X2_daysLeft : GoodIn wsL_law wsX2_daysLeft := goodIn_ca (goodIn_r _ [373, 90, 91, 92, 2, 93, 94, 95, 17, 96, 320, 321, 322, 323, 244, 4, 5, 6, 240, 241, 242, 243, 21, 22, 200, 23, 213, 214, 215, 167, 168, 169, 20, 170, 39, 171, 165, 166, 473, 474, 475, 476, 477, 478, 479, 480, 481, 482, 483, 484, 485, 486, 487, 488] (by decide +kernel) (by decide +kernel)) (goodIn_sub (fun _ h => List.mem_append_left _ (List.mem_append_right _ h)) (by decide +kernel))
set_option maxRecDepth 20000 in
theorem gL_law_X2_daysLeft : GoodIn wsL_law (wsV RL 125 RX2 yX2_daysLeft wsX2_daysLeft) := goodIn_app (goodIn_of _ (by decide +kernel)) ggL_law_X2_daysLeft
set_option maxRecDepth 20000 in
theorem ggL_law_X2_mourningsOf : GoodIn wsL_law wsX2_mourningsOf := goodIn_ca (goodIn_r _ [365, 90, 91, 92, 2, 93, 94, 95, 17, 96, 366, 367, 368, 369, 240, 241, 242, 243, 21, 22, 200, 23, 244, 4, 5, 6, 213, 214, 215, 167, 168, 169, 20, 170, 39, 171, 165, 166, 473, 474, 475, 476, 477, 478, 479, 480, 481, 482, 483, 484, 485, 486, 487, 488] (by decide +kernel) (by decide +kernel)) (goodIn_sub (fun _ h => List.mem_append_left _ (List.mem_append_right _ h)) (by decide +kernel))
set_option maxRecDepth 20000 in
theorem gL_law_X2_mourningsOf : GoodIn wsL_law (wsV RL 128 RX2 yX2_mourningsOf wsX2_mourningsOf) := goodIn_app (goodIn_of _ (by decide +kernel)) ggL_law_X2_mourningsOf
set_option maxRecDepth 20000 in
theorem ggL_law_X2_colourOf : GoodIn wsL_law wsX2_colourOf := goodIn_ca (goodIn_r _ [361, 90, 91, 92, 2, 93, 94, 95, 17, 96, 274, 275, 276, 277, 200, 23, 21, 22, 244, 4, 5, 6, 213, 214, 215, 258, 259, 260, 20, 261, 39, 38, 171, 165, 166, 473, 474, 475, 476, 477, 478, 479, 480, 481, 482, 483, 484, 485, 486, 487, 488] (by decide +kernel) (by decide +kernel)) (goodIn_sub (fun _ h => List.mem_append_left _ (List.mem_append_right _ h)) (by decide +kernel))
set_option maxRecDepth 20000 in
theorem gL_law_X2_colourOf : GoodIn wsL_law (wsV RL 131 RX2 yX2_colourOf wsX2_colourOf) := goodIn_app (goodIn_of _ (by decide +kernel)) ggL_law_X2_colourOf
set_option maxRecDepth 20000 in
theorem ggL_law_X2_colourIn : GoodIn wsL_law wsX2_colourIn := goodIn_ca (goodIn_ca (goodIn_r _ [416, 120, 121, 90, 91, 92, 2, 93, 94, 95, 17, 96, 274, 275, 276, 277, 200, 23, 21, 22, 244, 4, 5, 6, 213, 214, 215, 258, 259, 260, 20, 261, 39, 38, 171, 165, 166, 473, 474, 475, 476, 477, 478, 479, 480, 481, 482, 483, 484, 485, 486, 487, 488] (by decide +kernel) (by decide +kernel)) (goodIn_sub (fun _ h => List.mem_append_right _ h) (by decide +kernel))) (goodIn_sub (fun _ h => List.mem_append_left _ (List.mem_append_right _ h)) (by decide +kernel))
set_option maxRecDepth 20000 in
theorem gL_law_X2_colourIn : GoodIn wsL_law (wsV RL 134 RX2 yX2_colourIn wsX2_colourIn) := goodIn_app (goodIn_of _ (by decide +kernel)) ggL_law_X2_colourIn
set_option maxRecDepth 20000 in
theorem ggL_law_X2_daysUntilLighter : GoodIn wsL_law wsX2_daysUntilLighter := goodIn_ca (goodIn_r _ [377, 90, 91, 92, 2, 93, 94, 95, 17, 96, 250, 251, 252, 253, 24, 22, 200, 23, 254, 255, 5, 256, 21, 244, 4, 6, 257, 131, 132, 133, 213, 214, 215, 240, 241, 242, 243, 167, 168, 169, 20, 170, 39, 171, 165, 166, 258, 259, 260, 261, 38, 378, 379, 380, 381, 473, 474, 475, 476, 477, 478, 479, 480, 481, 482, 483, 484, 485, 486, 487, 488] (by decide +kernel) (by decide +kernel)) (goodIn_sub (fun _ h => List.mem_append_left _ (List.mem_append_right _ h)) (by decide +kernel))
set_option maxRecDepth 20000 in
theorem gL_law_X2_daysUntilLighter : GoodIn wsL_law (wsV RL 137 RX2 yX2_daysUntilLighter wsX2_daysUntilLighter) := goodIn_app (goodIn_of _ (by decide +kernel)) ggL_law_X2_daysUntilLighter
set_option maxRecDepth 20000 in
theorem ggL_law_X2_wearing : GoodIn wsL_law wsX2_wearing := goodIn_ca (goodIn_r _ [421, 94, 95, 270, 271, 272, 2, 273, 17, 96, 101, 274, 275, 276, 277, 200, 23, 21, 22, 244, 4, 5, 6, 213, 214, 215, 258, 259, 260, 20, 261, 39, 38, 171, 165, 166, 473, 474, 475, 476, 477, 478, 479, 480, 481, 482, 483, 484, 485, 486, 487, 488] (by decide +kernel) (by decide +kernel)) (goodIn_sub (fun _ h => List.mem_append_left _ (List.mem_append_right _ h)) (by decide +kernel))
set_option maxRecDepth 20000 in
theorem gL_law_X2_wearing : GoodIn wsL_law (wsV RL 140 RX2 yX2_wearing wsX2_wearing) := goodIn_app (goodIn_of _ (by decide +kernel)) ggL_law_X2_wearing
set_option maxRecDepth 20000 in
theorem ggL_law_X2_strictest : GoodIn wsL_law wsX2_strictest := goodIn_r _ [315, 17, 96, 244, 4, 5, 6, 274, 275, 276, 2, 277, 200, 23, 21, 22, 213, 214, 215, 258, 259, 260, 20, 261, 39, 38, 171, 165, 166, 473, 474, 475, 476, 477, 478, 479, 480, 481, 482, 483, 484, 485, 486, 487, 488] (by decide +kernel) (by decide +kernel)
set_option maxRecDepth 20000 in
theorem gL_law_X2_strictest : GoodIn wsL_law (wsV RL 143 RX2 yX2_strictest wsX2_strictest) := goodIn_app (goodIn_of _ (by decide +kernel)) ggL_law_X2_strictest
set_option maxRecDepth 20000 in
theorem ggL_law_X2_longestMourner : GoodIn wsL_law wsX2_longestMourner := goodIn_r _ [319, 17, 96, 320, 321, 322, 2, 323, 244, 4, 5, 6, 240, 241, 242, 243, 21, 22, 200, 23, 213, 214, 215, 167, 168, 169, 20, 170, 39, 171, 165, 166, 473, 474, 475, 476, 477, 478, 479, 480, 481, 482, 483, 484, 485, 486, 487, 488] (by decide +kernel) (by decide +kernel)
set_option maxRecDepth 20000 in
theorem gL_law_X2_longestMourner : GoodIn wsL_law (wsV RL 146 RX2 yX2_longestMourner wsX2_longestMourner) := goodIn_app (goodIn_of _ (by decide +kernel)) ggL_law_X2_longestMourner
set_option maxRecDepth 20000 in
theorem ggL_law_X2_living : GoodIn wsL_law wsX2_living := goodIn_r _ [307, 17, 266, 267, 268, 16, 269, 81, 33, 473, 474, 475, 476, 477, 478, 479, 480, 481, 482, 483, 484, 485, 486] (by decide +kernel) (by decide +kernel)
set_option maxRecDepth 20000 in
theorem gL_law_X2_living : GoodIn wsL_law (wsV RL 149 RX2 yX2_living wsX2_living) := goodIn_app (goodIn_of _ (by decide +kernel)) ggL_law_X2_living
set_option maxRecDepth 20000 in
theorem ggL_law_X2_heaviestLoss : GoodIn wsL_law wsX2_heaviestLoss := goodIn_r _ [428, 26, 17, 96, 101, 257, 131, 132, 133, 429, 430, 431, 2, 432, 25, 115, 250, 251, 252, 253, 24, 22, 200, 23, 254, 255, 5, 256, 21, 244, 4, 6, 213, 214, 215, 240, 241, 242, 243, 167, 168, 169, 20, 170, 39, 171, 165, 166, 258, 259, 260, 261, 38, 433, 434, 435, 436, 126, 127, 128, 16, 129, 34, 81, 130, 134, 135, 136, 137, 138, 139, 140, 141, 30, 31, 473, 474, 475, 476, 477, 478, 479, 480, 481, 482, 483, 484, 485, 486, 487, 488] (by decide +kernel) (by decide +kernel)
set_option maxRecDepth 20000 in
theorem gL_law_X2_heaviestLoss : GoodIn wsL_law (wsV RL 152 RX2 yX2_heaviestLoss wsX2_heaviestLoss) := goodIn_app (goodIn_of _ (by decide +kernel)) ggL_law_X2_heaviestLoss
set_option maxRecDepth 20000 in
theorem ggL_law_L_below : GoodIn wsL_law wsL_below := goodIn_r _ [62, 63] (by decide +kernel) (by decide +kernel)
set_option maxRecDepth 20000 in
theorem gL_law_L_below : GoodIn wsL_law (va_wsS RL 15 yL_below wsL_below) := goodIn_app (goodIn_of _ (by decide +kernel)) ggL_law_L_below
set_option maxRecDepth 20000 in
theorem ggL_law_X2_wouldMourn : GoodIn wsL_law wsX2_wouldMourn := goodIn_ca (goodIn_ca (goodIn_r _ [440, 17, 96, 90, 91, 92, 2, 93, 94, 95, 97, 98, 99, 100, 75, 76, 101, 126, 127, 128, 16, 129, 34, 81, 130, 131, 132, 133, 134, 135, 136, 137, 138, 139, 140, 141, 30, 31, 220, 221, 222, 223, 21, 115, 167, 168, 169, 20, 170, 39, 171, 165, 166, 473, 474, 475, 476, 477, 478, 479, 480, 481, 482, 483, 484, 485, 486, 487, 488] (by decide +kernel) (by decide +kernel)) (goodIn_sub (fun _ h => List.mem_append_left _ (List.mem_append_right _ h)) (by decide +kernel))) (goodIn_sub (fun _ h => List.mem_append_left _ (List.mem_append_left _ (List.mem_append_right _ h))) (by decide +kernel))
set_option maxRecDepth 20000 in
theorem gL_law_X2_wouldMourn : GoodIn wsL_law (wsV RL 155 RX2 yX2_wouldMourn wsX2_wouldMourn) := goodIn_app (goodIn_of _ (by decide +kernel)) ggL_law_X2_wouldMourn
set_option maxRecDepth 20000 in
theorem ggL_law_X2_wouldWear : GoodIn wsL_law wsX2_wouldWear := goodIn_ca (goodIn_ca (goodIn_ca (goodIn_r _ [444, 17, 21, 115, 244, 4, 5, 6, 90, 91, 92, 2, 93, 94, 95, 96, 116, 117, 118, 119, 120, 121, 97, 98, 99, 100, 75, 76, 101, 126, 127, 128, 16, 129, 34, 81, 130, 131, 132, 133, 134, 135, 136, 137, 138, 139, 140, 141, 30, 31, 258, 259, 260, 20, 261, 39, 38, 171, 165, 166, 274, 275, 276, 277, 200, 23, 22, 213, 214, 215, 473, 474, 475, 476, 477, 478, 479, 480, 481, 482, 483, 484, 485, 486, 487, 488] (by decide +kernel) (by decide +kernel)) (goodIn_sub (fun _ h => List.mem_append_left _ (List.mem_append_right _ h)) (by decide +kernel))) (goodIn_sub (fun _ h => List.mem_append_right _ h) (by decide +kernel))) (goodIn_sub (fun _ h => List.mem_append_left _ (List.mem_append_left _ (List.mem_append_right _ h))) (by decide +kernel))
set_option maxRecDepth 20000 in
theorem gL_law_X2_wouldWear : GoodIn wsL_law (wsV RL 158 RX2 yX2_wouldWear wsX2_wouldWear) := goodIn_app (goodIn_of _ (by decide +kernel)) ggL_law_X2_wouldWear
set_option maxRecDepth 20000 in
theorem ggL_law_X2_die : GoodIn wsL_law wsX2_die := goodIn_ca (goodIn_ca (goodIn_r _ [199, 17, 101, 23, 200, 21, 90, 91, 92, 2, 93, 94, 95, 96, 97, 98, 99, 100, 75, 76, 201, 202, 203, 20, 204, 38, 205, 206, 207, 208, 39, 171, 165, 166, 209, 210, 211, 212, 22, 213, 214, 215, 216, 217, 218, 219, 115, 126, 127, 128, 16, 129, 34, 81, 130, 131, 132, 133, 134, 135, 136, 137, 138, 139, 140, 141, 30, 31, 220, 221, 222, 223, 167, 168, 169, 170, 473, 474, 475, 476, 477, 478, 479, 480, 481, 482, 483, 484, 485, 486, 487, 488] (by decide +kernel) (by decide +kernel)) (goodIn_sub (fun _ h => List.mem_append_left _ (List.mem_append_right _ h)) (by decide +kernel))) (goodIn_sub (fun _ h => List.mem_append_left _ (List.mem_append_left _ (List.mem_append_right _ h))) (by decide +kernel))
set_option maxRecDepth 20000 in
theorem gL_law_X2_die : GoodIn wsL_law (wsV RL 65 RX2 yX2_die wsX2_die) := goodIn_app (goodIn_of _ (by decide +kernel)) ggL_law_X2_die
set_option maxRecDepth 20000 in
theorem ggL_law_X3_die : GoodIn wsL_law wsX3_die := goodIn_r _ [187, 52, 55, 53, 188, 189, 190, 46, 191, 54, 7, 192, 193, 103, 104, 105, 106, 194, 173, 174, 175, 195, 65, 66, 489, 490, 491, 492, 493] (by decide +kernel) (by decide +kernel)
set_option maxRecDepth 20000 in
theorem gL_law_X3_die : GoodIn wsL_law (wsV RL 62 RX3 yX3_die wsX3_die) := goodIn_app (goodIn_of _ (by decide +kernel)) ggL_law_X3_die
set_option maxRecDepth 20000 in
theorem ggL_law_X2_daysWorn : GoodIn wsL_law wsX2_daysWorn := goodIn_r _ [327, 249, 473, 474, 475, 476, 477, 478, 479, 480, 481] (by decide +kernel) (by decide +kernel)
set_option maxRecDepth 20000 in
theorem gL_law_X2_daysWorn : GoodIn wsL_law (wsV RL 161 RX2 yX2_daysWorn wsX2_daysWorn) := goodIn_app (goodIn_of _ (by decide +kernel)) ggL_law_X2_daysWorn
set_option maxRecDepth 20000 in
theorem ggL_law_X2_pass : GoodIn wsL_law wsX2_pass := goodIn_ca (goodIn_r _ [248, 120, 121, 17, 96, 249, 200, 250, 251, 252, 2, 253, 24, 22, 23, 254, 255, 5, 256, 21, 244, 4, 6, 257, 131, 132, 133, 213, 214, 215, 240, 241, 242, 243, 167, 168, 169, 20, 170, 39, 171, 165, 166, 258, 259, 260, 261, 38, 262, 263, 264, 265, 266, 267, 268, 16, 269, 81, 33, 270, 271, 272, 273, 101, 274, 275, 276, 277, 473, 474, 475, 476, 477, 478, 479, 480, 481, 482, 483, 484, 485, 486, 487, 488] (by decide +kernel) (by decide +kernel)) (goodIn_sub (fun _ h => List.mem_append_right _ h) (by decide +kernel))
set_option maxRecDepth 20000 in
theorem gL_law_X2_pass : GoodIn wsL_law (wsV RL 75 RX2 yX2_pass wsX2_pass) := goodIn_app (goodIn_of _ (by decide +kernel)) ggL_law_X2_pass
set_option maxRecDepth 20000 in
theorem ggL_law_X3_pass : GoodIn wsL_law wsX3_pass := goodIn_r _ [281, 282, 192, 52, 55, 283, 284, 285, 46, 286, 53, 287, 288, 289, 290, 228, 4, 5, 6, 291, 292, 293, 229, 230, 231, 195, 65, 66, 489, 490, 491, 492, 493] (by decide +kernel) (by decide +kernel)
set_option maxRecDepth 20000 in
theorem gL_law_X3_pass : GoodIn wsL_law (wsV RL 78 RX3 yX3_pass wsX3_pass) := goodIn_app (goodIn_of _ (by decide +kernel)) ggL_law_X3_pass
set_option maxRecDepth 20000 in
theorem ggL_law_X3_isSame : GoodIn wsL_law wsX3_isSame := goodIn_ca (goodIn_r _ [449, 53, 7, 192, 54, 282, 193, 103, 104, 46, 105, 106, 450, 225, 226, 227, 55, 228, 4, 5, 6, 229, 230, 231, 451, 395, 396, 2, 397, 90, 91, 92, 93, 94, 95, 17, 96, 240, 241, 242, 243, 21, 22, 200, 23, 244, 213, 214, 215, 167, 168, 169, 20, 170, 39, 171, 165, 166, 452, 389, 390, 391, 115, 126, 127, 128, 16, 129, 34, 81, 130, 131, 132, 133, 134, 135, 136, 137, 138, 139, 140, 141, 30, 31, 453, 399, 400, 401, 160, 161, 162, 163, 382, 383, 384, 385, 33, 287, 288, 289, 290, 291, 292, 293, 454, 345, 346, 347, 101, 455, 349, 350, 351, 352, 456, 354, 355, 356, 357, 457, 359, 360, 361, 274, 275, 276, 277, 258, 259, 260, 261, 38, 458, 363, 364, 365, 366, 367, 368, 369, 459, 371, 372, 373, 320, 321, 322, 323, 460, 419, 420, 421, 270, 271, 272, 273, 461, 333, 334, 335, 154, 156, 157, 158, 159, 164, 462, 337, 338, 339, 155, 463, 301, 302, 303, 464, 305, 306, 307, 266, 267, 268, 269, 465, 309, 310, 311, 466, 313, 314, 315, 467, 317, 318, 319, 468, 325, 326, 327, 249, 469, 470, 471, 472, 489, 490, 491, 492, 493, 473, 474, 475, 476, 477, 478, 479, 480, 481, 482, 483, 484, 485, 486, 487, 488] (by decide +kernel) (by decide +kernel)) (goodIn_sub (fun _ h => List.mem_append_left _ (List.mem_append_right _ h)) (by decide +kernel))
set_option maxRecDepth 20000 in
theorem gL_law_X3_isSame : GoodIn wsL_law (wsV RL 164 RX3 yX3_isSame wsX3_isSame) := goodIn_app (goodIn_of _ (by decide +kernel)) ggL_law_X3_isSame
theorem dL_law_0 : decode cL_law 0 = .ok (.new 26, 3) := by decide +kernel
theorem dL_law_3 : decode cL_law 3 = .ok (.dup, 1) := by decide +kernel
theorem dL_law_4 : decode cL_law 4 = .ok (.invokespecial 84, 3) := by decide +kernel
theorem dL_law_7 : decode cL_law 7 = .ok (.astore_n 1, 1) := by decide +kernel
theorem dL_law_8 : decode cL_law 8 = .ok (.aload_n 1, 1) := by decide +kernel
theorem dL_law_9 : decode cL_law 9 = .ok (.aload_n 0, 1) := by decide +kernel
theorem dL_law_10 : decode cL_law 10 = .ok (.invokestatic 85, 3) := by decide +kernel
theorem dL_law_13 : decode cL_law 13 = .ok (.astore_n 2, 1) := by decide +kernel
theorem dL_law_14 : decode cL_law 14 = .ok (.aload_n 2, 1) := by decide +kernel
theorem dL_law_15 : decode cL_law 15 = .ok (.ifnonnull 5, 3) := by decide +kernel
theorem dL_law_18 : decode cL_law 18 = .ok (.iconst 0, 1) := by decide +kernel
theorem dL_law_19 : decode cL_law 19 = .ok (.ireturn, 1) := by decide +kernel
theorem dL_law_20 : decode cL_law 20 = .ok (.iconst 0, 1) := by decide +kernel
theorem dL_law_21 : decode cL_law 21 = .ok (.istore_n 3, 1) := by decide +kernel
theorem dL_law_22 : decode cL_law 22 = .ok (.iload_n 3, 1) := by decide +kernel
theorem dL_law_23 : decode cL_law 23 = .ok (.bipush 10, 2) := by decide +kernel
theorem dL_law_25 : decode cL_law 25 = .ok (.if_icmp .ge 1193, 3) := by decide +kernel
theorem dL_law_28 : decode cL_law 28 = .ok (.aload_n 0, 1) := by decide +kernel
theorem dL_law_29 : decode cL_law 29 = .ok (.iload_n 3, 1) := by decide +kernel
theorem dL_law_30 : decode cL_law 30 = .ok (.invokestatic 80, 3) := by decide +kernel
theorem dL_law_33 : decode cL_law 33 = .ok (.iconst 2, 1) := by decide +kernel
theorem dL_law_34 : decode cL_law 34 = .ok (.ishr, 1) := by decide +kernel
theorem dL_law_35 : decode cL_law 35 = .ok (.bipush 53, 2) := by decide +kernel
theorem dL_law_37 : decode cL_law 37 = .ok (.iload_n 3, 1) := by decide +kernel
theorem dL_law_38 : decode cL_law 38 = .ok (.imul, 1) := by decide +kernel
theorem dL_law_39 : decode cL_law 39 = .ok (.iadd, 1) := by decide +kernel
theorem dL_law_40 : decode cL_law 40 = .ok (.istore 4, 2) := by decide +kernel
theorem dL_law_42 : decode cL_law 42 = .ok (.iconst 0, 1) := by decide +kernel
theorem dL_law_43 : decode cL_law 43 = .ok (.istore 5, 2) := by decide +kernel
theorem dL_law_45 : decode cL_law 45 = .ok (.iload 5, 2) := by decide +kernel
theorem dL_law_47 : decode cL_law 47 = .ok (.iconst 4, 1) := by decide +kernel
theorem dL_law_48 : decode cL_law 48 = .ok (.if_icmp .ge 32, 3) := by decide +kernel
theorem dL_law_51 : decode cL_law 51 = .ok (.aload_n 1, 1) := by decide +kernel
theorem dL_law_52 : decode cL_law 52 = .ok (.aload_n 2, 1) := by decide +kernel
theorem dL_law_53 : decode cL_law 53 = .ok (.iload 4, 2) := by decide +kernel
theorem dL_law_55 : decode cL_law 55 = .ok (.iconst 3, 1) := by decide +kernel
theorem dL_law_56 : decode cL_law 56 = .ok (.iload 5, 2) := by decide +kernel
theorem dL_law_58 : decode cL_law 58 = .ok (.imul, 1) := by decide +kernel
theorem dL_law_59 : decode cL_law 59 = .ok (.ishr, 1) := by decide +kernel
theorem dL_law_60 : decode cL_law 60 = .ok (.bipush 29, 2) := by decide +kernel
theorem dL_law_62 : decode cL_law 62 = .ok (.iload 5, 2) := by decide +kernel
theorem dL_law_64 : decode cL_law 64 = .ok (.imul, 1) := by decide +kernel
theorem dL_law_65 : decode cL_law 65 = .ok (.iadd, 1) := by decide +kernel
theorem dL_law_66 : decode cL_law 66 = .ok (.invokestatic 89, 3) := by decide +kernel
theorem dL_law_69 : decode cL_law 69 = .ok (.ifCond .ne 5, 3) := by decide +kernel
theorem dL_law_72 : decode cL_law 72 = .ok (.iconst 0, 1) := by decide +kernel
theorem dL_law_73 : decode cL_law 73 = .ok (.ireturn, 1) := by decide +kernel
theorem dL_law_74 : decode cL_law 74 = .ok (.iinc 5 1, 3) := by decide +kernel
theorem dL_law_77 : decode cL_law 77 = .ok (.goto (-32), 3) := by decide +kernel
theorem dL_law_80 : decode cL_law 80 = .ok (.aload_n 1, 1) := by decide +kernel
theorem dL_law_81 : decode cL_law 81 = .ok (.invokevirtual 93, 3) := by decide +kernel
theorem dL_law_84 : decode cL_law 84 = .ok (.lstore 5, 2) := by decide +kernel
theorem dL_law_86 : decode cL_law 86 = .ok (.aload_n 1, 1) := by decide +kernel
theorem dL_law_87 : decode cL_law 87 = .ok (.invokevirtual 97, 3) := by decide +kernel
theorem dL_law_90 : decode cL_law 90 = .ok (.istore 7, 2) := by decide +kernel
theorem dL_law_92 : decode cL_law 92 = .ok (.iconst 0, 1) := by decide +kernel
theorem dL_law_93 : decode cL_law 93 = .ok (.istore 8, 2) := by decide +kernel
theorem dL_law_95 : decode cL_law 95 = .ok (.iconst 0, 1) := by decide +kernel
theorem dL_law_96 : decode cL_law 96 = .ok (.istore 9, 2) := by decide +kernel
theorem dL_law_98 : decode cL_law 98 = .ok (.iconst 0, 1) := by decide +kernel
theorem dL_law_99 : decode cL_law 99 = .ok (.istore 10, 2) := by decide +kernel
theorem dL_law_101 : decode cL_law 101 = .ok (.iload 10, 2) := by decide +kernel
theorem dL_law_103 : decode cL_law 103 = .ok (.iload 7, 2) := by decide +kernel
theorem dL_law_105 : decode cL_law 105 = .ok (.if_icmp .ge 528, 3) := by decide +kernel
theorem dL_law_108 : decode cL_law 108 = .ok (.iload 8, 2) := by decide +kernel
theorem dL_law_110 : decode cL_law 110 = .ok (.aload_n 1, 1) := by decide +kernel
theorem dL_law_111 : decode cL_law 111 = .ok (.iload 10, 2) := by decide +kernel
theorem dL_law_113 : decode cL_law 113 = .ok (.invokevirtual 99, 3) := by decide +kernel
theorem dL_law_116 : decode cL_law 116 = .ok (.ifCond .eq 7, 3) := by decide +kernel
theorem dL_law_119 : decode cL_law 119 = .ok (.iconst 1, 1) := by decide +kernel
theorem dL_law_120 : decode cL_law 120 = .ok (.goto 4, 3) := by decide +kernel
theorem dL_law_123 : decode cL_law 123 = .ok (.iconst 0, 1) := by decide +kernel
theorem dL_law_124 : decode cL_law 124 = .ok (.iadd, 1) := by decide +kernel
theorem dL_law_125 : decode cL_law 125 = .ok (.istore 8, 2) := by decide +kernel
theorem dL_law_127 : decode cL_law 127 = .ok (.iconst 0, 1) := by decide +kernel
theorem dL_law_128 : decode cL_law 128 = .ok (.istore 11, 2) := by decide +kernel
theorem dL_law_130 : decode cL_law 130 = .ok (.iconst 0, 1) := by decide +kernel
theorem dL_law_131 : decode cL_law 131 = .ok (.istore 12, 2) := by decide +kernel
theorem dL_law_133 : decode cL_law 133 = .ok (.iconst 0, 1) := by decide +kernel
theorem dL_law_134 : decode cL_law 134 = .ok (.istore 13, 2) := by decide +kernel
theorem dL_law_136 : decode cL_law 136 = .ok (.iconst 0, 1) := by decide +kernel
theorem dL_law_137 : decode cL_law 137 = .ok (.istore 14, 2) := by decide +kernel
theorem dL_law_139 : decode cL_law 139 = .ok (.iload 14, 2) := by decide +kernel
theorem dL_law_141 : decode cL_law 141 = .ok (.iload 7, 2) := by decide +kernel
theorem dL_law_143 : decode cL_law 143 = .ok (.if_icmp .ge 209, 3) := by decide +kernel
theorem dL_law_146 : decode cL_law 146 = .ok (.aload_n 1, 1) := by decide +kernel
theorem dL_law_147 : decode cL_law 147 = .ok (.iload 10, 2) := by decide +kernel
theorem dL_law_149 : decode cL_law 149 = .ok (.iload 14, 2) := by decide +kernel
theorem dL_law_151 : decode cL_law 151 = .ok (.invokevirtual 102, 3) := by decide +kernel
theorem dL_law_154 : decode cL_law 154 = .ok (.istore 15, 2) := by decide +kernel
theorem dL_law_156 : decode cL_law 156 = .ok (.aload_n 1, 1) := by decide +kernel
theorem dL_law_157 : decode cL_law 157 = .ok (.iload 10, 2) := by decide +kernel
theorem dL_law_159 : decode cL_law 159 = .ok (.invokevirtual 105, 3) := by decide +kernel
theorem dL_law_162 : decode cL_law 162 = .ok (.iload 14, 2) := by decide +kernel
theorem dL_law_164 : decode cL_law 164 = .ok (.if_icmp .eq 25, 3) := by decide +kernel
theorem dL_law_167 : decode cL_law 167 = .ok (.aload_n 1, 1) := by decide +kernel
theorem dL_law_168 : decode cL_law 168 = .ok (.iload 14, 2) := by decide +kernel
theorem dL_law_170 : decode cL_law 170 = .ok (.invokevirtual 105, 3) := by decide +kernel
theorem dL_law_173 : decode cL_law 173 = .ok (.iload 10, 2) := by decide +kernel
theorem dL_law_175 : decode cL_law 175 = .ok (.if_icmp .eq 14, 3) := by decide +kernel
theorem dL_law_178 : decode cL_law 178 = .ok (.aload_n 1, 1) := by decide +kernel
theorem dL_law_179 : decode cL_law 179 = .ok (.iload 10, 2) := by decide +kernel
theorem dL_law_181 : decode cL_law 181 = .ok (.invokevirtual 108, 3) := by decide +kernel
theorem dL_law_184 : decode cL_law 184 = .ok (.iload 14, 2) := by decide +kernel
theorem dL_law_186 : decode cL_law 186 = .ok (.if_icmp .ne 7, 3) := by decide +kernel
theorem dL_law_189 : decode cL_law 189 = .ok (.iconst 1, 1) := by decide +kernel
theorem dL_law_190 : decode cL_law 190 = .ok (.goto 4, 3) := by decide +kernel
theorem dL_law_193 : decode cL_law 193 = .ok (.iconst 0, 1) := by decide +kernel
theorem dL_law_194 : decode cL_law 194 = .ok (.istore 16, 2) := by decide +kernel
theorem dL_law_196 : decode cL_law 196 = .ok (.iload 15, 2) := by decide +kernel
theorem dL_law_198 : decode cL_law 198 = .ok (.aload_n 1, 1) := by decide +kernel
theorem dL_law_199 : decode cL_law 199 = .ok (.iload 14, 2) := by decide +kernel
theorem dL_law_201 : decode cL_law 201 = .ok (.iload 10, 2) := by decide +kernel
theorem dL_law_203 : decode cL_law 203 = .ok (.invokevirtual 102, 3) := by decide +kernel
theorem dL_law_206 : decode cL_law 206 = .ok (.if_icmp .ne 42, 3) := by decide +kernel
theorem dL_law_209 : decode cL_law 209 = .ok (.iload 15, 2) := by decide +kernel
theorem dL_law_211 : decode cL_law 211 = .ok (.ifCond .lt 37, 3) := by decide +kernel
theorem dL_law_214 : decode cL_law 214 = .ok (.iload 15, 2) := by decide +kernel
theorem dL_law_216 : decode cL_law 216 = .ok (.iconst 4, 1) := by decide +kernel
theorem dL_law_217 : decode cL_law 217 = .ok (.if_icmp .gt 31, 3) := by decide +kernel
theorem dL_law_220 : decode cL_law 220 = .ok (.iload 15, 2) := by decide +kernel
theorem dL_law_222 : decode cL_law 222 = .ok (.iconst 1, 1) := by decide +kernel
theorem dL_law_223 : decode cL_law 223 = .ok (.if_icmp .ne 7, 3) := by decide +kernel
theorem dL_law_226 : decode cL_law 226 = .ok (.iconst 1, 1) := by decide +kernel
theorem dL_law_227 : decode cL_law 227 = .ok (.goto 4, 3) := by decide +kernel
theorem dL_law_230 : decode cL_law 230 = .ok (.iconst 0, 1) := by decide +kernel
theorem dL_law_231 : decode cL_law 231 = .ok (.iload 16, 2) := by decide +kernel
theorem dL_law_233 : decode cL_law 233 = .ok (.if_icmp .ne 15, 3) := by decide +kernel
theorem dL_law_236 : decode cL_law 236 = .ok (.iload 14, 2) := by decide +kernel
theorem dL_law_238 : decode cL_law 238 = .ok (.iload 10, 2) := by decide +kernel
theorem dL_law_240 : decode cL_law 240 = .ok (.if_icmp .ne 10, 3) := by decide +kernel
theorem dL_law_243 : decode cL_law 243 = .ok (.iload 15, 2) := by decide +kernel
theorem dL_law_245 : decode cL_law 245 = .ok (.ifCond .eq 5, 3) := by decide +kernel
theorem dL_law_248 : decode cL_law 248 = .ok (.iconst 0, 1) := by decide +kernel
theorem dL_law_249 : decode cL_law 249 = .ok (.ireturn, 1) := by decide +kernel
theorem dL_law_250 : decode cL_law 250 = .ok (.iload 11, 2) := by decide +kernel
theorem dL_law_252 : decode cL_law 252 = .ok (.iload 15, 2) := by decide +kernel
theorem dL_law_254 : decode cL_law 254 = .ok (.ifCond .le 16, 3) := by decide +kernel
theorem dL_law_257 : decode cL_law 257 = .ok (.aload_n 1, 1) := by decide +kernel
theorem dL_law_258 : decode cL_law 258 = .ok (.iload 14, 2) := by decide +kernel
theorem dL_law_260 : decode cL_law 260 = .ok (.invokevirtual 99, 3) := by decide +kernel
theorem dL_law_263 : decode cL_law 263 = .ok (.ifCond .eq 7, 3) := by decide +kernel
theorem dL_law_266 : decode cL_law 266 = .ok (.iconst 1, 1) := by decide +kernel
theorem dL_law_267 : decode cL_law 267 = .ok (.goto 4, 3) := by decide +kernel
theorem dL_law_270 : decode cL_law 270 = .ok (.iconst 0, 1) := by decide +kernel
theorem dL_law_271 : decode cL_law 271 = .ok (.iadd, 1) := by decide +kernel
theorem dL_law_272 : decode cL_law 272 = .ok (.istore 11, 2) := by decide +kernel
theorem dL_law_274 : decode cL_law 274 = .ok (.aload_n 1, 1) := by decide +kernel
theorem dL_law_275 : decode cL_law 275 = .ok (.iload 10, 2) := by decide +kernel
theorem dL_law_277 : decode cL_law 277 = .ok (.iload 14, 2) := by decide +kernel
theorem dL_law_279 : decode cL_law 279 = .ok (.invokevirtual 111, 3) := by decide +kernel
theorem dL_law_282 : decode cL_law 282 = .ok (.istore 17, 2) := by decide +kernel
theorem dL_law_284 : decode cL_law 284 = .ok (.iload 17, 2) := by decide +kernel
theorem dL_law_286 : decode cL_law 286 = .ok (.ifCond .lt 34, 3) := by decide +kernel
theorem dL_law_289 : decode cL_law 289 = .ok (.iload 17, 2) := by decide +kernel
theorem dL_law_291 : decode cL_law 291 = .ok (.sipush 180, 3) := by decide +kernel
theorem dL_law_294 : decode cL_law 294 = .ok (.if_icmp .gt 26, 3) := by decide +kernel
theorem dL_law_297 : decode cL_law 297 = .ok (.iload 17, 2) := by decide +kernel
theorem dL_law_299 : decode cL_law 299 = .ok (.ifCond .le 23, 3) := by decide +kernel
theorem dL_law_302 : decode cL_law 302 = .ok (.aload_n 1, 1) := by decide +kernel
theorem dL_law_303 : decode cL_law 303 = .ok (.iload 10, 2) := by decide +kernel
theorem dL_law_305 : decode cL_law 305 = .ok (.invokevirtual 99, 3) := by decide +kernel
theorem dL_law_308 : decode cL_law 308 = .ok (.ifCond .eq 12, 3) := by decide +kernel
theorem dL_law_311 : decode cL_law 311 = .ok (.aload_n 1, 1) := by decide +kernel
theorem dL_law_312 : decode cL_law 312 = .ok (.iload 14, 2) := by decide +kernel
theorem dL_law_314 : decode cL_law 314 = .ok (.invokevirtual 99, 3) := by decide +kernel
theorem dL_law_317 : decode cL_law 317 = .ok (.ifCond .eq 5, 3) := by decide +kernel
theorem dL_law_320 : decode cL_law 320 = .ok (.iconst 0, 1) := by decide +kernel
theorem dL_law_321 : decode cL_law 321 = .ok (.ireturn, 1) := by decide +kernel
theorem dL_law_322 : decode cL_law 322 = .ok (.iload 12, 2) := by decide +kernel
theorem dL_law_324 : decode cL_law 324 = .ok (.iload 17, 2) := by decide +kernel
theorem dL_law_326 : decode cL_law 326 = .ok (.invokestatic 114, 3) := by decide +kernel
theorem dL_law_329 : decode cL_law 329 = .ok (.istore 12, 2) := by decide +kernel
theorem dL_law_331 : decode cL_law 331 = .ok (.iload 13, 2) := by decide +kernel
theorem dL_law_333 : decode cL_law 333 = .ok (.iload 17, 2) := by decide +kernel
theorem dL_law_335 : decode cL_law 335 = .ok (.ifCond .le 7, 3) := by decide +kernel
theorem dL_law_338 : decode cL_law 338 = .ok (.iconst 1, 1) := by decide +kernel
theorem dL_law_339 : decode cL_law 339 = .ok (.goto 4, 3) := by decide +kernel
theorem dL_law_342 : decode cL_law 342 = .ok (.iconst 0, 1) := by decide +kernel
theorem dL_law_343 : decode cL_law 343 = .ok (.iadd, 1) := by decide +kernel
theorem dL_law_344 : decode cL_law 344 = .ok (.istore 13, 2) := by decide +kernel
theorem dL_law_346 : decode cL_law 346 = .ok (.iinc 14 1, 3) := by decide +kernel
theorem dL_law_349 : decode cL_law 349 = .ok (.goto (-210), 3) := by decide +kernel
theorem dL_law_352 : decode cL_law 352 = .ok (.iconst 0, 1) := by decide +kernel
theorem dL_law_353 : decode cL_law 353 = .ok (.istore 14, 2) := by decide +kernel
theorem dL_law_355 : decode cL_law 355 = .ok (.iconst 1, 1) := by decide +kernel
theorem dL_law_356 : decode cL_law 356 = .ok (.istore 15, 2) := by decide +kernel
theorem dL_law_358 : decode cL_law 358 = .ok (.iload 15, 2) := by decide +kernel
theorem dL_law_360 : decode cL_law 360 = .ok (.iconst 5, 1) := by decide +kernel
theorem dL_law_361 : decode cL_law 361 = .ok (.if_icmp .ge 22, 3) := by decide +kernel
theorem dL_law_364 : decode cL_law 364 = .ok (.iload 14, 2) := by decide +kernel
theorem dL_law_366 : decode cL_law 366 = .ok (.aload_n 1, 1) := by decide +kernel
theorem dL_law_367 : decode cL_law 367 = .ok (.iload 10, 2) := by decide +kernel
theorem dL_law_369 : decode cL_law 369 = .ok (.iload 15, 2) := by decide +kernel
theorem dL_law_371 : decode cL_law 371 = .ok (.invokevirtual 119, 3) := by decide +kernel
theorem dL_law_374 : decode cL_law 374 = .ok (.iadd, 1) := by decide +kernel
theorem dL_law_375 : decode cL_law 375 = .ok (.istore 14, 2) := by decide +kernel
theorem dL_law_377 : decode cL_law 377 = .ok (.iinc 15 1, 3) := by decide +kernel
theorem dL_law_380 : decode cL_law 380 = .ok (.goto (-22), 3) := by decide +kernel
theorem dL_law_383 : decode cL_law 383 = .ok (.iconst 0, 1) := by decide +kernel
theorem dL_law_384 : decode cL_law 384 = .ok (.istore 15, 2) := by decide +kernel
theorem dL_law_386 : decode cL_law 386 = .ok (.iconst 1, 1) := by decide +kernel
theorem dL_law_387 : decode cL_law 387 = .ok (.istore 16, 2) := by decide +kernel
theorem dL_law_389 : decode cL_law 389 = .ok (.iload 16, 2) := by decide +kernel
theorem dL_law_391 : decode cL_law 391 = .ok (.bipush 6, 2) := by decide +kernel
theorem dL_law_393 : decode cL_law 393 = .ok (.if_icmp .ge 22, 3) := by decide +kernel
theorem dL_law_396 : decode cL_law 396 = .ok (.iload 15, 2) := by decide +kernel
theorem dL_law_398 : decode cL_law 398 = .ok (.aload_n 1, 1) := by decide +kernel
theorem dL_law_399 : decode cL_law 399 = .ok (.iload 10, 2) := by decide +kernel
theorem dL_law_401 : decode cL_law 401 = .ok (.iload 16, 2) := by decide +kernel
theorem dL_law_403 : decode cL_law 403 = .ok (.invokevirtual 122, 3) := by decide +kernel
theorem dL_law_406 : decode cL_law 406 = .ok (.iadd, 1) := by decide +kernel
theorem dL_law_407 : decode cL_law 407 = .ok (.istore 15, 2) := by decide +kernel
theorem dL_law_409 : decode cL_law 409 = .ok (.iinc 16 1, 3) := by decide +kernel
theorem dL_law_412 : decode cL_law 412 = .ok (.goto (-23), 3) := by decide +kernel
theorem dL_law_415 : decode cL_law 415 = .ok (.aload_n 1, 1) := by decide +kernel
theorem dL_law_416 : decode cL_law 416 = .ok (.iload 10, 2) := by decide +kernel
theorem dL_law_418 : decode cL_law 418 = .ok (.invokevirtual 108, 3) := by decide +kernel
theorem dL_law_421 : decode cL_law 421 = .ok (.istore 16, 2) := by decide +kernel
theorem dL_law_423 : decode cL_law 423 = .ok (.iload 14, 2) := by decide +kernel
theorem dL_law_425 : decode cL_law 425 = .ok (.iload 11, 2) := by decide +kernel
theorem dL_law_427 : decode cL_law 427 = .ok (.if_icmp .ne 93, 3) := by decide +kernel
theorem dL_law_430 : decode cL_law 430 = .ok (.iload 12, 2) := by decide +kernel
theorem dL_law_432 : decode cL_law 432 = .ok (.aload_n 1, 1) := by decide +kernel
theorem dL_law_433 : decode cL_law 433 = .ok (.iload 10, 2) := by decide +kernel
theorem dL_law_435 : decode cL_law 435 = .ok (.invokevirtual 125, 3) := by decide +kernel
theorem dL_law_438 : decode cL_law 438 = .ok (.if_icmp .ne 82, 3) := by decide +kernel
theorem dL_law_441 : decode cL_law 441 = .ok (.iload 13, 2) := by decide +kernel
theorem dL_law_443 : decode cL_law 443 = .ok (.aload_n 1, 1) := by decide +kernel
theorem dL_law_444 : decode cL_law 444 = .ok (.iload 10, 2) := by decide +kernel
theorem dL_law_446 : decode cL_law 446 = .ok (.invokevirtual 128, 3) := by decide +kernel
theorem dL_law_449 : decode cL_law 449 = .ok (.if_icmp .ne 71, 3) := by decide +kernel
theorem dL_law_452 : decode cL_law 452 = .ok (.iload 15, 2) := by decide +kernel
theorem dL_law_454 : decode cL_law 454 = .ok (.iload 12, 2) := by decide +kernel
theorem dL_law_456 : decode cL_law 456 = .ok (.if_icmp .gt 64, 3) := by decide +kernel
theorem dL_law_459 : decode cL_law 459 = .ok (.aload_n 1, 1) := by decide +kernel
theorem dL_law_460 : decode cL_law 460 = .ok (.iload 10, 2) := by decide +kernel
theorem dL_law_462 : decode cL_law 462 = .ok (.invokevirtual 131, 3) := by decide +kernel
theorem dL_law_465 : decode cL_law 465 = .ok (.aload_n 1, 1) := by decide +kernel
theorem dL_law_466 : decode cL_law 466 = .ok (.iload 10, 2) := by decide +kernel
theorem dL_law_468 : decode cL_law 468 = .ok (.iconst 0, 1) := by decide +kernel
theorem dL_law_469 : decode cL_law 469 = .ok (.invokevirtual 134, 3) := by decide +kernel
theorem dL_law_472 : decode cL_law 472 = .ok (.if_icmp .ne 48, 3) := by decide +kernel
theorem dL_law_475 : decode cL_law 475 = .ok (.aload_n 1, 1) := by decide +kernel
theorem dL_law_476 : decode cL_law 476 = .ok (.iload 10, 2) := by decide +kernel
theorem dL_law_478 : decode cL_law 478 = .ok (.iload 12, 2) := by decide +kernel
theorem dL_law_480 : decode cL_law 480 = .ok (.invokevirtual 134, 3) := by decide +kernel
theorem dL_law_483 : decode cL_law 483 = .ok (.ifCond .ne 37, 3) := by decide +kernel
theorem dL_law_486 : decode cL_law 486 = .ok (.iload 16, 2) := by decide +kernel
theorem dL_law_488 : decode cL_law 488 = .ok (.iload 10, 2) := by decide +kernel
theorem dL_law_490 : decode cL_law 490 = .ok (.if_icmp .eq 30, 3) := by decide +kernel
theorem dL_law_493 : decode cL_law 493 = .ok (.iload 16, 2) := by decide +kernel
theorem dL_law_495 : decode cL_law 495 = .ok (.ifCond .lt 14, 3) := by decide +kernel
theorem dL_law_498 : decode cL_law 498 = .ok (.aload_n 1, 1) := by decide +kernel
theorem dL_law_499 : decode cL_law 499 = .ok (.iload 16, 2) := by decide +kernel
theorem dL_law_501 : decode cL_law 501 = .ok (.invokevirtual 108, 3) := by decide +kernel
theorem dL_law_504 : decode cL_law 504 = .ok (.iload 10, 2) := by decide +kernel
theorem dL_law_506 : decode cL_law 506 = .ok (.if_icmp .ne 14, 3) := by decide +kernel
theorem dL_law_509 : decode cL_law 509 = .ok (.aload_n 1, 1) := by decide +kernel
theorem dL_law_510 : decode cL_law 510 = .ok (.iload 10, 2) := by decide +kernel
theorem dL_law_512 : decode cL_law 512 = .ok (.invokevirtual 105, 3) := by decide +kernel
theorem dL_law_515 : decode cL_law 515 = .ok (.iload 10, 2) := by decide +kernel
theorem dL_law_517 : decode cL_law 517 = .ok (.if_icmp .lt 5, 3) := by decide +kernel
theorem dL_law_520 : decode cL_law 520 = .ok (.iconst 0, 1) := by decide +kernel
theorem dL_law_521 : decode cL_law 521 = .ok (.ireturn, 1) := by decide +kernel
theorem dL_law_522 : decode cL_law 522 = .ok (.iload 9, 2) := by decide +kernel
theorem dL_law_524 : decode cL_law 524 = .ok (.iload 12, 2) := by decide +kernel
theorem dL_law_526 : decode cL_law 526 = .ok (.invokestatic 114, 3) := by decide +kernel
theorem dL_law_529 : decode cL_law 529 = .ok (.istore 9, 2) := by decide +kernel
theorem dL_law_531 : decode cL_law 531 = .ok (.aload_n 1, 1) := by decide +kernel
theorem dL_law_532 : decode cL_law 532 = .ok (.iload 10, 2) := by decide +kernel
theorem dL_law_534 : decode cL_law 534 = .ok (.invokevirtual 131, 3) := by decide +kernel
theorem dL_law_537 : decode cL_law 537 = .ok (.istore 17, 2) := by decide +kernel
theorem dL_law_539 : decode cL_law 539 = .ok (.aload_n 1, 1) := by decide +kernel
theorem dL_law_540 : decode cL_law 540 = .ok (.iload 10, 2) := by decide +kernel
theorem dL_law_542 : decode cL_law 542 = .ok (.invokevirtual 137, 3) := by decide +kernel
theorem dL_law_545 : decode cL_law 545 = .ok (.istore 18, 2) := by decide +kernel
theorem dL_law_547 : decode cL_law 547 = .ok (.iload 17, 2) := by decide +kernel
theorem dL_law_549 : decode cL_law 549 = .ok (.ifCond .ne 7, 3) := by decide +kernel
theorem dL_law_552 : decode cL_law 552 = .ok (.iconst 1, 1) := by decide +kernel
theorem dL_law_553 : decode cL_law 553 = .ok (.goto 4, 3) := by decide +kernel
theorem dL_law_556 : decode cL_law 556 = .ok (.iconst 0, 1) := by decide +kernel
theorem dL_law_557 : decode cL_law 557 = .ok (.iload 18, 2) := by decide +kernel
theorem dL_law_559 : decode cL_law 559 = .ok (.ifCond .ge 7, 3) := by decide +kernel
theorem dL_law_562 : decode cL_law 562 = .ok (.iconst 1, 1) := by decide +kernel
theorem dL_law_563 : decode cL_law 563 = .ok (.goto 4, 3) := by decide +kernel
theorem dL_law_566 : decode cL_law 566 = .ok (.iconst 0, 1) := by decide +kernel
theorem dL_law_567 : decode cL_law 567 = .ok (.if_icmp .ne 27, 3) := by decide +kernel
theorem dL_law_570 : decode cL_law 570 = .ok (.iload 17, 2) := by decide +kernel
theorem dL_law_572 : decode cL_law 572 = .ok (.ifCond .le 24, 3) := by decide +kernel
theorem dL_law_575 : decode cL_law 575 = .ok (.iload 18, 2) := by decide +kernel
theorem dL_law_577 : decode cL_law 577 = .ok (.iconst 1, 1) := by decide +kernel
theorem dL_law_578 : decode cL_law 578 = .ok (.if_icmp .lt 16, 3) := by decide +kernel
theorem dL_law_581 : decode cL_law 581 = .ok (.aload_n 1, 1) := by decide +kernel
theorem dL_law_582 : decode cL_law 582 = .ok (.iload 10, 2) := by decide +kernel
theorem dL_law_584 : decode cL_law 584 = .ok (.iload 18, 2) := by decide +kernel
theorem dL_law_586 : decode cL_law 586 = .ok (.invokevirtual 134, 3) := by decide +kernel
theorem dL_law_589 : decode cL_law 589 = .ok (.iload 17, 2) := by decide +kernel
theorem dL_law_591 : decode cL_law 591 = .ok (.if_icmp .lt 5, 3) := by decide +kernel
theorem dL_law_594 : decode cL_law 594 = .ok (.iconst 0, 1) := by decide +kernel
theorem dL_law_595 : decode cL_law 595 = .ok (.ireturn, 1) := by decide +kernel
theorem dL_law_596 : decode cL_law 596 = .ok (.iconst 1, 1) := by decide +kernel
theorem dL_law_597 : decode cL_law 597 = .ok (.istore 19, 2) := by decide +kernel
theorem dL_law_599 : decode cL_law 599 = .ok (.iload 19, 2) := by decide +kernel
theorem dL_law_601 : decode cL_law 601 = .ok (.iload 18, 2) := by decide +kernel
theorem dL_law_603 : decode cL_law 603 = .ok (.if_icmp .ge 24, 3) := by decide +kernel
theorem dL_law_606 : decode cL_law 606 = .ok (.aload_n 1, 1) := by decide +kernel
theorem dL_law_607 : decode cL_law 607 = .ok (.iload 10, 2) := by decide +kernel
theorem dL_law_609 : decode cL_law 609 = .ok (.iload 19, 2) := by decide +kernel
theorem dL_law_611 : decode cL_law 611 = .ok (.invokevirtual 134, 3) := by decide +kernel
theorem dL_law_614 : decode cL_law 614 = .ok (.iload 17, 2) := by decide +kernel
theorem dL_law_616 : decode cL_law 616 = .ok (.if_icmp .ge 5, 3) := by decide +kernel
theorem dL_law_619 : decode cL_law 619 = .ok (.iconst 0, 1) := by decide +kernel
theorem dL_law_620 : decode cL_law 620 = .ok (.ireturn, 1) := by decide +kernel
theorem dL_law_621 : decode cL_law 621 = .ok (.iinc 19 1, 3) := by decide +kernel
theorem dL_law_624 : decode cL_law 624 = .ok (.goto (-25), 3) := by decide +kernel
theorem dL_law_627 : decode cL_law 627 = .ok (.iinc 10 1, 3) := by decide +kernel
theorem dL_law_630 : decode cL_law 630 = .ok (.goto (-529), 3) := by decide +kernel
theorem dL_law_633 : decode cL_law 633 = .ok (.iconst 0, 1) := by decide +kernel
end
section
theorem dL_law_634 : decode cL_law 634 = .ok (.istore 10, 2) := by decide +kernel
theorem dL_law_636 : decode cL_law 636 = .ok (.iconst 0, 1) := by decide +kernel
theorem dL_law_637 : decode cL_law 637 = .ok (.istore 11, 2) := by decide +kernel
theorem dL_law_639 : decode cL_law 639 = .ok (.iload 11, 2) := by decide +kernel
theorem dL_law_641 : decode cL_law 641 = .ok (.bipush 6, 2) := by decide +kernel
theorem dL_law_643 : decode cL_law 643 = .ok (.if_icmp .ge 20, 3) := by decide +kernel
theorem dL_law_646 : decode cL_law 646 = .ok (.iload 10, 2) := by decide +kernel
theorem dL_law_648 : decode cL_law 648 = .ok (.aload_n 1, 1) := by decide +kernel
theorem dL_law_649 : decode cL_law 649 = .ok (.iload 11, 2) := by decide +kernel
theorem dL_law_651 : decode cL_law 651 = .ok (.invokevirtual 140, 3) := by decide +kernel
theorem dL_law_654 : decode cL_law 654 = .ok (.iadd, 1) := by decide +kernel
theorem dL_law_655 : decode cL_law 655 = .ok (.istore 10, 2) := by decide +kernel
theorem dL_law_657 : decode cL_law 657 = .ok (.iinc 11 1, 3) := by decide +kernel
theorem dL_law_660 : decode cL_law 660 = .ok (.goto (-21), 3) := by decide +kernel
theorem dL_law_663 : decode cL_law 663 = .ok (.aload_n 1, 1) := by decide +kernel
theorem dL_law_664 : decode cL_law 664 = .ok (.invokevirtual 143, 3) := by decide +kernel
theorem dL_law_667 : decode cL_law 667 = .ok (.istore 11, 2) := by decide +kernel
theorem dL_law_669 : decode cL_law 669 = .ok (.aload_n 1, 1) := by decide +kernel
theorem dL_law_670 : decode cL_law 670 = .ok (.invokevirtual 146, 3) := by decide +kernel
theorem dL_law_673 : decode cL_law 673 = .ok (.istore 12, 2) := by decide +kernel
theorem dL_law_675 : decode cL_law 675 = .ok (.iload 8, 2) := by decide +kernel
theorem dL_law_677 : decode cL_law 677 = .ok (.aload_n 1, 1) := by decide +kernel
theorem dL_law_678 : decode cL_law 678 = .ok (.invokevirtual 149, 3) := by decide +kernel
theorem dL_law_681 : decode cL_law 681 = .ok (.if_icmp .ne 80, 3) := by decide +kernel
theorem dL_law_684 : decode cL_law 684 = .ok (.iload 10, 2) := by decide +kernel
theorem dL_law_686 : decode cL_law 686 = .ok (.iload 8, 2) := by decide +kernel
theorem dL_law_688 : decode cL_law 688 = .ok (.if_icmp .ne 73, 3) := by decide +kernel
theorem dL_law_691 : decode cL_law 691 = .ok (.iload 11, 2) := by decide +kernel
theorem dL_law_693 : decode cL_law 693 = .ok (.ifCond .le 12, 3) := by decide +kernel
theorem dL_law_696 : decode cL_law 696 = .ok (.aload_n 1, 1) := by decide +kernel
theorem dL_law_697 : decode cL_law 697 = .ok (.iload 11, 2) := by decide +kernel
theorem dL_law_699 : decode cL_law 699 = .ok (.invokevirtual 140, 3) := by decide +kernel
theorem dL_law_702 : decode cL_law 702 = .ok (.ifCond .eq 59, 3) := by decide +kernel
theorem dL_law_705 : decode cL_law 705 = .ok (.iload 11, 2) := by decide +kernel
theorem dL_law_707 : decode cL_law 707 = .ok (.iconst 5, 1) := by decide +kernel
theorem dL_law_708 : decode cL_law 708 = .ok (.if_icmp .ge 14, 3) := by decide +kernel
theorem dL_law_711 : decode cL_law 711 = .ok (.aload_n 1, 1) := by decide +kernel
theorem dL_law_712 : decode cL_law 712 = .ok (.iload 11, 2) := by decide +kernel
theorem dL_law_714 : decode cL_law 714 = .ok (.iconst 1, 1) := by decide +kernel
theorem dL_law_715 : decode cL_law 715 = .ok (.iadd, 1) := by decide +kernel
theorem dL_law_716 : decode cL_law 716 = .ok (.invokevirtual 140, 3) := by decide +kernel
theorem dL_law_719 : decode cL_law 719 = .ok (.ifCond .gt 42, 3) := by decide +kernel
theorem dL_law_722 : decode cL_law 722 = .ok (.iload 12, 2) := by decide +kernel
theorem dL_law_724 : decode cL_law 724 = .ok (.ifCond .ge 7, 3) := by decide +kernel
theorem dL_law_727 : decode cL_law 727 = .ok (.iconst 1, 1) := by decide +kernel
theorem dL_law_728 : decode cL_law 728 = .ok (.goto 4, 3) := by decide +kernel
theorem dL_law_731 : decode cL_law 731 = .ok (.iconst 0, 1) := by decide +kernel
theorem dL_law_732 : decode cL_law 732 = .ok (.iload 9, 2) := by decide +kernel
theorem dL_law_734 : decode cL_law 734 = .ok (.ifCond .ne 7, 3) := by decide +kernel
theorem dL_law_737 : decode cL_law 737 = .ok (.iconst 1, 1) := by decide +kernel
theorem dL_law_738 : decode cL_law 738 = .ok (.goto 4, 3) := by decide +kernel
theorem dL_law_741 : decode cL_law 741 = .ok (.iconst 0, 1) := by decide +kernel
theorem dL_law_742 : decode cL_law 742 = .ok (.if_icmp .ne 19, 3) := by decide +kernel
theorem dL_law_745 : decode cL_law 745 = .ok (.iload 12, 2) := by decide +kernel
theorem dL_law_747 : decode cL_law 747 = .ok (.ifCond .lt 16, 3) := by decide +kernel
theorem dL_law_750 : decode cL_law 750 = .ok (.aload_n 1, 1) := by decide +kernel
theorem dL_law_751 : decode cL_law 751 = .ok (.iload 12, 2) := by decide +kernel
theorem dL_law_753 : decode cL_law 753 = .ok (.invokevirtual 125, 3) := by decide +kernel
theorem dL_law_756 : decode cL_law 756 = .ok (.iload 9, 2) := by decide +kernel
theorem dL_law_758 : decode cL_law 758 = .ok (.if_icmp .eq 5, 3) := by decide +kernel
theorem dL_law_761 : decode cL_law 761 = .ok (.iconst 0, 1) := by decide +kernel
theorem dL_law_762 : decode cL_law 762 = .ok (.ireturn, 1) := by decide +kernel
theorem dL_law_763 : decode cL_law 763 = .ok (.aload_n 1, 1) := by decide +kernel
theorem dL_law_764 : decode cL_law 764 = .ok (.invokevirtual 152, 3) := by decide +kernel
theorem dL_law_767 : decode cL_law 767 = .ok (.istore 13, 2) := by decide +kernel
theorem dL_law_769 : decode cL_law 769 = .ok (.iload 13, 2) := by decide +kernel
theorem dL_law_771 : decode cL_law 771 = .ok (.ifCond .ge 7, 3) := by decide +kernel
theorem dL_law_774 : decode cL_law 774 = .ok (.iconst 1, 1) := by decide +kernel
theorem dL_law_775 : decode cL_law 775 = .ok (.goto 4, 3) := by decide +kernel
theorem dL_law_778 : decode cL_law 778 = .ok (.iconst 0, 1) := by decide +kernel
theorem dL_law_779 : decode cL_law 779 = .ok (.iload 8, 2) := by decide +kernel
theorem dL_law_781 : decode cL_law 781 = .ok (.ifCond .ne 7, 3) := by decide +kernel
theorem dL_law_784 : decode cL_law 784 = .ok (.iconst 1, 1) := by decide +kernel
theorem dL_law_785 : decode cL_law 785 = .ok (.goto 4, 3) := by decide +kernel
theorem dL_law_788 : decode cL_law 788 = .ok (.iconst 0, 1) := by decide +kernel
theorem dL_law_789 : decode cL_law 789 = .ok (.if_icmp .ne 27, 3) := by decide +kernel
theorem dL_law_792 : decode cL_law 792 = .ok (.iload 13, 2) := by decide +kernel
theorem dL_law_794 : decode cL_law 794 = .ok (.ifCond .lt 12, 3) := by decide +kernel
theorem dL_law_797 : decode cL_law 797 = .ok (.aload_n 1, 1) := by decide +kernel
theorem dL_law_798 : decode cL_law 798 = .ok (.iload 13, 2) := by decide +kernel
theorem dL_law_800 : decode cL_law 800 = .ok (.invokevirtual 99, 3) := by decide +kernel
theorem dL_law_803 : decode cL_law 803 = .ok (.ifCond .eq 13, 3) := by decide +kernel
theorem dL_law_806 : decode cL_law 806 = .ok (.aload_n 1, 1) := by decide +kernel
theorem dL_law_807 : decode cL_law 807 = .ok (.invokevirtual 93, 3) := by decide +kernel
theorem dL_law_810 : decode cL_law 810 = .ok (.lload 5, 2) := by decide +kernel
theorem dL_law_812 : decode cL_law 812 = .ok (.lcmp, 1) := by decide +kernel
theorem dL_law_813 : decode cL_law 813 = .ok (.ifCond .eq 5, 3) := by decide +kernel
theorem dL_law_816 : decode cL_law 816 = .ok (.iconst 0, 1) := by decide +kernel
theorem dL_law_817 : decode cL_law 817 = .ok (.ireturn, 1) := by decide +kernel
theorem dL_law_818 : decode cL_law 818 = .ok (.iload 4, 2) := by decide +kernel
theorem dL_law_820 : decode cL_law 820 = .ok (.iconst 4, 1) := by decide +kernel
theorem dL_law_821 : decode cL_law 821 = .ok (.ishr, 1) := by decide +kernel
theorem dL_law_822 : decode cL_law 822 = .ok (.iload 7, 2) := by decide +kernel
theorem dL_law_824 : decode cL_law 824 = .ok (.invokestatic 15, 3) := by decide +kernel
theorem dL_law_827 : decode cL_law 827 = .ok (.istore 14, 2) := by decide +kernel
theorem dL_law_829 : decode cL_law 829 = .ok (.aload_n 1, 1) := by decide +kernel
theorem dL_law_830 : decode cL_law 830 = .ok (.iload 14, 2) := by decide +kernel
theorem dL_law_832 : decode cL_law 832 = .ok (.invokevirtual 99, 3) := by decide +kernel
theorem dL_law_835 : decode cL_law 835 = .ok (.ifCond .eq 272, 3) := by decide +kernel
theorem dL_law_838 : decode cL_law 838 = .ok (.iload 4, 2) := by decide +kernel
theorem dL_law_840 : decode cL_law 840 = .ok (.bipush 6, 2) := by decide +kernel
theorem dL_law_842 : decode cL_law 842 = .ok (.ishr, 1) := by decide +kernel
theorem dL_law_843 : decode cL_law 843 = .ok (.iconst 3, 1) := by decide +kernel
theorem dL_law_844 : decode cL_law 844 = .ok (.invokestatic 15, 3) := by decide +kernel
theorem dL_law_847 : decode cL_law 847 = .ok (.ifCond .ne 260, 3) := by decide +kernel
theorem dL_law_850 : decode cL_law 850 = .ok (.aload_n 1, 1) := by decide +kernel
theorem dL_law_851 : decode cL_law 851 = .ok (.iload 14, 2) := by decide +kernel
theorem dL_law_853 : decode cL_law 853 = .ok (.invokevirtual 155, 3) := by decide +kernel
theorem dL_law_856 : decode cL_law 856 = .ok (.istore 15, 2) := by decide +kernel
theorem dL_law_858 : decode cL_law 858 = .ok (.iload 7, 2) := by decide +kernel
theorem dL_law_860 : decode cL_law 860 = .ok (.newarray .int, 2) := by decide +kernel
theorem dL_law_862 : decode cL_law 862 = .ok (.astore 16, 2) := by decide +kernel
theorem dL_law_864 : decode cL_law 864 = .ok (.iload 7, 2) := by decide +kernel
theorem dL_law_866 : decode cL_law 866 = .ok (.newarray .int, 2) := by decide +kernel
theorem dL_law_868 : decode cL_law 868 = .ok (.astore 17, 2) := by decide +kernel
theorem dL_law_870 : decode cL_law 870 = .ok (.iconst 0, 1) := by decide +kernel
theorem dL_law_871 : decode cL_law 871 = .ok (.istore 18, 2) := by decide +kernel
theorem dL_law_873 : decode cL_law 873 = .ok (.iload 18, 2) := by decide +kernel
theorem dL_law_875 : decode cL_law 875 = .ok (.iload 7, 2) := by decide +kernel
theorem dL_law_877 : decode cL_law 877 = .ok (.if_icmp .ge 96, 3) := by decide +kernel
theorem dL_law_880 : decode cL_law 880 = .ok (.aload 16, 2) := by decide +kernel
theorem dL_law_882 : decode cL_law 882 = .ok (.iload 18, 2) := by decide +kernel
theorem dL_law_884 : decode cL_law 884 = .ok (.iload 18, 2) := by decide +kernel
theorem dL_law_886 : decode cL_law 886 = .ok (.iload 14, 2) := by decide +kernel
theorem dL_law_888 : decode cL_law 888 = .ok (.if_icmp .eq 12, 3) := by decide +kernel
theorem dL_law_891 : decode cL_law 891 = .ok (.aload_n 1, 1) := by decide +kernel
theorem dL_law_892 : decode cL_law 892 = .ok (.iload 18, 2) := by decide +kernel
theorem dL_law_894 : decode cL_law 894 = .ok (.invokevirtual 99, 3) := by decide +kernel
theorem dL_law_897 : decode cL_law 897 = .ok (.ifCond .ne 7, 3) := by decide +kernel
theorem dL_law_900 : decode cL_law 900 = .ok (.iconst 0, 1) := by decide +kernel
theorem dL_law_901 : decode cL_law 901 = .ok (.goto 11, 3) := by decide +kernel
theorem dL_law_904 : decode cL_law 904 = .ok (.aload_n 1, 1) := by decide +kernel
theorem dL_law_905 : decode cL_law 905 = .ok (.iload 18, 2) := by decide +kernel
theorem dL_law_907 : decode cL_law 907 = .ok (.iload 14, 2) := by decide +kernel
theorem dL_law_909 : decode cL_law 909 = .ok (.invokevirtual 158, 3) := by decide +kernel
theorem dL_law_912 : decode cL_law 912 = .ok (.iastore, 1) := by decide +kernel
theorem dL_law_913 : decode cL_law 913 = .ok (.aload 17, 2) := by decide +kernel
theorem dL_law_915 : decode cL_law 915 = .ok (.iload 18, 2) := by decide +kernel
theorem dL_law_917 : decode cL_law 917 = .ok (.iload 18, 2) := by decide +kernel
theorem dL_law_919 : decode cL_law 919 = .ok (.iload 14, 2) := by decide +kernel
theorem dL_law_921 : decode cL_law 921 = .ok (.if_icmp .ne 7, 3) := by decide +kernel
theorem dL_law_924 : decode cL_law 924 = .ok (.iconst 0, 1) := by decide +kernel
theorem dL_law_925 : decode cL_law 925 = .ok (.goto 9, 3) := by decide +kernel
theorem dL_law_928 : decode cL_law 928 = .ok (.aload_n 1, 1) := by decide +kernel
theorem dL_law_929 : decode cL_law 929 = .ok (.iload 18, 2) := by decide +kernel
theorem dL_law_931 : decode cL_law 931 = .ok (.invokevirtual 128, 3) := by decide +kernel
theorem dL_law_934 : decode cL_law 934 = .ok (.iastore, 1) := by decide +kernel
theorem dL_law_935 : decode cL_law 935 = .ok (.aload_n 1, 1) := by decide +kernel
theorem dL_law_936 : decode cL_law 936 = .ok (.iload 18, 2) := by decide +kernel
theorem dL_law_938 : decode cL_law 938 = .ok (.invokevirtual 99, 3) := by decide +kernel
theorem dL_law_941 : decode cL_law 941 = .ok (.ifCond .eq 26, 3) := by decide +kernel
theorem dL_law_944 : decode cL_law 944 = .ok (.iload 18, 2) := by decide +kernel
theorem dL_law_946 : decode cL_law 946 = .ok (.iload 14, 2) := by decide +kernel
theorem dL_law_948 : decode cL_law 948 = .ok (.if_icmp .eq 19, 3) := by decide +kernel
theorem dL_law_951 : decode cL_law 951 = .ok (.aload 16, 2) := by decide +kernel
theorem dL_law_953 : decode cL_law 953 = .ok (.iload 18, 2) := by decide +kernel
theorem dL_law_955 : decode cL_law 955 = .ok (.iaload, 1) := by decide +kernel
theorem dL_law_956 : decode cL_law 956 = .ok (.aload_n 1, 1) := by decide +kernel
theorem dL_law_957 : decode cL_law 957 = .ok (.iload 18, 2) := by decide +kernel
theorem dL_law_959 : decode cL_law 959 = .ok (.invokevirtual 131, 3) := by decide +kernel
theorem dL_law_962 : decode cL_law 962 = .ok (.if_icmp .ge 5, 3) := by decide +kernel
theorem dL_law_965 : decode cL_law 965 = .ok (.iconst 0, 1) := by decide +kernel
theorem dL_law_966 : decode cL_law 966 = .ok (.ireturn, 1) := by decide +kernel
theorem dL_law_967 : decode cL_law 967 = .ok (.iinc 18 1, 3) := by decide +kernel
theorem dL_law_970 : decode cL_law 970 = .ok (.goto (-97), 3) := by decide +kernel
theorem dL_law_973 : decode cL_law 973 = .ok (.aload_n 1, 1) := by decide +kernel
theorem dL_law_974 : decode cL_law 974 = .ok (.invokevirtual 93, 3) := by decide +kernel
theorem dL_law_977 : decode cL_law 977 = .ok (.lload 5, 2) := by decide +kernel
theorem dL_law_979 : decode cL_law 979 = .ok (.lcmp, 1) := by decide +kernel
theorem dL_law_980 : decode cL_law 980 = .ok (.ifCond .ne 25, 3) := by decide +kernel
theorem dL_law_983 : decode cL_law 983 = .ok (.aload_n 1, 1) := by decide +kernel
theorem dL_law_984 : decode cL_law 984 = .ok (.iload 14, 2) := by decide +kernel
theorem dL_law_986 : decode cL_law 986 = .ok (.invokevirtual 65, 3) := by decide +kernel
theorem dL_law_989 : decode cL_law 989 = .ok (.iload 15, 2) := by decide +kernel
theorem dL_law_991 : decode cL_law 991 = .ok (.if_icmp .ne 14, 3) := by decide +kernel
theorem dL_law_994 : decode cL_law 994 = .ok (.aload_n 2, 1) := by decide +kernel
theorem dL_law_995 : decode cL_law 995 = .ok (.iload 14, 2) := by decide +kernel
theorem dL_law_997 : decode cL_law 997 = .ok (.invokevirtual 62, 3) := by decide +kernel
theorem dL_law_1000 : decode cL_law 1000 = .ok (.iload 15, 2) := by decide +kernel
theorem dL_law_1002 : decode cL_law 1002 = .ok (.if_icmp .eq 5, 3) := by decide +kernel
theorem dL_law_1005 : decode cL_law 1005 = .ok (.iconst 0, 1) := by decide +kernel
theorem dL_law_1006 : decode cL_law 1006 = .ok (.ireturn, 1) := by decide +kernel
theorem dL_law_1007 : decode cL_law 1007 = .ok (.iconst 0, 1) := by decide +kernel
theorem dL_law_1008 : decode cL_law 1008 = .ok (.istore 18, 2) := by decide +kernel
theorem dL_law_1010 : decode cL_law 1010 = .ok (.iconst 0, 1) := by decide +kernel
theorem dL_law_1011 : decode cL_law 1011 = .ok (.istore 19, 2) := by decide +kernel
theorem dL_law_1013 : decode cL_law 1013 = .ok (.iload 19, 2) := by decide +kernel
theorem dL_law_1015 : decode cL_law 1015 = .ok (.iload 7, 2) := by decide +kernel
theorem dL_law_1017 : decode cL_law 1017 = .ok (.if_icmp .ge 72, 3) := by decide +kernel
theorem dL_law_1020 : decode cL_law 1020 = .ok (.aload_n 1, 1) := by decide +kernel
theorem dL_law_1021 : decode cL_law 1021 = .ok (.iload 19, 2) := by decide +kernel
theorem dL_law_1023 : decode cL_law 1023 = .ok (.invokevirtual 131, 3) := by decide +kernel
theorem dL_law_1026 : decode cL_law 1026 = .ok (.aload 16, 2) := by decide +kernel
theorem dL_law_1028 : decode cL_law 1028 = .ok (.iload 19, 2) := by decide +kernel
theorem dL_law_1030 : decode cL_law 1030 = .ok (.iaload, 1) := by decide +kernel
theorem dL_law_1031 : decode cL_law 1031 = .ok (.if_icmp .ne 33, 3) := by decide +kernel
theorem dL_law_1034 : decode cL_law 1034 = .ok (.aload_n 1, 1) := by decide +kernel
theorem dL_law_1035 : decode cL_law 1035 = .ok (.iload 19, 2) := by decide +kernel
theorem dL_law_1037 : decode cL_law 1037 = .ok (.invokevirtual 128, 3) := by decide +kernel
theorem dL_law_1040 : decode cL_law 1040 = .ok (.aload 17, 2) := by decide +kernel
theorem dL_law_1042 : decode cL_law 1042 = .ok (.iload 19, 2) := by decide +kernel
theorem dL_law_1044 : decode cL_law 1044 = .ok (.iaload, 1) := by decide +kernel
theorem dL_law_1045 : decode cL_law 1045 = .ok (.if_icmp .lt 19, 3) := by decide +kernel
theorem dL_law_1048 : decode cL_law 1048 = .ok (.aload_n 1, 1) := by decide +kernel
theorem dL_law_1049 : decode cL_law 1049 = .ok (.iload 19, 2) := by decide +kernel
theorem dL_law_1051 : decode cL_law 1051 = .ok (.invokevirtual 128, 3) := by decide +kernel
theorem dL_law_1054 : decode cL_law 1054 = .ok (.aload 17, 2) := by decide +kernel
theorem dL_law_1056 : decode cL_law 1056 = .ok (.iload 19, 2) := by decide +kernel
theorem dL_law_1058 : decode cL_law 1058 = .ok (.iaload, 1) := by decide +kernel
theorem dL_law_1059 : decode cL_law 1059 = .ok (.iconst 1, 1) := by decide +kernel
theorem dL_law_1060 : decode cL_law 1060 = .ok (.iadd, 1) := by decide +kernel
theorem dL_law_1061 : decode cL_law 1061 = .ok (.if_icmp .le 5, 3) := by decide +kernel
theorem dL_law_1064 : decode cL_law 1064 = .ok (.iconst 0, 1) := by decide +kernel
theorem dL_law_1065 : decode cL_law 1065 = .ok (.ireturn, 1) := by decide +kernel
theorem dL_law_1066 : decode cL_law 1066 = .ok (.iload 18, 2) := by decide +kernel
theorem dL_law_1068 : decode cL_law 1068 = .ok (.aload_n 1, 1) := by decide +kernel
theorem dL_law_1069 : decode cL_law 1069 = .ok (.iload 19, 2) := by decide +kernel
theorem dL_law_1071 : decode cL_law 1071 = .ok (.invokevirtual 128, 3) := by decide +kernel
theorem dL_law_1074 : decode cL_law 1074 = .ok (.aload 17, 2) := by decide +kernel
theorem dL_law_1076 : decode cL_law 1076 = .ok (.iload 19, 2) := by decide +kernel
theorem dL_law_1078 : decode cL_law 1078 = .ok (.iaload, 1) := by decide +kernel
theorem dL_law_1079 : decode cL_law 1079 = .ok (.isub, 1) := by decide +kernel
theorem dL_law_1080 : decode cL_law 1080 = .ok (.iadd, 1) := by decide +kernel
theorem dL_law_1081 : decode cL_law 1081 = .ok (.istore 18, 2) := by decide +kernel
theorem dL_law_1083 : decode cL_law 1083 = .ok (.iinc 19 1, 3) := by decide +kernel
theorem dL_law_1086 : decode cL_law 1086 = .ok (.goto (-73), 3) := by decide +kernel
theorem dL_law_1089 : decode cL_law 1089 = .ok (.iload 18, 2) := by decide +kernel
theorem dL_law_1091 : decode cL_law 1091 = .ok (.iload 15, 2) := by decide +kernel
theorem dL_law_1093 : decode cL_law 1093 = .ok (.if_icmp .ne 12, 3) := by decide +kernel
theorem dL_law_1096 : decode cL_law 1096 = .ok (.aload_n 1, 1) := by decide +kernel
theorem dL_law_1097 : decode cL_law 1097 = .ok (.iload 14, 2) := by decide +kernel
theorem dL_law_1099 : decode cL_law 1099 = .ok (.invokevirtual 99, 3) := by decide +kernel
theorem dL_law_1102 : decode cL_law 1102 = .ok (.ifCond .eq 5, 3) := by decide +kernel
theorem dL_law_1105 : decode cL_law 1105 = .ok (.iconst 0, 1) := by decide +kernel
theorem dL_law_1106 : decode cL_law 1106 = .ok (.ireturn, 1) := by decide +kernel
theorem dL_law_1107 : decode cL_law 1107 = .ok (.iconst 1, 1) := by decide +kernel
theorem dL_law_1108 : decode cL_law 1108 = .ok (.iload 4, 2) := by decide +kernel
theorem dL_law_1110 : decode cL_law 1110 = .ok (.iconst 5, 1) := by decide +kernel
theorem dL_law_1111 : decode cL_law 1111 = .ok (.ishr, 1) := by decide +kernel
theorem dL_law_1112 : decode cL_law 1112 = .ok (.bipush 9, 2) := by decide +kernel
theorem dL_law_1114 : decode cL_law 1114 = .ok (.invokestatic 15, 3) := by decide +kernel
theorem dL_law_1117 : decode cL_law 1117 = .ok (.iadd, 1) := by decide +kernel
theorem dL_law_1118 : decode cL_law 1118 = .ok (.istore 15, 2) := by decide +kernel
theorem dL_law_1120 : decode cL_law 1120 = .ok (.aload_n 1, 1) := by decide +kernel
theorem dL_law_1121 : decode cL_law 1121 = .ok (.invokevirtual 161, 3) := by decide +kernel
theorem dL_law_1124 : decode cL_law 1124 = .ok (.istore 16, 2) := by decide +kernel
theorem dL_law_1126 : decode cL_law 1126 = .ok (.iconst 0, 1) := by decide +kernel
theorem dL_law_1127 : decode cL_law 1127 = .ok (.istore 17, 2) := by decide +kernel
theorem dL_law_1129 : decode cL_law 1129 = .ok (.iload 17, 2) := by decide +kernel
theorem dL_law_1131 : decode cL_law 1131 = .ok (.iload 15, 2) := by decide +kernel
theorem dL_law_1133 : decode cL_law 1133 = .ok (.if_icmp .ge 79, 3) := by decide +kernel
theorem dL_law_1136 : decode cL_law 1136 = .ok (.iconst 1, 1) := by decide +kernel
theorem dL_law_1137 : decode cL_law 1137 = .ok (.istore 18, 2) := by decide +kernel
theorem dL_law_1139 : decode cL_law 1139 = .ok (.iload 18, 2) := by decide +kernel
theorem dL_law_1141 : decode cL_law 1141 = .ok (.bipush 6, 2) := by decide +kernel
theorem dL_law_1143 : decode cL_law 1143 = .ok (.if_icmp .ge 20, 3) := by decide +kernel
theorem dL_law_1146 : decode cL_law 1146 = .ok (.iload 16, 2) := by decide +kernel
theorem dL_law_1148 : decode cL_law 1148 = .ok (.aload_n 1, 1) := by decide +kernel
theorem dL_law_1149 : decode cL_law 1149 = .ok (.iload 18, 2) := by decide +kernel
theorem dL_law_1151 : decode cL_law 1151 = .ok (.invokevirtual 140, 3) := by decide +kernel
theorem dL_law_1154 : decode cL_law 1154 = .ok (.iadd, 1) := by decide +kernel
theorem dL_law_1155 : decode cL_law 1155 = .ok (.istore 16, 2) := by decide +kernel
theorem dL_law_1157 : decode cL_law 1157 = .ok (.iinc 18 1, 3) := by decide +kernel
theorem dL_law_1160 : decode cL_law 1160 = .ok (.goto (-21), 3) := by decide +kernel
theorem dL_law_1163 : decode cL_law 1163 = .ok (.aload_n 1, 1) := by decide +kernel
theorem dL_law_1164 : decode cL_law 1164 = .ok (.iconst 1, 1) := by decide +kernel
theorem dL_law_1165 : decode cL_law 1165 = .ok (.invokevirtual 75, 3) := by decide +kernel
theorem dL_law_1168 : decode cL_law 1168 = .ok (.istore 18, 2) := by decide +kernel
theorem dL_law_1170 : decode cL_law 1170 = .ok (.aload_n 2, 1) := by decide +kernel
theorem dL_law_1171 : decode cL_law 1171 = .ok (.iconst 1, 1) := by decide +kernel
theorem dL_law_1172 : decode cL_law 1172 = .ok (.invokevirtual 78, 3) := by decide +kernel
theorem dL_law_1175 : decode cL_law 1175 = .ok (.iload 18, 2) := by decide +kernel
theorem dL_law_1177 : decode cL_law 1177 = .ok (.if_icmp .ne 27, 3) := by decide +kernel
theorem dL_law_1180 : decode cL_law 1180 = .ok (.iload 18, 2) := by decide +kernel
theorem dL_law_1182 : decode cL_law 1182 = .ok (.aload_n 1, 1) := by decide +kernel
theorem dL_law_1183 : decode cL_law 1183 = .ok (.invokevirtual 149, 3) := by decide +kernel
theorem dL_law_1186 : decode cL_law 1186 = .ok (.aload_n 1, 1) := by decide +kernel
theorem dL_law_1187 : decode cL_law 1187 = .ok (.iconst 0, 1) := by decide +kernel
theorem dL_law_1188 : decode cL_law 1188 = .ok (.invokevirtual 140, 3) := by decide +kernel
theorem dL_law_1191 : decode cL_law 1191 = .ok (.isub, 1) := by decide +kernel
theorem dL_law_1192 : decode cL_law 1192 = .ok (.if_icmp .ne 12, 3) := by decide +kernel
theorem dL_law_1195 : decode cL_law 1195 = .ok (.aload_n 1, 1) := by decide +kernel
theorem dL_law_1196 : decode cL_law 1196 = .ok (.invokevirtual 161, 3) := by decide +kernel
theorem dL_law_1199 : decode cL_law 1199 = .ok (.iload 16, 2) := by decide +kernel
theorem dL_law_1201 : decode cL_law 1201 = .ok (.if_icmp .eq 5, 3) := by decide +kernel
theorem dL_law_1204 : decode cL_law 1204 = .ok (.iconst 0, 1) := by decide +kernel
theorem dL_law_1205 : decode cL_law 1205 = .ok (.ireturn, 1) := by decide +kernel
theorem dL_law_1206 : decode cL_law 1206 = .ok (.iinc 17 1, 3) := by decide +kernel
theorem dL_law_1209 : decode cL_law 1209 = .ok (.goto (-80), 3) := by decide +kernel
theorem dL_law_1212 : decode cL_law 1212 = .ok (.iinc 3 1, 3) := by decide +kernel
theorem dL_law_1215 : decode cL_law 1215 = .ok (.goto (-1193), 3) := by decide +kernel
theorem dL_law_1218 : decode cL_law 1218 = .ok (.aload_n 2, 1) := by decide +kernel
theorem dL_law_1219 : decode cL_law 1219 = .ok (.aload_n 1, 1) := by decide +kernel
theorem dL_law_1220 : decode cL_law 1220 = .ok (.invokevirtual 164, 3) := by decide +kernel
theorem dL_law_1223 : decode cL_law 1223 = .ok (.ireturn, 1) := by decide +kernel
abbrev vwCl : List vw_C := [(RX0, TX0, 2), (RX1, TX1, 5), (RX2, TX2, 9), (RX3, TX3, 5)]
end
section
/-! whole numbers under the machine's 32-bit ones -/
def zI (z : Int) : Int32 := Int32.ofInt z
def ar (f : Int → Int) : Nat → Int32 := fun j => zI (f (j : Int))
def up (f : Int → Int) (k v : Int) : Int → Int := fun j => if j = k then v else f j
theorem up_s (f : Int → Int) (k v : Int) : up f k v k = v := by simp [up]
theorem up_n (f : Int → Int) {k v j : Int} (h : j ≠ k) : up f k v j = f j := by simp [up, h]
theorem zI_add (a b : Int) : zI a + zI b = zI (a + b) := (Int32.ofInt_add a b).symm
theorem zI_sub (a b : Int) : zI a - zI b = zI (a - b) := (Int32.ofInt_sub a b).symm
theorem zI_mul (a b : Int) : zI a * zI b = zI (a * b) := (Int32.ofInt_mul a b).symm
theorem zI_toInt {a : Int} (h : -2147483648 ≤ a ∧ a ≤ 2147483647) : (zI a).toInt = a := Int32.toInt_ofInt_of_le (by omega) (by omega)
theorem zI_le {a b : Int} (ha : -2147483648 ≤ a ∧ a ≤ 2147483647) (hb : -2147483648 ≤ b ∧ b ≤ 2147483647) : zI a ≤ zI b ↔ a ≤ b := by
  rw [Int32.le_iff_toInt_le, zI_toInt ha, zI_toInt hb]
theorem zI_lt {a b : Int} (ha : -2147483648 ≤ a ∧ a ≤ 2147483647) (hb : -2147483648 ≤ b ∧ b ≤ 2147483647) : zI a < zI b ↔ a < b := by
  rw [Int32.lt_iff_toInt_lt, zI_toInt ha, zI_toInt hb]
theorem zI_eq {a b : Int} (ha : -2147483648 ≤ a ∧ a ≤ 2147483647) (hb : -2147483648 ≤ b ∧ b ≤ 2147483647) : zI a = zI b ↔ a = b := by
  rw [← Int32.toInt_inj, zI_toInt ha, zI_toInt hb]
theorem zI_of (x : Int32) : x = zI x.toInt := (Int32.ofInt_toInt x).symm
theorem zI_rg (x : Int32) : -2147483648 ≤ x.toInt ∧ x.toInt ≤ 2147483647 := by
  have h1 := Int32.toInt_lt x
  have h2 := Int32.le_toInt x
  omega
theorem zI_0 : zI 0 = 0 := rfl
theorem zI_cl {a : Int} (h0 : 0 ≤ a) (h1 : a ≤ 2147483647) : (zI a).toNatClampNeg = a.toNat := Int32.toNatClampNeg_ofInt_of_le (by omega) (by omega)
theorem zI_in {a : Int} {n : Nat} (h0 : 0 ≤ a) (h1 : a < (n : Int)) (hn : n ≤ 65536) : vp_in (zI a) n := by
  rw [vp_in_iff, zI_toInt (by omega)]
  exact ⟨h0, h1⟩
theorem z_mmax {x y : Int} (h1 : -2147483648 ≤ x ∧ x ≤ 2147483647) (h2 : -2147483648 ≤ y ∧ y ≤ 2147483647) : (if zI x < zI y then zI y else zI x) = zI (max x y) := by
  by_cases h : x < y
  · rw [if_pos ((zI_lt h1 h2).mpr h), Int.max_eq_right (by omega)]
  · rw [if_neg (fun h' => h ((zI_lt h1 h2).mp h')), Int.max_eq_left (by omega)]
theorem z_mmin {x y : Int} (h1 : -2147483648 ≤ x ∧ x ≤ 2147483647) (h2 : -2147483648 ≤ y ∧ y ≤ 2147483647) : (if zI y < zI x then zI y else zI x) = zI (min x y) := by
  by_cases h : y < x
  · rw [if_pos ((zI_lt h2 h1).mpr h), Int.min_eq_right (by omega)]
  · rw [if_neg (fun h' => h ((zI_lt h2 h1).mp h')), Int.min_eq_left (by omega)]
theorem ar_at {f : Int → Int} {a : Int} (h0 : 0 ≤ a) (h1 : a ≤ 65536) : ar f (zI a).toNatClampNeg = zI (f a) := by
  rw [zI_cl h0 (by omega)]
  show zI (f (a.toNat : Int)) = _
  rw [Int.toNat_of_nonneg h0]
theorem ar_up {f : Int → Int} {a v : Int} (h0 : 0 ≤ a) (h1 : a ≤ 65536) : upd (ar f) (zI a).toNatClampNeg (zI v) = ar (up f a v) := by
  rw [zI_cl h0 (by omega)]
  funext j
  show (if j = a.toNat then zI v else zI (f j)) = zI (if (j : Int) = a then v else f j)
  by_cases h : j = a.toNat
  · rw [if_pos h, if_pos (by omega)]
  · rw [if_neg h, if_neg (by omega)]
/-- the addresses of a world are apart -/
theorem zD {A : Nat → Prop} {w : va_W} {L : List Nat} (hN : L.Nodup) (hw : w.map Prod.fst = L) (hA : ∀ a ∈ L, A a) : va_D A w := by
  subst hw
  refine ⟨fun i j p q hi hj hpq => ?_, fun k q hk => hA _ (List.mem_map.mpr ⟨q, List.mem_of_getElem? hk, rfl⟩)⟩
  have h1 : (w.map Prod.fst)[i]? = some p.1 := by rw [List.getElem?_map, hi]; rfl
  have h2 : (w.map Prod.fst)[j]? = some q.1 := by rw [List.getElem?_map, hj]; rfl
  have hi' : i < (w.map Prod.fst).length := (List.getElem?_eq_some_iff.mp h1).1
  exact (List.getElem?_inj hi' hN).mp (h1.trans (by rw [hpq]; exact h2.symm))
theorem zkeep {D : va_G} {w : va_W} {L : List Nat} {H H1 : Heap} (h : va_P D vwCl w H) (hk : ∀ q : Nat, q < H.size → q ∉ L → H1[q]? = H[q]?) (hL : ∀ a ∈ w.map Prod.fst, a ∉ L) : va_P D vwCl w H1 := fun k q hq =>
  (h k q hq).kept (hk q.1 (h k q hq).lt (hL q.1 (List.mem_map.mpr ⟨q, List.mem_of_getElem? hq, rfl⟩)))
section ZL
variable {p : Program} {l : Launch} {e : Env} {R : Room} {s : State} {m : MethodId} {args : Array Value} {below : List Frame} {meth : Method} {c : Code} {H : Heap} {locs : List Loc} {cells slots : Nat} {Q : State → Prop}
variable {pc : Nat} {ls : Array Slot} {rest : List Value} {cc : ByteArray}
theorem zr_iconst (hx : p.tables.exec = Jvm.exec) (hb : c.code = cc) {n : Int} (hdg : decode cc pc = .ok (.iconst n, 1)) (k : W p l e R s m args below meth c H locs cells slots Q (F0 m (pc + 1) ls (.int (zI n) :: rest))) : W p l e R s m args below meth c H locs cells slots Q (F0 m pc ls (rest)) := lv_iconst hx hb hdg rfl k
theorem zr_bipush (hx : p.tables.exec = Jvm.exec) (hb : c.code = cc) {n : Int} (hdg : decode cc pc = .ok (.bipush n, 2)) (hn : (Int8.ofInt n).toInt32 = zI n) (k : W p l e R s m args below meth c H locs cells slots Q (F0 m (pc + 2) ls (.int (zI n) :: rest))) : W p l e R s m args below meth c H locs cells slots Q (F0 m pc ls (rest)) := lv_bipush hx hb hdg hn k
theorem zr_sipush (hx : p.tables.exec = Jvm.exec) (hb : c.code = cc) {n : Int} (hdg : decode cc pc = .ok (.sipush n, 3)) (hn : (Int16.ofInt n).toInt32 = zI n) (k : W p l e R s m args below meth c H locs cells slots Q (F0 m (pc + 3) ls (.int (zI n) :: rest))) : W p l e R s m args below meth c H locs cells slots Q (F0 m pc ls (rest)) := lv_sipush hx hb hdg hn k
theorem zr_iadd (hx : p.tables.exec = Jvm.exec) (hb : c.code = cc) {x y v : Int} (hv : x + y = v) (hdg : decode cc pc = .ok (.iadd, 1)) (k : W p l e R s m args below meth c H locs cells slots Q (F0 m (pc + 1) ls (.int (zI v) :: rest))) : W p l e R s m args below meth c H locs cells slots Q (F0 m pc ls (.int (zI y) :: .int (zI x) :: rest)) := lv_iadd hx hb hdg (by rw [zI_add, hv]; exact k)
theorem zr_isub (hx : p.tables.exec = Jvm.exec) (hb : c.code = cc) {x y v : Int} (hv : x - y = v) (hdg : decode cc pc = .ok (.isub, 1)) (k : W p l e R s m args below meth c H locs cells slots Q (F0 m (pc + 1) ls (.int (zI v) :: rest))) : W p l e R s m args below meth c H locs cells slots Q (F0 m pc ls (.int (zI y) :: .int (zI x) :: rest)) := lv_isub hx hb hdg (by rw [zI_sub, hv]; exact k)
theorem zr_imul (hx : p.tables.exec = Jvm.exec) (hb : c.code = cc) {x y v : Int} (hv : x * y = v) (hdg : decode cc pc = .ok (.imul, 1)) (k : W p l e R s m args below meth c H locs cells slots Q (F0 m (pc + 1) ls (.int (zI v) :: rest))) : W p l e R s m args below meth c H locs cells slots Q (F0 m pc ls (.int (zI y) :: .int (zI x) :: rest)) := lv_imul hx hb hdg (by rw [zI_mul, hv]; exact k)
theorem zr_iinc (hx : p.tables.exec = Jvm.exec) (hb : c.code = cc) {i nL k : Nat} {n x v : Int} {lv lv' : List (Nat × Value)} (hdg : decode cc pc = .ok (.iinc i n, 3)) (h : lv_has ls nL lv) (hk : lv[k]? = some (i, .int (zI x))) (hv : x + n = v) (hn : i < nL) (hl : (i, Value.int (zI v)) :: lv.filter (fun q => !(q.1 == i) && !(q.1 + 1 == i && q.2.category == 2)) = lv') (kk : ∀ ls' : Array Slot, lv_has ls' nL lv' → W p l e R s m args below meth c H locs cells slots Q (F0 m (pc + 3) ls' rest)) : W p l e R s m args below meth c H locs cells slots Q (F0 m pc ls (rest)) := lv_iinc (v := zI v) hx hb hdg h hk (by rw [← hv]; exact zI_add x n) hn hl kk
theorem zr_icmp_eq (hx : p.tables.exec = Jvm.exec) (hb : c.code = cc) {x y : Int} {off : Int} {tgt : Nat} (hdg : decode cc pc = .ok (.if_icmp .eq off, 3)) (ht : (pc : Int) + off = (tgt : Int)) (h1 : -2147483648 ≤ x ∧ x ≤ 2147483647) (h2 : -2147483648 ≤ y ∧ y ≤ 2147483647) (kt : x = y → W p l e R s m args below meth c H locs cells slots Q (F0 m tgt ls rest)) (kf : x ≠ y → W p l e R s m args below meth c H locs cells slots Q (F0 m (pc + 3) ls rest)) : W p l e R s m args below meth c H locs cells slots Q (F0 m pc ls (.int (zI y) :: .int (zI x) :: rest)) := lv_icmp_eq hx hb hdg ht (fun h => kt ((zI_eq h1 h2).mp h)) (fun h => kf (fun h' => h ((zI_eq h1 h2).mpr h')))
theorem zr_if_eq (hx : p.tables.exec = Jvm.exec) (hb : c.code = cc) {x : Int} {off : Int} {tgt : Nat} (hdg : decode cc pc = .ok (.ifCond .eq off, 3)) (ht : (pc : Int) + off = (tgt : Int)) (h1 : -2147483648 ≤ x ∧ x ≤ 2147483647) (kt : x = 0 → W p l e R s m args below meth c H locs cells slots Q (F0 m tgt ls rest)) (kf : x ≠ 0 → W p l e R s m args below meth c H locs cells slots Q (F0 m (pc + 3) ls rest)) : W p l e R s m args below meth c H locs cells slots Q (F0 m pc ls (.int (zI x) :: rest)) := lv_if_eq hx hb hdg ht (fun h => kt ((zI_eq (a := x) (b := 0) h1 ⟨by decide, by decide⟩).mp h)) (fun h => kf (fun h' => h ((zI_eq (a := x) (b := 0) h1 ⟨by decide, by decide⟩).mpr h')))
theorem zr_icmp_ne (hx : p.tables.exec = Jvm.exec) (hb : c.code = cc) {x y : Int} {off : Int} {tgt : Nat} (hdg : decode cc pc = .ok (.if_icmp .ne off, 3)) (ht : (pc : Int) + off = (tgt : Int)) (h1 : -2147483648 ≤ x ∧ x ≤ 2147483647) (h2 : -2147483648 ≤ y ∧ y ≤ 2147483647) (kt : x ≠ y → W p l e R s m args below meth c H locs cells slots Q (F0 m tgt ls rest)) (kf : x = y → W p l e R s m args below meth c H locs cells slots Q (F0 m (pc + 3) ls rest)) : W p l e R s m args below meth c H locs cells slots Q (F0 m pc ls (.int (zI y) :: .int (zI x) :: rest)) := lv_icmp_ne hx hb hdg ht (fun h => kt (fun h' => h ((zI_eq h1 h2).mpr h'))) (fun h => kf ((zI_eq h1 h2).mp h))
theorem zr_if_ne (hx : p.tables.exec = Jvm.exec) (hb : c.code = cc) {x : Int} {off : Int} {tgt : Nat} (hdg : decode cc pc = .ok (.ifCond .ne off, 3)) (ht : (pc : Int) + off = (tgt : Int)) (h1 : -2147483648 ≤ x ∧ x ≤ 2147483647) (kt : x ≠ 0 → W p l e R s m args below meth c H locs cells slots Q (F0 m tgt ls rest)) (kf : x = 0 → W p l e R s m args below meth c H locs cells slots Q (F0 m (pc + 3) ls rest)) : W p l e R s m args below meth c H locs cells slots Q (F0 m pc ls (.int (zI x) :: rest)) := lv_if_ne hx hb hdg ht (fun h => kt (fun h' => h ((zI_eq (a := x) (b := 0) h1 ⟨by decide, by decide⟩).mpr h'))) (fun h => kf ((zI_eq (a := x) (b := 0) h1 ⟨by decide, by decide⟩).mp h))
theorem zr_icmp_lt (hx : p.tables.exec = Jvm.exec) (hb : c.code = cc) {x y : Int} {off : Int} {tgt : Nat} (hdg : decode cc pc = .ok (.if_icmp .lt off, 3)) (ht : (pc : Int) + off = (tgt : Int)) (h1 : -2147483648 ≤ x ∧ x ≤ 2147483647) (h2 : -2147483648 ≤ y ∧ y ≤ 2147483647) (kt : x < y → W p l e R s m args below meth c H locs cells slots Q (F0 m tgt ls rest)) (kf : y ≤ x → W p l e R s m args below meth c H locs cells slots Q (F0 m (pc + 3) ls rest)) : W p l e R s m args below meth c H locs cells slots Q (F0 m pc ls (.int (zI y) :: .int (zI x) :: rest)) := lv_icmp_lt hx hb hdg ht (fun h => kt ((zI_lt h1 h2).mp h)) (fun h => kf (by have h' := mt (zI_lt h1 h2).mpr h; omega))
theorem zr_if_lt (hx : p.tables.exec = Jvm.exec) (hb : c.code = cc) {x : Int} {off : Int} {tgt : Nat} (hdg : decode cc pc = .ok (.ifCond .lt off, 3)) (ht : (pc : Int) + off = (tgt : Int)) (h1 : -2147483648 ≤ x ∧ x ≤ 2147483647) (kt : x < 0 → W p l e R s m args below meth c H locs cells slots Q (F0 m tgt ls rest)) (kf : 0 ≤ x → W p l e R s m args below meth c H locs cells slots Q (F0 m (pc + 3) ls rest)) : W p l e R s m args below meth c H locs cells slots Q (F0 m pc ls (.int (zI x) :: rest)) := lv_if_lt hx hb hdg ht (fun h => kt ((zI_lt (a := x) (b := 0) h1 ⟨by decide, by decide⟩).mp h)) (fun h => kf (by have h' := mt (zI_lt (a := x) (b := 0) h1 ⟨by decide, by decide⟩).mpr h; omega))
theorem zr_icmp_ge (hx : p.tables.exec = Jvm.exec) (hb : c.code = cc) {x y : Int} {off : Int} {tgt : Nat} (hdg : decode cc pc = .ok (.if_icmp .ge off, 3)) (ht : (pc : Int) + off = (tgt : Int)) (h1 : -2147483648 ≤ x ∧ x ≤ 2147483647) (h2 : -2147483648 ≤ y ∧ y ≤ 2147483647) (kt : y ≤ x → W p l e R s m args below meth c H locs cells slots Q (F0 m tgt ls rest)) (kf : x < y → W p l e R s m args below meth c H locs cells slots Q (F0 m (pc + 3) ls rest)) : W p l e R s m args below meth c H locs cells slots Q (F0 m pc ls (.int (zI y) :: .int (zI x) :: rest)) := lv_icmp_ge hx hb hdg ht (fun h => kt ((zI_le h2 h1).mp h)) (fun h => kf (by have h' := mt (zI_le h2 h1).mpr h; omega))
theorem zr_if_ge (hx : p.tables.exec = Jvm.exec) (hb : c.code = cc) {x : Int} {off : Int} {tgt : Nat} (hdg : decode cc pc = .ok (.ifCond .ge off, 3)) (ht : (pc : Int) + off = (tgt : Int)) (h1 : -2147483648 ≤ x ∧ x ≤ 2147483647) (kt : 0 ≤ x → W p l e R s m args below meth c H locs cells slots Q (F0 m tgt ls rest)) (kf : x < 0 → W p l e R s m args below meth c H locs cells slots Q (F0 m (pc + 3) ls rest)) : W p l e R s m args below meth c H locs cells slots Q (F0 m pc ls (.int (zI x) :: rest)) := lv_if_ge hx hb hdg ht (fun h => kt ((zI_le (a := 0) (b := x) ⟨by decide, by decide⟩ h1).mp h)) (fun h => kf (by have h' := mt (zI_le (a := 0) (b := x) ⟨by decide, by decide⟩ h1).mpr h; omega))
theorem zr_icmp_gt (hx : p.tables.exec = Jvm.exec) (hb : c.code = cc) {x y : Int} {off : Int} {tgt : Nat} (hdg : decode cc pc = .ok (.if_icmp .gt off, 3)) (ht : (pc : Int) + off = (tgt : Int)) (h1 : -2147483648 ≤ x ∧ x ≤ 2147483647) (h2 : -2147483648 ≤ y ∧ y ≤ 2147483647) (kt : y < x → W p l e R s m args below meth c H locs cells slots Q (F0 m tgt ls rest)) (kf : x ≤ y → W p l e R s m args below meth c H locs cells slots Q (F0 m (pc + 3) ls rest)) : W p l e R s m args below meth c H locs cells slots Q (F0 m pc ls (.int (zI y) :: .int (zI x) :: rest)) := lv_icmp_gt hx hb hdg ht (fun h => kt ((zI_lt h2 h1).mp h)) (fun h => kf (by have h' := mt (zI_lt h2 h1).mpr h; omega))
theorem zr_if_gt (hx : p.tables.exec = Jvm.exec) (hb : c.code = cc) {x : Int} {off : Int} {tgt : Nat} (hdg : decode cc pc = .ok (.ifCond .gt off, 3)) (ht : (pc : Int) + off = (tgt : Int)) (h1 : -2147483648 ≤ x ∧ x ≤ 2147483647) (kt : 0 < x → W p l e R s m args below meth c H locs cells slots Q (F0 m tgt ls rest)) (kf : x ≤ 0 → W p l e R s m args below meth c H locs cells slots Q (F0 m (pc + 3) ls rest)) : W p l e R s m args below meth c H locs cells slots Q (F0 m pc ls (.int (zI x) :: rest)) := lv_if_gt hx hb hdg ht (fun h => kt ((zI_lt (a := 0) (b := x) ⟨by decide, by decide⟩ h1).mp h)) (fun h => kf (by have h' := mt (zI_lt (a := 0) (b := x) ⟨by decide, by decide⟩ h1).mpr h; omega))
theorem zr_icmp_le (hx : p.tables.exec = Jvm.exec) (hb : c.code = cc) {x y : Int} {off : Int} {tgt : Nat} (hdg : decode cc pc = .ok (.if_icmp .le off, 3)) (ht : (pc : Int) + off = (tgt : Int)) (h1 : -2147483648 ≤ x ∧ x ≤ 2147483647) (h2 : -2147483648 ≤ y ∧ y ≤ 2147483647) (kt : x ≤ y → W p l e R s m args below meth c H locs cells slots Q (F0 m tgt ls rest)) (kf : y < x → W p l e R s m args below meth c H locs cells slots Q (F0 m (pc + 3) ls rest)) : W p l e R s m args below meth c H locs cells slots Q (F0 m pc ls (.int (zI y) :: .int (zI x) :: rest)) := lv_icmp_le hx hb hdg ht (fun h => kt ((zI_le h1 h2).mp h)) (fun h => kf (by have h' := mt (zI_le h1 h2).mpr h; omega))
theorem zr_if_le (hx : p.tables.exec = Jvm.exec) (hb : c.code = cc) {x : Int} {off : Int} {tgt : Nat} (hdg : decode cc pc = .ok (.ifCond .le off, 3)) (ht : (pc : Int) + off = (tgt : Int)) (h1 : -2147483648 ≤ x ∧ x ≤ 2147483647) (kt : x ≤ 0 → W p l e R s m args below meth c H locs cells slots Q (F0 m tgt ls rest)) (kf : 0 < x → W p l e R s m args below meth c H locs cells slots Q (F0 m (pc + 3) ls rest)) : W p l e R s m args below meth c H locs cells slots Q (F0 m pc ls (.int (zI x) :: rest)) := lv_if_le hx hb hdg ht (fun h => kt ((zI_le (a := x) (b := 0) h1 ⟨by decide, by decide⟩).mp h)) (fun h => kf (by have h' := mt (zI_le (a := x) (b := 0) h1 ⟨by decide, by decide⟩).mpr h; omega))
variable {D : va_G} {tys : List (ClassId × FieldType)} {ws : va_W} {a : Nat} {A : Nat → Prop} {H0 : Heap} {cA : ClassId} {n : Nat} {f : Int → Int} {L : List Nat}
theorem zr_iald (hx : p.tables.exec = Jvm.exec) (hb : c.code = cc) (hK : va_K D vwCl tys s) (hP : va_P D vwCl ws H) (q0 t0 : Nat) (ha : ws[q0]? = some (a, .inl (cA, n, .inl (ar f)))) (ht : tys[t0]? = some (cA, .int)) (hn : n ≤ 65536) {i : Int} (h0 : 0 ≤ i) (h1 : i < (n : Int)) (hdg : decode cc pc = .ok (.iaload, 1)) (k : W p l e R s m args below meth c H locs cells slots Q (F0 m (pc + 1) ls (.int (zI (f i)) :: rest))) : W p l e R s m args below meth c H locs cells slots Q (F0 m pc ls (.int (zI i) :: .ref a :: rest)) := va_iald hx hb hK hP q0 t0 ha ht (zI_in h0 h1 hn) hdg (by rw [ar_at h0 (by omega)]; exact k)
theorem zr_zald (hx : p.tables.exec = Jvm.exec) (hb : c.code = cc) (hK : va_K D vwCl tys s) (hP : va_P D vwCl ws H) (q0 t0 : Nat) (ha : ws[q0]? = some (a, .inl (cA, n, .inl (ar f)))) (ht : tys[t0]? = some (cA, .boolean)) (hn : n ≤ 65536) {i : Int} (h0 : 0 ≤ i) (h1 : i < (n : Int)) (hdg : decode cc pc = .ok (.baload, 1)) (k : W p l e R s m args below meth c H locs cells slots Q (F0 m (pc + 1) ls (.int (zI (f i)) :: rest))) : W p l e R s m args below meth c H locs cells slots Q (F0 m pc ls (.int (zI i) :: .ref a :: rest)) := va_zald hx hb hK hP q0 t0 ha ht (zI_in h0 h1 hn) hdg (by rw [ar_at h0 (by omega)]; exact k)
theorem zr_iast (hx : p.tables.exec = Jvm.exec) (hb : c.code = cc) (hK : va_K D vwCl tys s) (hP : va_P D vwCl ws H) (hN : L.Nodup) (hw : ws.map Prod.fst = L) (hA : ∀ a ∈ L, A a) (hS : va_S A H0 H locs) (q0 t0 : Nat) (ha : ws[q0]? = some (a, .inl (cA, n, .inl (ar f)))) (ht : tys[t0]? = some (cA, .int)) (hn : n ≤ 65536) {i x : Int} (h0 : 0 ≤ i) (h1 : i < (n : Int)) (hdg : decode cc pc = .ok (.iastore, 1)) (kk : ∀ (H1 : Heap) (locs1 : List Loc), va_P D vwCl (ws.set q0 (a, .inl (cA, n, .inl (ar (up f i x))))) H1 → va_S A H0 H1 locs1 → W p l e R s m args below meth c H1 locs1 cells slots Q (F0 m (pc + 1) ls rest)) : W p l e R s m args below meth c H locs cells slots Q (F0 m pc ls (.int (zI x) :: .int (zI i) :: .ref a :: rest)) := va_iast hx hb hK hP (zD hN hw hA) hS q0 t0 ha ht (zI_in h0 h1 hn) hdg (fun H1 locs1 g1 _ g3 => kk H1 locs1 (by rw [ar_up h0 (by omega)] at g1; exact g1) g3)
theorem zr_zast (hx : p.tables.exec = Jvm.exec) (hb : c.code = cc) (hK : va_K D vwCl tys s) (hP : va_P D vwCl ws H) (hN : L.Nodup) (hw : ws.map Prod.fst = L) (hA : ∀ a ∈ L, A a) (hS : va_S A H0 H locs) (q0 t0 : Nat) (ha : ws[q0]? = some (a, .inl (cA, n, .inl (ar f)))) (ht : tys[t0]? = some (cA, .boolean)) (hn : n ≤ 65536) {i x : Int} (hb1 : vp_nar .boolean (zI x) = zI x) (h0 : 0 ≤ i) (h1 : i < (n : Int)) (hdg : decode cc pc = .ok (.bastore, 1)) (kk : ∀ (H1 : Heap) (locs1 : List Loc), va_P D vwCl (ws.set q0 (a, .inl (cA, n, .inl (ar (up f i x))))) H1 → va_S A H0 H1 locs1 → W p l e R s m args below meth c H1 locs1 cells slots Q (F0 m (pc + 1) ls rest)) : W p l e R s m args below meth c H locs cells slots Q (F0 m pc ls (.int (zI x) :: .int (zI i) :: .ref a :: rest)) := va_zast hx hb hK hP (zD hN hw hA) hS q0 t0 ha ht (zI_in h0 h1 hn) hdg (fun H1 locs1 g1 _ g3 => kk H1 locs1 (by rw [hb1, ar_up h0 (by omega)] at g1; exact g1) g3)
theorem zr_mmax (hx : p.tables.exec = Jvm.exec) (hb : c.code = cc) (hml : c.maxLocals = ls.size) {own : String} {index : Nat} (hown : s.vm.findClass own = some m.cls) (hlink : (Cond.methodLink own index Lib.Math.max.name).before args s = true) (hstat : (Cond.static Lib.Math.max.name).before args s = true) (hini : (Cond.initialized "java/lang/Math").before args s = true) (hcode : (Cond.code Lib.Math.max.name Lib.Math.max.code 2 (some .int)).before args s = true) (hframes : 1 ≤ R.frames) (hlocals : (rest.map fun v => v.category).sum + 13 ≤ R.locals) (hc : cells ≤ R.cells) (hs : slots ≤ R.slots) {x y : Int} (h1 : -2147483648 ≤ x ∧ x ≤ 2147483647) (h2 : -2147483648 ≤ y ∧ y ≤ 2147483647) (hdg : decode cc pc = .ok (.invokestatic index, 3)) (k : W p l e R s m args below meth c H locs cells slots Q (F0 m (pc + 3) ls (.int (zI (max x y)) :: rest))) : W p l e R s m args below meth c H locs cells slots Q (F0 m pc ls (.int (zI y) :: .int (zI x) :: rest)) := va_mmax hx hb hml hown hlink hstat hini hcode hframes hlocals hc hs hdg (by rw [z_mmax h1 h2]; exact k)
theorem zr_mmin (hx : p.tables.exec = Jvm.exec) (hb : c.code = cc) (hml : c.maxLocals = ls.size) {own : String} {index : Nat} (hown : s.vm.findClass own = some m.cls) (hlink : (Cond.methodLink own index Lib.Math.min.name).before args s = true) (hstat : (Cond.static Lib.Math.min.name).before args s = true) (hini : (Cond.initialized "java/lang/Math").before args s = true) (hcode : (Cond.code Lib.Math.min.name Lib.Math.min.code 2 (some .int)).before args s = true) (hframes : 1 ≤ R.frames) (hlocals : (rest.map fun v => v.category).sum + 13 ≤ R.locals) (hc : cells ≤ R.cells) (hs : slots ≤ R.slots) {x y : Int} (h1 : -2147483648 ≤ x ∧ x ≤ 2147483647) (h2 : -2147483648 ≤ y ∧ y ≤ 2147483647) (hdg : decode cc pc = .ok (.invokestatic index, 3)) (k : W p l e R s m args below meth c H locs cells slots Q (F0 m (pc + 3) ls (.int (zI (min x y)) :: rest))) : W p l e R s m args below meth c H locs cells slots Q (F0 m pc ls (.int (zI y) :: .int (zI x) :: rest)) := va_mmin hx hb hml hown hlink hstat hini hcode hframes hlocals hc hs hdg (by rw [z_mmin h1 h2]; exact k)
theorem zr_copyi (hx : p.tables.exec = Jvm.exec) (hb : c.code = cc) (hml : c.maxLocals = ls.size) {own : String} {index : Nat} (hown : s.vm.findClass own = some m.cls) (hlink : (Cond.methodLink own index arraycopyName).before args s = true) (hnat : (Cond.native arraycopyName).before args s = true) (hstat : (Cond.static arraycopyName).before args s = true) (hini : (Cond.initialized "java/lang/System").before args s = true)
    (hK : va_K D vwCl tys s) (hP : va_P D vwCl ws H) (hN : L.Nodup) (hw : ws.map Prod.fst = L) (hA : ∀ a ∈ L, A a) (hS : va_S A H0 H locs) (q0 t0 : Nat) (ha : ws[q0]? = some (a, .inl (cA, n, .inl (ar f)))) (ht : tys[t0]? = some (cA, .int)) (hn : n ≤ 65536)
    {sp dp k : Int} (h1 : 0 ≤ sp) (h2 : 0 ≤ dp) (h3 : 0 ≤ k) (h4 : sp + k ≤ (n : Int)) (h5 : dp + k ≤ (n : Int)) (hframes : 1 ≤ R.frames) (hlocals : (rest.map fun v => v.category).sum + (nativeFrameWords "java/lang/System" "arraycopy" 5 + 11) ≤ R.locals) (hdg : decode cc pc = .ok (.invokestatic index, 3))
    (kk : ∀ (H1 : Heap) (locs1 : List Loc), va_P D vwCl (ws.set q0 (a, .inl (cA, n, .inl (ar (fun j => if dp ≤ j ∧ j < dp + k then f (sp + (j - dp)) else f j))))) H1 → va_S A H0 H1 locs1 → W p l e R s m args below meth c H1 locs1 cells slots Q (F0 m (pc + 3) ls rest)) : W p l e R s m args below meth c H locs cells slots Q (F0 m pc ls (.int (zI k) :: .int (zI dp) :: .ref a :: .int (zI sp) :: .ref a :: rest)) := by
  have nl : ∀ z : Int, 0 ≤ z → z ≤ 65536 → ¬ zI z < 0 := fun z g1 g2 g3 => by
    have := (zI_lt (a := z) (b := 0) ⟨by omega, by omega⟩ ⟨by decide, by decide⟩).mp g3
    omega
  have e1 := zI_cl h1 (show sp ≤ 2147483647 by omega)
  have e2 := zI_cl h2 (show dp ≤ 2147483647 by omega)
  have e3 := zI_cl h3 (show k ≤ 2147483647 by omega)
  refine va_copyi hx hb hml hown hlink hnat hstat hini hK hP (zD hN hw hA) hS q0 q0 t0 t0 ha ha ht ht rfl (nl _ h1 (by omega)) (nl _ h2 (by omega)) (nl _ h3 (by omega)) (by rw [e1, e3]; omega) (by rw [e2, e3]; omega) (fun i hi => rfl) hframes hlocals hdg (fun H1 locs1 g1 _ g3 => kk H1 locs1 ?_ g3)
  have e : va_cpy (ar f) (ar f) (zI sp).toNatClampNeg (zI dp).toNatClampNeg (zI k).toNatClampNeg = ar (fun j => if dp ≤ j ∧ j < dp + k then f (sp + (j - dp)) else f j) := by
    rw [e1, e2, e3]
    funext j
    show (if dp.toNat ≤ j ∧ j < dp.toNat + k.toNat then zI (f ((sp.toNat + (j - dp.toNat) : Nat) : Int)) else zI (f (j : Int))) = zI (if dp ≤ (j : Int) ∧ (j : Int) < dp + k then f (sp + ((j : Int) - dp)) else f (j : Int))
    by_cases h : dp.toNat ≤ j ∧ j < dp.toNat + k.toNat
    · rw [if_pos h, if_pos (by omega), show ((sp.toNat + (j - dp.toNat) : Nat) : Int) = sp + ((j : Int) - dp) by omega]
    · rw [if_neg h, if_neg (by omega)]
  rw [e] at g1
  exact g1
end ZL
/-- a contract of a method that makes nothing: from the world w to the world w', the answer v; nothing outside L changes -/
def zM (l : Launch) (y : MethodName) (ws : List Cond) (rm : Room) (D : va_G) (tys : List (ClassId × FieldType)) (av : List Value) (w w' : va_W) (v : Option Value) (L : List Nat) : Prop :=
  Met l y ws rm (va_Pc av (fun U => va_P D vwCl w U.heap ∧ va_K D vwCl tys U)) (fun _ st o t => (o = .returned v ∧ va_P D vwCl w' t.heap) ∧ va_F (fun a => a ∈ L) st t) 0 0 (fun a => a ∈ L)
section ZC
variable {p : Program} {l : Launch} {e : Env} {R : Room} {s : State} {m : MethodId} {args : Array Value} {below : List Frame} {meth : Method} {c : Code} {H : Heap} {locs : List Loc} {cells slots : Nat} {Q : State → Prop}
variable {pc : Nat} {ls : Array Slot} {rest st0 As : List Value} {cc bytes : ByteArray} {D : va_G} {tys : List (ClassId × FieldType)} {w w' : va_W} {b : Nat} {A : Nat → Prop} {H0 : Heap} {L : List Nat} {v : Option Value}
variable {y : MethodName} {maxL nL index n : Nat} {ret : Option FieldType} {ws Ts : List Cond} {rm : Room} {own C : String}
theorem zblind {av : List Value} : FrameBlind (va_Pc av (fun U => va_P D vwCl w U.heap ∧ va_K D vwCl tys U)) := fun a U g mk q => by
  obtain ⟨q0, qP, qK⟩ := q
  exact ⟨q0, qP, va_K.moved (u := U) (U := U.calling g mk a) (Vm.Alike.refl U.vm) qK⟩
theorem zcall (hr : va_Run p l e R s m args below meth c H locs cells slots 0 0 (F0 m pc ls st0) rest (fun st o t => (o = .returned v ∧ va_P D vwCl w' t.heap) ∧ va_F (fun a => a ∈ L) st t) (fun a => a ∈ L)) (hS : va_S A H0 H locs) (hA : ∀ a ∈ L, A a)
    (kk : ∀ (H1 : Heap) (locs1 : List Loc), va_P D vwCl w' H1 → va_S A H0 H1 locs1 → H.size ≤ H1.size → (∀ q : Nat, q < H.size → q ∉ L → H1[q]? = H[q]?) → W p l e R s m args below meth c H1 locs1 cells slots Q (F0 m (pc + 3) ls (v.toList ++ rest))) : W p l e R s m args below meth c H locs cells slots Q (F0 m pc ls st0) := by
  intro T hT X
  obtain ⟨v', st₀, t, T', L', h0, X', hL, e1, e2, ⟨⟨hv, hp⟩, hz, hk⟩, st⟩ := hr T hT X
  cases hv
  rw [h0] at hz hk
  obtain ⟨t2, a1, b1⟩ := kk T'.heap (locs ++ L') (by rw [e1]; exact hp) ⟨Nat.le_trans hS.1 (by rw [e1]; exact hz), fun q h1 h2 => by rw [e1, hk q (Nat.lt_of_lt_of_le h1 hS.1) (fun z => h2 (hA q z))]; exact hS.2.1 q h1 h2, fun q hq => by
      rcases List.mem_append.mp hq with h | h
      · exact hS.2.2 q h
      · exact hA _ (hL q h)⟩ (by rw [e1]; exact hz) (fun q h1 h2 => by rw [e1]; exact hk q h1 h2) T' rfl X'
  exact ⟨t2, st t2 a1, b1⟩
/-- an instance call over the world at hand -/
theorem zcallV {b ci q0 : Nat} {fs : List Value} {cq : vw_C} (S : CallFix p m c cc nL s args Ts own) (hK : va_K D vwCl tys s) (hM : zM l y ws rm D tys (.ref b :: As) w w' v L) (cw : CallW R s args own cq.1 index y bytes maxL ret ws rm 0 0 n) (hP : va_P D vwCl w H) (hS : va_S A H0 H locs) (hA : ∀ a ∈ L, A a)
    (hc : vwCl[ci]? = some cq) (he : w[q0]? = some (b, .inr (ci, fs))) (hn : As.length = n) (hsz : ls.size = nL) (hst : st0 = As.reverse ++ .ref b :: rest) (hro : (rest.map fun v => v.category).sum ≤ 8) (hdg : decode cc pc = .ok (.invokevirtual index, 3)) (hf : cells ≤ R.cells ∧ slots ≤ R.slots)
    (kk : ∀ (H1 : Heap) (locs1 : List Loc), va_P D vwCl w' H1 → va_S A H0 H1 locs1 → H.size ≤ H1.size → (∀ q : Nat, q < H.size → q ∉ L → H1[q]? = H[q]?) → W p l e R s m args below meth c H1 locs1 cells slots Q (F0 m (pc + 3) ls (v.toList ++ rest))) : W p l e R s m args below meth c H locs cells slots Q (F0 m pc ls st0) :=
  zcall (va_runV (As := As) (rest := rest) S hM cw ⟨zblind, va_recv hK hP hc he, fun U hU hW => ⟨rfl, by rw [hU]; exact hP, va_K.moved hW.alike hK⟩⟩ rfl hn hsz hst (lv_room hro) hdg hf) hS hA kk
theorem zcallS (S : CallFix p m c cc nL s args Ts own) (hK : va_K D vwCl tys s) (hM : zM l y ws rm D tys As w w' v L) (cw : CallB R s args own index y bytes maxL ret ws rm 0 0 n ∧ (Cond.static y).before args s = true) (hP : va_P D vwCl w H) (hS : va_S A H0 H locs) (hA : ∀ a ∈ L, A a)
    (hn : As.length = n) (hsz : ls.size = nL) (hst : st0 = As.reverse ++ rest) (hro : (rest.map fun v => v.category).sum ≤ 8) (hdg : decode cc pc = .ok (.invokestatic index, 3)) (hf : cells ≤ R.cells ∧ slots ≤ R.slots)
    (kk : ∀ (H1 : Heap) (locs1 : List Loc), va_P D vwCl w' H1 → va_S A H0 H1 locs1 → H.size ≤ H1.size → (∀ q : Nat, q < H.size → q ∉ L → H1[q]? = H[q]?) → W p l e R s m args below meth c H1 locs1 cells slots Q (F0 m (pc + 3) ls (v.toList ++ rest))) : W p l e R s m args below meth c H locs cells slots Q (F0 m pc ls st0) :=
  zcall (va_runS (As := As) (rest := rest) S hM cw ⟨zblind, fun U hU hW => ⟨rfl, by rw [hU]; exact hP, va_K.moved hW.alike hK⟩⟩ rfl hn hsz hst (lv_room hro) hdg hf) hS hA kk
/-- a static call that needs no world -/
theorem zcallP (S : CallFix p m c cc nL s args Ts own) (hM : ∀ tys, zM l y ws rm D tys As [] [] v []) (hK : va_K D vwCl tys s) (cw : CallB R s args own index y bytes maxL ret ws rm 0 0 n ∧ (Cond.static y).before args s = true) (hP : va_P D vwCl w H) (hS : va_S A H0 H locs)
    (hn : As.length = n) (hsz : ls.size = nL) (hst : st0 = As.reverse ++ rest) (hro : (rest.map fun v => v.category).sum ≤ 8) (hdg : decode cc pc = .ok (.invokestatic index, 3)) (hf : cells ≤ R.cells ∧ slots ≤ R.slots)
    (kk : ∀ (H1 : Heap) (locs1 : List Loc), va_P D vwCl w H1 → va_S A H0 H1 locs1 → W p l e R s m args below meth c H1 locs1 cells slots Q (F0 m (pc + 3) ls (v.toList ++ rest))) : W p l e R s m args below meth c H locs cells slots Q (F0 m pc ls st0) :=
  zcallS S hK (hM tys) cw (fun k q h => by simp at h) hS (fun _ h => nomatch h) hn hsz hst hro hdg hf (fun H1 locs1 _ h2 _ h4 => kk H1 locs1 (zkeep hP h4 (fun _ _ h => nomatch h)) h2)
/-- the ends of such a method -/
abbrev zQ (D : va_G) (w' : va_W) (v : Option Value) (L : List Nat) : Array Value → State → Outcome → State → Prop := fun _ st o t => (o = .returned v ∧ va_P D vwCl w' t.heap) ∧ va_F (fun a => a ∈ L) st t
theorem zret_i {x z : Int} (hx : p.tables.exec = Jvm.exec) (hb : c.code = cc) (hr : meth.sig.returnType = some .int) (hlocks : meth.locks = false) (he : x = z) (hP : va_P D vwCl w' H) (hS : va_S (fun a => a ∈ L) s.heap H locs) (hdg : decode cc pc = .ok (.ireturn, 1)) :
    W p l e R s m args below meth c H locs cells slots (MQ below (zQ D w' (some (.int (zI z))) L) args s cells slots (fun a => a ∈ L)) (F0 m pc ls [.int (zI x)]) := by
  subst he
  exact W.iret hx hb hr (fun t ht _ => ⟨⟨rfl, by rw [ht]; exact hP⟩, hS.F ht⟩) hS.2.2 hdg hlocks
theorem zret_z {x z : Int} (hx : p.tables.exec = Jvm.exec) (hb : c.code = cc) (hr : meth.sig.returnType = some .boolean) (hlocks : meth.locks = false) (hn : narrow .boolean (.int (zI x)) = .int (zI x)) (he : x = z) (hP : va_P D vwCl w' H) (hS : va_S (fun a => a ∈ L) s.heap H locs) (hdg : decode cc pc = .ok (.ireturn, 1)) :
    W p l e R s m args below meth c H locs cells slots (MQ below (zQ D w' (some (.int (zI z))) L) args s cells slots (fun a => a ∈ L)) (F0 m pc ls [.int (zI x)]) := by
  subst he
  exact W.zret hx hb hr hn (fun t ht _ => ⟨⟨rfl, by rw [ht]; exact hP⟩, hS.F ht⟩) hS.2.2 hdg hlocks
theorem zret_l {x z : Int64} (hx : p.tables.exec = Jvm.exec) (hb : c.code = cc) (hr : meth.sig.returnType = some .long) (hlocks : meth.locks = false) (he : x = z) (hP : va_P D vwCl w' H) (hS : va_S (fun a => a ∈ L) s.heap H locs) (hdg : decode cc pc = .ok (.lreturn, 1)) :
    W p l e R s m args below meth c H locs cells slots (MQ below (zQ D w' (some (.long z)) L) args s cells slots (fun a => a ∈ L)) (F0 m pc ls [.long x]) := by
  subst he
  exact W.lret hx hb hr (fun t ht _ => ⟨⟨rfl, by rw [ht]; exact hP⟩, hS.F ht⟩) hS.2.2 hdg hlocks
theorem zret_v (hx : p.tables.exec = Jvm.exec) (hb : c.code = cc) (hr : meth.sig.returnType = none) (hlocks : meth.locks = false) (hP : va_P D vwCl w' H) (hS : va_S (fun a => a ∈ L) s.heap H locs) (hdg : decode cc pc = .ok (.return_, 1)) :
    W p l e R s m args below meth c H locs cells slots (MQ below (zQ D w' none L) args s cells slots (fun a => a ∈ L)) (F0 m pc ls []) :=
  W.vret hx hb hr (fun t ht _ => ⟨⟨rfl, by rw [ht]; exact hP⟩, hS.F ht⟩) hS.2.2 hdg hlocks
end ZC
theorem zn_bool {x : Int} (h : 0 ≤ x ∧ x ≤ 1) : narrow .boolean (.int (zI x)) = .int (zI x) := by
  have : x = 0 ∨ x = 1 := by omega
  rcases this with rfl | rfl <;> rfl
/-- sums and maxima of the first k -/
def smF (f : Int → Int) : Nat → Int
  | 0 => 0
  | k + 1 => smF f k + f (k : Int)
def mxF (f : Int → Int) : Nat → Int
  | 0 => 0
  | k + 1 => max (mxF f k) (f (k : Int))
theorem smF_s (f : Int → Int) (k : Nat) : smF f (k + 1) = smF f k + f (k : Int) := rfl
theorem mxF_s (f : Int → Int) (k : Nat) : mxF f (k + 1) = max (mxF f k) (f (k : Int)) := rfl
theorem smF_cg {f g : Int → Int} {k : Nat} (h : ∀ j : Int, 0 ≤ j → j < (k : Int) → f j = g j) : smF f k = smF g k := by
  induction k with
  | zero => rfl
  | succ k ih => rw [smF_s, smF_s, ih (fun j h0 h1 => h j h0 (by omega)), h k (by omega) (by omega)]
theorem mxF_cg {f g : Int → Int} {k : Nat} (h : ∀ j : Int, 0 ≤ j → j < (k : Int) → f j = g j) : mxF f k = mxF g k := by
  induction k with
  | zero => rfl
  | succ k ih => rw [mxF_s, mxF_s, ih (fun j h0 h1 => h j h0 (by omega)), h k (by omega) (by omega)]
theorem smF_bd {f : Int → Int} {k : Nat} {B : Int} (h : ∀ j : Int, 0 ≤ f j ∧ f j ≤ B) : 0 ≤ smF f k ∧ smF f k ≤ B * (k : Int) := by
  induction k with
  | zero => exact ⟨Int.le_refl 0, by show (0:Int) ≤ B * 0; omega⟩
  | succ k ih =>
    have := h k
    rw [smF_s]
    have e : B * ((k + 1 : Nat) : Int) = B * (k : Int) + B := by rw [Int.natCast_succ, Int.mul_add, Int.mul_one]
    omega
theorem mxF_bd {f : Int → Int} {k : Nat} {B : Int} (hB : 0 ≤ B) (h : ∀ j : Int, f j ≤ B) : 0 ≤ mxF f k ∧ mxF f k ≤ B := by
  induction k with
  | zero => exact ⟨Int.le_refl 0, hB⟩
  | succ k ih =>
    have := h k
    rw [mxF_s]
    omega
end
section
theorem arrV_cg {cI : ClassId} {N : Nat} {f g : Nat → Value} (h : ∀ j : Nat, j < N → f j = g j) : arrV cI N f = arrV cI N g := by
  unfold arrV
  rw [show (fun j : Fin N => f j.val) = (fun j : Fin N => g j.val) from funext fun j => h j.val j.isLt]
/-- the cells of the class -/
def zLC (q : Nat → Nat) : List Nat := [q 0, q 1, q 2, q 3, q 4, q 5, q 6, q 7, q 8, q 9, q 10, q 11, q 12, q 13]
abbrev wC (cI cZ : ClassId) (q : Nat → Nat) (pa sp al dg co da mb dd ah wl lo : Int → Int) (n td wn : Int) : va_W :=
  [(q 0, .inr (2, [.ref (q 1), .ref (q 2), .ref (q 3), .ref (q 4), .int (zI td), .int (zI wn), .ref (q 5), .ref (q 6), .ref (q 7)])), (q 1, .inr (1, [.ref (q 8), .ref (q 9), .ref (q 10), .int (zI n), .ref (q 11)])), (q 2, .inr (0, [.ref (q 12), .ref (q 13)])),
   (q 3, .inl (cI, 256, .inl (ar mb))), (q 4, .inl (cI, 16, .inl (ar dd))), (q 5, .inl (cI, 180, .inl (ar ah))), (q 6, .inl (cI, 5, .inl (ar wl))), (q 7, .inl (cI, 16, .inl (ar lo))),
   (q 8, .inl (cI, 16, .inl (ar pa))), (q 9, .inl (cI, 16, .inl (ar sp))), (q 10, .inl (cZ, 16, .inl (ar al))), (q 11, .inl (cI, 16, .inl (ar dg))), (q 12, .inl (cI, 204, .inl (ar co))), (q 13, .inl (cI, 204, .inl (ar da)))]
/-- what an array holds beyond its places is nobody's business -/
theorem zcg {D : va_G} {w : va_W} {H : Heap} {f g : Int → Int} {a : Nat} {cA : ClassId} {n : Nat} (hP : va_P D vwCl w H) (k : Nat) (hk : w[k]? = some (a, .inl (cA, n, .inl (ar f)))) (h : ∀ j : Int, 0 ≤ j → j < (n : Int) → f j = g j) : va_P D vwCl (w.set k (a, .inl (cA, n, .inl (ar g)))) H := by
  intro i x hx
  rw [List.getElem?_set] at hx
  split at hx
  · rename_i hik
    split at hx
    · cases hx
      have h1 := hP k _ hk
      have e : arrV cA n (fun j => Value.int (ar g j)) = arrV cA n (fun j => Value.int (ar f j)) := arrV_cg (fun j hj => by show Value.int (zI (g j)) = Value.int (zI (f j)); rw [h j (by omega) (by omega)])
      show H[a]? = some (arrV cA n (fun j => Value.int (ar g j)))
      rw [e]
      exact h1
    · cases hx
  · exact hP i x hx
def cst (v : Int) : Int → Int := fun _ => v
def bI (P : Prop) [Decidable P] : Int := if P then 1 else 0
theorem bI_01 (P : Prop) [Decidable P] : 0 ≤ bI P ∧ bI P ≤ 1 := by unfold bI; split <;> decide
theorem bI_rg (P : Prop) [Decidable P] : -2147483648 ≤ bI P ∧ bI P ≤ 2147483647 := by unfold bI; split <;> decide
theorem bI_z {P : Prop} [Decidable P] (h : bI P = 0) : ¬ P := fun hp => absurd h (by unfold bI; rw [if_pos hp]; decide)
theorem bI_n {P : Prop} [Decidable P] (h : bI P ≠ 0) : P := Decidable.byContradiction fun hp => h (by unfold bI; rw [if_neg hp])
theorem bI_t {P : Prop} [Decidable P] (h : P) : bI P = 1 := if_pos h
theorem bI_f {P : Prop} [Decidable P] (h : ¬ P) : bI P = 0 := if_neg h
theorem zlen {n : Nat} : Int32.ofNat n = zI (n : Int) := (Int32.ofInt_eq_ofNat).symm
theorem zset_map {w : va_W} {L : List Nat} {k a : Nat} {e0 e : va_E} (hk : w[k]? = some (a, e0)) (hw : w.map Prod.fst = L) : (w.set k (a, e)).map Prod.fst = L := by
  subst hw
  rw [List.map_set]
  apply List.ext_getElem?
  intro i
  rw [List.getElem?_set]
  split
  · rename_i h
    subst h
    split
    · rw [List.getElem?_map, hk]; rfl
    · rename_i h2
      rw [List.getElem?_eq_none (by omega)]
  · rfl
theorem zset_at {w : va_W} {k : Nat} {x y : Nat × va_E} (hk : w[k]? = some x) : (w.set k y)[k]? = some y := by
  rw [List.getElem?_set, if_pos rfl, if_pos (List.getElem?_eq_some_iff.mp hk).1]
set_option maxHeartbeats 4000000 in
set_option maxRecDepth 100000 in
/-- Arrays.fill(int[], int) -/
theorem kJ7_fill (l : Launch) (D : va_G) {tys : List (ClassId × FieldType)} {w : va_W} {L : List Nat} (k t : Nat) {a : Nat} {cA : ClassId} {n : Nat} {f : Int → Int} (v : Int) (hk : w[k]? = some (a, .inl (cA, n, .inl (ar f)))) (ht : tys[t]? = some (cA, .int)) (hN : L.Nodup) (hw : w.map Prod.fst = L) (hn : n ≤ 65536) : zM l yJ7_fill_53178 wsJ7_fill_53178 ({ frames := 0, cells := 0, slots := 0, locals := 0 }) D tys [.ref a, .int (zI v)] w (w.set k (a, .inl (cA, n, .inl (ar (fun j => if 0 ≤ j ∧ j < (n : Int) then v else f j))))) none L := by
  refine Met.ofW (cc := cJ7_fill_53178) (maxL := 4) (ret := none) (by decide) rfl ?_
  intro p0 e s m args below meth c s₁ B hml hv
  obtain ⟨hav, hP, hK⟩ := hv
  have hx := B.exec
  have hb := B.bytes
  have hr := B.returns
  have hlocks := B.notSynchronized
  have hA : ∀ a ∈ L, (fun a => a ∈ L) a := fun _ h => h
  have hl := lv_entry ([.ref a, .int (zI v)]) (n := 4) (Nat.le_of_ble_eq_true rfl)
  have hE : entryFrame m args 4 = F0 m 0 ((lg_sl ([.ref a, .int (zI v)]) ++ List.replicate (4 - (lg_sl ([.ref a, .int (zI v)])).length) Slot.unset).toArray) [] := by rw [hav]; exact lg_entry_eq m _ _
  obtain ⟨w2, hw2⟩ : ∃ w2, w2 = fun i : Nat => w.set k (a, .inl (cA, n, .inl (ar (fun j => if 0 ≤ j ∧ j < (i : Int) then v else f j)))) := ⟨_, rfl⟩
  obtain ⟨Q0, hQ0⟩ : ∃ Q0, Q0 = MQ below (zQ D (w.set k (a, .inl (cA, n, .inl (ar (fun j => if 0 ≤ j ∧ j < (n : Int) then v else f j))))) none L) args s 0 0 (fun a => a ∈ L) := ⟨_, rfl⟩
  show W p0 l e ({ frames := 0, cells := 0, slots := 0, locals := 0 }) s m args below meth c s.heap [] 0 0 (MQ below (zQ D (w.set k (a, .inl (cA, n, .inl (ar (fun j => if 0 ≤ j ∧ j < (n : Int) then v else f j))))) none L) args s 0 0 (fun a => a ∈ L)) _
  rw [hE, ← hQ0]
  have hS : va_S (fun a => a ∈ L) s.heap s.heap [] := va_S.rf
  generalize hH0 : s.heap = H at hP ⊢
  have hS : va_S (fun a => a ∈ L) s.heap H [] := by rw [hH0] at hS ⊢; exact hS
  generalize (lg_sl ([.ref a, .int (zI v)]) ++ List.replicate (4 - (lg_sl ([.ref a, .int (zI v)])).length) Slot.unset).toArray = ls at hl ⊢
  have hl : lv_has ls 4 [(0, .ref a), (1, .int (zI v))] := hl
  have L5 : ∀ (k0 i : Nat), i ≤ n → n - i < k0 → ∀ (H : Heap) (locs : List Loc) (ls : Array Slot), va_P D vwCl (w2 i) H → va_S (fun a => a ∈ L) s.heap H locs → lv_has ls 4 [(3, .int (zI (n : Int))), (2, .int (zI (i : Int))), (0, .ref a), (1, .int (zI v))] → W p0 l e ({ frames := 0, cells := 0, slots := 0, locals := 0 }) s m args below meth c H locs 0 0 Q0 (F0 m 5 ls []) := by
    intro k0
    induction k0 with
    | zero => intro i h1 h2; omega
    | succ k0 ih =>
      intro i hi hk0 H locs ls hP hS hl
      refine lv_iload_n hx hb dJ7_fill_53178_5 rfl (lv_at hl 1 rfl) ?_
      refine lv_iload_n hx hb dJ7_fill_53178_6 rfl (lv_at hl 0 rfl) ?_
      refine zr_icmp_ge (tgt := 20) hx hb dJ7_fill_53178_7 (by decide) ⟨by omega, by omega⟩ ⟨by omega, by omega⟩ (fun h => ?_) (fun h => ?_)
      · have e1 : i = n := by omega
        rw [hw2, e1] at hP
        rw [hQ0]
        exact zret_v hx hb hr hlocks hP hS dJ7_fill_53178_20
      · rw [hw2] at hP
        have hP : va_P D vwCl (w.set k (a, .inl (cA, n, .inl (ar (fun j => if 0 ≤ j ∧ j < (i : Int) then v else f j))))) H := hP
        refine lv_aload_n hx hb dJ7_fill_53178_10 rfl (lv_at hl 2 rfl) ?_
        refine lv_iload_n hx hb dJ7_fill_53178_11 rfl (lv_at hl 1 rfl) ?_
        refine lv_iload_n hx hb dJ7_fill_53178_12 rfl (lv_at hl 3 rfl) ?_
        refine zr_iast (f := fun j => if 0 ≤ j ∧ j < (i : Int) then v else f j) (n := n) hx hb hK hP hN (zset_map hk hw) hA hS k t (zset_at hk) ht hn (i := (i : Int)) (x := v) (by omega) (by omega) dJ7_fill_53178_13 (fun H locs hP hS => ?_)
        rw [List.set_set] at hP
        have e2 : up (fun j => if 0 ≤ j ∧ j < (i : Int) then v else f j) (i : Int) v = fun j => if 0 ≤ j ∧ j < ((i + 1 : Nat) : Int) then v else f j := by
          funext j
          unfold up
          by_cases hj : j = (i : Int)
          · rw [if_pos hj, if_pos (by omega)]
          · rw [if_neg hj]
            show (if 0 ≤ j ∧ j < (i : Int) then v else f j) = _
            by_cases h2 : 0 ≤ j ∧ j < (i : Int)
            · rw [if_pos h2, if_pos (by omega)]
            · rw [if_neg h2, if_neg (by omega)]
        rw [e2] at hP
        refine zr_iinc (v := (i : Int) + 1) (lv' := [(2, .int (zI ((i : Int) + 1))), (3, .int (zI (n : Int))), (0, .ref a), (1, .int (zI v))]) hx hb dJ7_fill_53178_14 hl (k := 1) rfl rfl (by decide) rfl (fun ls hl => ?_)
        refine lv_goto (tgt := 5) hx hb dJ7_fill_53178_17 (by decide) ?_
        exact ih (i + 1) (by omega) (by omega) _ _ _ (by rw [hw2]; exact hP) hS (lv_sub hl [1, 0, 2, 3] rfl)
  refine zr_iconst hx hb dJ7_fill_53178_0 ?_
  refine lv_istore_n (lv' := [(2, .int (zI 0)), (0, .ref a), (1, .int (zI v))]) hx hb dJ7_fill_53178_1 rfl hl (by decide) rfl (fun ls hl => ?_)
  refine lv_aload_n hx hb dJ7_fill_53178_2 rfl (lv_at hl 1 rfl) ?_
  refine va_alen (v := zI (n : Int)) hx hb hK hP k t hk ht zlen dJ7_fill_53178_3 ?_
  refine lv_istore_n (lv' := [(3, .int (zI (n : Int))), (2, .int (zI 0)), (0, .ref a), (1, .int (zI v))]) hx hb dJ7_fill_53178_4 rfl hl (by decide) rfl (fun ls hl => ?_)
  refine L5 (n + 1) 0 (Nat.zero_le _) (by omega) _ _ _ ?_ hS hl
  rw [hw2]
  exact zcg hP k hk (fun j h0 h1 => (if_neg (by omega)).symm)
end
section
/-! what the class's methods answer, in whole numbers -/
abbrev stp (pa sp : Int → Int) (a b : Int) : Prop := pa a = b ∨ pa b = a ∨ sp a = b
def dAll (da : Int → Int) (k g : Int) : Int := if g < 1 ∨ 4 < g then 0 else da (k * 12 + (g - 1) * 3 + 0) + da (k * 12 + (g - 1) * 3 + 1) + da (k * 12 + (g - 1) * 3 + 2)
def cOn (co da : Int → Int) (k g t : Int) : Int := if g < 1 ∨ 4 < g ∨ t < 0 then 0 else if t < da (k * 12 + (g - 1) * 3 + 0) then co (k * 12 + (g - 1) * 3 + 0) else if t < da (k * 12 + (g - 1) * 3 + 0) + da (k * 12 + (g - 1) * 3 + 1) then co (k * 12 + (g - 1) * 3 + 1) else if t < da (k * 12 + (g - 1) * 3 + 0) + da (k * 12 + (g - 1) * 3 + 1) + da (k * 12 + (g - 1) * 3 + 2) then co (k * 12 + (g - 1) * 3 + 2) else 0
theorem dAll_bd {da : Int → Int} (h : ∀ j : Int, 0 ≤ da j ∧ da j ≤ 60) (k g : Int) : 0 ≤ dAll da k g ∧ dAll da k g ≤ 180 := by
  unfold dAll
  split
  · decide
  · have h0 := h (k * 12 + (g - 1) * 3 + 0)
    have h1 := h (k * 12 + (g - 1) * 3 + 1)
    have h2 := h (k * 12 + (g - 1) * 3 + 2)
    omega
theorem dAll_bx (da : Int → Int) (h : ∀ j : Int, 0 ≤ da j ∧ da j ≤ 60) (k g : Int) : 0 ≤ dAll da k g ∧ dAll da k g ≤ 180 := dAll_bd h k g
theorem cOn_bd {co : Int → Int} (h : ∀ j : Int, 0 ≤ co j ∧ co j ≤ 5) (da : Int → Int) (k g t : Int) : 0 ≤ cOn co da k g t ∧ cOn co da k g t ≤ 5 := by
  unfold cOn
  split
  · decide
  · split
    · exact h _
    · split
      · exact h _
      · split
        · exact h _
        · decide
theorem cOn_out {co da : Int → Int} {k g t : Int} (h : dAll da k g ≤ t) (hd : ∀ j : Int, 0 ≤ da j ∧ da j ≤ 60) : cOn co da k g t = 0 := by
  unfold cOn
  unfold dAll at h
  split
  · rfl
  · rename_i h1
    rw [if_neg (by omega)] at h
    have h0 := hd (k * 12 + (g - 1) * 3 + 0)
    have h1 := hd (k * 12 + (g - 1) * 3 + 1)
    have h2 := hd (k * 12 + (g - 1) * 3 + 2)
    rw [if_neg (by omega), if_neg (by omega), if_neg (by omega)]
def cpZ (f g : Int → Int) (sp dp k : Int) : Int → Int := fun j => if dp ≤ j ∧ j < dp + k then f (sp + (j - dp)) else g j
theorem cpZ_bd {f g : Int → Int} {lo hi : Int} (hf : ∀ j : Int, lo ≤ f j ∧ f j ≤ hi) (hg : ∀ j : Int, lo ≤ g j ∧ g j ≤ hi) (sp dp k : Int) : ∀ j : Int, lo ≤ cpZ f g sp dp k j ∧ cpZ f g sp dp k j ≤ hi := by
  intro j
  unfold cpZ
  split
  · exact hf _
  · exact hg _
theorem up_bd {f : Int → Int} {lo hi : Int} (hf : ∀ j : Int, lo ≤ f j ∧ f j ≤ hi) {k v : Int} (hv : lo ≤ v ∧ v ≤ hi) : ∀ j : Int, lo ≤ up f k v j ∧ up f k v j ≤ hi := by
  intro j
  unfold up
  split
  · exact hv
  · exact hf _
theorem cst_bd {lo hi v : Int} (hv : lo ≤ v ∧ v ≤ hi) : ∀ j : Int, lo ≤ cst v j ∧ cst v j ≤ hi := fun _ => hv
-- kin
def rchF (pa sp dg : Int → Int) (s f g : Int) (k : Nat) : Int → Int := fun t => if 0 ≤ t ∧ t < (k : Int) ∧ t ≠ s ∧ dg t = 0 ∧ stp pa sp f t then g else dg t
theorem rchF_0 (pa sp dg : Int → Int) (s f g : Int) : rchF pa sp dg s f g 0 = dg := by
  funext t
  unfold rchF
  rw [if_neg (by omega)]
theorem rchF_n {pa sp dg : Int → Int} {s f g : Int} {k : Nat} (h : ¬ ((k : Int) ≠ s ∧ dg k = 0 ∧ stp pa sp f k)) : rchF pa sp dg s f g (k + 1) = rchF pa sp dg s f g k := by
  funext t
  unfold rchF
  by_cases e : t = (k : Int)
  · subst e
    rw [if_neg (fun h' => h h'.2.2), if_neg (by omega)]
  · have e2 : (0 ≤ t ∧ t < ((k + 1 : Nat) : Int) ∧ t ≠ s ∧ dg t = 0 ∧ stp pa sp f t) ↔ (0 ≤ t ∧ t < (k : Int) ∧ t ≠ s ∧ dg t = 0 ∧ stp pa sp f t) :=
      ⟨fun ⟨a, b, r⟩ => ⟨a, by omega, r⟩, fun ⟨a, b, r⟩ => ⟨a, by omega, r⟩⟩
    by_cases e3 : (0 ≤ t ∧ t < (k : Int) ∧ t ≠ s ∧ dg t = 0 ∧ stp pa sp f t)
    · rw [if_pos (e2.mpr e3), if_pos e3]
    · rw [if_neg (fun h' => e3 (e2.mp h')), if_neg e3]
theorem rchF_y {pa sp dg : Int → Int} {s f g : Int} {k : Nat} (h1 : (k : Int) ≠ s) (h2 : dg k = 0) (h3 : stp pa sp f k) : rchF pa sp dg s f g (k + 1) = up (rchF pa sp dg s f g k) k g := by
  funext t
  unfold rchF up
  by_cases e : t = (k : Int)
  · subst e
    rw [if_pos ⟨by omega, by omega, h1, h2, h3⟩, if_pos rfl]
  · rw [if_neg e]
    have e2 : (0 ≤ t ∧ t < ((k + 1 : Nat) : Int) ∧ t ≠ s ∧ dg t = 0 ∧ stp pa sp f t) ↔ (0 ≤ t ∧ t < (k : Int) ∧ t ≠ s ∧ dg t = 0 ∧ stp pa sp f t) :=
      ⟨fun ⟨a, b, r⟩ => ⟨a, by omega, r⟩, fun ⟨a, b, r⟩ => ⟨a, by omega, r⟩⟩
    by_cases e3 : (0 ≤ t ∧ t < (k : Int) ∧ t ≠ s ∧ dg t = 0 ∧ stp pa sp f t)
    · exact (if_pos (e2.mpr e3)).trans (if_pos e3).symm
    · exact (if_neg (fun h' => e3 (e2.mp h'))).trans (if_neg e3).symm
theorem rchF_k {pa sp dg : Int → Int} {s f g : Int} {k : Nat} : rchF pa sp dg s f g k k = dg k := by
  unfold rchF
  rw [if_neg (by omega)]
theorem rchF_bd {pa sp dg : Int → Int} (h : ∀ j : Int, 0 ≤ dg j ∧ dg j ≤ 4) {s f g : Int} (hg : 0 ≤ g ∧ g ≤ 4) {k : Nat} : ∀ j : Int, 0 ≤ rchF pa sp dg s f g k j ∧ rchF pa sp dg s f g k j ≤ 4 := by
  intro j
  unfold rchF
  split
  · exact hg
  · exact h j
def rdF (pa sp : Int → Int) (n : Nat) (s g : Int) (dg : Int → Int) : Nat → Int → Int
  | 0 => dg
  | i + 1 => if rdF pa sp n s g dg i (i : Int) = g - 1 then rchF pa sp (rdF pa sp n s g dg i) s (i : Int) g n else rdF pa sp n s g dg i
theorem rdF_y {pa sp : Int → Int} {n : Nat} {s g : Int} {dg : Int → Int} {i : Nat} (h : rdF pa sp n s g dg i (i : Int) = g - 1) : rdF pa sp n s g dg (i + 1) = rchF pa sp (rdF pa sp n s g dg i) s (i : Int) g n := if_pos h
theorem rdF_n {pa sp : Int → Int} {n : Nat} {s g : Int} {dg : Int → Int} {i : Nat} (h : rdF pa sp n s g dg i (i : Int) ≠ g - 1) : rdF pa sp n s g dg (i + 1) = rdF pa sp n s g dg i := if_neg h
theorem rdF_bd {pa sp : Int → Int} {n : Nat} {s g : Int} {dg : Int → Int} (h : ∀ j : Int, 0 ≤ dg j ∧ dg j ≤ 4) (hg : 0 ≤ g ∧ g ≤ 4) (i : Nat) : ∀ j : Int, 0 ≤ rdF pa sp n s g dg i j ∧ rdF pa sp n s g dg i j ≤ 4 := by
  induction i with
  | zero => exact h
  | succ i ih =>
    show ∀ j : Int, 0 ≤ (if rdF pa sp n s g dg i (i : Int) = g - 1 then rchF pa sp (rdF pa sp n s g dg i) s (i : Int) g n else rdF pa sp n s g dg i) j ∧ (if rdF pa sp n s g dg i (i : Int) = g - 1 then rchF pa sp (rdF pa sp n s g dg i) s (i : Int) g n else rdF pa sp n s g dg i) j ≤ 4
    split
    · exact rchF_bd ih hg
    · exact ih
def dg1 (pa sp : Int → Int) (n : Nat) (s : Int) : Int → Int := rchF pa sp (cst 0) s s 1 n
def dg2 (pa sp : Int → Int) (n : Nat) (s : Int) : Int → Int := rdF pa sp n s 2 (dg1 pa sp n s) n
def dg3 (pa sp : Int → Int) (n : Nat) (s : Int) : Int → Int := rdF pa sp n s 3 (dg2 pa sp n s) n
def dgF (pa sp : Int → Int) (n : Nat) (s : Int) : Int → Int := rdF pa sp n s 4 (dg3 pa sp n s) n
theorem dg1_bd (pa sp : Int → Int) (n : Nat) (s : Int) : ∀ j : Int, 0 ≤ dg1 pa sp n s j ∧ dg1 pa sp n s j ≤ 4 := rchF_bd (cst_bd ⟨by decide, by decide⟩) ⟨by decide, by decide⟩
theorem dg2_bd (pa sp : Int → Int) (n : Nat) (s : Int) : ∀ j : Int, 0 ≤ dg2 pa sp n s j ∧ dg2 pa sp n s j ≤ 4 := rdF_bd (dg1_bd pa sp n s) ⟨by decide, by decide⟩ n
theorem dg3_bd (pa sp : Int → Int) (n : Nat) (s : Int) : ∀ j : Int, 0 ≤ dg3 pa sp n s j ∧ dg3 pa sp n s j ≤ 4 := rdF_bd (dg2_bd pa sp n s) ⟨by decide, by decide⟩ n
theorem dgF_bd (pa sp : Int → Int) (n : Nat) (s : Int) : ∀ j : Int, 0 ≤ dgF pa sp n s j ∧ dgF pa sp n s j ≤ 4 := rdF_bd (dg3_bd pa sp n s) ⟨by decide, by decide⟩ n
def lvS (sp : Int → Int) (p : Int) : Int → Int := if sp p ≠ -1 then up sp (sp p) (-1) else sp
theorem lvS_bd {sp : Int → Int} (h : ∀ j : Int, -1 ≤ sp j ∧ sp j ≤ 15) (p : Int) : ∀ j : Int, -1 ≤ lvS sp p j ∧ lvS sp p j ≤ 15 := by
  unfold lvS
  split
  · exact up_bd h ⟨by decide, by decide⟩
  · exact h
def kinF (al dg : Int → Int) (g j : Int) : Int := if al j ≠ 0 ∧ dg j = g then 1 else 0
-- mourning
def lf (da mb dd : Int → Int) (td p d : Int) : Int := max 0 (dAll da d (mb (p * 16 + d)) - (td - dd d))
theorem lf_bd {da dd : Int → Int} {td : Int} (h : ∀ j : Int, 0 ≤ da j ∧ da j ≤ 60) (mb : Int → Int) (p d : Int) : 0 ≤ lf da mb dd td p d := by
  unfold lf
  omega
def gtF (f : Int → Int) (j : Int) : Int := if 0 < f j then 1 else 0
def caT (co da mb dd : Int → Int) (td p t d : Int) : Int := cOn co da d (mb (p * 16 + d)) (td - dd d + t)
def ca (co da mb dd : Int → Int) (td : Int) (n : Nat) (p t : Int) : Int := mxF (caT co da mb dd td p t) n
theorem ca_bd {co : Int → Int} (h : ∀ j : Int, 0 ≤ co j ∧ co j ≤ 5) (da mb dd : Int → Int) (td : Int) (n : Nat) (p t : Int) : 0 ≤ ca co da mb dd td n p t ∧ ca co da mb dd td n p t ≤ 5 := mxF_bd (by decide) (fun _ => (cOn_bd h _ _ _ _).2)
def cwF (al co da mb dd : Int → Int) (td : Int) (n : Nat) (c p : Int) : Int := if al p ≠ 0 ∧ ca co da mb dd td n p 0 = c then 1 else 0
def pnI (B C : Int → Int) (j : Nat) : Int → Int := fun t => if 0 ≤ t ∧ t < (j : Int) then max (B t) (C t) else B t
theorem pnI_0 (B C : Int → Int) : pnI B C 0 = B := by
  funext t
  unfold pnI
  rw [if_neg (by omega)]
theorem pnI_k (B C : Int → Int) (j : Nat) : pnI B C j j = B j := by
  unfold pnI
  rw [if_neg (by omega)]
theorem pnI_s (B C : Int → Int) (j : Nat) : pnI B C (j + 1) = up (pnI B C j) j (max (pnI B C j j) (C j)) := by
  rw [pnI_k]
  funext t
  unfold pnI up
  by_cases e : t = (j : Int)
  · subst e
    rw [if_pos ⟨by omega, by omega⟩, if_pos rfl]
  · rw [if_neg e]
    by_cases e2 : 0 ≤ t ∧ t < (j : Int)
    · exact (if_pos ⟨by omega, by omega⟩).trans (if_pos e2).symm
    · exact (if_neg (by omega)).trans (if_neg e2).symm
def caC (co da mb dd : Int → Int) (td p d t : Int) : Int := cOn co da d (mb (p * 16 + d)) (td - dd d + t)
theorem pnI_bd {B C : Int → Int} (hB : ∀ j : Int, 0 ≤ B j ∧ B j ≤ 5) (hC : ∀ j : Int, 0 ≤ C j ∧ C j ≤ 5) (k : Nat) : ∀ j : Int, 0 ≤ pnI B C k j ∧ pnI B C k j ≤ 5 := by
  intro j
  unfold pnI
  have h1 := hB j
  have h2 := hC j
  split <;> omega
theorem paint_s {co da mb dd : Int → Int} {td p : Int} {i : Nat} (hco : ∀ j : Int, 0 ≤ co j ∧ co j ≤ 5) (hda : ∀ j : Int, 0 ≤ da j ∧ da j ≤ 60) (t : Int) (h0 : 0 ≤ t) (h1 : t < 180) :
    pnI (ca co da mb dd td i p) (caC co da mb dd td p i) (min (lf da mb dd td p i) 180).toNat t = ca co da mb dd td (i + 1) p t := by
  show _ = max (ca co da mb dd td i p t) (caT co da mb dd td p t i)
  unfold pnI
  by_cases h : t < lf da mb dd td p i
  · rw [if_pos ⟨h0, by omega⟩]
    rfl
  · rw [if_neg (by omega)]
    have e : caT co da mb dd td p t i = 0 := by
      unfold caT
      unfold lf at h
      exact cOn_out (by omega) hda
    have h2 := ca_bd hco da mb dd td i p t
    rw [e]
    omega
def neF (f : Int → Int) (j : Int) : Int := if f j ≠ 0 then 1 else 0
def eqF (f : Int → Int) (c j : Int) : Int := if f j = c then 1 else 0
/-- the first place from k on, among m, that is under the one at 0; behind them the last but one more -/
def fst0 (f : Int → Int) : Nat → Int → Int
  | 0, k => k
  | m + 1, k => if f k < f 0 then k else fst0 f m (k + 1)
theorem fst0_s (f : Int → Int) (m : Nat) (k : Int) : fst0 f (m + 1) k = if f k < f 0 then k else fst0 f m (k + 1) := rfl
def flD (f : Int → Int) : Int := if f 0 = 0 then -1 else fst0 f 179 1
def wwF (co da ah : Int → Int) (g j : Int) : Int := if ah j ≠ 0 ∨ cOn co da 16 g j ≠ 0 then 1 else 0
theorem lf_180 {da dd : Int → Int} {td : Int} (h : ∀ j : Int, 0 ≤ da j ∧ da j ≤ 60) (hdd : ∀ j : Int, 0 ≤ dd j ∧ dd j ≤ 1000000) (htd : 0 ≤ td ∧ td ≤ 1000000) (mb : Int → Int) (p d : Int) : 0 ≤ lf da mb dd td p d ∧ lf da mb dd td p d ≤ 1000180 := by
  unfold lf
  have h1 := dAll_bd h d (mb (p * 16 + d))
  have h2 := hdd d
  omega
theorem wwF_01 (co da ah : Int → Int) (g j : Int) : 0 ≤ wwF co da ah g j ∧ wwF co da ah g j ≤ 1 := by
  unfold wwF
  split <;> decide
def wwA (co da ah : Int → Int) : Int → Int := fun g => smF (wwF co da ah g) 180
def wlI (wl co da ah : Int → Int) (k : Nat) : Int → Int := fun g => if 0 ≤ g ∧ g < (k : Int) then wwA co da ah g else wl g
theorem wlI_0 (wl co da ah : Int → Int) : wlI wl co da ah 0 = wl := by
  funext g
  unfold wlI
  rw [if_neg (by omega)]
theorem wlI_s (wl co da ah : Int → Int) (k : Nat) : wlI wl co da ah (k + 1) = up (wlI wl co da ah k) k (smF (wwF co da ah (k : Int)) 180) := by
  funext g
  unfold wlI up
  by_cases e : g = (k : Int)
  · subst e
    rw [if_pos ⟨by omega, by omega⟩, if_pos rfl]
    rfl
  · rw [if_neg e]
    by_cases e2 : 0 ≤ g ∧ g < (k : Int)
    · exact (if_pos ⟨by omega, by omega⟩).trans (if_pos e2).symm
    · exact (if_neg (by omega)).trans (if_neg e2).symm
theorem wlI_5 (wl co da ah : Int → Int) (j : Int) (h0 : 0 ≤ j) (h1 : j < ((5 : Nat) : Int)) : wlI wl co da ah 5 j = wwA co da ah j := by
  unfold wlI
  rw [if_pos ⟨h0, h1⟩]
def loF (lo : Int → Int) (p : Int) (w dg : Int → Int) (k : Nat) : Int → Int := fun j => if 0 ≤ j ∧ j < (k : Int) ∧ j ≠ p then lo j + w (dg j) else lo j
theorem loF_0 (lo : Int → Int) (p : Int) (w dg : Int → Int) : loF lo p w dg 0 = lo := by
  funext g
  unfold loF
  rw [if_neg (by omega)]
theorem loF_k (lo : Int → Int) (p : Int) (w dg : Int → Int) (k : Nat) : loF lo p w dg k k = lo k := by
  unfold loF
  rw [if_neg (by omega)]
theorem loF_y {lo : Int → Int} {p : Int} {w dg : Int → Int} {k : Nat} (h : (k : Int) ≠ p) : loF lo p w dg (k + 1) = up (loF lo p w dg k) k (loF lo p w dg k k + w (dg k)) := by
  rw [loF_k]
  funext g
  unfold loF up
  by_cases e : g = (k : Int)
  · subst e
    rw [if_pos ⟨by omega, by omega, h⟩, if_pos rfl]
  · rw [if_neg e]
    by_cases e2 : 0 ≤ g ∧ g < (k : Int) ∧ g ≠ p
    · exact (if_pos (by omega)).trans (if_pos e2).symm
    · exact (if_neg (by omega)).trans (if_neg e2).symm
theorem loF_n {lo : Int → Int} {p : Int} {w dg : Int → Int} {k : Nat} (h : (k : Int) = p) : loF lo p w dg (k + 1) = loF lo p w dg k := by
  funext g
  unfold loF
  by_cases e2 : 0 ≤ g ∧ g < (k : Int) ∧ g ≠ p
  · rw [if_pos (by omega), if_pos e2]
  · rw [if_neg (by omega), if_neg e2]
def wbF (al da dg : Int → Int) (j : Int) : Int := if al j ≠ 0 ∧ 0 < dAll da 16 (dg j) then 1 else 0
def enC (mb : Int → Int) (p : Int) : Nat → Int → Int
  | 0 => mb
  | k + 1 => up (enC mb p k) (p * 16 + (k : Int)) 0
theorem enC_bd {mb : Int → Int} (h : ∀ j : Int, 0 ≤ mb j ∧ mb j ≤ 4) (p : Int) (k : Nat) : ∀ j : Int, 0 ≤ enC mb p k j ∧ enC mb p k j ≤ 4 := by
  induction k with
  | zero => exact h
  | succ k ih => exact up_bd ih ⟨by decide, by decide⟩
def bgC (al da dg mb : Int → Int) (d : Int) : Nat → Int → Int
  | 0 => mb
  | i + 1 => if al (i : Int) ≠ 0 ∧ 0 < dAll da 16 (dg (i : Int)) then up (bgC al da dg mb d i) ((i : Int) * 16 + d) (dg (i : Int)) else bgC al da dg mb d i
theorem bgC_y {al da dg mb : Int → Int} {d : Int} {i : Nat} (h : al (i : Int) ≠ 0 ∧ 0 < dAll da 16 (dg (i : Int))) : bgC al da dg mb d (i + 1) = up (bgC al da dg mb d i) ((i : Int) * 16 + d) (dg (i : Int)) := if_pos h
theorem bgC_n {al da dg mb : Int → Int} {d : Int} {i : Nat} (h : ¬ (al (i : Int) ≠ 0 ∧ 0 < dAll da 16 (dg (i : Int)))) : bgC al da dg mb d (i + 1) = bgC al da dg mb d i := if_neg h
theorem bgC_bd {al da dg mb : Int → Int} {d : Int} (h : ∀ j : Int, 0 ≤ mb j ∧ mb j ≤ 4) (hg : ∀ j : Int, 0 ≤ dg j ∧ dg j ≤ 4) (i : Nat) : ∀ j : Int, 0 ≤ bgC al da dg mb d i j ∧ bgC al da dg mb d i j ≤ 4 := by
  induction i with
  | zero => exact h
  | succ i ih =>
    by_cases e : al (i : Int) ≠ 0 ∧ 0 < dAll da 16 (dg (i : Int))
    · rw [bgC_y e]
      exact up_bd ih (hg _)
    · rw [bgC_n e]
      exact ih
/-- what the last of k rounds left -/
def lastF (f : Int → Int) (F : Int → Int → Int) : Nat → Int → Int
  | 0 => f
  | k + 1 => F (k : Int)
def waP (co da mb dd : Int → Int) (td : Int) (n : Nat) (k p : Int) : Int := smF (neF (ca co da mb dd td n p)) (min k 180).toNat
def caZ (co da mb dd : Int → Int) (td : Int) (n : Nat) (p : Int) : Int := ca co da mb dd td n p 0
def llS (da mb dd : Int → Int) (td : Int) (n : Nat) (p : Int) : Int := mxF (lf da mb dd td p) n
/-- what the last living one of k left -/
def lsF (al f : Int → Int) (F : Int → Int → Int) : Nat → Int → Int
  | 0 => f
  | k + 1 => if al (k : Int) ≠ 0 then F (k : Int) else lsF al f F k
theorem lsF_y {al f : Int → Int} {F : Int → Int → Int} {k : Nat} (h : al (k : Int) ≠ 0) : lsF al f F (k + 1) = F (k : Int) := if_pos h
theorem lsF_n {al f : Int → Int} {F : Int → Int → Int} {k : Nat} (h : al (k : Int) = 0) : lsF al f F (k + 1) = lsF al f F k := if_neg (by omega)
def wwP (co da mb dd : Int → Int) (td : Int) (n : Nat) (p : Int) : Int → Int := wwA co da (ca co da mb dd td n p)
def hlF (pa sp al co da mb dd : Int → Int) (td : Int) (n : Nat) : Nat → Int → Int
  | 0 => cst 0
  | i + 1 => if al (i : Int) ≠ 0 then loF (hlF pa sp al co da mb dd td n i) (i : Int) (wwP co da mb dd td n (i : Int)) (dgF pa sp n (i : Int)) n else hlF pa sp al co da mb dd td n i
theorem hlF_y {pa sp al co da mb dd : Int → Int} {td : Int} {n i : Nat} (h : al (i : Int) ≠ 0) : hlF pa sp al co da mb dd td n (i + 1) = loF (hlF pa sp al co da mb dd td n i) (i : Int) (wwP co da mb dd td n (i : Int)) (dgF pa sp n (i : Int)) n := if_pos h
theorem hlF_n {pa sp al co da mb dd : Int → Int} {td : Int} {n i : Nat} (h : al (i : Int) = 0) : hlF pa sp al co da mb dd td n (i + 1) = hlF pa sp al co da mb dd td n i := if_neg (by omega)
theorem wwA_bd (co da ah : Int → Int) (g : Int) : 0 ≤ wwA co da ah g ∧ wwA co da ah g ≤ 180 := by
  have := smF_bd (f := wwF co da ah g) (k := 180) (B := 1) (fun j => wwF_01 co da ah g j)
  unfold wwA
  omega
theorem loF_bd {lo : Int → Int} {B : Int} (h : ∀ j : Int, 0 ≤ lo j ∧ lo j ≤ B) (p : Int) {w : Int → Int} (hw : ∀ g : Int, 0 ≤ w g ∧ w g ≤ 180) (dg : Int → Int) (k : Nat) : ∀ j : Int, 0 ≤ loF lo p w dg k j ∧ loF lo p w dg k j ≤ B + 180 := by
  intro j
  have h1 := h j
  have h2 := hw (dg j)
  unfold loF
  split <;> omega
theorem hlF_bd (pa sp al co da mb dd : Int → Int) (td : Int) (n i : Nat) : ∀ j : Int, 0 ≤ hlF pa sp al co da mb dd td n i j ∧ hlF pa sp al co da mb dd td n i j ≤ 180 * (i : Int) := by
  induction i with
  | zero => exact fun _ => ⟨Int.le_refl 0, Int.le_refl 0⟩
  | succ i ih =>
    intro j
    by_cases e : al (i : Int) ≠ 0
    · rw [hlF_y e]
      have := loF_bd ih (i : Int) (fun g => wwA_bd co da (ca co da mb dd td n (i : Int)) g) (dgF pa sp n (i : Int)) n j
      have e2 : wwP co da mb dd td n (i : Int) = wwA co da (ca co da mb dd td n (i : Int)) := rfl
      rw [e2]
      omega
    · rw [hlF_n (by omega)]
      have := ih j
      omega
/-- the living one whose value is the greatest, of several the first; -1 if there is none -/
def hvF (al v : Int → Int) : Nat → Int
  | 0 => -1
  | k + 1 => if al (k : Int) ≠ 0 ∧ (hvF al v k = -1 ∨ v (k : Int) > v (hvF al v k)) then (k : Int) else hvF al v k
theorem hvF_y {al v : Int → Int} {k : Nat} (h : al (k : Int) ≠ 0 ∧ (hvF al v k = -1 ∨ v (hvF al v k) < v (k : Int))) : hvF al v (k + 1) = (k : Int) := if_pos h
theorem hvF_n {al v : Int → Int} {k : Nat} (h : ¬ (al (k : Int) ≠ 0 ∧ (hvF al v k = -1 ∨ v (hvF al v k) < v (k : Int)))) : hvF al v (k + 1) = hvF al v k := if_neg h
theorem hvF_rg (al v : Int → Int) (k : Nat) : -1 ≤ hvF al v k ∧ hvF al v k < (k : Int) := by
  induction k with
  | zero => exact ⟨Int.le_refl (-1), show (-1 : Int) < 0 by decide⟩
  | succ k ih =>
    by_cases e : al (k : Int) ≠ 0 ∧ (hvF al v k = -1 ∨ v (hvF al v k) < v (k : Int))
    · rw [hvF_y e]
      omega
    · rw [hvF_n e]
      omega
def dcF (co da : Int → Int) (b : Int) (d0 : Int64) : Nat → Int64
  | 0 => d0
  | k + 1 => (dcF co da b d0 k * 31 + (zI (co (b + (k : Int)))).toInt64) * 31 + (zI (da (b + (k : Int)))).toInt64
def h31 (d : Int64) (x : Int) : Int64 := d * 31 + (zI x).toInt64
def dpC (pa sp al co da mb dd : Int → Int) (n : Nat) (td : Int) (d : Int64) (p : Int) : Int64 :=
  h31 (h31 (h31 (h31 (h31 (h31 (h31 (h31 (h31 (h31 (h31 d (al p)) (pa p)) (sp p)) (ca co da mb dd td n p 0)) (smF (gtF (lf da mb dd td p)) n)) (mxF (lf da mb dd td p) n)) (flD (ca co da mb dd td n p)))
    (smF (kinF al (dgF pa sp n p) 1) n)) (smF (kinF al (dgF pa sp n p) 2) n)) (smF (kinF al (dgF pa sp n p) 3) n)) (smF (kinF al (dgF pa sp n p) 4) n)
def dpL (F : Int64 → Int → Int64) (d : Int64) : Nat → Int64
  | 0 => d
  | k + 1 => F (dpL F d k) (k : Int)
/-- who has the most, of several the first; -1 if nobody has any -/
def lgF (f : Int → Int) : Nat → Int
  | 0 => -1
  | k + 1 => if f (k : Int) > mxF f k then (k : Int) else lgF f k
theorem lgF_y {f : Int → Int} {k : Nat} (h : mxF f k < f (k : Int)) : lgF f (k + 1) = (k : Int) := if_pos h
theorem lgF_n {f : Int → Int} {k : Nat} (h : f (k : Int) ≤ mxF f k) : lgF f (k + 1) = lgF f k := if_neg (by omega)
theorem lgF_rg (f : Int → Int) (k : Nat) : -1 ≤ lgF f k ∧ lgF f k < (k : Int) := by
  induction k with
  | zero => exact ⟨Int.le_refl (-1), show (-1 : Int) < 0 by decide⟩
  | succ k ih =>
    by_cases h : mxF f k < f (k : Int)
    · rw [lgF_y h]
      omega
    · rw [lgF_n (by omega)]
      omega
-- what would be
def dgC (pa sp al co da mb dd : Int → Int) (n : Nat) (td wn : Int) : Int64 :=
  dpL (dpC pa sp al co da mb dd n td) (dcF co da 192 (h31 (h31 (h31 (h31 (h31 (h31 1931 n) (smF al n)) td) (mxF (caZ co da mb dd td n) n)) (lgF (llS da mb dd td n) n)) wn) 12) n
theorem dcF_st {co da : Int → Int} {d0 : Int64} {i j : Nat} : dcF co da 192 d0 (3 * i + (j + 1)) = (dcF co da 192 d0 (3 * i + j) * 31 + (zI (co (16 * 12 + ((i : Int) + 1 - 1) * 3 + (j : Int)))).toInt64) * 31 + (zI (da (16 * 12 + ((i : Int) + 1 - 1) * 3 + (j : Int)))).toInt64 := by
  show (dcF co da 192 d0 (3 * i + j) * 31 + (zI (co (192 + ((3 * i + j : Nat) : Int)))).toInt64) * 31 + (zI (da (192 + ((3 * i + j : Nat) : Int)))).toInt64 = _
  rw [show (192 : Int) + ((3 * i + j : Nat) : Int) = 16 * 12 + ((i : Int) + 1 - 1) * 3 + (j : Int) by omega]
end
section
/-! arrays at addresses, and what the machine says of int[], int[][], int[][][] -/
def vA (c : ClassId) (H : Heap) (a n : Nat) (g : Int → Value) : Prop := H[a]? = some (arrV c n (fun j => g (j : Int)))
def iV (f : Int → Int) : Int → Value := fun j => .int (zI (f j))
def rV (r : Int → Nat) : Int → Value := fun j => .ref (r j)
def upV (g : Int → Value) (k : Int) (v : Value) : Int → Value := fun j => if j = k then v else g j
abbrev iA (c : ClassId) (H : Heap) (a n : Nat) (f : Int → Int) : Prop := vA c H a n (iV f)
abbrev rA (c : ClassId) (H : Heap) (a n : Nat) (r : Int → Nat) : Prop := vA c H a n (rV r)
theorem vA.lt {c : ClassId} {H : Heap} {a n : Nat} {g : Int → Value} (h : vA c H a n g) : a < H.size := (Array.getElem?_eq_some_iff.mp h).1
theorem vA.kept {c : ClassId} {H H1 : Heap} {a n : Nat} {g : Int → Value} (h : vA c H a n g) (hk : H1[a]? = H[a]?) : vA c H1 a n g := hk.trans h
theorem vA.grow {c : ClassId} {H H1 : Heap} {a n : Nat} {g : Int → Value} (h : vA c H a n g) (hk : ∀ x : Nat, x < H.size → H1[x]? = H[x]?) : vA c H1 a n g := h.kept (hk a h.lt)
theorem vA.cg {c : ClassId} {H : Heap} {a n : Nat} {g g' : Int → Value} (h : vA c H a n g) (e : ∀ j : Int, 0 ≤ j → j < (n : Int) → g j = g' j) : vA c H a n g' := by
  have e2 : arrV c n (fun j => g (j : Int)) = arrV c n (fun j => g' (j : Int)) := arrV_cg (fun j hj => e j (by omega) (by omega))
  unfold vA
  rw [← e2]
  exact h
theorem iA.cgI {c : ClassId} {H : Heap} {a n : Nat} {f f' : Int → Int} (h : iA c H a n f) (e : ∀ j : Int, 0 ≤ j → j < (n : Int) → f j = f' j) : iA c H a n f' :=
  vA.cg h (fun j h0 h1 => by show Value.int (zI (f j)) = Value.int (zI (f' j)); rw [e j h0 h1])
theorem upV_iV (f : Int → Int) (k v : Int) : upV (iV f) k (.int (zI v)) = iV (up f k v) := by
  funext j
  unfold upV iV up
  by_cases h : j = k
  · rw [if_pos h, if_pos h]
  · rw [if_neg h, if_neg h]
def zKA (cI c1 c2 : ClassId) (U : State) : Prop :=
  ((Cond.arrayOver (.array .int)).before #[] U = true ∧ U.vm.findClass "[I" = some cI ∧ U.vm.findClass "[[I" = some c1 ∧ U.vm.findClass "[[[I" = some c2) ∧
  (∃ (k : Class) (cc : ClassId), U.vm.classes[cI]? = some k ∧ k.kind = .array cc .int) ∧ (∃ k : Class, U.vm.classes[c1]? = some k ∧ k.kind = .array cI (.array .int)) ∧ (∃ k : Class, U.vm.classes[c2]? = some k ∧ k.kind = .array c1 (.array (.array .int)))
theorem zKA.moved {cI c1 c2 : ClassId} {u U : State} (hvm : u.vm.Alike U.vm) (h : zKA cI c1 c2 u) : zKA cI c1 c2 U := by
  obtain ⟨⟨h0, h1, h2, h3⟩, ⟨k, cc, g1, g2⟩, ⟨k1, g3, g4⟩, ⟨k2, g5, g6⟩⟩ := h
  obtain ⟨k', hk', he⟩ := hvm.2.2 _ _ g1
  obtain ⟨k1', hk1', he1⟩ := hvm.2.2 _ _ g3
  obtain ⟨k2', hk2', he2⟩ := hvm.2.2 _ _ g5
  exact ⟨⟨over_moved hvm h0, by rw [hvm.findClass]; exact h1, by rw [hvm.findClass]; exact h2, by rw [hvm.findClass]; exact h3⟩, ⟨k', cc, hk', by rw [he]; exact g2⟩, ⟨k1', hk1', by rw [he1]; exact g4⟩, ⟨k2', hk2', by rw [he2]; exact g6⟩⟩
theorem zKA.aI {cI c1 c2 : ClassId} {U : State} (h : zKA cI c1 c2 U) : ArrOfT U cI .int := by
  obtain ⟨-, ⟨k, cc, g1, g2⟩, -, -⟩ := h
  exact fun n z => ⟨fun q h => (by cases h), k, g1, cc, g2⟩
theorem zKA.a1 {cI c1 c2 : ClassId} {U : State} (h : zKA cI c1 c2 U) : ArrOfT U c1 (.array .int) := by
  obtain ⟨-, -, ⟨k, g1, g2⟩, -⟩ := h
  exact fun n z => ⟨fun q h => (by cases h), k, g1, cI, g2⟩
theorem zKA.a2 {cI c1 c2 : ClassId} {U : State} (h : zKA cI c1 c2 U) : ArrOfT U c2 (.array (.array .int)) := by
  obtain ⟨-, -, -, ⟨k, g1, g2⟩⟩ := h
  exact fun n z => ⟨fun q h => (by cases h), k, g1, c1, g2⟩
theorem zself (vm : Vm) (c : ClassId) : vm.assignable c c = true := by
  unfold Vm.assignable
  simp [Vm.assignableAux]
theorem va1 {D : va_G} {a : Nat} {e : va_E} {H : Heap} (h : va_at D vwCl (a, e) H) : va_P D vwCl [(a, e)] H := fun k q hq => by
  have h0 : k < 1 := (List.getElem?_eq_some_iff.mp hq).1
  rw [show k = 0 by omega] at hq
  cases hq
  exact h
section ZS
variable {p : Program} {l : Launch} {e : Env} {R : Room} {s : State} {m : MethodId} {args : Array Value} {below : List Frame} {meth : Method} {c : Code} {H : Heap} {locs : List Loc} {cells slots : Nat} {Q : State → Prop}
variable {pc : Nat} {ls : Array Slot} {rest : List Value} {cc : ByteArray} {D : va_G} {tys : List (ClassId × FieldType)} {a : Nat} {A : Nat → Prop} {H0 : Heap} {cI c1 c2 : ClassId} {n : Nat} {own : String} {index : Nat} {Ts : List Cond}
theorem zs_put {fs : List Value} (hx : p.tables.exec = Jvm.exec) (hb : c.code = cc) (hts : ∀ w ∈ Ts, w.before args s = true) (hin : ∀ w ∈ u_ws RX3 TX3 5, w ∈ Ts) (hown : s.vm.findClass own = some m.cls) (hK : va_K D vwCl tys s) (hP : va_P D vwCl [(a, .inr (3, fs))] H) (hS0 : va_S A H0 H locs) (haA : A a) (k : Nat) (hk : k < 5)
    (hlink : (Cond.fieldLink own index RX3 (TX3 k).2.1 (TX3 k).2.2.1).before args s = true) (hfin : (TX3 k).2.2.2 = false) (hcls : (TX3 k).1 = RX3) {ty : FieldType} {v : Value} (hd : parseFieldDescriptor (TX3 k).2.2.1 = some ty) (hn : narrow ty v = v) (hfit : fits ty v = true) (hl : k < fs.length) (hdg : decode cc pc = .ok (.putfield index, 3))
    (kk : ∀ (H1 : Heap) (locs1 : List Loc), va_P D vwCl [(a, .inr (3, fs.set k v))] H1 → H1.size = H.size → (∀ q : Nat, q ≠ a → H1[q]? = H[q]?) → va_S A H0 H1 locs1 → W p l e R s m args below meth c H1 locs1 cells slots Q (F0 m (pc + 3) ls rest)) : W p l e R s m args below meth c H locs cells slots Q (F0 m pc ls (v :: .ref a :: rest)) := by
  have hc : vwCl[3]? = some (RX3, TX3, 5) := rfl
  have hap := va_apart (own := own) hts hin tyX3 tyX3_ok nmX3 hK hc
  obtain ⟨r, h1, cell, q1, q2, q3, q4⟩ := hP 0 _ rfl
  have hr : r = (RX3, TX3, 5) := Option.some.inj (h1.symm.trans hc)
  subst hr
  obtain ⟨hS, hfc, kC, hkC, hkind⟩ := hK.1 3 _ hc
  obtain ⟨cf, kf, fi, f, hi, hsl⟩ := hS k hk
  have hlay := hts _ (hin _ (u_in_lay hk))
  unfold u_lay at hlay
  rw [if_neg (by rw [hfin]; decide)] at hlay
  have hst := (u_facts hfc hkC (u_lays hts hin hk) hi).1
  have h6 := u_store hfc hkC hkind hlay hi hd hn hfit
  refine W.putK hx hb (f := f) ⟨hown, hlink, ⟨_, _, _, by rw [← hcls]; exact hi⟩, hst⟩ (by rw [q2]; exact h6) q1 q3 (by rw [hsl]; exact k2_hasslot (q4 k hk)) rfl rfl hdg fun H' e1 e2 e3 => ?_
  rw [hsl] at e1 ⊢
  exact kk H' _ (va1 ⟨_, hc, t_OB.to (V := updV (vp_V fs) k v) ⟨_, e1, q2, q3, t_set q4 hap hk v⟩ (fun j _ => vp_updV_set hl v j)⟩) e2 e3 (hS0.put e2 e3 haA)
theorem zs_ild {f : Int → Int} {i v : Int} (hx : p.tables.exec = Jvm.exec) (hb : c.code = cc) (hA : zKA cI c1 c2 s) (hv : iA cI H a n f) (h0 : 0 ≤ i) (h1 : i < (n : Int)) (hn : n ≤ 65536) (hfv : f i = v) (hdg : decode cc pc = .ok (.iaload, 1))
    (kk : W p l e R s m args below meth c H locs cells slots Q (F0 m (pc + 1) ls (.int (zI v) :: rest))) : W p l e R s m args below meth c H locs cells slots Q (F0 m pc ls (.int (zI i) :: .ref a :: rest)) := by
  have hi := zI_in h0 h1 hn
  refine W.iald hx hb (v := .int (zI v)) hv (hA.aI n _) (fun h => by cases h) (by rw [arrV_size]; exact hi) ?_ rfl rfl hdg kk
  rw [zI_cl h0 (by omega), arrV_read _ _ (by omega), Int.toNat_of_nonneg h0]
  show some (Value.int (zI (f i))) = _
  rw [hfv]
theorem zs_ald1 {g : Int → Value} {i : Int} {v : Value} (hx : p.tables.exec = Jvm.exec) (hb : c.code = cc) (hA : zKA cI c1 c2 s) (hv : vA c1 H a n g) (h0 : 0 ≤ i) (h1 : i < (n : Int)) (hn : n ≤ 65536) (hfv : g i = v) (hdg : decode cc pc = .ok (.aaload, 1))
    (kk : W p l e R s m args below meth c H locs cells slots Q (F0 m (pc + 1) ls (v :: rest))) : W p l e R s m args below meth c H locs cells slots Q (F0 m pc ls (.int (zI i) :: .ref a :: rest)) := by
  have hi := zI_in h0 h1 hn
  refine W.aald hx hb (v := v) (ty := .array .int) hv (hA.a1 n _) rfl (fun h => by cases h) (by rw [arrV_size]; exact hi) ?_ rfl rfl hdg kk
  rw [zI_cl h0 (by omega), arrV_read _ _ (by omega), Int.toNat_of_nonneg h0, hfv]
theorem zs_ald2 {g : Int → Value} {i : Int} {v : Value} (hx : p.tables.exec = Jvm.exec) (hb : c.code = cc) (hA : zKA cI c1 c2 s) (hv : vA c2 H a n g) (h0 : 0 ≤ i) (h1 : i < (n : Int)) (hn : n ≤ 65536) (hfv : g i = v) (hdg : decode cc pc = .ok (.aaload, 1))
    (kk : W p l e R s m args below meth c H locs cells slots Q (F0 m (pc + 1) ls (v :: rest))) : W p l e R s m args below meth c H locs cells slots Q (F0 m pc ls (.int (zI i) :: .ref a :: rest)) := by
  have hi := zI_in h0 h1 hn
  refine W.aald hx hb (v := v) (ty := .array (.array .int)) hv (hA.a2 n _) rfl (fun h => by cases h) (by rw [arrV_size]; exact hi) ?_ rfl rfl hdg kk
  rw [zI_cl h0 (by omega), arrV_read _ _ (by omega), Int.toNat_of_nonneg h0, hfv]
theorem zs_lenI {g : Int → Value} (hx : p.tables.exec = Jvm.exec) (hb : c.code = cc) (hA : zKA cI c1 c2 s) (hv : vA cI H a n g) (hdg : decode cc pc = .ok (.arraylength, 1))
    (kk : W p l e R s m args below meth c H locs cells slots Q (F0 m (pc + 1) ls (.int (zI (n : Int)) :: rest))) : W p l e R s m args below meth c H locs cells slots Q (F0 m pc ls (.ref a :: rest)) :=
  W.alen hx hb hv (hA.aI n _) (by rw [arrV_size]; exact zlen) rfl rfl hdg kk
theorem zs_len1 {g : Int → Value} (hx : p.tables.exec = Jvm.exec) (hb : c.code = cc) (hA : zKA cI c1 c2 s) (hv : vA c1 H a n g) (hdg : decode cc pc = .ok (.arraylength, 1))
    (kk : W p l e R s m args below meth c H locs cells slots Q (F0 m (pc + 1) ls (.int (zI (n : Int)) :: rest))) : W p l e R s m args below meth c H locs cells slots Q (F0 m pc ls (.ref a :: rest)) :=
  W.alen hx hb hv (hA.a1 n _) (by rw [arrV_size]; exact zlen) rfl rfl hdg kk
theorem zs_ist {f : Int → Int} {i x : Int} (hx : p.tables.exec = Jvm.exec) (hb : c.code = cc) (hA : zKA cI c1 c2 s) (hv : iA cI H a n f) (hS : va_S A H0 H locs) (haA : A a) (h0 : 0 ≤ i) (h1 : i < (n : Int)) (hn : n ≤ 65536) (hdg : decode cc pc = .ok (.iastore, 1))
    (kk : ∀ (H1 : Heap) (locs1 : List Loc), iA cI H1 a n (up f i x) → H1.size = H.size → (∀ q : Nat, q ≠ a → H1[q]? = H[q]?) → va_S A H0 H1 locs1 → W p l e R s m args below meth c H1 locs1 cells slots Q (F0 m (pc + 1) ls rest)) : W p l e R s m args below meth c H locs cells slots Q (F0 m pc ls (.int (zI x) :: .int (zI i) :: .ref a :: rest)) := by
  have hi := zI_in h0 h1 hn
  refine W.iast hx hb hv (hA.aI n _) (fun h => by cases h) (by rw [arrV_size]; exact hi) rfl rfl hdg fun H1 e1 z oq => kk H1 _ ?_ z oq (hS.put z oq haA)
  rw [arrV_store] at e1
  unfold iA vA
  rw [e1, ← upV_iV]
  refine congrArg some (arrV_cg fun j hj => ?_)
  unfold updV upV
  rw [zI_cl h0 (by omega)]
  by_cases h : j = i.toNat
  · rw [if_pos h, if_pos (by omega)]
  · rw [if_neg h, if_neg (by omega)]
theorem zs_ast1 {g gv : Int → Value} {i : Int} {v nv : Nat} (hx : p.tables.exec = Jvm.exec) (hb : c.code = cc) (hA : zKA cI c1 c2 s) (hv : vA c1 H a n g) (hr : vA cI H v nv gv) (hS : va_S A H0 H locs) (haA : A a) (h0 : 0 ≤ i) (h1 : i < (n : Int)) (hn : n ≤ 65536) (hdg : decode cc pc = .ok (.aastore, 1))
    (kk : ∀ (H1 : Heap) (locs1 : List Loc), vA c1 H1 a n (upV g i (.ref v)) → H1.size = H.size → (∀ q : Nat, q ≠ a → H1[q]? = H[q]?) → va_S A H0 H1 locs1 → W p l e R s m args below meth c H1 locs1 cells slots Q (F0 m (pc + 1) ls rest)) : W p l e R s m args below meth c H locs cells slots Q (F0 m pc ls (.ref v :: .int (zI i) :: .ref a :: rest)) := by
  have hi := zI_in h0 h1 hn
  obtain ⟨-, ⟨k, cc9, g1, g2⟩, ⟨k1, g3, g4⟩, -⟩ := hA
  refine W.aast hx hb hv (fun q h => by cases h) (fun h => by cases h) g3 g4 rfl g1 ⟨fun h => hi (Or.inl h), by rw [arrV_size]; exact Nat.not_le.mp fun h => hi (Or.inr h)⟩ hr (fun q h => by cases h) g1 (zself _ _) rfl rfl hdg fun H1 e1 z oq => kk H1 _ ?_ z oq (hS.put z oq haA)
  rw [arrV_store] at e1
  unfold vA
  rw [e1]
  refine congrArg some (arrV_cg fun j hj => ?_)
  unfold updV upV
  rw [zI_cl h0 (by omega)]
  by_cases h : j = i.toNat
  · rw [if_pos h, if_pos (by omega)]
  · rw [if_neg h, if_neg (by omega)]
theorem zs_newI {N' : Nat} (hx : p.tables.exec = Jvm.exec) (hb : c.code = cc) (hA : zKA cI c1 c2 s) (harr : (Cond.arrayClass .int).before args s = true) (hS : va_S A H0 H locs) {z : Int} (hz : z = (N' : Int)) (hn : N' ≤ 65536) (hcells : cells + 1 ≤ R.cells) (hslots : slots + N' ≤ R.slots) (hdg : decode cc pc = .ok (.newarray .int, 2))
    (kk : ∀ (H1 : Heap) (q : Nat), q = H.size → iA cI H1 q N' (cst 0) → H1.size = H.size + 1 → (∀ x : Nat, x < H.size → H1[x]? = H[x]?) → va_S A H0 H1 locs → W p l e R s m args below meth c H1 locs (cells + 1) (slots + N') Q (F0 m (pc + 2) ls (.ref q :: rest))) : W p l e R s m args below meth c H locs cells slots Q (F0 m pc ls (.int (zI z) :: rest)) := by
  subst hz
  refine va_newaK hx hb (atype := .int) harr (g := F0 m pc ls (.int (zI (N' : Int)) :: rest)) (N := N') rfl hdg rfl ?_ (by rw [zI_cl (by omega) (by omega)]; exact Int.toNat_natCast N') (by show N' * 4 ≤ _; omega) hcells hslots (h := H.size) rfl fun H1 cA e1 z1 o1 _ hNm => ?_
  · intro h
    have := (zI_lt (a := (N' : Int)) (b := 0) ⟨by omega, by omega⟩ ⟨by decide, by decide⟩).mp h
    omega
  · have hNm2 : s.vm.findClass "[I" = some cA := hNm
    obtain ⟨⟨_, hI, _, _⟩, -⟩ := hA
    have e : cA = cI := Option.some.inj (hNm2.symm.trans hI)
    subst e
    exact kk H1 H.size rfl e1 z1 o1 ⟨Nat.le_trans hS.1 (by omega), fun q h1 h2 => (o1 q (Nat.lt_of_lt_of_le h1 hS.1)).trans (hS.2.1 q h1 h2), hS.2.2⟩
theorem zs_newA {N' : Nat} (hx : p.tables.exec = Jvm.exec) (hb : c.code = cc) (hA : zKA cI c1 c2 s) (hown : s.vm.findClass own = some m.cls) (hclink : (Cond.classLink own index "[I").before args s = true) (hS : va_S A H0 H locs) {z : Int} (hz : z = (N' : Int)) (hn : N' ≤ 65536) (hcells : cells + 1 ≤ R.cells) (hslots : slots + N' ≤ R.slots) (hdg : decode cc pc = .ok (.anewarray index, 3))
    (kk : ∀ (H1 : Heap) (q : Nat), q = H.size → vA c1 H1 q N' (fun _ => .null) → H1.size = H.size + 1 → (∀ x : Nat, x < H.size → H1[x]? = H[x]?) → va_S A H0 H1 locs → W p l e R s m args below meth c H1 locs (cells + 1) (slots + N') Q (F0 m (pc + 3) ls (.ref q :: rest))) : W p l e R s m args below meth c H locs cells slots Q (F0 m pc ls (.int (zI z) :: rest)) := by
  subst hz
  have e9 : (zI (N' : Int)).toNatClampNeg = N' := by rw [zI_cl (by omega) (by omega)]; exact Int.toNat_natCast N'
  have hov : (Cond.arrayOver (.array .int)).before args s = true := over_moved (Vm.Alike.refl _) hA.1.1
  refine W.anewA (t := .int) hx hb hown (by exact hclink) hov rfl hdg rfl ?_ (by rw [e9]; omega) hcells (by rw [e9]; exact hslots) fun cA kA comp f1 f2 f3 f4 => ?_
  · intro h
    have := (zI_lt (a := (N' : Int)) (b := 0) ⟨by omega, by omega⟩ ⟨by decide, by decide⟩).mp h
    omega
  · have hNm2 : s.vm.findClass "[[I" = some cA := f1
    obtain ⟨⟨_, _, h1, _⟩, -⟩ := hA
    have e : cA = c1 := Option.some.inj (hNm2.symm.trans h1)
    subst e
    rw [e9]
    have o1 : ∀ q : Nat, q < H.size → (H.push ({ cls := cA, slots := Array.replicate N' .null, vm := .none } : Cell))[q]? = H[q]? := fun q hq => by rw [Array.getElem?_push, if_neg (Nat.ne_of_lt hq)]
    have z1 : (H.push ({ cls := cA, slots := Array.replicate N' .null, vm := .none } : Cell)).size = H.size + 1 := Array.size_push _
    refine kk _ H.size rfl ?_ z1 o1 ⟨Nat.le_trans hS.1 (by omega), fun q h1 h2 => (o1 q (Nat.lt_of_lt_of_le h1 hS.1)).trans (hS.2.1 q h1 h2), hS.2.2⟩
    show (H.push _)[H.size]? = _
    rw [Array.getElem?_push_size, arrV_new]
end ZS
/-- a contract: from heaps as Pre says to heaps as Post says; sz: how many cells there are at its entry -/
def zG (l : Launch) (y : MethodName) (ws : List Cond) (rm : Room) (D : va_G) (cI cZ c1 c2 : ClassId) (av : List Value) (sz : Nat) (Pre : Heap → Prop) (Post : Option Value → Heap → Prop) (free : Nat → Prop) (mc ms : Nat) : Prop :=
  Met l y ws rm (va_Pc av (fun U => U.heap.size = sz ∧ Pre U.heap ∧ va_K D vwCl [(cI, .int), (cZ, .boolean)] U ∧ zKA cI c1 c2 U)) (fun _ st o t => (∃ v, o = .returned v ∧ Post v t.heap) ∧ va_F free st t) mc ms free
section ZGC
variable {p : Program} {l : Launch} {e : Env} {R : Room} {s : State} {m : MethodId} {args : Array Value} {below : List Frame} {meth : Method} {c : Code} {H : Heap} {locs : List Loc} {cells slots : Nat} {Q : State → Prop}
variable {pc : Nat} {ls : Array Slot} {rest st0 As : List Value} {cc bytes : ByteArray} {D : va_G} {cI cZ c1 c2 : ClassId} {A free : Nat → Prop} {H0 : Heap} {Pre : Heap → Prop} {Post : Option Value → Heap → Prop}
variable {y : MethodName} {maxL nL index n mc ms : Nat} {ret : Option FieldType} {ws Ts : List Cond} {rm : Room} {own : String}
theorem zblindG {av : List Value} {sz : Nat} : FrameBlind (va_Pc av (fun U => U.heap.size = sz ∧ Pre U.heap ∧ va_K D vwCl [(cI, .int), (cZ, .boolean)] U ∧ zKA cI c1 c2 U)) := fun a U g mk q => by
  obtain ⟨q0, q1, qP, qK, qA⟩ := q
  exact ⟨q0, q1, qP, va_K.moved (u := U) (U := U.calling g mk a) (Vm.Alike.refl U.vm) qK, zKA.moved (u := U) (U := U.calling g mk a) (Vm.Alike.refl U.vm) qA⟩
theorem zcallG (hr : va_Run p l e R s m args below meth c H locs cells slots mc ms (F0 m pc ls st0) rest (fun st o t => (∃ v, o = .returned v ∧ Post v t.heap) ∧ va_F free st t) free) (hS : va_S A H0 H locs) (hA : ∀ q, free q → A q)
    (kk : ∀ (v : Option Value) (H1 : Heap) (locs1 : List Loc), Post v H1 → H.size ≤ H1.size → (∀ q : Nat, q < H.size → ¬ free q → H1[q]? = H[q]?) → va_S A H0 H1 locs1 → W p l e R s m args below meth c H1 locs1 (cells + mc) (slots + ms) Q (F0 m (pc + 3) ls (v.toList ++ rest))) : W p l e R s m args below meth c H locs cells slots Q (F0 m pc ls st0) := by
  intro T hT X
  obtain ⟨v', st₀, t, T', L', h0, X', hL, e1, e2, ⟨⟨v, hv, hp⟩, hz, hk⟩, st⟩ := hr T hT X
  cases hv
  rw [h0] at hz hk
  obtain ⟨t2, a1, b1⟩ := kk v' T'.heap (locs ++ L') (by rw [e1]; exact hp) (by rw [e1]; exact hz) (fun q h1 h2 => by rw [e1]; exact hk q h1 h2) ⟨Nat.le_trans hS.1 (by rw [e1]; exact hz), fun q h1 h2 => by rw [e1, hk q (Nat.lt_of_lt_of_le h1 hS.1) (fun z => h2 (hA q z))]; exact hS.2.1 q h1 h2, fun q hq => by
      rcases List.mem_append.mp hq with h | h
      · exact hS.2.2 q h
      · exact hA _ (hL q h)⟩ T' rfl X'
  exact ⟨t2, st t2 a1, b1⟩
theorem zcallGV {b ci : Nat} {fs : List Value} {cq : vw_C} (S : CallFix p m c cc nL s args Ts own) (hK : va_K D vwCl [(cI, .int), (cZ, .boolean)] s) (hQ : zKA cI c1 c2 s) (hM : zG l y ws rm D cI cZ c1 c2 (.ref b :: As) H.size Pre Post free mc ms) (cw : CallW R s args own cq.1 index y bytes maxL ret ws rm mc ms n) (hPre : Pre H) (hO : va_P D vwCl [(b, .inr (ci, fs))] H) (hS : va_S A H0 H locs) (hA : ∀ q, free q → A q)
    (hc : vwCl[ci]? = some cq) (hn : As.length = n) (hsz : ls.size = nL) (hst : st0 = As.reverse ++ .ref b :: rest) (hro : (rest.map fun v => v.category).sum ≤ 8) (hdg : decode cc pc = .ok (.invokevirtual index, 3)) (hf : cells + mc ≤ R.cells ∧ slots + ms ≤ R.slots)
    (kk : ∀ (v : Option Value) (H1 : Heap) (locs1 : List Loc), Post v H1 → H.size ≤ H1.size → (∀ q : Nat, q < H.size → ¬ free q → H1[q]? = H[q]?) → va_S A H0 H1 locs1 → W p l e R s m args below meth c H1 locs1 (cells + mc) (slots + ms) Q (F0 m (pc + 3) ls (v.toList ++ rest))) : W p l e R s m args below meth c H locs cells slots Q (F0 m pc ls st0) :=
  zcallG (va_runV (As := As) (rest := rest) S hM cw ⟨zblindG, va_recv hK hO hc (q0 := 0) rfl, fun U hU hW => ⟨rfl, by rw [hU], by rw [hU]; exact hPre, va_K.moved hW.alike hK, zKA.moved hW.alike hQ⟩⟩ rfl hn hsz hst (lv_room hro) hdg hf) hS hA kk
theorem zcallGS (S : CallFix p m c cc nL s args Ts own) (hK : va_K D vwCl [(cI, .int), (cZ, .boolean)] s) (hQ : zKA cI c1 c2 s) (hM : zG l y ws rm D cI cZ c1 c2 As H.size Pre Post free mc ms) (cw : CallB R s args own index y bytes maxL ret ws rm mc ms n ∧ (Cond.static y).before args s = true) (hPre : Pre H) (hS : va_S A H0 H locs) (hA : ∀ q, free q → A q)
    (hn : As.length = n) (hsz : ls.size = nL) (hst : st0 = As.reverse ++ rest) (hro : (rest.map fun v => v.category).sum ≤ 8) (hdg : decode cc pc = .ok (.invokestatic index, 3)) (hf : cells + mc ≤ R.cells ∧ slots + ms ≤ R.slots)
    (kk : ∀ (v : Option Value) (H1 : Heap) (locs1 : List Loc), Post v H1 → H.size ≤ H1.size → (∀ q : Nat, q < H.size → ¬ free q → H1[q]? = H[q]?) → va_S A H0 H1 locs1 → W p l e R s m args below meth c H1 locs1 (cells + mc) (slots + ms) Q (F0 m (pc + 3) ls (v.toList ++ rest))) : W p l e R s m args below meth c H locs cells slots Q (F0 m pc ls st0) :=
  zcallG (va_runS (As := As) (rest := rest) S hM cw ⟨zblindG, fun U hU hW => ⟨rfl, by rw [hU], by rw [hU]; exact hPre, va_K.moved hW.alike hK, zKA.moved hW.alike hQ⟩⟩ rfl hn hsz hst (lv_room hro) hdg hf) hS hA kk
/-- the ends -/
abbrev zGQ (Post : Option Value → Heap → Prop) (free : Nat → Prop) : Array Value → State → Outcome → State → Prop := fun _ st o t => (∃ v, o = .returned v ∧ Post v t.heap) ∧ va_F free st t
theorem zgret_i {x z : Int} (hx : p.tables.exec = Jvm.exec) (hb : c.code = cc) (hr : meth.sig.returnType = some .int) (hlocks : meth.locks = false) (he : x = z) (hP : Post (some (.int (zI z))) H) (hS : va_S free s.heap H locs) (hdg : decode cc pc = .ok (.ireturn, 1)) (h1 : cells ≤ mc) (h2 : slots ≤ ms) :
    W p l e R s m args below meth c H locs cells slots (MQ below (zGQ Post free) args s mc ms free) (F0 m pc ls [.int (zI x)]) := by
  subst he
  exact W.widen h1 h2 (W.iret hx hb hr (fun t ht _ => ⟨⟨_, rfl, by rw [ht]; exact hP⟩, hS.F ht⟩) hS.2.2 hdg hlocks)
theorem zgret_z {x z : Int} (hx : p.tables.exec = Jvm.exec) (hb : c.code = cc) (hr : meth.sig.returnType = some .boolean) (hlocks : meth.locks = false) (hn : narrow .boolean (.int (zI x)) = .int (zI x)) (he : x = z) (hP : Post (some (.int (zI z))) H) (hS : va_S free s.heap H locs) (hdg : decode cc pc = .ok (.ireturn, 1)) (h1 : cells ≤ mc) (h2 : slots ≤ ms) :
    W p l e R s m args below meth c H locs cells slots (MQ below (zGQ Post free) args s mc ms free) (F0 m pc ls [.int (zI x)]) := by
  subst he
  exact W.widen h1 h2 (W.zret hx hb hr hn (fun t ht _ => ⟨⟨_, rfl, by rw [ht]; exact hP⟩, hS.F ht⟩) hS.2.2 hdg hlocks)
theorem zgret_v (hx : p.tables.exec = Jvm.exec) (hb : c.code = cc) (hr : meth.sig.returnType = none) (hlocks : meth.locks = false) (hP : Post none H) (hS : va_S free s.heap H locs) (hdg : decode cc pc = .ok (.return_, 1)) (h1 : cells ≤ mc) (h2 : slots ≤ ms) :
    W p l e R s m args below meth c H locs cells slots (MQ below (zGQ Post free) args s mc ms free) (F0 m pc ls []) :=
  W.widen h1 h2 (W.vret hx hb hr (fun t ht _ => ⟨⟨_, rfl, by rw [ht]; exact hP⟩, hS.F ht⟩) hS.2.2 hdg hlocks)
theorem zgret_a {q : Nat} {ty : FieldType} (hx : p.tables.exec = Jvm.exec) (hb : c.code = cc) (hr : meth.sig.returnType = some (.array ty)) (hlocks : meth.locks = false) (hP : Post (some (.ref q)) H) (hS : va_S free s.heap H locs) (hdg : decode cc pc = .ok (.areturn, 1)) (h1 : cells ≤ mc) (h2 : slots ≤ ms) :
    W p l e R s m args below meth c H locs cells slots (MQ below (zGQ Post free) args s mc ms free) (F0 m pc ls [.ref q]) :=
  W.widen h1 h2 (W.aret hx hb hr (Or.inr ⟨_, rfl⟩) (Or.inr ⟨_, rfl⟩) (fun t ht _ => ⟨⟨_, rfl, by rw [ht]; exact hP⟩, hS.F ht⟩) hS.2.2 hdg hlocks)
end ZGC
end
section
/-! a Sim at a: its object, its rows; kd tells the addresses apart: 0 the object, 10 + i person i's row, 100 + d the stages of degree d, -1 what is never written, -2 nothing of it -/
def rowP (pa sp al : Int → Int) (i : Int) : Int → Int := fun j => if j = 0 then pa i else if j = 1 then sp i else al i
def rowC (co da : Int → Int) (k : Int) : Int → Int := fun j => if j = 0 then co (192 + k) else da (192 + k)
abbrev obS (td wn : Int) (ap ac am : Nat) : va_E := .inr (3, [.int (zI td), .int (zI wn), .ref ap, .ref ac, .ref am])
def zSL (D : va_G) (cI c1 c2 : ClassId) (s0 ub : Nat) (H : Heap) (a : Nat) (kd : Nat → Int) (ap ac am : Nat) (ra rc : Int → Nat) (rr : Int → Int → Nat) (rm : Int → Nat) (n : Nat) (pa sp al co da : Int → Int) (M : Nat) (mo : Int → Int → Int) (td wn : Int) : Prop :=
  (va_P D vwCl [(a, obS td wn ap ac am)] H ∧ rA c1 H ap n ra ∧ rA c2 H ac 5 rc ∧ rA c1 H am M rm) ∧
  (∀ i : Int, 0 ≤ i → i < (n : Int) → iA cI H (ra i) 3 (rowP pa sp al i) ∧ kd (ra i) = 10 + i) ∧
  (∀ d : Int, 1 ≤ d → d ≤ 4 → rA c1 H (rc d) 3 (rr d) ∧ kd (rc d) = 100 + d) ∧
  (∀ d t : Int, 1 ≤ d → d ≤ 4 → 0 ≤ t → t ≤ 2 → iA cI H (rr d t) 2 (rowC co da ((d - 1) * 3 + t)) ∧ kd (rr d t) = -1) ∧
  (∀ i : Int, 0 ≤ i → i < (M : Int) → iA cI H (rm i) 9 (mo i) ∧ kd (rm i) = -1) ∧
  (kd a = 0 ∧ kd ap = -1 ∧ kd ac = -1 ∧ kd am = -1 ∧ n ≤ 16 ∧ M ≤ 240) ∧ (∀ x : Nat, x < s0 ∨ ub ≤ x → kd x = -2)
section ZSL
variable {D : va_G} {cI c1 c2 : ClassId} {s0 ub : Nat} {H H1 : Heap} {a : Nat} {kd : Nat → Int} {ap ac am : Nat} {ra rc : Int → Nat} {rr : Int → Int → Nat} {rm : Int → Nat} {n : Nat} {pa sp al co da : Int → Int} {M : Nat} {mo : Int → Int → Int} {td wn : Int}
abbrev SL0 (D : va_G) (cI c1 c2 : ClassId) (s0 ub : Nat) (a : Nat) (kd : Nat → Int) (ap ac am : Nat) (ra rc : Int → Nat) (rr : Int → Int → Nat) (rm : Int → Nat) (n : Nat) (pa sp al co da : Int → Int) (M : Nat) (mo : Int → Int → Int) (td wn : Int) (H : Heap) : Prop := zSL D cI c1 c2 s0 ub H a kd ap ac am ra rc rr rm n pa sp al co da M mo td wn
theorem zSL.obj (h : zSL D cI c1 c2 s0 ub H a kd ap ac am ra rc rr rm n pa sp al co da M mo td wn) : va_P D vwCl [(a, obS td wn ap ac am)] H := h.1.1
theorem zSL.ppl (h : zSL D cI c1 c2 s0 ub H a kd ap ac am ra rc rr rm n pa sp al co da M mo td wn) : rA c1 H ap n ra := h.1.2.1
theorem zSL.cod (h : zSL D cI c1 c2 s0 ub H a kd ap ac am ra rc rr rm n pa sp al co da M mo td wn) : rA c2 H ac 5 rc := h.1.2.2.1
theorem zSL.mou (h : zSL D cI c1 c2 s0 ub H a kd ap ac am ra rc rr rm n pa sp al co da M mo td wn) : rA c1 H am M rm := h.1.2.2.2
theorem zSL.row (h : zSL D cI c1 c2 s0 ub H a kd ap ac am ra rc rr rm n pa sp al co da M mo td wn) (i : Int) (h0 : 0 ≤ i) (h1 : i < (n : Int)) : iA cI H (ra i) 3 (rowP pa sp al i) := (h.2.1 i h0 h1).1
theorem zSL.cds (h : zSL D cI c1 c2 s0 ub H a kd ap ac am ra rc rr rm n pa sp al co da M mo td wn) (d : Int) (h0 : 1 ≤ d) (h1 : d ≤ 4) : rA c1 H (rc d) 3 (rr d) := (h.2.2.1 d h0 h1).1
theorem zSL.stg (h : zSL D cI c1 c2 s0 ub H a kd ap ac am ra rc rr rm n pa sp al co da M mo td wn) (d t : Int) (h0 : 1 ≤ d) (h1 : d ≤ 4) (h2 : 0 ≤ t) (h3 : t ≤ 2) : iA cI H (rr d t) 2 (rowC co da ((d - 1) * 3 + t)) := (h.2.2.2.1 d t h0 h1 h2 h3).1
theorem zSL.mrn (h : zSL D cI c1 c2 s0 ub H a kd ap ac am ra rc rr rm n pa sp al co da M mo td wn) (i : Int) (h0 : 0 ≤ i) (h1 : i < (M : Int)) : iA cI H (rm i) 9 (mo i) := (h.2.2.2.2.1 i h0 h1).1
theorem zSL.n16 (h : zSL D cI c1 c2 s0 ub H a kd ap ac am ra rc rr rm n pa sp al co da M mo td wn) : n ≤ 16 := h.2.2.2.2.2.1.2.2.2.2.1
theorem zSL.M240 (h : zSL D cI c1 c2 s0 ub H a kd ap ac am ra rc rr rm n pa sp al co da M mo td wn) : M ≤ 240 := h.2.2.2.2.2.1.2.2.2.2.2
theorem zSL.out (h : zSL D cI c1 c2 s0 ub H a kd ap ac am ra rc rr rm n pa sp al co da M mo td wn) {x : Nat} (hx : kd x ≠ -2) : s0 ≤ x ∧ x < ub := by
  have h9 := h.2.2.2.2.2.2 x
  have h1 : ¬ (x < s0 ∨ ub ≤ x) := fun q => hx (h9 q)
  omega
theorem va1k {a : Nat} {e : va_E} (h : va_P D vwCl [(a, e)] H) (hk : H1[a]? = H[a]?) : va_P D vwCl [(a, e)] H1 := va1 ((h 0 _ rfl).kept hk)
/-- what may have changed is none of its cells -/
theorem zSL.keepK (h : zSL D cI c1 c2 s0 ub H a kd ap ac am ra rc rr rm n pa sp al co da M mo td wn) (hk : ∀ x : Nat, kd x ≠ -2 → H1[x]? = H[x]?) : zSL D cI c1 c2 s0 ub H1 a kd ap ac am ra rc rr rm n pa sp al co da M mo td wn := by
  obtain ⟨⟨h1, h2, h3, h4⟩, h5, h6, h7, h8, ⟨g1, g2, g3, g4, g5, g6⟩, h9⟩ := h
  refine ⟨⟨va1k h1 (hk _ (by omega)), h2.kept (hk _ (by omega)), h3.kept (hk _ (by omega)), h4.kept (hk _ (by omega))⟩, fun i q0 q1 => ?_, fun d q0 q1 => ?_, fun d t q0 q1 q2 q3 => ?_, fun i q0 q1 => ?_, ⟨g1, g2, g3, g4, g5, g6⟩, h9⟩
  · have h := h5 i q0 q1
    exact ⟨h.1.kept (hk _ (by omega)), h.2⟩
  · have h := h6 d q0 q1
    exact ⟨h.1.kept (hk _ (by omega)), h.2⟩
  · have h := h7 d t q0 q1 q2 q3
    exact ⟨h.1.kept (hk _ (by omega)), h.2⟩
  · have h := h8 i q0 q1
    exact ⟨h.1.kept (hk _ (by omega)), h.2⟩
theorem zSL.keep (h : zSL D cI c1 c2 s0 ub H a kd ap ac am ra rc rr rm n pa sp al co da M mo td wn) (hk : ∀ x : Nat, s0 ≤ x → x < ub → H1[x]? = H[x]?) : zSL D cI c1 c2 s0 ub H1 a kd ap ac am ra rc rr rm n pa sp al co da M mo td wn :=
  h.keepK (fun x hx => hk x (h.out hx).1 (h.out hx).2)
/-- another upper bound: what lies above the old one is never written -/
theorem zSL.up {ub' : Nat} (h : zSL D cI c1 c2 s0 ub H a kd ap ac am ra rc rr rm n pa sp al co da M mo td wn) (hu : ub ≤ ub') (hs : s0 ≤ ub) : zSL D cI c1 c2 s0 ub' H a (fun x => if ub ≤ x ∧ x < ub' then -1 else kd x) ap ac am ra rc rr rm n pa sp al co da M mo td wn := by
  have e : ∀ x : Nat, kd x ≠ -2 → (if ub ≤ x ∧ x < ub' then (-1 : Int) else kd x) = kd x := fun x hx => by
    have := h.out hx
    rw [if_neg (by omega)]
  obtain ⟨h1, h5, h6, h7, h8, ⟨g1, g2, g3, g4, g5, g6⟩, h9⟩ := h
  refine ⟨h1, fun i q0 q1 => ?_, fun d q0 q1 => ?_, fun d t q0 q1 q2 q3 => ?_, fun i q0 q1 => ?_, ⟨by rw [e _ (by omega)]; exact g1, by rw [e _ (by omega)]; exact g2, by rw [e _ (by omega)]; exact g3, by rw [e _ (by omega)]; exact g4, g5, g6⟩, fun x hx => ?_⟩
  · have h := h5 i q0 q1
    exact ⟨h.1, by rw [e _ (by omega)]; exact h.2⟩
  · have h := h6 d q0 q1
    exact ⟨h.1, by rw [e _ (by omega)]; exact h.2⟩
  · have h := h7 d t q0 q1 q2 q3
    exact ⟨h.1, by rw [e _ (by omega)]; exact h.2⟩
  · have h := h8 i q0 q1
    exact ⟨h.1, by rw [e _ (by omega)]; exact h.2⟩
  · rw [if_neg (by omega)]
    exact h9 x (by omega)
/-- the day and what was worn -/
theorem zSL.num {td' wn' : Int} (h : zSL D cI c1 c2 s0 ub H a kd ap ac am ra rc rr rm n pa sp al co da M mo td wn) (ho : va_P D vwCl [(a, obS td' wn' ap ac am)] H1) (hk : ∀ x : Nat, x ≠ a → H1[x]? = H[x]?) : zSL D cI c1 c2 s0 ub H1 a kd ap ac am ra rc rr rm n pa sp al co da M mo td' wn' := by
  obtain ⟨⟨h1, h2, h3, h4⟩, h5, h6, h7, h8, ⟨g1, g2, g3, g4, g5, g6⟩, h9⟩ := h
  have k : ∀ x : Nat, kd x ≠ 0 → H1[x]? = H[x]? := fun x hx => hk x (fun q => hx (by rw [q]; exact g1))
  refine ⟨⟨ho, h2.kept (k _ (by omega)), h3.kept (k _ (by omega)), h4.kept (k _ (by omega))⟩, fun i q0 q1 => ?_, fun d q0 q1 => ?_, fun d t q0 q1 q2 q3 => ?_, fun i q0 q1 => ?_, ⟨g1, g2, g3, g4, g5, g6⟩, h9⟩
  · have h := h5 i q0 q1
    exact ⟨h.1.kept (k _ (by omega)), h.2⟩
  · have h := h6 d q0 q1
    exact ⟨h.1.kept (k _ (by omega)), h.2⟩
  · have h := h7 d t q0 q1 q2 q3
    exact ⟨h.1.kept (k _ (by omega)), h.2⟩
  · have h := h8 i q0 q1
    exact ⟨h.1.kept (k _ (by omega)), h.2⟩
/-- other mournings -/
theorem zSL.mrs {am' : Nat} {rm' : Int → Nat} {M' : Nat} {mo' : Int → Int → Int} (h : zSL D cI c1 c2 s0 ub H a kd ap ac am ra rc rr rm n pa sp al co da M mo td wn) (ho : va_P D vwCl [(a, obS td wn ap ac am')] H1) (hk : ∀ x : Nat, x ≠ a → H1[x]? = H[x]?)
    (hM : M' ≤ 240) (h1 : rA c1 H am' M' rm' ∧ kd am' = -1) (h2 : ∀ i : Int, 0 ≤ i → i < (M' : Int) → iA cI H (rm' i) 9 (mo' i) ∧ kd (rm' i) = -1) : zSL D cI c1 c2 s0 ub H1 a kd ap ac am' ra rc rr rm' n pa sp al co da M' mo' td wn := by
  have hL : zSL D cI c1 c2 s0 ub H a kd ap ac am' ra rc rr rm' n pa sp al co da M' mo' td wn → True := fun _ => trivial
  obtain ⟨⟨h1a, h2a, h3, h4⟩, h5, h6, h7, h8, ⟨g1, g2, g3, g4, g5, g6⟩, h9⟩ := h
  have k : ∀ x : Nat, kd x ≠ 0 → H1[x]? = H[x]? := fun x hx => hk x (fun q => hx (by rw [q]; exact g1))
  refine ⟨⟨ho, h2a.kept (k _ (by omega)), h3.kept (k _ (by omega)), h1.1.kept (k _ (by omega))⟩, fun i q0 q1 => ?_, fun d q0 q1 => ?_, fun d t q0 q1 q2 q3 => ?_, fun i q0 q1 => ?_, ⟨g1, g2, g3, h1.2, g5, hM⟩, h9⟩
  · have h := h5 i q0 q1
    exact ⟨h.1.kept (k _ (by omega)), h.2⟩
  · have h := h6 d q0 q1
    exact ⟨h.1.kept (k _ (by omega)), h.2⟩
  · have h := h7 d t q0 q1 q2 q3
    exact ⟨h.1.kept (k _ (by omega)), h.2⟩
  · have h := h2 i q0 q1
    exact ⟨h.1.kept (k _ (by omega)), h.2⟩
/-- a person's row -/
theorem zSL.prs {pa' sp' al' : Int → Int} {i0 : Int} (h : zSL D cI c1 c2 s0 ub H a kd ap ac am ra rc rr rm n pa sp al co da M mo td wn) (h0 : 0 ≤ i0) (h1 : i0 < (n : Int)) {f : Int → Int} (hr : iA cI H1 (ra i0) 3 f) (hk : ∀ x : Nat, x ≠ ra i0 → H1[x]? = H[x]?)
    (hf : ∀ j : Int, 0 ≤ j → j < 3 → f j = rowP pa' sp' al' i0 j) (ho : ∀ i : Int, 0 ≤ i → i < (n : Int) → i ≠ i0 → pa' i = pa i ∧ sp' i = sp i ∧ al' i = al i) : zSL D cI c1 c2 s0 ub H1 a kd ap ac am ra rc rr rm n pa' sp' al' co da M mo td wn := by
  obtain ⟨⟨h1a, h2, h3, h4⟩, h5, h6, h7, h8, ⟨g1, g2, g3, g4, g5, g6⟩, h9⟩ := h
  have e0 := (h5 i0 h0 h1).2
  have k : ∀ x : Nat, kd x ≠ 10 + i0 → H1[x]? = H[x]? := fun x hx => hk x (fun q => hx (by rw [q]; exact e0))
  refine ⟨⟨va1k h1a (k _ (by omega)), h2.kept (k _ (by omega)), h3.kept (k _ (by omega)), h4.kept (k _ (by omega))⟩, fun i q0 q1 => ?_, fun d q0 q1 => ?_, fun d t q0 q1 q2 q3 => ?_, fun i q0 q1 => ?_, ⟨g1, g2, g3, g4, g5, g6⟩, h9⟩
  · by_cases e : i = i0
    · subst e
      exact ⟨hr.cgI (fun j j0 j1 => hf j j0 j1), e0⟩
    · have h := h5 i q0 q1
      obtain ⟨e1, e2, e3⟩ := ho i q0 q1 e
      refine ⟨(h.1.kept (k _ (by omega))).cgI (fun j _ _ => ?_), h.2⟩
      unfold rowP
      rw [e1, e2, e3]
  · have h := h6 d q0 q1
    exact ⟨h.1.kept (k _ (by omega)), h.2⟩
  · have h := h7 d t q0 q1 q2 q3
    exact ⟨h.1.kept (k _ (by omega)), h.2⟩
  · have h := h8 i q0 q1
    exact ⟨h.1.kept (k _ (by omega)), h.2⟩
end ZSL
/-- a Sim, its layout anywhere from s0 on -/
def zSW (D : va_G) (cI c1 c2 : ClassId) (s0 a n : Nat) (pa sp al co da : Int → Int) (M : Nat) (mo : Int → Int → Int) (td wn : Int) (H : Heap) : Prop :=
  ∃ (kd : Nat → Int) (ap ac am : Nat) (ra rc : Int → Nat) (rr : Int → Int → Nat) (rm : Int → Nat), zSL D cI c1 c2 s0 H.size H a kd ap ac am ra rc rr rm n pa sp al co da M mo td wn
/-- a list of rows of nine under the making -/
def zML (cI c1 : ClassId) (H : Heap) (b K : Nat) (rm : Int → Nat) (mo : Int → Int → Int) : Prop := rA c1 H b K rm ∧ ∀ i : Int, 0 ≤ i → i < (K : Int) → iA cI H (rm i) 9 (mo i)
theorem zML.grow {cI c1 : ClassId} {H H1 : Heap} {b K : Nat} {rm : Int → Nat} {mo : Int → Int → Int} (h : zML cI c1 H b K rm mo) (hk : ∀ x : Nat, x < H.size → H1[x]? = H[x]?) : zML cI c1 H1 b K rm mo := ⟨h.1.grow hk, fun i h0 h1 => (h.2 i h0 h1).grow hk⟩
theorem zgrowP {D : va_G} {w : va_W} {H H1 : Heap} (h : va_P D vwCl w H) (hk : ∀ x : Nat, x < H.size → H1[x]? = H[x]?) : va_P D vwCl w H1 := h.kept (fun k q hq => hk _ (h k q hq).lt)
/-- what the Sim's methods answer -/
def onF (f : Int → Int) (t : Int) : Int := if t - f 2 < f 4 then f 3 else if t - f 2 - f 4 < f 6 then f 5 else if t - f 2 - f 4 - f 6 < f 8 then f 7 else -1
def enF (f : Int → Int) : Int := f 2 + f 4 + f 6 + f 8
def wrT (mo : Int → Int → Int) (p t : Int) (i : Int) : Int := if mo i 0 = p then onF (mo i) t else 0
def wrF (mo : Int → Int → Int) (M : Nat) (t p : Int) : Int := mxF (wrT mo p t) M
def lfT (mo : Int → Int → Int) (td p d : Int) (i : Int) : Int := if mo i 0 = p ∧ (d < 0 ∨ mo i 1 = d) then enF (mo i) - td else 0
def lfS (mo : Int → Int → Int) (M : Nat) (td p d : Int) : Int := mxF (lfT mo td p d) M
def icT (mo : Int → Int → Int) (M : Nat) (t p : Int) : Int := if 0 < wrF mo M t p then 1 else 0
def icF (mo : Int → Int → Int) (M n : Nat) (t : Int) : Int := smF (icT mo M t) n
def fC (P : Int → Bool) : Nat → Nat
  | 0 => 0
  | k + 1 => if P (k : Int) = true then fC P k + 1 else fC P k
def fI (P : Int → Bool) : Nat → Int → Int
  | 0 => fun _ => 0
  | k + 1 => if P (k : Int) = true then (fun j => if j = (fC P k : Int) then (k : Int) else fI P k j) else fI P k
theorem fC_y {P : Int → Bool} {k : Nat} (h : P (k : Int) = true) : fC P (k + 1) = fC P k + 1 := if_pos h
theorem fC_n {P : Int → Bool} {k : Nat} (h : ¬ P (k : Int) = true) : fC P (k + 1) = fC P k := if_neg h
theorem fI_y {P : Int → Bool} {k : Nat} (h : P (k : Int) = true) : fI P (k + 1) = fun j => if j = (fC P k : Int) then (k : Int) else fI P k j := if_pos h
theorem fI_n {P : Int → Bool} {k : Nat} (h : ¬ P (k : Int) = true) : fI P (k + 1) = fI P k := if_neg h
theorem fC_le (P : Int → Bool) (k : Nat) : fC P k ≤ k := by
  induction k with
  | zero => exact Nat.le_refl 0
  | succ k ih =>
    by_cases h : P (k : Int) = true
    · rw [fC_y h]; omega
    · rw [fC_n h]; omega
def tri : Nat → Nat
  | 0 => 0
  | k + 1 => tri k + (k + 1)
theorem tri_s (k : Nat) : tri (k + 1) = tri k + (k + 1) := rfl
theorem tri_mono {a b : Nat} (h : a ≤ b) : tri a ≤ tri b := by
  induction b with
  | zero => rw [show a = 0 by omega]; exact Nat.le_refl _
  | succ b ih =>
    by_cases e : a = b + 1
    · rw [e]; exact Nat.le_refl _
    · rw [tri_s]
      have := ih (by omega)
      omega
theorem tri_240 {a : Nat} (h : a ≤ 240) : tri a ≤ 28920 := Nat.le_trans (tri_mono h) (by decide +kernel)
theorem tri_16 {a : Nat} (h : a ≤ 16) : tri a ≤ 136 := Nat.le_trans (tri_mono h) (by decide +kernel)
/-- one more row laid behind -/
theorem zML.push {cI c1 : ClassId} {H : Heap} {b' K v : Nat} {rm : Int → Nat} {mo : Int → Int → Int} {f : Int → Int} (h2 : ∀ i : Int, 0 ≤ i → i < (K : Int) → iA cI H (rm i) 9 (mo i)) (hv : iA cI H v 9 f) (hb : rA c1 H b' (K + 1) (fun j => if j = (K : Int) then v else rm j)) : zML cI c1 H b' (K + 1) (fun j => if j = (K : Int) then v else rm j) (fun j => if j = (K : Int) then f else mo j) := by
  refine ⟨hb, fun i h0 h1 => ?_⟩
  by_cases e : i = (K : Int)
  · show iA cI H (if i = (K : Int) then v else rm i) 9 (if i = (K : Int) then f else mo i)
    rw [if_pos e, if_pos e]
    exact hv
  · show iA cI H (if i = (K : Int) then v else rm i) 9 (if i = (K : Int) then f else mo i)
    rw [if_neg e, if_neg e]
    exact h2 i h0 (by omega)
theorem zML.cg {cI c1 : ClassId} {H : Heap} {b K K' : Nat} {rm : Int → Nat} {mo mo' : Int → Int → Int} (h : zML cI c1 H b K rm mo) (hK : K = K') (e : ∀ i : Int, 0 ≤ i → i < (K : Int) → mo i = mo' i) : zML cI c1 H b K' rm mo' := by
  subst hK
  exact ⟨h.1, fun i h0 h1 => by rw [← e i h0 h1]; exact h.2 i h0 h1⟩
end
