/-- the law's own row of one long -/
abbrev wO (cJ : ClassId) (o : Nat) (f : Nat → Int64) : va_W := [(o, .inl (cJ, 1, .inr (.inl f)))]
theorem zapp {D : va_G} {a b : va_W} {H : Heap} (h1 : va_P D vwCl a H) (h2 : va_P D vwCl b H) : va_P D vwCl (a ++ b) H := va_P.app h1 h2
theorem zleft {D : va_G} {a b : va_W} {H : Heap} (h : va_P D vwCl (a ++ b) H) : va_P D vwCl a H := fun k q hk => h k q (by rw [List.getElem?_append_left (List.getElem?_eq_some_iff.mp hk).1]; exact hk)
theorem zright {D : va_G} {a b : va_W} {H : Heap} (h : va_P D vwCl (a ++ b) H) : va_P D vwCl b H := fun k q hk => h (a.length + k) q (by rw [List.getElem?_append_right (Nat.le_add_right _ _), Nat.add_sub_cancel_left]; exact hk)
def zIO : String := "java/lang/IndexOutOfBoundsException"
def zIS : String := "java/lang/IllegalStateException"
def zIA : String := "java/lang/IllegalArgumentException"
/-- which exceptions a catch takes -/
def zE (U : State) : Prop := ((Cond.castable zIO zIO).before #[] U = true ∧ (Cond.castable zIS zIS).before #[] U = true ∧ (Cond.castable zIA zIA).before #[] U = true) ∧ va_Nc zIS zIO U ∧ va_Nc zIA zIO U ∧ va_Nc zIS zIA U
theorem zE.warm {s U : State} (hW : s.WarmedH U.vm) (h : zE s) : zE U := ⟨⟨zcast hW.alike h.1.1, zcast hW.alike h.1.2.1, zcast hW.alike h.1.2.2⟩, h.2.1.moved hW.alike, h.2.2.1.moved hW.alike, h.2.2.2.moved hW.alike⟩
theorem zE.drawn {s : State} {d : Drawn} (h : zE s) : zE (s.setDrawn d) := ⟨⟨zcast (s := s) (Vm.Alike.refl s.vm) h.1.1, zcast (s := s) (Vm.Alike.refl s.vm) h.1.2.1, zcast (s := s) (Vm.Alike.refl s.vm) h.1.2.2⟩, h.2.1.moved (Vm.Alike.refl s.vm), h.2.2.1.moved (Vm.Alike.refl s.vm), h.2.2.2.moved (Vm.Alike.refl s.vm)⟩
theorem zT.drawn {A : Nat → Prop} {s : State} {d : Drawn} {H : Heap} (h : zT A s H) : zT A (s.setDrawn d) H := ⟨vx_Zq.moved (u := s) (Vm.Alike.refl s.vm) h.1, vx_Zq.moved (u := s) (Vm.Alike.refl s.vm) h.2.1, fun x hx => (h.2.2.1 x hx).elim fun sa q => ⟨sa, vk_R.same (u := s) rfl q⟩, zB.at (s := s) (U := s.setDrawn d) (Vm.Alike.refl s.vm) h.2.2.2 #[]⟩
abbrev zQL (D : va_G) (w' : va_W) (cJ : ClassId) (o : Nat) (f' : Nat → Int64) (k : Int) (L : List Nat) : Array Value → State → Outcome → State → Prop := fun _ st oc t => (oc = .returned (some (.int (zI k))) ∧ va_P D vwCl w' t.heap ∧ va_P D vwCl (wO cJ o f') t.heap) ∧ va_F (fun a => a ∈ L ++ [o]) st t
abbrev zF : String → State → State → Prop := fun _ _ _ => False
/-- a contract of one of the law's own calls: it answers k, having caught what there was to catch -/
def zLW (l : Launch) (y : MethodName) (ws : List Cond) (rm : Room) (D : va_G) (tys : List (ClassId × FieldType)) (cJ : ClassId) (av : List Value) (w w' : va_W) (o : Nat) (f f' : Nat → Int64) (k : Int) (L : List Nat) (mc ms : Nat) : Prop :=
  vx_Met l y ws rm (va_Pc av (fun U => va_P D vwCl w U.heap ∧ va_P D vwCl (wO cJ o f) U.heap ∧ va_K D vwCl tys U ∧ zT (fun a => a ∈ L) U U.heap ∧ zE U)) (zQL D w' cJ o f' k L) zF mc ms (fun a => a ∈ L ++ [o])
section ZLAW
variable {p : Program} {l : Launch} {e : Env} {R : Room} {s : State} {m : MethodId} {args : Array Value} {below : List Frame} {meth : Method} {c : Code} {H : Heap} {locs : List Loc} {cells slots : Nat} {Q : State → Prop}
variable {pc : Nat} {ls : Array Slot} {rest st0 As : List Value} {cc bytes : ByteArray} {D : va_G} {tys : List (ClassId × FieldType)} {w w' ws0 : va_W} {A : Nat → Prop} {H0 : Heap} {L : List Nat} {cA cJ : ClassId} {a o : Nat} {f f' : Nat → Int64} {k : Int}
variable {y : MethodName} {maxL nL index n mc ms : Nat} {ret : Option FieldType} {ws Ts : List Cond} {rm : Room} {own : String} {hh : List (Nat × Nat × Nat × Nat)}
theorem z0cl : (zI 0).toNatClampNeg = 0 := by decide
theorem zr_last0 (hx : p.tables.exec = Jvm.exec) (hb : c.code = cc) (hK : va_K D vwCl tys s) (hP : va_P D vwCl ws0 H) (hN : L.Nodup) (hw : ws0.map Prod.fst = L) (hA : ∀ a ∈ L, A a) (hS : va_S A H0 H locs) (q0 t0 : Nat) (ha : ws0[q0]? = some (a, .inl (cA, 1, .inr (.inl f)))) (ht : tys[t0]? = some (cA, .long)) {x : Int64} (hdg : decode cc pc = .ok (.lastore, 1))
    (kk : ∀ (H1 : Heap) (locs1 : List Loc), va_P D vwCl (ws0.set q0 (a, .inl (cA, 1, .inr (.inl (vp_updL f 0 x))))) H1 → va_S A H0 H1 locs1 → W p l e R s m args below meth c H1 locs1 cells slots Q (F0 m (pc + 1) ls rest)) : W p l e R s m args below meth c H locs cells slots Q (F0 m pc ls (.long x :: .int (zI 0) :: .ref a :: rest)) :=
  va_last hx hb hK hP (zD hN hw hA) hS q0 t0 ha ht (zI_in (a := 0) (n := 1) (by decide) (by decide) (by decide)) hdg (fun H1 locs1 g1 _ g3 => kk H1 locs1 (by rw [z0cl] at g1; exact g1) g3)
theorem zr_lald0 (hx : p.tables.exec = Jvm.exec) (hb : c.code = cc) (hK : va_K D vwCl tys s) (hP : va_P D vwCl ws0 H) (q0 t0 : Nat) (ha : ws0[q0]? = some (a, .inl (cA, 1, .inr (.inl f)))) (ht : tys[t0]? = some (cA, .long)) (hdg : decode cc pc = .ok (.laload, 1))
    (kk : W p l e R s m args below meth c H locs cells slots Q (F0 m (pc + 1) ls (.long (f 0) :: rest))) : W p l e R s m args below meth c H locs cells slots Q (F0 m pc ls (.int (zI 0) :: .ref a :: rest)) :=
  va_lald hx hb hK hP q0 t0 ha ht (zI_in (a := 0) (n := 1) (by decide) (by decide) (by decide)) hdg (by rw [z0cl]; exact kk)
/-- the script's ints -/
def sc (xs : Nat → Int32) (z : Int) : Int := (xs z.toNat).toInt
theorem sc_rg (xs : Nat → Int32) (z : Int) : -2147483648 ≤ sc xs z ∧ sc xs z ≤ 2147483647 := zI_rg _
theorem zr_sld {b N : Nat} {xs : Nat → Int32} (hx : p.tables.exec = Jvm.exec) (hb : c.code = cc) (hX : va_X b N xs s H0) (hbl : b < H0.size) (hbA : ¬ A b) (hS : va_S A H0 H locs) {i : Int} (h0 : 0 ≤ i) (h1 : i < (N : Int)) (hN : N ≤ 65536) (hdg : decode cc pc = .ok (.iaload, 1))
    (kk : W p l e R s m args below meth c H locs cells slots Q (F0 m (pc + 1) ls (.int (zI (sc xs i)) :: rest))) : W p l e R s m args below meth c H locs cells slots Q (F0 m pc ls (.int (zI i) :: .ref b :: rest)) :=
  va_sld hx hb hX hbl hbA hS (zI_in h0 h1 hN) hdg (by rw [zI_cl h0 (by omega), zI_of (xs i.toNat)]; exact kk)
theorem zr_slen {b N : Nat} {xs : Nat → Int32} (hx : p.tables.exec = Jvm.exec) (hb : c.code = cc) (hX : va_X b N xs s H0) (hbl : b < H0.size) (hbA : ¬ A b) (hS : va_S A H0 H locs) (hdg : decode cc pc = .ok (.arraylength, 1))
    (kk : W p l e R s m args below meth c H locs cells slots Q (F0 m (pc + 1) ls (.int (zI (N : Int)) :: rest))) : W p l e R s m args below meth c H locs cells slots Q (F0 m pc ls (.ref b :: rest)) :=
  va_slen hx hb hX hbl hbA hS hdg (by rw [show Int32.ofNat N = zI (N : Int) from zlen]; exact kk)
theorem zr_icmp_eqT (hx : p.tables.exec = Jvm.exec) (hb : c.code = cc) {x y : Int32} {off : Int} {tgt : Nat} (h : x = y) (hdg : decode cc pc = .ok (.if_icmp .eq off, 3)) (ht : (pc : Int) + off = (tgt : Int)) (kt : W p l e R s m args below meth c H locs cells slots Q (F0 m tgt ls rest)) : W p l e R s m args below meth c H locs cells slots Q (F0 m pc ls (.int y :: .int x :: rest)) :=
  lv_icmp_eq hx hb hdg ht (fun _ => kt) (fun h2 => absurd h h2)
theorem zlcmp (x : Int64) : lg_cmp x x = 0 := by simp [lg_cmp]
/-- two longs that are the same: compared, and gone on -/
theorem zr_lcmp_eqT (hx : p.tables.exec = Jvm.exec) (hb : c.code = cc) {x y : Int64} {off : Int} {tgt : Nat} (h : x = y) (hdg : decode cc pc = .ok (.lcmp, 1)) (hdg2 : decode cc (pc + 1) = .ok (.ifCond .eq off, 3)) (ht : ((pc + 1 : Nat) : Int) + off = (tgt : Int)) (kt : W p l e R s m args below meth c H locs cells slots Q (F0 m tgt ls rest)) : W p l e R s m args below meth c H locs cells slots Q (F0 m pc ls (.long y :: .long x :: rest)) := by
  subst h
  refine W.lcmp hx hb hdg ?_
  rw [zlcmp]
  exact lv_if_eq hx hb hdg2 ht (fun _ => kt) (fun h2 => absurd rfl h2)
theorem zcallLW (S : CallFix p m c cc nL s args Ts own) (hK : va_K D vwCl tys s) (hM : zLW l y ws rm D tys cJ As w w' o f f' k L mc ms) (cw : vx_CSW R s args own index y bytes maxL ret hh ws rm mc ms n) (hP : va_P D vwCl w H) (hO : va_P D vwCl (wO cJ o f) H) (hT : zT (fun a => a ∈ L) s H) (hE : zE s) (hS : va_S A H0 H locs) (hA : ∀ a ∈ L ++ [o], A a)
    (hn : As.length = n) (hsz : ls.size = nL) (hst : st0 = As.reverse ++ rest) (hro : (rest.map fun v => v.category).sum ≤ 8) (hdg : decode cc pc = .ok (.invokestatic index, 3)) (hf : cells + mc ≤ R.cells ∧ slots + ms ≤ R.slots)
    (kk : ∀ (H1 : Heap) (locs1 : List Loc), va_P D vwCl w' H1 → va_P D vwCl (wO cJ o f') H1 → va_S A H0 H1 locs1 → H.size ≤ H1.size → (∀ q : Nat, q < H.size → q ∉ L ++ [o] → H1[q]? = H[q]?) → W p l e R s m args below meth c H1 locs1 (cells + mc) (slots + ms) Q (F0 m (pc + 3) ls (.int (zI k) :: rest))) : W p l e R s m args below meth c H locs cells slots Q (F0 m pc ls st0) := by
  intro T hT0 X
  rcases vx_runSX (As := As) (rest := rest) (g := F0 m pc ls st0) (H := H) (locs := locs) (cells := cells) (slots := slots) S hM cw ⟨fun a U g mk q => by
      obtain ⟨q0, qP, qO, qK, qT, qE⟩ := q
      exact ⟨q0, qP, qO, va_K.moved (u := U) (U := U.calling g mk a) (Vm.Alike.refl U.vm) qK, qT.calling, qE.1, va_Nc.moved (u := U) (Vm.Alike.refl U.vm) qE.2.1, va_Nc.moved (u := U) (Vm.Alike.refl U.vm) qE.2.2.1, va_Nc.moved (u := U) (Vm.Alike.refl U.vm) qE.2.2.2⟩,
    fun U hU hW => ⟨rfl, by rw [hU]; exact hP, by rw [hU]; exact hO, va_K.moved hW.alike hK, by rw [hU]; exact hT.warm hW, zE.warm hW hE⟩⟩ rfl hn hsz hst (lv_room hro) hdg hf T hT0 X with ⟨v, st₀, t, T', L', h0, X', hL, e1, e2, ⟨⟨hv, hp, ho⟩, hz, hk⟩, st⟩ | ⟨q, st₀, t, T', L', E', ce, h0, X', hL, e1, e2, hq, hce, hcv, hcl, st⟩
  · cases hv
    rw [h0] at hz hk
    obtain ⟨t2, a1, b1⟩ := kk T'.heap (locs ++ L') (by rw [e1]; exact hp) (by rw [e1]; exact ho) ⟨Nat.le_trans hS.1 (by rw [e1]; exact hz), fun q h1 h2 => by rw [e1, hk q (Nat.lt_of_lt_of_le h1 hS.1) (fun z => h2 (hA q z))]; exact hS.2.1 q h1 h2, fun q hq => by
        rcases List.mem_append.mp hq with h | h
        · exact hS.2.2 q h
        · exact hA _ (hL q h)⟩ (by rw [e1]; exact hz) (fun q h1 h2 => by rw [e1]; exact hk q h1 h2) T' rfl X'
    exact ⟨t2, st t2 a1, b1⟩
  · exact hq.elim
end ZLAW
set_option maxHeartbeats 4000000 in
set_option maxRecDepth 100000 in
theorem kL_addPersonok (l : Launch) (D : va_G) (hl0 : l.stackTraces = false) (cI cZ cJ : ClassId) (q : Nat → Nat) (o : Nat) (hN : (zLC q).Nodup) (hN2 : (zLC q ++ [o]).Nodup) (pa : Int → Int) (sp : Int → Int) (al : Int → Int) (dg : Int → Int) (co : Int → Int) (da : Int → Int) (mb : Int → Int) (dd : Int → Int) (ah : Int → Int) (wl : Int → Int) (lo : Int → Int) (n : Nat) (td : Int) (wn : Int) (f : Nat → Int64) (hn : n ≤ 16) (h1 : n < 16) : zLW l yL_addPerson wsL_addPerson ({ frames := 8, cells := 0, slots := 0, locals := 130 }) D [(cI, .int), (cZ, .boolean), (cJ, .long)] cJ [.ref (q 0), .ref o] (wC cI cZ q pa sp al dg co da mb dd ah wl lo n td wn) (wC cI cZ q (up pa (n : Int) (-1)) (up sp (n : Int) (-1)) (up al (n : Int) 1) dg co da mb dd ah wl lo (n + 1) td wn) o f (vp_updL f 0 (zI (n : Int)).toInt64) 0 (zLC q) 0 0 := by
  refine vx_ofWH (cc := cL_addPerson) (maxL := 3) (ret := some .int) (hh := [(0, 8, 11, 13)]) (by decide) rfl ?_
  intro p0 e9 s9 m9 ag9 below meth c9 s₁ B hml hv
  obtain ⟨hav, hP, hO, hK, hT, hE⟩ := hv
  have hx := B.exec
  have hb := B.bytes
  have hr := B.returns
  have hts := atoms_spec (ws := wsL_addPerson) B.pre
  have hown : s9.vm.findClass RL = some m9.cls := findClass_of_methodNamed B.named
  have hlocks := B.notSynchronized
  have hA : ∀ a ∈ zLC q, (fun a => a ∈ zLC q ++ [o]) a := fun _ h => List.mem_append_left _ h
  have hA2 : ∀ a ∈ zLC q ++ [o], (fun a => a ∈ zLC q ++ [o]) a := fun _ h => h
  have hoL : ∀ a ∈ [o], a ∉ zLC q := fun a ha h => (List.nodup_append.mp hN2).2.2 a h a ha rfl
  have hl := lv_entry ([.ref (q 0), .ref o]) (n := 3) (Nat.le_of_ble_eq_true rfl)
  have hE0 : entryFrame m9 ag9 3 = F0 m9 0 ((lg_sl ([.ref (q 0), .ref o]) ++ List.replicate (3 - (lg_sl ([.ref (q 0), .ref o])).length) Slot.unset).toArray) [] := by rw [hav]; exact lg_entry_eq m9 _ _
  obtain ⟨Q0, hQ0⟩ : ∃ Q0, Q0 = vx_MQ below (zQL D (wC cI cZ q (up pa (n : Int) (-1)) (up sp (n : Int) (-1)) (up al (n : Int) 1) dg co da mb dd ah wl lo (n + 1) td wn) cJ o (vp_updL f 0 (zI (n : Int)).toInt64) 0 (zLC q)) zF ag9 s9 0 0 (fun a => a ∈ zLC q ++ [o]) := ⟨_, rfl⟩
  show W p0 l e9 ({ frames := 8, cells := 0, slots := 0, locals := 130 }) s9 m9 ag9 below meth c9 s9.heap [] 0 0 (vx_MQ below (zQL D (wC cI cZ q (up pa (n : Int) (-1)) (up sp (n : Int) (-1)) (up al (n : Int) 1) dg co da mb dd ah wl lo (n + 1) td wn) cJ o (vp_updL f 0 (zI (n : Int)).toInt64) 0 (zLC q)) zF ag9 s9 0 0 (fun a => a ∈ zLC q ++ [o])) _
  rw [hE0, ← hQ0]
  have hS : va_S (fun a => a ∈ zLC q ++ [o]) s9.heap s9.heap [] := va_S.rf
  generalize hH0 : s9.heap = H at hP hO ⊢
  have hS : va_S (fun a => a ∈ zLC q ++ [o]) s9.heap H [] := by rw [hH0] at hS ⊢; exact hS
  have hT : zT (fun a => a ∈ zLC q) s9 H := by rw [hH0] at hT; exact hT
  generalize (lg_sl ([.ref (q 0), .ref o]) ++ List.replicate (3 - (lg_sl ([.ref (q 0), .ref o])).length) Slot.unset).toArray = ls at hl ⊢
  have hl : lv_has ls 3 [(0, .ref (q 0)), (1, .ref o)] := hl
  refine lv_aload_n hx hb dL_addPerson_0 rfl (lv_at hl 1 rfl) ?_
  refine zr_iconst hx hb dL_addPerson_1 ?_
  refine lv_aload_n hx hb dL_addPerson_2 rfl (lv_at hl 0 rfl) ?_
  refine zcallV (ci := 2) (q0 := 0) (cq := (RX2, TX2, 9)) (As := []) (rest := [.int (zI 0), .ref o]) ⟨hx, hb, hml, hown, hts⟩ (hK.sub (tys' := [(cI, .int), (cZ, .boolean)]) [0, 1] rfl) (kX2_addPersonok l D cI cZ q hN pa sp al dg co da mb dd ah wl lo n td wn hn h1) (cwV 0 hts gL_addPerson_X2_addPerson rfl rfl rfl (by decide +kernel) ⟨Nat.le_of_ble_eq_true rfl, Nat.le_of_ble_eq_true rfl⟩) hP hS hA rfl rfl rfl hl.1 rfl (Nat.le_of_ble_eq_true rfl) dL_addPerson_3 ⟨Nat.zero_le _, Nat.zero_le _⟩ (fun H locs hP hS _ hkk => ?_)
  have hO := zkeep hO hkk hoL
  refine W.eq (g2 := F0 m9 6 ls [.int (zI (n : Int)), .int (zI 0), .ref o]) rfl ?_
  refine lv_i2l hx hb dL_addPerson_6 rfl ?_
  have hPO := zapp hP hO
  refine zr_last0 hx hb hK hPO hN2 rfl hA2 hS 14 2 rfl rfl dL_addPerson_7 (fun H locs hPO hS => ?_)
  have hPO : va_P D vwCl ((wC cI cZ q (up pa (n : Int) (-1)) (up sp (n : Int) (-1)) (up al (n : Int) 1) dg co da mb dd ah wl lo (n + 1) td wn) ++ wO cJ o (vp_updL f 0 (zI (n : Int)).toInt64)) H := hPO
  have hP := zleft hPO
  have hO := zright hPO
  refine lv_goto (tgt := 14) hx hb dL_addPerson_8 (by decide) ?_
  refine zr_iconst hx hb dL_addPerson_14 ?_
  rw [hQ0]
  exact vx_ret (W.iret hx hb hr (fun t ht _ => ⟨⟨rfl, by rw [ht]; exact hP, by rw [ht]; exact hO⟩, hS.F ht⟩) hS.2.2 dL_addPerson_15 hlocks)
set_option maxHeartbeats 4000000 in
set_option maxRecDepth 100000 in
theorem kL_addPersonx1 (l : Launch) (D : va_G) (hl0 : l.stackTraces = false) (cI cZ cJ : ClassId) (q : Nat → Nat) (o : Nat) (hN : (zLC q).Nodup) (hN2 : (zLC q ++ [o]).Nodup) (pa : Int → Int) (sp : Int → Int) (al : Int → Int) (dg : Int → Int) (co : Int → Int) (da : Int → Int) (mb : Int → Int) (dd : Int → Int) (ah : Int → Int) (wl : Int → Int) (lo : Int → Int) (n : Nat) (td : Int) (wn : Int) (f : Nat → Int64) (hn : n ≤ 16) (h1 : 16 ≤ n) : zLW l yL_addPerson wsL_addPerson ({ frames := 8, cells := 1, slots := 6, locals := 130 }) D [(cI, .int), (cZ, .boolean), (cJ, .long)] cJ [.ref (q 0), .ref o] (wC cI cZ q pa sp al dg co da mb dd ah wl lo n td wn) (wC cI cZ q pa sp al dg co da mb dd ah wl lo n td wn) o f f 1 (zLC q) 1 6 := by
  refine vx_ofWH (cc := cL_addPerson) (maxL := 3) (ret := some .int) (hh := [(0, 8, 11, 13)]) (by decide) rfl ?_
  intro p0 e9 s9 m9 ag9 below meth c9 s₁ B hml hv
  obtain ⟨hav, hP, hO, hK, hT, hE⟩ := hv
  have hx := B.exec
  have hb := B.bytes
  have hr := B.returns
  have hts := atoms_spec (ws := wsL_addPerson) B.pre
  have hown : s9.vm.findClass RL = some m9.cls := findClass_of_methodNamed B.named
  have hlocks := B.notSynchronized
  have hA : ∀ a ∈ zLC q, (fun a => a ∈ zLC q ++ [o]) a := fun _ h => List.mem_append_left _ h
  have hA2 : ∀ a ∈ zLC q ++ [o], (fun a => a ∈ zLC q ++ [o]) a := fun _ h => h
  have hoL : ∀ a ∈ [o], a ∉ zLC q := fun a ha h => (List.nodup_append.mp hN2).2.2 a h a ha rfl
  have htab := vx_table (x := yL_addPerson) B (hts (.codeWith yL_addPerson cL_addPerson 3 (some .int) [(0, 8, 11, 13)]) (by rw [show wsL_addPerson = _ from rfl]; exact List.mem_cons_self))
  have hl := lv_entry ([.ref (q 0), .ref o]) (n := 3) (Nat.le_of_ble_eq_true rfl)
  have hE0 : entryFrame m9 ag9 3 = F0 m9 0 ((lg_sl ([.ref (q 0), .ref o]) ++ List.replicate (3 - (lg_sl ([.ref (q 0), .ref o])).length) Slot.unset).toArray) [] := by rw [hav]; exact lg_entry_eq m9 _ _
  obtain ⟨Q0, hQ0⟩ : ∃ Q0, Q0 = vx_MQ below (zQL D (wC cI cZ q pa sp al dg co da mb dd ah wl lo n td wn) cJ o f 1 (zLC q)) zF ag9 s9 1 6 (fun a => a ∈ zLC q ++ [o]) := ⟨_, rfl⟩
  show W p0 l e9 ({ frames := 8, cells := 1, slots := 6, locals := 130 }) s9 m9 ag9 below meth c9 s9.heap [] 0 0 (vx_MQ below (zQL D (wC cI cZ q pa sp al dg co da mb dd ah wl lo n td wn) cJ o f 1 (zLC q)) zF ag9 s9 1 6 (fun a => a ∈ zLC q ++ [o])) _
  rw [hE0, ← hQ0]
  have hS : va_S (fun a => a ∈ zLC q ++ [o]) s9.heap s9.heap [] := va_S.rf
  generalize hH0 : s9.heap = H at hP hO ⊢
  have hS : va_S (fun a => a ∈ zLC q ++ [o]) s9.heap H [] := by rw [hH0] at hS ⊢; exact hS
  have hT : zT (fun a => a ∈ zLC q) s9 H := by rw [hH0] at hT; exact hT
  generalize (lg_sl ([.ref (q 0), .ref o]) ++ List.replicate (3 - (lg_sl ([.ref (q 0), .ref o])).length) Slot.unset).toArray = ls at hl ⊢
  have hl : lv_has ls 3 [(0, .ref (q 0)), (1, .ref o)] := hl
  refine lv_aload_n hx hb dL_addPerson_0 rfl (lv_at hl 1 rfl) ?_
  refine zr_iconst hx hb dL_addPerson_1 ?_
  refine lv_aload_n hx hb dL_addPerson_2 rfl (lv_at hl 0 rfl) ?_
  refine zcallXV (ci := 2) (q0 := 0) (cq := (RX2, TX2, 9)) (As := []) (rest := [.int (zI 0), .ref o]) ⟨hx, hb, hml, hown, hts⟩ (hK.sub (tys' := [(cI, .int), (cZ, .boolean)]) [0, 1] rfl) (kX2_addPersonx1 l D hl0 cI cZ q hN pa sp al dg co da mb dd ah wl lo n td wn hn h1) (cwV 0 hts gL_addPerson_X2_addPerson rfl rfl rfl (by decide +kernel) ⟨Nat.le_of_ble_eq_true rfl, Nat.le_of_ble_eq_true rfl⟩) hP hT hS hA rfl rfl rfl hl.1 rfl (Nat.le_of_ble_eq_true rfl) dL_addPerson_3 ⟨Nat.le_of_ble_eq_true rfl, Nat.le_of_ble_eq_true rfl⟩ (fun ce q9 H locs hP hS _ hkk hce hcv hcl => ?_)
  have hO := zkeep hO hkk hoL
  refine vx_catch (E := "java/lang/IllegalStateException") (name := "java/lang/IllegalStateException") hown [] ⟨0, 8, 11, 13⟩ [] (by rw [htab]; rfl) (fun z hz => nomatch hz) (by decide) (by decide) (hts (.classLink RL 13 "java/lang/IllegalStateException") (by decide +kernel)) (show (Cond.castable zIS zIS).before _ s9 = true from hE.1.2.1) hce hcv hcl ?_
  refine lv_astore_n (lv' := [(2, .ref q9), (0, .ref (q 0)), (1, .ref o)]) hx hb dL_addPerson_11 rfl hl (by decide) rfl (fun ls hl => ?_)
  refine zr_iconst hx hb dL_addPerson_12 ?_
  rw [hQ0]
  exact vx_ret (W.iret hx hb hr (fun t ht _ => ⟨⟨rfl, by rw [ht]; exact hP, by rw [ht]; exact hO⟩, hS.F ht⟩) hS.2.2 dL_addPerson_13 hlocks)
set_option maxHeartbeats 4000000 in
set_option maxRecDepth 100000 in
theorem kL_addChildok (l : Launch) (D : va_G) (hl0 : l.stackTraces = false) (cI cZ cJ : ClassId) (q : Nat → Nat) (o : Nat) (hN : (zLC q).Nodup) (hN2 : (zLC q ++ [o]).Nodup) (pa : Int → Int) (sp : Int → Int) (al : Int → Int) (dg : Int → Int) (co : Int → Int) (da : Int → Int) (mb : Int → Int) (dd : Int → Int) (ah : Int → Int) (wl : Int → Int) (lo : Int → Int) (n : Nat) (td : Int) (wn : Int) (f : Nat → Int64) (hn : n ≤ 16) (hal : ∀ j : Int, 0 ≤ al j ∧ al j ≤ 1) (p : Int) (h1 : 0 ≤ p ∧ p < (n : Int)) (h2 : al p ≠ 0) (h3 : n < 16) : zLW l yL_addChild wsL_addChild ({ frames := 8, cells := 0, slots := 0, locals := 132 }) D [(cI, .int), (cZ, .boolean), (cJ, .long)] cJ [.ref (q 0), .int (zI p), .ref o] (wC cI cZ q pa sp al dg co da mb dd ah wl lo n td wn) (wC cI cZ q (up pa (n : Int) p) (up sp (n : Int) (-1)) (up al (n : Int) 1) dg co da mb dd ah wl lo (n + 1) td wn) o f (vp_updL f 0 (zI (n : Int)).toInt64) 0 (zLC q) 0 0 := by
  refine vx_ofWH (cc := cL_addChild) (maxL := 4) (ret := some .int) (hh := [(0, 9, 12, 19), (0, 9, 15, 13)]) (by decide) rfl ?_
  intro p0 e9 s9 m9 ag9 below meth c9 s₁ B hml hv
  obtain ⟨hav, hP, hO, hK, hT, hE⟩ := hv
  have hx := B.exec
  have hb := B.bytes
  have hr := B.returns
  have hts := atoms_spec (ws := wsL_addChild) B.pre
  have hown : s9.vm.findClass RL = some m9.cls := findClass_of_methodNamed B.named
  have hlocks := B.notSynchronized
  have hA : ∀ a ∈ zLC q, (fun a => a ∈ zLC q ++ [o]) a := fun _ h => List.mem_append_left _ h
  have hA2 : ∀ a ∈ zLC q ++ [o], (fun a => a ∈ zLC q ++ [o]) a := fun _ h => h
  have hoL : ∀ a ∈ [o], a ∉ zLC q := fun a ha h => (List.nodup_append.mp hN2).2.2 a h a ha rfl
  have hl := lv_entry ([.ref (q 0), .int (zI p), .ref o]) (n := 4) (Nat.le_of_ble_eq_true rfl)
  have hE0 : entryFrame m9 ag9 4 = F0 m9 0 ((lg_sl ([.ref (q 0), .int (zI p), .ref o]) ++ List.replicate (4 - (lg_sl ([.ref (q 0), .int (zI p), .ref o])).length) Slot.unset).toArray) [] := by rw [hav]; exact lg_entry_eq m9 _ _
  obtain ⟨Q0, hQ0⟩ : ∃ Q0, Q0 = vx_MQ below (zQL D (wC cI cZ q (up pa (n : Int) p) (up sp (n : Int) (-1)) (up al (n : Int) 1) dg co da mb dd ah wl lo (n + 1) td wn) cJ o (vp_updL f 0 (zI (n : Int)).toInt64) 0 (zLC q)) zF ag9 s9 0 0 (fun a => a ∈ zLC q ++ [o]) := ⟨_, rfl⟩
  show W p0 l e9 ({ frames := 8, cells := 0, slots := 0, locals := 132 }) s9 m9 ag9 below meth c9 s9.heap [] 0 0 (vx_MQ below (zQL D (wC cI cZ q (up pa (n : Int) p) (up sp (n : Int) (-1)) (up al (n : Int) 1) dg co da mb dd ah wl lo (n + 1) td wn) cJ o (vp_updL f 0 (zI (n : Int)).toInt64) 0 (zLC q)) zF ag9 s9 0 0 (fun a => a ∈ zLC q ++ [o])) _
  rw [hE0, ← hQ0]
  have hS : va_S (fun a => a ∈ zLC q ++ [o]) s9.heap s9.heap [] := va_S.rf
  generalize hH0 : s9.heap = H at hP hO ⊢
  have hS : va_S (fun a => a ∈ zLC q ++ [o]) s9.heap H [] := by rw [hH0] at hS ⊢; exact hS
  have hT : zT (fun a => a ∈ zLC q) s9 H := by rw [hH0] at hT; exact hT
  generalize (lg_sl ([.ref (q 0), .int (zI p), .ref o]) ++ List.replicate (4 - (lg_sl ([.ref (q 0), .int (zI p), .ref o])).length) Slot.unset).toArray = ls at hl ⊢
  have hl : lv_has ls 4 [(0, .ref (q 0)), (1, .int (zI p)), (2, .ref o)] := hl
  refine lv_aload_n hx hb dL_addChild_0 rfl (lv_at hl 2 rfl) ?_
  refine zr_iconst hx hb dL_addChild_1 ?_
  refine lv_aload_n hx hb dL_addChild_2 rfl (lv_at hl 0 rfl) ?_
  refine lv_iload_n hx hb dL_addChild_3 rfl (lv_at hl 1 rfl) ?_
  refine zcallV (ci := 2) (q0 := 0) (cq := (RX2, TX2, 9)) (As := [.int (zI p)]) (rest := [.int (zI 0), .ref o]) ⟨hx, hb, hml, hown, hts⟩ (hK.sub (tys' := [(cI, .int), (cZ, .boolean)]) [0, 1] rfl) (kX2_addChildok l D cI cZ q hN pa sp al dg co da mb dd ah wl lo n td wn hn hal p h1 h2 h3) (cwV 1 hts gL_addChild_X2_addChild rfl rfl rfl (by decide +kernel) ⟨Nat.le_of_ble_eq_true rfl, Nat.le_of_ble_eq_true rfl⟩) hP hS hA rfl rfl rfl hl.1 rfl (Nat.le_of_ble_eq_true rfl) dL_addChild_4 ⟨Nat.zero_le _, Nat.zero_le _⟩ (fun H locs hP hS _ hkk => ?_)
  have hO := zkeep hO hkk hoL
  refine W.eq (g2 := F0 m9 7 ls [.int (zI (n : Int)), .int (zI 0), .ref o]) rfl ?_
  refine lv_i2l hx hb dL_addChild_7 rfl ?_
  have hPO := zapp hP hO
  refine zr_last0 hx hb hK hPO hN2 rfl hA2 hS 14 2 rfl rfl dL_addChild_8 (fun H locs hPO hS => ?_)
  have hPO : va_P D vwCl ((wC cI cZ q (up pa (n : Int) p) (up sp (n : Int) (-1)) (up al (n : Int) 1) dg co da mb dd ah wl lo (n + 1) td wn) ++ wO cJ o (vp_updL f 0 (zI (n : Int)).toInt64)) H := hPO
  have hP := zleft hPO
  have hO := zright hPO
  refine lv_goto (tgt := 18) hx hb dL_addChild_9 (by decide) ?_
  refine zr_iconst hx hb dL_addChild_18 ?_
  rw [hQ0]
  exact vx_ret (W.iret hx hb hr (fun t ht _ => ⟨⟨rfl, by rw [ht]; exact hP, by rw [ht]; exact hO⟩, hS.F ht⟩) hS.2.2 dL_addChild_19 hlocks)
set_option maxHeartbeats 4000000 in
set_option maxRecDepth 100000 in
theorem kL_addChildx1 (l : Launch) (D : va_G) (hl0 : l.stackTraces = false) (cI cZ cJ : ClassId) (q : Nat → Nat) (o : Nat) (hN : (zLC q).Nodup) (hN2 : (zLC q ++ [o]).Nodup) (pa : Int → Int) (sp : Int → Int) (al : Int → Int) (dg : Int → Int) (co : Int → Int) (da : Int → Int) (mb : Int → Int) (dd : Int → Int) (ah : Int → Int) (wl : Int → Int) (lo : Int → Int) (n : Nat) (td : Int) (wn : Int) (f : Nat → Int64) (hn : n ≤ 16) (p : Int) (h0 : -2147483648 ≤ p ∧ p ≤ 2147483647) (h1 : ¬ (0 ≤ p ∧ p < (n : Int))) : zLW l yL_addChild wsL_addChild ({ frames := 8, cells := 1, slots := 6, locals := 132 }) D [(cI, .int), (cZ, .boolean), (cJ, .long)] cJ [.ref (q 0), .int (zI p), .ref o] (wC cI cZ q pa sp al dg co da mb dd ah wl lo n td wn) (wC cI cZ q pa sp al dg co da mb dd ah wl lo n td wn) o f f 1 (zLC q) 1 6 := by
  refine vx_ofWH (cc := cL_addChild) (maxL := 4) (ret := some .int) (hh := [(0, 9, 12, 19), (0, 9, 15, 13)]) (by decide) rfl ?_
  intro p0 e9 s9 m9 ag9 below meth c9 s₁ B hml hv
  obtain ⟨hav, hP, hO, hK, hT, hE⟩ := hv
  have hx := B.exec
  have hb := B.bytes
  have hr := B.returns
  have hts := atoms_spec (ws := wsL_addChild) B.pre
  have hown : s9.vm.findClass RL = some m9.cls := findClass_of_methodNamed B.named
  have hlocks := B.notSynchronized
  have hA : ∀ a ∈ zLC q, (fun a => a ∈ zLC q ++ [o]) a := fun _ h => List.mem_append_left _ h
  have hA2 : ∀ a ∈ zLC q ++ [o], (fun a => a ∈ zLC q ++ [o]) a := fun _ h => h
  have hoL : ∀ a ∈ [o], a ∉ zLC q := fun a ha h => (List.nodup_append.mp hN2).2.2 a h a ha rfl
  have htab := vx_table (x := yL_addChild) B (hts (.codeWith yL_addChild cL_addChild 4 (some .int) [(0, 9, 12, 19), (0, 9, 15, 13)]) (by rw [show wsL_addChild = _ from rfl]; exact List.mem_cons_self))
  have hl := lv_entry ([.ref (q 0), .int (zI p), .ref o]) (n := 4) (Nat.le_of_ble_eq_true rfl)
  have hE0 : entryFrame m9 ag9 4 = F0 m9 0 ((lg_sl ([.ref (q 0), .int (zI p), .ref o]) ++ List.replicate (4 - (lg_sl ([.ref (q 0), .int (zI p), .ref o])).length) Slot.unset).toArray) [] := by rw [hav]; exact lg_entry_eq m9 _ _
  obtain ⟨Q0, hQ0⟩ : ∃ Q0, Q0 = vx_MQ below (zQL D (wC cI cZ q pa sp al dg co da mb dd ah wl lo n td wn) cJ o f 1 (zLC q)) zF ag9 s9 1 6 (fun a => a ∈ zLC q ++ [o]) := ⟨_, rfl⟩
  show W p0 l e9 ({ frames := 8, cells := 1, slots := 6, locals := 132 }) s9 m9 ag9 below meth c9 s9.heap [] 0 0 (vx_MQ below (zQL D (wC cI cZ q pa sp al dg co da mb dd ah wl lo n td wn) cJ o f 1 (zLC q)) zF ag9 s9 1 6 (fun a => a ∈ zLC q ++ [o])) _
  rw [hE0, ← hQ0]
  have hS : va_S (fun a => a ∈ zLC q ++ [o]) s9.heap s9.heap [] := va_S.rf
  generalize hH0 : s9.heap = H at hP hO ⊢
  have hS : va_S (fun a => a ∈ zLC q ++ [o]) s9.heap H [] := by rw [hH0] at hS ⊢; exact hS
  have hT : zT (fun a => a ∈ zLC q) s9 H := by rw [hH0] at hT; exact hT
  generalize (lg_sl ([.ref (q 0), .int (zI p), .ref o]) ++ List.replicate (4 - (lg_sl ([.ref (q 0), .int (zI p), .ref o])).length) Slot.unset).toArray = ls at hl ⊢
  have hl : lv_has ls 4 [(0, .ref (q 0)), (1, .int (zI p)), (2, .ref o)] := hl
  refine lv_aload_n hx hb dL_addChild_0 rfl (lv_at hl 2 rfl) ?_
  refine zr_iconst hx hb dL_addChild_1 ?_
  refine lv_aload_n hx hb dL_addChild_2 rfl (lv_at hl 0 rfl) ?_
  refine lv_iload_n hx hb dL_addChild_3 rfl (lv_at hl 1 rfl) ?_
  refine zcallXV (ci := 2) (q0 := 0) (cq := (RX2, TX2, 9)) (As := [.int (zI p)]) (rest := [.int (zI 0), .ref o]) ⟨hx, hb, hml, hown, hts⟩ (hK.sub (tys' := [(cI, .int), (cZ, .boolean)]) [0, 1] rfl) (kX2_addChildx1 l D hl0 cI cZ q hN pa sp al dg co da mb dd ah wl lo n td wn hn p h0 h1) (cwV 1 hts gL_addChild_X2_addChild rfl rfl rfl (by decide +kernel) ⟨Nat.le_of_ble_eq_true rfl, Nat.le_of_ble_eq_true rfl⟩) hP hT hS hA rfl rfl rfl hl.1 rfl (Nat.le_of_ble_eq_true rfl) dL_addChild_4 ⟨Nat.le_of_ble_eq_true rfl, Nat.le_of_ble_eq_true rfl⟩ (fun ce q9 H locs hP hS _ hkk hce hcv hcl => ?_)
  have hO := zkeep hO hkk hoL
  refine vx_catch (E := "java/lang/IndexOutOfBoundsException") (name := "java/lang/IndexOutOfBoundsException") hown [] ⟨0, 9, 12, 19⟩ [⟨0, 9, 15, 13⟩] (by rw [htab]; rfl) (fun z hz => nomatch hz) (by decide) (by decide) (hts (.classLink RL 19 "java/lang/IndexOutOfBoundsException") (by decide +kernel)) (show (Cond.castable zIO zIO).before _ s9 = true from hE.1.1) hce hcv hcl ?_
  refine lv_astore_n (lv' := [(3, .ref q9), (0, .ref (q 0)), (1, .int (zI p)), (2, .ref o)]) hx hb dL_addChild_12 rfl hl (by decide) rfl (fun ls hl => ?_)
  refine zr_iconst hx hb dL_addChild_13 ?_
  rw [hQ0]
  exact vx_ret (W.iret hx hb hr (fun t ht _ => ⟨⟨rfl, by rw [ht]; exact hP, by rw [ht]; exact hO⟩, hS.F ht⟩) hS.2.2 dL_addChild_14 hlocks)
set_option maxHeartbeats 4000000 in
set_option maxRecDepth 100000 in
theorem kL_addChildx2 (l : Launch) (D : va_G) (hl0 : l.stackTraces = false) (cI cZ cJ : ClassId) (q : Nat → Nat) (o : Nat) (hN : (zLC q).Nodup) (hN2 : (zLC q ++ [o]).Nodup) (pa : Int → Int) (sp : Int → Int) (al : Int → Int) (dg : Int → Int) (co : Int → Int) (da : Int → Int) (mb : Int → Int) (dd : Int → Int) (ah : Int → Int) (wl : Int → Int) (lo : Int → Int) (n : Nat) (td : Int) (wn : Int) (f : Nat → Int64) (hn : n ≤ 16) (hal : ∀ j : Int, 0 ≤ al j ∧ al j ≤ 1) (p : Int) (h1 : 0 ≤ p ∧ p < (n : Int)) (h2 : al p = 0) : zLW l yL_addChild wsL_addChild ({ frames := 8, cells := 1, slots := 6, locals := 132 }) D [(cI, .int), (cZ, .boolean), (cJ, .long)] cJ [.ref (q 0), .int (zI p), .ref o] (wC cI cZ q pa sp al dg co da mb dd ah wl lo n td wn) (wC cI cZ q pa sp al dg co da mb dd ah wl lo n td wn) o f f 2 (zLC q) 1 6 := by
  refine vx_ofWH (cc := cL_addChild) (maxL := 4) (ret := some .int) (hh := [(0, 9, 12, 19), (0, 9, 15, 13)]) (by decide) rfl ?_
  intro p0 e9 s9 m9 ag9 below meth c9 s₁ B hml hv
  obtain ⟨hav, hP, hO, hK, hT, hE⟩ := hv
  have hx := B.exec
  have hb := B.bytes
  have hr := B.returns
  have hts := atoms_spec (ws := wsL_addChild) B.pre
  have hown : s9.vm.findClass RL = some m9.cls := findClass_of_methodNamed B.named
  have hlocks := B.notSynchronized
  have hA : ∀ a ∈ zLC q, (fun a => a ∈ zLC q ++ [o]) a := fun _ h => List.mem_append_left _ h
  have hA2 : ∀ a ∈ zLC q ++ [o], (fun a => a ∈ zLC q ++ [o]) a := fun _ h => h
  have hoL : ∀ a ∈ [o], a ∉ zLC q := fun a ha h => (List.nodup_append.mp hN2).2.2 a h a ha rfl
  have htab := vx_table (x := yL_addChild) B (hts (.codeWith yL_addChild cL_addChild 4 (some .int) [(0, 9, 12, 19), (0, 9, 15, 13)]) (by rw [show wsL_addChild = _ from rfl]; exact List.mem_cons_self))
  have hl := lv_entry ([.ref (q 0), .int (zI p), .ref o]) (n := 4) (Nat.le_of_ble_eq_true rfl)
  have hE0 : entryFrame m9 ag9 4 = F0 m9 0 ((lg_sl ([.ref (q 0), .int (zI p), .ref o]) ++ List.replicate (4 - (lg_sl ([.ref (q 0), .int (zI p), .ref o])).length) Slot.unset).toArray) [] := by rw [hav]; exact lg_entry_eq m9 _ _
  obtain ⟨Q0, hQ0⟩ : ∃ Q0, Q0 = vx_MQ below (zQL D (wC cI cZ q pa sp al dg co da mb dd ah wl lo n td wn) cJ o f 2 (zLC q)) zF ag9 s9 1 6 (fun a => a ∈ zLC q ++ [o]) := ⟨_, rfl⟩
  show W p0 l e9 ({ frames := 8, cells := 1, slots := 6, locals := 132 }) s9 m9 ag9 below meth c9 s9.heap [] 0 0 (vx_MQ below (zQL D (wC cI cZ q pa sp al dg co da mb dd ah wl lo n td wn) cJ o f 2 (zLC q)) zF ag9 s9 1 6 (fun a => a ∈ zLC q ++ [o])) _
  rw [hE0, ← hQ0]
  have hS : va_S (fun a => a ∈ zLC q ++ [o]) s9.heap s9.heap [] := va_S.rf
  generalize hH0 : s9.heap = H at hP hO ⊢
  have hS : va_S (fun a => a ∈ zLC q ++ [o]) s9.heap H [] := by rw [hH0] at hS ⊢; exact hS
  have hT : zT (fun a => a ∈ zLC q) s9 H := by rw [hH0] at hT; exact hT
  generalize (lg_sl ([.ref (q 0), .int (zI p), .ref o]) ++ List.replicate (4 - (lg_sl ([.ref (q 0), .int (zI p), .ref o])).length) Slot.unset).toArray = ls at hl ⊢
  have hl : lv_has ls 4 [(0, .ref (q 0)), (1, .int (zI p)), (2, .ref o)] := hl
  refine lv_aload_n hx hb dL_addChild_0 rfl (lv_at hl 2 rfl) ?_
  refine zr_iconst hx hb dL_addChild_1 ?_
  refine lv_aload_n hx hb dL_addChild_2 rfl (lv_at hl 0 rfl) ?_
  refine lv_iload_n hx hb dL_addChild_3 rfl (lv_at hl 1 rfl) ?_
  refine zcallXV (ci := 2) (q0 := 0) (cq := (RX2, TX2, 9)) (As := [.int (zI p)]) (rest := [.int (zI 0), .ref o]) ⟨hx, hb, hml, hown, hts⟩ (hK.sub (tys' := [(cI, .int), (cZ, .boolean)]) [0, 1] rfl) (kX2_addChildx2 l D hl0 cI cZ q hN pa sp al dg co da mb dd ah wl lo n td wn hn hal p h1 h2) (cwV 1 hts gL_addChild_X2_addChild rfl rfl rfl (by decide +kernel) ⟨Nat.le_of_ble_eq_true rfl, Nat.le_of_ble_eq_true rfl⟩) hP hT hS hA rfl rfl rfl hl.1 rfl (Nat.le_of_ble_eq_true rfl) dL_addChild_4 ⟨Nat.le_of_ble_eq_true rfl, Nat.le_of_ble_eq_true rfl⟩ (fun ce q9 H locs hP hS _ hkk hce hcv hcl => ?_)
  have hO := zkeep hO hkk hoL
  refine vx_catch (E := "java/lang/IllegalStateException") (name := "java/lang/IllegalStateException") hown [⟨0, 9, 12, 19⟩] ⟨0, 9, 15, 13⟩ [] (by rw [htab]; rfl) (fun z hz => by
    simp only [List.mem_cons, List.not_mem_nil, or_false] at hz
    subst hz
    exact Or.inr ⟨by decide, "java/lang/IndexOutOfBoundsException", hts (.classLink RL 19 "java/lang/IndexOutOfBoundsException") (by decide +kernel), hE.2.1⟩) (by decide) (by decide) (hts (.classLink RL 13 "java/lang/IllegalStateException") (by decide +kernel)) (show (Cond.castable zIS zIS).before _ s9 = true from hE.1.2.1) hce hcv hcl ?_
  refine lv_astore_n (lv' := [(3, .ref q9), (0, .ref (q 0)), (1, .int (zI p)), (2, .ref o)]) hx hb dL_addChild_15 rfl hl (by decide) rfl (fun ls hl => ?_)
  refine zr_iconst hx hb dL_addChild_16 ?_
  rw [hQ0]
  exact vx_ret (W.iret hx hb hr (fun t ht _ => ⟨⟨rfl, by rw [ht]; exact hP, by rw [ht]; exact hO⟩, hS.F ht⟩) hS.2.2 dL_addChild_17 hlocks)
set_option maxHeartbeats 4000000 in
set_option maxRecDepth 100000 in
theorem kL_addChildx3 (l : Launch) (D : va_G) (hl0 : l.stackTraces = false) (cI cZ cJ : ClassId) (q : Nat → Nat) (o : Nat) (hN : (zLC q).Nodup) (hN2 : (zLC q ++ [o]).Nodup) (pa : Int → Int) (sp : Int → Int) (al : Int → Int) (dg : Int → Int) (co : Int → Int) (da : Int → Int) (mb : Int → Int) (dd : Int → Int) (ah : Int → Int) (wl : Int → Int) (lo : Int → Int) (n : Nat) (td : Int) (wn : Int) (f : Nat → Int64) (hn : n ≤ 16) (hal : ∀ j : Int, 0 ≤ al j ∧ al j ≤ 1) (p : Int) (h1 : 0 ≤ p ∧ p < (n : Int)) (h2 : al p ≠ 0) (h3 : 16 ≤ n) : zLW l yL_addChild wsL_addChild ({ frames := 8, cells := 1, slots := 6, locals := 132 }) D [(cI, .int), (cZ, .boolean), (cJ, .long)] cJ [.ref (q 0), .int (zI p), .ref o] (wC cI cZ q pa sp al dg co da mb dd ah wl lo n td wn) (wC cI cZ q pa sp al dg co da mb dd ah wl lo n td wn) o f f 2 (zLC q) 1 6 := by
  refine vx_ofWH (cc := cL_addChild) (maxL := 4) (ret := some .int) (hh := [(0, 9, 12, 19), (0, 9, 15, 13)]) (by decide) rfl ?_
  intro p0 e9 s9 m9 ag9 below meth c9 s₁ B hml hv
  obtain ⟨hav, hP, hO, hK, hT, hE⟩ := hv
  have hx := B.exec
  have hb := B.bytes
  have hr := B.returns
  have hts := atoms_spec (ws := wsL_addChild) B.pre
  have hown : s9.vm.findClass RL = some m9.cls := findClass_of_methodNamed B.named
  have hlocks := B.notSynchronized
  have hA : ∀ a ∈ zLC q, (fun a => a ∈ zLC q ++ [o]) a := fun _ h => List.mem_append_left _ h
  have hA2 : ∀ a ∈ zLC q ++ [o], (fun a => a ∈ zLC q ++ [o]) a := fun _ h => h
  have hoL : ∀ a ∈ [o], a ∉ zLC q := fun a ha h => (List.nodup_append.mp hN2).2.2 a h a ha rfl
  have htab := vx_table (x := yL_addChild) B (hts (.codeWith yL_addChild cL_addChild 4 (some .int) [(0, 9, 12, 19), (0, 9, 15, 13)]) (by rw [show wsL_addChild = _ from rfl]; exact List.mem_cons_self))
  have hl := lv_entry ([.ref (q 0), .int (zI p), .ref o]) (n := 4) (Nat.le_of_ble_eq_true rfl)
  have hE0 : entryFrame m9 ag9 4 = F0 m9 0 ((lg_sl ([.ref (q 0), .int (zI p), .ref o]) ++ List.replicate (4 - (lg_sl ([.ref (q 0), .int (zI p), .ref o])).length) Slot.unset).toArray) [] := by rw [hav]; exact lg_entry_eq m9 _ _
  obtain ⟨Q0, hQ0⟩ : ∃ Q0, Q0 = vx_MQ below (zQL D (wC cI cZ q pa sp al dg co da mb dd ah wl lo n td wn) cJ o f 2 (zLC q)) zF ag9 s9 1 6 (fun a => a ∈ zLC q ++ [o]) := ⟨_, rfl⟩
  show W p0 l e9 ({ frames := 8, cells := 1, slots := 6, locals := 132 }) s9 m9 ag9 below meth c9 s9.heap [] 0 0 (vx_MQ below (zQL D (wC cI cZ q pa sp al dg co da mb dd ah wl lo n td wn) cJ o f 2 (zLC q)) zF ag9 s9 1 6 (fun a => a ∈ zLC q ++ [o])) _
  rw [hE0, ← hQ0]
  have hS : va_S (fun a => a ∈ zLC q ++ [o]) s9.heap s9.heap [] := va_S.rf
  generalize hH0 : s9.heap = H at hP hO ⊢
  have hS : va_S (fun a => a ∈ zLC q ++ [o]) s9.heap H [] := by rw [hH0] at hS ⊢; exact hS
  have hT : zT (fun a => a ∈ zLC q) s9 H := by rw [hH0] at hT; exact hT
  generalize (lg_sl ([.ref (q 0), .int (zI p), .ref o]) ++ List.replicate (4 - (lg_sl ([.ref (q 0), .int (zI p), .ref o])).length) Slot.unset).toArray = ls at hl ⊢
  have hl : lv_has ls 4 [(0, .ref (q 0)), (1, .int (zI p)), (2, .ref o)] := hl
  refine lv_aload_n hx hb dL_addChild_0 rfl (lv_at hl 2 rfl) ?_
  refine zr_iconst hx hb dL_addChild_1 ?_
  refine lv_aload_n hx hb dL_addChild_2 rfl (lv_at hl 0 rfl) ?_
  refine lv_iload_n hx hb dL_addChild_3 rfl (lv_at hl 1 rfl) ?_
  refine zcallXV (ci := 2) (q0 := 0) (cq := (RX2, TX2, 9)) (As := [.int (zI p)]) (rest := [.int (zI 0), .ref o]) ⟨hx, hb, hml, hown, hts⟩ (hK.sub (tys' := [(cI, .int), (cZ, .boolean)]) [0, 1] rfl) (kX2_addChildx3 l D hl0 cI cZ q hN pa sp al dg co da mb dd ah wl lo n td wn hn hal p h1 h2 h3) (cwV 1 hts gL_addChild_X2_addChild rfl rfl rfl (by decide +kernel) ⟨Nat.le_of_ble_eq_true rfl, Nat.le_of_ble_eq_true rfl⟩) hP hT hS hA rfl rfl rfl hl.1 rfl (Nat.le_of_ble_eq_true rfl) dL_addChild_4 ⟨Nat.le_of_ble_eq_true rfl, Nat.le_of_ble_eq_true rfl⟩ (fun ce q9 H locs hP hS _ hkk hce hcv hcl => ?_)
  have hO := zkeep hO hkk hoL
  refine vx_catch (E := "java/lang/IllegalStateException") (name := "java/lang/IllegalStateException") hown [⟨0, 9, 12, 19⟩] ⟨0, 9, 15, 13⟩ [] (by rw [htab]; rfl) (fun z hz => by
    simp only [List.mem_cons, List.not_mem_nil, or_false] at hz
    subst hz
    exact Or.inr ⟨by decide, "java/lang/IndexOutOfBoundsException", hts (.classLink RL 19 "java/lang/IndexOutOfBoundsException") (by decide +kernel), hE.2.1⟩) (by decide) (by decide) (hts (.classLink RL 13 "java/lang/IllegalStateException") (by decide +kernel)) (show (Cond.castable zIS zIS).before _ s9 = true from hE.1.2.1) hce hcv hcl ?_
  refine lv_astore_n (lv' := [(3, .ref q9), (0, .ref (q 0)), (1, .int (zI p)), (2, .ref o)]) hx hb dL_addChild_15 rfl hl (by decide) rfl (fun ls hl => ?_)
  refine zr_iconst hx hb dL_addChild_16 ?_
  rw [hQ0]
  exact vx_ret (W.iret hx hb hr (fun t ht _ => ⟨⟨rfl, by rw [ht]; exact hP, by rw [ht]; exact hO⟩, hS.F ht⟩) hS.2.2 dL_addChild_17 hlocks)
set_option maxHeartbeats 4000000 in
set_option maxRecDepth 100000 in
theorem kL_marryok (l : Launch) (D : va_G) (hl0 : l.stackTraces = false) (cI cZ cJ : ClassId) (q : Nat → Nat) (o : Nat) (hN : (zLC q).Nodup) (hN2 : (zLC q ++ [o]).Nodup) (pa : Int → Int) (sp : Int → Int) (al : Int → Int) (dg : Int → Int) (co : Int → Int) (da : Int → Int) (mb : Int → Int) (dd : Int → Int) (ah : Int → Int) (wl : Int → Int) (lo : Int → Int) (n : Nat) (td : Int) (wn : Int) (f : Nat → Int64) (hn : n ≤ 16) (hpa : ∀ j : Int, -1 ≤ pa j ∧ pa j ≤ 15) (hsp : ∀ j : Int, -1 ≤ sp j ∧ sp j ≤ 15) (hal : ∀ j : Int, 0 ≤ al j ∧ al j ≤ 1) (a : Int) (b : Int) (h1 : 0 ≤ a ∧ a < (n : Int)) (h2 : 0 ≤ b ∧ b < (n : Int)) (h3 : a ≠ b) (h4 : al a ≠ 0) (h5 : al b ≠ 0) (h6 : ¬ (sp a ≠ -1 ∧ al (sp a) ≠ 0)) (h7 : ¬ (sp b ≠ -1 ∧ al (sp b) ≠ 0)) : zLW l yL_marry wsL_marry ({ frames := 8, cells := 0, slots := 0, locals := 135 }) D [(cI, .int), (cZ, .boolean), (cJ, .long)] cJ [.ref (q 0), .int (zI a), .int (zI b), .ref o] (wC cI cZ q pa sp al dg co da mb dd ah wl lo n td wn) (wC cI cZ q pa (up (up (lvS (lvS sp a) b) a b) b a) al (dgF pa sp n a) co da mb dd ah wl lo n td wn) o f (vp_updL f 0 (zI (dgF pa sp n a b)).toInt64) 0 (zLC q) 0 0 := by
  refine vx_ofWH (cc := cL_marry) (maxL := 5) (ret := some .int) (hh := [(0, 10, 13, 19), (0, 10, 17, 25), (0, 10, 21, 13)]) (by decide) rfl ?_
  intro p0 e9 s9 m9 ag9 below meth c9 s₁ B hml hv
  obtain ⟨hav, hP, hO, hK, hT, hE⟩ := hv
  have hx := B.exec
  have hb := B.bytes
  have hr := B.returns
  have hts := atoms_spec (ws := wsL_marry) B.pre
  have hown : s9.vm.findClass RL = some m9.cls := findClass_of_methodNamed B.named
  have hlocks := B.notSynchronized
  have hA : ∀ a ∈ zLC q, (fun a => a ∈ zLC q ++ [o]) a := fun _ h => List.mem_append_left _ h
  have hA2 : ∀ a ∈ zLC q ++ [o], (fun a => a ∈ zLC q ++ [o]) a := fun _ h => h
  have hoL : ∀ a ∈ [o], a ∉ zLC q := fun a ha h => (List.nodup_append.mp hN2).2.2 a h a ha rfl
  have hl := lv_entry ([.ref (q 0), .int (zI a), .int (zI b), .ref o]) (n := 5) (Nat.le_of_ble_eq_true rfl)
  have hE0 : entryFrame m9 ag9 5 = F0 m9 0 ((lg_sl ([.ref (q 0), .int (zI a), .int (zI b), .ref o]) ++ List.replicate (5 - (lg_sl ([.ref (q 0), .int (zI a), .int (zI b), .ref o])).length) Slot.unset).toArray) [] := by rw [hav]; exact lg_entry_eq m9 _ _
  obtain ⟨Q0, hQ0⟩ : ∃ Q0, Q0 = vx_MQ below (zQL D (wC cI cZ q pa (up (up (lvS (lvS sp a) b) a b) b a) al (dgF pa sp n a) co da mb dd ah wl lo n td wn) cJ o (vp_updL f 0 (zI (dgF pa sp n a b)).toInt64) 0 (zLC q)) zF ag9 s9 0 0 (fun a => a ∈ zLC q ++ [o]) := ⟨_, rfl⟩
  show W p0 l e9 ({ frames := 8, cells := 0, slots := 0, locals := 135 }) s9 m9 ag9 below meth c9 s9.heap [] 0 0 (vx_MQ below (zQL D (wC cI cZ q pa (up (up (lvS (lvS sp a) b) a b) b a) al (dgF pa sp n a) co da mb dd ah wl lo n td wn) cJ o (vp_updL f 0 (zI (dgF pa sp n a b)).toInt64) 0 (zLC q)) zF ag9 s9 0 0 (fun a => a ∈ zLC q ++ [o])) _
  rw [hE0, ← hQ0]
  have hS : va_S (fun a => a ∈ zLC q ++ [o]) s9.heap s9.heap [] := va_S.rf
  generalize hH0 : s9.heap = H at hP hO ⊢
  have hS : va_S (fun a => a ∈ zLC q ++ [o]) s9.heap H [] := by rw [hH0] at hS ⊢; exact hS
  have hT : zT (fun a => a ∈ zLC q) s9 H := by rw [hH0] at hT; exact hT
  generalize (lg_sl ([.ref (q 0), .int (zI a), .int (zI b), .ref o]) ++ List.replicate (5 - (lg_sl ([.ref (q 0), .int (zI a), .int (zI b), .ref o])).length) Slot.unset).toArray = ls at hl ⊢
  have hl : lv_has ls 5 [(0, .ref (q 0)), (1, .int (zI a)), (2, .int (zI b)), (3, .ref o)] := hl
  refine lv_aload_n hx hb dL_marry_0 rfl (lv_at hl 3 rfl) ?_
  refine zr_iconst hx hb dL_marry_1 ?_
  refine lv_aload_n hx hb dL_marry_2 rfl (lv_at hl 0 rfl) ?_
  refine lv_iload_n hx hb dL_marry_3 rfl (lv_at hl 1 rfl) ?_
  refine lv_iload_n hx hb dL_marry_4 rfl (lv_at hl 2 rfl) ?_
  refine zcallV (ci := 2) (q0 := 0) (cq := (RX2, TX2, 9)) (As := [.int (zI a), .int (zI b)]) (rest := [.int (zI 0), .ref o]) ⟨hx, hb, hml, hown, hts⟩ (hK.sub (tys' := [(cI, .int), (cZ, .boolean)]) [0, 1] rfl) (kX2_marryok l D cI cZ q hN pa sp al dg co da mb dd ah wl lo n td wn hn hpa hsp hal a b h1 h2 h3 h4 h5 h6 h7) (cwV 2 hts gL_marry_X2_marry rfl rfl rfl (by decide +kernel) ⟨Nat.le_of_ble_eq_true rfl, Nat.le_of_ble_eq_true rfl⟩) hP hS hA rfl rfl rfl hl.1 rfl (Nat.le_of_ble_eq_true rfl) dL_marry_5 ⟨Nat.zero_le _, Nat.zero_le _⟩ (fun H locs hP hS _ hkk => ?_)
  have hO := zkeep hO hkk hoL
  refine W.eq (g2 := F0 m9 8 ls [.int (zI (dgF pa sp n a b)), .int (zI 0), .ref o]) rfl ?_
  refine lv_i2l hx hb dL_marry_8 rfl ?_
  have hPO := zapp hP hO
  refine zr_last0 hx hb hK hPO hN2 rfl hA2 hS 14 2 rfl rfl dL_marry_9 (fun H locs hPO hS => ?_)
  have hPO : va_P D vwCl ((wC cI cZ q pa (up (up (lvS (lvS sp a) b) a b) b a) al (dgF pa sp n a) co da mb dd ah wl lo n td wn) ++ wO cJ o (vp_updL f 0 (zI (dgF pa sp n a b)).toInt64)) H := hPO
  have hP := zleft hPO
  have hO := zright hPO
  refine lv_goto (tgt := 25) hx hb dL_marry_10 (by decide) ?_
  refine zr_iconst hx hb dL_marry_25 ?_
  rw [hQ0]
  exact vx_ret (W.iret hx hb hr (fun t ht _ => ⟨⟨rfl, by rw [ht]; exact hP, by rw [ht]; exact hO⟩, hS.F ht⟩) hS.2.2 dL_marry_26 hlocks)
set_option maxHeartbeats 4000000 in
set_option maxRecDepth 100000 in
theorem kL_marryx1 (l : Launch) (D : va_G) (hl0 : l.stackTraces = false) (cI cZ cJ : ClassId) (q : Nat → Nat) (o : Nat) (hN : (zLC q).Nodup) (hN2 : (zLC q ++ [o]).Nodup) (pa : Int → Int) (sp : Int → Int) (al : Int → Int) (dg : Int → Int) (co : Int → Int) (da : Int → Int) (mb : Int → Int) (dd : Int → Int) (ah : Int → Int) (wl : Int → Int) (lo : Int → Int) (n : Nat) (td : Int) (wn : Int) (f : Nat → Int64) (hn : n ≤ 16) (a : Int) (b : Int) (h0 : -2147483648 ≤ a ∧ a ≤ 2147483647) (h1 : ¬ (0 ≤ a ∧ a < (n : Int))) : zLW l yL_marry wsL_marry ({ frames := 8, cells := 1, slots := 6, locals := 135 }) D [(cI, .int), (cZ, .boolean), (cJ, .long)] cJ [.ref (q 0), .int (zI a), .int (zI b), .ref o] (wC cI cZ q pa sp al dg co da mb dd ah wl lo n td wn) (wC cI cZ q pa sp al dg co da mb dd ah wl lo n td wn) o f f 1 (zLC q) 1 6 := by
  refine vx_ofWH (cc := cL_marry) (maxL := 5) (ret := some .int) (hh := [(0, 10, 13, 19), (0, 10, 17, 25), (0, 10, 21, 13)]) (by decide) rfl ?_
  intro p0 e9 s9 m9 ag9 below meth c9 s₁ B hml hv
  obtain ⟨hav, hP, hO, hK, hT, hE⟩ := hv
  have hx := B.exec
  have hb := B.bytes
  have hr := B.returns
  have hts := atoms_spec (ws := wsL_marry) B.pre
  have hown : s9.vm.findClass RL = some m9.cls := findClass_of_methodNamed B.named
  have hlocks := B.notSynchronized
  have hA : ∀ a ∈ zLC q, (fun a => a ∈ zLC q ++ [o]) a := fun _ h => List.mem_append_left _ h
  have hA2 : ∀ a ∈ zLC q ++ [o], (fun a => a ∈ zLC q ++ [o]) a := fun _ h => h
  have hoL : ∀ a ∈ [o], a ∉ zLC q := fun a ha h => (List.nodup_append.mp hN2).2.2 a h a ha rfl
  have htab := vx_table (x := yL_marry) B (hts (.codeWith yL_marry cL_marry 5 (some .int) [(0, 10, 13, 19), (0, 10, 17, 25), (0, 10, 21, 13)]) (by rw [show wsL_marry = _ from rfl]; exact List.mem_cons_self))
  have hl := lv_entry ([.ref (q 0), .int (zI a), .int (zI b), .ref o]) (n := 5) (Nat.le_of_ble_eq_true rfl)
  have hE0 : entryFrame m9 ag9 5 = F0 m9 0 ((lg_sl ([.ref (q 0), .int (zI a), .int (zI b), .ref o]) ++ List.replicate (5 - (lg_sl ([.ref (q 0), .int (zI a), .int (zI b), .ref o])).length) Slot.unset).toArray) [] := by rw [hav]; exact lg_entry_eq m9 _ _
  obtain ⟨Q0, hQ0⟩ : ∃ Q0, Q0 = vx_MQ below (zQL D (wC cI cZ q pa sp al dg co da mb dd ah wl lo n td wn) cJ o f 1 (zLC q)) zF ag9 s9 1 6 (fun a => a ∈ zLC q ++ [o]) := ⟨_, rfl⟩
  show W p0 l e9 ({ frames := 8, cells := 1, slots := 6, locals := 135 }) s9 m9 ag9 below meth c9 s9.heap [] 0 0 (vx_MQ below (zQL D (wC cI cZ q pa sp al dg co da mb dd ah wl lo n td wn) cJ o f 1 (zLC q)) zF ag9 s9 1 6 (fun a => a ∈ zLC q ++ [o])) _
  rw [hE0, ← hQ0]
  have hS : va_S (fun a => a ∈ zLC q ++ [o]) s9.heap s9.heap [] := va_S.rf
  generalize hH0 : s9.heap = H at hP hO ⊢
  have hS : va_S (fun a => a ∈ zLC q ++ [o]) s9.heap H [] := by rw [hH0] at hS ⊢; exact hS
  have hT : zT (fun a => a ∈ zLC q) s9 H := by rw [hH0] at hT; exact hT
  generalize (lg_sl ([.ref (q 0), .int (zI a), .int (zI b), .ref o]) ++ List.replicate (5 - (lg_sl ([.ref (q 0), .int (zI a), .int (zI b), .ref o])).length) Slot.unset).toArray = ls at hl ⊢
  have hl : lv_has ls 5 [(0, .ref (q 0)), (1, .int (zI a)), (2, .int (zI b)), (3, .ref o)] := hl
  refine lv_aload_n hx hb dL_marry_0 rfl (lv_at hl 3 rfl) ?_
  refine zr_iconst hx hb dL_marry_1 ?_
  refine lv_aload_n hx hb dL_marry_2 rfl (lv_at hl 0 rfl) ?_
  refine lv_iload_n hx hb dL_marry_3 rfl (lv_at hl 1 rfl) ?_
  refine lv_iload_n hx hb dL_marry_4 rfl (lv_at hl 2 rfl) ?_
  refine zcallXV (ci := 2) (q0 := 0) (cq := (RX2, TX2, 9)) (As := [.int (zI a), .int (zI b)]) (rest := [.int (zI 0), .ref o]) ⟨hx, hb, hml, hown, hts⟩ (hK.sub (tys' := [(cI, .int), (cZ, .boolean)]) [0, 1] rfl) (kX2_marryx1 l D hl0 cI cZ q hN pa sp al dg co da mb dd ah wl lo n td wn hn a b h0 h1) (cwV 2 hts gL_marry_X2_marry rfl rfl rfl (by decide +kernel) ⟨Nat.le_of_ble_eq_true rfl, Nat.le_of_ble_eq_true rfl⟩) hP hT hS hA rfl rfl rfl hl.1 rfl (Nat.le_of_ble_eq_true rfl) dL_marry_5 ⟨Nat.le_of_ble_eq_true rfl, Nat.le_of_ble_eq_true rfl⟩ (fun ce q9 H locs hP hS _ hkk hce hcv hcl => ?_)
  have hO := zkeep hO hkk hoL
  refine vx_catch (E := "java/lang/IndexOutOfBoundsException") (name := "java/lang/IndexOutOfBoundsException") hown [] ⟨0, 10, 13, 19⟩ [⟨0, 10, 17, 25⟩, ⟨0, 10, 21, 13⟩] (by rw [htab]; rfl) (fun z hz => nomatch hz) (by decide) (by decide) (hts (.classLink RL 19 "java/lang/IndexOutOfBoundsException") (by decide +kernel)) (show (Cond.castable zIO zIO).before _ s9 = true from hE.1.1) hce hcv hcl ?_
  refine lv_astore (lv' := [(4, .ref q9), (0, .ref (q 0)), (1, .int (zI a)), (2, .int (zI b)), (3, .ref o)]) hx hb dL_marry_13 hl (by decide) rfl (fun ls hl => ?_)
  refine zr_iconst hx hb dL_marry_15 ?_
  rw [hQ0]
  exact vx_ret (W.iret hx hb hr (fun t ht _ => ⟨⟨rfl, by rw [ht]; exact hP, by rw [ht]; exact hO⟩, hS.F ht⟩) hS.2.2 dL_marry_16 hlocks)
set_option maxHeartbeats 4000000 in
set_option maxRecDepth 100000 in
theorem kL_marryx2 (l : Launch) (D : va_G) (hl0 : l.stackTraces = false) (cI cZ cJ : ClassId) (q : Nat → Nat) (o : Nat) (hN : (zLC q).Nodup) (hN2 : (zLC q ++ [o]).Nodup) (pa : Int → Int) (sp : Int → Int) (al : Int → Int) (dg : Int → Int) (co : Int → Int) (da : Int → Int) (mb : Int → Int) (dd : Int → Int) (ah : Int → Int) (wl : Int → Int) (lo : Int → Int) (n : Nat) (td : Int) (wn : Int) (f : Nat → Int64) (hn : n ≤ 16) (a : Int) (b : Int) (h0 : -2147483648 ≤ b ∧ b ≤ 2147483647) (h1 : 0 ≤ a ∧ a < (n : Int)) (h2 : ¬ (0 ≤ b ∧ b < (n : Int))) : zLW l yL_marry wsL_marry ({ frames := 8, cells := 1, slots := 6, locals := 135 }) D [(cI, .int), (cZ, .boolean), (cJ, .long)] cJ [.ref (q 0), .int (zI a), .int (zI b), .ref o] (wC cI cZ q pa sp al dg co da mb dd ah wl lo n td wn) (wC cI cZ q pa sp al dg co da mb dd ah wl lo n td wn) o f f 1 (zLC q) 1 6 := by
  refine vx_ofWH (cc := cL_marry) (maxL := 5) (ret := some .int) (hh := [(0, 10, 13, 19), (0, 10, 17, 25), (0, 10, 21, 13)]) (by decide) rfl ?_
  intro p0 e9 s9 m9 ag9 below meth c9 s₁ B hml hv
  obtain ⟨hav, hP, hO, hK, hT, hE⟩ := hv
  have hx := B.exec
  have hb := B.bytes
  have hr := B.returns
  have hts := atoms_spec (ws := wsL_marry) B.pre
  have hown : s9.vm.findClass RL = some m9.cls := findClass_of_methodNamed B.named
  have hlocks := B.notSynchronized
  have hA : ∀ a ∈ zLC q, (fun a => a ∈ zLC q ++ [o]) a := fun _ h => List.mem_append_left _ h
  have hA2 : ∀ a ∈ zLC q ++ [o], (fun a => a ∈ zLC q ++ [o]) a := fun _ h => h
  have hoL : ∀ a ∈ [o], a ∉ zLC q := fun a ha h => (List.nodup_append.mp hN2).2.2 a h a ha rfl
  have htab := vx_table (x := yL_marry) B (hts (.codeWith yL_marry cL_marry 5 (some .int) [(0, 10, 13, 19), (0, 10, 17, 25), (0, 10, 21, 13)]) (by rw [show wsL_marry = _ from rfl]; exact List.mem_cons_self))
  have hl := lv_entry ([.ref (q 0), .int (zI a), .int (zI b), .ref o]) (n := 5) (Nat.le_of_ble_eq_true rfl)
  have hE0 : entryFrame m9 ag9 5 = F0 m9 0 ((lg_sl ([.ref (q 0), .int (zI a), .int (zI b), .ref o]) ++ List.replicate (5 - (lg_sl ([.ref (q 0), .int (zI a), .int (zI b), .ref o])).length) Slot.unset).toArray) [] := by rw [hav]; exact lg_entry_eq m9 _ _
  obtain ⟨Q0, hQ0⟩ : ∃ Q0, Q0 = vx_MQ below (zQL D (wC cI cZ q pa sp al dg co da mb dd ah wl lo n td wn) cJ o f 1 (zLC q)) zF ag9 s9 1 6 (fun a => a ∈ zLC q ++ [o]) := ⟨_, rfl⟩
  show W p0 l e9 ({ frames := 8, cells := 1, slots := 6, locals := 135 }) s9 m9 ag9 below meth c9 s9.heap [] 0 0 (vx_MQ below (zQL D (wC cI cZ q pa sp al dg co da mb dd ah wl lo n td wn) cJ o f 1 (zLC q)) zF ag9 s9 1 6 (fun a => a ∈ zLC q ++ [o])) _
  rw [hE0, ← hQ0]
  have hS : va_S (fun a => a ∈ zLC q ++ [o]) s9.heap s9.heap [] := va_S.rf
  generalize hH0 : s9.heap = H at hP hO ⊢
  have hS : va_S (fun a => a ∈ zLC q ++ [o]) s9.heap H [] := by rw [hH0] at hS ⊢; exact hS
  have hT : zT (fun a => a ∈ zLC q) s9 H := by rw [hH0] at hT; exact hT
  generalize (lg_sl ([.ref (q 0), .int (zI a), .int (zI b), .ref o]) ++ List.replicate (5 - (lg_sl ([.ref (q 0), .int (zI a), .int (zI b), .ref o])).length) Slot.unset).toArray = ls at hl ⊢
  have hl : lv_has ls 5 [(0, .ref (q 0)), (1, .int (zI a)), (2, .int (zI b)), (3, .ref o)] := hl
  refine lv_aload_n hx hb dL_marry_0 rfl (lv_at hl 3 rfl) ?_
  refine zr_iconst hx hb dL_marry_1 ?_
  refine lv_aload_n hx hb dL_marry_2 rfl (lv_at hl 0 rfl) ?_
  refine lv_iload_n hx hb dL_marry_3 rfl (lv_at hl 1 rfl) ?_
  refine lv_iload_n hx hb dL_marry_4 rfl (lv_at hl 2 rfl) ?_
  refine zcallXV (ci := 2) (q0 := 0) (cq := (RX2, TX2, 9)) (As := [.int (zI a), .int (zI b)]) (rest := [.int (zI 0), .ref o]) ⟨hx, hb, hml, hown, hts⟩ (hK.sub (tys' := [(cI, .int), (cZ, .boolean)]) [0, 1] rfl) (kX2_marryx2 l D hl0 cI cZ q hN pa sp al dg co da mb dd ah wl lo n td wn hn a b h0 h1 h2) (cwV 2 hts gL_marry_X2_marry rfl rfl rfl (by decide +kernel) ⟨Nat.le_of_ble_eq_true rfl, Nat.le_of_ble_eq_true rfl⟩) hP hT hS hA rfl rfl rfl hl.1 rfl (Nat.le_of_ble_eq_true rfl) dL_marry_5 ⟨Nat.le_of_ble_eq_true rfl, Nat.le_of_ble_eq_true rfl⟩ (fun ce q9 H locs hP hS _ hkk hce hcv hcl => ?_)
  have hO := zkeep hO hkk hoL
  refine vx_catch (E := "java/lang/IndexOutOfBoundsException") (name := "java/lang/IndexOutOfBoundsException") hown [] ⟨0, 10, 13, 19⟩ [⟨0, 10, 17, 25⟩, ⟨0, 10, 21, 13⟩] (by rw [htab]; rfl) (fun z hz => nomatch hz) (by decide) (by decide) (hts (.classLink RL 19 "java/lang/IndexOutOfBoundsException") (by decide +kernel)) (show (Cond.castable zIO zIO).before _ s9 = true from hE.1.1) hce hcv hcl ?_
  refine lv_astore (lv' := [(4, .ref q9), (0, .ref (q 0)), (1, .int (zI a)), (2, .int (zI b)), (3, .ref o)]) hx hb dL_marry_13 hl (by decide) rfl (fun ls hl => ?_)
  refine zr_iconst hx hb dL_marry_15 ?_
  rw [hQ0]
  exact vx_ret (W.iret hx hb hr (fun t ht _ => ⟨⟨rfl, by rw [ht]; exact hP, by rw [ht]; exact hO⟩, hS.F ht⟩) hS.2.2 dL_marry_16 hlocks)
set_option maxHeartbeats 4000000 in
set_option maxRecDepth 100000 in
theorem kL_marryx3 (l : Launch) (D : va_G) (hl0 : l.stackTraces = false) (cI cZ cJ : ClassId) (q : Nat → Nat) (o : Nat) (hN : (zLC q).Nodup) (hN2 : (zLC q ++ [o]).Nodup) (pa : Int → Int) (sp : Int → Int) (al : Int → Int) (dg : Int → Int) (co : Int → Int) (da : Int → Int) (mb : Int → Int) (dd : Int → Int) (ah : Int → Int) (wl : Int → Int) (lo : Int → Int) (n : Nat) (td : Int) (wn : Int) (f : Nat → Int64) (hn : n ≤ 16) (a : Int) (b : Int) (h1 : 0 ≤ a ∧ a < (n : Int)) (h2 : 0 ≤ b ∧ b < (n : Int)) (h3 : a = b) : zLW l yL_marry wsL_marry ({ frames := 8, cells := 1, slots := 6, locals := 135 }) D [(cI, .int), (cZ, .boolean), (cJ, .long)] cJ [.ref (q 0), .int (zI a), .int (zI b), .ref o] (wC cI cZ q pa sp al dg co da mb dd ah wl lo n td wn) (wC cI cZ q pa sp al dg co da mb dd ah wl lo n td wn) o f f 2 (zLC q) 1 6 := by
  refine vx_ofWH (cc := cL_marry) (maxL := 5) (ret := some .int) (hh := [(0, 10, 13, 19), (0, 10, 17, 25), (0, 10, 21, 13)]) (by decide) rfl ?_
  intro p0 e9 s9 m9 ag9 below meth c9 s₁ B hml hv
  obtain ⟨hav, hP, hO, hK, hT, hE⟩ := hv
  have hx := B.exec
  have hb := B.bytes
  have hr := B.returns
  have hts := atoms_spec (ws := wsL_marry) B.pre
  have hown : s9.vm.findClass RL = some m9.cls := findClass_of_methodNamed B.named
  have hlocks := B.notSynchronized
  have hA : ∀ a ∈ zLC q, (fun a => a ∈ zLC q ++ [o]) a := fun _ h => List.mem_append_left _ h
  have hA2 : ∀ a ∈ zLC q ++ [o], (fun a => a ∈ zLC q ++ [o]) a := fun _ h => h
  have hoL : ∀ a ∈ [o], a ∉ zLC q := fun a ha h => (List.nodup_append.mp hN2).2.2 a h a ha rfl
  have htab := vx_table (x := yL_marry) B (hts (.codeWith yL_marry cL_marry 5 (some .int) [(0, 10, 13, 19), (0, 10, 17, 25), (0, 10, 21, 13)]) (by rw [show wsL_marry = _ from rfl]; exact List.mem_cons_self))
  have hl := lv_entry ([.ref (q 0), .int (zI a), .int (zI b), .ref o]) (n := 5) (Nat.le_of_ble_eq_true rfl)
  have hE0 : entryFrame m9 ag9 5 = F0 m9 0 ((lg_sl ([.ref (q 0), .int (zI a), .int (zI b), .ref o]) ++ List.replicate (5 - (lg_sl ([.ref (q 0), .int (zI a), .int (zI b), .ref o])).length) Slot.unset).toArray) [] := by rw [hav]; exact lg_entry_eq m9 _ _
  obtain ⟨Q0, hQ0⟩ : ∃ Q0, Q0 = vx_MQ below (zQL D (wC cI cZ q pa sp al dg co da mb dd ah wl lo n td wn) cJ o f 2 (zLC q)) zF ag9 s9 1 6 (fun a => a ∈ zLC q ++ [o]) := ⟨_, rfl⟩
  show W p0 l e9 ({ frames := 8, cells := 1, slots := 6, locals := 135 }) s9 m9 ag9 below meth c9 s9.heap [] 0 0 (vx_MQ below (zQL D (wC cI cZ q pa sp al dg co da mb dd ah wl lo n td wn) cJ o f 2 (zLC q)) zF ag9 s9 1 6 (fun a => a ∈ zLC q ++ [o])) _
  rw [hE0, ← hQ0]
  have hS : va_S (fun a => a ∈ zLC q ++ [o]) s9.heap s9.heap [] := va_S.rf
  generalize hH0 : s9.heap = H at hP hO ⊢
  have hS : va_S (fun a => a ∈ zLC q ++ [o]) s9.heap H [] := by rw [hH0] at hS ⊢; exact hS
  have hT : zT (fun a => a ∈ zLC q) s9 H := by rw [hH0] at hT; exact hT
  generalize (lg_sl ([.ref (q 0), .int (zI a), .int (zI b), .ref o]) ++ List.replicate (5 - (lg_sl ([.ref (q 0), .int (zI a), .int (zI b), .ref o])).length) Slot.unset).toArray = ls at hl ⊢
  have hl : lv_has ls 5 [(0, .ref (q 0)), (1, .int (zI a)), (2, .int (zI b)), (3, .ref o)] := hl
  refine lv_aload_n hx hb dL_marry_0 rfl (lv_at hl 3 rfl) ?_
  refine zr_iconst hx hb dL_marry_1 ?_
  refine lv_aload_n hx hb dL_marry_2 rfl (lv_at hl 0 rfl) ?_
  refine lv_iload_n hx hb dL_marry_3 rfl (lv_at hl 1 rfl) ?_
  refine lv_iload_n hx hb dL_marry_4 rfl (lv_at hl 2 rfl) ?_
  refine zcallXV (ci := 2) (q0 := 0) (cq := (RX2, TX2, 9)) (As := [.int (zI a), .int (zI b)]) (rest := [.int (zI 0), .ref o]) ⟨hx, hb, hml, hown, hts⟩ (hK.sub (tys' := [(cI, .int), (cZ, .boolean)]) [0, 1] rfl) (kX2_marryx3 l D hl0 cI cZ q hN pa sp al dg co da mb dd ah wl lo n td wn hn a b h1 h2 h3) (cwV 2 hts gL_marry_X2_marry rfl rfl rfl (by decide +kernel) ⟨Nat.le_of_ble_eq_true rfl, Nat.le_of_ble_eq_true rfl⟩) hP hT hS hA rfl rfl rfl hl.1 rfl (Nat.le_of_ble_eq_true rfl) dL_marry_5 ⟨Nat.le_of_ble_eq_true rfl, Nat.le_of_ble_eq_true rfl⟩ (fun ce q9 H locs hP hS _ hkk hce hcv hcl => ?_)
  have hO := zkeep hO hkk hoL
  refine vx_catch (E := "java/lang/IllegalArgumentException") (name := "java/lang/IllegalArgumentException") hown [⟨0, 10, 13, 19⟩] ⟨0, 10, 17, 25⟩ [⟨0, 10, 21, 13⟩] (by rw [htab]; rfl) (fun z hz => by
    simp only [List.mem_cons, List.not_mem_nil, or_false] at hz
    subst hz
    exact Or.inr ⟨by decide, "java/lang/IndexOutOfBoundsException", hts (.classLink RL 19 "java/lang/IndexOutOfBoundsException") (by decide +kernel), hE.2.2.1⟩) (by decide) (by decide) (hts (.classLink RL 25 "java/lang/IllegalArgumentException") (by decide +kernel)) (show (Cond.castable zIA zIA).before _ s9 = true from hE.1.2.2) hce hcv hcl ?_
  refine lv_astore (lv' := [(4, .ref q9), (0, .ref (q 0)), (1, .int (zI a)), (2, .int (zI b)), (3, .ref o)]) hx hb dL_marry_17 hl (by decide) rfl (fun ls hl => ?_)
  refine zr_iconst hx hb dL_marry_19 ?_
  rw [hQ0]
  exact vx_ret (W.iret hx hb hr (fun t ht _ => ⟨⟨rfl, by rw [ht]; exact hP, by rw [ht]; exact hO⟩, hS.F ht⟩) hS.2.2 dL_marry_20 hlocks)
set_option maxHeartbeats 4000000 in
set_option maxRecDepth 100000 in
theorem kL_marryx4 (l : Launch) (D : va_G) (hl0 : l.stackTraces = false) (cI cZ cJ : ClassId) (q : Nat → Nat) (o : Nat) (hN : (zLC q).Nodup) (hN2 : (zLC q ++ [o]).Nodup) (pa : Int → Int) (sp : Int → Int) (al : Int → Int) (dg : Int → Int) (co : Int → Int) (da : Int → Int) (mb : Int → Int) (dd : Int → Int) (ah : Int → Int) (wl : Int → Int) (lo : Int → Int) (n : Nat) (td : Int) (wn : Int) (f : Nat → Int64) (hn : n ≤ 16) (hal : ∀ j : Int, 0 ≤ al j ∧ al j ≤ 1) (a : Int) (b : Int) (h1 : 0 ≤ a ∧ a < (n : Int)) (h2 : 0 ≤ b ∧ b < (n : Int)) (h3 : a ≠ b) (h4 : al a = 0) : zLW l yL_marry wsL_marry ({ frames := 8, cells := 1, slots := 6, locals := 135 }) D [(cI, .int), (cZ, .boolean), (cJ, .long)] cJ [.ref (q 0), .int (zI a), .int (zI b), .ref o] (wC cI cZ q pa sp al dg co da mb dd ah wl lo n td wn) (wC cI cZ q pa sp al dg co da mb dd ah wl lo n td wn) o f f 3 (zLC q) 1 6 := by
  refine vx_ofWH (cc := cL_marry) (maxL := 5) (ret := some .int) (hh := [(0, 10, 13, 19), (0, 10, 17, 25), (0, 10, 21, 13)]) (by decide) rfl ?_
  intro p0 e9 s9 m9 ag9 below meth c9 s₁ B hml hv
  obtain ⟨hav, hP, hO, hK, hT, hE⟩ := hv
  have hx := B.exec
  have hb := B.bytes
  have hr := B.returns
  have hts := atoms_spec (ws := wsL_marry) B.pre
  have hown : s9.vm.findClass RL = some m9.cls := findClass_of_methodNamed B.named
  have hlocks := B.notSynchronized
  have hA : ∀ a ∈ zLC q, (fun a => a ∈ zLC q ++ [o]) a := fun _ h => List.mem_append_left _ h
  have hA2 : ∀ a ∈ zLC q ++ [o], (fun a => a ∈ zLC q ++ [o]) a := fun _ h => h
  have hoL : ∀ a ∈ [o], a ∉ zLC q := fun a ha h => (List.nodup_append.mp hN2).2.2 a h a ha rfl
  have htab := vx_table (x := yL_marry) B (hts (.codeWith yL_marry cL_marry 5 (some .int) [(0, 10, 13, 19), (0, 10, 17, 25), (0, 10, 21, 13)]) (by rw [show wsL_marry = _ from rfl]; exact List.mem_cons_self))
  have hl := lv_entry ([.ref (q 0), .int (zI a), .int (zI b), .ref o]) (n := 5) (Nat.le_of_ble_eq_true rfl)
  have hE0 : entryFrame m9 ag9 5 = F0 m9 0 ((lg_sl ([.ref (q 0), .int (zI a), .int (zI b), .ref o]) ++ List.replicate (5 - (lg_sl ([.ref (q 0), .int (zI a), .int (zI b), .ref o])).length) Slot.unset).toArray) [] := by rw [hav]; exact lg_entry_eq m9 _ _
  obtain ⟨Q0, hQ0⟩ : ∃ Q0, Q0 = vx_MQ below (zQL D (wC cI cZ q pa sp al dg co da mb dd ah wl lo n td wn) cJ o f 3 (zLC q)) zF ag9 s9 1 6 (fun a => a ∈ zLC q ++ [o]) := ⟨_, rfl⟩
  show W p0 l e9 ({ frames := 8, cells := 1, slots := 6, locals := 135 }) s9 m9 ag9 below meth c9 s9.heap [] 0 0 (vx_MQ below (zQL D (wC cI cZ q pa sp al dg co da mb dd ah wl lo n td wn) cJ o f 3 (zLC q)) zF ag9 s9 1 6 (fun a => a ∈ zLC q ++ [o])) _
  rw [hE0, ← hQ0]
  have hS : va_S (fun a => a ∈ zLC q ++ [o]) s9.heap s9.heap [] := va_S.rf
  generalize hH0 : s9.heap = H at hP hO ⊢
  have hS : va_S (fun a => a ∈ zLC q ++ [o]) s9.heap H [] := by rw [hH0] at hS ⊢; exact hS
  have hT : zT (fun a => a ∈ zLC q) s9 H := by rw [hH0] at hT; exact hT
  generalize (lg_sl ([.ref (q 0), .int (zI a), .int (zI b), .ref o]) ++ List.replicate (5 - (lg_sl ([.ref (q 0), .int (zI a), .int (zI b), .ref o])).length) Slot.unset).toArray = ls at hl ⊢
  have hl : lv_has ls 5 [(0, .ref (q 0)), (1, .int (zI a)), (2, .int (zI b)), (3, .ref o)] := hl
  refine lv_aload_n hx hb dL_marry_0 rfl (lv_at hl 3 rfl) ?_
  refine zr_iconst hx hb dL_marry_1 ?_
  refine lv_aload_n hx hb dL_marry_2 rfl (lv_at hl 0 rfl) ?_
  refine lv_iload_n hx hb dL_marry_3 rfl (lv_at hl 1 rfl) ?_
  refine lv_iload_n hx hb dL_marry_4 rfl (lv_at hl 2 rfl) ?_
  refine zcallXV (ci := 2) (q0 := 0) (cq := (RX2, TX2, 9)) (As := [.int (zI a), .int (zI b)]) (rest := [.int (zI 0), .ref o]) ⟨hx, hb, hml, hown, hts⟩ (hK.sub (tys' := [(cI, .int), (cZ, .boolean)]) [0, 1] rfl) (kX2_marryx4 l D hl0 cI cZ q hN pa sp al dg co da mb dd ah wl lo n td wn hn hal a b h1 h2 h3 h4) (cwV 2 hts gL_marry_X2_marry rfl rfl rfl (by decide +kernel) ⟨Nat.le_of_ble_eq_true rfl, Nat.le_of_ble_eq_true rfl⟩) hP hT hS hA rfl rfl rfl hl.1 rfl (Nat.le_of_ble_eq_true rfl) dL_marry_5 ⟨Nat.le_of_ble_eq_true rfl, Nat.le_of_ble_eq_true rfl⟩ (fun ce q9 H locs hP hS _ hkk hce hcv hcl => ?_)
  have hO := zkeep hO hkk hoL
  refine vx_catch (E := "java/lang/IllegalStateException") (name := "java/lang/IllegalStateException") hown [⟨0, 10, 13, 19⟩, ⟨0, 10, 17, 25⟩] ⟨0, 10, 21, 13⟩ [] (by rw [htab]; rfl) (fun z hz => by
    simp only [List.mem_cons, List.not_mem_nil, or_false] at hz
    rcases hz with rfl | rfl
    · exact Or.inr ⟨by decide, "java/lang/IndexOutOfBoundsException", hts (.classLink RL 19 "java/lang/IndexOutOfBoundsException") (by decide +kernel), hE.2.1⟩
    · exact Or.inr ⟨by decide, "java/lang/IllegalArgumentException", hts (.classLink RL 25 "java/lang/IllegalArgumentException") (by decide +kernel), hE.2.2.2⟩) (by decide) (by decide) (hts (.classLink RL 13 "java/lang/IllegalStateException") (by decide +kernel)) (show (Cond.castable zIS zIS).before _ s9 = true from hE.1.2.1) hce hcv hcl ?_
  refine lv_astore (lv' := [(4, .ref q9), (0, .ref (q 0)), (1, .int (zI a)), (2, .int (zI b)), (3, .ref o)]) hx hb dL_marry_21 hl (by decide) rfl (fun ls hl => ?_)
  refine zr_iconst hx hb dL_marry_23 ?_
  rw [hQ0]
  exact vx_ret (W.iret hx hb hr (fun t ht _ => ⟨⟨rfl, by rw [ht]; exact hP, by rw [ht]; exact hO⟩, hS.F ht⟩) hS.2.2 dL_marry_24 hlocks)
set_option maxHeartbeats 4000000 in
set_option maxRecDepth 100000 in
theorem kL_marryx5 (l : Launch) (D : va_G) (hl0 : l.stackTraces = false) (cI cZ cJ : ClassId) (q : Nat → Nat) (o : Nat) (hN : (zLC q).Nodup) (hN2 : (zLC q ++ [o]).Nodup) (pa : Int → Int) (sp : Int → Int) (al : Int → Int) (dg : Int → Int) (co : Int → Int) (da : Int → Int) (mb : Int → Int) (dd : Int → Int) (ah : Int → Int) (wl : Int → Int) (lo : Int → Int) (n : Nat) (td : Int) (wn : Int) (f : Nat → Int64) (hn : n ≤ 16) (hal : ∀ j : Int, 0 ≤ al j ∧ al j ≤ 1) (a : Int) (b : Int) (h1 : 0 ≤ a ∧ a < (n : Int)) (h2 : 0 ≤ b ∧ b < (n : Int)) (h3 : a ≠ b) (h4 : al a ≠ 0) (h5 : al b = 0) : zLW l yL_marry wsL_marry ({ frames := 8, cells := 1, slots := 6, locals := 135 }) D [(cI, .int), (cZ, .boolean), (cJ, .long)] cJ [.ref (q 0), .int (zI a), .int (zI b), .ref o] (wC cI cZ q pa sp al dg co da mb dd ah wl lo n td wn) (wC cI cZ q pa sp al dg co da mb dd ah wl lo n td wn) o f f 3 (zLC q) 1 6 := by
  refine vx_ofWH (cc := cL_marry) (maxL := 5) (ret := some .int) (hh := [(0, 10, 13, 19), (0, 10, 17, 25), (0, 10, 21, 13)]) (by decide) rfl ?_
  intro p0 e9 s9 m9 ag9 below meth c9 s₁ B hml hv
  obtain ⟨hav, hP, hO, hK, hT, hE⟩ := hv
  have hx := B.exec
  have hb := B.bytes
  have hr := B.returns
  have hts := atoms_spec (ws := wsL_marry) B.pre
  have hown : s9.vm.findClass RL = some m9.cls := findClass_of_methodNamed B.named
  have hlocks := B.notSynchronized
  have hA : ∀ a ∈ zLC q, (fun a => a ∈ zLC q ++ [o]) a := fun _ h => List.mem_append_left _ h
  have hA2 : ∀ a ∈ zLC q ++ [o], (fun a => a ∈ zLC q ++ [o]) a := fun _ h => h
  have hoL : ∀ a ∈ [o], a ∉ zLC q := fun a ha h => (List.nodup_append.mp hN2).2.2 a h a ha rfl
  have htab := vx_table (x := yL_marry) B (hts (.codeWith yL_marry cL_marry 5 (some .int) [(0, 10, 13, 19), (0, 10, 17, 25), (0, 10, 21, 13)]) (by rw [show wsL_marry = _ from rfl]; exact List.mem_cons_self))
  have hl := lv_entry ([.ref (q 0), .int (zI a), .int (zI b), .ref o]) (n := 5) (Nat.le_of_ble_eq_true rfl)
  have hE0 : entryFrame m9 ag9 5 = F0 m9 0 ((lg_sl ([.ref (q 0), .int (zI a), .int (zI b), .ref o]) ++ List.replicate (5 - (lg_sl ([.ref (q 0), .int (zI a), .int (zI b), .ref o])).length) Slot.unset).toArray) [] := by rw [hav]; exact lg_entry_eq m9 _ _
  obtain ⟨Q0, hQ0⟩ : ∃ Q0, Q0 = vx_MQ below (zQL D (wC cI cZ q pa sp al dg co da mb dd ah wl lo n td wn) cJ o f 3 (zLC q)) zF ag9 s9 1 6 (fun a => a ∈ zLC q ++ [o]) := ⟨_, rfl⟩
  show W p0 l e9 ({ frames := 8, cells := 1, slots := 6, locals := 135 }) s9 m9 ag9 below meth c9 s9.heap [] 0 0 (vx_MQ below (zQL D (wC cI cZ q pa sp al dg co da mb dd ah wl lo n td wn) cJ o f 3 (zLC q)) zF ag9 s9 1 6 (fun a => a ∈ zLC q ++ [o])) _
  rw [hE0, ← hQ0]
  have hS : va_S (fun a => a ∈ zLC q ++ [o]) s9.heap s9.heap [] := va_S.rf
  generalize hH0 : s9.heap = H at hP hO ⊢
  have hS : va_S (fun a => a ∈ zLC q ++ [o]) s9.heap H [] := by rw [hH0] at hS ⊢; exact hS
  have hT : zT (fun a => a ∈ zLC q) s9 H := by rw [hH0] at hT; exact hT
  generalize (lg_sl ([.ref (q 0), .int (zI a), .int (zI b), .ref o]) ++ List.replicate (5 - (lg_sl ([.ref (q 0), .int (zI a), .int (zI b), .ref o])).length) Slot.unset).toArray = ls at hl ⊢
  have hl : lv_has ls 5 [(0, .ref (q 0)), (1, .int (zI a)), (2, .int (zI b)), (3, .ref o)] := hl
  refine lv_aload_n hx hb dL_marry_0 rfl (lv_at hl 3 rfl) ?_
  refine zr_iconst hx hb dL_marry_1 ?_
  refine lv_aload_n hx hb dL_marry_2 rfl (lv_at hl 0 rfl) ?_
  refine lv_iload_n hx hb dL_marry_3 rfl (lv_at hl 1 rfl) ?_
  refine lv_iload_n hx hb dL_marry_4 rfl (lv_at hl 2 rfl) ?_
  refine zcallXV (ci := 2) (q0 := 0) (cq := (RX2, TX2, 9)) (As := [.int (zI a), .int (zI b)]) (rest := [.int (zI 0), .ref o]) ⟨hx, hb, hml, hown, hts⟩ (hK.sub (tys' := [(cI, .int), (cZ, .boolean)]) [0, 1] rfl) (kX2_marryx5 l D hl0 cI cZ q hN pa sp al dg co da mb dd ah wl lo n td wn hn hal a b h1 h2 h3 h4 h5) (cwV 2 hts gL_marry_X2_marry rfl rfl rfl (by decide +kernel) ⟨Nat.le_of_ble_eq_true rfl, Nat.le_of_ble_eq_true rfl⟩) hP hT hS hA rfl rfl rfl hl.1 rfl (Nat.le_of_ble_eq_true rfl) dL_marry_5 ⟨Nat.le_of_ble_eq_true rfl, Nat.le_of_ble_eq_true rfl⟩ (fun ce q9 H locs hP hS _ hkk hce hcv hcl => ?_)
  have hO := zkeep hO hkk hoL
  refine vx_catch (E := "java/lang/IllegalStateException") (name := "java/lang/IllegalStateException") hown [⟨0, 10, 13, 19⟩, ⟨0, 10, 17, 25⟩] ⟨0, 10, 21, 13⟩ [] (by rw [htab]; rfl) (fun z hz => by
    simp only [List.mem_cons, List.not_mem_nil, or_false] at hz
    rcases hz with rfl | rfl
    · exact Or.inr ⟨by decide, "java/lang/IndexOutOfBoundsException", hts (.classLink RL 19 "java/lang/IndexOutOfBoundsException") (by decide +kernel), hE.2.1⟩
    · exact Or.inr ⟨by decide, "java/lang/IllegalArgumentException", hts (.classLink RL 25 "java/lang/IllegalArgumentException") (by decide +kernel), hE.2.2.2⟩) (by decide) (by decide) (hts (.classLink RL 13 "java/lang/IllegalStateException") (by decide +kernel)) (show (Cond.castable zIS zIS).before _ s9 = true from hE.1.2.1) hce hcv hcl ?_
  refine lv_astore (lv' := [(4, .ref q9), (0, .ref (q 0)), (1, .int (zI a)), (2, .int (zI b)), (3, .ref o)]) hx hb dL_marry_21 hl (by decide) rfl (fun ls hl => ?_)
  refine zr_iconst hx hb dL_marry_23 ?_
  rw [hQ0]
  exact vx_ret (W.iret hx hb hr (fun t ht _ => ⟨⟨rfl, by rw [ht]; exact hP, by rw [ht]; exact hO⟩, hS.F ht⟩) hS.2.2 dL_marry_24 hlocks)
set_option maxHeartbeats 4000000 in
set_option maxRecDepth 100000 in
theorem kL_marryx6 (l : Launch) (D : va_G) (hl0 : l.stackTraces = false) (cI cZ cJ : ClassId) (q : Nat → Nat) (o : Nat) (hN : (zLC q).Nodup) (hN2 : (zLC q ++ [o]).Nodup) (pa : Int → Int) (sp : Int → Int) (al : Int → Int) (dg : Int → Int) (co : Int → Int) (da : Int → Int) (mb : Int → Int) (dd : Int → Int) (ah : Int → Int) (wl : Int → Int) (lo : Int → Int) (n : Nat) (td : Int) (wn : Int) (f : Nat → Int64) (hn : n ≤ 16) (hsp : ∀ j : Int, -1 ≤ sp j ∧ sp j ≤ 15) (hal : ∀ j : Int, 0 ≤ al j ∧ al j ≤ 1) (hpa : ∀ j : Int, -1 ≤ pa j ∧ pa j ≤ 15) (a : Int) (b : Int) (h1 : 0 ≤ a ∧ a < (n : Int)) (h2 : 0 ≤ b ∧ b < (n : Int)) (h3 : a ≠ b) (h4 : al a ≠ 0) (h5 : al b ≠ 0) (h6 : (sp a ≠ -1 ∧ al (sp a) ≠ 0) ∨ (sp b ≠ -1 ∧ al (sp b) ≠ 0)) : zLW l yL_marry wsL_marry ({ frames := 8, cells := 1, slots := 6, locals := 135 }) D [(cI, .int), (cZ, .boolean), (cJ, .long)] cJ [.ref (q 0), .int (zI a), .int (zI b), .ref o] (wC cI cZ q pa sp al dg co da mb dd ah wl lo n td wn) (wC cI cZ q pa sp al dg co da mb dd ah wl lo n td wn) o f f 3 (zLC q) 1 6 := by
  refine vx_ofWH (cc := cL_marry) (maxL := 5) (ret := some .int) (hh := [(0, 10, 13, 19), (0, 10, 17, 25), (0, 10, 21, 13)]) (by decide) rfl ?_
  intro p0 e9 s9 m9 ag9 below meth c9 s₁ B hml hv
  obtain ⟨hav, hP, hO, hK, hT, hE⟩ := hv
  have hx := B.exec
  have hb := B.bytes
  have hr := B.returns
  have hts := atoms_spec (ws := wsL_marry) B.pre
  have hown : s9.vm.findClass RL = some m9.cls := findClass_of_methodNamed B.named
  have hlocks := B.notSynchronized
  have hA : ∀ a ∈ zLC q, (fun a => a ∈ zLC q ++ [o]) a := fun _ h => List.mem_append_left _ h
  have hA2 : ∀ a ∈ zLC q ++ [o], (fun a => a ∈ zLC q ++ [o]) a := fun _ h => h
  have hoL : ∀ a ∈ [o], a ∉ zLC q := fun a ha h => (List.nodup_append.mp hN2).2.2 a h a ha rfl
  have htab := vx_table (x := yL_marry) B (hts (.codeWith yL_marry cL_marry 5 (some .int) [(0, 10, 13, 19), (0, 10, 17, 25), (0, 10, 21, 13)]) (by rw [show wsL_marry = _ from rfl]; exact List.mem_cons_self))
  have hl := lv_entry ([.ref (q 0), .int (zI a), .int (zI b), .ref o]) (n := 5) (Nat.le_of_ble_eq_true rfl)
  have hE0 : entryFrame m9 ag9 5 = F0 m9 0 ((lg_sl ([.ref (q 0), .int (zI a), .int (zI b), .ref o]) ++ List.replicate (5 - (lg_sl ([.ref (q 0), .int (zI a), .int (zI b), .ref o])).length) Slot.unset).toArray) [] := by rw [hav]; exact lg_entry_eq m9 _ _
  obtain ⟨Q0, hQ0⟩ : ∃ Q0, Q0 = vx_MQ below (zQL D (wC cI cZ q pa sp al dg co da mb dd ah wl lo n td wn) cJ o f 3 (zLC q)) zF ag9 s9 1 6 (fun a => a ∈ zLC q ++ [o]) := ⟨_, rfl⟩
  show W p0 l e9 ({ frames := 8, cells := 1, slots := 6, locals := 135 }) s9 m9 ag9 below meth c9 s9.heap [] 0 0 (vx_MQ below (zQL D (wC cI cZ q pa sp al dg co da mb dd ah wl lo n td wn) cJ o f 3 (zLC q)) zF ag9 s9 1 6 (fun a => a ∈ zLC q ++ [o])) _
  rw [hE0, ← hQ0]
  have hS : va_S (fun a => a ∈ zLC q ++ [o]) s9.heap s9.heap [] := va_S.rf
  generalize hH0 : s9.heap = H at hP hO ⊢
  have hS : va_S (fun a => a ∈ zLC q ++ [o]) s9.heap H [] := by rw [hH0] at hS ⊢; exact hS
  have hT : zT (fun a => a ∈ zLC q) s9 H := by rw [hH0] at hT; exact hT
  generalize (lg_sl ([.ref (q 0), .int (zI a), .int (zI b), .ref o]) ++ List.replicate (5 - (lg_sl ([.ref (q 0), .int (zI a), .int (zI b), .ref o])).length) Slot.unset).toArray = ls at hl ⊢
  have hl : lv_has ls 5 [(0, .ref (q 0)), (1, .int (zI a)), (2, .int (zI b)), (3, .ref o)] := hl
  refine lv_aload_n hx hb dL_marry_0 rfl (lv_at hl 3 rfl) ?_
  refine zr_iconst hx hb dL_marry_1 ?_
  refine lv_aload_n hx hb dL_marry_2 rfl (lv_at hl 0 rfl) ?_
  refine lv_iload_n hx hb dL_marry_3 rfl (lv_at hl 1 rfl) ?_
  refine lv_iload_n hx hb dL_marry_4 rfl (lv_at hl 2 rfl) ?_
  refine zcallXV (ci := 2) (q0 := 0) (cq := (RX2, TX2, 9)) (As := [.int (zI a), .int (zI b)]) (rest := [.int (zI 0), .ref o]) ⟨hx, hb, hml, hown, hts⟩ (hK.sub (tys' := [(cI, .int), (cZ, .boolean)]) [0, 1] rfl) (kX2_marryx6 l D hl0 cI cZ q hN pa sp al dg co da mb dd ah wl lo n td wn hn hsp hal hpa a b h1 h2 h3 h4 h5 h6) (cwV 2 hts gL_marry_X2_marry rfl rfl rfl (by decide +kernel) ⟨Nat.le_of_ble_eq_true rfl, Nat.le_of_ble_eq_true rfl⟩) hP hT hS hA rfl rfl rfl hl.1 rfl (Nat.le_of_ble_eq_true rfl) dL_marry_5 ⟨Nat.le_of_ble_eq_true rfl, Nat.le_of_ble_eq_true rfl⟩ (fun ce q9 H locs hP hS _ hkk hce hcv hcl => ?_)
  have hO := zkeep hO hkk hoL
  refine vx_catch (E := "java/lang/IllegalStateException") (name := "java/lang/IllegalStateException") hown [⟨0, 10, 13, 19⟩, ⟨0, 10, 17, 25⟩] ⟨0, 10, 21, 13⟩ [] (by rw [htab]; rfl) (fun z hz => by
    simp only [List.mem_cons, List.not_mem_nil, or_false] at hz
    rcases hz with rfl | rfl
    · exact Or.inr ⟨by decide, "java/lang/IndexOutOfBoundsException", hts (.classLink RL 19 "java/lang/IndexOutOfBoundsException") (by decide +kernel), hE.2.1⟩
    · exact Or.inr ⟨by decide, "java/lang/IllegalArgumentException", hts (.classLink RL 25 "java/lang/IllegalArgumentException") (by decide +kernel), hE.2.2.2⟩) (by decide) (by decide) (hts (.classLink RL 13 "java/lang/IllegalStateException") (by decide +kernel)) (show (Cond.castable zIS zIS).before _ s9 = true from hE.1.2.1) hce hcv hcl ?_
  refine lv_astore (lv' := [(4, .ref q9), (0, .ref (q 0)), (1, .int (zI a)), (2, .int (zI b)), (3, .ref o)]) hx hb dL_marry_21 hl (by decide) rfl (fun ls hl => ?_)
  refine zr_iconst hx hb dL_marry_23 ?_
  rw [hQ0]
  exact vx_ret (W.iret hx hb hr (fun t ht _ => ⟨⟨rfl, by rw [ht]; exact hP, by rw [ht]; exact hO⟩, hS.F ht⟩) hS.2.2 dL_marry_24 hlocks)
set_option maxHeartbeats 4000000 in
set_option maxRecDepth 100000 in
theorem kL_setStageok (l : Launch) (D : va_G) (hl0 : l.stackTraces = false) (cI cZ cJ : ClassId) (q : Nat → Nat) (o : Nat) (hN : (zLC q).Nodup) (hN2 : (zLC q ++ [o]).Nodup) (pa : Int → Int) (sp : Int → Int) (al : Int → Int) (dg : Int → Int) (co : Int → Int) (da : Int → Int) (mb : Int → Int) (dd : Int → Int) (ah : Int → Int) (wl : Int → Int) (lo : Int → Int) (n : Nat) (td : Int) (wn : Int) (f : Nat → Int64) (hda : ∀ j : Int, 0 ≤ da j ∧ da j ≤ 60) (g : Int) (s : Int) (c : Int) (k : Int) (h1 : 1 ≤ g ∧ g ≤ 4) (h2 : 0 ≤ s ∧ s ≤ 2) (h3 : 0 ≤ c ∧ c ≤ 5) (h4 : 0 ≤ k ∧ k ≤ 60) : zLW l yL_setStage wsL_setStage ({ frames := 9, cells := 0, slots := 0, locals := 158 }) D [(cI, .int), (cZ, .boolean), (cJ, .long)] cJ [.ref (q 0), .int (zI g), .int (zI s), .int (zI c), .int (zI k), .ref o] (wC cI cZ q pa sp al dg co da mb dd ah wl lo n td wn) (wC cI cZ q pa sp al dg (up co (16 * 12 + (g - 1) * 3 + s) c) (up da (16 * 12 + (g - 1) * 3 + s) k) mb dd ah wl lo n td wn) o f (vp_updL f 0 (zI (dAll (up da (16 * 12 + (g - 1) * 3 + s) k) 16 g)).toInt64) 0 (zLC q) 0 0 := by
  refine vx_ofWH (cc := cL_setStage) (maxL := 7) (ret := some .int) (hh := [(0, 14, 17, 19), (0, 14, 21, 25)]) (by decide) rfl ?_
  intro p0 e9 s9 m9 ag9 below meth c9 s₁ B hml hv
  obtain ⟨hav, hP, hO, hK, hT, hE⟩ := hv
  have hx := B.exec
  have hb := B.bytes
  have hr := B.returns
  have hts := atoms_spec (ws := wsL_setStage) B.pre
  have hown : s9.vm.findClass RL = some m9.cls := findClass_of_methodNamed B.named
  have hlocks := B.notSynchronized
  have hA : ∀ a ∈ zLC q, (fun a => a ∈ zLC q ++ [o]) a := fun _ h => List.mem_append_left _ h
  have hA2 : ∀ a ∈ zLC q ++ [o], (fun a => a ∈ zLC q ++ [o]) a := fun _ h => h
  have hoL : ∀ a ∈ [o], a ∉ zLC q := fun a ha h => (List.nodup_append.mp hN2).2.2 a h a ha rfl
  have hl := lv_entry ([.ref (q 0), .int (zI g), .int (zI s), .int (zI c), .int (zI k), .ref o]) (n := 7) (Nat.le_of_ble_eq_true rfl)
  have hE0 : entryFrame m9 ag9 7 = F0 m9 0 ((lg_sl ([.ref (q 0), .int (zI g), .int (zI s), .int (zI c), .int (zI k), .ref o]) ++ List.replicate (7 - (lg_sl ([.ref (q 0), .int (zI g), .int (zI s), .int (zI c), .int (zI k), .ref o])).length) Slot.unset).toArray) [] := by rw [hav]; exact lg_entry_eq m9 _ _
  obtain ⟨Q0, hQ0⟩ : ∃ Q0, Q0 = vx_MQ below (zQL D (wC cI cZ q pa sp al dg (up co (16 * 12 + (g - 1) * 3 + s) c) (up da (16 * 12 + (g - 1) * 3 + s) k) mb dd ah wl lo n td wn) cJ o (vp_updL f 0 (zI (dAll (up da (16 * 12 + (g - 1) * 3 + s) k) 16 g)).toInt64) 0 (zLC q)) zF ag9 s9 0 0 (fun a => a ∈ zLC q ++ [o]) := ⟨_, rfl⟩
  show W p0 l e9 ({ frames := 9, cells := 0, slots := 0, locals := 158 }) s9 m9 ag9 below meth c9 s9.heap [] 0 0 (vx_MQ below (zQL D (wC cI cZ q pa sp al dg (up co (16 * 12 + (g - 1) * 3 + s) c) (up da (16 * 12 + (g - 1) * 3 + s) k) mb dd ah wl lo n td wn) cJ o (vp_updL f 0 (zI (dAll (up da (16 * 12 + (g - 1) * 3 + s) k) 16 g)).toInt64) 0 (zLC q)) zF ag9 s9 0 0 (fun a => a ∈ zLC q ++ [o])) _
  rw [hE0, ← hQ0]
  have hS : va_S (fun a => a ∈ zLC q ++ [o]) s9.heap s9.heap [] := va_S.rf
  generalize hH0 : s9.heap = H at hP hO ⊢
  have hS : va_S (fun a => a ∈ zLC q ++ [o]) s9.heap H [] := by rw [hH0] at hS ⊢; exact hS
  have hT : zT (fun a => a ∈ zLC q) s9 H := by rw [hH0] at hT; exact hT
  generalize (lg_sl ([.ref (q 0), .int (zI g), .int (zI s), .int (zI c), .int (zI k), .ref o]) ++ List.replicate (7 - (lg_sl ([.ref (q 0), .int (zI g), .int (zI s), .int (zI c), .int (zI k), .ref o])).length) Slot.unset).toArray = ls at hl ⊢
  have hl : lv_has ls 7 [(0, .ref (q 0)), (1, .int (zI g)), (2, .int (zI s)), (3, .int (zI c)), (4, .int (zI k)), (5, .ref o)] := hl
  refine lv_aload hx hb dL_setStage_0 (lv_at hl 5 rfl) ?_
  refine zr_iconst hx hb dL_setStage_2 ?_
  refine lv_aload_n hx hb dL_setStage_3 rfl (lv_at hl 0 rfl) ?_
  refine lv_iload_n hx hb dL_setStage_4 rfl (lv_at hl 1 rfl) ?_
  refine lv_iload_n hx hb dL_setStage_5 rfl (lv_at hl 2 rfl) ?_
  refine lv_iload_n hx hb dL_setStage_6 rfl (lv_at hl 3 rfl) ?_
  refine lv_iload hx hb dL_setStage_7 (lv_at hl 4 rfl) ?_
  refine zcallV (ci := 2) (q0 := 0) (cq := (RX2, TX2, 9)) (As := [.int (zI g), .int (zI s), .int (zI c), .int (zI k)]) (rest := [.int (zI 0), .ref o]) ⟨hx, hb, hml, hown, hts⟩ (hK.sub (tys' := [(cI, .int), (cZ, .boolean)]) [0, 1] rfl) (kX2_setStageok l D cI cZ q hN pa sp al dg co da mb dd ah wl lo n td wn hda g s c k h1 h2 h3 h4) (cwV 4 hts gL_setStage_X2_setStage rfl rfl rfl (by decide +kernel) ⟨Nat.le_of_ble_eq_true rfl, Nat.le_of_ble_eq_true rfl⟩) hP hS hA rfl rfl rfl hl.1 rfl (Nat.le_of_ble_eq_true rfl) dL_setStage_9 ⟨Nat.zero_le _, Nat.zero_le _⟩ (fun H locs hP hS _ hkk => ?_)
  have hO := zkeep hO hkk hoL
  refine W.eq (g2 := F0 m9 12 ls [.int (zI (dAll (up da (16 * 12 + (g - 1) * 3 + s) k) 16 g)), .int (zI 0), .ref o]) rfl ?_
  refine lv_i2l hx hb dL_setStage_12 rfl ?_
  have hPO := zapp hP hO
  refine zr_last0 hx hb hK hPO hN2 rfl hA2 hS 14 2 rfl rfl dL_setStage_13 (fun H locs hPO hS => ?_)
  have hPO : va_P D vwCl ((wC cI cZ q pa sp al dg (up co (16 * 12 + (g - 1) * 3 + s) c) (up da (16 * 12 + (g - 1) * 3 + s) k) mb dd ah wl lo n td wn) ++ wO cJ o (vp_updL f 0 (zI (dAll (up da (16 * 12 + (g - 1) * 3 + s) k) 16 g)).toInt64)) H := hPO
  have hP := zleft hPO
  have hO := zright hPO
  refine lv_goto (tgt := 25) hx hb dL_setStage_14 (by decide) ?_
  refine zr_iconst hx hb dL_setStage_25 ?_
  rw [hQ0]
  exact vx_ret (W.iret hx hb hr (fun t ht _ => ⟨⟨rfl, by rw [ht]; exact hP, by rw [ht]; exact hO⟩, hS.F ht⟩) hS.2.2 dL_setStage_26 hlocks)
set_option maxHeartbeats 4000000 in
set_option maxRecDepth 100000 in
theorem kL_setStagex1 (l : Launch) (D : va_G) (hl0 : l.stackTraces = false) (cI cZ cJ : ClassId) (q : Nat → Nat) (o : Nat) (hN : (zLC q).Nodup) (hN2 : (zLC q ++ [o]).Nodup) (pa : Int → Int) (sp : Int → Int) (al : Int → Int) (dg : Int → Int) (co : Int → Int) (da : Int → Int) (mb : Int → Int) (dd : Int → Int) (ah : Int → Int) (wl : Int → Int) (lo : Int → Int) (n : Nat) (td : Int) (wn : Int) (f : Nat → Int64) (g : Int) (s : Int) (c : Int) (k : Int) (h0 : -2147483648 ≤ g ∧ g ≤ 2147483647) (h1 : ¬ (1 ≤ g ∧ g ≤ 4)) : zLW l yL_setStage wsL_setStage ({ frames := 9, cells := 1, slots := 6, locals := 158 }) D [(cI, .int), (cZ, .boolean), (cJ, .long)] cJ [.ref (q 0), .int (zI g), .int (zI s), .int (zI c), .int (zI k), .ref o] (wC cI cZ q pa sp al dg co da mb dd ah wl lo n td wn) (wC cI cZ q pa sp al dg co da mb dd ah wl lo n td wn) o f f 1 (zLC q) 1 6 := by
  refine vx_ofWH (cc := cL_setStage) (maxL := 7) (ret := some .int) (hh := [(0, 14, 17, 19), (0, 14, 21, 25)]) (by decide) rfl ?_
  intro p0 e9 s9 m9 ag9 below meth c9 s₁ B hml hv
  obtain ⟨hav, hP, hO, hK, hT, hE⟩ := hv
  have hx := B.exec
  have hb := B.bytes
  have hr := B.returns
  have hts := atoms_spec (ws := wsL_setStage) B.pre
  have hown : s9.vm.findClass RL = some m9.cls := findClass_of_methodNamed B.named
  have hlocks := B.notSynchronized
  have hA : ∀ a ∈ zLC q, (fun a => a ∈ zLC q ++ [o]) a := fun _ h => List.mem_append_left _ h
  have hA2 : ∀ a ∈ zLC q ++ [o], (fun a => a ∈ zLC q ++ [o]) a := fun _ h => h
  have hoL : ∀ a ∈ [o], a ∉ zLC q := fun a ha h => (List.nodup_append.mp hN2).2.2 a h a ha rfl
  have htab := vx_table (x := yL_setStage) B (hts (.codeWith yL_setStage cL_setStage 7 (some .int) [(0, 14, 17, 19), (0, 14, 21, 25)]) (by rw [show wsL_setStage = _ from rfl]; exact List.mem_cons_self))
  have hl := lv_entry ([.ref (q 0), .int (zI g), .int (zI s), .int (zI c), .int (zI k), .ref o]) (n := 7) (Nat.le_of_ble_eq_true rfl)
  have hE0 : entryFrame m9 ag9 7 = F0 m9 0 ((lg_sl ([.ref (q 0), .int (zI g), .int (zI s), .int (zI c), .int (zI k), .ref o]) ++ List.replicate (7 - (lg_sl ([.ref (q 0), .int (zI g), .int (zI s), .int (zI c), .int (zI k), .ref o])).length) Slot.unset).toArray) [] := by rw [hav]; exact lg_entry_eq m9 _ _
  obtain ⟨Q0, hQ0⟩ : ∃ Q0, Q0 = vx_MQ below (zQL D (wC cI cZ q pa sp al dg co da mb dd ah wl lo n td wn) cJ o f 1 (zLC q)) zF ag9 s9 1 6 (fun a => a ∈ zLC q ++ [o]) := ⟨_, rfl⟩
  show W p0 l e9 ({ frames := 9, cells := 1, slots := 6, locals := 158 }) s9 m9 ag9 below meth c9 s9.heap [] 0 0 (vx_MQ below (zQL D (wC cI cZ q pa sp al dg co da mb dd ah wl lo n td wn) cJ o f 1 (zLC q)) zF ag9 s9 1 6 (fun a => a ∈ zLC q ++ [o])) _
  rw [hE0, ← hQ0]
  have hS : va_S (fun a => a ∈ zLC q ++ [o]) s9.heap s9.heap [] := va_S.rf
  generalize hH0 : s9.heap = H at hP hO ⊢
  have hS : va_S (fun a => a ∈ zLC q ++ [o]) s9.heap H [] := by rw [hH0] at hS ⊢; exact hS
  have hT : zT (fun a => a ∈ zLC q) s9 H := by rw [hH0] at hT; exact hT
  generalize (lg_sl ([.ref (q 0), .int (zI g), .int (zI s), .int (zI c), .int (zI k), .ref o]) ++ List.replicate (7 - (lg_sl ([.ref (q 0), .int (zI g), .int (zI s), .int (zI c), .int (zI k), .ref o])).length) Slot.unset).toArray = ls at hl ⊢
  have hl : lv_has ls 7 [(0, .ref (q 0)), (1, .int (zI g)), (2, .int (zI s)), (3, .int (zI c)), (4, .int (zI k)), (5, .ref o)] := hl
  refine lv_aload hx hb dL_setStage_0 (lv_at hl 5 rfl) ?_
  refine zr_iconst hx hb dL_setStage_2 ?_
  refine lv_aload_n hx hb dL_setStage_3 rfl (lv_at hl 0 rfl) ?_
  refine lv_iload_n hx hb dL_setStage_4 rfl (lv_at hl 1 rfl) ?_
  refine lv_iload_n hx hb dL_setStage_5 rfl (lv_at hl 2 rfl) ?_
  refine lv_iload_n hx hb dL_setStage_6 rfl (lv_at hl 3 rfl) ?_
  refine lv_iload hx hb dL_setStage_7 (lv_at hl 4 rfl) ?_
  refine zcallXV (ci := 2) (q0 := 0) (cq := (RX2, TX2, 9)) (As := [.int (zI g), .int (zI s), .int (zI c), .int (zI k)]) (rest := [.int (zI 0), .ref o]) ⟨hx, hb, hml, hown, hts⟩ (hK.sub (tys' := [(cI, .int), (cZ, .boolean)]) [0, 1] rfl) (kX2_setStagex1 l D hl0 cI cZ q hN pa sp al dg co da mb dd ah wl lo n td wn g s c k h0 h1) (cwV 4 hts gL_setStage_X2_setStage rfl rfl rfl (by decide +kernel) ⟨Nat.le_of_ble_eq_true rfl, Nat.le_of_ble_eq_true rfl⟩) hP hT hS hA rfl rfl rfl hl.1 rfl (Nat.le_of_ble_eq_true rfl) dL_setStage_9 ⟨Nat.le_of_ble_eq_true rfl, Nat.le_of_ble_eq_true rfl⟩ (fun ce q9 H locs hP hS _ hkk hce hcv hcl => ?_)
  have hO := zkeep hO hkk hoL
  refine vx_catch (E := "java/lang/IndexOutOfBoundsException") (name := "java/lang/IndexOutOfBoundsException") hown [] ⟨0, 14, 17, 19⟩ [⟨0, 14, 21, 25⟩] (by rw [htab]; rfl) (fun z hz => nomatch hz) (by decide) (by decide) (hts (.classLink RL 19 "java/lang/IndexOutOfBoundsException") (by decide +kernel)) (show (Cond.castable zIO zIO).before _ s9 = true from hE.1.1) hce hcv hcl ?_
  refine lv_astore (lv' := [(6, .ref q9), (0, .ref (q 0)), (1, .int (zI g)), (2, .int (zI s)), (3, .int (zI c)), (4, .int (zI k)), (5, .ref o)]) hx hb dL_setStage_17 hl (by decide) rfl (fun ls hl => ?_)
  refine zr_iconst hx hb dL_setStage_19 ?_
  rw [hQ0]
  exact vx_ret (W.iret hx hb hr (fun t ht _ => ⟨⟨rfl, by rw [ht]; exact hP, by rw [ht]; exact hO⟩, hS.F ht⟩) hS.2.2 dL_setStage_20 hlocks)
set_option maxHeartbeats 4000000 in
set_option maxRecDepth 100000 in
theorem kL_setStagex2 (l : Launch) (D : va_G) (hl0 : l.stackTraces = false) (cI cZ cJ : ClassId) (q : Nat → Nat) (o : Nat) (hN : (zLC q).Nodup) (hN2 : (zLC q ++ [o]).Nodup) (pa : Int → Int) (sp : Int → Int) (al : Int → Int) (dg : Int → Int) (co : Int → Int) (da : Int → Int) (mb : Int → Int) (dd : Int → Int) (ah : Int → Int) (wl : Int → Int) (lo : Int → Int) (n : Nat) (td : Int) (wn : Int) (f : Nat → Int64) (g : Int) (s : Int) (c : Int) (k : Int) (h0 : -2147483648 ≤ s ∧ s ≤ 2147483647) (h1 : 1 ≤ g ∧ g ≤ 4) (h2 : ¬ (0 ≤ s ∧ s ≤ 2)) : zLW l yL_setStage wsL_setStage ({ frames := 9, cells := 1, slots := 6, locals := 158 }) D [(cI, .int), (cZ, .boolean), (cJ, .long)] cJ [.ref (q 0), .int (zI g), .int (zI s), .int (zI c), .int (zI k), .ref o] (wC cI cZ q pa sp al dg co da mb dd ah wl lo n td wn) (wC cI cZ q pa sp al dg co da mb dd ah wl lo n td wn) o f f 1 (zLC q) 1 6 := by
  refine vx_ofWH (cc := cL_setStage) (maxL := 7) (ret := some .int) (hh := [(0, 14, 17, 19), (0, 14, 21, 25)]) (by decide) rfl ?_
  intro p0 e9 s9 m9 ag9 below meth c9 s₁ B hml hv
  obtain ⟨hav, hP, hO, hK, hT, hE⟩ := hv
  have hx := B.exec
  have hb := B.bytes
  have hr := B.returns
  have hts := atoms_spec (ws := wsL_setStage) B.pre
  have hown : s9.vm.findClass RL = some m9.cls := findClass_of_methodNamed B.named
  have hlocks := B.notSynchronized
  have hA : ∀ a ∈ zLC q, (fun a => a ∈ zLC q ++ [o]) a := fun _ h => List.mem_append_left _ h
  have hA2 : ∀ a ∈ zLC q ++ [o], (fun a => a ∈ zLC q ++ [o]) a := fun _ h => h
  have hoL : ∀ a ∈ [o], a ∉ zLC q := fun a ha h => (List.nodup_append.mp hN2).2.2 a h a ha rfl
  have htab := vx_table (x := yL_setStage) B (hts (.codeWith yL_setStage cL_setStage 7 (some .int) [(0, 14, 17, 19), (0, 14, 21, 25)]) (by rw [show wsL_setStage = _ from rfl]; exact List.mem_cons_self))
  have hl := lv_entry ([.ref (q 0), .int (zI g), .int (zI s), .int (zI c), .int (zI k), .ref o]) (n := 7) (Nat.le_of_ble_eq_true rfl)
  have hE0 : entryFrame m9 ag9 7 = F0 m9 0 ((lg_sl ([.ref (q 0), .int (zI g), .int (zI s), .int (zI c), .int (zI k), .ref o]) ++ List.replicate (7 - (lg_sl ([.ref (q 0), .int (zI g), .int (zI s), .int (zI c), .int (zI k), .ref o])).length) Slot.unset).toArray) [] := by rw [hav]; exact lg_entry_eq m9 _ _
  obtain ⟨Q0, hQ0⟩ : ∃ Q0, Q0 = vx_MQ below (zQL D (wC cI cZ q pa sp al dg co da mb dd ah wl lo n td wn) cJ o f 1 (zLC q)) zF ag9 s9 1 6 (fun a => a ∈ zLC q ++ [o]) := ⟨_, rfl⟩
  show W p0 l e9 ({ frames := 9, cells := 1, slots := 6, locals := 158 }) s9 m9 ag9 below meth c9 s9.heap [] 0 0 (vx_MQ below (zQL D (wC cI cZ q pa sp al dg co da mb dd ah wl lo n td wn) cJ o f 1 (zLC q)) zF ag9 s9 1 6 (fun a => a ∈ zLC q ++ [o])) _
  rw [hE0, ← hQ0]
  have hS : va_S (fun a => a ∈ zLC q ++ [o]) s9.heap s9.heap [] := va_S.rf
  generalize hH0 : s9.heap = H at hP hO ⊢
  have hS : va_S (fun a => a ∈ zLC q ++ [o]) s9.heap H [] := by rw [hH0] at hS ⊢; exact hS
  have hT : zT (fun a => a ∈ zLC q) s9 H := by rw [hH0] at hT; exact hT
  generalize (lg_sl ([.ref (q 0), .int (zI g), .int (zI s), .int (zI c), .int (zI k), .ref o]) ++ List.replicate (7 - (lg_sl ([.ref (q 0), .int (zI g), .int (zI s), .int (zI c), .int (zI k), .ref o])).length) Slot.unset).toArray = ls at hl ⊢
  have hl : lv_has ls 7 [(0, .ref (q 0)), (1, .int (zI g)), (2, .int (zI s)), (3, .int (zI c)), (4, .int (zI k)), (5, .ref o)] := hl
  refine lv_aload hx hb dL_setStage_0 (lv_at hl 5 rfl) ?_
  refine zr_iconst hx hb dL_setStage_2 ?_
  refine lv_aload_n hx hb dL_setStage_3 rfl (lv_at hl 0 rfl) ?_
  refine lv_iload_n hx hb dL_setStage_4 rfl (lv_at hl 1 rfl) ?_
  refine lv_iload_n hx hb dL_setStage_5 rfl (lv_at hl 2 rfl) ?_
  refine lv_iload_n hx hb dL_setStage_6 rfl (lv_at hl 3 rfl) ?_
  refine lv_iload hx hb dL_setStage_7 (lv_at hl 4 rfl) ?_
  refine zcallXV (ci := 2) (q0 := 0) (cq := (RX2, TX2, 9)) (As := [.int (zI g), .int (zI s), .int (zI c), .int (zI k)]) (rest := [.int (zI 0), .ref o]) ⟨hx, hb, hml, hown, hts⟩ (hK.sub (tys' := [(cI, .int), (cZ, .boolean)]) [0, 1] rfl) (kX2_setStagex2 l D hl0 cI cZ q hN pa sp al dg co da mb dd ah wl lo n td wn g s c k h0 h1 h2) (cwV 4 hts gL_setStage_X2_setStage rfl rfl rfl (by decide +kernel) ⟨Nat.le_of_ble_eq_true rfl, Nat.le_of_ble_eq_true rfl⟩) hP hT hS hA rfl rfl rfl hl.1 rfl (Nat.le_of_ble_eq_true rfl) dL_setStage_9 ⟨Nat.le_of_ble_eq_true rfl, Nat.le_of_ble_eq_true rfl⟩ (fun ce q9 H locs hP hS _ hkk hce hcv hcl => ?_)
  have hO := zkeep hO hkk hoL
  refine vx_catch (E := "java/lang/IndexOutOfBoundsException") (name := "java/lang/IndexOutOfBoundsException") hown [] ⟨0, 14, 17, 19⟩ [⟨0, 14, 21, 25⟩] (by rw [htab]; rfl) (fun z hz => nomatch hz) (by decide) (by decide) (hts (.classLink RL 19 "java/lang/IndexOutOfBoundsException") (by decide +kernel)) (show (Cond.castable zIO zIO).before _ s9 = true from hE.1.1) hce hcv hcl ?_
  refine lv_astore (lv' := [(6, .ref q9), (0, .ref (q 0)), (1, .int (zI g)), (2, .int (zI s)), (3, .int (zI c)), (4, .int (zI k)), (5, .ref o)]) hx hb dL_setStage_17 hl (by decide) rfl (fun ls hl => ?_)
  refine zr_iconst hx hb dL_setStage_19 ?_
  rw [hQ0]
  exact vx_ret (W.iret hx hb hr (fun t ht _ => ⟨⟨rfl, by rw [ht]; exact hP, by rw [ht]; exact hO⟩, hS.F ht⟩) hS.2.2 dL_setStage_20 hlocks)
set_option maxHeartbeats 4000000 in
set_option maxRecDepth 100000 in
theorem kL_setStagex3 (l : Launch) (D : va_G) (hl0 : l.stackTraces = false) (cI cZ cJ : ClassId) (q : Nat → Nat) (o : Nat) (hN : (zLC q).Nodup) (hN2 : (zLC q ++ [o]).Nodup) (pa : Int → Int) (sp : Int → Int) (al : Int → Int) (dg : Int → Int) (co : Int → Int) (da : Int → Int) (mb : Int → Int) (dd : Int → Int) (ah : Int → Int) (wl : Int → Int) (lo : Int → Int) (n : Nat) (td : Int) (wn : Int) (f : Nat → Int64) (g : Int) (s : Int) (c : Int) (k : Int) (h0 : -2147483648 ≤ c ∧ c ≤ 2147483647) (h9 : -2147483648 ≤ k ∧ k ≤ 2147483647) (h1 : 1 ≤ g ∧ g ≤ 4) (h2 : 0 ≤ s ∧ s ≤ 2) (h3 : ¬ ((0 ≤ c ∧ c ≤ 5) ∧ 0 ≤ k ∧ k ≤ 60)) : zLW l yL_setStage wsL_setStage ({ frames := 9, cells := 1, slots := 6, locals := 158 }) D [(cI, .int), (cZ, .boolean), (cJ, .long)] cJ [.ref (q 0), .int (zI g), .int (zI s), .int (zI c), .int (zI k), .ref o] (wC cI cZ q pa sp al dg co da mb dd ah wl lo n td wn) (wC cI cZ q pa sp al dg co da mb dd ah wl lo n td wn) o f f 2 (zLC q) 1 6 := by
  refine vx_ofWH (cc := cL_setStage) (maxL := 7) (ret := some .int) (hh := [(0, 14, 17, 19), (0, 14, 21, 25)]) (by decide) rfl ?_
  intro p0 e9 s9 m9 ag9 below meth c9 s₁ B hml hv
  obtain ⟨hav, hP, hO, hK, hT, hE⟩ := hv
  have hx := B.exec
  have hb := B.bytes
  have hr := B.returns
  have hts := atoms_spec (ws := wsL_setStage) B.pre
  have hown : s9.vm.findClass RL = some m9.cls := findClass_of_methodNamed B.named
  have hlocks := B.notSynchronized
  have hA : ∀ a ∈ zLC q, (fun a => a ∈ zLC q ++ [o]) a := fun _ h => List.mem_append_left _ h
  have hA2 : ∀ a ∈ zLC q ++ [o], (fun a => a ∈ zLC q ++ [o]) a := fun _ h => h
  have hoL : ∀ a ∈ [o], a ∉ zLC q := fun a ha h => (List.nodup_append.mp hN2).2.2 a h a ha rfl
  have htab := vx_table (x := yL_setStage) B (hts (.codeWith yL_setStage cL_setStage 7 (some .int) [(0, 14, 17, 19), (0, 14, 21, 25)]) (by rw [show wsL_setStage = _ from rfl]; exact List.mem_cons_self))
  have hl := lv_entry ([.ref (q 0), .int (zI g), .int (zI s), .int (zI c), .int (zI k), .ref o]) (n := 7) (Nat.le_of_ble_eq_true rfl)
  have hE0 : entryFrame m9 ag9 7 = F0 m9 0 ((lg_sl ([.ref (q 0), .int (zI g), .int (zI s), .int (zI c), .int (zI k), .ref o]) ++ List.replicate (7 - (lg_sl ([.ref (q 0), .int (zI g), .int (zI s), .int (zI c), .int (zI k), .ref o])).length) Slot.unset).toArray) [] := by rw [hav]; exact lg_entry_eq m9 _ _
  obtain ⟨Q0, hQ0⟩ : ∃ Q0, Q0 = vx_MQ below (zQL D (wC cI cZ q pa sp al dg co da mb dd ah wl lo n td wn) cJ o f 2 (zLC q)) zF ag9 s9 1 6 (fun a => a ∈ zLC q ++ [o]) := ⟨_, rfl⟩
  show W p0 l e9 ({ frames := 9, cells := 1, slots := 6, locals := 158 }) s9 m9 ag9 below meth c9 s9.heap [] 0 0 (vx_MQ below (zQL D (wC cI cZ q pa sp al dg co da mb dd ah wl lo n td wn) cJ o f 2 (zLC q)) zF ag9 s9 1 6 (fun a => a ∈ zLC q ++ [o])) _
  rw [hE0, ← hQ0]
  have hS : va_S (fun a => a ∈ zLC q ++ [o]) s9.heap s9.heap [] := va_S.rf
  generalize hH0 : s9.heap = H at hP hO ⊢
  have hS : va_S (fun a => a ∈ zLC q ++ [o]) s9.heap H [] := by rw [hH0] at hS ⊢; exact hS
  have hT : zT (fun a => a ∈ zLC q) s9 H := by rw [hH0] at hT; exact hT
  generalize (lg_sl ([.ref (q 0), .int (zI g), .int (zI s), .int (zI c), .int (zI k), .ref o]) ++ List.replicate (7 - (lg_sl ([.ref (q 0), .int (zI g), .int (zI s), .int (zI c), .int (zI k), .ref o])).length) Slot.unset).toArray = ls at hl ⊢
  have hl : lv_has ls 7 [(0, .ref (q 0)), (1, .int (zI g)), (2, .int (zI s)), (3, .int (zI c)), (4, .int (zI k)), (5, .ref o)] := hl
  refine lv_aload hx hb dL_setStage_0 (lv_at hl 5 rfl) ?_
  refine zr_iconst hx hb dL_setStage_2 ?_
  refine lv_aload_n hx hb dL_setStage_3 rfl (lv_at hl 0 rfl) ?_
  refine lv_iload_n hx hb dL_setStage_4 rfl (lv_at hl 1 rfl) ?_
  refine lv_iload_n hx hb dL_setStage_5 rfl (lv_at hl 2 rfl) ?_
  refine lv_iload_n hx hb dL_setStage_6 rfl (lv_at hl 3 rfl) ?_
  refine lv_iload hx hb dL_setStage_7 (lv_at hl 4 rfl) ?_
  refine zcallXV (ci := 2) (q0 := 0) (cq := (RX2, TX2, 9)) (As := [.int (zI g), .int (zI s), .int (zI c), .int (zI k)]) (rest := [.int (zI 0), .ref o]) ⟨hx, hb, hml, hown, hts⟩ (hK.sub (tys' := [(cI, .int), (cZ, .boolean)]) [0, 1] rfl) (kX2_setStagex3 l D hl0 cI cZ q hN pa sp al dg co da mb dd ah wl lo n td wn g s c k h0 h9 h1 h2 h3) (cwV 4 hts gL_setStage_X2_setStage rfl rfl rfl (by decide +kernel) ⟨Nat.le_of_ble_eq_true rfl, Nat.le_of_ble_eq_true rfl⟩) hP hT hS hA rfl rfl rfl hl.1 rfl (Nat.le_of_ble_eq_true rfl) dL_setStage_9 ⟨Nat.le_of_ble_eq_true rfl, Nat.le_of_ble_eq_true rfl⟩ (fun ce q9 H locs hP hS _ hkk hce hcv hcl => ?_)
  have hO := zkeep hO hkk hoL
  refine vx_catch (E := "java/lang/IllegalArgumentException") (name := "java/lang/IllegalArgumentException") hown [⟨0, 14, 17, 19⟩] ⟨0, 14, 21, 25⟩ [] (by rw [htab]; rfl) (fun z hz => by
    simp only [List.mem_cons, List.not_mem_nil, or_false] at hz
    subst hz
    exact Or.inr ⟨by decide, "java/lang/IndexOutOfBoundsException", hts (.classLink RL 19 "java/lang/IndexOutOfBoundsException") (by decide +kernel), hE.2.2.1⟩) (by decide) (by decide) (hts (.classLink RL 25 "java/lang/IllegalArgumentException") (by decide +kernel)) (show (Cond.castable zIA zIA).before _ s9 = true from hE.1.2.2) hce hcv hcl ?_
  refine lv_astore (lv' := [(6, .ref q9), (0, .ref (q 0)), (1, .int (zI g)), (2, .int (zI s)), (3, .int (zI c)), (4, .int (zI k)), (5, .ref o)]) hx hb dL_setStage_21 hl (by decide) rfl (fun ls hl => ?_)
  refine zr_iconst hx hb dL_setStage_23 ?_
  rw [hQ0]
  exact vx_ret (W.iret hx hb hr (fun t ht _ => ⟨⟨rfl, by rw [ht]; exact hP, by rw [ht]; exact hO⟩, hS.F ht⟩) hS.2.2 dL_setStage_24 hlocks)
set_option maxHeartbeats 4000000 in
set_option maxRecDepth 100000 in
theorem kL_dieok (l : Launch) (D : va_G) (hl0 : l.stackTraces = false) (cI cZ cJ : ClassId) (q : Nat → Nat) (o : Nat) (hN : (zLC q).Nodup) (hN2 : (zLC q ++ [o]).Nodup) (pa : Int → Int) (sp : Int → Int) (al : Int → Int) (dg : Int → Int) (co : Int → Int) (da : Int → Int) (mb : Int → Int) (dd : Int → Int) (ah : Int → Int) (wl : Int → Int) (lo : Int → Int) (n : Nat) (td : Int) (wn : Int) (f : Nat → Int64) (hn : n ≤ 16) (hpa : ∀ j : Int, -1 ≤ pa j ∧ pa j ≤ 15) (hsp : ∀ j : Int, -1 ≤ sp j ∧ sp j ≤ 15) (hal : ∀ j : Int, 0 ≤ al j ∧ al j ≤ 1) (hco : ∀ j : Int, 0 ≤ co j ∧ co j ≤ 5) (hda : ∀ j : Int, 0 ≤ da j ∧ da j ≤ 60) (p : Int) (h1 : 0 ≤ p ∧ p < (n : Int)) (h2 : al p ≠ 0) : zLW l yL_die wsL_die ({ frames := 8, cells := 0, slots := 0, locals := 132 }) D [(cI, .int), (cZ, .boolean), (cJ, .long)] cJ [.ref (q 0), .int (zI p), .ref o] (wC cI cZ q pa sp al dg co da mb dd ah wl lo n td wn) (wC cI cZ q pa sp (up al p 0) (dgF pa sp n p) (cpZ co co (16 * 12 + (1 - 1) * 3 + 0) (p * 12 + (1 - 1) * 3 + 0) 12) (cpZ da da (16 * 12 + (1 - 1) * 3 + 0) (p * 12 + (1 - 1) * 3 + 0) 12) (bgC (up al p 0) (cpZ da da (16 * 12 + (1 - 1) * 3 + 0) (p * 12 + (1 - 1) * 3 + 0) 12) (dgF pa sp n p) (enC mb p 16) p n) (up dd p td) ah wl lo n td wn) o f (vp_updL f 0 (zI (smF (wbF (up al p 0) (cpZ da da (16 * 12 + (1 - 1) * 3 + 0) (p * 12 + (1 - 1) * 3 + 0) 12) (dgF pa sp n p)) n)).toInt64) 0 (zLC q) 0 0 := by
  refine vx_ofWH (cc := cL_die) (maxL := 4) (ret := some .int) (hh := [(0, 9, 12, 19), (0, 9, 15, 13)]) (by decide) rfl ?_
  intro p0 e9 s9 m9 ag9 below meth c9 s₁ B hml hv
  obtain ⟨hav, hP, hO, hK, hT, hE⟩ := hv
  have hx := B.exec
  have hb := B.bytes
  have hr := B.returns
  have hts := atoms_spec (ws := wsL_die) B.pre
  have hown : s9.vm.findClass RL = some m9.cls := findClass_of_methodNamed B.named
  have hlocks := B.notSynchronized
  have hA : ∀ a ∈ zLC q, (fun a => a ∈ zLC q ++ [o]) a := fun _ h => List.mem_append_left _ h
  have hA2 : ∀ a ∈ zLC q ++ [o], (fun a => a ∈ zLC q ++ [o]) a := fun _ h => h
  have hoL : ∀ a ∈ [o], a ∉ zLC q := fun a ha h => (List.nodup_append.mp hN2).2.2 a h a ha rfl
  have hl := lv_entry ([.ref (q 0), .int (zI p), .ref o]) (n := 4) (Nat.le_of_ble_eq_true rfl)
  have hE0 : entryFrame m9 ag9 4 = F0 m9 0 ((lg_sl ([.ref (q 0), .int (zI p), .ref o]) ++ List.replicate (4 - (lg_sl ([.ref (q 0), .int (zI p), .ref o])).length) Slot.unset).toArray) [] := by rw [hav]; exact lg_entry_eq m9 _ _
  obtain ⟨Q0, hQ0⟩ : ∃ Q0, Q0 = vx_MQ below (zQL D (wC cI cZ q pa sp (up al p 0) (dgF pa sp n p) (cpZ co co (16 * 12 + (1 - 1) * 3 + 0) (p * 12 + (1 - 1) * 3 + 0) 12) (cpZ da da (16 * 12 + (1 - 1) * 3 + 0) (p * 12 + (1 - 1) * 3 + 0) 12) (bgC (up al p 0) (cpZ da da (16 * 12 + (1 - 1) * 3 + 0) (p * 12 + (1 - 1) * 3 + 0) 12) (dgF pa sp n p) (enC mb p 16) p n) (up dd p td) ah wl lo n td wn) cJ o (vp_updL f 0 (zI (smF (wbF (up al p 0) (cpZ da da (16 * 12 + (1 - 1) * 3 + 0) (p * 12 + (1 - 1) * 3 + 0) 12) (dgF pa sp n p)) n)).toInt64) 0 (zLC q)) zF ag9 s9 0 0 (fun a => a ∈ zLC q ++ [o]) := ⟨_, rfl⟩
  show W p0 l e9 ({ frames := 8, cells := 0, slots := 0, locals := 132 }) s9 m9 ag9 below meth c9 s9.heap [] 0 0 (vx_MQ below (zQL D (wC cI cZ q pa sp (up al p 0) (dgF pa sp n p) (cpZ co co (16 * 12 + (1 - 1) * 3 + 0) (p * 12 + (1 - 1) * 3 + 0) 12) (cpZ da da (16 * 12 + (1 - 1) * 3 + 0) (p * 12 + (1 - 1) * 3 + 0) 12) (bgC (up al p 0) (cpZ da da (16 * 12 + (1 - 1) * 3 + 0) (p * 12 + (1 - 1) * 3 + 0) 12) (dgF pa sp n p) (enC mb p 16) p n) (up dd p td) ah wl lo n td wn) cJ o (vp_updL f 0 (zI (smF (wbF (up al p 0) (cpZ da da (16 * 12 + (1 - 1) * 3 + 0) (p * 12 + (1 - 1) * 3 + 0) 12) (dgF pa sp n p)) n)).toInt64) 0 (zLC q)) zF ag9 s9 0 0 (fun a => a ∈ zLC q ++ [o])) _
  rw [hE0, ← hQ0]
  have hS : va_S (fun a => a ∈ zLC q ++ [o]) s9.heap s9.heap [] := va_S.rf
  generalize hH0 : s9.heap = H at hP hO ⊢
  have hS : va_S (fun a => a ∈ zLC q ++ [o]) s9.heap H [] := by rw [hH0] at hS ⊢; exact hS
  have hT : zT (fun a => a ∈ zLC q) s9 H := by rw [hH0] at hT; exact hT
  generalize (lg_sl ([.ref (q 0), .int (zI p), .ref o]) ++ List.replicate (4 - (lg_sl ([.ref (q 0), .int (zI p), .ref o])).length) Slot.unset).toArray = ls at hl ⊢
  have hl : lv_has ls 4 [(0, .ref (q 0)), (1, .int (zI p)), (2, .ref o)] := hl
  refine lv_aload_n hx hb dL_die_0 rfl (lv_at hl 2 rfl) ?_
  refine zr_iconst hx hb dL_die_1 ?_
  refine lv_aload_n hx hb dL_die_2 rfl (lv_at hl 0 rfl) ?_
  refine lv_iload_n hx hb dL_die_3 rfl (lv_at hl 1 rfl) ?_
  refine zcallV (ci := 2) (q0 := 0) (cq := (RX2, TX2, 9)) (As := [.int (zI p)]) (rest := [.int (zI 0), .ref o]) ⟨hx, hb, hml, hown, hts⟩ (hK.sub (tys' := [(cI, .int), (cZ, .boolean)]) [0, 1] rfl) (kX2_dieok l D cI cZ q hN pa sp al dg co da mb dd ah wl lo n td wn hn hpa hsp hal hco hda p h1 h2) (cwV 1 hts gL_die_X2_die rfl rfl rfl (by decide +kernel) ⟨Nat.le_of_ble_eq_true rfl, Nat.le_of_ble_eq_true rfl⟩) hP hS hA rfl rfl rfl hl.1 rfl (Nat.le_of_ble_eq_true rfl) dL_die_4 ⟨Nat.zero_le _, Nat.zero_le _⟩ (fun H locs hP hS _ hkk => ?_)
  have hO := zkeep hO hkk hoL
  refine W.eq (g2 := F0 m9 7 ls [.int (zI (smF (wbF (up al p 0) (cpZ da da (16 * 12 + (1 - 1) * 3 + 0) (p * 12 + (1 - 1) * 3 + 0) 12) (dgF pa sp n p)) n)), .int (zI 0), .ref o]) rfl ?_
  refine lv_i2l hx hb dL_die_7 rfl ?_
  have hPO := zapp hP hO
  refine zr_last0 hx hb hK hPO hN2 rfl hA2 hS 14 2 rfl rfl dL_die_8 (fun H locs hPO hS => ?_)
  have hPO : va_P D vwCl ((wC cI cZ q pa sp (up al p 0) (dgF pa sp n p) (cpZ co co (16 * 12 + (1 - 1) * 3 + 0) (p * 12 + (1 - 1) * 3 + 0) 12) (cpZ da da (16 * 12 + (1 - 1) * 3 + 0) (p * 12 + (1 - 1) * 3 + 0) 12) (bgC (up al p 0) (cpZ da da (16 * 12 + (1 - 1) * 3 + 0) (p * 12 + (1 - 1) * 3 + 0) 12) (dgF pa sp n p) (enC mb p 16) p n) (up dd p td) ah wl lo n td wn) ++ wO cJ o (vp_updL f 0 (zI (smF (wbF (up al p 0) (cpZ da da (16 * 12 + (1 - 1) * 3 + 0) (p * 12 + (1 - 1) * 3 + 0) 12) (dgF pa sp n p)) n)).toInt64)) H := hPO
  have hP := zleft hPO
  have hO := zright hPO
  refine lv_goto (tgt := 18) hx hb dL_die_9 (by decide) ?_
  refine zr_iconst hx hb dL_die_18 ?_
  rw [hQ0]
  exact vx_ret (W.iret hx hb hr (fun t ht _ => ⟨⟨rfl, by rw [ht]; exact hP, by rw [ht]; exact hO⟩, hS.F ht⟩) hS.2.2 dL_die_19 hlocks)
set_option maxHeartbeats 4000000 in
set_option maxRecDepth 100000 in
theorem kL_diex1 (l : Launch) (D : va_G) (hl0 : l.stackTraces = false) (cI cZ cJ : ClassId) (q : Nat → Nat) (o : Nat) (hN : (zLC q).Nodup) (hN2 : (zLC q ++ [o]).Nodup) (pa : Int → Int) (sp : Int → Int) (al : Int → Int) (dg : Int → Int) (co : Int → Int) (da : Int → Int) (mb : Int → Int) (dd : Int → Int) (ah : Int → Int) (wl : Int → Int) (lo : Int → Int) (n : Nat) (td : Int) (wn : Int) (f : Nat → Int64) (hn : n ≤ 16) (p : Int) (h0 : -2147483648 ≤ p ∧ p ≤ 2147483647) (h1 : ¬ (0 ≤ p ∧ p < (n : Int))) : zLW l yL_die wsL_die ({ frames := 8, cells := 1, slots := 6, locals := 132 }) D [(cI, .int), (cZ, .boolean), (cJ, .long)] cJ [.ref (q 0), .int (zI p), .ref o] (wC cI cZ q pa sp al dg co da mb dd ah wl lo n td wn) (wC cI cZ q pa sp al dg co da mb dd ah wl lo n td wn) o f f 1 (zLC q) 1 6 := by
  refine vx_ofWH (cc := cL_die) (maxL := 4) (ret := some .int) (hh := [(0, 9, 12, 19), (0, 9, 15, 13)]) (by decide) rfl ?_
  intro p0 e9 s9 m9 ag9 below meth c9 s₁ B hml hv
  obtain ⟨hav, hP, hO, hK, hT, hE⟩ := hv
  have hx := B.exec
  have hb := B.bytes
  have hr := B.returns
  have hts := atoms_spec (ws := wsL_die) B.pre
  have hown : s9.vm.findClass RL = some m9.cls := findClass_of_methodNamed B.named
  have hlocks := B.notSynchronized
  have hA : ∀ a ∈ zLC q, (fun a => a ∈ zLC q ++ [o]) a := fun _ h => List.mem_append_left _ h
  have hA2 : ∀ a ∈ zLC q ++ [o], (fun a => a ∈ zLC q ++ [o]) a := fun _ h => h
  have hoL : ∀ a ∈ [o], a ∉ zLC q := fun a ha h => (List.nodup_append.mp hN2).2.2 a h a ha rfl
  have htab := vx_table (x := yL_die) B (hts (.codeWith yL_die cL_die 4 (some .int) [(0, 9, 12, 19), (0, 9, 15, 13)]) (by rw [show wsL_die = _ from rfl]; exact List.mem_cons_self))
  have hl := lv_entry ([.ref (q 0), .int (zI p), .ref o]) (n := 4) (Nat.le_of_ble_eq_true rfl)
  have hE0 : entryFrame m9 ag9 4 = F0 m9 0 ((lg_sl ([.ref (q 0), .int (zI p), .ref o]) ++ List.replicate (4 - (lg_sl ([.ref (q 0), .int (zI p), .ref o])).length) Slot.unset).toArray) [] := by rw [hav]; exact lg_entry_eq m9 _ _
  obtain ⟨Q0, hQ0⟩ : ∃ Q0, Q0 = vx_MQ below (zQL D (wC cI cZ q pa sp al dg co da mb dd ah wl lo n td wn) cJ o f 1 (zLC q)) zF ag9 s9 1 6 (fun a => a ∈ zLC q ++ [o]) := ⟨_, rfl⟩
  show W p0 l e9 ({ frames := 8, cells := 1, slots := 6, locals := 132 }) s9 m9 ag9 below meth c9 s9.heap [] 0 0 (vx_MQ below (zQL D (wC cI cZ q pa sp al dg co da mb dd ah wl lo n td wn) cJ o f 1 (zLC q)) zF ag9 s9 1 6 (fun a => a ∈ zLC q ++ [o])) _
  rw [hE0, ← hQ0]
  have hS : va_S (fun a => a ∈ zLC q ++ [o]) s9.heap s9.heap [] := va_S.rf
  generalize hH0 : s9.heap = H at hP hO ⊢
  have hS : va_S (fun a => a ∈ zLC q ++ [o]) s9.heap H [] := by rw [hH0] at hS ⊢; exact hS
  have hT : zT (fun a => a ∈ zLC q) s9 H := by rw [hH0] at hT; exact hT
  generalize (lg_sl ([.ref (q 0), .int (zI p), .ref o]) ++ List.replicate (4 - (lg_sl ([.ref (q 0), .int (zI p), .ref o])).length) Slot.unset).toArray = ls at hl ⊢
  have hl : lv_has ls 4 [(0, .ref (q 0)), (1, .int (zI p)), (2, .ref o)] := hl
  refine lv_aload_n hx hb dL_die_0 rfl (lv_at hl 2 rfl) ?_
  refine zr_iconst hx hb dL_die_1 ?_
  refine lv_aload_n hx hb dL_die_2 rfl (lv_at hl 0 rfl) ?_
  refine lv_iload_n hx hb dL_die_3 rfl (lv_at hl 1 rfl) ?_
  refine zcallXV (ci := 2) (q0 := 0) (cq := (RX2, TX2, 9)) (As := [.int (zI p)]) (rest := [.int (zI 0), .ref o]) ⟨hx, hb, hml, hown, hts⟩ (hK.sub (tys' := [(cI, .int), (cZ, .boolean)]) [0, 1] rfl) (kX2_diex1 l D hl0 cI cZ q hN pa sp al dg co da mb dd ah wl lo n td wn hn p h0 h1) (cwV 1 hts gL_die_X2_die rfl rfl rfl (by decide +kernel) ⟨Nat.le_of_ble_eq_true rfl, Nat.le_of_ble_eq_true rfl⟩) hP hT hS hA rfl rfl rfl hl.1 rfl (Nat.le_of_ble_eq_true rfl) dL_die_4 ⟨Nat.le_of_ble_eq_true rfl, Nat.le_of_ble_eq_true rfl⟩ (fun ce q9 H locs hP hS _ hkk hce hcv hcl => ?_)
  have hO := zkeep hO hkk hoL
  refine vx_catch (E := "java/lang/IndexOutOfBoundsException") (name := "java/lang/IndexOutOfBoundsException") hown [] ⟨0, 9, 12, 19⟩ [⟨0, 9, 15, 13⟩] (by rw [htab]; rfl) (fun z hz => nomatch hz) (by decide) (by decide) (hts (.classLink RL 19 "java/lang/IndexOutOfBoundsException") (by decide +kernel)) (show (Cond.castable zIO zIO).before _ s9 = true from hE.1.1) hce hcv hcl ?_
  refine lv_astore_n (lv' := [(3, .ref q9), (0, .ref (q 0)), (1, .int (zI p)), (2, .ref o)]) hx hb dL_die_12 rfl hl (by decide) rfl (fun ls hl => ?_)
  refine zr_iconst hx hb dL_die_13 ?_
  rw [hQ0]
  exact vx_ret (W.iret hx hb hr (fun t ht _ => ⟨⟨rfl, by rw [ht]; exact hP, by rw [ht]; exact hO⟩, hS.F ht⟩) hS.2.2 dL_die_14 hlocks)
set_option maxHeartbeats 4000000 in
set_option maxRecDepth 100000 in
theorem kL_diex2 (l : Launch) (D : va_G) (hl0 : l.stackTraces = false) (cI cZ cJ : ClassId) (q : Nat → Nat) (o : Nat) (hN : (zLC q).Nodup) (hN2 : (zLC q ++ [o]).Nodup) (pa : Int → Int) (sp : Int → Int) (al : Int → Int) (dg : Int → Int) (co : Int → Int) (da : Int → Int) (mb : Int → Int) (dd : Int → Int) (ah : Int → Int) (wl : Int → Int) (lo : Int → Int) (n : Nat) (td : Int) (wn : Int) (f : Nat → Int64) (hn : n ≤ 16) (hal : ∀ j : Int, 0 ≤ al j ∧ al j ≤ 1) (p : Int) (h1 : 0 ≤ p ∧ p < (n : Int)) (h2 : al p = 0) : zLW l yL_die wsL_die ({ frames := 8, cells := 1, slots := 6, locals := 132 }) D [(cI, .int), (cZ, .boolean), (cJ, .long)] cJ [.ref (q 0), .int (zI p), .ref o] (wC cI cZ q pa sp al dg co da mb dd ah wl lo n td wn) (wC cI cZ q pa sp al dg co da mb dd ah wl lo n td wn) o f f 2 (zLC q) 1 6 := by
  refine vx_ofWH (cc := cL_die) (maxL := 4) (ret := some .int) (hh := [(0, 9, 12, 19), (0, 9, 15, 13)]) (by decide) rfl ?_
  intro p0 e9 s9 m9 ag9 below meth c9 s₁ B hml hv
  obtain ⟨hav, hP, hO, hK, hT, hE⟩ := hv
  have hx := B.exec
  have hb := B.bytes
  have hr := B.returns
  have hts := atoms_spec (ws := wsL_die) B.pre
  have hown : s9.vm.findClass RL = some m9.cls := findClass_of_methodNamed B.named
  have hlocks := B.notSynchronized
  have hA : ∀ a ∈ zLC q, (fun a => a ∈ zLC q ++ [o]) a := fun _ h => List.mem_append_left _ h
  have hA2 : ∀ a ∈ zLC q ++ [o], (fun a => a ∈ zLC q ++ [o]) a := fun _ h => h
  have hoL : ∀ a ∈ [o], a ∉ zLC q := fun a ha h => (List.nodup_append.mp hN2).2.2 a h a ha rfl
  have htab := vx_table (x := yL_die) B (hts (.codeWith yL_die cL_die 4 (some .int) [(0, 9, 12, 19), (0, 9, 15, 13)]) (by rw [show wsL_die = _ from rfl]; exact List.mem_cons_self))
  have hl := lv_entry ([.ref (q 0), .int (zI p), .ref o]) (n := 4) (Nat.le_of_ble_eq_true rfl)
  have hE0 : entryFrame m9 ag9 4 = F0 m9 0 ((lg_sl ([.ref (q 0), .int (zI p), .ref o]) ++ List.replicate (4 - (lg_sl ([.ref (q 0), .int (zI p), .ref o])).length) Slot.unset).toArray) [] := by rw [hav]; exact lg_entry_eq m9 _ _
  obtain ⟨Q0, hQ0⟩ : ∃ Q0, Q0 = vx_MQ below (zQL D (wC cI cZ q pa sp al dg co da mb dd ah wl lo n td wn) cJ o f 2 (zLC q)) zF ag9 s9 1 6 (fun a => a ∈ zLC q ++ [o]) := ⟨_, rfl⟩
  show W p0 l e9 ({ frames := 8, cells := 1, slots := 6, locals := 132 }) s9 m9 ag9 below meth c9 s9.heap [] 0 0 (vx_MQ below (zQL D (wC cI cZ q pa sp al dg co da mb dd ah wl lo n td wn) cJ o f 2 (zLC q)) zF ag9 s9 1 6 (fun a => a ∈ zLC q ++ [o])) _
  rw [hE0, ← hQ0]
  have hS : va_S (fun a => a ∈ zLC q ++ [o]) s9.heap s9.heap [] := va_S.rf
  generalize hH0 : s9.heap = H at hP hO ⊢
  have hS : va_S (fun a => a ∈ zLC q ++ [o]) s9.heap H [] := by rw [hH0] at hS ⊢; exact hS
  have hT : zT (fun a => a ∈ zLC q) s9 H := by rw [hH0] at hT; exact hT
  generalize (lg_sl ([.ref (q 0), .int (zI p), .ref o]) ++ List.replicate (4 - (lg_sl ([.ref (q 0), .int (zI p), .ref o])).length) Slot.unset).toArray = ls at hl ⊢
  have hl : lv_has ls 4 [(0, .ref (q 0)), (1, .int (zI p)), (2, .ref o)] := hl
  refine lv_aload_n hx hb dL_die_0 rfl (lv_at hl 2 rfl) ?_
  refine zr_iconst hx hb dL_die_1 ?_
  refine lv_aload_n hx hb dL_die_2 rfl (lv_at hl 0 rfl) ?_
  refine lv_iload_n hx hb dL_die_3 rfl (lv_at hl 1 rfl) ?_
  refine zcallXV (ci := 2) (q0 := 0) (cq := (RX2, TX2, 9)) (As := [.int (zI p)]) (rest := [.int (zI 0), .ref o]) ⟨hx, hb, hml, hown, hts⟩ (hK.sub (tys' := [(cI, .int), (cZ, .boolean)]) [0, 1] rfl) (kX2_diex2 l D hl0 cI cZ q hN pa sp al dg co da mb dd ah wl lo n td wn hn hal p h1 h2) (cwV 1 hts gL_die_X2_die rfl rfl rfl (by decide +kernel) ⟨Nat.le_of_ble_eq_true rfl, Nat.le_of_ble_eq_true rfl⟩) hP hT hS hA rfl rfl rfl hl.1 rfl (Nat.le_of_ble_eq_true rfl) dL_die_4 ⟨Nat.le_of_ble_eq_true rfl, Nat.le_of_ble_eq_true rfl⟩ (fun ce q9 H locs hP hS _ hkk hce hcv hcl => ?_)
  have hO := zkeep hO hkk hoL
  refine vx_catch (E := "java/lang/IllegalStateException") (name := "java/lang/IllegalStateException") hown [⟨0, 9, 12, 19⟩] ⟨0, 9, 15, 13⟩ [] (by rw [htab]; rfl) (fun z hz => by
    simp only [List.mem_cons, List.not_mem_nil, or_false] at hz
    subst hz
    exact Or.inr ⟨by decide, "java/lang/IndexOutOfBoundsException", hts (.classLink RL 19 "java/lang/IndexOutOfBoundsException") (by decide +kernel), hE.2.1⟩) (by decide) (by decide) (hts (.classLink RL 13 "java/lang/IllegalStateException") (by decide +kernel)) (show (Cond.castable zIS zIS).before _ s9 = true from hE.1.2.1) hce hcv hcl ?_
  refine lv_astore_n (lv' := [(3, .ref q9), (0, .ref (q 0)), (1, .int (zI p)), (2, .ref o)]) hx hb dL_die_15 rfl hl (by decide) rfl (fun ls hl => ?_)
  refine zr_iconst hx hb dL_die_16 ?_
  rw [hQ0]
  exact vx_ret (W.iret hx hb hr (fun t ht _ => ⟨⟨rfl, by rw [ht]; exact hP, by rw [ht]; exact hO⟩, hS.F ht⟩) hS.2.2 dL_die_17 hlocks)
set_option maxHeartbeats 4000000 in
set_option maxRecDepth 100000 in
theorem kL_releaseok (l : Launch) (D : va_G) (hl0 : l.stackTraces = false) (cI cZ cJ : ClassId) (q : Nat → Nat) (o : Nat) (hN : (zLC q).Nodup) (hN2 : (zLC q ++ [o]).Nodup) (pa : Int → Int) (sp : Int → Int) (al : Int → Int) (dg : Int → Int) (co : Int → Int) (da : Int → Int) (mb : Int → Int) (dd : Int → Int) (ah : Int → Int) (wl : Int → Int) (lo : Int → Int) (n : Nat) (td : Int) (wn : Int) (f : Nat → Int64) (hn : n ≤ 16) (hda : ∀ j : Int, 0 ≤ da j ∧ da j ≤ 60) (hmb : ∀ j : Int, 0 ≤ mb j ∧ mb j ≤ 4) (hdd : ∀ j : Int, 0 ≤ dd j ∧ dd j ≤ 1000000) (htd : 0 ≤ td ∧ td ≤ 1000000) (p : Int) (d : Int) (h1 : 0 ≤ p ∧ p < (n : Int)) (h2 : 0 ≤ d ∧ d < (n : Int)) (h3 : lf da mb dd td p d ≠ 0) : zLW l yL_release wsL_release ({ frames := 8, cells := 0, slots := 0, locals := 134 }) D [(cI, .int), (cZ, .boolean), (cJ, .long)] cJ [.ref (q 0), .int (zI p), .int (zI d), .ref o] (wC cI cZ q pa sp al dg co da mb dd ah wl lo n td wn) (wC cI cZ q pa sp al dg co da (up mb (p * 16 + d) 0) dd ah wl lo n td wn) o f (vp_updL f 0 (zI (lf da mb dd td p d)).toInt64) 0 (zLC q) 0 0 := by
  refine vx_ofWH (cc := cL_release) (maxL := 5) (ret := some .int) (hh := [(0, 10, 13, 19), (0, 10, 17, 13)]) (by decide) rfl ?_
  intro p0 e9 s9 m9 ag9 below meth c9 s₁ B hml hv
  obtain ⟨hav, hP, hO, hK, hT, hE⟩ := hv
  have hx := B.exec
  have hb := B.bytes
  have hr := B.returns
  have hts := atoms_spec (ws := wsL_release) B.pre
  have hown : s9.vm.findClass RL = some m9.cls := findClass_of_methodNamed B.named
  have hlocks := B.notSynchronized
  have hA : ∀ a ∈ zLC q, (fun a => a ∈ zLC q ++ [o]) a := fun _ h => List.mem_append_left _ h
  have hA2 : ∀ a ∈ zLC q ++ [o], (fun a => a ∈ zLC q ++ [o]) a := fun _ h => h
  have hoL : ∀ a ∈ [o], a ∉ zLC q := fun a ha h => (List.nodup_append.mp hN2).2.2 a h a ha rfl
  have hl := lv_entry ([.ref (q 0), .int (zI p), .int (zI d), .ref o]) (n := 5) (Nat.le_of_ble_eq_true rfl)
  have hE0 : entryFrame m9 ag9 5 = F0 m9 0 ((lg_sl ([.ref (q 0), .int (zI p), .int (zI d), .ref o]) ++ List.replicate (5 - (lg_sl ([.ref (q 0), .int (zI p), .int (zI d), .ref o])).length) Slot.unset).toArray) [] := by rw [hav]; exact lg_entry_eq m9 _ _
  obtain ⟨Q0, hQ0⟩ : ∃ Q0, Q0 = vx_MQ below (zQL D (wC cI cZ q pa sp al dg co da (up mb (p * 16 + d) 0) dd ah wl lo n td wn) cJ o (vp_updL f 0 (zI (lf da mb dd td p d)).toInt64) 0 (zLC q)) zF ag9 s9 0 0 (fun a => a ∈ zLC q ++ [o]) := ⟨_, rfl⟩
  show W p0 l e9 ({ frames := 8, cells := 0, slots := 0, locals := 134 }) s9 m9 ag9 below meth c9 s9.heap [] 0 0 (vx_MQ below (zQL D (wC cI cZ q pa sp al dg co da (up mb (p * 16 + d) 0) dd ah wl lo n td wn) cJ o (vp_updL f 0 (zI (lf da mb dd td p d)).toInt64) 0 (zLC q)) zF ag9 s9 0 0 (fun a => a ∈ zLC q ++ [o])) _
  rw [hE0, ← hQ0]
  have hS : va_S (fun a => a ∈ zLC q ++ [o]) s9.heap s9.heap [] := va_S.rf
  generalize hH0 : s9.heap = H at hP hO ⊢
  have hS : va_S (fun a => a ∈ zLC q ++ [o]) s9.heap H [] := by rw [hH0] at hS ⊢; exact hS
  have hT : zT (fun a => a ∈ zLC q) s9 H := by rw [hH0] at hT; exact hT
  generalize (lg_sl ([.ref (q 0), .int (zI p), .int (zI d), .ref o]) ++ List.replicate (5 - (lg_sl ([.ref (q 0), .int (zI p), .int (zI d), .ref o])).length) Slot.unset).toArray = ls at hl ⊢
  have hl : lv_has ls 5 [(0, .ref (q 0)), (1, .int (zI p)), (2, .int (zI d)), (3, .ref o)] := hl
  refine lv_aload_n hx hb dL_release_0 rfl (lv_at hl 3 rfl) ?_
  refine zr_iconst hx hb dL_release_1 ?_
  refine lv_aload_n hx hb dL_release_2 rfl (lv_at hl 0 rfl) ?_
  refine lv_iload_n hx hb dL_release_3 rfl (lv_at hl 1 rfl) ?_
  refine lv_iload_n hx hb dL_release_4 rfl (lv_at hl 2 rfl) ?_
  refine zcallV (ci := 2) (q0 := 0) (cq := (RX2, TX2, 9)) (As := [.int (zI p), .int (zI d)]) (rest := [.int (zI 0), .ref o]) ⟨hx, hb, hml, hown, hts⟩ (hK.sub (tys' := [(cI, .int), (cZ, .boolean)]) [0, 1] rfl) (kX2_releaseok l D cI cZ q hN pa sp al dg co da mb dd ah wl lo n td wn hn hda hmb hdd htd p d h1 h2 h3) (cwV 2 hts gL_release_X2_release rfl rfl rfl (by decide +kernel) ⟨Nat.le_of_ble_eq_true rfl, Nat.le_of_ble_eq_true rfl⟩) hP hS hA rfl rfl rfl hl.1 rfl (Nat.le_of_ble_eq_true rfl) dL_release_5 ⟨Nat.zero_le _, Nat.zero_le _⟩ (fun H locs hP hS _ hkk => ?_)
  have hO := zkeep hO hkk hoL
  refine W.eq (g2 := F0 m9 8 ls [.int (zI (lf da mb dd td p d)), .int (zI 0), .ref o]) rfl ?_
  refine lv_i2l hx hb dL_release_8 rfl ?_
  have hPO := zapp hP hO
  refine zr_last0 hx hb hK hPO hN2 rfl hA2 hS 14 2 rfl rfl dL_release_9 (fun H locs hPO hS => ?_)
  have hPO : va_P D vwCl ((wC cI cZ q pa sp al dg co da (up mb (p * 16 + d) 0) dd ah wl lo n td wn) ++ wO cJ o (vp_updL f 0 (zI (lf da mb dd td p d)).toInt64)) H := hPO
  have hP := zleft hPO
  have hO := zright hPO
  refine lv_goto (tgt := 21) hx hb dL_release_10 (by decide) ?_
  refine zr_iconst hx hb dL_release_21 ?_
  rw [hQ0]
  exact vx_ret (W.iret hx hb hr (fun t ht _ => ⟨⟨rfl, by rw [ht]; exact hP, by rw [ht]; exact hO⟩, hS.F ht⟩) hS.2.2 dL_release_22 hlocks)
set_option maxHeartbeats 4000000 in
set_option maxRecDepth 100000 in
theorem kL_releasex1 (l : Launch) (D : va_G) (hl0 : l.stackTraces = false) (cI cZ cJ : ClassId) (q : Nat → Nat) (o : Nat) (hN : (zLC q).Nodup) (hN2 : (zLC q ++ [o]).Nodup) (pa : Int → Int) (sp : Int → Int) (al : Int → Int) (dg : Int → Int) (co : Int → Int) (da : Int → Int) (mb : Int → Int) (dd : Int → Int) (ah : Int → Int) (wl : Int → Int) (lo : Int → Int) (n : Nat) (td : Int) (wn : Int) (f : Nat → Int64) (hn : n ≤ 16) (p : Int) (d : Int) (h0 : -2147483648 ≤ p ∧ p ≤ 2147483647) (h1 : ¬ (0 ≤ p ∧ p < (n : Int))) : zLW l yL_release wsL_release ({ frames := 8, cells := 1, slots := 6, locals := 134 }) D [(cI, .int), (cZ, .boolean), (cJ, .long)] cJ [.ref (q 0), .int (zI p), .int (zI d), .ref o] (wC cI cZ q pa sp al dg co da mb dd ah wl lo n td wn) (wC cI cZ q pa sp al dg co da mb dd ah wl lo n td wn) o f f 1 (zLC q) 1 6 := by
  refine vx_ofWH (cc := cL_release) (maxL := 5) (ret := some .int) (hh := [(0, 10, 13, 19), (0, 10, 17, 13)]) (by decide) rfl ?_
  intro p0 e9 s9 m9 ag9 below meth c9 s₁ B hml hv
  obtain ⟨hav, hP, hO, hK, hT, hE⟩ := hv
  have hx := B.exec
  have hb := B.bytes
  have hr := B.returns
  have hts := atoms_spec (ws := wsL_release) B.pre
  have hown : s9.vm.findClass RL = some m9.cls := findClass_of_methodNamed B.named
  have hlocks := B.notSynchronized
  have hA : ∀ a ∈ zLC q, (fun a => a ∈ zLC q ++ [o]) a := fun _ h => List.mem_append_left _ h
  have hA2 : ∀ a ∈ zLC q ++ [o], (fun a => a ∈ zLC q ++ [o]) a := fun _ h => h
  have hoL : ∀ a ∈ [o], a ∉ zLC q := fun a ha h => (List.nodup_append.mp hN2).2.2 a h a ha rfl
  have htab := vx_table (x := yL_release) B (hts (.codeWith yL_release cL_release 5 (some .int) [(0, 10, 13, 19), (0, 10, 17, 13)]) (by rw [show wsL_release = _ from rfl]; exact List.mem_cons_self))
  have hl := lv_entry ([.ref (q 0), .int (zI p), .int (zI d), .ref o]) (n := 5) (Nat.le_of_ble_eq_true rfl)
  have hE0 : entryFrame m9 ag9 5 = F0 m9 0 ((lg_sl ([.ref (q 0), .int (zI p), .int (zI d), .ref o]) ++ List.replicate (5 - (lg_sl ([.ref (q 0), .int (zI p), .int (zI d), .ref o])).length) Slot.unset).toArray) [] := by rw [hav]; exact lg_entry_eq m9 _ _
  obtain ⟨Q0, hQ0⟩ : ∃ Q0, Q0 = vx_MQ below (zQL D (wC cI cZ q pa sp al dg co da mb dd ah wl lo n td wn) cJ o f 1 (zLC q)) zF ag9 s9 1 6 (fun a => a ∈ zLC q ++ [o]) := ⟨_, rfl⟩
  show W p0 l e9 ({ frames := 8, cells := 1, slots := 6, locals := 134 }) s9 m9 ag9 below meth c9 s9.heap [] 0 0 (vx_MQ below (zQL D (wC cI cZ q pa sp al dg co da mb dd ah wl lo n td wn) cJ o f 1 (zLC q)) zF ag9 s9 1 6 (fun a => a ∈ zLC q ++ [o])) _
  rw [hE0, ← hQ0]
  have hS : va_S (fun a => a ∈ zLC q ++ [o]) s9.heap s9.heap [] := va_S.rf
  generalize hH0 : s9.heap = H at hP hO ⊢
  have hS : va_S (fun a => a ∈ zLC q ++ [o]) s9.heap H [] := by rw [hH0] at hS ⊢; exact hS
  have hT : zT (fun a => a ∈ zLC q) s9 H := by rw [hH0] at hT; exact hT
  generalize (lg_sl ([.ref (q 0), .int (zI p), .int (zI d), .ref o]) ++ List.replicate (5 - (lg_sl ([.ref (q 0), .int (zI p), .int (zI d), .ref o])).length) Slot.unset).toArray = ls at hl ⊢
  have hl : lv_has ls 5 [(0, .ref (q 0)), (1, .int (zI p)), (2, .int (zI d)), (3, .ref o)] := hl
  refine lv_aload_n hx hb dL_release_0 rfl (lv_at hl 3 rfl) ?_
  refine zr_iconst hx hb dL_release_1 ?_
  refine lv_aload_n hx hb dL_release_2 rfl (lv_at hl 0 rfl) ?_
  refine lv_iload_n hx hb dL_release_3 rfl (lv_at hl 1 rfl) ?_
  refine lv_iload_n hx hb dL_release_4 rfl (lv_at hl 2 rfl) ?_
  refine zcallXV (ci := 2) (q0 := 0) (cq := (RX2, TX2, 9)) (As := [.int (zI p), .int (zI d)]) (rest := [.int (zI 0), .ref o]) ⟨hx, hb, hml, hown, hts⟩ (hK.sub (tys' := [(cI, .int), (cZ, .boolean)]) [0, 1] rfl) (kX2_releasex1 l D hl0 cI cZ q hN pa sp al dg co da mb dd ah wl lo n td wn hn p d h0 h1) (cwV 2 hts gL_release_X2_release rfl rfl rfl (by decide +kernel) ⟨Nat.le_of_ble_eq_true rfl, Nat.le_of_ble_eq_true rfl⟩) hP hT hS hA rfl rfl rfl hl.1 rfl (Nat.le_of_ble_eq_true rfl) dL_release_5 ⟨Nat.le_of_ble_eq_true rfl, Nat.le_of_ble_eq_true rfl⟩ (fun ce q9 H locs hP hS _ hkk hce hcv hcl => ?_)
  have hO := zkeep hO hkk hoL
  refine vx_catch (E := "java/lang/IndexOutOfBoundsException") (name := "java/lang/IndexOutOfBoundsException") hown [] ⟨0, 10, 13, 19⟩ [⟨0, 10, 17, 13⟩] (by rw [htab]; rfl) (fun z hz => nomatch hz) (by decide) (by decide) (hts (.classLink RL 19 "java/lang/IndexOutOfBoundsException") (by decide +kernel)) (show (Cond.castable zIO zIO).before _ s9 = true from hE.1.1) hce hcv hcl ?_
  refine lv_astore (lv' := [(4, .ref q9), (0, .ref (q 0)), (1, .int (zI p)), (2, .int (zI d)), (3, .ref o)]) hx hb dL_release_13 hl (by decide) rfl (fun ls hl => ?_)
  refine zr_iconst hx hb dL_release_15 ?_
  rw [hQ0]
  exact vx_ret (W.iret hx hb hr (fun t ht _ => ⟨⟨rfl, by rw [ht]; exact hP, by rw [ht]; exact hO⟩, hS.F ht⟩) hS.2.2 dL_release_16 hlocks)
set_option maxHeartbeats 4000000 in
set_option maxRecDepth 100000 in
theorem kL_releasex2 (l : Launch) (D : va_G) (hl0 : l.stackTraces = false) (cI cZ cJ : ClassId) (q : Nat → Nat) (o : Nat) (hN : (zLC q).Nodup) (hN2 : (zLC q ++ [o]).Nodup) (pa : Int → Int) (sp : Int → Int) (al : Int → Int) (dg : Int → Int) (co : Int → Int) (da : Int → Int) (mb : Int → Int) (dd : Int → Int) (ah : Int → Int) (wl : Int → Int) (lo : Int → Int) (n : Nat) (td : Int) (wn : Int) (f : Nat → Int64) (hn : n ≤ 16) (p : Int) (d : Int) (h0 : -2147483648 ≤ d ∧ d ≤ 2147483647) (h1 : 0 ≤ p ∧ p < (n : Int)) (h2 : ¬ (0 ≤ d ∧ d < (n : Int))) : zLW l yL_release wsL_release ({ frames := 8, cells := 1, slots := 6, locals := 134 }) D [(cI, .int), (cZ, .boolean), (cJ, .long)] cJ [.ref (q 0), .int (zI p), .int (zI d), .ref o] (wC cI cZ q pa sp al dg co da mb dd ah wl lo n td wn) (wC cI cZ q pa sp al dg co da mb dd ah wl lo n td wn) o f f 1 (zLC q) 1 6 := by
  refine vx_ofWH (cc := cL_release) (maxL := 5) (ret := some .int) (hh := [(0, 10, 13, 19), (0, 10, 17, 13)]) (by decide) rfl ?_
  intro p0 e9 s9 m9 ag9 below meth c9 s₁ B hml hv
  obtain ⟨hav, hP, hO, hK, hT, hE⟩ := hv
  have hx := B.exec
  have hb := B.bytes
  have hr := B.returns
  have hts := atoms_spec (ws := wsL_release) B.pre
  have hown : s9.vm.findClass RL = some m9.cls := findClass_of_methodNamed B.named
  have hlocks := B.notSynchronized
  have hA : ∀ a ∈ zLC q, (fun a => a ∈ zLC q ++ [o]) a := fun _ h => List.mem_append_left _ h
  have hA2 : ∀ a ∈ zLC q ++ [o], (fun a => a ∈ zLC q ++ [o]) a := fun _ h => h
  have hoL : ∀ a ∈ [o], a ∉ zLC q := fun a ha h => (List.nodup_append.mp hN2).2.2 a h a ha rfl
  have htab := vx_table (x := yL_release) B (hts (.codeWith yL_release cL_release 5 (some .int) [(0, 10, 13, 19), (0, 10, 17, 13)]) (by rw [show wsL_release = _ from rfl]; exact List.mem_cons_self))
  have hl := lv_entry ([.ref (q 0), .int (zI p), .int (zI d), .ref o]) (n := 5) (Nat.le_of_ble_eq_true rfl)
  have hE0 : entryFrame m9 ag9 5 = F0 m9 0 ((lg_sl ([.ref (q 0), .int (zI p), .int (zI d), .ref o]) ++ List.replicate (5 - (lg_sl ([.ref (q 0), .int (zI p), .int (zI d), .ref o])).length) Slot.unset).toArray) [] := by rw [hav]; exact lg_entry_eq m9 _ _
  obtain ⟨Q0, hQ0⟩ : ∃ Q0, Q0 = vx_MQ below (zQL D (wC cI cZ q pa sp al dg co da mb dd ah wl lo n td wn) cJ o f 1 (zLC q)) zF ag9 s9 1 6 (fun a => a ∈ zLC q ++ [o]) := ⟨_, rfl⟩
  show W p0 l e9 ({ frames := 8, cells := 1, slots := 6, locals := 134 }) s9 m9 ag9 below meth c9 s9.heap [] 0 0 (vx_MQ below (zQL D (wC cI cZ q pa sp al dg co da mb dd ah wl lo n td wn) cJ o f 1 (zLC q)) zF ag9 s9 1 6 (fun a => a ∈ zLC q ++ [o])) _
  rw [hE0, ← hQ0]
  have hS : va_S (fun a => a ∈ zLC q ++ [o]) s9.heap s9.heap [] := va_S.rf
  generalize hH0 : s9.heap = H at hP hO ⊢
  have hS : va_S (fun a => a ∈ zLC q ++ [o]) s9.heap H [] := by rw [hH0] at hS ⊢; exact hS
  have hT : zT (fun a => a ∈ zLC q) s9 H := by rw [hH0] at hT; exact hT
  generalize (lg_sl ([.ref (q 0), .int (zI p), .int (zI d), .ref o]) ++ List.replicate (5 - (lg_sl ([.ref (q 0), .int (zI p), .int (zI d), .ref o])).length) Slot.unset).toArray = ls at hl ⊢
  have hl : lv_has ls 5 [(0, .ref (q 0)), (1, .int (zI p)), (2, .int (zI d)), (3, .ref o)] := hl
  refine lv_aload_n hx hb dL_release_0 rfl (lv_at hl 3 rfl) ?_
  refine zr_iconst hx hb dL_release_1 ?_
  refine lv_aload_n hx hb dL_release_2 rfl (lv_at hl 0 rfl) ?_
  refine lv_iload_n hx hb dL_release_3 rfl (lv_at hl 1 rfl) ?_
  refine lv_iload_n hx hb dL_release_4 rfl (lv_at hl 2 rfl) ?_
  refine zcallXV (ci := 2) (q0 := 0) (cq := (RX2, TX2, 9)) (As := [.int (zI p), .int (zI d)]) (rest := [.int (zI 0), .ref o]) ⟨hx, hb, hml, hown, hts⟩ (hK.sub (tys' := [(cI, .int), (cZ, .boolean)]) [0, 1] rfl) (kX2_releasex2 l D hl0 cI cZ q hN pa sp al dg co da mb dd ah wl lo n td wn hn p d h0 h1 h2) (cwV 2 hts gL_release_X2_release rfl rfl rfl (by decide +kernel) ⟨Nat.le_of_ble_eq_true rfl, Nat.le_of_ble_eq_true rfl⟩) hP hT hS hA rfl rfl rfl hl.1 rfl (Nat.le_of_ble_eq_true rfl) dL_release_5 ⟨Nat.le_of_ble_eq_true rfl, Nat.le_of_ble_eq_true rfl⟩ (fun ce q9 H locs hP hS _ hkk hce hcv hcl => ?_)
  have hO := zkeep hO hkk hoL
  refine vx_catch (E := "java/lang/IndexOutOfBoundsException") (name := "java/lang/IndexOutOfBoundsException") hown [] ⟨0, 10, 13, 19⟩ [⟨0, 10, 17, 13⟩] (by rw [htab]; rfl) (fun z hz => nomatch hz) (by decide) (by decide) (hts (.classLink RL 19 "java/lang/IndexOutOfBoundsException") (by decide +kernel)) (show (Cond.castable zIO zIO).before _ s9 = true from hE.1.1) hce hcv hcl ?_
  refine lv_astore (lv' := [(4, .ref q9), (0, .ref (q 0)), (1, .int (zI p)), (2, .int (zI d)), (3, .ref o)]) hx hb dL_release_13 hl (by decide) rfl (fun ls hl => ?_)
  refine zr_iconst hx hb dL_release_15 ?_
  rw [hQ0]
  exact vx_ret (W.iret hx hb hr (fun t ht _ => ⟨⟨rfl, by rw [ht]; exact hP, by rw [ht]; exact hO⟩, hS.F ht⟩) hS.2.2 dL_release_16 hlocks)
set_option maxHeartbeats 4000000 in
set_option maxRecDepth 100000 in
theorem kL_releasex3 (l : Launch) (D : va_G) (hl0 : l.stackTraces = false) (cI cZ cJ : ClassId) (q : Nat → Nat) (o : Nat) (hN : (zLC q).Nodup) (hN2 : (zLC q ++ [o]).Nodup) (pa : Int → Int) (sp : Int → Int) (al : Int → Int) (dg : Int → Int) (co : Int → Int) (da : Int → Int) (mb : Int → Int) (dd : Int → Int) (ah : Int → Int) (wl : Int → Int) (lo : Int → Int) (n : Nat) (td : Int) (wn : Int) (f : Nat → Int64) (hn : n ≤ 16) (hda : ∀ j : Int, 0 ≤ da j ∧ da j ≤ 60) (hmb : ∀ j : Int, 0 ≤ mb j ∧ mb j ≤ 4) (hdd : ∀ j : Int, 0 ≤ dd j ∧ dd j ≤ 1000000) (htd : 0 ≤ td ∧ td ≤ 1000000) (p : Int) (d : Int) (h1 : 0 ≤ p ∧ p < (n : Int)) (h2 : 0 ≤ d ∧ d < (n : Int)) (h3 : lf da mb dd td p d = 0) : zLW l yL_release wsL_release ({ frames := 8, cells := 1, slots := 6, locals := 134 }) D [(cI, .int), (cZ, .boolean), (cJ, .long)] cJ [.ref (q 0), .int (zI p), .int (zI d), .ref o] (wC cI cZ q pa sp al dg co da mb dd ah wl lo n td wn) (wC cI cZ q pa sp al dg co da mb dd ah wl lo n td wn) o f f 2 (zLC q) 1 6 := by
  refine vx_ofWH (cc := cL_release) (maxL := 5) (ret := some .int) (hh := [(0, 10, 13, 19), (0, 10, 17, 13)]) (by decide) rfl ?_
  intro p0 e9 s9 m9 ag9 below meth c9 s₁ B hml hv
  obtain ⟨hav, hP, hO, hK, hT, hE⟩ := hv
  have hx := B.exec
  have hb := B.bytes
  have hr := B.returns
  have hts := atoms_spec (ws := wsL_release) B.pre
  have hown : s9.vm.findClass RL = some m9.cls := findClass_of_methodNamed B.named
  have hlocks := B.notSynchronized
  have hA : ∀ a ∈ zLC q, (fun a => a ∈ zLC q ++ [o]) a := fun _ h => List.mem_append_left _ h
  have hA2 : ∀ a ∈ zLC q ++ [o], (fun a => a ∈ zLC q ++ [o]) a := fun _ h => h
  have hoL : ∀ a ∈ [o], a ∉ zLC q := fun a ha h => (List.nodup_append.mp hN2).2.2 a h a ha rfl
  have htab := vx_table (x := yL_release) B (hts (.codeWith yL_release cL_release 5 (some .int) [(0, 10, 13, 19), (0, 10, 17, 13)]) (by rw [show wsL_release = _ from rfl]; exact List.mem_cons_self))
  have hl := lv_entry ([.ref (q 0), .int (zI p), .int (zI d), .ref o]) (n := 5) (Nat.le_of_ble_eq_true rfl)
  have hE0 : entryFrame m9 ag9 5 = F0 m9 0 ((lg_sl ([.ref (q 0), .int (zI p), .int (zI d), .ref o]) ++ List.replicate (5 - (lg_sl ([.ref (q 0), .int (zI p), .int (zI d), .ref o])).length) Slot.unset).toArray) [] := by rw [hav]; exact lg_entry_eq m9 _ _
  obtain ⟨Q0, hQ0⟩ : ∃ Q0, Q0 = vx_MQ below (zQL D (wC cI cZ q pa sp al dg co da mb dd ah wl lo n td wn) cJ o f 2 (zLC q)) zF ag9 s9 1 6 (fun a => a ∈ zLC q ++ [o]) := ⟨_, rfl⟩
  show W p0 l e9 ({ frames := 8, cells := 1, slots := 6, locals := 134 }) s9 m9 ag9 below meth c9 s9.heap [] 0 0 (vx_MQ below (zQL D (wC cI cZ q pa sp al dg co da mb dd ah wl lo n td wn) cJ o f 2 (zLC q)) zF ag9 s9 1 6 (fun a => a ∈ zLC q ++ [o])) _
  rw [hE0, ← hQ0]
  have hS : va_S (fun a => a ∈ zLC q ++ [o]) s9.heap s9.heap [] := va_S.rf
  generalize hH0 : s9.heap = H at hP hO ⊢
  have hS : va_S (fun a => a ∈ zLC q ++ [o]) s9.heap H [] := by rw [hH0] at hS ⊢; exact hS
  have hT : zT (fun a => a ∈ zLC q) s9 H := by rw [hH0] at hT; exact hT
  generalize (lg_sl ([.ref (q 0), .int (zI p), .int (zI d), .ref o]) ++ List.replicate (5 - (lg_sl ([.ref (q 0), .int (zI p), .int (zI d), .ref o])).length) Slot.unset).toArray = ls at hl ⊢
  have hl : lv_has ls 5 [(0, .ref (q 0)), (1, .int (zI p)), (2, .int (zI d)), (3, .ref o)] := hl
  refine lv_aload_n hx hb dL_release_0 rfl (lv_at hl 3 rfl) ?_
  refine zr_iconst hx hb dL_release_1 ?_
  refine lv_aload_n hx hb dL_release_2 rfl (lv_at hl 0 rfl) ?_
  refine lv_iload_n hx hb dL_release_3 rfl (lv_at hl 1 rfl) ?_
  refine lv_iload_n hx hb dL_release_4 rfl (lv_at hl 2 rfl) ?_
  refine zcallXV (ci := 2) (q0 := 0) (cq := (RX2, TX2, 9)) (As := [.int (zI p), .int (zI d)]) (rest := [.int (zI 0), .ref o]) ⟨hx, hb, hml, hown, hts⟩ (hK.sub (tys' := [(cI, .int), (cZ, .boolean)]) [0, 1] rfl) (kX2_releasex3 l D hl0 cI cZ q hN pa sp al dg co da mb dd ah wl lo n td wn hn hda hmb hdd htd p d h1 h2 h3) (cwV 2 hts gL_release_X2_release rfl rfl rfl (by decide +kernel) ⟨Nat.le_of_ble_eq_true rfl, Nat.le_of_ble_eq_true rfl⟩) hP hT hS hA rfl rfl rfl hl.1 rfl (Nat.le_of_ble_eq_true rfl) dL_release_5 ⟨Nat.le_of_ble_eq_true rfl, Nat.le_of_ble_eq_true rfl⟩ (fun ce q9 H locs hP hS _ hkk hce hcv hcl => ?_)
  have hO := zkeep hO hkk hoL
  refine vx_catch (E := "java/lang/IllegalStateException") (name := "java/lang/IllegalStateException") hown [⟨0, 10, 13, 19⟩] ⟨0, 10, 17, 13⟩ [] (by rw [htab]; rfl) (fun z hz => by
    simp only [List.mem_cons, List.not_mem_nil, or_false] at hz
    subst hz
    exact Or.inr ⟨by decide, "java/lang/IndexOutOfBoundsException", hts (.classLink RL 19 "java/lang/IndexOutOfBoundsException") (by decide +kernel), hE.2.1⟩) (by decide) (by decide) (hts (.classLink RL 13 "java/lang/IllegalStateException") (by decide +kernel)) (show (Cond.castable zIS zIS).before _ s9 = true from hE.1.2.1) hce hcv hcl ?_
  refine lv_astore (lv' := [(4, .ref q9), (0, .ref (q 0)), (1, .int (zI p)), (2, .int (zI d)), (3, .ref o)]) hx hb dL_release_17 hl (by decide) rfl (fun ls hl => ?_)
  refine zr_iconst hx hb dL_release_19 ?_
  rw [hQ0]
  exact vx_ret (W.iret hx hb hr (fun t ht _ => ⟨⟨rfl, by rw [ht]; exact hP, by rw [ht]; exact hO⟩, hS.F ht⟩) hS.2.2 dL_release_20 hlocks)
set_option maxHeartbeats 4000000 in
set_option maxRecDepth 100000 in
theorem kL_passok (l : Launch) (D : va_G) (hl0 : l.stackTraces = false) (cI cZ cJ : ClassId) (q : Nat → Nat) (o : Nat) (hN : (zLC q).Nodup) (hN2 : (zLC q ++ [o]).Nodup) (pa : Int → Int) (sp : Int → Int) (al : Int → Int) (dg : Int → Int) (co : Int → Int) (da : Int → Int) (mb : Int → Int) (dd : Int → Int) (ah : Int → Int) (wl : Int → Int) (lo : Int → Int) (n : Nat) (td : Int) (wn : Int) (f : Nat → Int64) (hn : n ≤ 16) (hal : ∀ j : Int, 0 ≤ al j ∧ al j ≤ 1) (hco : ∀ j : Int, 0 ≤ co j ∧ co j ≤ 5) (hda : ∀ j : Int, 0 ≤ da j ∧ da j ≤ 60) (hmb : ∀ j : Int, 0 ≤ mb j ∧ mb j ≤ 4) (hdd : ∀ j : Int, 0 ≤ dd j ∧ dd j ≤ 1000000) (htd : 0 ≤ td ∧ td ≤ 1000000) (k : Int) (h1 : 1 ≤ k ∧ k ≤ 200) (h2 : td ≤ 900000) : zLW l yL_pass wsL_pass ({ frames := 7, cells := 0, slots := 0, locals := 118 }) D [(cI, .int), (cZ, .boolean), (cJ, .long)] cJ [.ref (q 0), .int (zI k), .ref o] (wC cI cZ q pa sp al dg co da mb dd ah wl lo n td wn) (wC cI cZ q pa sp al dg co da mb dd (lastF ah (ca co da mb dd td n) n) wl lo n (td + k) (wn + smF (waP co da mb dd td n k) n)) o f (vp_updL f 0 (zI (smF al n - smF (cwF al co da mb dd (td + k) n 0) n)).toInt64) 0 (zLC q) 0 0 := by
  refine vx_ofWH (cc := cL_pass) (maxL := 4) (ret := some .int) (hh := [(0, 9, 12, 25)]) (by decide) rfl ?_
  intro p0 e9 s9 m9 ag9 below meth c9 s₁ B hml hv
  obtain ⟨hav, hP, hO, hK, hT, hE⟩ := hv
  have hx := B.exec
  have hb := B.bytes
  have hr := B.returns
  have hts := atoms_spec (ws := wsL_pass) B.pre
  have hown : s9.vm.findClass RL = some m9.cls := findClass_of_methodNamed B.named
  have hlocks := B.notSynchronized
  have hA : ∀ a ∈ zLC q, (fun a => a ∈ zLC q ++ [o]) a := fun _ h => List.mem_append_left _ h
  have hA2 : ∀ a ∈ zLC q ++ [o], (fun a => a ∈ zLC q ++ [o]) a := fun _ h => h
  have hoL : ∀ a ∈ [o], a ∉ zLC q := fun a ha h => (List.nodup_append.mp hN2).2.2 a h a ha rfl
  have hl := lv_entry ([.ref (q 0), .int (zI k), .ref o]) (n := 4) (Nat.le_of_ble_eq_true rfl)
  have hE0 : entryFrame m9 ag9 4 = F0 m9 0 ((lg_sl ([.ref (q 0), .int (zI k), .ref o]) ++ List.replicate (4 - (lg_sl ([.ref (q 0), .int (zI k), .ref o])).length) Slot.unset).toArray) [] := by rw [hav]; exact lg_entry_eq m9 _ _
  obtain ⟨Q0, hQ0⟩ : ∃ Q0, Q0 = vx_MQ below (zQL D (wC cI cZ q pa sp al dg co da mb dd (lastF ah (ca co da mb dd td n) n) wl lo n (td + k) (wn + smF (waP co da mb dd td n k) n)) cJ o (vp_updL f 0 (zI (smF al n - smF (cwF al co da mb dd (td + k) n 0) n)).toInt64) 0 (zLC q)) zF ag9 s9 0 0 (fun a => a ∈ zLC q ++ [o]) := ⟨_, rfl⟩
  show W p0 l e9 ({ frames := 7, cells := 0, slots := 0, locals := 118 }) s9 m9 ag9 below meth c9 s9.heap [] 0 0 (vx_MQ below (zQL D (wC cI cZ q pa sp al dg co da mb dd (lastF ah (ca co da mb dd td n) n) wl lo n (td + k) (wn + smF (waP co da mb dd td n k) n)) cJ o (vp_updL f 0 (zI (smF al n - smF (cwF al co da mb dd (td + k) n 0) n)).toInt64) 0 (zLC q)) zF ag9 s9 0 0 (fun a => a ∈ zLC q ++ [o])) _
  rw [hE0, ← hQ0]
  have hS : va_S (fun a => a ∈ zLC q ++ [o]) s9.heap s9.heap [] := va_S.rf
  generalize hH0 : s9.heap = H at hP hO ⊢
  have hS : va_S (fun a => a ∈ zLC q ++ [o]) s9.heap H [] := by rw [hH0] at hS ⊢; exact hS
  have hT : zT (fun a => a ∈ zLC q) s9 H := by rw [hH0] at hT; exact hT
  generalize (lg_sl ([.ref (q 0), .int (zI k), .ref o]) ++ List.replicate (4 - (lg_sl ([.ref (q 0), .int (zI k), .ref o])).length) Slot.unset).toArray = ls at hl ⊢
  have hl : lv_has ls 4 [(0, .ref (q 0)), (1, .int (zI k)), (2, .ref o)] := hl
  refine lv_aload_n hx hb dL_pass_0 rfl (lv_at hl 2 rfl) ?_
  refine zr_iconst hx hb dL_pass_1 ?_
  refine lv_aload_n hx hb dL_pass_2 rfl (lv_at hl 0 rfl) ?_
  refine lv_iload_n hx hb dL_pass_3 rfl (lv_at hl 1 rfl) ?_
  refine zcallV (ci := 2) (q0 := 0) (cq := (RX2, TX2, 9)) (As := [.int (zI k)]) (rest := [.int (zI 0), .ref o]) ⟨hx, hb, hml, hown, hts⟩ (hK.sub (tys' := [(cI, .int), (cZ, .boolean)]) [0, 1] rfl) (kX2_passok l D cI cZ q hN pa sp al dg co da mb dd ah wl lo n td wn hn hal hco hda hmb hdd htd k h1 h2) (cwV 1 hts gL_pass_X2_pass rfl rfl rfl (by decide +kernel) ⟨Nat.le_of_ble_eq_true rfl, Nat.le_of_ble_eq_true rfl⟩) hP hS hA rfl rfl rfl hl.1 rfl (Nat.le_of_ble_eq_true rfl) dL_pass_4 ⟨Nat.zero_le _, Nat.zero_le _⟩ (fun H locs hP hS _ hkk => ?_)
  have hO := zkeep hO hkk hoL
  refine W.eq (g2 := F0 m9 7 ls [.int (zI (smF al n - smF (cwF al co da mb dd (td + k) n 0) n)), .int (zI 0), .ref o]) rfl ?_
  refine lv_i2l hx hb dL_pass_7 rfl ?_
  have hPO := zapp hP hO
  refine zr_last0 hx hb hK hPO hN2 rfl hA2 hS 14 2 rfl rfl dL_pass_8 (fun H locs hPO hS => ?_)
  have hPO : va_P D vwCl ((wC cI cZ q pa sp al dg co da mb dd (lastF ah (ca co da mb dd td n) n) wl lo n (td + k) (wn + smF (waP co da mb dd td n k) n)) ++ wO cJ o (vp_updL f 0 (zI (smF al n - smF (cwF al co da mb dd (td + k) n 0) n)).toInt64)) H := hPO
  have hP := zleft hPO
  have hO := zright hPO
  refine lv_goto (tgt := 15) hx hb dL_pass_9 (by decide) ?_
  refine zr_iconst hx hb dL_pass_15 ?_
  rw [hQ0]
  exact vx_ret (W.iret hx hb hr (fun t ht _ => ⟨⟨rfl, by rw [ht]; exact hP, by rw [ht]; exact hO⟩, hS.F ht⟩) hS.2.2 dL_pass_16 hlocks)
set_option maxHeartbeats 4000000 in
set_option maxRecDepth 100000 in
theorem kL_passx1 (l : Launch) (D : va_G) (hl0 : l.stackTraces = false) (cI cZ cJ : ClassId) (q : Nat → Nat) (o : Nat) (hN : (zLC q).Nodup) (hN2 : (zLC q ++ [o]).Nodup) (pa : Int → Int) (sp : Int → Int) (al : Int → Int) (dg : Int → Int) (co : Int → Int) (da : Int → Int) (mb : Int → Int) (dd : Int → Int) (ah : Int → Int) (wl : Int → Int) (lo : Int → Int) (n : Nat) (td : Int) (wn : Int) (f : Nat → Int64) (k : Int) (h0 : -2147483648 ≤ k ∧ k ≤ 2147483647) (h1 : ¬ (1 ≤ k ∧ k ≤ 200)) : zLW l yL_pass wsL_pass ({ frames := 7, cells := 1, slots := 6, locals := 118 }) D [(cI, .int), (cZ, .boolean), (cJ, .long)] cJ [.ref (q 0), .int (zI k), .ref o] (wC cI cZ q pa sp al dg co da mb dd ah wl lo n td wn) (wC cI cZ q pa sp al dg co da mb dd ah wl lo n td wn) o f f 1 (zLC q) 1 6 := by
  refine vx_ofWH (cc := cL_pass) (maxL := 4) (ret := some .int) (hh := [(0, 9, 12, 25)]) (by decide) rfl ?_
  intro p0 e9 s9 m9 ag9 below meth c9 s₁ B hml hv
  obtain ⟨hav, hP, hO, hK, hT, hE⟩ := hv
  have hx := B.exec
  have hb := B.bytes
  have hr := B.returns
  have hts := atoms_spec (ws := wsL_pass) B.pre
  have hown : s9.vm.findClass RL = some m9.cls := findClass_of_methodNamed B.named
  have hlocks := B.notSynchronized
  have hA : ∀ a ∈ zLC q, (fun a => a ∈ zLC q ++ [o]) a := fun _ h => List.mem_append_left _ h
  have hA2 : ∀ a ∈ zLC q ++ [o], (fun a => a ∈ zLC q ++ [o]) a := fun _ h => h
  have hoL : ∀ a ∈ [o], a ∉ zLC q := fun a ha h => (List.nodup_append.mp hN2).2.2 a h a ha rfl
  have htab := vx_table (x := yL_pass) B (hts (.codeWith yL_pass cL_pass 4 (some .int) [(0, 9, 12, 25)]) (by rw [show wsL_pass = _ from rfl]; exact List.mem_cons_self))
  have hl := lv_entry ([.ref (q 0), .int (zI k), .ref o]) (n := 4) (Nat.le_of_ble_eq_true rfl)
  have hE0 : entryFrame m9 ag9 4 = F0 m9 0 ((lg_sl ([.ref (q 0), .int (zI k), .ref o]) ++ List.replicate (4 - (lg_sl ([.ref (q 0), .int (zI k), .ref o])).length) Slot.unset).toArray) [] := by rw [hav]; exact lg_entry_eq m9 _ _
  obtain ⟨Q0, hQ0⟩ : ∃ Q0, Q0 = vx_MQ below (zQL D (wC cI cZ q pa sp al dg co da mb dd ah wl lo n td wn) cJ o f 1 (zLC q)) zF ag9 s9 1 6 (fun a => a ∈ zLC q ++ [o]) := ⟨_, rfl⟩
  show W p0 l e9 ({ frames := 7, cells := 1, slots := 6, locals := 118 }) s9 m9 ag9 below meth c9 s9.heap [] 0 0 (vx_MQ below (zQL D (wC cI cZ q pa sp al dg co da mb dd ah wl lo n td wn) cJ o f 1 (zLC q)) zF ag9 s9 1 6 (fun a => a ∈ zLC q ++ [o])) _
  rw [hE0, ← hQ0]
  have hS : va_S (fun a => a ∈ zLC q ++ [o]) s9.heap s9.heap [] := va_S.rf
  generalize hH0 : s9.heap = H at hP hO ⊢
  have hS : va_S (fun a => a ∈ zLC q ++ [o]) s9.heap H [] := by rw [hH0] at hS ⊢; exact hS
  have hT : zT (fun a => a ∈ zLC q) s9 H := by rw [hH0] at hT; exact hT
  generalize (lg_sl ([.ref (q 0), .int (zI k), .ref o]) ++ List.replicate (4 - (lg_sl ([.ref (q 0), .int (zI k), .ref o])).length) Slot.unset).toArray = ls at hl ⊢
  have hl : lv_has ls 4 [(0, .ref (q 0)), (1, .int (zI k)), (2, .ref o)] := hl
  refine lv_aload_n hx hb dL_pass_0 rfl (lv_at hl 2 rfl) ?_
  refine zr_iconst hx hb dL_pass_1 ?_
  refine lv_aload_n hx hb dL_pass_2 rfl (lv_at hl 0 rfl) ?_
  refine lv_iload_n hx hb dL_pass_3 rfl (lv_at hl 1 rfl) ?_
  refine zcallXV (ci := 2) (q0 := 0) (cq := (RX2, TX2, 9)) (As := [.int (zI k)]) (rest := [.int (zI 0), .ref o]) ⟨hx, hb, hml, hown, hts⟩ (hK.sub (tys' := [(cI, .int), (cZ, .boolean)]) [0, 1] rfl) (kX2_passx1 l D hl0 cI cZ q hN pa sp al dg co da mb dd ah wl lo n td wn k h0 h1) (cwV 1 hts gL_pass_X2_pass rfl rfl rfl (by decide +kernel) ⟨Nat.le_of_ble_eq_true rfl, Nat.le_of_ble_eq_true rfl⟩) hP hT hS hA rfl rfl rfl hl.1 rfl (Nat.le_of_ble_eq_true rfl) dL_pass_4 ⟨Nat.le_of_ble_eq_true rfl, Nat.le_of_ble_eq_true rfl⟩ (fun ce q9 H locs hP hS _ hkk hce hcv hcl => ?_)
  have hO := zkeep hO hkk hoL
  refine vx_catch (E := "java/lang/IllegalArgumentException") (name := "java/lang/IllegalArgumentException") hown [] ⟨0, 9, 12, 25⟩ [] (by rw [htab]; rfl) (fun z hz => nomatch hz) (by decide) (by decide) (hts (.classLink RL 25 "java/lang/IllegalArgumentException") (by decide +kernel)) (show (Cond.castable zIA zIA).before _ s9 = true from hE.1.2.2) hce hcv hcl ?_
  refine lv_astore_n (lv' := [(3, .ref q9), (0, .ref (q 0)), (1, .int (zI k)), (2, .ref o)]) hx hb dL_pass_12 rfl hl (by decide) rfl (fun ls hl => ?_)
  refine zr_iconst hx hb dL_pass_13 ?_
  rw [hQ0]
  exact vx_ret (W.iret hx hb hr (fun t ht _ => ⟨⟨rfl, by rw [ht]; exact hP, by rw [ht]; exact hO⟩, hS.F ht⟩) hS.2.2 dL_pass_14 hlocks)
set_option maxHeartbeats 4000000 in
set_option maxRecDepth 100000 in
theorem kL_isAliveok (l : Launch) (D : va_G) (hl0 : l.stackTraces = false) (cI cZ cJ : ClassId) (q : Nat → Nat) (o : Nat) (hN : (zLC q).Nodup) (hN2 : (zLC q ++ [o]).Nodup) (pa : Int → Int) (sp : Int → Int) (al : Int → Int) (dg : Int → Int) (co : Int → Int) (da : Int → Int) (mb : Int → Int) (dd : Int → Int) (ah : Int → Int) (wl : Int → Int) (lo : Int → Int) (n : Nat) (td : Int) (wn : Int) (f : Nat → Int64) (hn : n ≤ 16) (hal : ∀ j : Int, 0 ≤ al j ∧ al j ≤ 1) (p : Int) (h1 : 0 ≤ p ∧ p < (n : Int)) : zLW l yL_isAlive wsL_isAlive ({ frames := 8, cells := 0, slots := 0, locals := 132 }) D [(cI, .int), (cZ, .boolean), (cJ, .long)] cJ [.ref (q 0), .int (zI p), .ref o] (wC cI cZ q pa sp al dg co da mb dd ah wl lo n td wn) (wC cI cZ q pa sp al dg co da mb dd ah wl lo n td wn) o f (vp_updL f 0 (zI (al p)).toInt64) 0 (zLC q) 0 0 := by
  refine vx_ofWH (cc := cL_isAlive) (maxL := 4) (ret := some .int) (hh := [(0, 16, 19, 19)]) (by decide) rfl ?_
  intro p0 e9 s9 m9 ag9 below meth c9 s₁ B hml hv
  obtain ⟨hav, hP, hO, hK, hT, hE⟩ := hv
  have hx := B.exec
  have hb := B.bytes
  have hr := B.returns
  have hts := atoms_spec (ws := wsL_isAlive) B.pre
  have hown : s9.vm.findClass RL = some m9.cls := findClass_of_methodNamed B.named
  have hlocks := B.notSynchronized
  have hA : ∀ a ∈ zLC q, (fun a => a ∈ zLC q ++ [o]) a := fun _ h => List.mem_append_left _ h
  have hA2 : ∀ a ∈ zLC q ++ [o], (fun a => a ∈ zLC q ++ [o]) a := fun _ h => h
  have hoL : ∀ a ∈ [o], a ∉ zLC q := fun a ha h => (List.nodup_append.mp hN2).2.2 a h a ha rfl
  have hl := lv_entry ([.ref (q 0), .int (zI p), .ref o]) (n := 4) (Nat.le_of_ble_eq_true rfl)
  have hE0 : entryFrame m9 ag9 4 = F0 m9 0 ((lg_sl ([.ref (q 0), .int (zI p), .ref o]) ++ List.replicate (4 - (lg_sl ([.ref (q 0), .int (zI p), .ref o])).length) Slot.unset).toArray) [] := by rw [hav]; exact lg_entry_eq m9 _ _
  obtain ⟨Q0, hQ0⟩ : ∃ Q0, Q0 = vx_MQ below (zQL D (wC cI cZ q pa sp al dg co da mb dd ah wl lo n td wn) cJ o (vp_updL f 0 (zI (al p)).toInt64) 0 (zLC q)) zF ag9 s9 0 0 (fun a => a ∈ zLC q ++ [o]) := ⟨_, rfl⟩
  show W p0 l e9 ({ frames := 8, cells := 0, slots := 0, locals := 132 }) s9 m9 ag9 below meth c9 s9.heap [] 0 0 (vx_MQ below (zQL D (wC cI cZ q pa sp al dg co da mb dd ah wl lo n td wn) cJ o (vp_updL f 0 (zI (al p)).toInt64) 0 (zLC q)) zF ag9 s9 0 0 (fun a => a ∈ zLC q ++ [o])) _
  rw [hE0, ← hQ0]
  have hS : va_S (fun a => a ∈ zLC q ++ [o]) s9.heap s9.heap [] := va_S.rf
  generalize hH0 : s9.heap = H at hP hO ⊢
  have hS : va_S (fun a => a ∈ zLC q ++ [o]) s9.heap H [] := by rw [hH0] at hS ⊢; exact hS
  have hT : zT (fun a => a ∈ zLC q) s9 H := by rw [hH0] at hT; exact hT
  generalize (lg_sl ([.ref (q 0), .int (zI p), .ref o]) ++ List.replicate (4 - (lg_sl ([.ref (q 0), .int (zI p), .ref o])).length) Slot.unset).toArray = ls at hl ⊢
  have hl : lv_has ls 4 [(0, .ref (q 0)), (1, .int (zI p)), (2, .ref o)] := hl
  refine lv_aload_n hx hb dL_isAlive_0 rfl (lv_at hl 2 rfl) ?_
  refine zr_iconst hx hb dL_isAlive_1 ?_
  refine lv_aload_n hx hb dL_isAlive_2 rfl (lv_at hl 0 rfl) ?_
  refine lv_iload_n hx hb dL_isAlive_3 rfl (lv_at hl 1 rfl) ?_
  refine zcallV (ci := 2) (q0 := 0) (cq := (RX2, TX2, 9)) (As := [.int (zI p)]) (rest := [.int (zI 0), .ref o]) ⟨hx, hb, hml, hown, hts⟩ (hK.sub (tys' := [(cI, .int), (cZ, .boolean)]) [0, 1] rfl) (kX2_isAliveok l D cI cZ q hN pa sp al dg co da mb dd ah wl lo n td wn hn hal p h1) (cwV 1 hts gL_isAlive_X2_isAlive rfl rfl rfl (by decide +kernel) ⟨Nat.le_of_ble_eq_true rfl, Nat.le_of_ble_eq_true rfl⟩) hP hS hA rfl rfl rfl hl.1 rfl (Nat.le_of_ble_eq_true rfl) dL_isAlive_4 ⟨Nat.zero_le _, Nat.zero_le _⟩ (fun H locs hP hS _ hkk => ?_)
  have hO := zkeep hO hkk hoL
  refine W.eq (g2 := F0 m9 7 ls [.int (zI (al p)), .int (zI 0), .ref o]) rfl ?_
  have hb9 := hal p
  refine zr_if_eq (tgt := 14) hx hb dL_isAlive_7 (by decide) ⟨by omega, by omega⟩ (fun c_1 => ?_) (fun c_1 => ?_)
  · have hv9 : al p = 0 := by omega
    refine lv_lconst (v := 0) hx hb dL_isAlive_14 rfl ?_
    have hPO := zapp hP hO
    refine zr_last0 hx hb hK hPO hN2 rfl hA2 hS 14 2 rfl rfl dL_isAlive_15 (fun H locs hPO hS => ?_)
    have hPO : va_P D vwCl ((wC cI cZ q pa sp al dg co da mb dd ah wl lo n td wn) ++ wO cJ o (vp_updL f 0 0)) H := hPO
    have hP := zleft hPO
    have hO := zright hPO
    have hO : va_P D vwCl (wO cJ o (vp_updL f 0 (zI (al p)).toInt64)) H := by rw [hv9]; exact hO
    refine lv_goto (tgt := 22) hx hb dL_isAlive_16 (by decide) ?_
    refine zr_iconst hx hb dL_isAlive_22 ?_
    rw [hQ0]
    exact vx_ret (W.iret hx hb hr (fun t ht _ => ⟨⟨rfl, by rw [ht]; exact hP, by rw [ht]; exact hO⟩, hS.F ht⟩) hS.2.2 dL_isAlive_23 hlocks)
  · have hv9 : al p = 1 := by omega
    refine lv_lconst (v := 1) hx hb dL_isAlive_10 rfl ?_
    refine lv_goto (tgt := 15) hx hb dL_isAlive_11 (by decide) ?_
    have hPO := zapp hP hO
    refine zr_last0 hx hb hK hPO hN2 rfl hA2 hS 14 2 rfl rfl dL_isAlive_15 (fun H locs hPO hS => ?_)
    have hPO : va_P D vwCl ((wC cI cZ q pa sp al dg co da mb dd ah wl lo n td wn) ++ wO cJ o (vp_updL f 0 1)) H := hPO
    have hP := zleft hPO
    have hO := zright hPO
    have hO : va_P D vwCl (wO cJ o (vp_updL f 0 (zI (al p)).toInt64)) H := by rw [hv9]; exact hO
    refine lv_goto (tgt := 22) hx hb dL_isAlive_16 (by decide) ?_
    refine zr_iconst hx hb dL_isAlive_22 ?_
    rw [hQ0]
    exact vx_ret (W.iret hx hb hr (fun t ht _ => ⟨⟨rfl, by rw [ht]; exact hP, by rw [ht]; exact hO⟩, hS.F ht⟩) hS.2.2 dL_isAlive_23 hlocks)
set_option maxHeartbeats 4000000 in
set_option maxRecDepth 100000 in
theorem kL_isAlivex1 (l : Launch) (D : va_G) (hl0 : l.stackTraces = false) (cI cZ cJ : ClassId) (q : Nat → Nat) (o : Nat) (hN : (zLC q).Nodup) (hN2 : (zLC q ++ [o]).Nodup) (pa : Int → Int) (sp : Int → Int) (al : Int → Int) (dg : Int → Int) (co : Int → Int) (da : Int → Int) (mb : Int → Int) (dd : Int → Int) (ah : Int → Int) (wl : Int → Int) (lo : Int → Int) (n : Nat) (td : Int) (wn : Int) (f : Nat → Int64) (hn : n ≤ 16) (p : Int) (h0 : -2147483648 ≤ p ∧ p ≤ 2147483647) (h1 : ¬ (0 ≤ p ∧ p < (n : Int))) : zLW l yL_isAlive wsL_isAlive ({ frames := 8, cells := 1, slots := 6, locals := 132 }) D [(cI, .int), (cZ, .boolean), (cJ, .long)] cJ [.ref (q 0), .int (zI p), .ref o] (wC cI cZ q pa sp al dg co da mb dd ah wl lo n td wn) (wC cI cZ q pa sp al dg co da mb dd ah wl lo n td wn) o f f 1 (zLC q) 1 6 := by
  refine vx_ofWH (cc := cL_isAlive) (maxL := 4) (ret := some .int) (hh := [(0, 16, 19, 19)]) (by decide) rfl ?_
  intro p0 e9 s9 m9 ag9 below meth c9 s₁ B hml hv
  obtain ⟨hav, hP, hO, hK, hT, hE⟩ := hv
  have hx := B.exec
  have hb := B.bytes
  have hr := B.returns
  have hts := atoms_spec (ws := wsL_isAlive) B.pre
  have hown : s9.vm.findClass RL = some m9.cls := findClass_of_methodNamed B.named
  have hlocks := B.notSynchronized
  have hA : ∀ a ∈ zLC q, (fun a => a ∈ zLC q ++ [o]) a := fun _ h => List.mem_append_left _ h
  have hA2 : ∀ a ∈ zLC q ++ [o], (fun a => a ∈ zLC q ++ [o]) a := fun _ h => h
  have hoL : ∀ a ∈ [o], a ∉ zLC q := fun a ha h => (List.nodup_append.mp hN2).2.2 a h a ha rfl
  have htab := vx_table (x := yL_isAlive) B (hts (.codeWith yL_isAlive cL_isAlive 4 (some .int) [(0, 16, 19, 19)]) (by rw [show wsL_isAlive = _ from rfl]; exact List.mem_cons_self))
  have hl := lv_entry ([.ref (q 0), .int (zI p), .ref o]) (n := 4) (Nat.le_of_ble_eq_true rfl)
  have hE0 : entryFrame m9 ag9 4 = F0 m9 0 ((lg_sl ([.ref (q 0), .int (zI p), .ref o]) ++ List.replicate (4 - (lg_sl ([.ref (q 0), .int (zI p), .ref o])).length) Slot.unset).toArray) [] := by rw [hav]; exact lg_entry_eq m9 _ _
  obtain ⟨Q0, hQ0⟩ : ∃ Q0, Q0 = vx_MQ below (zQL D (wC cI cZ q pa sp al dg co da mb dd ah wl lo n td wn) cJ o f 1 (zLC q)) zF ag9 s9 1 6 (fun a => a ∈ zLC q ++ [o]) := ⟨_, rfl⟩
  show W p0 l e9 ({ frames := 8, cells := 1, slots := 6, locals := 132 }) s9 m9 ag9 below meth c9 s9.heap [] 0 0 (vx_MQ below (zQL D (wC cI cZ q pa sp al dg co da mb dd ah wl lo n td wn) cJ o f 1 (zLC q)) zF ag9 s9 1 6 (fun a => a ∈ zLC q ++ [o])) _
  rw [hE0, ← hQ0]
  have hS : va_S (fun a => a ∈ zLC q ++ [o]) s9.heap s9.heap [] := va_S.rf
  generalize hH0 : s9.heap = H at hP hO ⊢
  have hS : va_S (fun a => a ∈ zLC q ++ [o]) s9.heap H [] := by rw [hH0] at hS ⊢; exact hS
  have hT : zT (fun a => a ∈ zLC q) s9 H := by rw [hH0] at hT; exact hT
  generalize (lg_sl ([.ref (q 0), .int (zI p), .ref o]) ++ List.replicate (4 - (lg_sl ([.ref (q 0), .int (zI p), .ref o])).length) Slot.unset).toArray = ls at hl ⊢
  have hl : lv_has ls 4 [(0, .ref (q 0)), (1, .int (zI p)), (2, .ref o)] := hl
  refine lv_aload_n hx hb dL_isAlive_0 rfl (lv_at hl 2 rfl) ?_
  refine zr_iconst hx hb dL_isAlive_1 ?_
  refine lv_aload_n hx hb dL_isAlive_2 rfl (lv_at hl 0 rfl) ?_
  refine lv_iload_n hx hb dL_isAlive_3 rfl (lv_at hl 1 rfl) ?_
  refine zcallXV (ci := 2) (q0 := 0) (cq := (RX2, TX2, 9)) (As := [.int (zI p)]) (rest := [.int (zI 0), .ref o]) ⟨hx, hb, hml, hown, hts⟩ (hK.sub (tys' := [(cI, .int), (cZ, .boolean)]) [0, 1] rfl) (kX2_isAlivex1 l D hl0 cI cZ q hN pa sp al dg co da mb dd ah wl lo n td wn hn p h0 h1) (cwV 1 hts gL_isAlive_X2_isAlive rfl rfl rfl (by decide +kernel) ⟨Nat.le_of_ble_eq_true rfl, Nat.le_of_ble_eq_true rfl⟩) hP hT hS hA rfl rfl rfl hl.1 rfl (Nat.le_of_ble_eq_true rfl) dL_isAlive_4 ⟨Nat.le_of_ble_eq_true rfl, Nat.le_of_ble_eq_true rfl⟩ (fun ce q9 H locs hP hS _ hkk hce hcv hcl => ?_)
  have hO := zkeep hO hkk hoL
  refine vx_catch (E := "java/lang/IndexOutOfBoundsException") (name := "java/lang/IndexOutOfBoundsException") hown [] ⟨0, 16, 19, 19⟩ [] (by rw [htab]; rfl) (fun z hz => nomatch hz) (by decide) (by decide) (hts (.classLink RL 19 "java/lang/IndexOutOfBoundsException") (by decide +kernel)) (show (Cond.castable zIO zIO).before _ s9 = true from hE.1.1) hce hcv hcl ?_
  refine lv_astore_n (lv' := [(3, .ref q9), (0, .ref (q 0)), (1, .int (zI p)), (2, .ref o)]) hx hb dL_isAlive_19 rfl hl (by decide) rfl (fun ls hl => ?_)
  refine zr_iconst hx hb dL_isAlive_20 ?_
  rw [hQ0]
  exact vx_ret (W.iret hx hb hr (fun t ht _ => ⟨⟨rfl, by rw [ht]; exact hP, by rw [ht]; exact hO⟩, hS.F ht⟩) hS.2.2 dL_isAlive_21 hlocks)
set_option maxHeartbeats 4000000 in
set_option maxRecDepth 100000 in
theorem kL_parentOfok (l : Launch) (D : va_G) (hl0 : l.stackTraces = false) (cI cZ cJ : ClassId) (q : Nat → Nat) (o : Nat) (hN : (zLC q).Nodup) (hN2 : (zLC q ++ [o]).Nodup) (pa : Int → Int) (sp : Int → Int) (al : Int → Int) (dg : Int → Int) (co : Int → Int) (da : Int → Int) (mb : Int → Int) (dd : Int → Int) (ah : Int → Int) (wl : Int → Int) (lo : Int → Int) (n : Nat) (td : Int) (wn : Int) (f : Nat → Int64) (hn : n ≤ 16) (hpa : ∀ j : Int, -1 ≤ pa j ∧ pa j ≤ 15) (p : Int) (h1 : 0 ≤ p ∧ p < (n : Int)) : zLW l yL_parentOf wsL_parentOf ({ frames := 8, cells := 0, slots := 0, locals := 132 }) D [(cI, .int), (cZ, .boolean), (cJ, .long)] cJ [.ref (q 0), .int (zI p), .ref o] (wC cI cZ q pa sp al dg co da mb dd ah wl lo n td wn) (wC cI cZ q pa sp al dg co da mb dd ah wl lo n td wn) o f (vp_updL f 0 (zI (pa p)).toInt64) 0 (zLC q) 0 0 := by
  refine vx_ofWH (cc := cL_parentOf) (maxL := 4) (ret := some .int) (hh := [(0, 9, 12, 19)]) (by decide) rfl ?_
  intro p0 e9 s9 m9 ag9 below meth c9 s₁ B hml hv
  obtain ⟨hav, hP, hO, hK, hT, hE⟩ := hv
  have hx := B.exec
  have hb := B.bytes
  have hr := B.returns
  have hts := atoms_spec (ws := wsL_parentOf) B.pre
  have hown : s9.vm.findClass RL = some m9.cls := findClass_of_methodNamed B.named
  have hlocks := B.notSynchronized
  have hA : ∀ a ∈ zLC q, (fun a => a ∈ zLC q ++ [o]) a := fun _ h => List.mem_append_left _ h
  have hA2 : ∀ a ∈ zLC q ++ [o], (fun a => a ∈ zLC q ++ [o]) a := fun _ h => h
  have hoL : ∀ a ∈ [o], a ∉ zLC q := fun a ha h => (List.nodup_append.mp hN2).2.2 a h a ha rfl
  have hl := lv_entry ([.ref (q 0), .int (zI p), .ref o]) (n := 4) (Nat.le_of_ble_eq_true rfl)
  have hE0 : entryFrame m9 ag9 4 = F0 m9 0 ((lg_sl ([.ref (q 0), .int (zI p), .ref o]) ++ List.replicate (4 - (lg_sl ([.ref (q 0), .int (zI p), .ref o])).length) Slot.unset).toArray) [] := by rw [hav]; exact lg_entry_eq m9 _ _
  obtain ⟨Q0, hQ0⟩ : ∃ Q0, Q0 = vx_MQ below (zQL D (wC cI cZ q pa sp al dg co da mb dd ah wl lo n td wn) cJ o (vp_updL f 0 (zI (pa p)).toInt64) 0 (zLC q)) zF ag9 s9 0 0 (fun a => a ∈ zLC q ++ [o]) := ⟨_, rfl⟩
  show W p0 l e9 ({ frames := 8, cells := 0, slots := 0, locals := 132 }) s9 m9 ag9 below meth c9 s9.heap [] 0 0 (vx_MQ below (zQL D (wC cI cZ q pa sp al dg co da mb dd ah wl lo n td wn) cJ o (vp_updL f 0 (zI (pa p)).toInt64) 0 (zLC q)) zF ag9 s9 0 0 (fun a => a ∈ zLC q ++ [o])) _
  rw [hE0, ← hQ0]
  have hS : va_S (fun a => a ∈ zLC q ++ [o]) s9.heap s9.heap [] := va_S.rf
  generalize hH0 : s9.heap = H at hP hO ⊢
  have hS : va_S (fun a => a ∈ zLC q ++ [o]) s9.heap H [] := by rw [hH0] at hS ⊢; exact hS
  have hT : zT (fun a => a ∈ zLC q) s9 H := by rw [hH0] at hT; exact hT
  generalize (lg_sl ([.ref (q 0), .int (zI p), .ref o]) ++ List.replicate (4 - (lg_sl ([.ref (q 0), .int (zI p), .ref o])).length) Slot.unset).toArray = ls at hl ⊢
  have hl : lv_has ls 4 [(0, .ref (q 0)), (1, .int (zI p)), (2, .ref o)] := hl
  refine lv_aload_n hx hb dL_parentOf_0 rfl (lv_at hl 2 rfl) ?_
  refine zr_iconst hx hb dL_parentOf_1 ?_
  refine lv_aload_n hx hb dL_parentOf_2 rfl (lv_at hl 0 rfl) ?_
  refine lv_iload_n hx hb dL_parentOf_3 rfl (lv_at hl 1 rfl) ?_
  refine zcallV (ci := 2) (q0 := 0) (cq := (RX2, TX2, 9)) (As := [.int (zI p)]) (rest := [.int (zI 0), .ref o]) ⟨hx, hb, hml, hown, hts⟩ (hK.sub (tys' := [(cI, .int), (cZ, .boolean)]) [0, 1] rfl) (kX2_parentOfok l D cI cZ q hN pa sp al dg co da mb dd ah wl lo n td wn hn hpa p h1) (cwV 1 hts gL_parentOf_X2_parentOf rfl rfl rfl (by decide +kernel) ⟨Nat.le_of_ble_eq_true rfl, Nat.le_of_ble_eq_true rfl⟩) hP hS hA rfl rfl rfl hl.1 rfl (Nat.le_of_ble_eq_true rfl) dL_parentOf_4 ⟨Nat.zero_le _, Nat.zero_le _⟩ (fun H locs hP hS _ hkk => ?_)
  have hO := zkeep hO hkk hoL
  refine W.eq (g2 := F0 m9 7 ls [.int (zI (pa p)), .int (zI 0), .ref o]) rfl ?_
  refine lv_i2l hx hb dL_parentOf_7 rfl ?_
  have hPO := zapp hP hO
  refine zr_last0 hx hb hK hPO hN2 rfl hA2 hS 14 2 rfl rfl dL_parentOf_8 (fun H locs hPO hS => ?_)
  have hPO : va_P D vwCl ((wC cI cZ q pa sp al dg co da mb dd ah wl lo n td wn) ++ wO cJ o (vp_updL f 0 (zI (pa p)).toInt64)) H := hPO
  have hP := zleft hPO
  have hO := zright hPO
  refine lv_goto (tgt := 15) hx hb dL_parentOf_9 (by decide) ?_
  refine zr_iconst hx hb dL_parentOf_15 ?_
  rw [hQ0]
  exact vx_ret (W.iret hx hb hr (fun t ht _ => ⟨⟨rfl, by rw [ht]; exact hP, by rw [ht]; exact hO⟩, hS.F ht⟩) hS.2.2 dL_parentOf_16 hlocks)
set_option maxHeartbeats 4000000 in
set_option maxRecDepth 100000 in
theorem kL_parentOfx1 (l : Launch) (D : va_G) (hl0 : l.stackTraces = false) (cI cZ cJ : ClassId) (q : Nat → Nat) (o : Nat) (hN : (zLC q).Nodup) (hN2 : (zLC q ++ [o]).Nodup) (pa : Int → Int) (sp : Int → Int) (al : Int → Int) (dg : Int → Int) (co : Int → Int) (da : Int → Int) (mb : Int → Int) (dd : Int → Int) (ah : Int → Int) (wl : Int → Int) (lo : Int → Int) (n : Nat) (td : Int) (wn : Int) (f : Nat → Int64) (hn : n ≤ 16) (p : Int) (h0 : -2147483648 ≤ p ∧ p ≤ 2147483647) (h1 : ¬ (0 ≤ p ∧ p < (n : Int))) : zLW l yL_parentOf wsL_parentOf ({ frames := 8, cells := 1, slots := 6, locals := 132 }) D [(cI, .int), (cZ, .boolean), (cJ, .long)] cJ [.ref (q 0), .int (zI p), .ref o] (wC cI cZ q pa sp al dg co da mb dd ah wl lo n td wn) (wC cI cZ q pa sp al dg co da mb dd ah wl lo n td wn) o f f 1 (zLC q) 1 6 := by
  refine vx_ofWH (cc := cL_parentOf) (maxL := 4) (ret := some .int) (hh := [(0, 9, 12, 19)]) (by decide) rfl ?_
  intro p0 e9 s9 m9 ag9 below meth c9 s₁ B hml hv
  obtain ⟨hav, hP, hO, hK, hT, hE⟩ := hv
  have hx := B.exec
  have hb := B.bytes
  have hr := B.returns
  have hts := atoms_spec (ws := wsL_parentOf) B.pre
  have hown : s9.vm.findClass RL = some m9.cls := findClass_of_methodNamed B.named
  have hlocks := B.notSynchronized
  have hA : ∀ a ∈ zLC q, (fun a => a ∈ zLC q ++ [o]) a := fun _ h => List.mem_append_left _ h
  have hA2 : ∀ a ∈ zLC q ++ [o], (fun a => a ∈ zLC q ++ [o]) a := fun _ h => h
  have hoL : ∀ a ∈ [o], a ∉ zLC q := fun a ha h => (List.nodup_append.mp hN2).2.2 a h a ha rfl
  have htab := vx_table (x := yL_parentOf) B (hts (.codeWith yL_parentOf cL_parentOf 4 (some .int) [(0, 9, 12, 19)]) (by rw [show wsL_parentOf = _ from rfl]; exact List.mem_cons_self))
  have hl := lv_entry ([.ref (q 0), .int (zI p), .ref o]) (n := 4) (Nat.le_of_ble_eq_true rfl)
  have hE0 : entryFrame m9 ag9 4 = F0 m9 0 ((lg_sl ([.ref (q 0), .int (zI p), .ref o]) ++ List.replicate (4 - (lg_sl ([.ref (q 0), .int (zI p), .ref o])).length) Slot.unset).toArray) [] := by rw [hav]; exact lg_entry_eq m9 _ _
  obtain ⟨Q0, hQ0⟩ : ∃ Q0, Q0 = vx_MQ below (zQL D (wC cI cZ q pa sp al dg co da mb dd ah wl lo n td wn) cJ o f 1 (zLC q)) zF ag9 s9 1 6 (fun a => a ∈ zLC q ++ [o]) := ⟨_, rfl⟩
  show W p0 l e9 ({ frames := 8, cells := 1, slots := 6, locals := 132 }) s9 m9 ag9 below meth c9 s9.heap [] 0 0 (vx_MQ below (zQL D (wC cI cZ q pa sp al dg co da mb dd ah wl lo n td wn) cJ o f 1 (zLC q)) zF ag9 s9 1 6 (fun a => a ∈ zLC q ++ [o])) _
  rw [hE0, ← hQ0]
  have hS : va_S (fun a => a ∈ zLC q ++ [o]) s9.heap s9.heap [] := va_S.rf
  generalize hH0 : s9.heap = H at hP hO ⊢
  have hS : va_S (fun a => a ∈ zLC q ++ [o]) s9.heap H [] := by rw [hH0] at hS ⊢; exact hS
  have hT : zT (fun a => a ∈ zLC q) s9 H := by rw [hH0] at hT; exact hT
  generalize (lg_sl ([.ref (q 0), .int (zI p), .ref o]) ++ List.replicate (4 - (lg_sl ([.ref (q 0), .int (zI p), .ref o])).length) Slot.unset).toArray = ls at hl ⊢
  have hl : lv_has ls 4 [(0, .ref (q 0)), (1, .int (zI p)), (2, .ref o)] := hl
  refine lv_aload_n hx hb dL_parentOf_0 rfl (lv_at hl 2 rfl) ?_
  refine zr_iconst hx hb dL_parentOf_1 ?_
  refine lv_aload_n hx hb dL_parentOf_2 rfl (lv_at hl 0 rfl) ?_
  refine lv_iload_n hx hb dL_parentOf_3 rfl (lv_at hl 1 rfl) ?_
  refine zcallXV (ci := 2) (q0 := 0) (cq := (RX2, TX2, 9)) (As := [.int (zI p)]) (rest := [.int (zI 0), .ref o]) ⟨hx, hb, hml, hown, hts⟩ (hK.sub (tys' := [(cI, .int), (cZ, .boolean)]) [0, 1] rfl) (kX2_parentOfx1 l D hl0 cI cZ q hN pa sp al dg co da mb dd ah wl lo n td wn hn p h0 h1) (cwV 1 hts gL_parentOf_X2_parentOf rfl rfl rfl (by decide +kernel) ⟨Nat.le_of_ble_eq_true rfl, Nat.le_of_ble_eq_true rfl⟩) hP hT hS hA rfl rfl rfl hl.1 rfl (Nat.le_of_ble_eq_true rfl) dL_parentOf_4 ⟨Nat.le_of_ble_eq_true rfl, Nat.le_of_ble_eq_true rfl⟩ (fun ce q9 H locs hP hS _ hkk hce hcv hcl => ?_)
  have hO := zkeep hO hkk hoL
  refine vx_catch (E := "java/lang/IndexOutOfBoundsException") (name := "java/lang/IndexOutOfBoundsException") hown [] ⟨0, 9, 12, 19⟩ [] (by rw [htab]; rfl) (fun z hz => nomatch hz) (by decide) (by decide) (hts (.classLink RL 19 "java/lang/IndexOutOfBoundsException") (by decide +kernel)) (show (Cond.castable zIO zIO).before _ s9 = true from hE.1.1) hce hcv hcl ?_
  refine lv_astore_n (lv' := [(3, .ref q9), (0, .ref (q 0)), (1, .int (zI p)), (2, .ref o)]) hx hb dL_parentOf_12 rfl hl (by decide) rfl (fun ls hl => ?_)
  refine zr_iconst hx hb dL_parentOf_13 ?_
  rw [hQ0]
  exact vx_ret (W.iret hx hb hr (fun t ht _ => ⟨⟨rfl, by rw [ht]; exact hP, by rw [ht]; exact hO⟩, hS.F ht⟩) hS.2.2 dL_parentOf_14 hlocks)
set_option maxHeartbeats 4000000 in
set_option maxRecDepth 100000 in
theorem kL_marriedTook (l : Launch) (D : va_G) (hl0 : l.stackTraces = false) (cI cZ cJ : ClassId) (q : Nat → Nat) (o : Nat) (hN : (zLC q).Nodup) (hN2 : (zLC q ++ [o]).Nodup) (pa : Int → Int) (sp : Int → Int) (al : Int → Int) (dg : Int → Int) (co : Int → Int) (da : Int → Int) (mb : Int → Int) (dd : Int → Int) (ah : Int → Int) (wl : Int → Int) (lo : Int → Int) (n : Nat) (td : Int) (wn : Int) (f : Nat → Int64) (hn : n ≤ 16) (hsp : ∀ j : Int, -1 ≤ sp j ∧ sp j ≤ 15) (p : Int) (h1 : 0 ≤ p ∧ p < (n : Int)) : zLW l yL_marriedTo wsL_marriedTo ({ frames := 8, cells := 0, slots := 0, locals := 132 }) D [(cI, .int), (cZ, .boolean), (cJ, .long)] cJ [.ref (q 0), .int (zI p), .ref o] (wC cI cZ q pa sp al dg co da mb dd ah wl lo n td wn) (wC cI cZ q pa sp al dg co da mb dd ah wl lo n td wn) o f (vp_updL f 0 (zI (sp p)).toInt64) 0 (zLC q) 0 0 := by
  refine vx_ofWH (cc := cL_marriedTo) (maxL := 4) (ret := some .int) (hh := [(0, 9, 12, 19)]) (by decide) rfl ?_
  intro p0 e9 s9 m9 ag9 below meth c9 s₁ B hml hv
  obtain ⟨hav, hP, hO, hK, hT, hE⟩ := hv
  have hx := B.exec
  have hb := B.bytes
  have hr := B.returns
  have hts := atoms_spec (ws := wsL_marriedTo) B.pre
  have hown : s9.vm.findClass RL = some m9.cls := findClass_of_methodNamed B.named
  have hlocks := B.notSynchronized
  have hA : ∀ a ∈ zLC q, (fun a => a ∈ zLC q ++ [o]) a := fun _ h => List.mem_append_left _ h
  have hA2 : ∀ a ∈ zLC q ++ [o], (fun a => a ∈ zLC q ++ [o]) a := fun _ h => h
  have hoL : ∀ a ∈ [o], a ∉ zLC q := fun a ha h => (List.nodup_append.mp hN2).2.2 a h a ha rfl
  have hl := lv_entry ([.ref (q 0), .int (zI p), .ref o]) (n := 4) (Nat.le_of_ble_eq_true rfl)
  have hE0 : entryFrame m9 ag9 4 = F0 m9 0 ((lg_sl ([.ref (q 0), .int (zI p), .ref o]) ++ List.replicate (4 - (lg_sl ([.ref (q 0), .int (zI p), .ref o])).length) Slot.unset).toArray) [] := by rw [hav]; exact lg_entry_eq m9 _ _
  obtain ⟨Q0, hQ0⟩ : ∃ Q0, Q0 = vx_MQ below (zQL D (wC cI cZ q pa sp al dg co da mb dd ah wl lo n td wn) cJ o (vp_updL f 0 (zI (sp p)).toInt64) 0 (zLC q)) zF ag9 s9 0 0 (fun a => a ∈ zLC q ++ [o]) := ⟨_, rfl⟩
  show W p0 l e9 ({ frames := 8, cells := 0, slots := 0, locals := 132 }) s9 m9 ag9 below meth c9 s9.heap [] 0 0 (vx_MQ below (zQL D (wC cI cZ q pa sp al dg co da mb dd ah wl lo n td wn) cJ o (vp_updL f 0 (zI (sp p)).toInt64) 0 (zLC q)) zF ag9 s9 0 0 (fun a => a ∈ zLC q ++ [o])) _
  rw [hE0, ← hQ0]
  have hS : va_S (fun a => a ∈ zLC q ++ [o]) s9.heap s9.heap [] := va_S.rf
  generalize hH0 : s9.heap = H at hP hO ⊢
  have hS : va_S (fun a => a ∈ zLC q ++ [o]) s9.heap H [] := by rw [hH0] at hS ⊢; exact hS
  have hT : zT (fun a => a ∈ zLC q) s9 H := by rw [hH0] at hT; exact hT
  generalize (lg_sl ([.ref (q 0), .int (zI p), .ref o]) ++ List.replicate (4 - (lg_sl ([.ref (q 0), .int (zI p), .ref o])).length) Slot.unset).toArray = ls at hl ⊢
  have hl : lv_has ls 4 [(0, .ref (q 0)), (1, .int (zI p)), (2, .ref o)] := hl
  refine lv_aload_n hx hb dL_marriedTo_0 rfl (lv_at hl 2 rfl) ?_
  refine zr_iconst hx hb dL_marriedTo_1 ?_
  refine lv_aload_n hx hb dL_marriedTo_2 rfl (lv_at hl 0 rfl) ?_
  refine lv_iload_n hx hb dL_marriedTo_3 rfl (lv_at hl 1 rfl) ?_
  refine zcallV (ci := 2) (q0 := 0) (cq := (RX2, TX2, 9)) (As := [.int (zI p)]) (rest := [.int (zI 0), .ref o]) ⟨hx, hb, hml, hown, hts⟩ (hK.sub (tys' := [(cI, .int), (cZ, .boolean)]) [0, 1] rfl) (kX2_marriedTook l D cI cZ q hN pa sp al dg co da mb dd ah wl lo n td wn hn hsp p h1) (cwV 1 hts gL_marriedTo_X2_marriedTo rfl rfl rfl (by decide +kernel) ⟨Nat.le_of_ble_eq_true rfl, Nat.le_of_ble_eq_true rfl⟩) hP hS hA rfl rfl rfl hl.1 rfl (Nat.le_of_ble_eq_true rfl) dL_marriedTo_4 ⟨Nat.zero_le _, Nat.zero_le _⟩ (fun H locs hP hS _ hkk => ?_)
  have hO := zkeep hO hkk hoL
  refine W.eq (g2 := F0 m9 7 ls [.int (zI (sp p)), .int (zI 0), .ref o]) rfl ?_
  refine lv_i2l hx hb dL_marriedTo_7 rfl ?_
  have hPO := zapp hP hO
  refine zr_last0 hx hb hK hPO hN2 rfl hA2 hS 14 2 rfl rfl dL_marriedTo_8 (fun H locs hPO hS => ?_)
  have hPO : va_P D vwCl ((wC cI cZ q pa sp al dg co da mb dd ah wl lo n td wn) ++ wO cJ o (vp_updL f 0 (zI (sp p)).toInt64)) H := hPO
  have hP := zleft hPO
  have hO := zright hPO
  refine lv_goto (tgt := 15) hx hb dL_marriedTo_9 (by decide) ?_
  refine zr_iconst hx hb dL_marriedTo_15 ?_
  rw [hQ0]
  exact vx_ret (W.iret hx hb hr (fun t ht _ => ⟨⟨rfl, by rw [ht]; exact hP, by rw [ht]; exact hO⟩, hS.F ht⟩) hS.2.2 dL_marriedTo_16 hlocks)
set_option maxHeartbeats 4000000 in
set_option maxRecDepth 100000 in
theorem kL_marriedTox1 (l : Launch) (D : va_G) (hl0 : l.stackTraces = false) (cI cZ cJ : ClassId) (q : Nat → Nat) (o : Nat) (hN : (zLC q).Nodup) (hN2 : (zLC q ++ [o]).Nodup) (pa : Int → Int) (sp : Int → Int) (al : Int → Int) (dg : Int → Int) (co : Int → Int) (da : Int → Int) (mb : Int → Int) (dd : Int → Int) (ah : Int → Int) (wl : Int → Int) (lo : Int → Int) (n : Nat) (td : Int) (wn : Int) (f : Nat → Int64) (hn : n ≤ 16) (p : Int) (h0 : -2147483648 ≤ p ∧ p ≤ 2147483647) (h1 : ¬ (0 ≤ p ∧ p < (n : Int))) : zLW l yL_marriedTo wsL_marriedTo ({ frames := 8, cells := 1, slots := 6, locals := 132 }) D [(cI, .int), (cZ, .boolean), (cJ, .long)] cJ [.ref (q 0), .int (zI p), .ref o] (wC cI cZ q pa sp al dg co da mb dd ah wl lo n td wn) (wC cI cZ q pa sp al dg co da mb dd ah wl lo n td wn) o f f 1 (zLC q) 1 6 := by
  refine vx_ofWH (cc := cL_marriedTo) (maxL := 4) (ret := some .int) (hh := [(0, 9, 12, 19)]) (by decide) rfl ?_
  intro p0 e9 s9 m9 ag9 below meth c9 s₁ B hml hv
  obtain ⟨hav, hP, hO, hK, hT, hE⟩ := hv
  have hx := B.exec
  have hb := B.bytes
  have hr := B.returns
  have hts := atoms_spec (ws := wsL_marriedTo) B.pre
  have hown : s9.vm.findClass RL = some m9.cls := findClass_of_methodNamed B.named
  have hlocks := B.notSynchronized
  have hA : ∀ a ∈ zLC q, (fun a => a ∈ zLC q ++ [o]) a := fun _ h => List.mem_append_left _ h
  have hA2 : ∀ a ∈ zLC q ++ [o], (fun a => a ∈ zLC q ++ [o]) a := fun _ h => h
  have hoL : ∀ a ∈ [o], a ∉ zLC q := fun a ha h => (List.nodup_append.mp hN2).2.2 a h a ha rfl
  have htab := vx_table (x := yL_marriedTo) B (hts (.codeWith yL_marriedTo cL_marriedTo 4 (some .int) [(0, 9, 12, 19)]) (by rw [show wsL_marriedTo = _ from rfl]; exact List.mem_cons_self))
  have hl := lv_entry ([.ref (q 0), .int (zI p), .ref o]) (n := 4) (Nat.le_of_ble_eq_true rfl)
  have hE0 : entryFrame m9 ag9 4 = F0 m9 0 ((lg_sl ([.ref (q 0), .int (zI p), .ref o]) ++ List.replicate (4 - (lg_sl ([.ref (q 0), .int (zI p), .ref o])).length) Slot.unset).toArray) [] := by rw [hav]; exact lg_entry_eq m9 _ _
  obtain ⟨Q0, hQ0⟩ : ∃ Q0, Q0 = vx_MQ below (zQL D (wC cI cZ q pa sp al dg co da mb dd ah wl lo n td wn) cJ o f 1 (zLC q)) zF ag9 s9 1 6 (fun a => a ∈ zLC q ++ [o]) := ⟨_, rfl⟩
  show W p0 l e9 ({ frames := 8, cells := 1, slots := 6, locals := 132 }) s9 m9 ag9 below meth c9 s9.heap [] 0 0 (vx_MQ below (zQL D (wC cI cZ q pa sp al dg co da mb dd ah wl lo n td wn) cJ o f 1 (zLC q)) zF ag9 s9 1 6 (fun a => a ∈ zLC q ++ [o])) _
  rw [hE0, ← hQ0]
  have hS : va_S (fun a => a ∈ zLC q ++ [o]) s9.heap s9.heap [] := va_S.rf
  generalize hH0 : s9.heap = H at hP hO ⊢
  have hS : va_S (fun a => a ∈ zLC q ++ [o]) s9.heap H [] := by rw [hH0] at hS ⊢; exact hS
  have hT : zT (fun a => a ∈ zLC q) s9 H := by rw [hH0] at hT; exact hT
  generalize (lg_sl ([.ref (q 0), .int (zI p), .ref o]) ++ List.replicate (4 - (lg_sl ([.ref (q 0), .int (zI p), .ref o])).length) Slot.unset).toArray = ls at hl ⊢
  have hl : lv_has ls 4 [(0, .ref (q 0)), (1, .int (zI p)), (2, .ref o)] := hl
  refine lv_aload_n hx hb dL_marriedTo_0 rfl (lv_at hl 2 rfl) ?_
  refine zr_iconst hx hb dL_marriedTo_1 ?_
  refine lv_aload_n hx hb dL_marriedTo_2 rfl (lv_at hl 0 rfl) ?_
  refine lv_iload_n hx hb dL_marriedTo_3 rfl (lv_at hl 1 rfl) ?_
  refine zcallXV (ci := 2) (q0 := 0) (cq := (RX2, TX2, 9)) (As := [.int (zI p)]) (rest := [.int (zI 0), .ref o]) ⟨hx, hb, hml, hown, hts⟩ (hK.sub (tys' := [(cI, .int), (cZ, .boolean)]) [0, 1] rfl) (kX2_marriedTox1 l D hl0 cI cZ q hN pa sp al dg co da mb dd ah wl lo n td wn hn p h0 h1) (cwV 1 hts gL_marriedTo_X2_marriedTo rfl rfl rfl (by decide +kernel) ⟨Nat.le_of_ble_eq_true rfl, Nat.le_of_ble_eq_true rfl⟩) hP hT hS hA rfl rfl rfl hl.1 rfl (Nat.le_of_ble_eq_true rfl) dL_marriedTo_4 ⟨Nat.le_of_ble_eq_true rfl, Nat.le_of_ble_eq_true rfl⟩ (fun ce q9 H locs hP hS _ hkk hce hcv hcl => ?_)
  have hO := zkeep hO hkk hoL
  refine vx_catch (E := "java/lang/IndexOutOfBoundsException") (name := "java/lang/IndexOutOfBoundsException") hown [] ⟨0, 9, 12, 19⟩ [] (by rw [htab]; rfl) (fun z hz => nomatch hz) (by decide) (by decide) (hts (.classLink RL 19 "java/lang/IndexOutOfBoundsException") (by decide +kernel)) (show (Cond.castable zIO zIO).before _ s9 = true from hE.1.1) hce hcv hcl ?_
  refine lv_astore_n (lv' := [(3, .ref q9), (0, .ref (q 0)), (1, .int (zI p)), (2, .ref o)]) hx hb dL_marriedTo_12 rfl hl (by decide) rfl (fun ls hl => ?_)
  refine zr_iconst hx hb dL_marriedTo_13 ?_
  rw [hQ0]
  exact vx_ret (W.iret hx hb hr (fun t ht _ => ⟨⟨rfl, by rw [ht]; exact hP, by rw [ht]; exact hO⟩, hS.F ht⟩) hS.2.2 dL_marriedTo_14 hlocks)
set_option maxHeartbeats 4000000 in
set_option maxRecDepth 100000 in
theorem kL_degreeOfok (l : Launch) (D : va_G) (hl0 : l.stackTraces = false) (cI cZ cJ : ClassId) (q : Nat → Nat) (o : Nat) (hN : (zLC q).Nodup) (hN2 : (zLC q ++ [o]).Nodup) (pa : Int → Int) (sp : Int → Int) (al : Int → Int) (dg : Int → Int) (co : Int → Int) (da : Int → Int) (mb : Int → Int) (dd : Int → Int) (ah : Int → Int) (wl : Int → Int) (lo : Int → Int) (n : Nat) (td : Int) (wn : Int) (f : Nat → Int64) (hn : n ≤ 16) (hpa : ∀ j : Int, -1 ≤ pa j ∧ pa j ≤ 15) (hsp : ∀ j : Int, -1 ≤ sp j ∧ sp j ≤ 15) (a : Int) (b : Int) (h1 : 0 ≤ a ∧ a < (n : Int)) (h2 : 0 ≤ b ∧ b < (n : Int)) : zLW l yL_degreeOf wsL_degreeOf ({ frames := 8, cells := 0, slots := 0, locals := 133 }) D [(cI, .int), (cZ, .boolean), (cJ, .long)] cJ [.ref (q 0), .int (zI a), .int (zI b), .ref o] (wC cI cZ q pa sp al dg co da mb dd ah wl lo n td wn) (wC cI cZ q pa sp al (dgF pa sp n a) co da mb dd ah wl lo n td wn) o f (vp_updL f 0 (zI (dgF pa sp n a b)).toInt64) 0 (zLC q) 0 0 := by
  refine vx_ofWH (cc := cL_degreeOf) (maxL := 5) (ret := some .int) (hh := [(0, 10, 13, 19)]) (by decide) rfl ?_
  intro p0 e9 s9 m9 ag9 below meth c9 s₁ B hml hv
  obtain ⟨hav, hP, hO, hK, hT, hE⟩ := hv
  have hx := B.exec
  have hb := B.bytes
  have hr := B.returns
  have hts := atoms_spec (ws := wsL_degreeOf) B.pre
  have hown : s9.vm.findClass RL = some m9.cls := findClass_of_methodNamed B.named
  have hlocks := B.notSynchronized
  have hA : ∀ a ∈ zLC q, (fun a => a ∈ zLC q ++ [o]) a := fun _ h => List.mem_append_left _ h
  have hA2 : ∀ a ∈ zLC q ++ [o], (fun a => a ∈ zLC q ++ [o]) a := fun _ h => h
  have hoL : ∀ a ∈ [o], a ∉ zLC q := fun a ha h => (List.nodup_append.mp hN2).2.2 a h a ha rfl
  have hl := lv_entry ([.ref (q 0), .int (zI a), .int (zI b), .ref o]) (n := 5) (Nat.le_of_ble_eq_true rfl)
  have hE0 : entryFrame m9 ag9 5 = F0 m9 0 ((lg_sl ([.ref (q 0), .int (zI a), .int (zI b), .ref o]) ++ List.replicate (5 - (lg_sl ([.ref (q 0), .int (zI a), .int (zI b), .ref o])).length) Slot.unset).toArray) [] := by rw [hav]; exact lg_entry_eq m9 _ _
  obtain ⟨Q0, hQ0⟩ : ∃ Q0, Q0 = vx_MQ below (zQL D (wC cI cZ q pa sp al (dgF pa sp n a) co da mb dd ah wl lo n td wn) cJ o (vp_updL f 0 (zI (dgF pa sp n a b)).toInt64) 0 (zLC q)) zF ag9 s9 0 0 (fun a => a ∈ zLC q ++ [o]) := ⟨_, rfl⟩
  show W p0 l e9 ({ frames := 8, cells := 0, slots := 0, locals := 133 }) s9 m9 ag9 below meth c9 s9.heap [] 0 0 (vx_MQ below (zQL D (wC cI cZ q pa sp al (dgF pa sp n a) co da mb dd ah wl lo n td wn) cJ o (vp_updL f 0 (zI (dgF pa sp n a b)).toInt64) 0 (zLC q)) zF ag9 s9 0 0 (fun a => a ∈ zLC q ++ [o])) _
  rw [hE0, ← hQ0]
  have hS : va_S (fun a => a ∈ zLC q ++ [o]) s9.heap s9.heap [] := va_S.rf
  generalize hH0 : s9.heap = H at hP hO ⊢
  have hS : va_S (fun a => a ∈ zLC q ++ [o]) s9.heap H [] := by rw [hH0] at hS ⊢; exact hS
  have hT : zT (fun a => a ∈ zLC q) s9 H := by rw [hH0] at hT; exact hT
  generalize (lg_sl ([.ref (q 0), .int (zI a), .int (zI b), .ref o]) ++ List.replicate (5 - (lg_sl ([.ref (q 0), .int (zI a), .int (zI b), .ref o])).length) Slot.unset).toArray = ls at hl ⊢
  have hl : lv_has ls 5 [(0, .ref (q 0)), (1, .int (zI a)), (2, .int (zI b)), (3, .ref o)] := hl
  refine lv_aload_n hx hb dL_degreeOf_0 rfl (lv_at hl 3 rfl) ?_
  refine zr_iconst hx hb dL_degreeOf_1 ?_
  refine lv_aload_n hx hb dL_degreeOf_2 rfl (lv_at hl 0 rfl) ?_
  refine lv_iload_n hx hb dL_degreeOf_3 rfl (lv_at hl 1 rfl) ?_
  refine lv_iload_n hx hb dL_degreeOf_4 rfl (lv_at hl 2 rfl) ?_
  refine zcallV (ci := 2) (q0 := 0) (cq := (RX2, TX2, 9)) (As := [.int (zI a), .int (zI b)]) (rest := [.int (zI 0), .ref o]) ⟨hx, hb, hml, hown, hts⟩ (hK.sub (tys' := [(cI, .int), (cZ, .boolean)]) [0, 1] rfl) (kX2_degreeOfok l D cI cZ q hN pa sp al dg co da mb dd ah wl lo n td wn hn hpa hsp a b h1 h2) (cwV 2 hts gL_degreeOf_X2_degreeOf rfl rfl rfl (by decide +kernel) ⟨Nat.le_of_ble_eq_true rfl, Nat.le_of_ble_eq_true rfl⟩) hP hS hA rfl rfl rfl hl.1 rfl (Nat.le_of_ble_eq_true rfl) dL_degreeOf_5 ⟨Nat.zero_le _, Nat.zero_le _⟩ (fun H locs hP hS _ hkk => ?_)
  have hO := zkeep hO hkk hoL
  refine W.eq (g2 := F0 m9 8 ls [.int (zI (dgF pa sp n a b)), .int (zI 0), .ref o]) rfl ?_
  refine lv_i2l hx hb dL_degreeOf_8 rfl ?_
  have hPO := zapp hP hO
  refine zr_last0 hx hb hK hPO hN2 rfl hA2 hS 14 2 rfl rfl dL_degreeOf_9 (fun H locs hPO hS => ?_)
  have hPO : va_P D vwCl ((wC cI cZ q pa sp al (dgF pa sp n a) co da mb dd ah wl lo n td wn) ++ wO cJ o (vp_updL f 0 (zI (dgF pa sp n a b)).toInt64)) H := hPO
  have hP := zleft hPO
  have hO := zright hPO
  refine lv_goto (tgt := 17) hx hb dL_degreeOf_10 (by decide) ?_
  refine zr_iconst hx hb dL_degreeOf_17 ?_
  rw [hQ0]
  exact vx_ret (W.iret hx hb hr (fun t ht _ => ⟨⟨rfl, by rw [ht]; exact hP, by rw [ht]; exact hO⟩, hS.F ht⟩) hS.2.2 dL_degreeOf_18 hlocks)
set_option maxHeartbeats 4000000 in
set_option maxRecDepth 100000 in
theorem kL_degreeOfx1 (l : Launch) (D : va_G) (hl0 : l.stackTraces = false) (cI cZ cJ : ClassId) (q : Nat → Nat) (o : Nat) (hN : (zLC q).Nodup) (hN2 : (zLC q ++ [o]).Nodup) (pa : Int → Int) (sp : Int → Int) (al : Int → Int) (dg : Int → Int) (co : Int → Int) (da : Int → Int) (mb : Int → Int) (dd : Int → Int) (ah : Int → Int) (wl : Int → Int) (lo : Int → Int) (n : Nat) (td : Int) (wn : Int) (f : Nat → Int64) (hn : n ≤ 16) (a : Int) (b : Int) (h0 : -2147483648 ≤ a ∧ a ≤ 2147483647) (h1 : ¬ (0 ≤ a ∧ a < (n : Int))) : zLW l yL_degreeOf wsL_degreeOf ({ frames := 8, cells := 1, slots := 6, locals := 133 }) D [(cI, .int), (cZ, .boolean), (cJ, .long)] cJ [.ref (q 0), .int (zI a), .int (zI b), .ref o] (wC cI cZ q pa sp al dg co da mb dd ah wl lo n td wn) (wC cI cZ q pa sp al dg co da mb dd ah wl lo n td wn) o f f 1 (zLC q) 1 6 := by
  refine vx_ofWH (cc := cL_degreeOf) (maxL := 5) (ret := some .int) (hh := [(0, 10, 13, 19)]) (by decide) rfl ?_
  intro p0 e9 s9 m9 ag9 below meth c9 s₁ B hml hv
  obtain ⟨hav, hP, hO, hK, hT, hE⟩ := hv
  have hx := B.exec
  have hb := B.bytes
  have hr := B.returns
  have hts := atoms_spec (ws := wsL_degreeOf) B.pre
  have hown : s9.vm.findClass RL = some m9.cls := findClass_of_methodNamed B.named
  have hlocks := B.notSynchronized
  have hA : ∀ a ∈ zLC q, (fun a => a ∈ zLC q ++ [o]) a := fun _ h => List.mem_append_left _ h
  have hA2 : ∀ a ∈ zLC q ++ [o], (fun a => a ∈ zLC q ++ [o]) a := fun _ h => h
  have hoL : ∀ a ∈ [o], a ∉ zLC q := fun a ha h => (List.nodup_append.mp hN2).2.2 a h a ha rfl
  have htab := vx_table (x := yL_degreeOf) B (hts (.codeWith yL_degreeOf cL_degreeOf 5 (some .int) [(0, 10, 13, 19)]) (by rw [show wsL_degreeOf = _ from rfl]; exact List.mem_cons_self))
  have hl := lv_entry ([.ref (q 0), .int (zI a), .int (zI b), .ref o]) (n := 5) (Nat.le_of_ble_eq_true rfl)
  have hE0 : entryFrame m9 ag9 5 = F0 m9 0 ((lg_sl ([.ref (q 0), .int (zI a), .int (zI b), .ref o]) ++ List.replicate (5 - (lg_sl ([.ref (q 0), .int (zI a), .int (zI b), .ref o])).length) Slot.unset).toArray) [] := by rw [hav]; exact lg_entry_eq m9 _ _
  obtain ⟨Q0, hQ0⟩ : ∃ Q0, Q0 = vx_MQ below (zQL D (wC cI cZ q pa sp al dg co da mb dd ah wl lo n td wn) cJ o f 1 (zLC q)) zF ag9 s9 1 6 (fun a => a ∈ zLC q ++ [o]) := ⟨_, rfl⟩
  show W p0 l e9 ({ frames := 8, cells := 1, slots := 6, locals := 133 }) s9 m9 ag9 below meth c9 s9.heap [] 0 0 (vx_MQ below (zQL D (wC cI cZ q pa sp al dg co da mb dd ah wl lo n td wn) cJ o f 1 (zLC q)) zF ag9 s9 1 6 (fun a => a ∈ zLC q ++ [o])) _
  rw [hE0, ← hQ0]
  have hS : va_S (fun a => a ∈ zLC q ++ [o]) s9.heap s9.heap [] := va_S.rf
  generalize hH0 : s9.heap = H at hP hO ⊢
  have hS : va_S (fun a => a ∈ zLC q ++ [o]) s9.heap H [] := by rw [hH0] at hS ⊢; exact hS
  have hT : zT (fun a => a ∈ zLC q) s9 H := by rw [hH0] at hT; exact hT
  generalize (lg_sl ([.ref (q 0), .int (zI a), .int (zI b), .ref o]) ++ List.replicate (5 - (lg_sl ([.ref (q 0), .int (zI a), .int (zI b), .ref o])).length) Slot.unset).toArray = ls at hl ⊢
  have hl : lv_has ls 5 [(0, .ref (q 0)), (1, .int (zI a)), (2, .int (zI b)), (3, .ref o)] := hl
  refine lv_aload_n hx hb dL_degreeOf_0 rfl (lv_at hl 3 rfl) ?_
  refine zr_iconst hx hb dL_degreeOf_1 ?_
  refine lv_aload_n hx hb dL_degreeOf_2 rfl (lv_at hl 0 rfl) ?_
  refine lv_iload_n hx hb dL_degreeOf_3 rfl (lv_at hl 1 rfl) ?_
  refine lv_iload_n hx hb dL_degreeOf_4 rfl (lv_at hl 2 rfl) ?_
  refine zcallXV (ci := 2) (q0 := 0) (cq := (RX2, TX2, 9)) (As := [.int (zI a), .int (zI b)]) (rest := [.int (zI 0), .ref o]) ⟨hx, hb, hml, hown, hts⟩ (hK.sub (tys' := [(cI, .int), (cZ, .boolean)]) [0, 1] rfl) (kX2_degreeOfx1 l D hl0 cI cZ q hN pa sp al dg co da mb dd ah wl lo n td wn hn a b h0 h1) (cwV 2 hts gL_degreeOf_X2_degreeOf rfl rfl rfl (by decide +kernel) ⟨Nat.le_of_ble_eq_true rfl, Nat.le_of_ble_eq_true rfl⟩) hP hT hS hA rfl rfl rfl hl.1 rfl (Nat.le_of_ble_eq_true rfl) dL_degreeOf_5 ⟨Nat.le_of_ble_eq_true rfl, Nat.le_of_ble_eq_true rfl⟩ (fun ce q9 H locs hP hS _ hkk hce hcv hcl => ?_)
  have hO := zkeep hO hkk hoL
  refine vx_catch (E := "java/lang/IndexOutOfBoundsException") (name := "java/lang/IndexOutOfBoundsException") hown [] ⟨0, 10, 13, 19⟩ [] (by rw [htab]; rfl) (fun z hz => nomatch hz) (by decide) (by decide) (hts (.classLink RL 19 "java/lang/IndexOutOfBoundsException") (by decide +kernel)) (show (Cond.castable zIO zIO).before _ s9 = true from hE.1.1) hce hcv hcl ?_
  refine lv_astore (lv' := [(4, .ref q9), (0, .ref (q 0)), (1, .int (zI a)), (2, .int (zI b)), (3, .ref o)]) hx hb dL_degreeOf_13 hl (by decide) rfl (fun ls hl => ?_)
  refine zr_iconst hx hb dL_degreeOf_15 ?_
  rw [hQ0]
  exact vx_ret (W.iret hx hb hr (fun t ht _ => ⟨⟨rfl, by rw [ht]; exact hP, by rw [ht]; exact hO⟩, hS.F ht⟩) hS.2.2 dL_degreeOf_16 hlocks)
set_option maxHeartbeats 4000000 in
set_option maxRecDepth 100000 in
theorem kL_degreeOfx2 (l : Launch) (D : va_G) (hl0 : l.stackTraces = false) (cI cZ cJ : ClassId) (q : Nat → Nat) (o : Nat) (hN : (zLC q).Nodup) (hN2 : (zLC q ++ [o]).Nodup) (pa : Int → Int) (sp : Int → Int) (al : Int → Int) (dg : Int → Int) (co : Int → Int) (da : Int → Int) (mb : Int → Int) (dd : Int → Int) (ah : Int → Int) (wl : Int → Int) (lo : Int → Int) (n : Nat) (td : Int) (wn : Int) (f : Nat → Int64) (hn : n ≤ 16) (a : Int) (b : Int) (h0 : -2147483648 ≤ b ∧ b ≤ 2147483647) (h1 : 0 ≤ a ∧ a < (n : Int)) (h2 : ¬ (0 ≤ b ∧ b < (n : Int))) : zLW l yL_degreeOf wsL_degreeOf ({ frames := 8, cells := 1, slots := 6, locals := 133 }) D [(cI, .int), (cZ, .boolean), (cJ, .long)] cJ [.ref (q 0), .int (zI a), .int (zI b), .ref o] (wC cI cZ q pa sp al dg co da mb dd ah wl lo n td wn) (wC cI cZ q pa sp al dg co da mb dd ah wl lo n td wn) o f f 1 (zLC q) 1 6 := by
  refine vx_ofWH (cc := cL_degreeOf) (maxL := 5) (ret := some .int) (hh := [(0, 10, 13, 19)]) (by decide) rfl ?_
  intro p0 e9 s9 m9 ag9 below meth c9 s₁ B hml hv
  obtain ⟨hav, hP, hO, hK, hT, hE⟩ := hv
  have hx := B.exec
  have hb := B.bytes
  have hr := B.returns
  have hts := atoms_spec (ws := wsL_degreeOf) B.pre
  have hown : s9.vm.findClass RL = some m9.cls := findClass_of_methodNamed B.named
  have hlocks := B.notSynchronized
  have hA : ∀ a ∈ zLC q, (fun a => a ∈ zLC q ++ [o]) a := fun _ h => List.mem_append_left _ h
  have hA2 : ∀ a ∈ zLC q ++ [o], (fun a => a ∈ zLC q ++ [o]) a := fun _ h => h
  have hoL : ∀ a ∈ [o], a ∉ zLC q := fun a ha h => (List.nodup_append.mp hN2).2.2 a h a ha rfl
  have htab := vx_table (x := yL_degreeOf) B (hts (.codeWith yL_degreeOf cL_degreeOf 5 (some .int) [(0, 10, 13, 19)]) (by rw [show wsL_degreeOf = _ from rfl]; exact List.mem_cons_self))
  have hl := lv_entry ([.ref (q 0), .int (zI a), .int (zI b), .ref o]) (n := 5) (Nat.le_of_ble_eq_true rfl)
  have hE0 : entryFrame m9 ag9 5 = F0 m9 0 ((lg_sl ([.ref (q 0), .int (zI a), .int (zI b), .ref o]) ++ List.replicate (5 - (lg_sl ([.ref (q 0), .int (zI a), .int (zI b), .ref o])).length) Slot.unset).toArray) [] := by rw [hav]; exact lg_entry_eq m9 _ _
  obtain ⟨Q0, hQ0⟩ : ∃ Q0, Q0 = vx_MQ below (zQL D (wC cI cZ q pa sp al dg co da mb dd ah wl lo n td wn) cJ o f 1 (zLC q)) zF ag9 s9 1 6 (fun a => a ∈ zLC q ++ [o]) := ⟨_, rfl⟩
  show W p0 l e9 ({ frames := 8, cells := 1, slots := 6, locals := 133 }) s9 m9 ag9 below meth c9 s9.heap [] 0 0 (vx_MQ below (zQL D (wC cI cZ q pa sp al dg co da mb dd ah wl lo n td wn) cJ o f 1 (zLC q)) zF ag9 s9 1 6 (fun a => a ∈ zLC q ++ [o])) _
  rw [hE0, ← hQ0]
  have hS : va_S (fun a => a ∈ zLC q ++ [o]) s9.heap s9.heap [] := va_S.rf
  generalize hH0 : s9.heap = H at hP hO ⊢
  have hS : va_S (fun a => a ∈ zLC q ++ [o]) s9.heap H [] := by rw [hH0] at hS ⊢; exact hS
  have hT : zT (fun a => a ∈ zLC q) s9 H := by rw [hH0] at hT; exact hT
  generalize (lg_sl ([.ref (q 0), .int (zI a), .int (zI b), .ref o]) ++ List.replicate (5 - (lg_sl ([.ref (q 0), .int (zI a), .int (zI b), .ref o])).length) Slot.unset).toArray = ls at hl ⊢
  have hl : lv_has ls 5 [(0, .ref (q 0)), (1, .int (zI a)), (2, .int (zI b)), (3, .ref o)] := hl
  refine lv_aload_n hx hb dL_degreeOf_0 rfl (lv_at hl 3 rfl) ?_
  refine zr_iconst hx hb dL_degreeOf_1 ?_
  refine lv_aload_n hx hb dL_degreeOf_2 rfl (lv_at hl 0 rfl) ?_
  refine lv_iload_n hx hb dL_degreeOf_3 rfl (lv_at hl 1 rfl) ?_
  refine lv_iload_n hx hb dL_degreeOf_4 rfl (lv_at hl 2 rfl) ?_
  refine zcallXV (ci := 2) (q0 := 0) (cq := (RX2, TX2, 9)) (As := [.int (zI a), .int (zI b)]) (rest := [.int (zI 0), .ref o]) ⟨hx, hb, hml, hown, hts⟩ (hK.sub (tys' := [(cI, .int), (cZ, .boolean)]) [0, 1] rfl) (kX2_degreeOfx2 l D hl0 cI cZ q hN pa sp al dg co da mb dd ah wl lo n td wn hn a b h0 h1 h2) (cwV 2 hts gL_degreeOf_X2_degreeOf rfl rfl rfl (by decide +kernel) ⟨Nat.le_of_ble_eq_true rfl, Nat.le_of_ble_eq_true rfl⟩) hP hT hS hA rfl rfl rfl hl.1 rfl (Nat.le_of_ble_eq_true rfl) dL_degreeOf_5 ⟨Nat.le_of_ble_eq_true rfl, Nat.le_of_ble_eq_true rfl⟩ (fun ce q9 H locs hP hS _ hkk hce hcv hcl => ?_)
  have hO := zkeep hO hkk hoL
  refine vx_catch (E := "java/lang/IndexOutOfBoundsException") (name := "java/lang/IndexOutOfBoundsException") hown [] ⟨0, 10, 13, 19⟩ [] (by rw [htab]; rfl) (fun z hz => nomatch hz) (by decide) (by decide) (hts (.classLink RL 19 "java/lang/IndexOutOfBoundsException") (by decide +kernel)) (show (Cond.castable zIO zIO).before _ s9 = true from hE.1.1) hce hcv hcl ?_
  refine lv_astore (lv' := [(4, .ref q9), (0, .ref (q 0)), (1, .int (zI a)), (2, .int (zI b)), (3, .ref o)]) hx hb dL_degreeOf_13 hl (by decide) rfl (fun ls hl => ?_)
  refine zr_iconst hx hb dL_degreeOf_15 ?_
  rw [hQ0]
  exact vx_ret (W.iret hx hb hr (fun t ht _ => ⟨⟨rfl, by rw [ht]; exact hP, by rw [ht]; exact hO⟩, hS.F ht⟩) hS.2.2 dL_degreeOf_16 hlocks)
set_option maxHeartbeats 4000000 in
set_option maxRecDepth 100000 in
theorem kL_kinOfok (l : Launch) (D : va_G) (hl0 : l.stackTraces = false) (cI cZ cJ : ClassId) (q : Nat → Nat) (o : Nat) (hN : (zLC q).Nodup) (hN2 : (zLC q ++ [o]).Nodup) (pa : Int → Int) (sp : Int → Int) (al : Int → Int) (dg : Int → Int) (co : Int → Int) (da : Int → Int) (mb : Int → Int) (dd : Int → Int) (ah : Int → Int) (wl : Int → Int) (lo : Int → Int) (n : Nat) (td : Int) (wn : Int) (f : Nat → Int64) (hn : n ≤ 16) (hpa : ∀ j : Int, -1 ≤ pa j ∧ pa j ≤ 15) (hsp : ∀ j : Int, -1 ≤ sp j ∧ sp j ≤ 15) (hal : ∀ j : Int, 0 ≤ al j ∧ al j ≤ 1) (p : Int) (g : Int) (h1 : 0 ≤ p ∧ p < (n : Int)) (h2 : 1 ≤ g ∧ g ≤ 4) : zLW l yL_kinOf wsL_kinOf ({ frames := 8, cells := 0, slots := 0, locals := 133 }) D [(cI, .int), (cZ, .boolean), (cJ, .long)] cJ [.ref (q 0), .int (zI p), .int (zI g), .ref o] (wC cI cZ q pa sp al dg co da mb dd ah wl lo n td wn) (wC cI cZ q pa sp al (dgF pa sp n p) co da mb dd ah wl lo n td wn) o f (vp_updL f 0 (zI (smF (kinF al (dgF pa sp n p) g) n)).toInt64) 0 (zLC q) 0 0 := by
  refine vx_ofWH (cc := cL_kinOf) (maxL := 5) (ret := some .int) (hh := [(0, 10, 13, 19)]) (by decide) rfl ?_
  intro p0 e9 s9 m9 ag9 below meth c9 s₁ B hml hv
  obtain ⟨hav, hP, hO, hK, hT, hE⟩ := hv
  have hx := B.exec
  have hb := B.bytes
  have hr := B.returns
  have hts := atoms_spec (ws := wsL_kinOf) B.pre
  have hown : s9.vm.findClass RL = some m9.cls := findClass_of_methodNamed B.named
  have hlocks := B.notSynchronized
  have hA : ∀ a ∈ zLC q, (fun a => a ∈ zLC q ++ [o]) a := fun _ h => List.mem_append_left _ h
  have hA2 : ∀ a ∈ zLC q ++ [o], (fun a => a ∈ zLC q ++ [o]) a := fun _ h => h
  have hoL : ∀ a ∈ [o], a ∉ zLC q := fun a ha h => (List.nodup_append.mp hN2).2.2 a h a ha rfl
  have hl := lv_entry ([.ref (q 0), .int (zI p), .int (zI g), .ref o]) (n := 5) (Nat.le_of_ble_eq_true rfl)
  have hE0 : entryFrame m9 ag9 5 = F0 m9 0 ((lg_sl ([.ref (q 0), .int (zI p), .int (zI g), .ref o]) ++ List.replicate (5 - (lg_sl ([.ref (q 0), .int (zI p), .int (zI g), .ref o])).length) Slot.unset).toArray) [] := by rw [hav]; exact lg_entry_eq m9 _ _
  obtain ⟨Q0, hQ0⟩ : ∃ Q0, Q0 = vx_MQ below (zQL D (wC cI cZ q pa sp al (dgF pa sp n p) co da mb dd ah wl lo n td wn) cJ o (vp_updL f 0 (zI (smF (kinF al (dgF pa sp n p) g) n)).toInt64) 0 (zLC q)) zF ag9 s9 0 0 (fun a => a ∈ zLC q ++ [o]) := ⟨_, rfl⟩
  show W p0 l e9 ({ frames := 8, cells := 0, slots := 0, locals := 133 }) s9 m9 ag9 below meth c9 s9.heap [] 0 0 (vx_MQ below (zQL D (wC cI cZ q pa sp al (dgF pa sp n p) co da mb dd ah wl lo n td wn) cJ o (vp_updL f 0 (zI (smF (kinF al (dgF pa sp n p) g) n)).toInt64) 0 (zLC q)) zF ag9 s9 0 0 (fun a => a ∈ zLC q ++ [o])) _
  rw [hE0, ← hQ0]
  have hS : va_S (fun a => a ∈ zLC q ++ [o]) s9.heap s9.heap [] := va_S.rf
  generalize hH0 : s9.heap = H at hP hO ⊢
  have hS : va_S (fun a => a ∈ zLC q ++ [o]) s9.heap H [] := by rw [hH0] at hS ⊢; exact hS
  have hT : zT (fun a => a ∈ zLC q) s9 H := by rw [hH0] at hT; exact hT
  generalize (lg_sl ([.ref (q 0), .int (zI p), .int (zI g), .ref o]) ++ List.replicate (5 - (lg_sl ([.ref (q 0), .int (zI p), .int (zI g), .ref o])).length) Slot.unset).toArray = ls at hl ⊢
  have hl : lv_has ls 5 [(0, .ref (q 0)), (1, .int (zI p)), (2, .int (zI g)), (3, .ref o)] := hl
  refine lv_aload_n hx hb dL_kinOf_0 rfl (lv_at hl 3 rfl) ?_
  refine zr_iconst hx hb dL_kinOf_1 ?_
  refine lv_aload_n hx hb dL_kinOf_2 rfl (lv_at hl 0 rfl) ?_
  refine lv_iload_n hx hb dL_kinOf_3 rfl (lv_at hl 1 rfl) ?_
  refine lv_iload_n hx hb dL_kinOf_4 rfl (lv_at hl 2 rfl) ?_
  refine zcallV (ci := 2) (q0 := 0) (cq := (RX2, TX2, 9)) (As := [.int (zI p), .int (zI g)]) (rest := [.int (zI 0), .ref o]) ⟨hx, hb, hml, hown, hts⟩ (hK.sub (tys' := [(cI, .int), (cZ, .boolean)]) [0, 1] rfl) (kX2_kinOfok l D cI cZ q hN pa sp al dg co da mb dd ah wl lo n td wn hn hpa hsp hal p g h1 h2) (cwV 2 hts gL_kinOf_X2_kinOf rfl rfl rfl (by decide +kernel) ⟨Nat.le_of_ble_eq_true rfl, Nat.le_of_ble_eq_true rfl⟩) hP hS hA rfl rfl rfl hl.1 rfl (Nat.le_of_ble_eq_true rfl) dL_kinOf_5 ⟨Nat.zero_le _, Nat.zero_le _⟩ (fun H locs hP hS _ hkk => ?_)
  have hO := zkeep hO hkk hoL
  refine W.eq (g2 := F0 m9 8 ls [.int (zI (smF (kinF al (dgF pa sp n p) g) n)), .int (zI 0), .ref o]) rfl ?_
  refine lv_i2l hx hb dL_kinOf_8 rfl ?_
  have hPO := zapp hP hO
  refine zr_last0 hx hb hK hPO hN2 rfl hA2 hS 14 2 rfl rfl dL_kinOf_9 (fun H locs hPO hS => ?_)
  have hPO : va_P D vwCl ((wC cI cZ q pa sp al (dgF pa sp n p) co da mb dd ah wl lo n td wn) ++ wO cJ o (vp_updL f 0 (zI (smF (kinF al (dgF pa sp n p) g) n)).toInt64)) H := hPO
  have hP := zleft hPO
  have hO := zright hPO
  refine lv_goto (tgt := 17) hx hb dL_kinOf_10 (by decide) ?_
  refine zr_iconst hx hb dL_kinOf_17 ?_
  rw [hQ0]
  exact vx_ret (W.iret hx hb hr (fun t ht _ => ⟨⟨rfl, by rw [ht]; exact hP, by rw [ht]; exact hO⟩, hS.F ht⟩) hS.2.2 dL_kinOf_18 hlocks)
set_option maxHeartbeats 4000000 in
set_option maxRecDepth 100000 in
theorem kL_kinOfx1 (l : Launch) (D : va_G) (hl0 : l.stackTraces = false) (cI cZ cJ : ClassId) (q : Nat → Nat) (o : Nat) (hN : (zLC q).Nodup) (hN2 : (zLC q ++ [o]).Nodup) (pa : Int → Int) (sp : Int → Int) (al : Int → Int) (dg : Int → Int) (co : Int → Int) (da : Int → Int) (mb : Int → Int) (dd : Int → Int) (ah : Int → Int) (wl : Int → Int) (lo : Int → Int) (n : Nat) (td : Int) (wn : Int) (f : Nat → Int64) (hn : n ≤ 16) (p : Int) (g : Int) (h0 : -2147483648 ≤ p ∧ p ≤ 2147483647) (h1 : ¬ (0 ≤ p ∧ p < (n : Int))) : zLW l yL_kinOf wsL_kinOf ({ frames := 8, cells := 1, slots := 6, locals := 133 }) D [(cI, .int), (cZ, .boolean), (cJ, .long)] cJ [.ref (q 0), .int (zI p), .int (zI g), .ref o] (wC cI cZ q pa sp al dg co da mb dd ah wl lo n td wn) (wC cI cZ q pa sp al dg co da mb dd ah wl lo n td wn) o f f 1 (zLC q) 1 6 := by
  refine vx_ofWH (cc := cL_kinOf) (maxL := 5) (ret := some .int) (hh := [(0, 10, 13, 19)]) (by decide) rfl ?_
  intro p0 e9 s9 m9 ag9 below meth c9 s₁ B hml hv
  obtain ⟨hav, hP, hO, hK, hT, hE⟩ := hv
  have hx := B.exec
  have hb := B.bytes
  have hr := B.returns
  have hts := atoms_spec (ws := wsL_kinOf) B.pre
  have hown : s9.vm.findClass RL = some m9.cls := findClass_of_methodNamed B.named
  have hlocks := B.notSynchronized
  have hA : ∀ a ∈ zLC q, (fun a => a ∈ zLC q ++ [o]) a := fun _ h => List.mem_append_left _ h
  have hA2 : ∀ a ∈ zLC q ++ [o], (fun a => a ∈ zLC q ++ [o]) a := fun _ h => h
  have hoL : ∀ a ∈ [o], a ∉ zLC q := fun a ha h => (List.nodup_append.mp hN2).2.2 a h a ha rfl
  have htab := vx_table (x := yL_kinOf) B (hts (.codeWith yL_kinOf cL_kinOf 5 (some .int) [(0, 10, 13, 19)]) (by rw [show wsL_kinOf = _ from rfl]; exact List.mem_cons_self))
  have hl := lv_entry ([.ref (q 0), .int (zI p), .int (zI g), .ref o]) (n := 5) (Nat.le_of_ble_eq_true rfl)
  have hE0 : entryFrame m9 ag9 5 = F0 m9 0 ((lg_sl ([.ref (q 0), .int (zI p), .int (zI g), .ref o]) ++ List.replicate (5 - (lg_sl ([.ref (q 0), .int (zI p), .int (zI g), .ref o])).length) Slot.unset).toArray) [] := by rw [hav]; exact lg_entry_eq m9 _ _
  obtain ⟨Q0, hQ0⟩ : ∃ Q0, Q0 = vx_MQ below (zQL D (wC cI cZ q pa sp al dg co da mb dd ah wl lo n td wn) cJ o f 1 (zLC q)) zF ag9 s9 1 6 (fun a => a ∈ zLC q ++ [o]) := ⟨_, rfl⟩
  show W p0 l e9 ({ frames := 8, cells := 1, slots := 6, locals := 133 }) s9 m9 ag9 below meth c9 s9.heap [] 0 0 (vx_MQ below (zQL D (wC cI cZ q pa sp al dg co da mb dd ah wl lo n td wn) cJ o f 1 (zLC q)) zF ag9 s9 1 6 (fun a => a ∈ zLC q ++ [o])) _
  rw [hE0, ← hQ0]
  have hS : va_S (fun a => a ∈ zLC q ++ [o]) s9.heap s9.heap [] := va_S.rf
  generalize hH0 : s9.heap = H at hP hO ⊢
  have hS : va_S (fun a => a ∈ zLC q ++ [o]) s9.heap H [] := by rw [hH0] at hS ⊢; exact hS
  have hT : zT (fun a => a ∈ zLC q) s9 H := by rw [hH0] at hT; exact hT
  generalize (lg_sl ([.ref (q 0), .int (zI p), .int (zI g), .ref o]) ++ List.replicate (5 - (lg_sl ([.ref (q 0), .int (zI p), .int (zI g), .ref o])).length) Slot.unset).toArray = ls at hl ⊢
  have hl : lv_has ls 5 [(0, .ref (q 0)), (1, .int (zI p)), (2, .int (zI g)), (3, .ref o)] := hl
  refine lv_aload_n hx hb dL_kinOf_0 rfl (lv_at hl 3 rfl) ?_
  refine zr_iconst hx hb dL_kinOf_1 ?_
  refine lv_aload_n hx hb dL_kinOf_2 rfl (lv_at hl 0 rfl) ?_
  refine lv_iload_n hx hb dL_kinOf_3 rfl (lv_at hl 1 rfl) ?_
  refine lv_iload_n hx hb dL_kinOf_4 rfl (lv_at hl 2 rfl) ?_
  refine zcallXV (ci := 2) (q0 := 0) (cq := (RX2, TX2, 9)) (As := [.int (zI p), .int (zI g)]) (rest := [.int (zI 0), .ref o]) ⟨hx, hb, hml, hown, hts⟩ (hK.sub (tys' := [(cI, .int), (cZ, .boolean)]) [0, 1] rfl) (kX2_kinOfx1 l D hl0 cI cZ q hN pa sp al dg co da mb dd ah wl lo n td wn hn p g h0 h1) (cwV 2 hts gL_kinOf_X2_kinOf rfl rfl rfl (by decide +kernel) ⟨Nat.le_of_ble_eq_true rfl, Nat.le_of_ble_eq_true rfl⟩) hP hT hS hA rfl rfl rfl hl.1 rfl (Nat.le_of_ble_eq_true rfl) dL_kinOf_5 ⟨Nat.le_of_ble_eq_true rfl, Nat.le_of_ble_eq_true rfl⟩ (fun ce q9 H locs hP hS _ hkk hce hcv hcl => ?_)
  have hO := zkeep hO hkk hoL
  refine vx_catch (E := "java/lang/IndexOutOfBoundsException") (name := "java/lang/IndexOutOfBoundsException") hown [] ⟨0, 10, 13, 19⟩ [] (by rw [htab]; rfl) (fun z hz => nomatch hz) (by decide) (by decide) (hts (.classLink RL 19 "java/lang/IndexOutOfBoundsException") (by decide +kernel)) (show (Cond.castable zIO zIO).before _ s9 = true from hE.1.1) hce hcv hcl ?_
  refine lv_astore (lv' := [(4, .ref q9), (0, .ref (q 0)), (1, .int (zI p)), (2, .int (zI g)), (3, .ref o)]) hx hb dL_kinOf_13 hl (by decide) rfl (fun ls hl => ?_)
  refine zr_iconst hx hb dL_kinOf_15 ?_
  rw [hQ0]
  exact vx_ret (W.iret hx hb hr (fun t ht _ => ⟨⟨rfl, by rw [ht]; exact hP, by rw [ht]; exact hO⟩, hS.F ht⟩) hS.2.2 dL_kinOf_16 hlocks)
set_option maxHeartbeats 4000000 in
set_option maxRecDepth 100000 in
theorem kL_kinOfx2 (l : Launch) (D : va_G) (hl0 : l.stackTraces = false) (cI cZ cJ : ClassId) (q : Nat → Nat) (o : Nat) (hN : (zLC q).Nodup) (hN2 : (zLC q ++ [o]).Nodup) (pa : Int → Int) (sp : Int → Int) (al : Int → Int) (dg : Int → Int) (co : Int → Int) (da : Int → Int) (mb : Int → Int) (dd : Int → Int) (ah : Int → Int) (wl : Int → Int) (lo : Int → Int) (n : Nat) (td : Int) (wn : Int) (f : Nat → Int64) (hn : n ≤ 16) (p : Int) (g : Int) (h0 : -2147483648 ≤ g ∧ g ≤ 2147483647) (h1 : 0 ≤ p ∧ p < (n : Int)) (h2 : ¬ (1 ≤ g ∧ g ≤ 4)) : zLW l yL_kinOf wsL_kinOf ({ frames := 8, cells := 1, slots := 6, locals := 133 }) D [(cI, .int), (cZ, .boolean), (cJ, .long)] cJ [.ref (q 0), .int (zI p), .int (zI g), .ref o] (wC cI cZ q pa sp al dg co da mb dd ah wl lo n td wn) (wC cI cZ q pa sp al dg co da mb dd ah wl lo n td wn) o f f 1 (zLC q) 1 6 := by
  refine vx_ofWH (cc := cL_kinOf) (maxL := 5) (ret := some .int) (hh := [(0, 10, 13, 19)]) (by decide) rfl ?_
  intro p0 e9 s9 m9 ag9 below meth c9 s₁ B hml hv
  obtain ⟨hav, hP, hO, hK, hT, hE⟩ := hv
  have hx := B.exec
  have hb := B.bytes
  have hr := B.returns
  have hts := atoms_spec (ws := wsL_kinOf) B.pre
  have hown : s9.vm.findClass RL = some m9.cls := findClass_of_methodNamed B.named
  have hlocks := B.notSynchronized
  have hA : ∀ a ∈ zLC q, (fun a => a ∈ zLC q ++ [o]) a := fun _ h => List.mem_append_left _ h
  have hA2 : ∀ a ∈ zLC q ++ [o], (fun a => a ∈ zLC q ++ [o]) a := fun _ h => h
  have hoL : ∀ a ∈ [o], a ∉ zLC q := fun a ha h => (List.nodup_append.mp hN2).2.2 a h a ha rfl
  have htab := vx_table (x := yL_kinOf) B (hts (.codeWith yL_kinOf cL_kinOf 5 (some .int) [(0, 10, 13, 19)]) (by rw [show wsL_kinOf = _ from rfl]; exact List.mem_cons_self))
  have hl := lv_entry ([.ref (q 0), .int (zI p), .int (zI g), .ref o]) (n := 5) (Nat.le_of_ble_eq_true rfl)
  have hE0 : entryFrame m9 ag9 5 = F0 m9 0 ((lg_sl ([.ref (q 0), .int (zI p), .int (zI g), .ref o]) ++ List.replicate (5 - (lg_sl ([.ref (q 0), .int (zI p), .int (zI g), .ref o])).length) Slot.unset).toArray) [] := by rw [hav]; exact lg_entry_eq m9 _ _
  obtain ⟨Q0, hQ0⟩ : ∃ Q0, Q0 = vx_MQ below (zQL D (wC cI cZ q pa sp al dg co da mb dd ah wl lo n td wn) cJ o f 1 (zLC q)) zF ag9 s9 1 6 (fun a => a ∈ zLC q ++ [o]) := ⟨_, rfl⟩
  show W p0 l e9 ({ frames := 8, cells := 1, slots := 6, locals := 133 }) s9 m9 ag9 below meth c9 s9.heap [] 0 0 (vx_MQ below (zQL D (wC cI cZ q pa sp al dg co da mb dd ah wl lo n td wn) cJ o f 1 (zLC q)) zF ag9 s9 1 6 (fun a => a ∈ zLC q ++ [o])) _
  rw [hE0, ← hQ0]
  have hS : va_S (fun a => a ∈ zLC q ++ [o]) s9.heap s9.heap [] := va_S.rf
  generalize hH0 : s9.heap = H at hP hO ⊢
  have hS : va_S (fun a => a ∈ zLC q ++ [o]) s9.heap H [] := by rw [hH0] at hS ⊢; exact hS
  have hT : zT (fun a => a ∈ zLC q) s9 H := by rw [hH0] at hT; exact hT
  generalize (lg_sl ([.ref (q 0), .int (zI p), .int (zI g), .ref o]) ++ List.replicate (5 - (lg_sl ([.ref (q 0), .int (zI p), .int (zI g), .ref o])).length) Slot.unset).toArray = ls at hl ⊢
  have hl : lv_has ls 5 [(0, .ref (q 0)), (1, .int (zI p)), (2, .int (zI g)), (3, .ref o)] := hl
  refine lv_aload_n hx hb dL_kinOf_0 rfl (lv_at hl 3 rfl) ?_
  refine zr_iconst hx hb dL_kinOf_1 ?_
  refine lv_aload_n hx hb dL_kinOf_2 rfl (lv_at hl 0 rfl) ?_
  refine lv_iload_n hx hb dL_kinOf_3 rfl (lv_at hl 1 rfl) ?_
  refine lv_iload_n hx hb dL_kinOf_4 rfl (lv_at hl 2 rfl) ?_
  refine zcallXV (ci := 2) (q0 := 0) (cq := (RX2, TX2, 9)) (As := [.int (zI p), .int (zI g)]) (rest := [.int (zI 0), .ref o]) ⟨hx, hb, hml, hown, hts⟩ (hK.sub (tys' := [(cI, .int), (cZ, .boolean)]) [0, 1] rfl) (kX2_kinOfx2 l D hl0 cI cZ q hN pa sp al dg co da mb dd ah wl lo n td wn hn p g h0 h1 h2) (cwV 2 hts gL_kinOf_X2_kinOf rfl rfl rfl (by decide +kernel) ⟨Nat.le_of_ble_eq_true rfl, Nat.le_of_ble_eq_true rfl⟩) hP hT hS hA rfl rfl rfl hl.1 rfl (Nat.le_of_ble_eq_true rfl) dL_kinOf_5 ⟨Nat.le_of_ble_eq_true rfl, Nat.le_of_ble_eq_true rfl⟩ (fun ce q9 H locs hP hS _ hkk hce hcv hcl => ?_)
  have hO := zkeep hO hkk hoL
  refine vx_catch (E := "java/lang/IndexOutOfBoundsException") (name := "java/lang/IndexOutOfBoundsException") hown [] ⟨0, 10, 13, 19⟩ [] (by rw [htab]; rfl) (fun z hz => nomatch hz) (by decide) (by decide) (hts (.classLink RL 19 "java/lang/IndexOutOfBoundsException") (by decide +kernel)) (show (Cond.castable zIO zIO).before _ s9 = true from hE.1.1) hce hcv hcl ?_
  refine lv_astore (lv' := [(4, .ref q9), (0, .ref (q 0)), (1, .int (zI p)), (2, .int (zI g)), (3, .ref o)]) hx hb dL_kinOf_13 hl (by decide) rfl (fun ls hl => ?_)
  refine zr_iconst hx hb dL_kinOf_15 ?_
  rw [hQ0]
  exact vx_ret (W.iret hx hb hr (fun t ht _ => ⟨⟨rfl, by rw [ht]; exact hP, by rw [ht]; exact hO⟩, hS.F ht⟩) hS.2.2 dL_kinOf_16 hlocks)
set_option maxHeartbeats 4000000 in
set_option maxRecDepth 100000 in
theorem kL_stageColourok (l : Launch) (D : va_G) (hl0 : l.stackTraces = false) (cI cZ cJ : ClassId) (q : Nat → Nat) (o : Nat) (hN : (zLC q).Nodup) (hN2 : (zLC q ++ [o]).Nodup) (pa : Int → Int) (sp : Int → Int) (al : Int → Int) (dg : Int → Int) (co : Int → Int) (da : Int → Int) (mb : Int → Int) (dd : Int → Int) (ah : Int → Int) (wl : Int → Int) (lo : Int → Int) (n : Nat) (td : Int) (wn : Int) (f : Nat → Int64) (hco : ∀ j : Int, 0 ≤ co j ∧ co j ≤ 5) (g : Int) (s : Int) (h1 : 1 ≤ g ∧ g ≤ 4) (h2 : 0 ≤ s ∧ s ≤ 2) : zLW l yL_stageColour wsL_stageColour ({ frames := 9, cells := 0, slots := 0, locals := 155 }) D [(cI, .int), (cZ, .boolean), (cJ, .long)] cJ [.ref (q 0), .int (zI g), .int (zI s), .ref o] (wC cI cZ q pa sp al dg co da mb dd ah wl lo n td wn) (wC cI cZ q pa sp al dg co da mb dd ah wl lo n td wn) o f (vp_updL f 0 (zI (co (16 * 12 + (g - 1) * 3 + s))).toInt64) 0 (zLC q) 0 0 := by
  refine vx_ofWH (cc := cL_stageColour) (maxL := 5) (ret := some .int) (hh := [(0, 10, 13, 19)]) (by decide) rfl ?_
  intro p0 e9 s9 m9 ag9 below meth c9 s₁ B hml hv
  obtain ⟨hav, hP, hO, hK, hT, hE⟩ := hv
  have hx := B.exec
  have hb := B.bytes
  have hr := B.returns
  have hts := atoms_spec (ws := wsL_stageColour) B.pre
  have hown : s9.vm.findClass RL = some m9.cls := findClass_of_methodNamed B.named
  have hlocks := B.notSynchronized
  have hA : ∀ a ∈ zLC q, (fun a => a ∈ zLC q ++ [o]) a := fun _ h => List.mem_append_left _ h
  have hA2 : ∀ a ∈ zLC q ++ [o], (fun a => a ∈ zLC q ++ [o]) a := fun _ h => h
  have hoL : ∀ a ∈ [o], a ∉ zLC q := fun a ha h => (List.nodup_append.mp hN2).2.2 a h a ha rfl
  have hl := lv_entry ([.ref (q 0), .int (zI g), .int (zI s), .ref o]) (n := 5) (Nat.le_of_ble_eq_true rfl)
  have hE0 : entryFrame m9 ag9 5 = F0 m9 0 ((lg_sl ([.ref (q 0), .int (zI g), .int (zI s), .ref o]) ++ List.replicate (5 - (lg_sl ([.ref (q 0), .int (zI g), .int (zI s), .ref o])).length) Slot.unset).toArray) [] := by rw [hav]; exact lg_entry_eq m9 _ _
  obtain ⟨Q0, hQ0⟩ : ∃ Q0, Q0 = vx_MQ below (zQL D (wC cI cZ q pa sp al dg co da mb dd ah wl lo n td wn) cJ o (vp_updL f 0 (zI (co (16 * 12 + (g - 1) * 3 + s))).toInt64) 0 (zLC q)) zF ag9 s9 0 0 (fun a => a ∈ zLC q ++ [o]) := ⟨_, rfl⟩
  show W p0 l e9 ({ frames := 9, cells := 0, slots := 0, locals := 155 }) s9 m9 ag9 below meth c9 s9.heap [] 0 0 (vx_MQ below (zQL D (wC cI cZ q pa sp al dg co da mb dd ah wl lo n td wn) cJ o (vp_updL f 0 (zI (co (16 * 12 + (g - 1) * 3 + s))).toInt64) 0 (zLC q)) zF ag9 s9 0 0 (fun a => a ∈ zLC q ++ [o])) _
  rw [hE0, ← hQ0]
  have hS : va_S (fun a => a ∈ zLC q ++ [o]) s9.heap s9.heap [] := va_S.rf
  generalize hH0 : s9.heap = H at hP hO ⊢
  have hS : va_S (fun a => a ∈ zLC q ++ [o]) s9.heap H [] := by rw [hH0] at hS ⊢; exact hS
  have hT : zT (fun a => a ∈ zLC q) s9 H := by rw [hH0] at hT; exact hT
  generalize (lg_sl ([.ref (q 0), .int (zI g), .int (zI s), .ref o]) ++ List.replicate (5 - (lg_sl ([.ref (q 0), .int (zI g), .int (zI s), .ref o])).length) Slot.unset).toArray = ls at hl ⊢
  have hl : lv_has ls 5 [(0, .ref (q 0)), (1, .int (zI g)), (2, .int (zI s)), (3, .ref o)] := hl
  refine lv_aload_n hx hb dL_stageColour_0 rfl (lv_at hl 3 rfl) ?_
  refine zr_iconst hx hb dL_stageColour_1 ?_
  refine lv_aload_n hx hb dL_stageColour_2 rfl (lv_at hl 0 rfl) ?_
  refine lv_iload_n hx hb dL_stageColour_3 rfl (lv_at hl 1 rfl) ?_
  refine lv_iload_n hx hb dL_stageColour_4 rfl (lv_at hl 2 rfl) ?_
  refine zcallV (ci := 2) (q0 := 0) (cq := (RX2, TX2, 9)) (As := [.int (zI g), .int (zI s)]) (rest := [.int (zI 0), .ref o]) ⟨hx, hb, hml, hown, hts⟩ (hK.sub (tys' := [(cI, .int), (cZ, .boolean)]) [0, 1] rfl) (kX2_stageColourok l D cI cZ q hN pa sp al dg co da mb dd ah wl lo n td wn hco g s h1 h2) (cwV 2 hts gL_stageColour_X2_stageColour rfl rfl rfl (by decide +kernel) ⟨Nat.le_of_ble_eq_true rfl, Nat.le_of_ble_eq_true rfl⟩) hP hS hA rfl rfl rfl hl.1 rfl (Nat.le_of_ble_eq_true rfl) dL_stageColour_5 ⟨Nat.zero_le _, Nat.zero_le _⟩ (fun H locs hP hS _ hkk => ?_)
  have hO := zkeep hO hkk hoL
  refine W.eq (g2 := F0 m9 8 ls [.int (zI (co (16 * 12 + (g - 1) * 3 + s))), .int (zI 0), .ref o]) rfl ?_
  refine lv_i2l hx hb dL_stageColour_8 rfl ?_
  have hPO := zapp hP hO
  refine zr_last0 hx hb hK hPO hN2 rfl hA2 hS 14 2 rfl rfl dL_stageColour_9 (fun H locs hPO hS => ?_)
  have hPO : va_P D vwCl ((wC cI cZ q pa sp al dg co da mb dd ah wl lo n td wn) ++ wO cJ o (vp_updL f 0 (zI (co (16 * 12 + (g - 1) * 3 + s))).toInt64)) H := hPO
  have hP := zleft hPO
  have hO := zright hPO
  refine lv_goto (tgt := 17) hx hb dL_stageColour_10 (by decide) ?_
  refine zr_iconst hx hb dL_stageColour_17 ?_
  rw [hQ0]
  exact vx_ret (W.iret hx hb hr (fun t ht _ => ⟨⟨rfl, by rw [ht]; exact hP, by rw [ht]; exact hO⟩, hS.F ht⟩) hS.2.2 dL_stageColour_18 hlocks)
set_option maxHeartbeats 4000000 in
set_option maxRecDepth 100000 in
theorem kL_stageColourx1 (l : Launch) (D : va_G) (hl0 : l.stackTraces = false) (cI cZ cJ : ClassId) (q : Nat → Nat) (o : Nat) (hN : (zLC q).Nodup) (hN2 : (zLC q ++ [o]).Nodup) (pa : Int → Int) (sp : Int → Int) (al : Int → Int) (dg : Int → Int) (co : Int → Int) (da : Int → Int) (mb : Int → Int) (dd : Int → Int) (ah : Int → Int) (wl : Int → Int) (lo : Int → Int) (n : Nat) (td : Int) (wn : Int) (f : Nat → Int64) (g : Int) (s : Int) (h0 : -2147483648 ≤ g ∧ g ≤ 2147483647) (h1 : ¬ (1 ≤ g ∧ g ≤ 4)) : zLW l yL_stageColour wsL_stageColour ({ frames := 9, cells := 1, slots := 6, locals := 155 }) D [(cI, .int), (cZ, .boolean), (cJ, .long)] cJ [.ref (q 0), .int (zI g), .int (zI s), .ref o] (wC cI cZ q pa sp al dg co da mb dd ah wl lo n td wn) (wC cI cZ q pa sp al dg co da mb dd ah wl lo n td wn) o f f 1 (zLC q) 1 6 := by
  refine vx_ofWH (cc := cL_stageColour) (maxL := 5) (ret := some .int) (hh := [(0, 10, 13, 19)]) (by decide) rfl ?_
  intro p0 e9 s9 m9 ag9 below meth c9 s₁ B hml hv
  obtain ⟨hav, hP, hO, hK, hT, hE⟩ := hv
  have hx := B.exec
  have hb := B.bytes
  have hr := B.returns
  have hts := atoms_spec (ws := wsL_stageColour) B.pre
  have hown : s9.vm.findClass RL = some m9.cls := findClass_of_methodNamed B.named
  have hlocks := B.notSynchronized
  have hA : ∀ a ∈ zLC q, (fun a => a ∈ zLC q ++ [o]) a := fun _ h => List.mem_append_left _ h
  have hA2 : ∀ a ∈ zLC q ++ [o], (fun a => a ∈ zLC q ++ [o]) a := fun _ h => h
  have hoL : ∀ a ∈ [o], a ∉ zLC q := fun a ha h => (List.nodup_append.mp hN2).2.2 a h a ha rfl
  have htab := vx_table (x := yL_stageColour) B (hts (.codeWith yL_stageColour cL_stageColour 5 (some .int) [(0, 10, 13, 19)]) (by rw [show wsL_stageColour = _ from rfl]; exact List.mem_cons_self))
  have hl := lv_entry ([.ref (q 0), .int (zI g), .int (zI s), .ref o]) (n := 5) (Nat.le_of_ble_eq_true rfl)
  have hE0 : entryFrame m9 ag9 5 = F0 m9 0 ((lg_sl ([.ref (q 0), .int (zI g), .int (zI s), .ref o]) ++ List.replicate (5 - (lg_sl ([.ref (q 0), .int (zI g), .int (zI s), .ref o])).length) Slot.unset).toArray) [] := by rw [hav]; exact lg_entry_eq m9 _ _
  obtain ⟨Q0, hQ0⟩ : ∃ Q0, Q0 = vx_MQ below (zQL D (wC cI cZ q pa sp al dg co da mb dd ah wl lo n td wn) cJ o f 1 (zLC q)) zF ag9 s9 1 6 (fun a => a ∈ zLC q ++ [o]) := ⟨_, rfl⟩
  show W p0 l e9 ({ frames := 9, cells := 1, slots := 6, locals := 155 }) s9 m9 ag9 below meth c9 s9.heap [] 0 0 (vx_MQ below (zQL D (wC cI cZ q pa sp al dg co da mb dd ah wl lo n td wn) cJ o f 1 (zLC q)) zF ag9 s9 1 6 (fun a => a ∈ zLC q ++ [o])) _
  rw [hE0, ← hQ0]
  have hS : va_S (fun a => a ∈ zLC q ++ [o]) s9.heap s9.heap [] := va_S.rf
  generalize hH0 : s9.heap = H at hP hO ⊢
  have hS : va_S (fun a => a ∈ zLC q ++ [o]) s9.heap H [] := by rw [hH0] at hS ⊢; exact hS
  have hT : zT (fun a => a ∈ zLC q) s9 H := by rw [hH0] at hT; exact hT
  generalize (lg_sl ([.ref (q 0), .int (zI g), .int (zI s), .ref o]) ++ List.replicate (5 - (lg_sl ([.ref (q 0), .int (zI g), .int (zI s), .ref o])).length) Slot.unset).toArray = ls at hl ⊢
  have hl : lv_has ls 5 [(0, .ref (q 0)), (1, .int (zI g)), (2, .int (zI s)), (3, .ref o)] := hl
  refine lv_aload_n hx hb dL_stageColour_0 rfl (lv_at hl 3 rfl) ?_
  refine zr_iconst hx hb dL_stageColour_1 ?_
  refine lv_aload_n hx hb dL_stageColour_2 rfl (lv_at hl 0 rfl) ?_
  refine lv_iload_n hx hb dL_stageColour_3 rfl (lv_at hl 1 rfl) ?_
  refine lv_iload_n hx hb dL_stageColour_4 rfl (lv_at hl 2 rfl) ?_
  refine zcallXV (ci := 2) (q0 := 0) (cq := (RX2, TX2, 9)) (As := [.int (zI g), .int (zI s)]) (rest := [.int (zI 0), .ref o]) ⟨hx, hb, hml, hown, hts⟩ (hK.sub (tys' := [(cI, .int), (cZ, .boolean)]) [0, 1] rfl) (kX2_stageColourx1 l D hl0 cI cZ q hN pa sp al dg co da mb dd ah wl lo n td wn g s h0 h1) (cwV 2 hts gL_stageColour_X2_stageColour rfl rfl rfl (by decide +kernel) ⟨Nat.le_of_ble_eq_true rfl, Nat.le_of_ble_eq_true rfl⟩) hP hT hS hA rfl rfl rfl hl.1 rfl (Nat.le_of_ble_eq_true rfl) dL_stageColour_5 ⟨Nat.le_of_ble_eq_true rfl, Nat.le_of_ble_eq_true rfl⟩ (fun ce q9 H locs hP hS _ hkk hce hcv hcl => ?_)
  have hO := zkeep hO hkk hoL
  refine vx_catch (E := "java/lang/IndexOutOfBoundsException") (name := "java/lang/IndexOutOfBoundsException") hown [] ⟨0, 10, 13, 19⟩ [] (by rw [htab]; rfl) (fun z hz => nomatch hz) (by decide) (by decide) (hts (.classLink RL 19 "java/lang/IndexOutOfBoundsException") (by decide +kernel)) (show (Cond.castable zIO zIO).before _ s9 = true from hE.1.1) hce hcv hcl ?_
  refine lv_astore (lv' := [(4, .ref q9), (0, .ref (q 0)), (1, .int (zI g)), (2, .int (zI s)), (3, .ref o)]) hx hb dL_stageColour_13 hl (by decide) rfl (fun ls hl => ?_)
  refine zr_iconst hx hb dL_stageColour_15 ?_
  rw [hQ0]
  exact vx_ret (W.iret hx hb hr (fun t ht _ => ⟨⟨rfl, by rw [ht]; exact hP, by rw [ht]; exact hO⟩, hS.F ht⟩) hS.2.2 dL_stageColour_16 hlocks)
set_option maxHeartbeats 4000000 in
set_option maxRecDepth 100000 in
theorem kL_stageColourx2 (l : Launch) (D : va_G) (hl0 : l.stackTraces = false) (cI cZ cJ : ClassId) (q : Nat → Nat) (o : Nat) (hN : (zLC q).Nodup) (hN2 : (zLC q ++ [o]).Nodup) (pa : Int → Int) (sp : Int → Int) (al : Int → Int) (dg : Int → Int) (co : Int → Int) (da : Int → Int) (mb : Int → Int) (dd : Int → Int) (ah : Int → Int) (wl : Int → Int) (lo : Int → Int) (n : Nat) (td : Int) (wn : Int) (f : Nat → Int64) (g : Int) (s : Int) (h0 : -2147483648 ≤ s ∧ s ≤ 2147483647) (h1 : 1 ≤ g ∧ g ≤ 4) (h2 : ¬ (0 ≤ s ∧ s ≤ 2)) : zLW l yL_stageColour wsL_stageColour ({ frames := 9, cells := 1, slots := 6, locals := 155 }) D [(cI, .int), (cZ, .boolean), (cJ, .long)] cJ [.ref (q 0), .int (zI g), .int (zI s), .ref o] (wC cI cZ q pa sp al dg co da mb dd ah wl lo n td wn) (wC cI cZ q pa sp al dg co da mb dd ah wl lo n td wn) o f f 1 (zLC q) 1 6 := by
  refine vx_ofWH (cc := cL_stageColour) (maxL := 5) (ret := some .int) (hh := [(0, 10, 13, 19)]) (by decide) rfl ?_
  intro p0 e9 s9 m9 ag9 below meth c9 s₁ B hml hv
  obtain ⟨hav, hP, hO, hK, hT, hE⟩ := hv
  have hx := B.exec
  have hb := B.bytes
  have hr := B.returns
  have hts := atoms_spec (ws := wsL_stageColour) B.pre
  have hown : s9.vm.findClass RL = some m9.cls := findClass_of_methodNamed B.named
  have hlocks := B.notSynchronized
  have hA : ∀ a ∈ zLC q, (fun a => a ∈ zLC q ++ [o]) a := fun _ h => List.mem_append_left _ h
  have hA2 : ∀ a ∈ zLC q ++ [o], (fun a => a ∈ zLC q ++ [o]) a := fun _ h => h
  have hoL : ∀ a ∈ [o], a ∉ zLC q := fun a ha h => (List.nodup_append.mp hN2).2.2 a h a ha rfl
  have htab := vx_table (x := yL_stageColour) B (hts (.codeWith yL_stageColour cL_stageColour 5 (some .int) [(0, 10, 13, 19)]) (by rw [show wsL_stageColour = _ from rfl]; exact List.mem_cons_self))
  have hl := lv_entry ([.ref (q 0), .int (zI g), .int (zI s), .ref o]) (n := 5) (Nat.le_of_ble_eq_true rfl)
  have hE0 : entryFrame m9 ag9 5 = F0 m9 0 ((lg_sl ([.ref (q 0), .int (zI g), .int (zI s), .ref o]) ++ List.replicate (5 - (lg_sl ([.ref (q 0), .int (zI g), .int (zI s), .ref o])).length) Slot.unset).toArray) [] := by rw [hav]; exact lg_entry_eq m9 _ _
  obtain ⟨Q0, hQ0⟩ : ∃ Q0, Q0 = vx_MQ below (zQL D (wC cI cZ q pa sp al dg co da mb dd ah wl lo n td wn) cJ o f 1 (zLC q)) zF ag9 s9 1 6 (fun a => a ∈ zLC q ++ [o]) := ⟨_, rfl⟩
  show W p0 l e9 ({ frames := 9, cells := 1, slots := 6, locals := 155 }) s9 m9 ag9 below meth c9 s9.heap [] 0 0 (vx_MQ below (zQL D (wC cI cZ q pa sp al dg co da mb dd ah wl lo n td wn) cJ o f 1 (zLC q)) zF ag9 s9 1 6 (fun a => a ∈ zLC q ++ [o])) _
  rw [hE0, ← hQ0]
  have hS : va_S (fun a => a ∈ zLC q ++ [o]) s9.heap s9.heap [] := va_S.rf
  generalize hH0 : s9.heap = H at hP hO ⊢
  have hS : va_S (fun a => a ∈ zLC q ++ [o]) s9.heap H [] := by rw [hH0] at hS ⊢; exact hS
  have hT : zT (fun a => a ∈ zLC q) s9 H := by rw [hH0] at hT; exact hT
  generalize (lg_sl ([.ref (q 0), .int (zI g), .int (zI s), .ref o]) ++ List.replicate (5 - (lg_sl ([.ref (q 0), .int (zI g), .int (zI s), .ref o])).length) Slot.unset).toArray = ls at hl ⊢
  have hl : lv_has ls 5 [(0, .ref (q 0)), (1, .int (zI g)), (2, .int (zI s)), (3, .ref o)] := hl
  refine lv_aload_n hx hb dL_stageColour_0 rfl (lv_at hl 3 rfl) ?_
  refine zr_iconst hx hb dL_stageColour_1 ?_
  refine lv_aload_n hx hb dL_stageColour_2 rfl (lv_at hl 0 rfl) ?_
  refine lv_iload_n hx hb dL_stageColour_3 rfl (lv_at hl 1 rfl) ?_
  refine lv_iload_n hx hb dL_stageColour_4 rfl (lv_at hl 2 rfl) ?_
  refine zcallXV (ci := 2) (q0 := 0) (cq := (RX2, TX2, 9)) (As := [.int (zI g), .int (zI s)]) (rest := [.int (zI 0), .ref o]) ⟨hx, hb, hml, hown, hts⟩ (hK.sub (tys' := [(cI, .int), (cZ, .boolean)]) [0, 1] rfl) (kX2_stageColourx2 l D hl0 cI cZ q hN pa sp al dg co da mb dd ah wl lo n td wn g s h0 h1 h2) (cwV 2 hts gL_stageColour_X2_stageColour rfl rfl rfl (by decide +kernel) ⟨Nat.le_of_ble_eq_true rfl, Nat.le_of_ble_eq_true rfl⟩) hP hT hS hA rfl rfl rfl hl.1 rfl (Nat.le_of_ble_eq_true rfl) dL_stageColour_5 ⟨Nat.le_of_ble_eq_true rfl, Nat.le_of_ble_eq_true rfl⟩ (fun ce q9 H locs hP hS _ hkk hce hcv hcl => ?_)
  have hO := zkeep hO hkk hoL
  refine vx_catch (E := "java/lang/IndexOutOfBoundsException") (name := "java/lang/IndexOutOfBoundsException") hown [] ⟨0, 10, 13, 19⟩ [] (by rw [htab]; rfl) (fun z hz => nomatch hz) (by decide) (by decide) (hts (.classLink RL 19 "java/lang/IndexOutOfBoundsException") (by decide +kernel)) (show (Cond.castable zIO zIO).before _ s9 = true from hE.1.1) hce hcv hcl ?_
  refine lv_astore (lv' := [(4, .ref q9), (0, .ref (q 0)), (1, .int (zI g)), (2, .int (zI s)), (3, .ref o)]) hx hb dL_stageColour_13 hl (by decide) rfl (fun ls hl => ?_)
  refine zr_iconst hx hb dL_stageColour_15 ?_
  rw [hQ0]
  exact vx_ret (W.iret hx hb hr (fun t ht _ => ⟨⟨rfl, by rw [ht]; exact hP, by rw [ht]; exact hO⟩, hS.F ht⟩) hS.2.2 dL_stageColour_16 hlocks)
set_option maxHeartbeats 4000000 in
set_option maxRecDepth 100000 in
theorem kL_stageDaysok (l : Launch) (D : va_G) (hl0 : l.stackTraces = false) (cI cZ cJ : ClassId) (q : Nat → Nat) (o : Nat) (hN : (zLC q).Nodup) (hN2 : (zLC q ++ [o]).Nodup) (pa : Int → Int) (sp : Int → Int) (al : Int → Int) (dg : Int → Int) (co : Int → Int) (da : Int → Int) (mb : Int → Int) (dd : Int → Int) (ah : Int → Int) (wl : Int → Int) (lo : Int → Int) (n : Nat) (td : Int) (wn : Int) (f : Nat → Int64) (hda : ∀ j : Int, 0 ≤ da j ∧ da j ≤ 60) (g : Int) (s : Int) (h1 : 1 ≤ g ∧ g ≤ 4) (h2 : 0 ≤ s ∧ s ≤ 2) : zLW l yL_stageDays wsL_stageDays ({ frames := 9, cells := 0, slots := 0, locals := 155 }) D [(cI, .int), (cZ, .boolean), (cJ, .long)] cJ [.ref (q 0), .int (zI g), .int (zI s), .ref o] (wC cI cZ q pa sp al dg co da mb dd ah wl lo n td wn) (wC cI cZ q pa sp al dg co da mb dd ah wl lo n td wn) o f (vp_updL f 0 (zI (da (16 * 12 + (g - 1) * 3 + s))).toInt64) 0 (zLC q) 0 0 := by
  refine vx_ofWH (cc := cL_stageDays) (maxL := 5) (ret := some .int) (hh := [(0, 10, 13, 19)]) (by decide) rfl ?_
  intro p0 e9 s9 m9 ag9 below meth c9 s₁ B hml hv
  obtain ⟨hav, hP, hO, hK, hT, hE⟩ := hv
  have hx := B.exec
  have hb := B.bytes
  have hr := B.returns
  have hts := atoms_spec (ws := wsL_stageDays) B.pre
  have hown : s9.vm.findClass RL = some m9.cls := findClass_of_methodNamed B.named
  have hlocks := B.notSynchronized
  have hA : ∀ a ∈ zLC q, (fun a => a ∈ zLC q ++ [o]) a := fun _ h => List.mem_append_left _ h
  have hA2 : ∀ a ∈ zLC q ++ [o], (fun a => a ∈ zLC q ++ [o]) a := fun _ h => h
  have hoL : ∀ a ∈ [o], a ∉ zLC q := fun a ha h => (List.nodup_append.mp hN2).2.2 a h a ha rfl
  have hl := lv_entry ([.ref (q 0), .int (zI g), .int (zI s), .ref o]) (n := 5) (Nat.le_of_ble_eq_true rfl)
  have hE0 : entryFrame m9 ag9 5 = F0 m9 0 ((lg_sl ([.ref (q 0), .int (zI g), .int (zI s), .ref o]) ++ List.replicate (5 - (lg_sl ([.ref (q 0), .int (zI g), .int (zI s), .ref o])).length) Slot.unset).toArray) [] := by rw [hav]; exact lg_entry_eq m9 _ _
  obtain ⟨Q0, hQ0⟩ : ∃ Q0, Q0 = vx_MQ below (zQL D (wC cI cZ q pa sp al dg co da mb dd ah wl lo n td wn) cJ o (vp_updL f 0 (zI (da (16 * 12 + (g - 1) * 3 + s))).toInt64) 0 (zLC q)) zF ag9 s9 0 0 (fun a => a ∈ zLC q ++ [o]) := ⟨_, rfl⟩
  show W p0 l e9 ({ frames := 9, cells := 0, slots := 0, locals := 155 }) s9 m9 ag9 below meth c9 s9.heap [] 0 0 (vx_MQ below (zQL D (wC cI cZ q pa sp al dg co da mb dd ah wl lo n td wn) cJ o (vp_updL f 0 (zI (da (16 * 12 + (g - 1) * 3 + s))).toInt64) 0 (zLC q)) zF ag9 s9 0 0 (fun a => a ∈ zLC q ++ [o])) _
  rw [hE0, ← hQ0]
  have hS : va_S (fun a => a ∈ zLC q ++ [o]) s9.heap s9.heap [] := va_S.rf
  generalize hH0 : s9.heap = H at hP hO ⊢
  have hS : va_S (fun a => a ∈ zLC q ++ [o]) s9.heap H [] := by rw [hH0] at hS ⊢; exact hS
  have hT : zT (fun a => a ∈ zLC q) s9 H := by rw [hH0] at hT; exact hT
  generalize (lg_sl ([.ref (q 0), .int (zI g), .int (zI s), .ref o]) ++ List.replicate (5 - (lg_sl ([.ref (q 0), .int (zI g), .int (zI s), .ref o])).length) Slot.unset).toArray = ls at hl ⊢
  have hl : lv_has ls 5 [(0, .ref (q 0)), (1, .int (zI g)), (2, .int (zI s)), (3, .ref o)] := hl
  refine lv_aload_n hx hb dL_stageDays_0 rfl (lv_at hl 3 rfl) ?_
  refine zr_iconst hx hb dL_stageDays_1 ?_
  refine lv_aload_n hx hb dL_stageDays_2 rfl (lv_at hl 0 rfl) ?_
  refine lv_iload_n hx hb dL_stageDays_3 rfl (lv_at hl 1 rfl) ?_
  refine lv_iload_n hx hb dL_stageDays_4 rfl (lv_at hl 2 rfl) ?_
  refine zcallV (ci := 2) (q0 := 0) (cq := (RX2, TX2, 9)) (As := [.int (zI g), .int (zI s)]) (rest := [.int (zI 0), .ref o]) ⟨hx, hb, hml, hown, hts⟩ (hK.sub (tys' := [(cI, .int), (cZ, .boolean)]) [0, 1] rfl) (kX2_stageDaysok l D cI cZ q hN pa sp al dg co da mb dd ah wl lo n td wn hda g s h1 h2) (cwV 2 hts gL_stageDays_X2_stageDays rfl rfl rfl (by decide +kernel) ⟨Nat.le_of_ble_eq_true rfl, Nat.le_of_ble_eq_true rfl⟩) hP hS hA rfl rfl rfl hl.1 rfl (Nat.le_of_ble_eq_true rfl) dL_stageDays_5 ⟨Nat.zero_le _, Nat.zero_le _⟩ (fun H locs hP hS _ hkk => ?_)
  have hO := zkeep hO hkk hoL
  refine W.eq (g2 := F0 m9 8 ls [.int (zI (da (16 * 12 + (g - 1) * 3 + s))), .int (zI 0), .ref o]) rfl ?_
  refine lv_i2l hx hb dL_stageDays_8 rfl ?_
  have hPO := zapp hP hO
  refine zr_last0 hx hb hK hPO hN2 rfl hA2 hS 14 2 rfl rfl dL_stageDays_9 (fun H locs hPO hS => ?_)
  have hPO : va_P D vwCl ((wC cI cZ q pa sp al dg co da mb dd ah wl lo n td wn) ++ wO cJ o (vp_updL f 0 (zI (da (16 * 12 + (g - 1) * 3 + s))).toInt64)) H := hPO
  have hP := zleft hPO
  have hO := zright hPO
  refine lv_goto (tgt := 17) hx hb dL_stageDays_10 (by decide) ?_
  refine zr_iconst hx hb dL_stageDays_17 ?_
  rw [hQ0]
  exact vx_ret (W.iret hx hb hr (fun t ht _ => ⟨⟨rfl, by rw [ht]; exact hP, by rw [ht]; exact hO⟩, hS.F ht⟩) hS.2.2 dL_stageDays_18 hlocks)
set_option maxHeartbeats 4000000 in
set_option maxRecDepth 100000 in
theorem kL_stageDaysx1 (l : Launch) (D : va_G) (hl0 : l.stackTraces = false) (cI cZ cJ : ClassId) (q : Nat → Nat) (o : Nat) (hN : (zLC q).Nodup) (hN2 : (zLC q ++ [o]).Nodup) (pa : Int → Int) (sp : Int → Int) (al : Int → Int) (dg : Int → Int) (co : Int → Int) (da : Int → Int) (mb : Int → Int) (dd : Int → Int) (ah : Int → Int) (wl : Int → Int) (lo : Int → Int) (n : Nat) (td : Int) (wn : Int) (f : Nat → Int64) (g : Int) (s : Int) (h0 : -2147483648 ≤ g ∧ g ≤ 2147483647) (h1 : ¬ (1 ≤ g ∧ g ≤ 4)) : zLW l yL_stageDays wsL_stageDays ({ frames := 9, cells := 1, slots := 6, locals := 155 }) D [(cI, .int), (cZ, .boolean), (cJ, .long)] cJ [.ref (q 0), .int (zI g), .int (zI s), .ref o] (wC cI cZ q pa sp al dg co da mb dd ah wl lo n td wn) (wC cI cZ q pa sp al dg co da mb dd ah wl lo n td wn) o f f 1 (zLC q) 1 6 := by
  refine vx_ofWH (cc := cL_stageDays) (maxL := 5) (ret := some .int) (hh := [(0, 10, 13, 19)]) (by decide) rfl ?_
  intro p0 e9 s9 m9 ag9 below meth c9 s₁ B hml hv
  obtain ⟨hav, hP, hO, hK, hT, hE⟩ := hv
  have hx := B.exec
  have hb := B.bytes
  have hr := B.returns
  have hts := atoms_spec (ws := wsL_stageDays) B.pre
  have hown : s9.vm.findClass RL = some m9.cls := findClass_of_methodNamed B.named
  have hlocks := B.notSynchronized
  have hA : ∀ a ∈ zLC q, (fun a => a ∈ zLC q ++ [o]) a := fun _ h => List.mem_append_left _ h
  have hA2 : ∀ a ∈ zLC q ++ [o], (fun a => a ∈ zLC q ++ [o]) a := fun _ h => h
  have hoL : ∀ a ∈ [o], a ∉ zLC q := fun a ha h => (List.nodup_append.mp hN2).2.2 a h a ha rfl
  have htab := vx_table (x := yL_stageDays) B (hts (.codeWith yL_stageDays cL_stageDays 5 (some .int) [(0, 10, 13, 19)]) (by rw [show wsL_stageDays = _ from rfl]; exact List.mem_cons_self))
  have hl := lv_entry ([.ref (q 0), .int (zI g), .int (zI s), .ref o]) (n := 5) (Nat.le_of_ble_eq_true rfl)
  have hE0 : entryFrame m9 ag9 5 = F0 m9 0 ((lg_sl ([.ref (q 0), .int (zI g), .int (zI s), .ref o]) ++ List.replicate (5 - (lg_sl ([.ref (q 0), .int (zI g), .int (zI s), .ref o])).length) Slot.unset).toArray) [] := by rw [hav]; exact lg_entry_eq m9 _ _
  obtain ⟨Q0, hQ0⟩ : ∃ Q0, Q0 = vx_MQ below (zQL D (wC cI cZ q pa sp al dg co da mb dd ah wl lo n td wn) cJ o f 1 (zLC q)) zF ag9 s9 1 6 (fun a => a ∈ zLC q ++ [o]) := ⟨_, rfl⟩
  show W p0 l e9 ({ frames := 9, cells := 1, slots := 6, locals := 155 }) s9 m9 ag9 below meth c9 s9.heap [] 0 0 (vx_MQ below (zQL D (wC cI cZ q pa sp al dg co da mb dd ah wl lo n td wn) cJ o f 1 (zLC q)) zF ag9 s9 1 6 (fun a => a ∈ zLC q ++ [o])) _
  rw [hE0, ← hQ0]
  have hS : va_S (fun a => a ∈ zLC q ++ [o]) s9.heap s9.heap [] := va_S.rf
  generalize hH0 : s9.heap = H at hP hO ⊢
  have hS : va_S (fun a => a ∈ zLC q ++ [o]) s9.heap H [] := by rw [hH0] at hS ⊢; exact hS
  have hT : zT (fun a => a ∈ zLC q) s9 H := by rw [hH0] at hT; exact hT
  generalize (lg_sl ([.ref (q 0), .int (zI g), .int (zI s), .ref o]) ++ List.replicate (5 - (lg_sl ([.ref (q 0), .int (zI g), .int (zI s), .ref o])).length) Slot.unset).toArray = ls at hl ⊢
  have hl : lv_has ls 5 [(0, .ref (q 0)), (1, .int (zI g)), (2, .int (zI s)), (3, .ref o)] := hl
  refine lv_aload_n hx hb dL_stageDays_0 rfl (lv_at hl 3 rfl) ?_
  refine zr_iconst hx hb dL_stageDays_1 ?_
  refine lv_aload_n hx hb dL_stageDays_2 rfl (lv_at hl 0 rfl) ?_
  refine lv_iload_n hx hb dL_stageDays_3 rfl (lv_at hl 1 rfl) ?_
  refine lv_iload_n hx hb dL_stageDays_4 rfl (lv_at hl 2 rfl) ?_
  refine zcallXV (ci := 2) (q0 := 0) (cq := (RX2, TX2, 9)) (As := [.int (zI g), .int (zI s)]) (rest := [.int (zI 0), .ref o]) ⟨hx, hb, hml, hown, hts⟩ (hK.sub (tys' := [(cI, .int), (cZ, .boolean)]) [0, 1] rfl) (kX2_stageDaysx1 l D hl0 cI cZ q hN pa sp al dg co da mb dd ah wl lo n td wn g s h0 h1) (cwV 2 hts gL_stageDays_X2_stageDays rfl rfl rfl (by decide +kernel) ⟨Nat.le_of_ble_eq_true rfl, Nat.le_of_ble_eq_true rfl⟩) hP hT hS hA rfl rfl rfl hl.1 rfl (Nat.le_of_ble_eq_true rfl) dL_stageDays_5 ⟨Nat.le_of_ble_eq_true rfl, Nat.le_of_ble_eq_true rfl⟩ (fun ce q9 H locs hP hS _ hkk hce hcv hcl => ?_)
  have hO := zkeep hO hkk hoL
  refine vx_catch (E := "java/lang/IndexOutOfBoundsException") (name := "java/lang/IndexOutOfBoundsException") hown [] ⟨0, 10, 13, 19⟩ [] (by rw [htab]; rfl) (fun z hz => nomatch hz) (by decide) (by decide) (hts (.classLink RL 19 "java/lang/IndexOutOfBoundsException") (by decide +kernel)) (show (Cond.castable zIO zIO).before _ s9 = true from hE.1.1) hce hcv hcl ?_
  refine lv_astore (lv' := [(4, .ref q9), (0, .ref (q 0)), (1, .int (zI g)), (2, .int (zI s)), (3, .ref o)]) hx hb dL_stageDays_13 hl (by decide) rfl (fun ls hl => ?_)
  refine zr_iconst hx hb dL_stageDays_15 ?_
  rw [hQ0]
  exact vx_ret (W.iret hx hb hr (fun t ht _ => ⟨⟨rfl, by rw [ht]; exact hP, by rw [ht]; exact hO⟩, hS.F ht⟩) hS.2.2 dL_stageDays_16 hlocks)
set_option maxHeartbeats 4000000 in
set_option maxRecDepth 100000 in
theorem kL_stageDaysx2 (l : Launch) (D : va_G) (hl0 : l.stackTraces = false) (cI cZ cJ : ClassId) (q : Nat → Nat) (o : Nat) (hN : (zLC q).Nodup) (hN2 : (zLC q ++ [o]).Nodup) (pa : Int → Int) (sp : Int → Int) (al : Int → Int) (dg : Int → Int) (co : Int → Int) (da : Int → Int) (mb : Int → Int) (dd : Int → Int) (ah : Int → Int) (wl : Int → Int) (lo : Int → Int) (n : Nat) (td : Int) (wn : Int) (f : Nat → Int64) (g : Int) (s : Int) (h0 : -2147483648 ≤ s ∧ s ≤ 2147483647) (h1 : 1 ≤ g ∧ g ≤ 4) (h2 : ¬ (0 ≤ s ∧ s ≤ 2)) : zLW l yL_stageDays wsL_stageDays ({ frames := 9, cells := 1, slots := 6, locals := 155 }) D [(cI, .int), (cZ, .boolean), (cJ, .long)] cJ [.ref (q 0), .int (zI g), .int (zI s), .ref o] (wC cI cZ q pa sp al dg co da mb dd ah wl lo n td wn) (wC cI cZ q pa sp al dg co da mb dd ah wl lo n td wn) o f f 1 (zLC q) 1 6 := by
  refine vx_ofWH (cc := cL_stageDays) (maxL := 5) (ret := some .int) (hh := [(0, 10, 13, 19)]) (by decide) rfl ?_
  intro p0 e9 s9 m9 ag9 below meth c9 s₁ B hml hv
  obtain ⟨hav, hP, hO, hK, hT, hE⟩ := hv
  have hx := B.exec
  have hb := B.bytes
  have hr := B.returns
  have hts := atoms_spec (ws := wsL_stageDays) B.pre
  have hown : s9.vm.findClass RL = some m9.cls := findClass_of_methodNamed B.named
  have hlocks := B.notSynchronized
  have hA : ∀ a ∈ zLC q, (fun a => a ∈ zLC q ++ [o]) a := fun _ h => List.mem_append_left _ h
  have hA2 : ∀ a ∈ zLC q ++ [o], (fun a => a ∈ zLC q ++ [o]) a := fun _ h => h
  have hoL : ∀ a ∈ [o], a ∉ zLC q := fun a ha h => (List.nodup_append.mp hN2).2.2 a h a ha rfl
  have htab := vx_table (x := yL_stageDays) B (hts (.codeWith yL_stageDays cL_stageDays 5 (some .int) [(0, 10, 13, 19)]) (by rw [show wsL_stageDays = _ from rfl]; exact List.mem_cons_self))
  have hl := lv_entry ([.ref (q 0), .int (zI g), .int (zI s), .ref o]) (n := 5) (Nat.le_of_ble_eq_true rfl)
  have hE0 : entryFrame m9 ag9 5 = F0 m9 0 ((lg_sl ([.ref (q 0), .int (zI g), .int (zI s), .ref o]) ++ List.replicate (5 - (lg_sl ([.ref (q 0), .int (zI g), .int (zI s), .ref o])).length) Slot.unset).toArray) [] := by rw [hav]; exact lg_entry_eq m9 _ _
  obtain ⟨Q0, hQ0⟩ : ∃ Q0, Q0 = vx_MQ below (zQL D (wC cI cZ q pa sp al dg co da mb dd ah wl lo n td wn) cJ o f 1 (zLC q)) zF ag9 s9 1 6 (fun a => a ∈ zLC q ++ [o]) := ⟨_, rfl⟩
  show W p0 l e9 ({ frames := 9, cells := 1, slots := 6, locals := 155 }) s9 m9 ag9 below meth c9 s9.heap [] 0 0 (vx_MQ below (zQL D (wC cI cZ q pa sp al dg co da mb dd ah wl lo n td wn) cJ o f 1 (zLC q)) zF ag9 s9 1 6 (fun a => a ∈ zLC q ++ [o])) _
  rw [hE0, ← hQ0]
  have hS : va_S (fun a => a ∈ zLC q ++ [o]) s9.heap s9.heap [] := va_S.rf
  generalize hH0 : s9.heap = H at hP hO ⊢
  have hS : va_S (fun a => a ∈ zLC q ++ [o]) s9.heap H [] := by rw [hH0] at hS ⊢; exact hS
  have hT : zT (fun a => a ∈ zLC q) s9 H := by rw [hH0] at hT; exact hT
  generalize (lg_sl ([.ref (q 0), .int (zI g), .int (zI s), .ref o]) ++ List.replicate (5 - (lg_sl ([.ref (q 0), .int (zI g), .int (zI s), .ref o])).length) Slot.unset).toArray = ls at hl ⊢
  have hl : lv_has ls 5 [(0, .ref (q 0)), (1, .int (zI g)), (2, .int (zI s)), (3, .ref o)] := hl
  refine lv_aload_n hx hb dL_stageDays_0 rfl (lv_at hl 3 rfl) ?_
  refine zr_iconst hx hb dL_stageDays_1 ?_
  refine lv_aload_n hx hb dL_stageDays_2 rfl (lv_at hl 0 rfl) ?_
  refine lv_iload_n hx hb dL_stageDays_3 rfl (lv_at hl 1 rfl) ?_
  refine lv_iload_n hx hb dL_stageDays_4 rfl (lv_at hl 2 rfl) ?_
  refine zcallXV (ci := 2) (q0 := 0) (cq := (RX2, TX2, 9)) (As := [.int (zI g), .int (zI s)]) (rest := [.int (zI 0), .ref o]) ⟨hx, hb, hml, hown, hts⟩ (hK.sub (tys' := [(cI, .int), (cZ, .boolean)]) [0, 1] rfl) (kX2_stageDaysx2 l D hl0 cI cZ q hN pa sp al dg co da mb dd ah wl lo n td wn g s h0 h1 h2) (cwV 2 hts gL_stageDays_X2_stageDays rfl rfl rfl (by decide +kernel) ⟨Nat.le_of_ble_eq_true rfl, Nat.le_of_ble_eq_true rfl⟩) hP hT hS hA rfl rfl rfl hl.1 rfl (Nat.le_of_ble_eq_true rfl) dL_stageDays_5 ⟨Nat.le_of_ble_eq_true rfl, Nat.le_of_ble_eq_true rfl⟩ (fun ce q9 H locs hP hS _ hkk hce hcv hcl => ?_)
  have hO := zkeep hO hkk hoL
  refine vx_catch (E := "java/lang/IndexOutOfBoundsException") (name := "java/lang/IndexOutOfBoundsException") hown [] ⟨0, 10, 13, 19⟩ [] (by rw [htab]; rfl) (fun z hz => nomatch hz) (by decide) (by decide) (hts (.classLink RL 19 "java/lang/IndexOutOfBoundsException") (by decide +kernel)) (show (Cond.castable zIO zIO).before _ s9 = true from hE.1.1) hce hcv hcl ?_
  refine lv_astore (lv' := [(4, .ref q9), (0, .ref (q 0)), (1, .int (zI g)), (2, .int (zI s)), (3, .ref o)]) hx hb dL_stageDays_13 hl (by decide) rfl (fun ls hl => ?_)
  refine zr_iconst hx hb dL_stageDays_15 ?_
  rw [hQ0]
  exact vx_ret (W.iret hx hb hr (fun t ht _ => ⟨⟨rfl, by rw [ht]; exact hP, by rw [ht]; exact hO⟩, hS.F ht⟩) hS.2.2 dL_stageDays_16 hlocks)
set_option maxHeartbeats 4000000 in
set_option maxRecDepth 100000 in
theorem kL_colourOfok (l : Launch) (D : va_G) (hl0 : l.stackTraces = false) (cI cZ cJ : ClassId) (q : Nat → Nat) (o : Nat) (hN : (zLC q).Nodup) (hN2 : (zLC q ++ [o]).Nodup) (pa : Int → Int) (sp : Int → Int) (al : Int → Int) (dg : Int → Int) (co : Int → Int) (da : Int → Int) (mb : Int → Int) (dd : Int → Int) (ah : Int → Int) (wl : Int → Int) (lo : Int → Int) (n : Nat) (td : Int) (wn : Int) (f : Nat → Int64) (hn : n ≤ 16) (hco : ∀ j : Int, 0 ≤ co j ∧ co j ≤ 5) (hda : ∀ j : Int, 0 ≤ da j ∧ da j ≤ 60) (hmb : ∀ j : Int, 0 ≤ mb j ∧ mb j ≤ 4) (hdd : ∀ j : Int, 0 ≤ dd j ∧ dd j ≤ 1000000) (htd : 0 ≤ td ∧ td ≤ 1000000) (p : Int) (h1 : 0 ≤ p ∧ p < (n : Int)) : zLW l yL_colourOf wsL_colourOf ({ frames := 8, cells := 0, slots := 0, locals := 132 }) D [(cI, .int), (cZ, .boolean), (cJ, .long)] cJ [.ref (q 0), .int (zI p), .ref o] (wC cI cZ q pa sp al dg co da mb dd ah wl lo n td wn) (wC cI cZ q pa sp al dg co da mb dd ah wl lo n td wn) o f (vp_updL f 0 (zI (ca co da mb dd td n p 0)).toInt64) 0 (zLC q) 0 0 := by
  refine vx_ofWH (cc := cL_colourOf) (maxL := 4) (ret := some .int) (hh := [(0, 9, 12, 19)]) (by decide) rfl ?_
  intro p0 e9 s9 m9 ag9 below meth c9 s₁ B hml hv
  obtain ⟨hav, hP, hO, hK, hT, hE⟩ := hv
  have hx := B.exec
  have hb := B.bytes
  have hr := B.returns
  have hts := atoms_spec (ws := wsL_colourOf) B.pre
  have hown : s9.vm.findClass RL = some m9.cls := findClass_of_methodNamed B.named
  have hlocks := B.notSynchronized
  have hA : ∀ a ∈ zLC q, (fun a => a ∈ zLC q ++ [o]) a := fun _ h => List.mem_append_left _ h
  have hA2 : ∀ a ∈ zLC q ++ [o], (fun a => a ∈ zLC q ++ [o]) a := fun _ h => h
  have hoL : ∀ a ∈ [o], a ∉ zLC q := fun a ha h => (List.nodup_append.mp hN2).2.2 a h a ha rfl
  have hl := lv_entry ([.ref (q 0), .int (zI p), .ref o]) (n := 4) (Nat.le_of_ble_eq_true rfl)
  have hE0 : entryFrame m9 ag9 4 = F0 m9 0 ((lg_sl ([.ref (q 0), .int (zI p), .ref o]) ++ List.replicate (4 - (lg_sl ([.ref (q 0), .int (zI p), .ref o])).length) Slot.unset).toArray) [] := by rw [hav]; exact lg_entry_eq m9 _ _
  obtain ⟨Q0, hQ0⟩ : ∃ Q0, Q0 = vx_MQ below (zQL D (wC cI cZ q pa sp al dg co da mb dd ah wl lo n td wn) cJ o (vp_updL f 0 (zI (ca co da mb dd td n p 0)).toInt64) 0 (zLC q)) zF ag9 s9 0 0 (fun a => a ∈ zLC q ++ [o]) := ⟨_, rfl⟩
  show W p0 l e9 ({ frames := 8, cells := 0, slots := 0, locals := 132 }) s9 m9 ag9 below meth c9 s9.heap [] 0 0 (vx_MQ below (zQL D (wC cI cZ q pa sp al dg co da mb dd ah wl lo n td wn) cJ o (vp_updL f 0 (zI (ca co da mb dd td n p 0)).toInt64) 0 (zLC q)) zF ag9 s9 0 0 (fun a => a ∈ zLC q ++ [o])) _
  rw [hE0, ← hQ0]
  have hS : va_S (fun a => a ∈ zLC q ++ [o]) s9.heap s9.heap [] := va_S.rf
  generalize hH0 : s9.heap = H at hP hO ⊢
  have hS : va_S (fun a => a ∈ zLC q ++ [o]) s9.heap H [] := by rw [hH0] at hS ⊢; exact hS
  have hT : zT (fun a => a ∈ zLC q) s9 H := by rw [hH0] at hT; exact hT
  generalize (lg_sl ([.ref (q 0), .int (zI p), .ref o]) ++ List.replicate (4 - (lg_sl ([.ref (q 0), .int (zI p), .ref o])).length) Slot.unset).toArray = ls at hl ⊢
  have hl : lv_has ls 4 [(0, .ref (q 0)), (1, .int (zI p)), (2, .ref o)] := hl
  refine lv_aload_n hx hb dL_colourOf_0 rfl (lv_at hl 2 rfl) ?_
  refine zr_iconst hx hb dL_colourOf_1 ?_
  refine lv_aload_n hx hb dL_colourOf_2 rfl (lv_at hl 0 rfl) ?_
  refine lv_iload_n hx hb dL_colourOf_3 rfl (lv_at hl 1 rfl) ?_
  refine zcallV (ci := 2) (q0 := 0) (cq := (RX2, TX2, 9)) (As := [.int (zI p)]) (rest := [.int (zI 0), .ref o]) ⟨hx, hb, hml, hown, hts⟩ (hK.sub (tys' := [(cI, .int), (cZ, .boolean)]) [0, 1] rfl) (kX2_colourOfok l D cI cZ q hN pa sp al dg co da mb dd ah wl lo n td wn hn hco hda hmb hdd htd p h1) (cwV 1 hts gL_colourOf_X2_colourOf rfl rfl rfl (by decide +kernel) ⟨Nat.le_of_ble_eq_true rfl, Nat.le_of_ble_eq_true rfl⟩) hP hS hA rfl rfl rfl hl.1 rfl (Nat.le_of_ble_eq_true rfl) dL_colourOf_4 ⟨Nat.zero_le _, Nat.zero_le _⟩ (fun H locs hP hS _ hkk => ?_)
  have hO := zkeep hO hkk hoL
  refine W.eq (g2 := F0 m9 7 ls [.int (zI (ca co da mb dd td n p 0)), .int (zI 0), .ref o]) rfl ?_
  refine lv_i2l hx hb dL_colourOf_7 rfl ?_
  have hPO := zapp hP hO
  refine zr_last0 hx hb hK hPO hN2 rfl hA2 hS 14 2 rfl rfl dL_colourOf_8 (fun H locs hPO hS => ?_)
  have hPO : va_P D vwCl ((wC cI cZ q pa sp al dg co da mb dd ah wl lo n td wn) ++ wO cJ o (vp_updL f 0 (zI (ca co da mb dd td n p 0)).toInt64)) H := hPO
  have hP := zleft hPO
  have hO := zright hPO
  refine lv_goto (tgt := 15) hx hb dL_colourOf_9 (by decide) ?_
  refine zr_iconst hx hb dL_colourOf_15 ?_
  rw [hQ0]
  exact vx_ret (W.iret hx hb hr (fun t ht _ => ⟨⟨rfl, by rw [ht]; exact hP, by rw [ht]; exact hO⟩, hS.F ht⟩) hS.2.2 dL_colourOf_16 hlocks)
set_option maxHeartbeats 4000000 in
set_option maxRecDepth 100000 in
theorem kL_colourOfx1 (l : Launch) (D : va_G) (hl0 : l.stackTraces = false) (cI cZ cJ : ClassId) (q : Nat → Nat) (o : Nat) (hN : (zLC q).Nodup) (hN2 : (zLC q ++ [o]).Nodup) (pa : Int → Int) (sp : Int → Int) (al : Int → Int) (dg : Int → Int) (co : Int → Int) (da : Int → Int) (mb : Int → Int) (dd : Int → Int) (ah : Int → Int) (wl : Int → Int) (lo : Int → Int) (n : Nat) (td : Int) (wn : Int) (f : Nat → Int64) (hn : n ≤ 16) (p : Int) (h0 : -2147483648 ≤ p ∧ p ≤ 2147483647) (h1 : ¬ (0 ≤ p ∧ p < (n : Int))) : zLW l yL_colourOf wsL_colourOf ({ frames := 8, cells := 1, slots := 6, locals := 132 }) D [(cI, .int), (cZ, .boolean), (cJ, .long)] cJ [.ref (q 0), .int (zI p), .ref o] (wC cI cZ q pa sp al dg co da mb dd ah wl lo n td wn) (wC cI cZ q pa sp al dg co da mb dd ah wl lo n td wn) o f f 1 (zLC q) 1 6 := by
  refine vx_ofWH (cc := cL_colourOf) (maxL := 4) (ret := some .int) (hh := [(0, 9, 12, 19)]) (by decide) rfl ?_
  intro p0 e9 s9 m9 ag9 below meth c9 s₁ B hml hv
  obtain ⟨hav, hP, hO, hK, hT, hE⟩ := hv
  have hx := B.exec
  have hb := B.bytes
  have hr := B.returns
  have hts := atoms_spec (ws := wsL_colourOf) B.pre
  have hown : s9.vm.findClass RL = some m9.cls := findClass_of_methodNamed B.named
  have hlocks := B.notSynchronized
  have hA : ∀ a ∈ zLC q, (fun a => a ∈ zLC q ++ [o]) a := fun _ h => List.mem_append_left _ h
  have hA2 : ∀ a ∈ zLC q ++ [o], (fun a => a ∈ zLC q ++ [o]) a := fun _ h => h
  have hoL : ∀ a ∈ [o], a ∉ zLC q := fun a ha h => (List.nodup_append.mp hN2).2.2 a h a ha rfl
  have htab := vx_table (x := yL_colourOf) B (hts (.codeWith yL_colourOf cL_colourOf 4 (some .int) [(0, 9, 12, 19)]) (by rw [show wsL_colourOf = _ from rfl]; exact List.mem_cons_self))
  have hl := lv_entry ([.ref (q 0), .int (zI p), .ref o]) (n := 4) (Nat.le_of_ble_eq_true rfl)
  have hE0 : entryFrame m9 ag9 4 = F0 m9 0 ((lg_sl ([.ref (q 0), .int (zI p), .ref o]) ++ List.replicate (4 - (lg_sl ([.ref (q 0), .int (zI p), .ref o])).length) Slot.unset).toArray) [] := by rw [hav]; exact lg_entry_eq m9 _ _
  obtain ⟨Q0, hQ0⟩ : ∃ Q0, Q0 = vx_MQ below (zQL D (wC cI cZ q pa sp al dg co da mb dd ah wl lo n td wn) cJ o f 1 (zLC q)) zF ag9 s9 1 6 (fun a => a ∈ zLC q ++ [o]) := ⟨_, rfl⟩
  show W p0 l e9 ({ frames := 8, cells := 1, slots := 6, locals := 132 }) s9 m9 ag9 below meth c9 s9.heap [] 0 0 (vx_MQ below (zQL D (wC cI cZ q pa sp al dg co da mb dd ah wl lo n td wn) cJ o f 1 (zLC q)) zF ag9 s9 1 6 (fun a => a ∈ zLC q ++ [o])) _
  rw [hE0, ← hQ0]
  have hS : va_S (fun a => a ∈ zLC q ++ [o]) s9.heap s9.heap [] := va_S.rf
  generalize hH0 : s9.heap = H at hP hO ⊢
  have hS : va_S (fun a => a ∈ zLC q ++ [o]) s9.heap H [] := by rw [hH0] at hS ⊢; exact hS
  have hT : zT (fun a => a ∈ zLC q) s9 H := by rw [hH0] at hT; exact hT
  generalize (lg_sl ([.ref (q 0), .int (zI p), .ref o]) ++ List.replicate (4 - (lg_sl ([.ref (q 0), .int (zI p), .ref o])).length) Slot.unset).toArray = ls at hl ⊢
  have hl : lv_has ls 4 [(0, .ref (q 0)), (1, .int (zI p)), (2, .ref o)] := hl
  refine lv_aload_n hx hb dL_colourOf_0 rfl (lv_at hl 2 rfl) ?_
  refine zr_iconst hx hb dL_colourOf_1 ?_
  refine lv_aload_n hx hb dL_colourOf_2 rfl (lv_at hl 0 rfl) ?_
  refine lv_iload_n hx hb dL_colourOf_3 rfl (lv_at hl 1 rfl) ?_
  refine zcallXV (ci := 2) (q0 := 0) (cq := (RX2, TX2, 9)) (As := [.int (zI p)]) (rest := [.int (zI 0), .ref o]) ⟨hx, hb, hml, hown, hts⟩ (hK.sub (tys' := [(cI, .int), (cZ, .boolean)]) [0, 1] rfl) (kX2_colourOfx1 l D hl0 cI cZ q hN pa sp al dg co da mb dd ah wl lo n td wn hn p h0 h1) (cwV 1 hts gL_colourOf_X2_colourOf rfl rfl rfl (by decide +kernel) ⟨Nat.le_of_ble_eq_true rfl, Nat.le_of_ble_eq_true rfl⟩) hP hT hS hA rfl rfl rfl hl.1 rfl (Nat.le_of_ble_eq_true rfl) dL_colourOf_4 ⟨Nat.le_of_ble_eq_true rfl, Nat.le_of_ble_eq_true rfl⟩ (fun ce q9 H locs hP hS _ hkk hce hcv hcl => ?_)
  have hO := zkeep hO hkk hoL
  refine vx_catch (E := "java/lang/IndexOutOfBoundsException") (name := "java/lang/IndexOutOfBoundsException") hown [] ⟨0, 9, 12, 19⟩ [] (by rw [htab]; rfl) (fun z hz => nomatch hz) (by decide) (by decide) (hts (.classLink RL 19 "java/lang/IndexOutOfBoundsException") (by decide +kernel)) (show (Cond.castable zIO zIO).before _ s9 = true from hE.1.1) hce hcv hcl ?_
  refine lv_astore_n (lv' := [(3, .ref q9), (0, .ref (q 0)), (1, .int (zI p)), (2, .ref o)]) hx hb dL_colourOf_12 rfl hl (by decide) rfl (fun ls hl => ?_)
  refine zr_iconst hx hb dL_colourOf_13 ?_
  rw [hQ0]
  exact vx_ret (W.iret hx hb hr (fun t ht _ => ⟨⟨rfl, by rw [ht]; exact hP, by rw [ht]; exact hO⟩, hS.F ht⟩) hS.2.2 dL_colourOf_14 hlocks)
set_option maxHeartbeats 4000000 in
set_option maxRecDepth 100000 in
theorem kL_colourInok (l : Launch) (D : va_G) (hl0 : l.stackTraces = false) (cI cZ cJ : ClassId) (q : Nat → Nat) (o : Nat) (hN : (zLC q).Nodup) (hN2 : (zLC q ++ [o]).Nodup) (pa : Int → Int) (sp : Int → Int) (al : Int → Int) (dg : Int → Int) (co : Int → Int) (da : Int → Int) (mb : Int → Int) (dd : Int → Int) (ah : Int → Int) (wl : Int → Int) (lo : Int → Int) (n : Nat) (td : Int) (wn : Int) (f : Nat → Int64) (hn : n ≤ 16) (hco : ∀ j : Int, 0 ≤ co j ∧ co j ≤ 5) (hda : ∀ j : Int, 0 ≤ da j ∧ da j ≤ 60) (hmb : ∀ j : Int, 0 ≤ mb j ∧ mb j ≤ 4) (hdd : ∀ j : Int, 0 ≤ dd j ∧ dd j ≤ 1000000) (htd : 0 ≤ td ∧ td ≤ 1000000) (p : Int) (k : Int) (h1 : 0 ≤ p ∧ p < (n : Int)) (h2 : 0 ≤ k ∧ k ≤ 200) : zLW l yL_colourIn wsL_colourIn ({ frames := 8, cells := 0, slots := 0, locals := 133 }) D [(cI, .int), (cZ, .boolean), (cJ, .long)] cJ [.ref (q 0), .int (zI p), .int (zI k), .ref o] (wC cI cZ q pa sp al dg co da mb dd ah wl lo n td wn) (wC cI cZ q pa sp al dg co da mb dd ah wl lo n td wn) o f (vp_updL f 0 (zI (ca co da mb dd td n p k)).toInt64) 0 (zLC q) 0 0 := by
  refine vx_ofWH (cc := cL_colourIn) (maxL := 5) (ret := some .int) (hh := [(0, 10, 13, 19), (0, 10, 17, 25)]) (by decide) rfl ?_
  intro p0 e9 s9 m9 ag9 below meth c9 s₁ B hml hv
  obtain ⟨hav, hP, hO, hK, hT, hE⟩ := hv
  have hx := B.exec
  have hb := B.bytes
  have hr := B.returns
  have hts := atoms_spec (ws := wsL_colourIn) B.pre
  have hown : s9.vm.findClass RL = some m9.cls := findClass_of_methodNamed B.named
  have hlocks := B.notSynchronized
  have hA : ∀ a ∈ zLC q, (fun a => a ∈ zLC q ++ [o]) a := fun _ h => List.mem_append_left _ h
  have hA2 : ∀ a ∈ zLC q ++ [o], (fun a => a ∈ zLC q ++ [o]) a := fun _ h => h
  have hoL : ∀ a ∈ [o], a ∉ zLC q := fun a ha h => (List.nodup_append.mp hN2).2.2 a h a ha rfl
  have hl := lv_entry ([.ref (q 0), .int (zI p), .int (zI k), .ref o]) (n := 5) (Nat.le_of_ble_eq_true rfl)
  have hE0 : entryFrame m9 ag9 5 = F0 m9 0 ((lg_sl ([.ref (q 0), .int (zI p), .int (zI k), .ref o]) ++ List.replicate (5 - (lg_sl ([.ref (q 0), .int (zI p), .int (zI k), .ref o])).length) Slot.unset).toArray) [] := by rw [hav]; exact lg_entry_eq m9 _ _
  obtain ⟨Q0, hQ0⟩ : ∃ Q0, Q0 = vx_MQ below (zQL D (wC cI cZ q pa sp al dg co da mb dd ah wl lo n td wn) cJ o (vp_updL f 0 (zI (ca co da mb dd td n p k)).toInt64) 0 (zLC q)) zF ag9 s9 0 0 (fun a => a ∈ zLC q ++ [o]) := ⟨_, rfl⟩
  show W p0 l e9 ({ frames := 8, cells := 0, slots := 0, locals := 133 }) s9 m9 ag9 below meth c9 s9.heap [] 0 0 (vx_MQ below (zQL D (wC cI cZ q pa sp al dg co da mb dd ah wl lo n td wn) cJ o (vp_updL f 0 (zI (ca co da mb dd td n p k)).toInt64) 0 (zLC q)) zF ag9 s9 0 0 (fun a => a ∈ zLC q ++ [o])) _
  rw [hE0, ← hQ0]
  have hS : va_S (fun a => a ∈ zLC q ++ [o]) s9.heap s9.heap [] := va_S.rf
  generalize hH0 : s9.heap = H at hP hO ⊢
  have hS : va_S (fun a => a ∈ zLC q ++ [o]) s9.heap H [] := by rw [hH0] at hS ⊢; exact hS
  have hT : zT (fun a => a ∈ zLC q) s9 H := by rw [hH0] at hT; exact hT
  generalize (lg_sl ([.ref (q 0), .int (zI p), .int (zI k), .ref o]) ++ List.replicate (5 - (lg_sl ([.ref (q 0), .int (zI p), .int (zI k), .ref o])).length) Slot.unset).toArray = ls at hl ⊢
  have hl : lv_has ls 5 [(0, .ref (q 0)), (1, .int (zI p)), (2, .int (zI k)), (3, .ref o)] := hl
  refine lv_aload_n hx hb dL_colourIn_0 rfl (lv_at hl 3 rfl) ?_
  refine zr_iconst hx hb dL_colourIn_1 ?_
  refine lv_aload_n hx hb dL_colourIn_2 rfl (lv_at hl 0 rfl) ?_
  refine lv_iload_n hx hb dL_colourIn_3 rfl (lv_at hl 1 rfl) ?_
  refine lv_iload_n hx hb dL_colourIn_4 rfl (lv_at hl 2 rfl) ?_
  refine zcallV (ci := 2) (q0 := 0) (cq := (RX2, TX2, 9)) (As := [.int (zI p), .int (zI k)]) (rest := [.int (zI 0), .ref o]) ⟨hx, hb, hml, hown, hts⟩ (hK.sub (tys' := [(cI, .int), (cZ, .boolean)]) [0, 1] rfl) (kX2_colourInok l D cI cZ q hN pa sp al dg co da mb dd ah wl lo n td wn hn hco hda hmb hdd htd p k h1 h2) (cwV 2 hts gL_colourIn_X2_colourIn rfl rfl rfl (by decide +kernel) ⟨Nat.le_of_ble_eq_true rfl, Nat.le_of_ble_eq_true rfl⟩) hP hS hA rfl rfl rfl hl.1 rfl (Nat.le_of_ble_eq_true rfl) dL_colourIn_5 ⟨Nat.zero_le _, Nat.zero_le _⟩ (fun H locs hP hS _ hkk => ?_)
  have hO := zkeep hO hkk hoL
  refine W.eq (g2 := F0 m9 8 ls [.int (zI (ca co da mb dd td n p k)), .int (zI 0), .ref o]) rfl ?_
  refine lv_i2l hx hb dL_colourIn_8 rfl ?_
  have hPO := zapp hP hO
  refine zr_last0 hx hb hK hPO hN2 rfl hA2 hS 14 2 rfl rfl dL_colourIn_9 (fun H locs hPO hS => ?_)
  have hPO : va_P D vwCl ((wC cI cZ q pa sp al dg co da mb dd ah wl lo n td wn) ++ wO cJ o (vp_updL f 0 (zI (ca co da mb dd td n p k)).toInt64)) H := hPO
  have hP := zleft hPO
  have hO := zright hPO
  refine lv_goto (tgt := 21) hx hb dL_colourIn_10 (by decide) ?_
  refine zr_iconst hx hb dL_colourIn_21 ?_
  rw [hQ0]
  exact vx_ret (W.iret hx hb hr (fun t ht _ => ⟨⟨rfl, by rw [ht]; exact hP, by rw [ht]; exact hO⟩, hS.F ht⟩) hS.2.2 dL_colourIn_22 hlocks)
set_option maxHeartbeats 4000000 in
set_option maxRecDepth 100000 in
theorem kL_colourInx1 (l : Launch) (D : va_G) (hl0 : l.stackTraces = false) (cI cZ cJ : ClassId) (q : Nat → Nat) (o : Nat) (hN : (zLC q).Nodup) (hN2 : (zLC q ++ [o]).Nodup) (pa : Int → Int) (sp : Int → Int) (al : Int → Int) (dg : Int → Int) (co : Int → Int) (da : Int → Int) (mb : Int → Int) (dd : Int → Int) (ah : Int → Int) (wl : Int → Int) (lo : Int → Int) (n : Nat) (td : Int) (wn : Int) (f : Nat → Int64) (hn : n ≤ 16) (p : Int) (k : Int) (h0 : -2147483648 ≤ p ∧ p ≤ 2147483647) (h1 : ¬ (0 ≤ p ∧ p < (n : Int))) : zLW l yL_colourIn wsL_colourIn ({ frames := 8, cells := 1, slots := 6, locals := 133 }) D [(cI, .int), (cZ, .boolean), (cJ, .long)] cJ [.ref (q 0), .int (zI p), .int (zI k), .ref o] (wC cI cZ q pa sp al dg co da mb dd ah wl lo n td wn) (wC cI cZ q pa sp al dg co da mb dd ah wl lo n td wn) o f f 1 (zLC q) 1 6 := by
  refine vx_ofWH (cc := cL_colourIn) (maxL := 5) (ret := some .int) (hh := [(0, 10, 13, 19), (0, 10, 17, 25)]) (by decide) rfl ?_
  intro p0 e9 s9 m9 ag9 below meth c9 s₁ B hml hv
  obtain ⟨hav, hP, hO, hK, hT, hE⟩ := hv
  have hx := B.exec
  have hb := B.bytes
  have hr := B.returns
  have hts := atoms_spec (ws := wsL_colourIn) B.pre
  have hown : s9.vm.findClass RL = some m9.cls := findClass_of_methodNamed B.named
  have hlocks := B.notSynchronized
  have hA : ∀ a ∈ zLC q, (fun a => a ∈ zLC q ++ [o]) a := fun _ h => List.mem_append_left _ h
  have hA2 : ∀ a ∈ zLC q ++ [o], (fun a => a ∈ zLC q ++ [o]) a := fun _ h => h
  have hoL : ∀ a ∈ [o], a ∉ zLC q := fun a ha h => (List.nodup_append.mp hN2).2.2 a h a ha rfl
  have htab := vx_table (x := yL_colourIn) B (hts (.codeWith yL_colourIn cL_colourIn 5 (some .int) [(0, 10, 13, 19), (0, 10, 17, 25)]) (by rw [show wsL_colourIn = _ from rfl]; exact List.mem_cons_self))
  have hl := lv_entry ([.ref (q 0), .int (zI p), .int (zI k), .ref o]) (n := 5) (Nat.le_of_ble_eq_true rfl)
  have hE0 : entryFrame m9 ag9 5 = F0 m9 0 ((lg_sl ([.ref (q 0), .int (zI p), .int (zI k), .ref o]) ++ List.replicate (5 - (lg_sl ([.ref (q 0), .int (zI p), .int (zI k), .ref o])).length) Slot.unset).toArray) [] := by rw [hav]; exact lg_entry_eq m9 _ _
  obtain ⟨Q0, hQ0⟩ : ∃ Q0, Q0 = vx_MQ below (zQL D (wC cI cZ q pa sp al dg co da mb dd ah wl lo n td wn) cJ o f 1 (zLC q)) zF ag9 s9 1 6 (fun a => a ∈ zLC q ++ [o]) := ⟨_, rfl⟩
  show W p0 l e9 ({ frames := 8, cells := 1, slots := 6, locals := 133 }) s9 m9 ag9 below meth c9 s9.heap [] 0 0 (vx_MQ below (zQL D (wC cI cZ q pa sp al dg co da mb dd ah wl lo n td wn) cJ o f 1 (zLC q)) zF ag9 s9 1 6 (fun a => a ∈ zLC q ++ [o])) _
  rw [hE0, ← hQ0]
  have hS : va_S (fun a => a ∈ zLC q ++ [o]) s9.heap s9.heap [] := va_S.rf
  generalize hH0 : s9.heap = H at hP hO ⊢
  have hS : va_S (fun a => a ∈ zLC q ++ [o]) s9.heap H [] := by rw [hH0] at hS ⊢; exact hS
  have hT : zT (fun a => a ∈ zLC q) s9 H := by rw [hH0] at hT; exact hT
  generalize (lg_sl ([.ref (q 0), .int (zI p), .int (zI k), .ref o]) ++ List.replicate (5 - (lg_sl ([.ref (q 0), .int (zI p), .int (zI k), .ref o])).length) Slot.unset).toArray = ls at hl ⊢
  have hl : lv_has ls 5 [(0, .ref (q 0)), (1, .int (zI p)), (2, .int (zI k)), (3, .ref o)] := hl
  refine lv_aload_n hx hb dL_colourIn_0 rfl (lv_at hl 3 rfl) ?_
  refine zr_iconst hx hb dL_colourIn_1 ?_
  refine lv_aload_n hx hb dL_colourIn_2 rfl (lv_at hl 0 rfl) ?_
  refine lv_iload_n hx hb dL_colourIn_3 rfl (lv_at hl 1 rfl) ?_
  refine lv_iload_n hx hb dL_colourIn_4 rfl (lv_at hl 2 rfl) ?_
  refine zcallXV (ci := 2) (q0 := 0) (cq := (RX2, TX2, 9)) (As := [.int (zI p), .int (zI k)]) (rest := [.int (zI 0), .ref o]) ⟨hx, hb, hml, hown, hts⟩ (hK.sub (tys' := [(cI, .int), (cZ, .boolean)]) [0, 1] rfl) (kX2_colourInx1 l D hl0 cI cZ q hN pa sp al dg co da mb dd ah wl lo n td wn hn p k h0 h1) (cwV 2 hts gL_colourIn_X2_colourIn rfl rfl rfl (by decide +kernel) ⟨Nat.le_of_ble_eq_true rfl, Nat.le_of_ble_eq_true rfl⟩) hP hT hS hA rfl rfl rfl hl.1 rfl (Nat.le_of_ble_eq_true rfl) dL_colourIn_5 ⟨Nat.le_of_ble_eq_true rfl, Nat.le_of_ble_eq_true rfl⟩ (fun ce q9 H locs hP hS _ hkk hce hcv hcl => ?_)
  have hO := zkeep hO hkk hoL
  refine vx_catch (E := "java/lang/IndexOutOfBoundsException") (name := "java/lang/IndexOutOfBoundsException") hown [] ⟨0, 10, 13, 19⟩ [⟨0, 10, 17, 25⟩] (by rw [htab]; rfl) (fun z hz => nomatch hz) (by decide) (by decide) (hts (.classLink RL 19 "java/lang/IndexOutOfBoundsException") (by decide +kernel)) (show (Cond.castable zIO zIO).before _ s9 = true from hE.1.1) hce hcv hcl ?_
  refine lv_astore (lv' := [(4, .ref q9), (0, .ref (q 0)), (1, .int (zI p)), (2, .int (zI k)), (3, .ref o)]) hx hb dL_colourIn_13 hl (by decide) rfl (fun ls hl => ?_)
  refine zr_iconst hx hb dL_colourIn_15 ?_
  rw [hQ0]
  exact vx_ret (W.iret hx hb hr (fun t ht _ => ⟨⟨rfl, by rw [ht]; exact hP, by rw [ht]; exact hO⟩, hS.F ht⟩) hS.2.2 dL_colourIn_16 hlocks)
set_option maxHeartbeats 4000000 in
set_option maxRecDepth 100000 in
theorem kL_colourInx2 (l : Launch) (D : va_G) (hl0 : l.stackTraces = false) (cI cZ cJ : ClassId) (q : Nat → Nat) (o : Nat) (hN : (zLC q).Nodup) (hN2 : (zLC q ++ [o]).Nodup) (pa : Int → Int) (sp : Int → Int) (al : Int → Int) (dg : Int → Int) (co : Int → Int) (da : Int → Int) (mb : Int → Int) (dd : Int → Int) (ah : Int → Int) (wl : Int → Int) (lo : Int → Int) (n : Nat) (td : Int) (wn : Int) (f : Nat → Int64) (hn : n ≤ 16) (p : Int) (k : Int) (h0 : -2147483648 ≤ k ∧ k ≤ 2147483647) (h1 : 0 ≤ p ∧ p < (n : Int)) (h2 : ¬ (0 ≤ k ∧ k ≤ 200)) : zLW l yL_colourIn wsL_colourIn ({ frames := 8, cells := 1, slots := 6, locals := 133 }) D [(cI, .int), (cZ, .boolean), (cJ, .long)] cJ [.ref (q 0), .int (zI p), .int (zI k), .ref o] (wC cI cZ q pa sp al dg co da mb dd ah wl lo n td wn) (wC cI cZ q pa sp al dg co da mb dd ah wl lo n td wn) o f f 2 (zLC q) 1 6 := by
  refine vx_ofWH (cc := cL_colourIn) (maxL := 5) (ret := some .int) (hh := [(0, 10, 13, 19), (0, 10, 17, 25)]) (by decide) rfl ?_
  intro p0 e9 s9 m9 ag9 below meth c9 s₁ B hml hv
  obtain ⟨hav, hP, hO, hK, hT, hE⟩ := hv
  have hx := B.exec
  have hb := B.bytes
  have hr := B.returns
  have hts := atoms_spec (ws := wsL_colourIn) B.pre
  have hown : s9.vm.findClass RL = some m9.cls := findClass_of_methodNamed B.named
  have hlocks := B.notSynchronized
  have hA : ∀ a ∈ zLC q, (fun a => a ∈ zLC q ++ [o]) a := fun _ h => List.mem_append_left _ h
  have hA2 : ∀ a ∈ zLC q ++ [o], (fun a => a ∈ zLC q ++ [o]) a := fun _ h => h
  have hoL : ∀ a ∈ [o], a ∉ zLC q := fun a ha h => (List.nodup_append.mp hN2).2.2 a h a ha rfl
  have htab := vx_table (x := yL_colourIn) B (hts (.codeWith yL_colourIn cL_colourIn 5 (some .int) [(0, 10, 13, 19), (0, 10, 17, 25)]) (by rw [show wsL_colourIn = _ from rfl]; exact List.mem_cons_self))
  have hl := lv_entry ([.ref (q 0), .int (zI p), .int (zI k), .ref o]) (n := 5) (Nat.le_of_ble_eq_true rfl)
  have hE0 : entryFrame m9 ag9 5 = F0 m9 0 ((lg_sl ([.ref (q 0), .int (zI p), .int (zI k), .ref o]) ++ List.replicate (5 - (lg_sl ([.ref (q 0), .int (zI p), .int (zI k), .ref o])).length) Slot.unset).toArray) [] := by rw [hav]; exact lg_entry_eq m9 _ _
  obtain ⟨Q0, hQ0⟩ : ∃ Q0, Q0 = vx_MQ below (zQL D (wC cI cZ q pa sp al dg co da mb dd ah wl lo n td wn) cJ o f 2 (zLC q)) zF ag9 s9 1 6 (fun a => a ∈ zLC q ++ [o]) := ⟨_, rfl⟩
  show W p0 l e9 ({ frames := 8, cells := 1, slots := 6, locals := 133 }) s9 m9 ag9 below meth c9 s9.heap [] 0 0 (vx_MQ below (zQL D (wC cI cZ q pa sp al dg co da mb dd ah wl lo n td wn) cJ o f 2 (zLC q)) zF ag9 s9 1 6 (fun a => a ∈ zLC q ++ [o])) _
  rw [hE0, ← hQ0]
  have hS : va_S (fun a => a ∈ zLC q ++ [o]) s9.heap s9.heap [] := va_S.rf
  generalize hH0 : s9.heap = H at hP hO ⊢
  have hS : va_S (fun a => a ∈ zLC q ++ [o]) s9.heap H [] := by rw [hH0] at hS ⊢; exact hS
  have hT : zT (fun a => a ∈ zLC q) s9 H := by rw [hH0] at hT; exact hT
  generalize (lg_sl ([.ref (q 0), .int (zI p), .int (zI k), .ref o]) ++ List.replicate (5 - (lg_sl ([.ref (q 0), .int (zI p), .int (zI k), .ref o])).length) Slot.unset).toArray = ls at hl ⊢
  have hl : lv_has ls 5 [(0, .ref (q 0)), (1, .int (zI p)), (2, .int (zI k)), (3, .ref o)] := hl
  refine lv_aload_n hx hb dL_colourIn_0 rfl (lv_at hl 3 rfl) ?_
  refine zr_iconst hx hb dL_colourIn_1 ?_
  refine lv_aload_n hx hb dL_colourIn_2 rfl (lv_at hl 0 rfl) ?_
  refine lv_iload_n hx hb dL_colourIn_3 rfl (lv_at hl 1 rfl) ?_
  refine lv_iload_n hx hb dL_colourIn_4 rfl (lv_at hl 2 rfl) ?_
  refine zcallXV (ci := 2) (q0 := 0) (cq := (RX2, TX2, 9)) (As := [.int (zI p), .int (zI k)]) (rest := [.int (zI 0), .ref o]) ⟨hx, hb, hml, hown, hts⟩ (hK.sub (tys' := [(cI, .int), (cZ, .boolean)]) [0, 1] rfl) (kX2_colourInx2 l D hl0 cI cZ q hN pa sp al dg co da mb dd ah wl lo n td wn hn p k h0 h1 h2) (cwV 2 hts gL_colourIn_X2_colourIn rfl rfl rfl (by decide +kernel) ⟨Nat.le_of_ble_eq_true rfl, Nat.le_of_ble_eq_true rfl⟩) hP hT hS hA rfl rfl rfl hl.1 rfl (Nat.le_of_ble_eq_true rfl) dL_colourIn_5 ⟨Nat.le_of_ble_eq_true rfl, Nat.le_of_ble_eq_true rfl⟩ (fun ce q9 H locs hP hS _ hkk hce hcv hcl => ?_)
  have hO := zkeep hO hkk hoL
  refine vx_catch (E := "java/lang/IllegalArgumentException") (name := "java/lang/IllegalArgumentException") hown [⟨0, 10, 13, 19⟩] ⟨0, 10, 17, 25⟩ [] (by rw [htab]; rfl) (fun z hz => by
    simp only [List.mem_cons, List.not_mem_nil, or_false] at hz
    subst hz
    exact Or.inr ⟨by decide, "java/lang/IndexOutOfBoundsException", hts (.classLink RL 19 "java/lang/IndexOutOfBoundsException") (by decide +kernel), hE.2.2.1⟩) (by decide) (by decide) (hts (.classLink RL 25 "java/lang/IllegalArgumentException") (by decide +kernel)) (show (Cond.castable zIA zIA).before _ s9 = true from hE.1.2.2) hce hcv hcl ?_
  refine lv_astore (lv' := [(4, .ref q9), (0, .ref (q 0)), (1, .int (zI p)), (2, .int (zI k)), (3, .ref o)]) hx hb dL_colourIn_17 hl (by decide) rfl (fun ls hl => ?_)
  refine zr_iconst hx hb dL_colourIn_19 ?_
  rw [hQ0]
  exact vx_ret (W.iret hx hb hr (fun t ht _ => ⟨⟨rfl, by rw [ht]; exact hP, by rw [ht]; exact hO⟩, hS.F ht⟩) hS.2.2 dL_colourIn_20 hlocks)
set_option maxHeartbeats 4000000 in
set_option maxRecDepth 100000 in
theorem kL_mourningsOfok (l : Launch) (D : va_G) (hl0 : l.stackTraces = false) (cI cZ cJ : ClassId) (q : Nat → Nat) (o : Nat) (hN : (zLC q).Nodup) (hN2 : (zLC q ++ [o]).Nodup) (pa : Int → Int) (sp : Int → Int) (al : Int → Int) (dg : Int → Int) (co : Int → Int) (da : Int → Int) (mb : Int → Int) (dd : Int → Int) (ah : Int → Int) (wl : Int → Int) (lo : Int → Int) (n : Nat) (td : Int) (wn : Int) (f : Nat → Int64) (hn : n ≤ 16) (hda : ∀ j : Int, 0 ≤ da j ∧ da j ≤ 60) (hmb : ∀ j : Int, 0 ≤ mb j ∧ mb j ≤ 4) (hdd : ∀ j : Int, 0 ≤ dd j ∧ dd j ≤ 1000000) (htd : 0 ≤ td ∧ td ≤ 1000000) (p : Int) (h1 : 0 ≤ p ∧ p < (n : Int)) : zLW l yL_mourningsOf wsL_mourningsOf ({ frames := 8, cells := 0, slots := 0, locals := 132 }) D [(cI, .int), (cZ, .boolean), (cJ, .long)] cJ [.ref (q 0), .int (zI p), .ref o] (wC cI cZ q pa sp al dg co da mb dd ah wl lo n td wn) (wC cI cZ q pa sp al dg co da mb dd ah wl lo n td wn) o f (vp_updL f 0 (zI (smF (gtF (lf da mb dd td p)) n)).toInt64) 0 (zLC q) 0 0 := by
  refine vx_ofWH (cc := cL_mourningsOf) (maxL := 4) (ret := some .int) (hh := [(0, 9, 12, 19)]) (by decide) rfl ?_
  intro p0 e9 s9 m9 ag9 below meth c9 s₁ B hml hv
  obtain ⟨hav, hP, hO, hK, hT, hE⟩ := hv
  have hx := B.exec
  have hb := B.bytes
  have hr := B.returns
  have hts := atoms_spec (ws := wsL_mourningsOf) B.pre
  have hown : s9.vm.findClass RL = some m9.cls := findClass_of_methodNamed B.named
  have hlocks := B.notSynchronized
  have hA : ∀ a ∈ zLC q, (fun a => a ∈ zLC q ++ [o]) a := fun _ h => List.mem_append_left _ h
  have hA2 : ∀ a ∈ zLC q ++ [o], (fun a => a ∈ zLC q ++ [o]) a := fun _ h => h
  have hoL : ∀ a ∈ [o], a ∉ zLC q := fun a ha h => (List.nodup_append.mp hN2).2.2 a h a ha rfl
  have hl := lv_entry ([.ref (q 0), .int (zI p), .ref o]) (n := 4) (Nat.le_of_ble_eq_true rfl)
  have hE0 : entryFrame m9 ag9 4 = F0 m9 0 ((lg_sl ([.ref (q 0), .int (zI p), .ref o]) ++ List.replicate (4 - (lg_sl ([.ref (q 0), .int (zI p), .ref o])).length) Slot.unset).toArray) [] := by rw [hav]; exact lg_entry_eq m9 _ _
  obtain ⟨Q0, hQ0⟩ : ∃ Q0, Q0 = vx_MQ below (zQL D (wC cI cZ q pa sp al dg co da mb dd ah wl lo n td wn) cJ o (vp_updL f 0 (zI (smF (gtF (lf da mb dd td p)) n)).toInt64) 0 (zLC q)) zF ag9 s9 0 0 (fun a => a ∈ zLC q ++ [o]) := ⟨_, rfl⟩
  show W p0 l e9 ({ frames := 8, cells := 0, slots := 0, locals := 132 }) s9 m9 ag9 below meth c9 s9.heap [] 0 0 (vx_MQ below (zQL D (wC cI cZ q pa sp al dg co da mb dd ah wl lo n td wn) cJ o (vp_updL f 0 (zI (smF (gtF (lf da mb dd td p)) n)).toInt64) 0 (zLC q)) zF ag9 s9 0 0 (fun a => a ∈ zLC q ++ [o])) _
  rw [hE0, ← hQ0]
  have hS : va_S (fun a => a ∈ zLC q ++ [o]) s9.heap s9.heap [] := va_S.rf
  generalize hH0 : s9.heap = H at hP hO ⊢
  have hS : va_S (fun a => a ∈ zLC q ++ [o]) s9.heap H [] := by rw [hH0] at hS ⊢; exact hS
  have hT : zT (fun a => a ∈ zLC q) s9 H := by rw [hH0] at hT; exact hT
  generalize (lg_sl ([.ref (q 0), .int (zI p), .ref o]) ++ List.replicate (4 - (lg_sl ([.ref (q 0), .int (zI p), .ref o])).length) Slot.unset).toArray = ls at hl ⊢
  have hl : lv_has ls 4 [(0, .ref (q 0)), (1, .int (zI p)), (2, .ref o)] := hl
  refine lv_aload_n hx hb dL_mourningsOf_0 rfl (lv_at hl 2 rfl) ?_
  refine zr_iconst hx hb dL_mourningsOf_1 ?_
  refine lv_aload_n hx hb dL_mourningsOf_2 rfl (lv_at hl 0 rfl) ?_
  refine lv_iload_n hx hb dL_mourningsOf_3 rfl (lv_at hl 1 rfl) ?_
  refine zcallV (ci := 2) (q0 := 0) (cq := (RX2, TX2, 9)) (As := [.int (zI p)]) (rest := [.int (zI 0), .ref o]) ⟨hx, hb, hml, hown, hts⟩ (hK.sub (tys' := [(cI, .int), (cZ, .boolean)]) [0, 1] rfl) (kX2_mourningsOfok l D cI cZ q hN pa sp al dg co da mb dd ah wl lo n td wn hn hda hmb hdd htd p h1) (cwV 1 hts gL_mourningsOf_X2_mourningsOf rfl rfl rfl (by decide +kernel) ⟨Nat.le_of_ble_eq_true rfl, Nat.le_of_ble_eq_true rfl⟩) hP hS hA rfl rfl rfl hl.1 rfl (Nat.le_of_ble_eq_true rfl) dL_mourningsOf_4 ⟨Nat.zero_le _, Nat.zero_le _⟩ (fun H locs hP hS _ hkk => ?_)
  have hO := zkeep hO hkk hoL
  refine W.eq (g2 := F0 m9 7 ls [.int (zI (smF (gtF (lf da mb dd td p)) n)), .int (zI 0), .ref o]) rfl ?_
  refine lv_i2l hx hb dL_mourningsOf_7 rfl ?_
  have hPO := zapp hP hO
  refine zr_last0 hx hb hK hPO hN2 rfl hA2 hS 14 2 rfl rfl dL_mourningsOf_8 (fun H locs hPO hS => ?_)
  have hPO : va_P D vwCl ((wC cI cZ q pa sp al dg co da mb dd ah wl lo n td wn) ++ wO cJ o (vp_updL f 0 (zI (smF (gtF (lf da mb dd td p)) n)).toInt64)) H := hPO
  have hP := zleft hPO
  have hO := zright hPO
  refine lv_goto (tgt := 15) hx hb dL_mourningsOf_9 (by decide) ?_
  refine zr_iconst hx hb dL_mourningsOf_15 ?_
  rw [hQ0]
  exact vx_ret (W.iret hx hb hr (fun t ht _ => ⟨⟨rfl, by rw [ht]; exact hP, by rw [ht]; exact hO⟩, hS.F ht⟩) hS.2.2 dL_mourningsOf_16 hlocks)
set_option maxHeartbeats 4000000 in
set_option maxRecDepth 100000 in
theorem kL_mourningsOfx1 (l : Launch) (D : va_G) (hl0 : l.stackTraces = false) (cI cZ cJ : ClassId) (q : Nat → Nat) (o : Nat) (hN : (zLC q).Nodup) (hN2 : (zLC q ++ [o]).Nodup) (pa : Int → Int) (sp : Int → Int) (al : Int → Int) (dg : Int → Int) (co : Int → Int) (da : Int → Int) (mb : Int → Int) (dd : Int → Int) (ah : Int → Int) (wl : Int → Int) (lo : Int → Int) (n : Nat) (td : Int) (wn : Int) (f : Nat → Int64) (hn : n ≤ 16) (p : Int) (h0 : -2147483648 ≤ p ∧ p ≤ 2147483647) (h1 : ¬ (0 ≤ p ∧ p < (n : Int))) : zLW l yL_mourningsOf wsL_mourningsOf ({ frames := 8, cells := 1, slots := 6, locals := 132 }) D [(cI, .int), (cZ, .boolean), (cJ, .long)] cJ [.ref (q 0), .int (zI p), .ref o] (wC cI cZ q pa sp al dg co da mb dd ah wl lo n td wn) (wC cI cZ q pa sp al dg co da mb dd ah wl lo n td wn) o f f 1 (zLC q) 1 6 := by
  refine vx_ofWH (cc := cL_mourningsOf) (maxL := 4) (ret := some .int) (hh := [(0, 9, 12, 19)]) (by decide) rfl ?_
  intro p0 e9 s9 m9 ag9 below meth c9 s₁ B hml hv
  obtain ⟨hav, hP, hO, hK, hT, hE⟩ := hv
  have hx := B.exec
  have hb := B.bytes
  have hr := B.returns
  have hts := atoms_spec (ws := wsL_mourningsOf) B.pre
  have hown : s9.vm.findClass RL = some m9.cls := findClass_of_methodNamed B.named
  have hlocks := B.notSynchronized
  have hA : ∀ a ∈ zLC q, (fun a => a ∈ zLC q ++ [o]) a := fun _ h => List.mem_append_left _ h
  have hA2 : ∀ a ∈ zLC q ++ [o], (fun a => a ∈ zLC q ++ [o]) a := fun _ h => h
  have hoL : ∀ a ∈ [o], a ∉ zLC q := fun a ha h => (List.nodup_append.mp hN2).2.2 a h a ha rfl
  have htab := vx_table (x := yL_mourningsOf) B (hts (.codeWith yL_mourningsOf cL_mourningsOf 4 (some .int) [(0, 9, 12, 19)]) (by rw [show wsL_mourningsOf = _ from rfl]; exact List.mem_cons_self))
  have hl := lv_entry ([.ref (q 0), .int (zI p), .ref o]) (n := 4) (Nat.le_of_ble_eq_true rfl)
  have hE0 : entryFrame m9 ag9 4 = F0 m9 0 ((lg_sl ([.ref (q 0), .int (zI p), .ref o]) ++ List.replicate (4 - (lg_sl ([.ref (q 0), .int (zI p), .ref o])).length) Slot.unset).toArray) [] := by rw [hav]; exact lg_entry_eq m9 _ _
  obtain ⟨Q0, hQ0⟩ : ∃ Q0, Q0 = vx_MQ below (zQL D (wC cI cZ q pa sp al dg co da mb dd ah wl lo n td wn) cJ o f 1 (zLC q)) zF ag9 s9 1 6 (fun a => a ∈ zLC q ++ [o]) := ⟨_, rfl⟩
  show W p0 l e9 ({ frames := 8, cells := 1, slots := 6, locals := 132 }) s9 m9 ag9 below meth c9 s9.heap [] 0 0 (vx_MQ below (zQL D (wC cI cZ q pa sp al dg co da mb dd ah wl lo n td wn) cJ o f 1 (zLC q)) zF ag9 s9 1 6 (fun a => a ∈ zLC q ++ [o])) _
  rw [hE0, ← hQ0]
  have hS : va_S (fun a => a ∈ zLC q ++ [o]) s9.heap s9.heap [] := va_S.rf
  generalize hH0 : s9.heap = H at hP hO ⊢
  have hS : va_S (fun a => a ∈ zLC q ++ [o]) s9.heap H [] := by rw [hH0] at hS ⊢; exact hS
  have hT : zT (fun a => a ∈ zLC q) s9 H := by rw [hH0] at hT; exact hT
  generalize (lg_sl ([.ref (q 0), .int (zI p), .ref o]) ++ List.replicate (4 - (lg_sl ([.ref (q 0), .int (zI p), .ref o])).length) Slot.unset).toArray = ls at hl ⊢
  have hl : lv_has ls 4 [(0, .ref (q 0)), (1, .int (zI p)), (2, .ref o)] := hl
  refine lv_aload_n hx hb dL_mourningsOf_0 rfl (lv_at hl 2 rfl) ?_
  refine zr_iconst hx hb dL_mourningsOf_1 ?_
  refine lv_aload_n hx hb dL_mourningsOf_2 rfl (lv_at hl 0 rfl) ?_
  refine lv_iload_n hx hb dL_mourningsOf_3 rfl (lv_at hl 1 rfl) ?_
  refine zcallXV (ci := 2) (q0 := 0) (cq := (RX2, TX2, 9)) (As := [.int (zI p)]) (rest := [.int (zI 0), .ref o]) ⟨hx, hb, hml, hown, hts⟩ (hK.sub (tys' := [(cI, .int), (cZ, .boolean)]) [0, 1] rfl) (kX2_mourningsOfx1 l D hl0 cI cZ q hN pa sp al dg co da mb dd ah wl lo n td wn hn p h0 h1) (cwV 1 hts gL_mourningsOf_X2_mourningsOf rfl rfl rfl (by decide +kernel) ⟨Nat.le_of_ble_eq_true rfl, Nat.le_of_ble_eq_true rfl⟩) hP hT hS hA rfl rfl rfl hl.1 rfl (Nat.le_of_ble_eq_true rfl) dL_mourningsOf_4 ⟨Nat.le_of_ble_eq_true rfl, Nat.le_of_ble_eq_true rfl⟩ (fun ce q9 H locs hP hS _ hkk hce hcv hcl => ?_)
  have hO := zkeep hO hkk hoL
  refine vx_catch (E := "java/lang/IndexOutOfBoundsException") (name := "java/lang/IndexOutOfBoundsException") hown [] ⟨0, 9, 12, 19⟩ [] (by rw [htab]; rfl) (fun z hz => nomatch hz) (by decide) (by decide) (hts (.classLink RL 19 "java/lang/IndexOutOfBoundsException") (by decide +kernel)) (show (Cond.castable zIO zIO).before _ s9 = true from hE.1.1) hce hcv hcl ?_
  refine lv_astore_n (lv' := [(3, .ref q9), (0, .ref (q 0)), (1, .int (zI p)), (2, .ref o)]) hx hb dL_mourningsOf_12 rfl hl (by decide) rfl (fun ls hl => ?_)
  refine zr_iconst hx hb dL_mourningsOf_13 ?_
  rw [hQ0]
  exact vx_ret (W.iret hx hb hr (fun t ht _ => ⟨⟨rfl, by rw [ht]; exact hP, by rw [ht]; exact hO⟩, hS.F ht⟩) hS.2.2 dL_mourningsOf_14 hlocks)
set_option maxHeartbeats 4000000 in
set_option maxRecDepth 100000 in
theorem kL_daysLeftForok (l : Launch) (D : va_G) (hl0 : l.stackTraces = false) (cI cZ cJ : ClassId) (q : Nat → Nat) (o : Nat) (hN : (zLC q).Nodup) (hN2 : (zLC q ++ [o]).Nodup) (pa : Int → Int) (sp : Int → Int) (al : Int → Int) (dg : Int → Int) (co : Int → Int) (da : Int → Int) (mb : Int → Int) (dd : Int → Int) (ah : Int → Int) (wl : Int → Int) (lo : Int → Int) (n : Nat) (td : Int) (wn : Int) (f : Nat → Int64) (hn : n ≤ 16) (hda : ∀ j : Int, 0 ≤ da j ∧ da j ≤ 60) (hmb : ∀ j : Int, 0 ≤ mb j ∧ mb j ≤ 4) (hdd : ∀ j : Int, 0 ≤ dd j ∧ dd j ≤ 1000000) (htd : 0 ≤ td ∧ td ≤ 1000000) (p : Int) (d : Int) (h1 : 0 ≤ p ∧ p < (n : Int)) (h2 : 0 ≤ d ∧ d < (n : Int)) : zLW l yL_daysLeftFor wsL_daysLeftFor ({ frames := 8, cells := 0, slots := 0, locals := 133 }) D [(cI, .int), (cZ, .boolean), (cJ, .long)] cJ [.ref (q 0), .int (zI p), .int (zI d), .ref o] (wC cI cZ q pa sp al dg co da mb dd ah wl lo n td wn) (wC cI cZ q pa sp al dg co da mb dd ah wl lo n td wn) o f (vp_updL f 0 (zI (lf da mb dd td p d)).toInt64) 0 (zLC q) 0 0 := by
  refine vx_ofWH (cc := cL_daysLeftFor) (maxL := 5) (ret := some .int) (hh := [(0, 10, 13, 19)]) (by decide) rfl ?_
  intro p0 e9 s9 m9 ag9 below meth c9 s₁ B hml hv
  obtain ⟨hav, hP, hO, hK, hT, hE⟩ := hv
  have hx := B.exec
  have hb := B.bytes
  have hr := B.returns
  have hts := atoms_spec (ws := wsL_daysLeftFor) B.pre
  have hown : s9.vm.findClass RL = some m9.cls := findClass_of_methodNamed B.named
  have hlocks := B.notSynchronized
  have hA : ∀ a ∈ zLC q, (fun a => a ∈ zLC q ++ [o]) a := fun _ h => List.mem_append_left _ h
  have hA2 : ∀ a ∈ zLC q ++ [o], (fun a => a ∈ zLC q ++ [o]) a := fun _ h => h
  have hoL : ∀ a ∈ [o], a ∉ zLC q := fun a ha h => (List.nodup_append.mp hN2).2.2 a h a ha rfl
  have hl := lv_entry ([.ref (q 0), .int (zI p), .int (zI d), .ref o]) (n := 5) (Nat.le_of_ble_eq_true rfl)
  have hE0 : entryFrame m9 ag9 5 = F0 m9 0 ((lg_sl ([.ref (q 0), .int (zI p), .int (zI d), .ref o]) ++ List.replicate (5 - (lg_sl ([.ref (q 0), .int (zI p), .int (zI d), .ref o])).length) Slot.unset).toArray) [] := by rw [hav]; exact lg_entry_eq m9 _ _
  obtain ⟨Q0, hQ0⟩ : ∃ Q0, Q0 = vx_MQ below (zQL D (wC cI cZ q pa sp al dg co da mb dd ah wl lo n td wn) cJ o (vp_updL f 0 (zI (lf da mb dd td p d)).toInt64) 0 (zLC q)) zF ag9 s9 0 0 (fun a => a ∈ zLC q ++ [o]) := ⟨_, rfl⟩
  show W p0 l e9 ({ frames := 8, cells := 0, slots := 0, locals := 133 }) s9 m9 ag9 below meth c9 s9.heap [] 0 0 (vx_MQ below (zQL D (wC cI cZ q pa sp al dg co da mb dd ah wl lo n td wn) cJ o (vp_updL f 0 (zI (lf da mb dd td p d)).toInt64) 0 (zLC q)) zF ag9 s9 0 0 (fun a => a ∈ zLC q ++ [o])) _
  rw [hE0, ← hQ0]
  have hS : va_S (fun a => a ∈ zLC q ++ [o]) s9.heap s9.heap [] := va_S.rf
  generalize hH0 : s9.heap = H at hP hO ⊢
  have hS : va_S (fun a => a ∈ zLC q ++ [o]) s9.heap H [] := by rw [hH0] at hS ⊢; exact hS
  have hT : zT (fun a => a ∈ zLC q) s9 H := by rw [hH0] at hT; exact hT
  generalize (lg_sl ([.ref (q 0), .int (zI p), .int (zI d), .ref o]) ++ List.replicate (5 - (lg_sl ([.ref (q 0), .int (zI p), .int (zI d), .ref o])).length) Slot.unset).toArray = ls at hl ⊢
  have hl : lv_has ls 5 [(0, .ref (q 0)), (1, .int (zI p)), (2, .int (zI d)), (3, .ref o)] := hl
  refine lv_aload_n hx hb dL_daysLeftFor_0 rfl (lv_at hl 3 rfl) ?_
  refine zr_iconst hx hb dL_daysLeftFor_1 ?_
  refine lv_aload_n hx hb dL_daysLeftFor_2 rfl (lv_at hl 0 rfl) ?_
  refine lv_iload_n hx hb dL_daysLeftFor_3 rfl (lv_at hl 1 rfl) ?_
  refine lv_iload_n hx hb dL_daysLeftFor_4 rfl (lv_at hl 2 rfl) ?_
  refine zcallV (ci := 2) (q0 := 0) (cq := (RX2, TX2, 9)) (As := [.int (zI p), .int (zI d)]) (rest := [.int (zI 0), .ref o]) ⟨hx, hb, hml, hown, hts⟩ (hK.sub (tys' := [(cI, .int), (cZ, .boolean)]) [0, 1] rfl) (kX2_daysLeftForok l D cI cZ q hN pa sp al dg co da mb dd ah wl lo n td wn hn hda hmb hdd htd p d h1 h2) (cwV 2 hts gL_daysLeftFor_X2_daysLeftFor rfl rfl rfl (by decide +kernel) ⟨Nat.le_of_ble_eq_true rfl, Nat.le_of_ble_eq_true rfl⟩) hP hS hA rfl rfl rfl hl.1 rfl (Nat.le_of_ble_eq_true rfl) dL_daysLeftFor_5 ⟨Nat.zero_le _, Nat.zero_le _⟩ (fun H locs hP hS _ hkk => ?_)
  have hO := zkeep hO hkk hoL
  refine W.eq (g2 := F0 m9 8 ls [.int (zI (lf da mb dd td p d)), .int (zI 0), .ref o]) rfl ?_
  refine lv_i2l hx hb dL_daysLeftFor_8 rfl ?_
  have hPO := zapp hP hO
  refine zr_last0 hx hb hK hPO hN2 rfl hA2 hS 14 2 rfl rfl dL_daysLeftFor_9 (fun H locs hPO hS => ?_)
  have hPO : va_P D vwCl ((wC cI cZ q pa sp al dg co da mb dd ah wl lo n td wn) ++ wO cJ o (vp_updL f 0 (zI (lf da mb dd td p d)).toInt64)) H := hPO
  have hP := zleft hPO
  have hO := zright hPO
  refine lv_goto (tgt := 17) hx hb dL_daysLeftFor_10 (by decide) ?_
  refine zr_iconst hx hb dL_daysLeftFor_17 ?_
  rw [hQ0]
  exact vx_ret (W.iret hx hb hr (fun t ht _ => ⟨⟨rfl, by rw [ht]; exact hP, by rw [ht]; exact hO⟩, hS.F ht⟩) hS.2.2 dL_daysLeftFor_18 hlocks)
set_option maxHeartbeats 4000000 in
set_option maxRecDepth 100000 in
theorem kL_daysLeftForx1 (l : Launch) (D : va_G) (hl0 : l.stackTraces = false) (cI cZ cJ : ClassId) (q : Nat → Nat) (o : Nat) (hN : (zLC q).Nodup) (hN2 : (zLC q ++ [o]).Nodup) (pa : Int → Int) (sp : Int → Int) (al : Int → Int) (dg : Int → Int) (co : Int → Int) (da : Int → Int) (mb : Int → Int) (dd : Int → Int) (ah : Int → Int) (wl : Int → Int) (lo : Int → Int) (n : Nat) (td : Int) (wn : Int) (f : Nat → Int64) (hn : n ≤ 16) (p : Int) (d : Int) (h0 : -2147483648 ≤ p ∧ p ≤ 2147483647) (h1 : ¬ (0 ≤ p ∧ p < (n : Int))) : zLW l yL_daysLeftFor wsL_daysLeftFor ({ frames := 8, cells := 1, slots := 6, locals := 133 }) D [(cI, .int), (cZ, .boolean), (cJ, .long)] cJ [.ref (q 0), .int (zI p), .int (zI d), .ref o] (wC cI cZ q pa sp al dg co da mb dd ah wl lo n td wn) (wC cI cZ q pa sp al dg co da mb dd ah wl lo n td wn) o f f 1 (zLC q) 1 6 := by
  refine vx_ofWH (cc := cL_daysLeftFor) (maxL := 5) (ret := some .int) (hh := [(0, 10, 13, 19)]) (by decide) rfl ?_
  intro p0 e9 s9 m9 ag9 below meth c9 s₁ B hml hv
  obtain ⟨hav, hP, hO, hK, hT, hE⟩ := hv
  have hx := B.exec
  have hb := B.bytes
  have hr := B.returns
  have hts := atoms_spec (ws := wsL_daysLeftFor) B.pre
  have hown : s9.vm.findClass RL = some m9.cls := findClass_of_methodNamed B.named
  have hlocks := B.notSynchronized
  have hA : ∀ a ∈ zLC q, (fun a => a ∈ zLC q ++ [o]) a := fun _ h => List.mem_append_left _ h
  have hA2 : ∀ a ∈ zLC q ++ [o], (fun a => a ∈ zLC q ++ [o]) a := fun _ h => h
  have hoL : ∀ a ∈ [o], a ∉ zLC q := fun a ha h => (List.nodup_append.mp hN2).2.2 a h a ha rfl
  have htab := vx_table (x := yL_daysLeftFor) B (hts (.codeWith yL_daysLeftFor cL_daysLeftFor 5 (some .int) [(0, 10, 13, 19)]) (by rw [show wsL_daysLeftFor = _ from rfl]; exact List.mem_cons_self))
  have hl := lv_entry ([.ref (q 0), .int (zI p), .int (zI d), .ref o]) (n := 5) (Nat.le_of_ble_eq_true rfl)
  have hE0 : entryFrame m9 ag9 5 = F0 m9 0 ((lg_sl ([.ref (q 0), .int (zI p), .int (zI d), .ref o]) ++ List.replicate (5 - (lg_sl ([.ref (q 0), .int (zI p), .int (zI d), .ref o])).length) Slot.unset).toArray) [] := by rw [hav]; exact lg_entry_eq m9 _ _
  obtain ⟨Q0, hQ0⟩ : ∃ Q0, Q0 = vx_MQ below (zQL D (wC cI cZ q pa sp al dg co da mb dd ah wl lo n td wn) cJ o f 1 (zLC q)) zF ag9 s9 1 6 (fun a => a ∈ zLC q ++ [o]) := ⟨_, rfl⟩
  show W p0 l e9 ({ frames := 8, cells := 1, slots := 6, locals := 133 }) s9 m9 ag9 below meth c9 s9.heap [] 0 0 (vx_MQ below (zQL D (wC cI cZ q pa sp al dg co da mb dd ah wl lo n td wn) cJ o f 1 (zLC q)) zF ag9 s9 1 6 (fun a => a ∈ zLC q ++ [o])) _
  rw [hE0, ← hQ0]
  have hS : va_S (fun a => a ∈ zLC q ++ [o]) s9.heap s9.heap [] := va_S.rf
  generalize hH0 : s9.heap = H at hP hO ⊢
  have hS : va_S (fun a => a ∈ zLC q ++ [o]) s9.heap H [] := by rw [hH0] at hS ⊢; exact hS
  have hT : zT (fun a => a ∈ zLC q) s9 H := by rw [hH0] at hT; exact hT
  generalize (lg_sl ([.ref (q 0), .int (zI p), .int (zI d), .ref o]) ++ List.replicate (5 - (lg_sl ([.ref (q 0), .int (zI p), .int (zI d), .ref o])).length) Slot.unset).toArray = ls at hl ⊢
  have hl : lv_has ls 5 [(0, .ref (q 0)), (1, .int (zI p)), (2, .int (zI d)), (3, .ref o)] := hl
  refine lv_aload_n hx hb dL_daysLeftFor_0 rfl (lv_at hl 3 rfl) ?_
  refine zr_iconst hx hb dL_daysLeftFor_1 ?_
  refine lv_aload_n hx hb dL_daysLeftFor_2 rfl (lv_at hl 0 rfl) ?_
  refine lv_iload_n hx hb dL_daysLeftFor_3 rfl (lv_at hl 1 rfl) ?_
  refine lv_iload_n hx hb dL_daysLeftFor_4 rfl (lv_at hl 2 rfl) ?_
  refine zcallXV (ci := 2) (q0 := 0) (cq := (RX2, TX2, 9)) (As := [.int (zI p), .int (zI d)]) (rest := [.int (zI 0), .ref o]) ⟨hx, hb, hml, hown, hts⟩ (hK.sub (tys' := [(cI, .int), (cZ, .boolean)]) [0, 1] rfl) (kX2_daysLeftForx1 l D hl0 cI cZ q hN pa sp al dg co da mb dd ah wl lo n td wn hn p d h0 h1) (cwV 2 hts gL_daysLeftFor_X2_daysLeftFor rfl rfl rfl (by decide +kernel) ⟨Nat.le_of_ble_eq_true rfl, Nat.le_of_ble_eq_true rfl⟩) hP hT hS hA rfl rfl rfl hl.1 rfl (Nat.le_of_ble_eq_true rfl) dL_daysLeftFor_5 ⟨Nat.le_of_ble_eq_true rfl, Nat.le_of_ble_eq_true rfl⟩ (fun ce q9 H locs hP hS _ hkk hce hcv hcl => ?_)
  have hO := zkeep hO hkk hoL
  refine vx_catch (E := "java/lang/IndexOutOfBoundsException") (name := "java/lang/IndexOutOfBoundsException") hown [] ⟨0, 10, 13, 19⟩ [] (by rw [htab]; rfl) (fun z hz => nomatch hz) (by decide) (by decide) (hts (.classLink RL 19 "java/lang/IndexOutOfBoundsException") (by decide +kernel)) (show (Cond.castable zIO zIO).before _ s9 = true from hE.1.1) hce hcv hcl ?_
  refine lv_astore (lv' := [(4, .ref q9), (0, .ref (q 0)), (1, .int (zI p)), (2, .int (zI d)), (3, .ref o)]) hx hb dL_daysLeftFor_13 hl (by decide) rfl (fun ls hl => ?_)
  refine zr_iconst hx hb dL_daysLeftFor_15 ?_
  rw [hQ0]
  exact vx_ret (W.iret hx hb hr (fun t ht _ => ⟨⟨rfl, by rw [ht]; exact hP, by rw [ht]; exact hO⟩, hS.F ht⟩) hS.2.2 dL_daysLeftFor_16 hlocks)
set_option maxHeartbeats 4000000 in
set_option maxRecDepth 100000 in
theorem kL_daysLeftForx2 (l : Launch) (D : va_G) (hl0 : l.stackTraces = false) (cI cZ cJ : ClassId) (q : Nat → Nat) (o : Nat) (hN : (zLC q).Nodup) (hN2 : (zLC q ++ [o]).Nodup) (pa : Int → Int) (sp : Int → Int) (al : Int → Int) (dg : Int → Int) (co : Int → Int) (da : Int → Int) (mb : Int → Int) (dd : Int → Int) (ah : Int → Int) (wl : Int → Int) (lo : Int → Int) (n : Nat) (td : Int) (wn : Int) (f : Nat → Int64) (hn : n ≤ 16) (p : Int) (d : Int) (h0 : -2147483648 ≤ d ∧ d ≤ 2147483647) (h1 : 0 ≤ p ∧ p < (n : Int)) (h2 : ¬ (0 ≤ d ∧ d < (n : Int))) : zLW l yL_daysLeftFor wsL_daysLeftFor ({ frames := 8, cells := 1, slots := 6, locals := 133 }) D [(cI, .int), (cZ, .boolean), (cJ, .long)] cJ [.ref (q 0), .int (zI p), .int (zI d), .ref o] (wC cI cZ q pa sp al dg co da mb dd ah wl lo n td wn) (wC cI cZ q pa sp al dg co da mb dd ah wl lo n td wn) o f f 1 (zLC q) 1 6 := by
  refine vx_ofWH (cc := cL_daysLeftFor) (maxL := 5) (ret := some .int) (hh := [(0, 10, 13, 19)]) (by decide) rfl ?_
  intro p0 e9 s9 m9 ag9 below meth c9 s₁ B hml hv
  obtain ⟨hav, hP, hO, hK, hT, hE⟩ := hv
  have hx := B.exec
  have hb := B.bytes
  have hr := B.returns
  have hts := atoms_spec (ws := wsL_daysLeftFor) B.pre
  have hown : s9.vm.findClass RL = some m9.cls := findClass_of_methodNamed B.named
  have hlocks := B.notSynchronized
  have hA : ∀ a ∈ zLC q, (fun a => a ∈ zLC q ++ [o]) a := fun _ h => List.mem_append_left _ h
  have hA2 : ∀ a ∈ zLC q ++ [o], (fun a => a ∈ zLC q ++ [o]) a := fun _ h => h
  have hoL : ∀ a ∈ [o], a ∉ zLC q := fun a ha h => (List.nodup_append.mp hN2).2.2 a h a ha rfl
  have htab := vx_table (x := yL_daysLeftFor) B (hts (.codeWith yL_daysLeftFor cL_daysLeftFor 5 (some .int) [(0, 10, 13, 19)]) (by rw [show wsL_daysLeftFor = _ from rfl]; exact List.mem_cons_self))
  have hl := lv_entry ([.ref (q 0), .int (zI p), .int (zI d), .ref o]) (n := 5) (Nat.le_of_ble_eq_true rfl)
  have hE0 : entryFrame m9 ag9 5 = F0 m9 0 ((lg_sl ([.ref (q 0), .int (zI p), .int (zI d), .ref o]) ++ List.replicate (5 - (lg_sl ([.ref (q 0), .int (zI p), .int (zI d), .ref o])).length) Slot.unset).toArray) [] := by rw [hav]; exact lg_entry_eq m9 _ _
  obtain ⟨Q0, hQ0⟩ : ∃ Q0, Q0 = vx_MQ below (zQL D (wC cI cZ q pa sp al dg co da mb dd ah wl lo n td wn) cJ o f 1 (zLC q)) zF ag9 s9 1 6 (fun a => a ∈ zLC q ++ [o]) := ⟨_, rfl⟩
  show W p0 l e9 ({ frames := 8, cells := 1, slots := 6, locals := 133 }) s9 m9 ag9 below meth c9 s9.heap [] 0 0 (vx_MQ below (zQL D (wC cI cZ q pa sp al dg co da mb dd ah wl lo n td wn) cJ o f 1 (zLC q)) zF ag9 s9 1 6 (fun a => a ∈ zLC q ++ [o])) _
  rw [hE0, ← hQ0]
  have hS : va_S (fun a => a ∈ zLC q ++ [o]) s9.heap s9.heap [] := va_S.rf
  generalize hH0 : s9.heap = H at hP hO ⊢
  have hS : va_S (fun a => a ∈ zLC q ++ [o]) s9.heap H [] := by rw [hH0] at hS ⊢; exact hS
  have hT : zT (fun a => a ∈ zLC q) s9 H := by rw [hH0] at hT; exact hT
  generalize (lg_sl ([.ref (q 0), .int (zI p), .int (zI d), .ref o]) ++ List.replicate (5 - (lg_sl ([.ref (q 0), .int (zI p), .int (zI d), .ref o])).length) Slot.unset).toArray = ls at hl ⊢
  have hl : lv_has ls 5 [(0, .ref (q 0)), (1, .int (zI p)), (2, .int (zI d)), (3, .ref o)] := hl
  refine lv_aload_n hx hb dL_daysLeftFor_0 rfl (lv_at hl 3 rfl) ?_
  refine zr_iconst hx hb dL_daysLeftFor_1 ?_
  refine lv_aload_n hx hb dL_daysLeftFor_2 rfl (lv_at hl 0 rfl) ?_
  refine lv_iload_n hx hb dL_daysLeftFor_3 rfl (lv_at hl 1 rfl) ?_
  refine lv_iload_n hx hb dL_daysLeftFor_4 rfl (lv_at hl 2 rfl) ?_
  refine zcallXV (ci := 2) (q0 := 0) (cq := (RX2, TX2, 9)) (As := [.int (zI p), .int (zI d)]) (rest := [.int (zI 0), .ref o]) ⟨hx, hb, hml, hown, hts⟩ (hK.sub (tys' := [(cI, .int), (cZ, .boolean)]) [0, 1] rfl) (kX2_daysLeftForx2 l D hl0 cI cZ q hN pa sp al dg co da mb dd ah wl lo n td wn hn p d h0 h1 h2) (cwV 2 hts gL_daysLeftFor_X2_daysLeftFor rfl rfl rfl (by decide +kernel) ⟨Nat.le_of_ble_eq_true rfl, Nat.le_of_ble_eq_true rfl⟩) hP hT hS hA rfl rfl rfl hl.1 rfl (Nat.le_of_ble_eq_true rfl) dL_daysLeftFor_5 ⟨Nat.le_of_ble_eq_true rfl, Nat.le_of_ble_eq_true rfl⟩ (fun ce q9 H locs hP hS _ hkk hce hcv hcl => ?_)
  have hO := zkeep hO hkk hoL
  refine vx_catch (E := "java/lang/IndexOutOfBoundsException") (name := "java/lang/IndexOutOfBoundsException") hown [] ⟨0, 10, 13, 19⟩ [] (by rw [htab]; rfl) (fun z hz => nomatch hz) (by decide) (by decide) (hts (.classLink RL 19 "java/lang/IndexOutOfBoundsException") (by decide +kernel)) (show (Cond.castable zIO zIO).before _ s9 = true from hE.1.1) hce hcv hcl ?_
  refine lv_astore (lv' := [(4, .ref q9), (0, .ref (q 0)), (1, .int (zI p)), (2, .int (zI d)), (3, .ref o)]) hx hb dL_daysLeftFor_13 hl (by decide) rfl (fun ls hl => ?_)
  refine zr_iconst hx hb dL_daysLeftFor_15 ?_
  rw [hQ0]
  exact vx_ret (W.iret hx hb hr (fun t ht _ => ⟨⟨rfl, by rw [ht]; exact hP, by rw [ht]; exact hO⟩, hS.F ht⟩) hS.2.2 dL_daysLeftFor_16 hlocks)
set_option maxHeartbeats 4000000 in
set_option maxRecDepth 100000 in
theorem kL_daysLeftok (l : Launch) (D : va_G) (hl0 : l.stackTraces = false) (cI cZ cJ : ClassId) (q : Nat → Nat) (o : Nat) (hN : (zLC q).Nodup) (hN2 : (zLC q ++ [o]).Nodup) (pa : Int → Int) (sp : Int → Int) (al : Int → Int) (dg : Int → Int) (co : Int → Int) (da : Int → Int) (mb : Int → Int) (dd : Int → Int) (ah : Int → Int) (wl : Int → Int) (lo : Int → Int) (n : Nat) (td : Int) (wn : Int) (f : Nat → Int64) (hn : n ≤ 16) (hda : ∀ j : Int, 0 ≤ da j ∧ da j ≤ 60) (hmb : ∀ j : Int, 0 ≤ mb j ∧ mb j ≤ 4) (hdd : ∀ j : Int, 0 ≤ dd j ∧ dd j ≤ 1000000) (htd : 0 ≤ td ∧ td ≤ 1000000) (p : Int) (h1 : 0 ≤ p ∧ p < (n : Int)) : zLW l yL_daysLeft wsL_daysLeft ({ frames := 8, cells := 0, slots := 0, locals := 132 }) D [(cI, .int), (cZ, .boolean), (cJ, .long)] cJ [.ref (q 0), .int (zI p), .ref o] (wC cI cZ q pa sp al dg co da mb dd ah wl lo n td wn) (wC cI cZ q pa sp al dg co da mb dd ah wl lo n td wn) o f (vp_updL f 0 (zI (mxF (lf da mb dd td p) n)).toInt64) 0 (zLC q) 0 0 := by
  refine vx_ofWH (cc := cL_daysLeft) (maxL := 4) (ret := some .int) (hh := [(0, 9, 12, 19)]) (by decide) rfl ?_
  intro p0 e9 s9 m9 ag9 below meth c9 s₁ B hml hv
  obtain ⟨hav, hP, hO, hK, hT, hE⟩ := hv
  have hx := B.exec
  have hb := B.bytes
  have hr := B.returns
  have hts := atoms_spec (ws := wsL_daysLeft) B.pre
  have hown : s9.vm.findClass RL = some m9.cls := findClass_of_methodNamed B.named
  have hlocks := B.notSynchronized
  have hA : ∀ a ∈ zLC q, (fun a => a ∈ zLC q ++ [o]) a := fun _ h => List.mem_append_left _ h
  have hA2 : ∀ a ∈ zLC q ++ [o], (fun a => a ∈ zLC q ++ [o]) a := fun _ h => h
  have hoL : ∀ a ∈ [o], a ∉ zLC q := fun a ha h => (List.nodup_append.mp hN2).2.2 a h a ha rfl
  have hl := lv_entry ([.ref (q 0), .int (zI p), .ref o]) (n := 4) (Nat.le_of_ble_eq_true rfl)
  have hE0 : entryFrame m9 ag9 4 = F0 m9 0 ((lg_sl ([.ref (q 0), .int (zI p), .ref o]) ++ List.replicate (4 - (lg_sl ([.ref (q 0), .int (zI p), .ref o])).length) Slot.unset).toArray) [] := by rw [hav]; exact lg_entry_eq m9 _ _
  obtain ⟨Q0, hQ0⟩ : ∃ Q0, Q0 = vx_MQ below (zQL D (wC cI cZ q pa sp al dg co da mb dd ah wl lo n td wn) cJ o (vp_updL f 0 (zI (mxF (lf da mb dd td p) n)).toInt64) 0 (zLC q)) zF ag9 s9 0 0 (fun a => a ∈ zLC q ++ [o]) := ⟨_, rfl⟩
  show W p0 l e9 ({ frames := 8, cells := 0, slots := 0, locals := 132 }) s9 m9 ag9 below meth c9 s9.heap [] 0 0 (vx_MQ below (zQL D (wC cI cZ q pa sp al dg co da mb dd ah wl lo n td wn) cJ o (vp_updL f 0 (zI (mxF (lf da mb dd td p) n)).toInt64) 0 (zLC q)) zF ag9 s9 0 0 (fun a => a ∈ zLC q ++ [o])) _
  rw [hE0, ← hQ0]
  have hS : va_S (fun a => a ∈ zLC q ++ [o]) s9.heap s9.heap [] := va_S.rf
  generalize hH0 : s9.heap = H at hP hO ⊢
  have hS : va_S (fun a => a ∈ zLC q ++ [o]) s9.heap H [] := by rw [hH0] at hS ⊢; exact hS
  have hT : zT (fun a => a ∈ zLC q) s9 H := by rw [hH0] at hT; exact hT
  generalize (lg_sl ([.ref (q 0), .int (zI p), .ref o]) ++ List.replicate (4 - (lg_sl ([.ref (q 0), .int (zI p), .ref o])).length) Slot.unset).toArray = ls at hl ⊢
  have hl : lv_has ls 4 [(0, .ref (q 0)), (1, .int (zI p)), (2, .ref o)] := hl
  refine lv_aload_n hx hb dL_daysLeft_0 rfl (lv_at hl 2 rfl) ?_
  refine zr_iconst hx hb dL_daysLeft_1 ?_
  refine lv_aload_n hx hb dL_daysLeft_2 rfl (lv_at hl 0 rfl) ?_
  refine lv_iload_n hx hb dL_daysLeft_3 rfl (lv_at hl 1 rfl) ?_
  refine zcallV (ci := 2) (q0 := 0) (cq := (RX2, TX2, 9)) (As := [.int (zI p)]) (rest := [.int (zI 0), .ref o]) ⟨hx, hb, hml, hown, hts⟩ (hK.sub (tys' := [(cI, .int), (cZ, .boolean)]) [0, 1] rfl) (kX2_daysLeftok l D cI cZ q hN pa sp al dg co da mb dd ah wl lo n td wn hn hda hmb hdd htd p h1) (cwV 1 hts gL_daysLeft_X2_daysLeft rfl rfl rfl (by decide +kernel) ⟨Nat.le_of_ble_eq_true rfl, Nat.le_of_ble_eq_true rfl⟩) hP hS hA rfl rfl rfl hl.1 rfl (Nat.le_of_ble_eq_true rfl) dL_daysLeft_4 ⟨Nat.zero_le _, Nat.zero_le _⟩ (fun H locs hP hS _ hkk => ?_)
  have hO := zkeep hO hkk hoL
  refine W.eq (g2 := F0 m9 7 ls [.int (zI (mxF (lf da mb dd td p) n)), .int (zI 0), .ref o]) rfl ?_
  refine lv_i2l hx hb dL_daysLeft_7 rfl ?_
  have hPO := zapp hP hO
  refine zr_last0 hx hb hK hPO hN2 rfl hA2 hS 14 2 rfl rfl dL_daysLeft_8 (fun H locs hPO hS => ?_)
  have hPO : va_P D vwCl ((wC cI cZ q pa sp al dg co da mb dd ah wl lo n td wn) ++ wO cJ o (vp_updL f 0 (zI (mxF (lf da mb dd td p) n)).toInt64)) H := hPO
  have hP := zleft hPO
  have hO := zright hPO
  refine lv_goto (tgt := 15) hx hb dL_daysLeft_9 (by decide) ?_
  refine zr_iconst hx hb dL_daysLeft_15 ?_
  rw [hQ0]
  exact vx_ret (W.iret hx hb hr (fun t ht _ => ⟨⟨rfl, by rw [ht]; exact hP, by rw [ht]; exact hO⟩, hS.F ht⟩) hS.2.2 dL_daysLeft_16 hlocks)
set_option maxHeartbeats 4000000 in
set_option maxRecDepth 100000 in
theorem kL_daysLeftx1 (l : Launch) (D : va_G) (hl0 : l.stackTraces = false) (cI cZ cJ : ClassId) (q : Nat → Nat) (o : Nat) (hN : (zLC q).Nodup) (hN2 : (zLC q ++ [o]).Nodup) (pa : Int → Int) (sp : Int → Int) (al : Int → Int) (dg : Int → Int) (co : Int → Int) (da : Int → Int) (mb : Int → Int) (dd : Int → Int) (ah : Int → Int) (wl : Int → Int) (lo : Int → Int) (n : Nat) (td : Int) (wn : Int) (f : Nat → Int64) (hn : n ≤ 16) (p : Int) (h0 : -2147483648 ≤ p ∧ p ≤ 2147483647) (h1 : ¬ (0 ≤ p ∧ p < (n : Int))) : zLW l yL_daysLeft wsL_daysLeft ({ frames := 8, cells := 1, slots := 6, locals := 132 }) D [(cI, .int), (cZ, .boolean), (cJ, .long)] cJ [.ref (q 0), .int (zI p), .ref o] (wC cI cZ q pa sp al dg co da mb dd ah wl lo n td wn) (wC cI cZ q pa sp al dg co da mb dd ah wl lo n td wn) o f f 1 (zLC q) 1 6 := by
  refine vx_ofWH (cc := cL_daysLeft) (maxL := 4) (ret := some .int) (hh := [(0, 9, 12, 19)]) (by decide) rfl ?_
  intro p0 e9 s9 m9 ag9 below meth c9 s₁ B hml hv
  obtain ⟨hav, hP, hO, hK, hT, hE⟩ := hv
  have hx := B.exec
  have hb := B.bytes
  have hr := B.returns
  have hts := atoms_spec (ws := wsL_daysLeft) B.pre
  have hown : s9.vm.findClass RL = some m9.cls := findClass_of_methodNamed B.named
  have hlocks := B.notSynchronized
  have hA : ∀ a ∈ zLC q, (fun a => a ∈ zLC q ++ [o]) a := fun _ h => List.mem_append_left _ h
  have hA2 : ∀ a ∈ zLC q ++ [o], (fun a => a ∈ zLC q ++ [o]) a := fun _ h => h
  have hoL : ∀ a ∈ [o], a ∉ zLC q := fun a ha h => (List.nodup_append.mp hN2).2.2 a h a ha rfl
  have htab := vx_table (x := yL_daysLeft) B (hts (.codeWith yL_daysLeft cL_daysLeft 4 (some .int) [(0, 9, 12, 19)]) (by rw [show wsL_daysLeft = _ from rfl]; exact List.mem_cons_self))
  have hl := lv_entry ([.ref (q 0), .int (zI p), .ref o]) (n := 4) (Nat.le_of_ble_eq_true rfl)
  have hE0 : entryFrame m9 ag9 4 = F0 m9 0 ((lg_sl ([.ref (q 0), .int (zI p), .ref o]) ++ List.replicate (4 - (lg_sl ([.ref (q 0), .int (zI p), .ref o])).length) Slot.unset).toArray) [] := by rw [hav]; exact lg_entry_eq m9 _ _
  obtain ⟨Q0, hQ0⟩ : ∃ Q0, Q0 = vx_MQ below (zQL D (wC cI cZ q pa sp al dg co da mb dd ah wl lo n td wn) cJ o f 1 (zLC q)) zF ag9 s9 1 6 (fun a => a ∈ zLC q ++ [o]) := ⟨_, rfl⟩
  show W p0 l e9 ({ frames := 8, cells := 1, slots := 6, locals := 132 }) s9 m9 ag9 below meth c9 s9.heap [] 0 0 (vx_MQ below (zQL D (wC cI cZ q pa sp al dg co da mb dd ah wl lo n td wn) cJ o f 1 (zLC q)) zF ag9 s9 1 6 (fun a => a ∈ zLC q ++ [o])) _
  rw [hE0, ← hQ0]
  have hS : va_S (fun a => a ∈ zLC q ++ [o]) s9.heap s9.heap [] := va_S.rf
  generalize hH0 : s9.heap = H at hP hO ⊢
  have hS : va_S (fun a => a ∈ zLC q ++ [o]) s9.heap H [] := by rw [hH0] at hS ⊢; exact hS
  have hT : zT (fun a => a ∈ zLC q) s9 H := by rw [hH0] at hT; exact hT
  generalize (lg_sl ([.ref (q 0), .int (zI p), .ref o]) ++ List.replicate (4 - (lg_sl ([.ref (q 0), .int (zI p), .ref o])).length) Slot.unset).toArray = ls at hl ⊢
  have hl : lv_has ls 4 [(0, .ref (q 0)), (1, .int (zI p)), (2, .ref o)] := hl
  refine lv_aload_n hx hb dL_daysLeft_0 rfl (lv_at hl 2 rfl) ?_
  refine zr_iconst hx hb dL_daysLeft_1 ?_
  refine lv_aload_n hx hb dL_daysLeft_2 rfl (lv_at hl 0 rfl) ?_
  refine lv_iload_n hx hb dL_daysLeft_3 rfl (lv_at hl 1 rfl) ?_
  refine zcallXV (ci := 2) (q0 := 0) (cq := (RX2, TX2, 9)) (As := [.int (zI p)]) (rest := [.int (zI 0), .ref o]) ⟨hx, hb, hml, hown, hts⟩ (hK.sub (tys' := [(cI, .int), (cZ, .boolean)]) [0, 1] rfl) (kX2_daysLeftx1 l D hl0 cI cZ q hN pa sp al dg co da mb dd ah wl lo n td wn hn p h0 h1) (cwV 1 hts gL_daysLeft_X2_daysLeft rfl rfl rfl (by decide +kernel) ⟨Nat.le_of_ble_eq_true rfl, Nat.le_of_ble_eq_true rfl⟩) hP hT hS hA rfl rfl rfl hl.1 rfl (Nat.le_of_ble_eq_true rfl) dL_daysLeft_4 ⟨Nat.le_of_ble_eq_true rfl, Nat.le_of_ble_eq_true rfl⟩ (fun ce q9 H locs hP hS _ hkk hce hcv hcl => ?_)
  have hO := zkeep hO hkk hoL
  refine vx_catch (E := "java/lang/IndexOutOfBoundsException") (name := "java/lang/IndexOutOfBoundsException") hown [] ⟨0, 9, 12, 19⟩ [] (by rw [htab]; rfl) (fun z hz => nomatch hz) (by decide) (by decide) (hts (.classLink RL 19 "java/lang/IndexOutOfBoundsException") (by decide +kernel)) (show (Cond.castable zIO zIO).before _ s9 = true from hE.1.1) hce hcv hcl ?_
  refine lv_astore_n (lv' := [(3, .ref q9), (0, .ref (q 0)), (1, .int (zI p)), (2, .ref o)]) hx hb dL_daysLeft_12 rfl hl (by decide) rfl (fun ls hl => ?_)
  refine zr_iconst hx hb dL_daysLeft_13 ?_
  rw [hQ0]
  exact vx_ret (W.iret hx hb hr (fun t ht _ => ⟨⟨rfl, by rw [ht]; exact hP, by rw [ht]; exact hO⟩, hS.F ht⟩) hS.2.2 dL_daysLeft_14 hlocks)
set_option maxHeartbeats 4000000 in
set_option maxRecDepth 100000 in
theorem kL_daysUntilLighterok (l : Launch) (D : va_G) (hl0 : l.stackTraces = false) (cI cZ cJ : ClassId) (q : Nat → Nat) (o : Nat) (hN : (zLC q).Nodup) (hN2 : (zLC q ++ [o]).Nodup) (pa : Int → Int) (sp : Int → Int) (al : Int → Int) (dg : Int → Int) (co : Int → Int) (da : Int → Int) (mb : Int → Int) (dd : Int → Int) (ah : Int → Int) (wl : Int → Int) (lo : Int → Int) (n : Nat) (td : Int) (wn : Int) (f : Nat → Int64) (hn : n ≤ 16) (hco : ∀ j : Int, 0 ≤ co j ∧ co j ≤ 5) (hda : ∀ j : Int, 0 ≤ da j ∧ da j ≤ 60) (hmb : ∀ j : Int, 0 ≤ mb j ∧ mb j ≤ 4) (hdd : ∀ j : Int, 0 ≤ dd j ∧ dd j ≤ 1000000) (htd : 0 ≤ td ∧ td ≤ 1000000) (p : Int) (h1 : 0 ≤ p ∧ p < (n : Int)) : zLW l yL_daysUntilLighter wsL_daysUntilLighter ({ frames := 8, cells := 0, slots := 0, locals := 132 }) D [(cI, .int), (cZ, .boolean), (cJ, .long)] cJ [.ref (q 0), .int (zI p), .ref o] (wC cI cZ q pa sp al dg co da mb dd ah wl lo n td wn) (wC cI cZ q pa sp al dg co da mb dd (ca co da mb dd td n p) wl lo n td wn) o f (vp_updL f 0 (zI (flD (ca co da mb dd td n p))).toInt64) 0 (zLC q) 0 0 := by
  refine vx_ofWH (cc := cL_daysUntilLighter) (maxL := 4) (ret := some .int) (hh := [(0, 9, 12, 19)]) (by decide) rfl ?_
  intro p0 e9 s9 m9 ag9 below meth c9 s₁ B hml hv
  obtain ⟨hav, hP, hO, hK, hT, hE⟩ := hv
  have hx := B.exec
  have hb := B.bytes
  have hr := B.returns
  have hts := atoms_spec (ws := wsL_daysUntilLighter) B.pre
  have hown : s9.vm.findClass RL = some m9.cls := findClass_of_methodNamed B.named
  have hlocks := B.notSynchronized
  have hA : ∀ a ∈ zLC q, (fun a => a ∈ zLC q ++ [o]) a := fun _ h => List.mem_append_left _ h
  have hA2 : ∀ a ∈ zLC q ++ [o], (fun a => a ∈ zLC q ++ [o]) a := fun _ h => h
  have hoL : ∀ a ∈ [o], a ∉ zLC q := fun a ha h => (List.nodup_append.mp hN2).2.2 a h a ha rfl
  have hl := lv_entry ([.ref (q 0), .int (zI p), .ref o]) (n := 4) (Nat.le_of_ble_eq_true rfl)
  have hE0 : entryFrame m9 ag9 4 = F0 m9 0 ((lg_sl ([.ref (q 0), .int (zI p), .ref o]) ++ List.replicate (4 - (lg_sl ([.ref (q 0), .int (zI p), .ref o])).length) Slot.unset).toArray) [] := by rw [hav]; exact lg_entry_eq m9 _ _
  obtain ⟨Q0, hQ0⟩ : ∃ Q0, Q0 = vx_MQ below (zQL D (wC cI cZ q pa sp al dg co da mb dd (ca co da mb dd td n p) wl lo n td wn) cJ o (vp_updL f 0 (zI (flD (ca co da mb dd td n p))).toInt64) 0 (zLC q)) zF ag9 s9 0 0 (fun a => a ∈ zLC q ++ [o]) := ⟨_, rfl⟩
  show W p0 l e9 ({ frames := 8, cells := 0, slots := 0, locals := 132 }) s9 m9 ag9 below meth c9 s9.heap [] 0 0 (vx_MQ below (zQL D (wC cI cZ q pa sp al dg co da mb dd (ca co da mb dd td n p) wl lo n td wn) cJ o (vp_updL f 0 (zI (flD (ca co da mb dd td n p))).toInt64) 0 (zLC q)) zF ag9 s9 0 0 (fun a => a ∈ zLC q ++ [o])) _
  rw [hE0, ← hQ0]
  have hS : va_S (fun a => a ∈ zLC q ++ [o]) s9.heap s9.heap [] := va_S.rf
  generalize hH0 : s9.heap = H at hP hO ⊢
  have hS : va_S (fun a => a ∈ zLC q ++ [o]) s9.heap H [] := by rw [hH0] at hS ⊢; exact hS
  have hT : zT (fun a => a ∈ zLC q) s9 H := by rw [hH0] at hT; exact hT
  generalize (lg_sl ([.ref (q 0), .int (zI p), .ref o]) ++ List.replicate (4 - (lg_sl ([.ref (q 0), .int (zI p), .ref o])).length) Slot.unset).toArray = ls at hl ⊢
  have hl : lv_has ls 4 [(0, .ref (q 0)), (1, .int (zI p)), (2, .ref o)] := hl
  refine lv_aload_n hx hb dL_daysUntilLighter_0 rfl (lv_at hl 2 rfl) ?_
  refine zr_iconst hx hb dL_daysUntilLighter_1 ?_
  refine lv_aload_n hx hb dL_daysUntilLighter_2 rfl (lv_at hl 0 rfl) ?_
  refine lv_iload_n hx hb dL_daysUntilLighter_3 rfl (lv_at hl 1 rfl) ?_
  refine zcallV (ci := 2) (q0 := 0) (cq := (RX2, TX2, 9)) (As := [.int (zI p)]) (rest := [.int (zI 0), .ref o]) ⟨hx, hb, hml, hown, hts⟩ (hK.sub (tys' := [(cI, .int), (cZ, .boolean)]) [0, 1] rfl) (kX2_daysUntilLighterok l D cI cZ q hN pa sp al dg co da mb dd ah wl lo n td wn hn hco hda hmb hdd htd p h1) (cwV 1 hts gL_daysUntilLighter_X2_daysUntilLighter rfl rfl rfl (by decide +kernel) ⟨Nat.le_of_ble_eq_true rfl, Nat.le_of_ble_eq_true rfl⟩) hP hS hA rfl rfl rfl hl.1 rfl (Nat.le_of_ble_eq_true rfl) dL_daysUntilLighter_4 ⟨Nat.zero_le _, Nat.zero_le _⟩ (fun H locs hP hS _ hkk => ?_)
  have hO := zkeep hO hkk hoL
  refine W.eq (g2 := F0 m9 7 ls [.int (zI (flD (ca co da mb dd td n p))), .int (zI 0), .ref o]) rfl ?_
  refine lv_i2l hx hb dL_daysUntilLighter_7 rfl ?_
  have hPO := zapp hP hO
  refine zr_last0 hx hb hK hPO hN2 rfl hA2 hS 14 2 rfl rfl dL_daysUntilLighter_8 (fun H locs hPO hS => ?_)
  have hPO : va_P D vwCl ((wC cI cZ q pa sp al dg co da mb dd (ca co da mb dd td n p) wl lo n td wn) ++ wO cJ o (vp_updL f 0 (zI (flD (ca co da mb dd td n p))).toInt64)) H := hPO
  have hP := zleft hPO
  have hO := zright hPO
  refine lv_goto (tgt := 15) hx hb dL_daysUntilLighter_9 (by decide) ?_
  refine zr_iconst hx hb dL_daysUntilLighter_15 ?_
  rw [hQ0]
  exact vx_ret (W.iret hx hb hr (fun t ht _ => ⟨⟨rfl, by rw [ht]; exact hP, by rw [ht]; exact hO⟩, hS.F ht⟩) hS.2.2 dL_daysUntilLighter_16 hlocks)
set_option maxHeartbeats 4000000 in
set_option maxRecDepth 100000 in
theorem kL_daysUntilLighterx1 (l : Launch) (D : va_G) (hl0 : l.stackTraces = false) (cI cZ cJ : ClassId) (q : Nat → Nat) (o : Nat) (hN : (zLC q).Nodup) (hN2 : (zLC q ++ [o]).Nodup) (pa : Int → Int) (sp : Int → Int) (al : Int → Int) (dg : Int → Int) (co : Int → Int) (da : Int → Int) (mb : Int → Int) (dd : Int → Int) (ah : Int → Int) (wl : Int → Int) (lo : Int → Int) (n : Nat) (td : Int) (wn : Int) (f : Nat → Int64) (hn : n ≤ 16) (p : Int) (h0 : -2147483648 ≤ p ∧ p ≤ 2147483647) (h1 : ¬ (0 ≤ p ∧ p < (n : Int))) : zLW l yL_daysUntilLighter wsL_daysUntilLighter ({ frames := 8, cells := 1, slots := 6, locals := 132 }) D [(cI, .int), (cZ, .boolean), (cJ, .long)] cJ [.ref (q 0), .int (zI p), .ref o] (wC cI cZ q pa sp al dg co da mb dd ah wl lo n td wn) (wC cI cZ q pa sp al dg co da mb dd ah wl lo n td wn) o f f 1 (zLC q) 1 6 := by
  refine vx_ofWH (cc := cL_daysUntilLighter) (maxL := 4) (ret := some .int) (hh := [(0, 9, 12, 19)]) (by decide) rfl ?_
  intro p0 e9 s9 m9 ag9 below meth c9 s₁ B hml hv
  obtain ⟨hav, hP, hO, hK, hT, hE⟩ := hv
  have hx := B.exec
  have hb := B.bytes
  have hr := B.returns
  have hts := atoms_spec (ws := wsL_daysUntilLighter) B.pre
  have hown : s9.vm.findClass RL = some m9.cls := findClass_of_methodNamed B.named
  have hlocks := B.notSynchronized
  have hA : ∀ a ∈ zLC q, (fun a => a ∈ zLC q ++ [o]) a := fun _ h => List.mem_append_left _ h
  have hA2 : ∀ a ∈ zLC q ++ [o], (fun a => a ∈ zLC q ++ [o]) a := fun _ h => h
  have hoL : ∀ a ∈ [o], a ∉ zLC q := fun a ha h => (List.nodup_append.mp hN2).2.2 a h a ha rfl
  have htab := vx_table (x := yL_daysUntilLighter) B (hts (.codeWith yL_daysUntilLighter cL_daysUntilLighter 4 (some .int) [(0, 9, 12, 19)]) (by rw [show wsL_daysUntilLighter = _ from rfl]; exact List.mem_cons_self))
  have hl := lv_entry ([.ref (q 0), .int (zI p), .ref o]) (n := 4) (Nat.le_of_ble_eq_true rfl)
  have hE0 : entryFrame m9 ag9 4 = F0 m9 0 ((lg_sl ([.ref (q 0), .int (zI p), .ref o]) ++ List.replicate (4 - (lg_sl ([.ref (q 0), .int (zI p), .ref o])).length) Slot.unset).toArray) [] := by rw [hav]; exact lg_entry_eq m9 _ _
  obtain ⟨Q0, hQ0⟩ : ∃ Q0, Q0 = vx_MQ below (zQL D (wC cI cZ q pa sp al dg co da mb dd ah wl lo n td wn) cJ o f 1 (zLC q)) zF ag9 s9 1 6 (fun a => a ∈ zLC q ++ [o]) := ⟨_, rfl⟩
  show W p0 l e9 ({ frames := 8, cells := 1, slots := 6, locals := 132 }) s9 m9 ag9 below meth c9 s9.heap [] 0 0 (vx_MQ below (zQL D (wC cI cZ q pa sp al dg co da mb dd ah wl lo n td wn) cJ o f 1 (zLC q)) zF ag9 s9 1 6 (fun a => a ∈ zLC q ++ [o])) _
  rw [hE0, ← hQ0]
  have hS : va_S (fun a => a ∈ zLC q ++ [o]) s9.heap s9.heap [] := va_S.rf
  generalize hH0 : s9.heap = H at hP hO ⊢
  have hS : va_S (fun a => a ∈ zLC q ++ [o]) s9.heap H [] := by rw [hH0] at hS ⊢; exact hS
  have hT : zT (fun a => a ∈ zLC q) s9 H := by rw [hH0] at hT; exact hT
  generalize (lg_sl ([.ref (q 0), .int (zI p), .ref o]) ++ List.replicate (4 - (lg_sl ([.ref (q 0), .int (zI p), .ref o])).length) Slot.unset).toArray = ls at hl ⊢
  have hl : lv_has ls 4 [(0, .ref (q 0)), (1, .int (zI p)), (2, .ref o)] := hl
  refine lv_aload_n hx hb dL_daysUntilLighter_0 rfl (lv_at hl 2 rfl) ?_
  refine zr_iconst hx hb dL_daysUntilLighter_1 ?_
  refine lv_aload_n hx hb dL_daysUntilLighter_2 rfl (lv_at hl 0 rfl) ?_
  refine lv_iload_n hx hb dL_daysUntilLighter_3 rfl (lv_at hl 1 rfl) ?_
  refine zcallXV (ci := 2) (q0 := 0) (cq := (RX2, TX2, 9)) (As := [.int (zI p)]) (rest := [.int (zI 0), .ref o]) ⟨hx, hb, hml, hown, hts⟩ (hK.sub (tys' := [(cI, .int), (cZ, .boolean)]) [0, 1] rfl) (kX2_daysUntilLighterx1 l D hl0 cI cZ q hN pa sp al dg co da mb dd ah wl lo n td wn hn p h0 h1) (cwV 1 hts gL_daysUntilLighter_X2_daysUntilLighter rfl rfl rfl (by decide +kernel) ⟨Nat.le_of_ble_eq_true rfl, Nat.le_of_ble_eq_true rfl⟩) hP hT hS hA rfl rfl rfl hl.1 rfl (Nat.le_of_ble_eq_true rfl) dL_daysUntilLighter_4 ⟨Nat.le_of_ble_eq_true rfl, Nat.le_of_ble_eq_true rfl⟩ (fun ce q9 H locs hP hS _ hkk hce hcv hcl => ?_)
  have hO := zkeep hO hkk hoL
  refine vx_catch (E := "java/lang/IndexOutOfBoundsException") (name := "java/lang/IndexOutOfBoundsException") hown [] ⟨0, 9, 12, 19⟩ [] (by rw [htab]; rfl) (fun z hz => nomatch hz) (by decide) (by decide) (hts (.classLink RL 19 "java/lang/IndexOutOfBoundsException") (by decide +kernel)) (show (Cond.castable zIO zIO).before _ s9 = true from hE.1.1) hce hcv hcl ?_
  refine lv_astore_n (lv' := [(3, .ref q9), (0, .ref (q 0)), (1, .int (zI p)), (2, .ref o)]) hx hb dL_daysUntilLighter_12 rfl hl (by decide) rfl (fun ls hl => ?_)
  refine zr_iconst hx hb dL_daysUntilLighter_13 ?_
  rw [hQ0]
  exact vx_ret (W.iret hx hb hr (fun t ht _ => ⟨⟨rfl, by rw [ht]; exact hP, by rw [ht]; exact hO⟩, hS.F ht⟩) hS.2.2 dL_daysUntilLighter_14 hlocks)
set_option maxHeartbeats 4000000 in
set_option maxRecDepth 100000 in
theorem kL_daysInok (l : Launch) (D : va_G) (hl0 : l.stackTraces = false) (cI cZ cJ : ClassId) (q : Nat → Nat) (o : Nat) (hN : (zLC q).Nodup) (hN2 : (zLC q ++ [o]).Nodup) (pa : Int → Int) (sp : Int → Int) (al : Int → Int) (dg : Int → Int) (co : Int → Int) (da : Int → Int) (mb : Int → Int) (dd : Int → Int) (ah : Int → Int) (wl : Int → Int) (lo : Int → Int) (n : Nat) (td : Int) (wn : Int) (f : Nat → Int64) (hn : n ≤ 16) (hco : ∀ j : Int, 0 ≤ co j ∧ co j ≤ 5) (hda : ∀ j : Int, 0 ≤ da j ∧ da j ≤ 60) (hmb : ∀ j : Int, 0 ≤ mb j ∧ mb j ≤ 4) (hdd : ∀ j : Int, 0 ≤ dd j ∧ dd j ≤ 1000000) (htd : 0 ≤ td ∧ td ≤ 1000000) (p : Int) (c : Int) (h1 : 0 ≤ p ∧ p < (n : Int)) (h2 : 1 ≤ c ∧ c ≤ 5) : zLW l yL_daysIn wsL_daysIn ({ frames := 8, cells := 0, slots := 0, locals := 133 }) D [(cI, .int), (cZ, .boolean), (cJ, .long)] cJ [.ref (q 0), .int (zI p), .int (zI c), .ref o] (wC cI cZ q pa sp al dg co da mb dd ah wl lo n td wn) (wC cI cZ q pa sp al dg co da mb dd (ca co da mb dd td n p) wl lo n td wn) o f (vp_updL f 0 (zI (smF (eqF (ca co da mb dd td n p) c) 180)).toInt64) 0 (zLC q) 0 0 := by
  refine vx_ofWH (cc := cL_daysIn) (maxL := 5) (ret := some .int) (hh := [(0, 10, 13, 19)]) (by decide) rfl ?_
  intro p0 e9 s9 m9 ag9 below meth c9 s₁ B hml hv
  obtain ⟨hav, hP, hO, hK, hT, hE⟩ := hv
  have hx := B.exec
  have hb := B.bytes
  have hr := B.returns
  have hts := atoms_spec (ws := wsL_daysIn) B.pre
  have hown : s9.vm.findClass RL = some m9.cls := findClass_of_methodNamed B.named
  have hlocks := B.notSynchronized
  have hA : ∀ a ∈ zLC q, (fun a => a ∈ zLC q ++ [o]) a := fun _ h => List.mem_append_left _ h
  have hA2 : ∀ a ∈ zLC q ++ [o], (fun a => a ∈ zLC q ++ [o]) a := fun _ h => h
  have hoL : ∀ a ∈ [o], a ∉ zLC q := fun a ha h => (List.nodup_append.mp hN2).2.2 a h a ha rfl
  have hl := lv_entry ([.ref (q 0), .int (zI p), .int (zI c), .ref o]) (n := 5) (Nat.le_of_ble_eq_true rfl)
  have hE0 : entryFrame m9 ag9 5 = F0 m9 0 ((lg_sl ([.ref (q 0), .int (zI p), .int (zI c), .ref o]) ++ List.replicate (5 - (lg_sl ([.ref (q 0), .int (zI p), .int (zI c), .ref o])).length) Slot.unset).toArray) [] := by rw [hav]; exact lg_entry_eq m9 _ _
  obtain ⟨Q0, hQ0⟩ : ∃ Q0, Q0 = vx_MQ below (zQL D (wC cI cZ q pa sp al dg co da mb dd (ca co da mb dd td n p) wl lo n td wn) cJ o (vp_updL f 0 (zI (smF (eqF (ca co da mb dd td n p) c) 180)).toInt64) 0 (zLC q)) zF ag9 s9 0 0 (fun a => a ∈ zLC q ++ [o]) := ⟨_, rfl⟩
  show W p0 l e9 ({ frames := 8, cells := 0, slots := 0, locals := 133 }) s9 m9 ag9 below meth c9 s9.heap [] 0 0 (vx_MQ below (zQL D (wC cI cZ q pa sp al dg co da mb dd (ca co da mb dd td n p) wl lo n td wn) cJ o (vp_updL f 0 (zI (smF (eqF (ca co da mb dd td n p) c) 180)).toInt64) 0 (zLC q)) zF ag9 s9 0 0 (fun a => a ∈ zLC q ++ [o])) _
  rw [hE0, ← hQ0]
  have hS : va_S (fun a => a ∈ zLC q ++ [o]) s9.heap s9.heap [] := va_S.rf
  generalize hH0 : s9.heap = H at hP hO ⊢
  have hS : va_S (fun a => a ∈ zLC q ++ [o]) s9.heap H [] := by rw [hH0] at hS ⊢; exact hS
  have hT : zT (fun a => a ∈ zLC q) s9 H := by rw [hH0] at hT; exact hT
  generalize (lg_sl ([.ref (q 0), .int (zI p), .int (zI c), .ref o]) ++ List.replicate (5 - (lg_sl ([.ref (q 0), .int (zI p), .int (zI c), .ref o])).length) Slot.unset).toArray = ls at hl ⊢
  have hl : lv_has ls 5 [(0, .ref (q 0)), (1, .int (zI p)), (2, .int (zI c)), (3, .ref o)] := hl
  refine lv_aload_n hx hb dL_daysIn_0 rfl (lv_at hl 3 rfl) ?_
  refine zr_iconst hx hb dL_daysIn_1 ?_
  refine lv_aload_n hx hb dL_daysIn_2 rfl (lv_at hl 0 rfl) ?_
  refine lv_iload_n hx hb dL_daysIn_3 rfl (lv_at hl 1 rfl) ?_
  refine lv_iload_n hx hb dL_daysIn_4 rfl (lv_at hl 2 rfl) ?_
  refine zcallV (ci := 2) (q0 := 0) (cq := (RX2, TX2, 9)) (As := [.int (zI p), .int (zI c)]) (rest := [.int (zI 0), .ref o]) ⟨hx, hb, hml, hown, hts⟩ (hK.sub (tys' := [(cI, .int), (cZ, .boolean)]) [0, 1] rfl) (kX2_daysInok l D cI cZ q hN pa sp al dg co da mb dd ah wl lo n td wn hn hco hda hmb hdd htd p c h1 h2) (cwV 2 hts gL_daysIn_X2_daysIn rfl rfl rfl (by decide +kernel) ⟨Nat.le_of_ble_eq_true rfl, Nat.le_of_ble_eq_true rfl⟩) hP hS hA rfl rfl rfl hl.1 rfl (Nat.le_of_ble_eq_true rfl) dL_daysIn_5 ⟨Nat.zero_le _, Nat.zero_le _⟩ (fun H locs hP hS _ hkk => ?_)
  have hO := zkeep hO hkk hoL
  refine W.eq (g2 := F0 m9 8 ls [.int (zI (smF (eqF (ca co da mb dd td n p) c) 180)), .int (zI 0), .ref o]) rfl ?_
  refine lv_i2l hx hb dL_daysIn_8 rfl ?_
  have hPO := zapp hP hO
  refine zr_last0 hx hb hK hPO hN2 rfl hA2 hS 14 2 rfl rfl dL_daysIn_9 (fun H locs hPO hS => ?_)
  have hPO : va_P D vwCl ((wC cI cZ q pa sp al dg co da mb dd (ca co da mb dd td n p) wl lo n td wn) ++ wO cJ o (vp_updL f 0 (zI (smF (eqF (ca co da mb dd td n p) c) 180)).toInt64)) H := hPO
  have hP := zleft hPO
  have hO := zright hPO
  refine lv_goto (tgt := 17) hx hb dL_daysIn_10 (by decide) ?_
  refine zr_iconst hx hb dL_daysIn_17 ?_
  rw [hQ0]
  exact vx_ret (W.iret hx hb hr (fun t ht _ => ⟨⟨rfl, by rw [ht]; exact hP, by rw [ht]; exact hO⟩, hS.F ht⟩) hS.2.2 dL_daysIn_18 hlocks)
set_option maxHeartbeats 4000000 in
set_option maxRecDepth 100000 in
theorem kL_daysInx1 (l : Launch) (D : va_G) (hl0 : l.stackTraces = false) (cI cZ cJ : ClassId) (q : Nat → Nat) (o : Nat) (hN : (zLC q).Nodup) (hN2 : (zLC q ++ [o]).Nodup) (pa : Int → Int) (sp : Int → Int) (al : Int → Int) (dg : Int → Int) (co : Int → Int) (da : Int → Int) (mb : Int → Int) (dd : Int → Int) (ah : Int → Int) (wl : Int → Int) (lo : Int → Int) (n : Nat) (td : Int) (wn : Int) (f : Nat → Int64) (hn : n ≤ 16) (p : Int) (c : Int) (h0 : -2147483648 ≤ p ∧ p ≤ 2147483647) (h1 : ¬ (0 ≤ p ∧ p < (n : Int))) : zLW l yL_daysIn wsL_daysIn ({ frames := 8, cells := 1, slots := 6, locals := 133 }) D [(cI, .int), (cZ, .boolean), (cJ, .long)] cJ [.ref (q 0), .int (zI p), .int (zI c), .ref o] (wC cI cZ q pa sp al dg co da mb dd ah wl lo n td wn) (wC cI cZ q pa sp al dg co da mb dd ah wl lo n td wn) o f f 1 (zLC q) 1 6 := by
  refine vx_ofWH (cc := cL_daysIn) (maxL := 5) (ret := some .int) (hh := [(0, 10, 13, 19)]) (by decide) rfl ?_
  intro p0 e9 s9 m9 ag9 below meth c9 s₁ B hml hv
  obtain ⟨hav, hP, hO, hK, hT, hE⟩ := hv
  have hx := B.exec
  have hb := B.bytes
  have hr := B.returns
  have hts := atoms_spec (ws := wsL_daysIn) B.pre
  have hown : s9.vm.findClass RL = some m9.cls := findClass_of_methodNamed B.named
  have hlocks := B.notSynchronized
  have hA : ∀ a ∈ zLC q, (fun a => a ∈ zLC q ++ [o]) a := fun _ h => List.mem_append_left _ h
  have hA2 : ∀ a ∈ zLC q ++ [o], (fun a => a ∈ zLC q ++ [o]) a := fun _ h => h
  have hoL : ∀ a ∈ [o], a ∉ zLC q := fun a ha h => (List.nodup_append.mp hN2).2.2 a h a ha rfl
  have htab := vx_table (x := yL_daysIn) B (hts (.codeWith yL_daysIn cL_daysIn 5 (some .int) [(0, 10, 13, 19)]) (by rw [show wsL_daysIn = _ from rfl]; exact List.mem_cons_self))
  have hl := lv_entry ([.ref (q 0), .int (zI p), .int (zI c), .ref o]) (n := 5) (Nat.le_of_ble_eq_true rfl)
  have hE0 : entryFrame m9 ag9 5 = F0 m9 0 ((lg_sl ([.ref (q 0), .int (zI p), .int (zI c), .ref o]) ++ List.replicate (5 - (lg_sl ([.ref (q 0), .int (zI p), .int (zI c), .ref o])).length) Slot.unset).toArray) [] := by rw [hav]; exact lg_entry_eq m9 _ _
  obtain ⟨Q0, hQ0⟩ : ∃ Q0, Q0 = vx_MQ below (zQL D (wC cI cZ q pa sp al dg co da mb dd ah wl lo n td wn) cJ o f 1 (zLC q)) zF ag9 s9 1 6 (fun a => a ∈ zLC q ++ [o]) := ⟨_, rfl⟩
  show W p0 l e9 ({ frames := 8, cells := 1, slots := 6, locals := 133 }) s9 m9 ag9 below meth c9 s9.heap [] 0 0 (vx_MQ below (zQL D (wC cI cZ q pa sp al dg co da mb dd ah wl lo n td wn) cJ o f 1 (zLC q)) zF ag9 s9 1 6 (fun a => a ∈ zLC q ++ [o])) _
  rw [hE0, ← hQ0]
  have hS : va_S (fun a => a ∈ zLC q ++ [o]) s9.heap s9.heap [] := va_S.rf
  generalize hH0 : s9.heap = H at hP hO ⊢
  have hS : va_S (fun a => a ∈ zLC q ++ [o]) s9.heap H [] := by rw [hH0] at hS ⊢; exact hS
  have hT : zT (fun a => a ∈ zLC q) s9 H := by rw [hH0] at hT; exact hT
  generalize (lg_sl ([.ref (q 0), .int (zI p), .int (zI c), .ref o]) ++ List.replicate (5 - (lg_sl ([.ref (q 0), .int (zI p), .int (zI c), .ref o])).length) Slot.unset).toArray = ls at hl ⊢
  have hl : lv_has ls 5 [(0, .ref (q 0)), (1, .int (zI p)), (2, .int (zI c)), (3, .ref o)] := hl
  refine lv_aload_n hx hb dL_daysIn_0 rfl (lv_at hl 3 rfl) ?_
  refine zr_iconst hx hb dL_daysIn_1 ?_
  refine lv_aload_n hx hb dL_daysIn_2 rfl (lv_at hl 0 rfl) ?_
  refine lv_iload_n hx hb dL_daysIn_3 rfl (lv_at hl 1 rfl) ?_
  refine lv_iload_n hx hb dL_daysIn_4 rfl (lv_at hl 2 rfl) ?_
  refine zcallXV (ci := 2) (q0 := 0) (cq := (RX2, TX2, 9)) (As := [.int (zI p), .int (zI c)]) (rest := [.int (zI 0), .ref o]) ⟨hx, hb, hml, hown, hts⟩ (hK.sub (tys' := [(cI, .int), (cZ, .boolean)]) [0, 1] rfl) (kX2_daysInx1 l D hl0 cI cZ q hN pa sp al dg co da mb dd ah wl lo n td wn hn p c h0 h1) (cwV 2 hts gL_daysIn_X2_daysIn rfl rfl rfl (by decide +kernel) ⟨Nat.le_of_ble_eq_true rfl, Nat.le_of_ble_eq_true rfl⟩) hP hT hS hA rfl rfl rfl hl.1 rfl (Nat.le_of_ble_eq_true rfl) dL_daysIn_5 ⟨Nat.le_of_ble_eq_true rfl, Nat.le_of_ble_eq_true rfl⟩ (fun ce q9 H locs hP hS _ hkk hce hcv hcl => ?_)
  have hO := zkeep hO hkk hoL
  refine vx_catch (E := "java/lang/IndexOutOfBoundsException") (name := "java/lang/IndexOutOfBoundsException") hown [] ⟨0, 10, 13, 19⟩ [] (by rw [htab]; rfl) (fun z hz => nomatch hz) (by decide) (by decide) (hts (.classLink RL 19 "java/lang/IndexOutOfBoundsException") (by decide +kernel)) (show (Cond.castable zIO zIO).before _ s9 = true from hE.1.1) hce hcv hcl ?_
  refine lv_astore (lv' := [(4, .ref q9), (0, .ref (q 0)), (1, .int (zI p)), (2, .int (zI c)), (3, .ref o)]) hx hb dL_daysIn_13 hl (by decide) rfl (fun ls hl => ?_)
  refine zr_iconst hx hb dL_daysIn_15 ?_
  rw [hQ0]
  exact vx_ret (W.iret hx hb hr (fun t ht _ => ⟨⟨rfl, by rw [ht]; exact hP, by rw [ht]; exact hO⟩, hS.F ht⟩) hS.2.2 dL_daysIn_16 hlocks)
set_option maxHeartbeats 4000000 in
set_option maxRecDepth 100000 in
theorem kL_daysInx2 (l : Launch) (D : va_G) (hl0 : l.stackTraces = false) (cI cZ cJ : ClassId) (q : Nat → Nat) (o : Nat) (hN : (zLC q).Nodup) (hN2 : (zLC q ++ [o]).Nodup) (pa : Int → Int) (sp : Int → Int) (al : Int → Int) (dg : Int → Int) (co : Int → Int) (da : Int → Int) (mb : Int → Int) (dd : Int → Int) (ah : Int → Int) (wl : Int → Int) (lo : Int → Int) (n : Nat) (td : Int) (wn : Int) (f : Nat → Int64) (hn : n ≤ 16) (p : Int) (c : Int) (h0 : -2147483648 ≤ c ∧ c ≤ 2147483647) (h1 : 0 ≤ p ∧ p < (n : Int)) (h2 : ¬ (1 ≤ c ∧ c ≤ 5)) : zLW l yL_daysIn wsL_daysIn ({ frames := 8, cells := 1, slots := 6, locals := 133 }) D [(cI, .int), (cZ, .boolean), (cJ, .long)] cJ [.ref (q 0), .int (zI p), .int (zI c), .ref o] (wC cI cZ q pa sp al dg co da mb dd ah wl lo n td wn) (wC cI cZ q pa sp al dg co da mb dd ah wl lo n td wn) o f f 1 (zLC q) 1 6 := by
  refine vx_ofWH (cc := cL_daysIn) (maxL := 5) (ret := some .int) (hh := [(0, 10, 13, 19)]) (by decide) rfl ?_
  intro p0 e9 s9 m9 ag9 below meth c9 s₁ B hml hv
  obtain ⟨hav, hP, hO, hK, hT, hE⟩ := hv
  have hx := B.exec
  have hb := B.bytes
  have hr := B.returns
  have hts := atoms_spec (ws := wsL_daysIn) B.pre
  have hown : s9.vm.findClass RL = some m9.cls := findClass_of_methodNamed B.named
  have hlocks := B.notSynchronized
  have hA : ∀ a ∈ zLC q, (fun a => a ∈ zLC q ++ [o]) a := fun _ h => List.mem_append_left _ h
  have hA2 : ∀ a ∈ zLC q ++ [o], (fun a => a ∈ zLC q ++ [o]) a := fun _ h => h
  have hoL : ∀ a ∈ [o], a ∉ zLC q := fun a ha h => (List.nodup_append.mp hN2).2.2 a h a ha rfl
  have htab := vx_table (x := yL_daysIn) B (hts (.codeWith yL_daysIn cL_daysIn 5 (some .int) [(0, 10, 13, 19)]) (by rw [show wsL_daysIn = _ from rfl]; exact List.mem_cons_self))
  have hl := lv_entry ([.ref (q 0), .int (zI p), .int (zI c), .ref o]) (n := 5) (Nat.le_of_ble_eq_true rfl)
  have hE0 : entryFrame m9 ag9 5 = F0 m9 0 ((lg_sl ([.ref (q 0), .int (zI p), .int (zI c), .ref o]) ++ List.replicate (5 - (lg_sl ([.ref (q 0), .int (zI p), .int (zI c), .ref o])).length) Slot.unset).toArray) [] := by rw [hav]; exact lg_entry_eq m9 _ _
  obtain ⟨Q0, hQ0⟩ : ∃ Q0, Q0 = vx_MQ below (zQL D (wC cI cZ q pa sp al dg co da mb dd ah wl lo n td wn) cJ o f 1 (zLC q)) zF ag9 s9 1 6 (fun a => a ∈ zLC q ++ [o]) := ⟨_, rfl⟩
  show W p0 l e9 ({ frames := 8, cells := 1, slots := 6, locals := 133 }) s9 m9 ag9 below meth c9 s9.heap [] 0 0 (vx_MQ below (zQL D (wC cI cZ q pa sp al dg co da mb dd ah wl lo n td wn) cJ o f 1 (zLC q)) zF ag9 s9 1 6 (fun a => a ∈ zLC q ++ [o])) _
  rw [hE0, ← hQ0]
  have hS : va_S (fun a => a ∈ zLC q ++ [o]) s9.heap s9.heap [] := va_S.rf
  generalize hH0 : s9.heap = H at hP hO ⊢
  have hS : va_S (fun a => a ∈ zLC q ++ [o]) s9.heap H [] := by rw [hH0] at hS ⊢; exact hS
  have hT : zT (fun a => a ∈ zLC q) s9 H := by rw [hH0] at hT; exact hT
  generalize (lg_sl ([.ref (q 0), .int (zI p), .int (zI c), .ref o]) ++ List.replicate (5 - (lg_sl ([.ref (q 0), .int (zI p), .int (zI c), .ref o])).length) Slot.unset).toArray = ls at hl ⊢
  have hl : lv_has ls 5 [(0, .ref (q 0)), (1, .int (zI p)), (2, .int (zI c)), (3, .ref o)] := hl
  refine lv_aload_n hx hb dL_daysIn_0 rfl (lv_at hl 3 rfl) ?_
  refine zr_iconst hx hb dL_daysIn_1 ?_
  refine lv_aload_n hx hb dL_daysIn_2 rfl (lv_at hl 0 rfl) ?_
  refine lv_iload_n hx hb dL_daysIn_3 rfl (lv_at hl 1 rfl) ?_
  refine lv_iload_n hx hb dL_daysIn_4 rfl (lv_at hl 2 rfl) ?_
  refine zcallXV (ci := 2) (q0 := 0) (cq := (RX2, TX2, 9)) (As := [.int (zI p), .int (zI c)]) (rest := [.int (zI 0), .ref o]) ⟨hx, hb, hml, hown, hts⟩ (hK.sub (tys' := [(cI, .int), (cZ, .boolean)]) [0, 1] rfl) (kX2_daysInx2 l D hl0 cI cZ q hN pa sp al dg co da mb dd ah wl lo n td wn hn p c h0 h1 h2) (cwV 2 hts gL_daysIn_X2_daysIn rfl rfl rfl (by decide +kernel) ⟨Nat.le_of_ble_eq_true rfl, Nat.le_of_ble_eq_true rfl⟩) hP hT hS hA rfl rfl rfl hl.1 rfl (Nat.le_of_ble_eq_true rfl) dL_daysIn_5 ⟨Nat.le_of_ble_eq_true rfl, Nat.le_of_ble_eq_true rfl⟩ (fun ce q9 H locs hP hS _ hkk hce hcv hcl => ?_)
  have hO := zkeep hO hkk hoL
  refine vx_catch (E := "java/lang/IndexOutOfBoundsException") (name := "java/lang/IndexOutOfBoundsException") hown [] ⟨0, 10, 13, 19⟩ [] (by rw [htab]; rfl) (fun z hz => nomatch hz) (by decide) (by decide) (hts (.classLink RL 19 "java/lang/IndexOutOfBoundsException") (by decide +kernel)) (show (Cond.castable zIO zIO).before _ s9 = true from hE.1.1) hce hcv hcl ?_
  refine lv_astore (lv' := [(4, .ref q9), (0, .ref (q 0)), (1, .int (zI p)), (2, .int (zI c)), (3, .ref o)]) hx hb dL_daysIn_13 hl (by decide) rfl (fun ls hl => ?_)
  refine zr_iconst hx hb dL_daysIn_15 ?_
  rw [hQ0]
  exact vx_ret (W.iret hx hb hr (fun t ht _ => ⟨⟨rfl, by rw [ht]; exact hP, by rw [ht]; exact hO⟩, hS.F ht⟩) hS.2.2 dL_daysIn_16 hlocks)
set_option maxHeartbeats 4000000 in
set_option maxRecDepth 100000 in
theorem kL_wearingok (l : Launch) (D : va_G) (hl0 : l.stackTraces = false) (cI cZ cJ : ClassId) (q : Nat → Nat) (o : Nat) (hN : (zLC q).Nodup) (hN2 : (zLC q ++ [o]).Nodup) (pa : Int → Int) (sp : Int → Int) (al : Int → Int) (dg : Int → Int) (co : Int → Int) (da : Int → Int) (mb : Int → Int) (dd : Int → Int) (ah : Int → Int) (wl : Int → Int) (lo : Int → Int) (n : Nat) (td : Int) (wn : Int) (f : Nat → Int64) (hn : n ≤ 16) (hco : ∀ j : Int, 0 ≤ co j ∧ co j ≤ 5) (hda : ∀ j : Int, 0 ≤ da j ∧ da j ≤ 60) (hmb : ∀ j : Int, 0 ≤ mb j ∧ mb j ≤ 4) (hdd : ∀ j : Int, 0 ≤ dd j ∧ dd j ≤ 1000000) (htd : 0 ≤ td ∧ td ≤ 1000000) (hal : ∀ j : Int, 0 ≤ al j ∧ al j ≤ 1) (c : Int) (h1 : 0 ≤ c ∧ c ≤ 5) : zLW l yL_wearing wsL_wearing ({ frames := 7, cells := 0, slots := 0, locals := 117 }) D [(cI, .int), (cZ, .boolean), (cJ, .long)] cJ [.ref (q 0), .int (zI c), .ref o] (wC cI cZ q pa sp al dg co da mb dd ah wl lo n td wn) (wC cI cZ q pa sp al dg co da mb dd ah wl lo n td wn) o f (vp_updL f 0 (zI (smF (cwF al co da mb dd td n c) n)).toInt64) 0 (zLC q) 0 0 := by
  refine vx_ofWH (cc := cL_wearing) (maxL := 4) (ret := some .int) (hh := [(0, 9, 12, 19)]) (by decide) rfl ?_
  intro p0 e9 s9 m9 ag9 below meth c9 s₁ B hml hv
  obtain ⟨hav, hP, hO, hK, hT, hE⟩ := hv
  have hx := B.exec
  have hb := B.bytes
  have hr := B.returns
  have hts := atoms_spec (ws := wsL_wearing) B.pre
  have hown : s9.vm.findClass RL = some m9.cls := findClass_of_methodNamed B.named
  have hlocks := B.notSynchronized
  have hA : ∀ a ∈ zLC q, (fun a => a ∈ zLC q ++ [o]) a := fun _ h => List.mem_append_left _ h
  have hA2 : ∀ a ∈ zLC q ++ [o], (fun a => a ∈ zLC q ++ [o]) a := fun _ h => h
  have hoL : ∀ a ∈ [o], a ∉ zLC q := fun a ha h => (List.nodup_append.mp hN2).2.2 a h a ha rfl
  have hl := lv_entry ([.ref (q 0), .int (zI c), .ref o]) (n := 4) (Nat.le_of_ble_eq_true rfl)
  have hE0 : entryFrame m9 ag9 4 = F0 m9 0 ((lg_sl ([.ref (q 0), .int (zI c), .ref o]) ++ List.replicate (4 - (lg_sl ([.ref (q 0), .int (zI c), .ref o])).length) Slot.unset).toArray) [] := by rw [hav]; exact lg_entry_eq m9 _ _
  obtain ⟨Q0, hQ0⟩ : ∃ Q0, Q0 = vx_MQ below (zQL D (wC cI cZ q pa sp al dg co da mb dd ah wl lo n td wn) cJ o (vp_updL f 0 (zI (smF (cwF al co da mb dd td n c) n)).toInt64) 0 (zLC q)) zF ag9 s9 0 0 (fun a => a ∈ zLC q ++ [o]) := ⟨_, rfl⟩
  show W p0 l e9 ({ frames := 7, cells := 0, slots := 0, locals := 117 }) s9 m9 ag9 below meth c9 s9.heap [] 0 0 (vx_MQ below (zQL D (wC cI cZ q pa sp al dg co da mb dd ah wl lo n td wn) cJ o (vp_updL f 0 (zI (smF (cwF al co da mb dd td n c) n)).toInt64) 0 (zLC q)) zF ag9 s9 0 0 (fun a => a ∈ zLC q ++ [o])) _
  rw [hE0, ← hQ0]
  have hS : va_S (fun a => a ∈ zLC q ++ [o]) s9.heap s9.heap [] := va_S.rf
  generalize hH0 : s9.heap = H at hP hO ⊢
  have hS : va_S (fun a => a ∈ zLC q ++ [o]) s9.heap H [] := by rw [hH0] at hS ⊢; exact hS
  have hT : zT (fun a => a ∈ zLC q) s9 H := by rw [hH0] at hT; exact hT
  generalize (lg_sl ([.ref (q 0), .int (zI c), .ref o]) ++ List.replicate (4 - (lg_sl ([.ref (q 0), .int (zI c), .ref o])).length) Slot.unset).toArray = ls at hl ⊢
  have hl : lv_has ls 4 [(0, .ref (q 0)), (1, .int (zI c)), (2, .ref o)] := hl
  refine lv_aload_n hx hb dL_wearing_0 rfl (lv_at hl 2 rfl) ?_
  refine zr_iconst hx hb dL_wearing_1 ?_
  refine lv_aload_n hx hb dL_wearing_2 rfl (lv_at hl 0 rfl) ?_
  refine lv_iload_n hx hb dL_wearing_3 rfl (lv_at hl 1 rfl) ?_
  refine zcallV (ci := 2) (q0 := 0) (cq := (RX2, TX2, 9)) (As := [.int (zI c)]) (rest := [.int (zI 0), .ref o]) ⟨hx, hb, hml, hown, hts⟩ (hK.sub (tys' := [(cI, .int), (cZ, .boolean)]) [0, 1] rfl) (kX2_wearingok l D cI cZ q hN pa sp al dg co da mb dd ah wl lo n td wn hn hco hda hmb hdd htd hal c h1) (cwV 1 hts gL_wearing_X2_wearing rfl rfl rfl (by decide +kernel) ⟨Nat.le_of_ble_eq_true rfl, Nat.le_of_ble_eq_true rfl⟩) hP hS hA rfl rfl rfl hl.1 rfl (Nat.le_of_ble_eq_true rfl) dL_wearing_4 ⟨Nat.zero_le _, Nat.zero_le _⟩ (fun H locs hP hS _ hkk => ?_)
  have hO := zkeep hO hkk hoL
  refine W.eq (g2 := F0 m9 7 ls [.int (zI (smF (cwF al co da mb dd td n c) n)), .int (zI 0), .ref o]) rfl ?_
  refine lv_i2l hx hb dL_wearing_7 rfl ?_
  have hPO := zapp hP hO
  refine zr_last0 hx hb hK hPO hN2 rfl hA2 hS 14 2 rfl rfl dL_wearing_8 (fun H locs hPO hS => ?_)
  have hPO : va_P D vwCl ((wC cI cZ q pa sp al dg co da mb dd ah wl lo n td wn) ++ wO cJ o (vp_updL f 0 (zI (smF (cwF al co da mb dd td n c) n)).toInt64)) H := hPO
  have hP := zleft hPO
  have hO := zright hPO
  refine lv_goto (tgt := 15) hx hb dL_wearing_9 (by decide) ?_
  refine zr_iconst hx hb dL_wearing_15 ?_
  rw [hQ0]
  exact vx_ret (W.iret hx hb hr (fun t ht _ => ⟨⟨rfl, by rw [ht]; exact hP, by rw [ht]; exact hO⟩, hS.F ht⟩) hS.2.2 dL_wearing_16 hlocks)
set_option maxHeartbeats 4000000 in
set_option maxRecDepth 100000 in
theorem kL_wearingx1 (l : Launch) (D : va_G) (hl0 : l.stackTraces = false) (cI cZ cJ : ClassId) (q : Nat → Nat) (o : Nat) (hN : (zLC q).Nodup) (hN2 : (zLC q ++ [o]).Nodup) (pa : Int → Int) (sp : Int → Int) (al : Int → Int) (dg : Int → Int) (co : Int → Int) (da : Int → Int) (mb : Int → Int) (dd : Int → Int) (ah : Int → Int) (wl : Int → Int) (lo : Int → Int) (n : Nat) (td : Int) (wn : Int) (f : Nat → Int64) (c : Int) (h0 : -2147483648 ≤ c ∧ c ≤ 2147483647) (h1 : ¬ (0 ≤ c ∧ c ≤ 5)) : zLW l yL_wearing wsL_wearing ({ frames := 7, cells := 1, slots := 6, locals := 117 }) D [(cI, .int), (cZ, .boolean), (cJ, .long)] cJ [.ref (q 0), .int (zI c), .ref o] (wC cI cZ q pa sp al dg co da mb dd ah wl lo n td wn) (wC cI cZ q pa sp al dg co da mb dd ah wl lo n td wn) o f f 1 (zLC q) 1 6 := by
  refine vx_ofWH (cc := cL_wearing) (maxL := 4) (ret := some .int) (hh := [(0, 9, 12, 19)]) (by decide) rfl ?_
  intro p0 e9 s9 m9 ag9 below meth c9 s₁ B hml hv
  obtain ⟨hav, hP, hO, hK, hT, hE⟩ := hv
  have hx := B.exec
  have hb := B.bytes
  have hr := B.returns
  have hts := atoms_spec (ws := wsL_wearing) B.pre
  have hown : s9.vm.findClass RL = some m9.cls := findClass_of_methodNamed B.named
  have hlocks := B.notSynchronized
  have hA : ∀ a ∈ zLC q, (fun a => a ∈ zLC q ++ [o]) a := fun _ h => List.mem_append_left _ h
  have hA2 : ∀ a ∈ zLC q ++ [o], (fun a => a ∈ zLC q ++ [o]) a := fun _ h => h
  have hoL : ∀ a ∈ [o], a ∉ zLC q := fun a ha h => (List.nodup_append.mp hN2).2.2 a h a ha rfl
  have htab := vx_table (x := yL_wearing) B (hts (.codeWith yL_wearing cL_wearing 4 (some .int) [(0, 9, 12, 19)]) (by rw [show wsL_wearing = _ from rfl]; exact List.mem_cons_self))
  have hl := lv_entry ([.ref (q 0), .int (zI c), .ref o]) (n := 4) (Nat.le_of_ble_eq_true rfl)
  have hE0 : entryFrame m9 ag9 4 = F0 m9 0 ((lg_sl ([.ref (q 0), .int (zI c), .ref o]) ++ List.replicate (4 - (lg_sl ([.ref (q 0), .int (zI c), .ref o])).length) Slot.unset).toArray) [] := by rw [hav]; exact lg_entry_eq m9 _ _
  obtain ⟨Q0, hQ0⟩ : ∃ Q0, Q0 = vx_MQ below (zQL D (wC cI cZ q pa sp al dg co da mb dd ah wl lo n td wn) cJ o f 1 (zLC q)) zF ag9 s9 1 6 (fun a => a ∈ zLC q ++ [o]) := ⟨_, rfl⟩
  show W p0 l e9 ({ frames := 7, cells := 1, slots := 6, locals := 117 }) s9 m9 ag9 below meth c9 s9.heap [] 0 0 (vx_MQ below (zQL D (wC cI cZ q pa sp al dg co da mb dd ah wl lo n td wn) cJ o f 1 (zLC q)) zF ag9 s9 1 6 (fun a => a ∈ zLC q ++ [o])) _
  rw [hE0, ← hQ0]
  have hS : va_S (fun a => a ∈ zLC q ++ [o]) s9.heap s9.heap [] := va_S.rf
  generalize hH0 : s9.heap = H at hP hO ⊢
  have hS : va_S (fun a => a ∈ zLC q ++ [o]) s9.heap H [] := by rw [hH0] at hS ⊢; exact hS
  have hT : zT (fun a => a ∈ zLC q) s9 H := by rw [hH0] at hT; exact hT
  generalize (lg_sl ([.ref (q 0), .int (zI c), .ref o]) ++ List.replicate (4 - (lg_sl ([.ref (q 0), .int (zI c), .ref o])).length) Slot.unset).toArray = ls at hl ⊢
  have hl : lv_has ls 4 [(0, .ref (q 0)), (1, .int (zI c)), (2, .ref o)] := hl
  refine lv_aload_n hx hb dL_wearing_0 rfl (lv_at hl 2 rfl) ?_
  refine zr_iconst hx hb dL_wearing_1 ?_
  refine lv_aload_n hx hb dL_wearing_2 rfl (lv_at hl 0 rfl) ?_
  refine lv_iload_n hx hb dL_wearing_3 rfl (lv_at hl 1 rfl) ?_
  refine zcallXV (ci := 2) (q0 := 0) (cq := (RX2, TX2, 9)) (As := [.int (zI c)]) (rest := [.int (zI 0), .ref o]) ⟨hx, hb, hml, hown, hts⟩ (hK.sub (tys' := [(cI, .int), (cZ, .boolean)]) [0, 1] rfl) (kX2_wearingx1 l D hl0 cI cZ q hN pa sp al dg co da mb dd ah wl lo n td wn c h0 h1) (cwV 1 hts gL_wearing_X2_wearing rfl rfl rfl (by decide +kernel) ⟨Nat.le_of_ble_eq_true rfl, Nat.le_of_ble_eq_true rfl⟩) hP hT hS hA rfl rfl rfl hl.1 rfl (Nat.le_of_ble_eq_true rfl) dL_wearing_4 ⟨Nat.le_of_ble_eq_true rfl, Nat.le_of_ble_eq_true rfl⟩ (fun ce q9 H locs hP hS _ hkk hce hcv hcl => ?_)
  have hO := zkeep hO hkk hoL
  refine vx_catch (E := "java/lang/IndexOutOfBoundsException") (name := "java/lang/IndexOutOfBoundsException") hown [] ⟨0, 9, 12, 19⟩ [] (by rw [htab]; rfl) (fun z hz => nomatch hz) (by decide) (by decide) (hts (.classLink RL 19 "java/lang/IndexOutOfBoundsException") (by decide +kernel)) (show (Cond.castable zIO zIO).before _ s9 = true from hE.1.1) hce hcv hcl ?_
  refine lv_astore_n (lv' := [(3, .ref q9), (0, .ref (q 0)), (1, .int (zI c)), (2, .ref o)]) hx hb dL_wearing_12 rfl hl (by decide) rfl (fun ls hl => ?_)
  refine zr_iconst hx hb dL_wearing_13 ?_
  rw [hQ0]
  exact vx_ret (W.iret hx hb hr (fun t ht _ => ⟨⟨rfl, by rw [ht]; exact hP, by rw [ht]; exact hO⟩, hS.F ht⟩) hS.2.2 dL_wearing_14 hlocks)
set_option maxHeartbeats 4000000 in
set_option maxRecDepth 100000 in
theorem kL_wouldMournok (l : Launch) (D : va_G) (hl0 : l.stackTraces = false) (cI cZ cJ : ClassId) (q : Nat → Nat) (o : Nat) (hN : (zLC q).Nodup) (hN2 : (zLC q ++ [o]).Nodup) (pa : Int → Int) (sp : Int → Int) (al : Int → Int) (dg : Int → Int) (co : Int → Int) (da : Int → Int) (mb : Int → Int) (dd : Int → Int) (ah : Int → Int) (wl : Int → Int) (lo : Int → Int) (n : Nat) (td : Int) (wn : Int) (f : Nat → Int64) (hn : n ≤ 16) (hpa : ∀ j : Int, -1 ≤ pa j ∧ pa j ≤ 15) (hsp : ∀ j : Int, -1 ≤ sp j ∧ sp j ≤ 15) (hal : ∀ j : Int, 0 ≤ al j ∧ al j ≤ 1) (hda : ∀ j : Int, 0 ≤ da j ∧ da j ≤ 60) (p : Int) (h1 : 0 ≤ p ∧ p < (n : Int)) (h2 : al p ≠ 0) : zLW l yL_wouldMourn wsL_wouldMourn ({ frames := 8, cells := 0, slots := 0, locals := 134 }) D [(cI, .int), (cZ, .boolean), (cJ, .long)] cJ [.ref (q 0), .int (zI p), .ref o] (wC cI cZ q pa sp al dg co da mb dd ah wl lo n td wn) (wC cI cZ q pa sp al (dgF pa sp n p) co da mb dd ah wl lo n td wn) o f (vp_updL f 0 (zI (smF (wbF al da (dgF pa sp n p)) n)).toInt64) 0 (zLC q) 0 0 := by
  refine vx_ofWH (cc := cL_wouldMourn) (maxL := 4) (ret := some .int) (hh := [(0, 9, 12, 19), (0, 9, 15, 13)]) (by decide) rfl ?_
  intro p0 e9 s9 m9 ag9 below meth c9 s₁ B hml hv
  obtain ⟨hav, hP, hO, hK, hT, hE⟩ := hv
  have hx := B.exec
  have hb := B.bytes
  have hr := B.returns
  have hts := atoms_spec (ws := wsL_wouldMourn) B.pre
  have hown : s9.vm.findClass RL = some m9.cls := findClass_of_methodNamed B.named
  have hlocks := B.notSynchronized
  have hA : ∀ a ∈ zLC q, (fun a => a ∈ zLC q ++ [o]) a := fun _ h => List.mem_append_left _ h
  have hA2 : ∀ a ∈ zLC q ++ [o], (fun a => a ∈ zLC q ++ [o]) a := fun _ h => h
  have hoL : ∀ a ∈ [o], a ∉ zLC q := fun a ha h => (List.nodup_append.mp hN2).2.2 a h a ha rfl
  have hl := lv_entry ([.ref (q 0), .int (zI p), .ref o]) (n := 4) (Nat.le_of_ble_eq_true rfl)
  have hE0 : entryFrame m9 ag9 4 = F0 m9 0 ((lg_sl ([.ref (q 0), .int (zI p), .ref o]) ++ List.replicate (4 - (lg_sl ([.ref (q 0), .int (zI p), .ref o])).length) Slot.unset).toArray) [] := by rw [hav]; exact lg_entry_eq m9 _ _
  obtain ⟨Q0, hQ0⟩ : ∃ Q0, Q0 = vx_MQ below (zQL D (wC cI cZ q pa sp al (dgF pa sp n p) co da mb dd ah wl lo n td wn) cJ o (vp_updL f 0 (zI (smF (wbF al da (dgF pa sp n p)) n)).toInt64) 0 (zLC q)) zF ag9 s9 0 0 (fun a => a ∈ zLC q ++ [o]) := ⟨_, rfl⟩
  show W p0 l e9 ({ frames := 8, cells := 0, slots := 0, locals := 134 }) s9 m9 ag9 below meth c9 s9.heap [] 0 0 (vx_MQ below (zQL D (wC cI cZ q pa sp al (dgF pa sp n p) co da mb dd ah wl lo n td wn) cJ o (vp_updL f 0 (zI (smF (wbF al da (dgF pa sp n p)) n)).toInt64) 0 (zLC q)) zF ag9 s9 0 0 (fun a => a ∈ zLC q ++ [o])) _
  rw [hE0, ← hQ0]
  have hS : va_S (fun a => a ∈ zLC q ++ [o]) s9.heap s9.heap [] := va_S.rf
  generalize hH0 : s9.heap = H at hP hO ⊢
  have hS : va_S (fun a => a ∈ zLC q ++ [o]) s9.heap H [] := by rw [hH0] at hS ⊢; exact hS
  have hT : zT (fun a => a ∈ zLC q) s9 H := by rw [hH0] at hT; exact hT
  generalize (lg_sl ([.ref (q 0), .int (zI p), .ref o]) ++ List.replicate (4 - (lg_sl ([.ref (q 0), .int (zI p), .ref o])).length) Slot.unset).toArray = ls at hl ⊢
  have hl : lv_has ls 4 [(0, .ref (q 0)), (1, .int (zI p)), (2, .ref o)] := hl
  refine lv_aload_n hx hb dL_wouldMourn_0 rfl (lv_at hl 2 rfl) ?_
  refine zr_iconst hx hb dL_wouldMourn_1 ?_
  refine lv_aload_n hx hb dL_wouldMourn_2 rfl (lv_at hl 0 rfl) ?_
  refine lv_iload_n hx hb dL_wouldMourn_3 rfl (lv_at hl 1 rfl) ?_
  refine zcallV (ci := 2) (q0 := 0) (cq := (RX2, TX2, 9)) (As := [.int (zI p)]) (rest := [.int (zI 0), .ref o]) ⟨hx, hb, hml, hown, hts⟩ (hK.sub (tys' := [(cI, .int), (cZ, .boolean)]) [0, 1] rfl) (kX2_wouldMournok l D cI cZ q hN pa sp al dg co da mb dd ah wl lo n td wn hn hpa hsp hal hda p h1 h2) (cwV 1 hts gL_wouldMourn_X2_wouldMourn rfl rfl rfl (by decide +kernel) ⟨Nat.le_of_ble_eq_true rfl, Nat.le_of_ble_eq_true rfl⟩) hP hS hA rfl rfl rfl hl.1 rfl (Nat.le_of_ble_eq_true rfl) dL_wouldMourn_4 ⟨Nat.zero_le _, Nat.zero_le _⟩ (fun H locs hP hS _ hkk => ?_)
  have hO := zkeep hO hkk hoL
  refine W.eq (g2 := F0 m9 7 ls [.int (zI (smF (wbF al da (dgF pa sp n p)) n)), .int (zI 0), .ref o]) rfl ?_
  refine lv_i2l hx hb dL_wouldMourn_7 rfl ?_
  have hPO := zapp hP hO
  refine zr_last0 hx hb hK hPO hN2 rfl hA2 hS 14 2 rfl rfl dL_wouldMourn_8 (fun H locs hPO hS => ?_)
  have hPO : va_P D vwCl ((wC cI cZ q pa sp al (dgF pa sp n p) co da mb dd ah wl lo n td wn) ++ wO cJ o (vp_updL f 0 (zI (smF (wbF al da (dgF pa sp n p)) n)).toInt64)) H := hPO
  have hP := zleft hPO
  have hO := zright hPO
  refine lv_goto (tgt := 18) hx hb dL_wouldMourn_9 (by decide) ?_
  refine zr_iconst hx hb dL_wouldMourn_18 ?_
  rw [hQ0]
  exact vx_ret (W.iret hx hb hr (fun t ht _ => ⟨⟨rfl, by rw [ht]; exact hP, by rw [ht]; exact hO⟩, hS.F ht⟩) hS.2.2 dL_wouldMourn_19 hlocks)
set_option maxHeartbeats 4000000 in
set_option maxRecDepth 100000 in
theorem kL_wouldMournx1 (l : Launch) (D : va_G) (hl0 : l.stackTraces = false) (cI cZ cJ : ClassId) (q : Nat → Nat) (o : Nat) (hN : (zLC q).Nodup) (hN2 : (zLC q ++ [o]).Nodup) (pa : Int → Int) (sp : Int → Int) (al : Int → Int) (dg : Int → Int) (co : Int → Int) (da : Int → Int) (mb : Int → Int) (dd : Int → Int) (ah : Int → Int) (wl : Int → Int) (lo : Int → Int) (n : Nat) (td : Int) (wn : Int) (f : Nat → Int64) (hn : n ≤ 16) (p : Int) (h0 : -2147483648 ≤ p ∧ p ≤ 2147483647) (h1 : ¬ (0 ≤ p ∧ p < (n : Int))) : zLW l yL_wouldMourn wsL_wouldMourn ({ frames := 8, cells := 1, slots := 6, locals := 134 }) D [(cI, .int), (cZ, .boolean), (cJ, .long)] cJ [.ref (q 0), .int (zI p), .ref o] (wC cI cZ q pa sp al dg co da mb dd ah wl lo n td wn) (wC cI cZ q pa sp al dg co da mb dd ah wl lo n td wn) o f f 1 (zLC q) 1 6 := by
  refine vx_ofWH (cc := cL_wouldMourn) (maxL := 4) (ret := some .int) (hh := [(0, 9, 12, 19), (0, 9, 15, 13)]) (by decide) rfl ?_
  intro p0 e9 s9 m9 ag9 below meth c9 s₁ B hml hv
  obtain ⟨hav, hP, hO, hK, hT, hE⟩ := hv
  have hx := B.exec
  have hb := B.bytes
  have hr := B.returns
  have hts := atoms_spec (ws := wsL_wouldMourn) B.pre
  have hown : s9.vm.findClass RL = some m9.cls := findClass_of_methodNamed B.named
  have hlocks := B.notSynchronized
  have hA : ∀ a ∈ zLC q, (fun a => a ∈ zLC q ++ [o]) a := fun _ h => List.mem_append_left _ h
  have hA2 : ∀ a ∈ zLC q ++ [o], (fun a => a ∈ zLC q ++ [o]) a := fun _ h => h
  have hoL : ∀ a ∈ [o], a ∉ zLC q := fun a ha h => (List.nodup_append.mp hN2).2.2 a h a ha rfl
  have htab := vx_table (x := yL_wouldMourn) B (hts (.codeWith yL_wouldMourn cL_wouldMourn 4 (some .int) [(0, 9, 12, 19), (0, 9, 15, 13)]) (by rw [show wsL_wouldMourn = _ from rfl]; exact List.mem_cons_self))
  have hl := lv_entry ([.ref (q 0), .int (zI p), .ref o]) (n := 4) (Nat.le_of_ble_eq_true rfl)
  have hE0 : entryFrame m9 ag9 4 = F0 m9 0 ((lg_sl ([.ref (q 0), .int (zI p), .ref o]) ++ List.replicate (4 - (lg_sl ([.ref (q 0), .int (zI p), .ref o])).length) Slot.unset).toArray) [] := by rw [hav]; exact lg_entry_eq m9 _ _
  obtain ⟨Q0, hQ0⟩ : ∃ Q0, Q0 = vx_MQ below (zQL D (wC cI cZ q pa sp al dg co da mb dd ah wl lo n td wn) cJ o f 1 (zLC q)) zF ag9 s9 1 6 (fun a => a ∈ zLC q ++ [o]) := ⟨_, rfl⟩
  show W p0 l e9 ({ frames := 8, cells := 1, slots := 6, locals := 134 }) s9 m9 ag9 below meth c9 s9.heap [] 0 0 (vx_MQ below (zQL D (wC cI cZ q pa sp al dg co da mb dd ah wl lo n td wn) cJ o f 1 (zLC q)) zF ag9 s9 1 6 (fun a => a ∈ zLC q ++ [o])) _
  rw [hE0, ← hQ0]
  have hS : va_S (fun a => a ∈ zLC q ++ [o]) s9.heap s9.heap [] := va_S.rf
  generalize hH0 : s9.heap = H at hP hO ⊢
  have hS : va_S (fun a => a ∈ zLC q ++ [o]) s9.heap H [] := by rw [hH0] at hS ⊢; exact hS
  have hT : zT (fun a => a ∈ zLC q) s9 H := by rw [hH0] at hT; exact hT
  generalize (lg_sl ([.ref (q 0), .int (zI p), .ref o]) ++ List.replicate (4 - (lg_sl ([.ref (q 0), .int (zI p), .ref o])).length) Slot.unset).toArray = ls at hl ⊢
  have hl : lv_has ls 4 [(0, .ref (q 0)), (1, .int (zI p)), (2, .ref o)] := hl
  refine lv_aload_n hx hb dL_wouldMourn_0 rfl (lv_at hl 2 rfl) ?_
  refine zr_iconst hx hb dL_wouldMourn_1 ?_
  refine lv_aload_n hx hb dL_wouldMourn_2 rfl (lv_at hl 0 rfl) ?_
  refine lv_iload_n hx hb dL_wouldMourn_3 rfl (lv_at hl 1 rfl) ?_
  refine zcallXV (ci := 2) (q0 := 0) (cq := (RX2, TX2, 9)) (As := [.int (zI p)]) (rest := [.int (zI 0), .ref o]) ⟨hx, hb, hml, hown, hts⟩ (hK.sub (tys' := [(cI, .int), (cZ, .boolean)]) [0, 1] rfl) (kX2_wouldMournx1 l D hl0 cI cZ q hN pa sp al dg co da mb dd ah wl lo n td wn hn p h0 h1) (cwV 1 hts gL_wouldMourn_X2_wouldMourn rfl rfl rfl (by decide +kernel) ⟨Nat.le_of_ble_eq_true rfl, Nat.le_of_ble_eq_true rfl⟩) hP hT hS hA rfl rfl rfl hl.1 rfl (Nat.le_of_ble_eq_true rfl) dL_wouldMourn_4 ⟨Nat.le_of_ble_eq_true rfl, Nat.le_of_ble_eq_true rfl⟩ (fun ce q9 H locs hP hS _ hkk hce hcv hcl => ?_)
  have hO := zkeep hO hkk hoL
  refine vx_catch (E := "java/lang/IndexOutOfBoundsException") (name := "java/lang/IndexOutOfBoundsException") hown [] ⟨0, 9, 12, 19⟩ [⟨0, 9, 15, 13⟩] (by rw [htab]; rfl) (fun z hz => nomatch hz) (by decide) (by decide) (hts (.classLink RL 19 "java/lang/IndexOutOfBoundsException") (by decide +kernel)) (show (Cond.castable zIO zIO).before _ s9 = true from hE.1.1) hce hcv hcl ?_
  refine lv_astore_n (lv' := [(3, .ref q9), (0, .ref (q 0)), (1, .int (zI p)), (2, .ref o)]) hx hb dL_wouldMourn_12 rfl hl (by decide) rfl (fun ls hl => ?_)
  refine zr_iconst hx hb dL_wouldMourn_13 ?_
  rw [hQ0]
  exact vx_ret (W.iret hx hb hr (fun t ht _ => ⟨⟨rfl, by rw [ht]; exact hP, by rw [ht]; exact hO⟩, hS.F ht⟩) hS.2.2 dL_wouldMourn_14 hlocks)
set_option maxHeartbeats 4000000 in
set_option maxRecDepth 100000 in
theorem kL_wouldMournx2 (l : Launch) (D : va_G) (hl0 : l.stackTraces = false) (cI cZ cJ : ClassId) (q : Nat → Nat) (o : Nat) (hN : (zLC q).Nodup) (hN2 : (zLC q ++ [o]).Nodup) (pa : Int → Int) (sp : Int → Int) (al : Int → Int) (dg : Int → Int) (co : Int → Int) (da : Int → Int) (mb : Int → Int) (dd : Int → Int) (ah : Int → Int) (wl : Int → Int) (lo : Int → Int) (n : Nat) (td : Int) (wn : Int) (f : Nat → Int64) (hn : n ≤ 16) (hal : ∀ j : Int, 0 ≤ al j ∧ al j ≤ 1) (p : Int) (h1 : 0 ≤ p ∧ p < (n : Int)) (h2 : al p = 0) : zLW l yL_wouldMourn wsL_wouldMourn ({ frames := 8, cells := 1, slots := 6, locals := 134 }) D [(cI, .int), (cZ, .boolean), (cJ, .long)] cJ [.ref (q 0), .int (zI p), .ref o] (wC cI cZ q pa sp al dg co da mb dd ah wl lo n td wn) (wC cI cZ q pa sp al dg co da mb dd ah wl lo n td wn) o f f 2 (zLC q) 1 6 := by
  refine vx_ofWH (cc := cL_wouldMourn) (maxL := 4) (ret := some .int) (hh := [(0, 9, 12, 19), (0, 9, 15, 13)]) (by decide) rfl ?_
  intro p0 e9 s9 m9 ag9 below meth c9 s₁ B hml hv
  obtain ⟨hav, hP, hO, hK, hT, hE⟩ := hv
  have hx := B.exec
  have hb := B.bytes
  have hr := B.returns
  have hts := atoms_spec (ws := wsL_wouldMourn) B.pre
  have hown : s9.vm.findClass RL = some m9.cls := findClass_of_methodNamed B.named
  have hlocks := B.notSynchronized
  have hA : ∀ a ∈ zLC q, (fun a => a ∈ zLC q ++ [o]) a := fun _ h => List.mem_append_left _ h
  have hA2 : ∀ a ∈ zLC q ++ [o], (fun a => a ∈ zLC q ++ [o]) a := fun _ h => h
  have hoL : ∀ a ∈ [o], a ∉ zLC q := fun a ha h => (List.nodup_append.mp hN2).2.2 a h a ha rfl
  have htab := vx_table (x := yL_wouldMourn) B (hts (.codeWith yL_wouldMourn cL_wouldMourn 4 (some .int) [(0, 9, 12, 19), (0, 9, 15, 13)]) (by rw [show wsL_wouldMourn = _ from rfl]; exact List.mem_cons_self))
  have hl := lv_entry ([.ref (q 0), .int (zI p), .ref o]) (n := 4) (Nat.le_of_ble_eq_true rfl)
  have hE0 : entryFrame m9 ag9 4 = F0 m9 0 ((lg_sl ([.ref (q 0), .int (zI p), .ref o]) ++ List.replicate (4 - (lg_sl ([.ref (q 0), .int (zI p), .ref o])).length) Slot.unset).toArray) [] := by rw [hav]; exact lg_entry_eq m9 _ _
  obtain ⟨Q0, hQ0⟩ : ∃ Q0, Q0 = vx_MQ below (zQL D (wC cI cZ q pa sp al dg co da mb dd ah wl lo n td wn) cJ o f 2 (zLC q)) zF ag9 s9 1 6 (fun a => a ∈ zLC q ++ [o]) := ⟨_, rfl⟩
  show W p0 l e9 ({ frames := 8, cells := 1, slots := 6, locals := 134 }) s9 m9 ag9 below meth c9 s9.heap [] 0 0 (vx_MQ below (zQL D (wC cI cZ q pa sp al dg co da mb dd ah wl lo n td wn) cJ o f 2 (zLC q)) zF ag9 s9 1 6 (fun a => a ∈ zLC q ++ [o])) _
  rw [hE0, ← hQ0]
  have hS : va_S (fun a => a ∈ zLC q ++ [o]) s9.heap s9.heap [] := va_S.rf
  generalize hH0 : s9.heap = H at hP hO ⊢
  have hS : va_S (fun a => a ∈ zLC q ++ [o]) s9.heap H [] := by rw [hH0] at hS ⊢; exact hS
  have hT : zT (fun a => a ∈ zLC q) s9 H := by rw [hH0] at hT; exact hT
  generalize (lg_sl ([.ref (q 0), .int (zI p), .ref o]) ++ List.replicate (4 - (lg_sl ([.ref (q 0), .int (zI p), .ref o])).length) Slot.unset).toArray = ls at hl ⊢
  have hl : lv_has ls 4 [(0, .ref (q 0)), (1, .int (zI p)), (2, .ref o)] := hl
  refine lv_aload_n hx hb dL_wouldMourn_0 rfl (lv_at hl 2 rfl) ?_
  refine zr_iconst hx hb dL_wouldMourn_1 ?_
  refine lv_aload_n hx hb dL_wouldMourn_2 rfl (lv_at hl 0 rfl) ?_
  refine lv_iload_n hx hb dL_wouldMourn_3 rfl (lv_at hl 1 rfl) ?_
  refine zcallXV (ci := 2) (q0 := 0) (cq := (RX2, TX2, 9)) (As := [.int (zI p)]) (rest := [.int (zI 0), .ref o]) ⟨hx, hb, hml, hown, hts⟩ (hK.sub (tys' := [(cI, .int), (cZ, .boolean)]) [0, 1] rfl) (kX2_wouldMournx2 l D hl0 cI cZ q hN pa sp al dg co da mb dd ah wl lo n td wn hn hal p h1 h2) (cwV 1 hts gL_wouldMourn_X2_wouldMourn rfl rfl rfl (by decide +kernel) ⟨Nat.le_of_ble_eq_true rfl, Nat.le_of_ble_eq_true rfl⟩) hP hT hS hA rfl rfl rfl hl.1 rfl (Nat.le_of_ble_eq_true rfl) dL_wouldMourn_4 ⟨Nat.le_of_ble_eq_true rfl, Nat.le_of_ble_eq_true rfl⟩ (fun ce q9 H locs hP hS _ hkk hce hcv hcl => ?_)
  have hO := zkeep hO hkk hoL
  refine vx_catch (E := "java/lang/IllegalStateException") (name := "java/lang/IllegalStateException") hown [⟨0, 9, 12, 19⟩] ⟨0, 9, 15, 13⟩ [] (by rw [htab]; rfl) (fun z hz => by
    simp only [List.mem_cons, List.not_mem_nil, or_false] at hz
    subst hz
    exact Or.inr ⟨by decide, "java/lang/IndexOutOfBoundsException", hts (.classLink RL 19 "java/lang/IndexOutOfBoundsException") (by decide +kernel), hE.2.1⟩) (by decide) (by decide) (hts (.classLink RL 13 "java/lang/IllegalStateException") (by decide +kernel)) (show (Cond.castable zIS zIS).before _ s9 = true from hE.1.2.1) hce hcv hcl ?_
  refine lv_astore_n (lv' := [(3, .ref q9), (0, .ref (q 0)), (1, .int (zI p)), (2, .ref o)]) hx hb dL_wouldMourn_15 rfl hl (by decide) rfl (fun ls hl => ?_)
  refine zr_iconst hx hb dL_wouldMourn_16 ?_
  rw [hQ0]
  exact vx_ret (W.iret hx hb hr (fun t ht _ => ⟨⟨rfl, by rw [ht]; exact hP, by rw [ht]; exact hO⟩, hS.F ht⟩) hS.2.2 dL_wouldMourn_17 hlocks)
set_option maxHeartbeats 4000000 in
set_option maxRecDepth 100000 in
theorem kL_wouldWearok (l : Launch) (D : va_G) (hl0 : l.stackTraces = false) (cI cZ cJ : ClassId) (q : Nat → Nat) (o : Nat) (hN : (zLC q).Nodup) (hN2 : (zLC q ++ [o]).Nodup) (pa : Int → Int) (sp : Int → Int) (al : Int → Int) (dg : Int → Int) (co : Int → Int) (da : Int → Int) (mb : Int → Int) (dd : Int → Int) (ah : Int → Int) (wl : Int → Int) (lo : Int → Int) (n : Nat) (td : Int) (wn : Int) (f : Nat → Int64) (hn : n ≤ 16) (hco : ∀ j : Int, 0 ≤ co j ∧ co j ≤ 5) (hda : ∀ j : Int, 0 ≤ da j ∧ da j ≤ 60) (hmb : ∀ j : Int, 0 ≤ mb j ∧ mb j ≤ 4) (hdd : ∀ j : Int, 0 ≤ dd j ∧ dd j ≤ 1000000) (htd : 0 ≤ td ∧ td ≤ 1000000) (hpa : ∀ j : Int, -1 ≤ pa j ∧ pa j ≤ 15) (hsp : ∀ j : Int, -1 ≤ sp j ∧ sp j ≤ 15) (hal : ∀ j : Int, 0 ≤ al j ∧ al j ≤ 1) (p : Int) (d : Int) (h1 : 0 ≤ p ∧ p < (n : Int)) (h2 : 0 ≤ d ∧ d < (n : Int)) (h3 : p ≠ d) (h4 : al p ≠ 0) (h5 : al d ≠ 0) : zLW l yL_wouldWear wsL_wouldWear ({ frames := 8, cells := 0, slots := 0, locals := 135 }) D [(cI, .int), (cZ, .boolean), (cJ, .long)] cJ [.ref (q 0), .int (zI p), .int (zI d), .ref o] (wC cI cZ q pa sp al dg co da mb dd ah wl lo n td wn) (wC cI cZ q pa sp al (dgF pa sp n d) co da mb dd ah wl lo n td wn) o f (vp_updL f 0 (zI (max (ca co da mb dd td n p 0) (cOn co da 16 (dgF pa sp n d p) 0))).toInt64) 0 (zLC q) 0 0 := by
  refine vx_ofWH (cc := cL_wouldWear) (maxL := 5) (ret := some .int) (hh := [(0, 10, 13, 19), (0, 10, 17, 25), (0, 10, 21, 13)]) (by decide) rfl ?_
  intro p0 e9 s9 m9 ag9 below meth c9 s₁ B hml hv
  obtain ⟨hav, hP, hO, hK, hT, hE⟩ := hv
  have hx := B.exec
  have hb := B.bytes
  have hr := B.returns
  have hts := atoms_spec (ws := wsL_wouldWear) B.pre
  have hown : s9.vm.findClass RL = some m9.cls := findClass_of_methodNamed B.named
  have hlocks := B.notSynchronized
  have hA : ∀ a ∈ zLC q, (fun a => a ∈ zLC q ++ [o]) a := fun _ h => List.mem_append_left _ h
  have hA2 : ∀ a ∈ zLC q ++ [o], (fun a => a ∈ zLC q ++ [o]) a := fun _ h => h
  have hoL : ∀ a ∈ [o], a ∉ zLC q := fun a ha h => (List.nodup_append.mp hN2).2.2 a h a ha rfl
  have hl := lv_entry ([.ref (q 0), .int (zI p), .int (zI d), .ref o]) (n := 5) (Nat.le_of_ble_eq_true rfl)
  have hE0 : entryFrame m9 ag9 5 = F0 m9 0 ((lg_sl ([.ref (q 0), .int (zI p), .int (zI d), .ref o]) ++ List.replicate (5 - (lg_sl ([.ref (q 0), .int (zI p), .int (zI d), .ref o])).length) Slot.unset).toArray) [] := by rw [hav]; exact lg_entry_eq m9 _ _
  obtain ⟨Q0, hQ0⟩ : ∃ Q0, Q0 = vx_MQ below (zQL D (wC cI cZ q pa sp al (dgF pa sp n d) co da mb dd ah wl lo n td wn) cJ o (vp_updL f 0 (zI (max (ca co da mb dd td n p 0) (cOn co da 16 (dgF pa sp n d p) 0))).toInt64) 0 (zLC q)) zF ag9 s9 0 0 (fun a => a ∈ zLC q ++ [o]) := ⟨_, rfl⟩
  show W p0 l e9 ({ frames := 8, cells := 0, slots := 0, locals := 135 }) s9 m9 ag9 below meth c9 s9.heap [] 0 0 (vx_MQ below (zQL D (wC cI cZ q pa sp al (dgF pa sp n d) co da mb dd ah wl lo n td wn) cJ o (vp_updL f 0 (zI (max (ca co da mb dd td n p 0) (cOn co da 16 (dgF pa sp n d p) 0))).toInt64) 0 (zLC q)) zF ag9 s9 0 0 (fun a => a ∈ zLC q ++ [o])) _
  rw [hE0, ← hQ0]
  have hS : va_S (fun a => a ∈ zLC q ++ [o]) s9.heap s9.heap [] := va_S.rf
  generalize hH0 : s9.heap = H at hP hO ⊢
  have hS : va_S (fun a => a ∈ zLC q ++ [o]) s9.heap H [] := by rw [hH0] at hS ⊢; exact hS
  have hT : zT (fun a => a ∈ zLC q) s9 H := by rw [hH0] at hT; exact hT
  generalize (lg_sl ([.ref (q 0), .int (zI p), .int (zI d), .ref o]) ++ List.replicate (5 - (lg_sl ([.ref (q 0), .int (zI p), .int (zI d), .ref o])).length) Slot.unset).toArray = ls at hl ⊢
  have hl : lv_has ls 5 [(0, .ref (q 0)), (1, .int (zI p)), (2, .int (zI d)), (3, .ref o)] := hl
  refine lv_aload_n hx hb dL_wouldWear_0 rfl (lv_at hl 3 rfl) ?_
  refine zr_iconst hx hb dL_wouldWear_1 ?_
  refine lv_aload_n hx hb dL_wouldWear_2 rfl (lv_at hl 0 rfl) ?_
  refine lv_iload_n hx hb dL_wouldWear_3 rfl (lv_at hl 1 rfl) ?_
  refine lv_iload_n hx hb dL_wouldWear_4 rfl (lv_at hl 2 rfl) ?_
  refine zcallV (ci := 2) (q0 := 0) (cq := (RX2, TX2, 9)) (As := [.int (zI p), .int (zI d)]) (rest := [.int (zI 0), .ref o]) ⟨hx, hb, hml, hown, hts⟩ (hK.sub (tys' := [(cI, .int), (cZ, .boolean)]) [0, 1] rfl) (kX2_wouldWearok l D cI cZ q hN pa sp al dg co da mb dd ah wl lo n td wn hn hco hda hmb hdd htd hpa hsp hal p d h1 h2 h3 h4 h5) (cwV 2 hts gL_wouldWear_X2_wouldWear rfl rfl rfl (by decide +kernel) ⟨Nat.le_of_ble_eq_true rfl, Nat.le_of_ble_eq_true rfl⟩) hP hS hA rfl rfl rfl hl.1 rfl (Nat.le_of_ble_eq_true rfl) dL_wouldWear_5 ⟨Nat.zero_le _, Nat.zero_le _⟩ (fun H locs hP hS _ hkk => ?_)
  have hO := zkeep hO hkk hoL
  refine W.eq (g2 := F0 m9 8 ls [.int (zI (max (ca co da mb dd td n p 0) (cOn co da 16 (dgF pa sp n d p) 0))), .int (zI 0), .ref o]) rfl ?_
  refine lv_i2l hx hb dL_wouldWear_8 rfl ?_
  have hPO := zapp hP hO
  refine zr_last0 hx hb hK hPO hN2 rfl hA2 hS 14 2 rfl rfl dL_wouldWear_9 (fun H locs hPO hS => ?_)
  have hPO : va_P D vwCl ((wC cI cZ q pa sp al (dgF pa sp n d) co da mb dd ah wl lo n td wn) ++ wO cJ o (vp_updL f 0 (zI (max (ca co da mb dd td n p 0) (cOn co da 16 (dgF pa sp n d p) 0))).toInt64)) H := hPO
  have hP := zleft hPO
  have hO := zright hPO
  refine lv_goto (tgt := 25) hx hb dL_wouldWear_10 (by decide) ?_
  refine zr_iconst hx hb dL_wouldWear_25 ?_
  rw [hQ0]
  exact vx_ret (W.iret hx hb hr (fun t ht _ => ⟨⟨rfl, by rw [ht]; exact hP, by rw [ht]; exact hO⟩, hS.F ht⟩) hS.2.2 dL_wouldWear_26 hlocks)
set_option maxHeartbeats 4000000 in
set_option maxRecDepth 100000 in
theorem kL_wouldWearx1 (l : Launch) (D : va_G) (hl0 : l.stackTraces = false) (cI cZ cJ : ClassId) (q : Nat → Nat) (o : Nat) (hN : (zLC q).Nodup) (hN2 : (zLC q ++ [o]).Nodup) (pa : Int → Int) (sp : Int → Int) (al : Int → Int) (dg : Int → Int) (co : Int → Int) (da : Int → Int) (mb : Int → Int) (dd : Int → Int) (ah : Int → Int) (wl : Int → Int) (lo : Int → Int) (n : Nat) (td : Int) (wn : Int) (f : Nat → Int64) (hn : n ≤ 16) (p : Int) (d : Int) (h0 : -2147483648 ≤ p ∧ p ≤ 2147483647) (h1 : ¬ (0 ≤ p ∧ p < (n : Int))) : zLW l yL_wouldWear wsL_wouldWear ({ frames := 8, cells := 1, slots := 6, locals := 135 }) D [(cI, .int), (cZ, .boolean), (cJ, .long)] cJ [.ref (q 0), .int (zI p), .int (zI d), .ref o] (wC cI cZ q pa sp al dg co da mb dd ah wl lo n td wn) (wC cI cZ q pa sp al dg co da mb dd ah wl lo n td wn) o f f 1 (zLC q) 1 6 := by
  refine vx_ofWH (cc := cL_wouldWear) (maxL := 5) (ret := some .int) (hh := [(0, 10, 13, 19), (0, 10, 17, 25), (0, 10, 21, 13)]) (by decide) rfl ?_
  intro p0 e9 s9 m9 ag9 below meth c9 s₁ B hml hv
  obtain ⟨hav, hP, hO, hK, hT, hE⟩ := hv
  have hx := B.exec
  have hb := B.bytes
  have hr := B.returns
  have hts := atoms_spec (ws := wsL_wouldWear) B.pre
  have hown : s9.vm.findClass RL = some m9.cls := findClass_of_methodNamed B.named
  have hlocks := B.notSynchronized
  have hA : ∀ a ∈ zLC q, (fun a => a ∈ zLC q ++ [o]) a := fun _ h => List.mem_append_left _ h
  have hA2 : ∀ a ∈ zLC q ++ [o], (fun a => a ∈ zLC q ++ [o]) a := fun _ h => h
  have hoL : ∀ a ∈ [o], a ∉ zLC q := fun a ha h => (List.nodup_append.mp hN2).2.2 a h a ha rfl
  have htab := vx_table (x := yL_wouldWear) B (hts (.codeWith yL_wouldWear cL_wouldWear 5 (some .int) [(0, 10, 13, 19), (0, 10, 17, 25), (0, 10, 21, 13)]) (by rw [show wsL_wouldWear = _ from rfl]; exact List.mem_cons_self))
  have hl := lv_entry ([.ref (q 0), .int (zI p), .int (zI d), .ref o]) (n := 5) (Nat.le_of_ble_eq_true rfl)
  have hE0 : entryFrame m9 ag9 5 = F0 m9 0 ((lg_sl ([.ref (q 0), .int (zI p), .int (zI d), .ref o]) ++ List.replicate (5 - (lg_sl ([.ref (q 0), .int (zI p), .int (zI d), .ref o])).length) Slot.unset).toArray) [] := by rw [hav]; exact lg_entry_eq m9 _ _
  obtain ⟨Q0, hQ0⟩ : ∃ Q0, Q0 = vx_MQ below (zQL D (wC cI cZ q pa sp al dg co da mb dd ah wl lo n td wn) cJ o f 1 (zLC q)) zF ag9 s9 1 6 (fun a => a ∈ zLC q ++ [o]) := ⟨_, rfl⟩
  show W p0 l e9 ({ frames := 8, cells := 1, slots := 6, locals := 135 }) s9 m9 ag9 below meth c9 s9.heap [] 0 0 (vx_MQ below (zQL D (wC cI cZ q pa sp al dg co da mb dd ah wl lo n td wn) cJ o f 1 (zLC q)) zF ag9 s9 1 6 (fun a => a ∈ zLC q ++ [o])) _
  rw [hE0, ← hQ0]
  have hS : va_S (fun a => a ∈ zLC q ++ [o]) s9.heap s9.heap [] := va_S.rf
  generalize hH0 : s9.heap = H at hP hO ⊢
  have hS : va_S (fun a => a ∈ zLC q ++ [o]) s9.heap H [] := by rw [hH0] at hS ⊢; exact hS
  have hT : zT (fun a => a ∈ zLC q) s9 H := by rw [hH0] at hT; exact hT
  generalize (lg_sl ([.ref (q 0), .int (zI p), .int (zI d), .ref o]) ++ List.replicate (5 - (lg_sl ([.ref (q 0), .int (zI p), .int (zI d), .ref o])).length) Slot.unset).toArray = ls at hl ⊢
  have hl : lv_has ls 5 [(0, .ref (q 0)), (1, .int (zI p)), (2, .int (zI d)), (3, .ref o)] := hl
  refine lv_aload_n hx hb dL_wouldWear_0 rfl (lv_at hl 3 rfl) ?_
  refine zr_iconst hx hb dL_wouldWear_1 ?_
  refine lv_aload_n hx hb dL_wouldWear_2 rfl (lv_at hl 0 rfl) ?_
  refine lv_iload_n hx hb dL_wouldWear_3 rfl (lv_at hl 1 rfl) ?_
  refine lv_iload_n hx hb dL_wouldWear_4 rfl (lv_at hl 2 rfl) ?_
  refine zcallXV (ci := 2) (q0 := 0) (cq := (RX2, TX2, 9)) (As := [.int (zI p), .int (zI d)]) (rest := [.int (zI 0), .ref o]) ⟨hx, hb, hml, hown, hts⟩ (hK.sub (tys' := [(cI, .int), (cZ, .boolean)]) [0, 1] rfl) (kX2_wouldWearx1 l D hl0 cI cZ q hN pa sp al dg co da mb dd ah wl lo n td wn hn p d h0 h1) (cwV 2 hts gL_wouldWear_X2_wouldWear rfl rfl rfl (by decide +kernel) ⟨Nat.le_of_ble_eq_true rfl, Nat.le_of_ble_eq_true rfl⟩) hP hT hS hA rfl rfl rfl hl.1 rfl (Nat.le_of_ble_eq_true rfl) dL_wouldWear_5 ⟨Nat.le_of_ble_eq_true rfl, Nat.le_of_ble_eq_true rfl⟩ (fun ce q9 H locs hP hS _ hkk hce hcv hcl => ?_)
  have hO := zkeep hO hkk hoL
  refine vx_catch (E := "java/lang/IndexOutOfBoundsException") (name := "java/lang/IndexOutOfBoundsException") hown [] ⟨0, 10, 13, 19⟩ [⟨0, 10, 17, 25⟩, ⟨0, 10, 21, 13⟩] (by rw [htab]; rfl) (fun z hz => nomatch hz) (by decide) (by decide) (hts (.classLink RL 19 "java/lang/IndexOutOfBoundsException") (by decide +kernel)) (show (Cond.castable zIO zIO).before _ s9 = true from hE.1.1) hce hcv hcl ?_
  refine lv_astore (lv' := [(4, .ref q9), (0, .ref (q 0)), (1, .int (zI p)), (2, .int (zI d)), (3, .ref o)]) hx hb dL_wouldWear_13 hl (by decide) rfl (fun ls hl => ?_)
  refine zr_iconst hx hb dL_wouldWear_15 ?_
  rw [hQ0]
  exact vx_ret (W.iret hx hb hr (fun t ht _ => ⟨⟨rfl, by rw [ht]; exact hP, by rw [ht]; exact hO⟩, hS.F ht⟩) hS.2.2 dL_wouldWear_16 hlocks)
set_option maxHeartbeats 4000000 in
set_option maxRecDepth 100000 in
theorem kL_wouldWearx2 (l : Launch) (D : va_G) (hl0 : l.stackTraces = false) (cI cZ cJ : ClassId) (q : Nat → Nat) (o : Nat) (hN : (zLC q).Nodup) (hN2 : (zLC q ++ [o]).Nodup) (pa : Int → Int) (sp : Int → Int) (al : Int → Int) (dg : Int → Int) (co : Int → Int) (da : Int → Int) (mb : Int → Int) (dd : Int → Int) (ah : Int → Int) (wl : Int → Int) (lo : Int → Int) (n : Nat) (td : Int) (wn : Int) (f : Nat → Int64) (hn : n ≤ 16) (p : Int) (d : Int) (h0 : -2147483648 ≤ d ∧ d ≤ 2147483647) (h1 : 0 ≤ p ∧ p < (n : Int)) (h2 : ¬ (0 ≤ d ∧ d < (n : Int))) : zLW l yL_wouldWear wsL_wouldWear ({ frames := 8, cells := 1, slots := 6, locals := 135 }) D [(cI, .int), (cZ, .boolean), (cJ, .long)] cJ [.ref (q 0), .int (zI p), .int (zI d), .ref o] (wC cI cZ q pa sp al dg co da mb dd ah wl lo n td wn) (wC cI cZ q pa sp al dg co da mb dd ah wl lo n td wn) o f f 1 (zLC q) 1 6 := by
  refine vx_ofWH (cc := cL_wouldWear) (maxL := 5) (ret := some .int) (hh := [(0, 10, 13, 19), (0, 10, 17, 25), (0, 10, 21, 13)]) (by decide) rfl ?_
  intro p0 e9 s9 m9 ag9 below meth c9 s₁ B hml hv
  obtain ⟨hav, hP, hO, hK, hT, hE⟩ := hv
  have hx := B.exec
  have hb := B.bytes
  have hr := B.returns
  have hts := atoms_spec (ws := wsL_wouldWear) B.pre
  have hown : s9.vm.findClass RL = some m9.cls := findClass_of_methodNamed B.named
  have hlocks := B.notSynchronized
  have hA : ∀ a ∈ zLC q, (fun a => a ∈ zLC q ++ [o]) a := fun _ h => List.mem_append_left _ h
  have hA2 : ∀ a ∈ zLC q ++ [o], (fun a => a ∈ zLC q ++ [o]) a := fun _ h => h
  have hoL : ∀ a ∈ [o], a ∉ zLC q := fun a ha h => (List.nodup_append.mp hN2).2.2 a h a ha rfl
  have htab := vx_table (x := yL_wouldWear) B (hts (.codeWith yL_wouldWear cL_wouldWear 5 (some .int) [(0, 10, 13, 19), (0, 10, 17, 25), (0, 10, 21, 13)]) (by rw [show wsL_wouldWear = _ from rfl]; exact List.mem_cons_self))
  have hl := lv_entry ([.ref (q 0), .int (zI p), .int (zI d), .ref o]) (n := 5) (Nat.le_of_ble_eq_true rfl)
  have hE0 : entryFrame m9 ag9 5 = F0 m9 0 ((lg_sl ([.ref (q 0), .int (zI p), .int (zI d), .ref o]) ++ List.replicate (5 - (lg_sl ([.ref (q 0), .int (zI p), .int (zI d), .ref o])).length) Slot.unset).toArray) [] := by rw [hav]; exact lg_entry_eq m9 _ _
  obtain ⟨Q0, hQ0⟩ : ∃ Q0, Q0 = vx_MQ below (zQL D (wC cI cZ q pa sp al dg co da mb dd ah wl lo n td wn) cJ o f 1 (zLC q)) zF ag9 s9 1 6 (fun a => a ∈ zLC q ++ [o]) := ⟨_, rfl⟩
  show W p0 l e9 ({ frames := 8, cells := 1, slots := 6, locals := 135 }) s9 m9 ag9 below meth c9 s9.heap [] 0 0 (vx_MQ below (zQL D (wC cI cZ q pa sp al dg co da mb dd ah wl lo n td wn) cJ o f 1 (zLC q)) zF ag9 s9 1 6 (fun a => a ∈ zLC q ++ [o])) _
  rw [hE0, ← hQ0]
  have hS : va_S (fun a => a ∈ zLC q ++ [o]) s9.heap s9.heap [] := va_S.rf
  generalize hH0 : s9.heap = H at hP hO ⊢
  have hS : va_S (fun a => a ∈ zLC q ++ [o]) s9.heap H [] := by rw [hH0] at hS ⊢; exact hS
  have hT : zT (fun a => a ∈ zLC q) s9 H := by rw [hH0] at hT; exact hT
  generalize (lg_sl ([.ref (q 0), .int (zI p), .int (zI d), .ref o]) ++ List.replicate (5 - (lg_sl ([.ref (q 0), .int (zI p), .int (zI d), .ref o])).length) Slot.unset).toArray = ls at hl ⊢
  have hl : lv_has ls 5 [(0, .ref (q 0)), (1, .int (zI p)), (2, .int (zI d)), (3, .ref o)] := hl
  refine lv_aload_n hx hb dL_wouldWear_0 rfl (lv_at hl 3 rfl) ?_
  refine zr_iconst hx hb dL_wouldWear_1 ?_
  refine lv_aload_n hx hb dL_wouldWear_2 rfl (lv_at hl 0 rfl) ?_
  refine lv_iload_n hx hb dL_wouldWear_3 rfl (lv_at hl 1 rfl) ?_
  refine lv_iload_n hx hb dL_wouldWear_4 rfl (lv_at hl 2 rfl) ?_
  refine zcallXV (ci := 2) (q0 := 0) (cq := (RX2, TX2, 9)) (As := [.int (zI p), .int (zI d)]) (rest := [.int (zI 0), .ref o]) ⟨hx, hb, hml, hown, hts⟩ (hK.sub (tys' := [(cI, .int), (cZ, .boolean)]) [0, 1] rfl) (kX2_wouldWearx2 l D hl0 cI cZ q hN pa sp al dg co da mb dd ah wl lo n td wn hn p d h0 h1 h2) (cwV 2 hts gL_wouldWear_X2_wouldWear rfl rfl rfl (by decide +kernel) ⟨Nat.le_of_ble_eq_true rfl, Nat.le_of_ble_eq_true rfl⟩) hP hT hS hA rfl rfl rfl hl.1 rfl (Nat.le_of_ble_eq_true rfl) dL_wouldWear_5 ⟨Nat.le_of_ble_eq_true rfl, Nat.le_of_ble_eq_true rfl⟩ (fun ce q9 H locs hP hS _ hkk hce hcv hcl => ?_)
  have hO := zkeep hO hkk hoL
  refine vx_catch (E := "java/lang/IndexOutOfBoundsException") (name := "java/lang/IndexOutOfBoundsException") hown [] ⟨0, 10, 13, 19⟩ [⟨0, 10, 17, 25⟩, ⟨0, 10, 21, 13⟩] (by rw [htab]; rfl) (fun z hz => nomatch hz) (by decide) (by decide) (hts (.classLink RL 19 "java/lang/IndexOutOfBoundsException") (by decide +kernel)) (show (Cond.castable zIO zIO).before _ s9 = true from hE.1.1) hce hcv hcl ?_
  refine lv_astore (lv' := [(4, .ref q9), (0, .ref (q 0)), (1, .int (zI p)), (2, .int (zI d)), (3, .ref o)]) hx hb dL_wouldWear_13 hl (by decide) rfl (fun ls hl => ?_)
  refine zr_iconst hx hb dL_wouldWear_15 ?_
  rw [hQ0]
  exact vx_ret (W.iret hx hb hr (fun t ht _ => ⟨⟨rfl, by rw [ht]; exact hP, by rw [ht]; exact hO⟩, hS.F ht⟩) hS.2.2 dL_wouldWear_16 hlocks)
set_option maxHeartbeats 4000000 in
set_option maxRecDepth 100000 in
theorem kL_wouldWearx3 (l : Launch) (D : va_G) (hl0 : l.stackTraces = false) (cI cZ cJ : ClassId) (q : Nat → Nat) (o : Nat) (hN : (zLC q).Nodup) (hN2 : (zLC q ++ [o]).Nodup) (pa : Int → Int) (sp : Int → Int) (al : Int → Int) (dg : Int → Int) (co : Int → Int) (da : Int → Int) (mb : Int → Int) (dd : Int → Int) (ah : Int → Int) (wl : Int → Int) (lo : Int → Int) (n : Nat) (td : Int) (wn : Int) (f : Nat → Int64) (hn : n ≤ 16) (p : Int) (d : Int) (h1 : 0 ≤ p ∧ p < (n : Int)) (h2 : 0 ≤ d ∧ d < (n : Int)) (h3 : p = d) : zLW l yL_wouldWear wsL_wouldWear ({ frames := 8, cells := 1, slots := 6, locals := 135 }) D [(cI, .int), (cZ, .boolean), (cJ, .long)] cJ [.ref (q 0), .int (zI p), .int (zI d), .ref o] (wC cI cZ q pa sp al dg co da mb dd ah wl lo n td wn) (wC cI cZ q pa sp al dg co da mb dd ah wl lo n td wn) o f f 2 (zLC q) 1 6 := by
  refine vx_ofWH (cc := cL_wouldWear) (maxL := 5) (ret := some .int) (hh := [(0, 10, 13, 19), (0, 10, 17, 25), (0, 10, 21, 13)]) (by decide) rfl ?_
  intro p0 e9 s9 m9 ag9 below meth c9 s₁ B hml hv
  obtain ⟨hav, hP, hO, hK, hT, hE⟩ := hv
  have hx := B.exec
  have hb := B.bytes
  have hr := B.returns
  have hts := atoms_spec (ws := wsL_wouldWear) B.pre
  have hown : s9.vm.findClass RL = some m9.cls := findClass_of_methodNamed B.named
  have hlocks := B.notSynchronized
  have hA : ∀ a ∈ zLC q, (fun a => a ∈ zLC q ++ [o]) a := fun _ h => List.mem_append_left _ h
  have hA2 : ∀ a ∈ zLC q ++ [o], (fun a => a ∈ zLC q ++ [o]) a := fun _ h => h
  have hoL : ∀ a ∈ [o], a ∉ zLC q := fun a ha h => (List.nodup_append.mp hN2).2.2 a h a ha rfl
  have htab := vx_table (x := yL_wouldWear) B (hts (.codeWith yL_wouldWear cL_wouldWear 5 (some .int) [(0, 10, 13, 19), (0, 10, 17, 25), (0, 10, 21, 13)]) (by rw [show wsL_wouldWear = _ from rfl]; exact List.mem_cons_self))
  have hl := lv_entry ([.ref (q 0), .int (zI p), .int (zI d), .ref o]) (n := 5) (Nat.le_of_ble_eq_true rfl)
  have hE0 : entryFrame m9 ag9 5 = F0 m9 0 ((lg_sl ([.ref (q 0), .int (zI p), .int (zI d), .ref o]) ++ List.replicate (5 - (lg_sl ([.ref (q 0), .int (zI p), .int (zI d), .ref o])).length) Slot.unset).toArray) [] := by rw [hav]; exact lg_entry_eq m9 _ _
  obtain ⟨Q0, hQ0⟩ : ∃ Q0, Q0 = vx_MQ below (zQL D (wC cI cZ q pa sp al dg co da mb dd ah wl lo n td wn) cJ o f 2 (zLC q)) zF ag9 s9 1 6 (fun a => a ∈ zLC q ++ [o]) := ⟨_, rfl⟩
  show W p0 l e9 ({ frames := 8, cells := 1, slots := 6, locals := 135 }) s9 m9 ag9 below meth c9 s9.heap [] 0 0 (vx_MQ below (zQL D (wC cI cZ q pa sp al dg co da mb dd ah wl lo n td wn) cJ o f 2 (zLC q)) zF ag9 s9 1 6 (fun a => a ∈ zLC q ++ [o])) _
  rw [hE0, ← hQ0]
  have hS : va_S (fun a => a ∈ zLC q ++ [o]) s9.heap s9.heap [] := va_S.rf
  generalize hH0 : s9.heap = H at hP hO ⊢
  have hS : va_S (fun a => a ∈ zLC q ++ [o]) s9.heap H [] := by rw [hH0] at hS ⊢; exact hS
  have hT : zT (fun a => a ∈ zLC q) s9 H := by rw [hH0] at hT; exact hT
  generalize (lg_sl ([.ref (q 0), .int (zI p), .int (zI d), .ref o]) ++ List.replicate (5 - (lg_sl ([.ref (q 0), .int (zI p), .int (zI d), .ref o])).length) Slot.unset).toArray = ls at hl ⊢
  have hl : lv_has ls 5 [(0, .ref (q 0)), (1, .int (zI p)), (2, .int (zI d)), (3, .ref o)] := hl
  refine lv_aload_n hx hb dL_wouldWear_0 rfl (lv_at hl 3 rfl) ?_
  refine zr_iconst hx hb dL_wouldWear_1 ?_
  refine lv_aload_n hx hb dL_wouldWear_2 rfl (lv_at hl 0 rfl) ?_
  refine lv_iload_n hx hb dL_wouldWear_3 rfl (lv_at hl 1 rfl) ?_
  refine lv_iload_n hx hb dL_wouldWear_4 rfl (lv_at hl 2 rfl) ?_
  refine zcallXV (ci := 2) (q0 := 0) (cq := (RX2, TX2, 9)) (As := [.int (zI p), .int (zI d)]) (rest := [.int (zI 0), .ref o]) ⟨hx, hb, hml, hown, hts⟩ (hK.sub (tys' := [(cI, .int), (cZ, .boolean)]) [0, 1] rfl) (kX2_wouldWearx3 l D hl0 cI cZ q hN pa sp al dg co da mb dd ah wl lo n td wn hn p d h1 h2 h3) (cwV 2 hts gL_wouldWear_X2_wouldWear rfl rfl rfl (by decide +kernel) ⟨Nat.le_of_ble_eq_true rfl, Nat.le_of_ble_eq_true rfl⟩) hP hT hS hA rfl rfl rfl hl.1 rfl (Nat.le_of_ble_eq_true rfl) dL_wouldWear_5 ⟨Nat.le_of_ble_eq_true rfl, Nat.le_of_ble_eq_true rfl⟩ (fun ce q9 H locs hP hS _ hkk hce hcv hcl => ?_)
  have hO := zkeep hO hkk hoL
  refine vx_catch (E := "java/lang/IllegalArgumentException") (name := "java/lang/IllegalArgumentException") hown [⟨0, 10, 13, 19⟩] ⟨0, 10, 17, 25⟩ [⟨0, 10, 21, 13⟩] (by rw [htab]; rfl) (fun z hz => by
    simp only [List.mem_cons, List.not_mem_nil, or_false] at hz
    subst hz
    exact Or.inr ⟨by decide, "java/lang/IndexOutOfBoundsException", hts (.classLink RL 19 "java/lang/IndexOutOfBoundsException") (by decide +kernel), hE.2.2.1⟩) (by decide) (by decide) (hts (.classLink RL 25 "java/lang/IllegalArgumentException") (by decide +kernel)) (show (Cond.castable zIA zIA).before _ s9 = true from hE.1.2.2) hce hcv hcl ?_
  refine lv_astore (lv' := [(4, .ref q9), (0, .ref (q 0)), (1, .int (zI p)), (2, .int (zI d)), (3, .ref o)]) hx hb dL_wouldWear_17 hl (by decide) rfl (fun ls hl => ?_)
  refine zr_iconst hx hb dL_wouldWear_19 ?_
  rw [hQ0]
  exact vx_ret (W.iret hx hb hr (fun t ht _ => ⟨⟨rfl, by rw [ht]; exact hP, by rw [ht]; exact hO⟩, hS.F ht⟩) hS.2.2 dL_wouldWear_20 hlocks)
set_option maxHeartbeats 4000000 in
set_option maxRecDepth 100000 in
theorem kL_wouldWearx4 (l : Launch) (D : va_G) (hl0 : l.stackTraces = false) (cI cZ cJ : ClassId) (q : Nat → Nat) (o : Nat) (hN : (zLC q).Nodup) (hN2 : (zLC q ++ [o]).Nodup) (pa : Int → Int) (sp : Int → Int) (al : Int → Int) (dg : Int → Int) (co : Int → Int) (da : Int → Int) (mb : Int → Int) (dd : Int → Int) (ah : Int → Int) (wl : Int → Int) (lo : Int → Int) (n : Nat) (td : Int) (wn : Int) (f : Nat → Int64) (hn : n ≤ 16) (hal : ∀ j : Int, 0 ≤ al j ∧ al j ≤ 1) (p : Int) (d : Int) (h1 : 0 ≤ p ∧ p < (n : Int)) (h2 : 0 ≤ d ∧ d < (n : Int)) (h3 : p ≠ d) (h4 : al p = 0) : zLW l yL_wouldWear wsL_wouldWear ({ frames := 8, cells := 1, slots := 6, locals := 135 }) D [(cI, .int), (cZ, .boolean), (cJ, .long)] cJ [.ref (q 0), .int (zI p), .int (zI d), .ref o] (wC cI cZ q pa sp al dg co da mb dd ah wl lo n td wn) (wC cI cZ q pa sp al dg co da mb dd ah wl lo n td wn) o f f 3 (zLC q) 1 6 := by
  refine vx_ofWH (cc := cL_wouldWear) (maxL := 5) (ret := some .int) (hh := [(0, 10, 13, 19), (0, 10, 17, 25), (0, 10, 21, 13)]) (by decide) rfl ?_
  intro p0 e9 s9 m9 ag9 below meth c9 s₁ B hml hv
  obtain ⟨hav, hP, hO, hK, hT, hE⟩ := hv
  have hx := B.exec
  have hb := B.bytes
  have hr := B.returns
  have hts := atoms_spec (ws := wsL_wouldWear) B.pre
  have hown : s9.vm.findClass RL = some m9.cls := findClass_of_methodNamed B.named
  have hlocks := B.notSynchronized
  have hA : ∀ a ∈ zLC q, (fun a => a ∈ zLC q ++ [o]) a := fun _ h => List.mem_append_left _ h
  have hA2 : ∀ a ∈ zLC q ++ [o], (fun a => a ∈ zLC q ++ [o]) a := fun _ h => h
  have hoL : ∀ a ∈ [o], a ∉ zLC q := fun a ha h => (List.nodup_append.mp hN2).2.2 a h a ha rfl
  have htab := vx_table (x := yL_wouldWear) B (hts (.codeWith yL_wouldWear cL_wouldWear 5 (some .int) [(0, 10, 13, 19), (0, 10, 17, 25), (0, 10, 21, 13)]) (by rw [show wsL_wouldWear = _ from rfl]; exact List.mem_cons_self))
  have hl := lv_entry ([.ref (q 0), .int (zI p), .int (zI d), .ref o]) (n := 5) (Nat.le_of_ble_eq_true rfl)
  have hE0 : entryFrame m9 ag9 5 = F0 m9 0 ((lg_sl ([.ref (q 0), .int (zI p), .int (zI d), .ref o]) ++ List.replicate (5 - (lg_sl ([.ref (q 0), .int (zI p), .int (zI d), .ref o])).length) Slot.unset).toArray) [] := by rw [hav]; exact lg_entry_eq m9 _ _
  obtain ⟨Q0, hQ0⟩ : ∃ Q0, Q0 = vx_MQ below (zQL D (wC cI cZ q pa sp al dg co da mb dd ah wl lo n td wn) cJ o f 3 (zLC q)) zF ag9 s9 1 6 (fun a => a ∈ zLC q ++ [o]) := ⟨_, rfl⟩
  show W p0 l e9 ({ frames := 8, cells := 1, slots := 6, locals := 135 }) s9 m9 ag9 below meth c9 s9.heap [] 0 0 (vx_MQ below (zQL D (wC cI cZ q pa sp al dg co da mb dd ah wl lo n td wn) cJ o f 3 (zLC q)) zF ag9 s9 1 6 (fun a => a ∈ zLC q ++ [o])) _
  rw [hE0, ← hQ0]
  have hS : va_S (fun a => a ∈ zLC q ++ [o]) s9.heap s9.heap [] := va_S.rf
  generalize hH0 : s9.heap = H at hP hO ⊢
  have hS : va_S (fun a => a ∈ zLC q ++ [o]) s9.heap H [] := by rw [hH0] at hS ⊢; exact hS
  have hT : zT (fun a => a ∈ zLC q) s9 H := by rw [hH0] at hT; exact hT
  generalize (lg_sl ([.ref (q 0), .int (zI p), .int (zI d), .ref o]) ++ List.replicate (5 - (lg_sl ([.ref (q 0), .int (zI p), .int (zI d), .ref o])).length) Slot.unset).toArray = ls at hl ⊢
  have hl : lv_has ls 5 [(0, .ref (q 0)), (1, .int (zI p)), (2, .int (zI d)), (3, .ref o)] := hl
  refine lv_aload_n hx hb dL_wouldWear_0 rfl (lv_at hl 3 rfl) ?_
  refine zr_iconst hx hb dL_wouldWear_1 ?_
  refine lv_aload_n hx hb dL_wouldWear_2 rfl (lv_at hl 0 rfl) ?_
  refine lv_iload_n hx hb dL_wouldWear_3 rfl (lv_at hl 1 rfl) ?_
  refine lv_iload_n hx hb dL_wouldWear_4 rfl (lv_at hl 2 rfl) ?_
  refine zcallXV (ci := 2) (q0 := 0) (cq := (RX2, TX2, 9)) (As := [.int (zI p), .int (zI d)]) (rest := [.int (zI 0), .ref o]) ⟨hx, hb, hml, hown, hts⟩ (hK.sub (tys' := [(cI, .int), (cZ, .boolean)]) [0, 1] rfl) (kX2_wouldWearx4 l D hl0 cI cZ q hN pa sp al dg co da mb dd ah wl lo n td wn hn hal p d h1 h2 h3 h4) (cwV 2 hts gL_wouldWear_X2_wouldWear rfl rfl rfl (by decide +kernel) ⟨Nat.le_of_ble_eq_true rfl, Nat.le_of_ble_eq_true rfl⟩) hP hT hS hA rfl rfl rfl hl.1 rfl (Nat.le_of_ble_eq_true rfl) dL_wouldWear_5 ⟨Nat.le_of_ble_eq_true rfl, Nat.le_of_ble_eq_true rfl⟩ (fun ce q9 H locs hP hS _ hkk hce hcv hcl => ?_)
  have hO := zkeep hO hkk hoL
  refine vx_catch (E := "java/lang/IllegalStateException") (name := "java/lang/IllegalStateException") hown [⟨0, 10, 13, 19⟩, ⟨0, 10, 17, 25⟩] ⟨0, 10, 21, 13⟩ [] (by rw [htab]; rfl) (fun z hz => by
    simp only [List.mem_cons, List.not_mem_nil, or_false] at hz
    rcases hz with rfl | rfl
    · exact Or.inr ⟨by decide, "java/lang/IndexOutOfBoundsException", hts (.classLink RL 19 "java/lang/IndexOutOfBoundsException") (by decide +kernel), hE.2.1⟩
    · exact Or.inr ⟨by decide, "java/lang/IllegalArgumentException", hts (.classLink RL 25 "java/lang/IllegalArgumentException") (by decide +kernel), hE.2.2.2⟩) (by decide) (by decide) (hts (.classLink RL 13 "java/lang/IllegalStateException") (by decide +kernel)) (show (Cond.castable zIS zIS).before _ s9 = true from hE.1.2.1) hce hcv hcl ?_
  refine lv_astore (lv' := [(4, .ref q9), (0, .ref (q 0)), (1, .int (zI p)), (2, .int (zI d)), (3, .ref o)]) hx hb dL_wouldWear_21 hl (by decide) rfl (fun ls hl => ?_)
  refine zr_iconst hx hb dL_wouldWear_23 ?_
  rw [hQ0]
  exact vx_ret (W.iret hx hb hr (fun t ht _ => ⟨⟨rfl, by rw [ht]; exact hP, by rw [ht]; exact hO⟩, hS.F ht⟩) hS.2.2 dL_wouldWear_24 hlocks)
set_option maxHeartbeats 4000000 in
set_option maxRecDepth 100000 in
theorem kL_wouldWearx5 (l : Launch) (D : va_G) (hl0 : l.stackTraces = false) (cI cZ cJ : ClassId) (q : Nat → Nat) (o : Nat) (hN : (zLC q).Nodup) (hN2 : (zLC q ++ [o]).Nodup) (pa : Int → Int) (sp : Int → Int) (al : Int → Int) (dg : Int → Int) (co : Int → Int) (da : Int → Int) (mb : Int → Int) (dd : Int → Int) (ah : Int → Int) (wl : Int → Int) (lo : Int → Int) (n : Nat) (td : Int) (wn : Int) (f : Nat → Int64) (hn : n ≤ 16) (hal : ∀ j : Int, 0 ≤ al j ∧ al j ≤ 1) (p : Int) (d : Int) (h1 : 0 ≤ p ∧ p < (n : Int)) (h2 : 0 ≤ d ∧ d < (n : Int)) (h3 : p ≠ d) (h4 : al p ≠ 0) (h5 : al d = 0) : zLW l yL_wouldWear wsL_wouldWear ({ frames := 8, cells := 1, slots := 6, locals := 135 }) D [(cI, .int), (cZ, .boolean), (cJ, .long)] cJ [.ref (q 0), .int (zI p), .int (zI d), .ref o] (wC cI cZ q pa sp al dg co da mb dd ah wl lo n td wn) (wC cI cZ q pa sp al dg co da mb dd ah wl lo n td wn) o f f 3 (zLC q) 1 6 := by
  refine vx_ofWH (cc := cL_wouldWear) (maxL := 5) (ret := some .int) (hh := [(0, 10, 13, 19), (0, 10, 17, 25), (0, 10, 21, 13)]) (by decide) rfl ?_
  intro p0 e9 s9 m9 ag9 below meth c9 s₁ B hml hv
  obtain ⟨hav, hP, hO, hK, hT, hE⟩ := hv
  have hx := B.exec
  have hb := B.bytes
  have hr := B.returns
  have hts := atoms_spec (ws := wsL_wouldWear) B.pre
  have hown : s9.vm.findClass RL = some m9.cls := findClass_of_methodNamed B.named
  have hlocks := B.notSynchronized
  have hA : ∀ a ∈ zLC q, (fun a => a ∈ zLC q ++ [o]) a := fun _ h => List.mem_append_left _ h
  have hA2 : ∀ a ∈ zLC q ++ [o], (fun a => a ∈ zLC q ++ [o]) a := fun _ h => h
  have hoL : ∀ a ∈ [o], a ∉ zLC q := fun a ha h => (List.nodup_append.mp hN2).2.2 a h a ha rfl
  have htab := vx_table (x := yL_wouldWear) B (hts (.codeWith yL_wouldWear cL_wouldWear 5 (some .int) [(0, 10, 13, 19), (0, 10, 17, 25), (0, 10, 21, 13)]) (by rw [show wsL_wouldWear = _ from rfl]; exact List.mem_cons_self))
  have hl := lv_entry ([.ref (q 0), .int (zI p), .int (zI d), .ref o]) (n := 5) (Nat.le_of_ble_eq_true rfl)
  have hE0 : entryFrame m9 ag9 5 = F0 m9 0 ((lg_sl ([.ref (q 0), .int (zI p), .int (zI d), .ref o]) ++ List.replicate (5 - (lg_sl ([.ref (q 0), .int (zI p), .int (zI d), .ref o])).length) Slot.unset).toArray) [] := by rw [hav]; exact lg_entry_eq m9 _ _
  obtain ⟨Q0, hQ0⟩ : ∃ Q0, Q0 = vx_MQ below (zQL D (wC cI cZ q pa sp al dg co da mb dd ah wl lo n td wn) cJ o f 3 (zLC q)) zF ag9 s9 1 6 (fun a => a ∈ zLC q ++ [o]) := ⟨_, rfl⟩
  show W p0 l e9 ({ frames := 8, cells := 1, slots := 6, locals := 135 }) s9 m9 ag9 below meth c9 s9.heap [] 0 0 (vx_MQ below (zQL D (wC cI cZ q pa sp al dg co da mb dd ah wl lo n td wn) cJ o f 3 (zLC q)) zF ag9 s9 1 6 (fun a => a ∈ zLC q ++ [o])) _
  rw [hE0, ← hQ0]
  have hS : va_S (fun a => a ∈ zLC q ++ [o]) s9.heap s9.heap [] := va_S.rf
  generalize hH0 : s9.heap = H at hP hO ⊢
  have hS : va_S (fun a => a ∈ zLC q ++ [o]) s9.heap H [] := by rw [hH0] at hS ⊢; exact hS
  have hT : zT (fun a => a ∈ zLC q) s9 H := by rw [hH0] at hT; exact hT
  generalize (lg_sl ([.ref (q 0), .int (zI p), .int (zI d), .ref o]) ++ List.replicate (5 - (lg_sl ([.ref (q 0), .int (zI p), .int (zI d), .ref o])).length) Slot.unset).toArray = ls at hl ⊢
  have hl : lv_has ls 5 [(0, .ref (q 0)), (1, .int (zI p)), (2, .int (zI d)), (3, .ref o)] := hl
  refine lv_aload_n hx hb dL_wouldWear_0 rfl (lv_at hl 3 rfl) ?_
  refine zr_iconst hx hb dL_wouldWear_1 ?_
  refine lv_aload_n hx hb dL_wouldWear_2 rfl (lv_at hl 0 rfl) ?_
  refine lv_iload_n hx hb dL_wouldWear_3 rfl (lv_at hl 1 rfl) ?_
  refine lv_iload_n hx hb dL_wouldWear_4 rfl (lv_at hl 2 rfl) ?_
  refine zcallXV (ci := 2) (q0 := 0) (cq := (RX2, TX2, 9)) (As := [.int (zI p), .int (zI d)]) (rest := [.int (zI 0), .ref o]) ⟨hx, hb, hml, hown, hts⟩ (hK.sub (tys' := [(cI, .int), (cZ, .boolean)]) [0, 1] rfl) (kX2_wouldWearx5 l D hl0 cI cZ q hN pa sp al dg co da mb dd ah wl lo n td wn hn hal p d h1 h2 h3 h4 h5) (cwV 2 hts gL_wouldWear_X2_wouldWear rfl rfl rfl (by decide +kernel) ⟨Nat.le_of_ble_eq_true rfl, Nat.le_of_ble_eq_true rfl⟩) hP hT hS hA rfl rfl rfl hl.1 rfl (Nat.le_of_ble_eq_true rfl) dL_wouldWear_5 ⟨Nat.le_of_ble_eq_true rfl, Nat.le_of_ble_eq_true rfl⟩ (fun ce q9 H locs hP hS _ hkk hce hcv hcl => ?_)
  have hO := zkeep hO hkk hoL
  refine vx_catch (E := "java/lang/IllegalStateException") (name := "java/lang/IllegalStateException") hown [⟨0, 10, 13, 19⟩, ⟨0, 10, 17, 25⟩] ⟨0, 10, 21, 13⟩ [] (by rw [htab]; rfl) (fun z hz => by
    simp only [List.mem_cons, List.not_mem_nil, or_false] at hz
    rcases hz with rfl | rfl
    · exact Or.inr ⟨by decide, "java/lang/IndexOutOfBoundsException", hts (.classLink RL 19 "java/lang/IndexOutOfBoundsException") (by decide +kernel), hE.2.1⟩
    · exact Or.inr ⟨by decide, "java/lang/IllegalArgumentException", hts (.classLink RL 25 "java/lang/IllegalArgumentException") (by decide +kernel), hE.2.2.2⟩) (by decide) (by decide) (hts (.classLink RL 13 "java/lang/IllegalStateException") (by decide +kernel)) (show (Cond.castable zIS zIS).before _ s9 = true from hE.1.2.1) hce hcv hcl ?_
  refine lv_astore (lv' := [(4, .ref q9), (0, .ref (q 0)), (1, .int (zI p)), (2, .int (zI d)), (3, .ref o)]) hx hb dL_wouldWear_21 hl (by decide) rfl (fun ls hl => ?_)
  refine zr_iconst hx hb dL_wouldWear_23 ?_
  rw [hQ0]
  exact vx_ret (W.iret hx hb hr (fun t ht _ => ⟨⟨rfl, by rw [ht]; exact hP, by rw [ht]; exact hO⟩, hS.F ht⟩) hS.2.2 dL_wouldWear_24 hlocks)
