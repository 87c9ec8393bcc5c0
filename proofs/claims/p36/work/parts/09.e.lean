section ZL11
variable {p : Program} {l : Launch} {e : Env} {R : Room} {s : State} {m : MethodId} {args : Array Value} {below : List Frame} {meth : Method} {c : Code} {H : Heap} {locs : List Loc} {cells slots : Nat} {Q : State → Prop}
variable {pc : Nat} {ls : Array Slot} {rest st0 As : List Value} {cc bytes : ByteArray} {D : va_G} {cI cZ c1 c2 : ClassId} {A free : Nat → Prop} {H0 : Heap} {E : State → Prop} {Pre : Heap → Prop} {Post : Option Value → Heap → Prop}
variable {y : MethodName} {maxL nL index n mc ms : Nat} {ret : Option FieldType} {ws Ts : List Cond} {rm : Room} {own host : String}
theorem zs_newO (hx : p.tables.exec = Jvm.exec) (hb : c.code = cc) (hts : ∀ w ∈ Ts, w.before args s = true) (hin : ∀ w ∈ u_ws RX3 TX3 5, w ∈ Ts) (hown : s.vm.findClass own = some m.cls) (hcl : (Cond.classLink own index RX3).before args s = true) (hinst : (Cond.instantiable RX3 5).before args s = true) (hini : (Cond.initialized RX3).before args s = true)
    (hK : va_K D vwCl [(cI, .int), (cZ, .boolean)] s) (hS : va_S A H0 H locs) (hcells : cells + 1 ≤ R.cells) (hslots : slots + 5 ≤ R.slots) (hdg : decode cc pc = .ok (.new index, 3))
    (kk : ∀ (H1 : Heap) (q : Nat), q = H.size → va_P D vwCl [(q, .inr (3, [.int (zI 0), .int (zI 0), .null, .null, .null]))] H1 → H1.size = H.size + 1 → (∀ x : Nat, x < H.size → H1[x]? = H[x]?) → va_S A H0 H1 locs → W p l e R s m args below meth c H1 locs (cells + 1) (slots + 5) Q (F0 m (pc + 3) ls (.ref q :: rest))) : W p l e R s m args below meth c H locs cells slots Q (F0 m pc ls rest) := by
  refine W.newcK hx hb hown hcl hinst hini rfl hdg hcells hslots (hK.1 3 _ rfl).2.1 rfl fun H1 kC hkC e1 z1 o1 => ?_
  exact kk H1 H.size rfl (va1 ⟨_, rfl, (u_born tyX3 hts hin (hK.1 3 _ rfl) hkC e1 tyX3_ok).to (fun j hj => by rcases (show j = 0 ∨ j = 1 ∨ j = 2 ∨ j = 3 ∨ j = 4 by omega) with rfl | rfl | rfl | rfl | rfl <;> rfl)⟩) z1 o1 ⟨Nat.le_trans hS.1 (by omega), fun x h1 h2 => (o1 x (Nat.lt_of_lt_of_le h1 hS.1)).trans (hS.2.1 x h1 h2), hS.2.2⟩
theorem zcallGI {b : Nat} (S : CallFix p m c cc nL s args Ts own) (hK : va_K D vwCl [(cI, .int), (cZ, .boolean)] s) (hQ : zKA cI c1 c2 s) (hM : zGE l y ws rm D cI cZ c1 c2 (.ref b :: As) H.size E Pre Post free mc ms) (cw : va_CN R s args own index y host bytes maxL none ws rm mc ms n ∧ y.name = "<init>" ∧ (Cond.instanceMethod y).before args s = true) (hB : zBl E) (hE : ∀ U : State, U.heap = H → s.WarmedH U.vm → E U) (hPre : Pre H) (hS : va_S A H0 H locs) (hA : ∀ q, free q → A q)
    (hn : As.length = n) (hsz : ls.size = nL) (hst : st0 = As.reverse ++ .ref b :: rest) (hro : (rest.map fun v => v.category).sum ≤ 8) (hdg : decode cc pc = .ok (.invokespecial index, 3)) (hf : cells + mc ≤ R.cells ∧ slots + ms ≤ R.slots)
    (kk : ∀ (v : Option Value) (H1 : Heap) (locs1 : List Loc), Post v H1 → H.size ≤ H1.size → (∀ q : Nat, q < H.size → ¬ free q → H1[q]? = H[q]?) → va_S A H0 H1 locs1 → W p l e R s m args below meth c H1 locs1 (cells + mc) (slots + ms) Q (F0 m (pc + 3) ls (v.toList ++ rest))) : W p l e R s m args below meth c H locs cells slots Q (F0 m pc ls st0) :=
  zcallG (va_runIN (As := As) (rest := rest) S hM cw ⟨zblindE hB, fun U hU hW => ⟨rfl, by rw [hU], by rw [hU]; exact hPre, va_K.moved hW.alike hK, zKA.moved hW.alike hQ, hE U hU hW⟩⟩ rfl hn hsz hst (lv_room hro) hdg hf) hS hA kk
theorem zgret_o {q : Nat} {C : String} (hx : p.tables.exec = Jvm.exec) (hb : c.code = cc) (hr : meth.sig.returnType = some (.object C)) (hlocks : meth.locks = false) (hP : Post (some (.ref q)) H) (hS : va_S free s.heap H locs) (hdg : decode cc pc = .ok (.areturn, 1)) (h1 : cells ≤ mc) (h2 : slots ≤ ms) :
    W p l e R s m args below meth c H locs cells slots (MQ below (zGQ Post free) args s mc ms free) (F0 m pc ls [.ref q]) :=
  W.widen h1 h2 (W.aret hx hb hr (Or.inl ⟨_, rfl⟩) (Or.inr ⟨_, rfl⟩) (fun t ht _ => ⟨⟨_, rfl, by rw [ht]; exact hP⟩, hS.F ht⟩) hS.2.2 hdg hlocks)
end ZL11
def zEB (b N : Nat) (xs : Nat → Int32) (U : State) : Prop := va_X b N xs U U.heap ∧ va_Nw (.methodLinkNest RL 79 yX3_init "MourningRibbonsLaw") U ∧ zN15 U
theorem zBl.eb {b N : Nat} {xs : Nat → Int32} : zBl (zEB b N xs) := fun a U g mk h => ⟨zBl.X a U g mk h.1, va_Nw.same (u := U) rfl rfl h.2.1, zBl.n15 a U g mk h.2.2⟩
theorem zInv0 : zInv 0 (cst 0) (cst 0) (cst 0) (cst 0) (cst 0) (cst 0) (cst 0) 0 0 (fun _ => cst 0) := by
  refine ⟨⟨fun _ => ⟨by show (-1 : Int) ≤ 0; decide, by show (0 : Int) ≤ 15; decide⟩, fun _ => ⟨by show (-1 : Int) ≤ 0; decide, by show (0 : Int) ≤ 15; decide⟩, fun _ => ⟨by show (0 : Int) ≤ 0; decide, by show (0 : Int) ≤ 1; decide⟩, fun _ => ⟨by show (0 : Int) ≤ 0; decide, by show (0 : Int) ≤ 5; decide⟩, fun _ => ⟨by show (0 : Int) ≤ 0; decide, by show (0 : Int) ≤ 60; decide⟩, fun _ => ⟨by show (0 : Int) ≤ 0; decide, by show (0 : Int) ≤ 4; decide⟩, fun _ => ⟨by show (0 : Int) ≤ 0; decide, by show (0 : Int) ≤ 1000000; decide⟩, by decide, by decide⟩, ⟨fun p h0 h1 => by omega, fun p h0 h1 => by omega, fun p d _ _ _ _ h => absurd rfl h, fun d => Int.le_refl 0⟩, fun i h0 h1 => by omega, fun p d h0 h1 => by omega, by decide⟩
set_option maxHeartbeats 4000000 in
set_option maxRecDepth 100000 in
theorem kL_build (l : Launch) (D : va_G) (cI cZ c1 c2 : ClassId) (sz : Nat) (q : Nat → Nat) (hN : (zLC q).Nodup) (b : Nat) (N : Nat) (xs : Nat → Int32) (hN9 : N ≤ 260) (hqz : ∀ x ∈ zLC q, x < sz) (hbz : b < sz) (hbq : b ∉ zLC q) : zGE l yL_build wsL_build ({ frames := 9, cells := 330, slots := 4300, locals := 158 } : Room) D cI cZ c1 c2 [.ref (q 0), .ref b] sz (zEB b N xs) (fun H => va_P D vwCl (wC cI cZ q (cst 0) (cst 0) (cst 0) (cst 0) (cst 0) (cst 0) (cst 0) (cst 0) (cst 0) (cst 0) (cst 0) 0 0 0) H) (fun v H => v = some (.ref sz) ∧ zJ D cI cZ c1 c2 q sz sz 0 H) (fun x : Nat => x ∈ zLC q ∨ sz ≤ x) (330) (4300) := by
  refine Met.ofW (cc := cL_build) (maxL := 9) (ret := (some (.object "MourningRibbonsLaw$Sim"))) (by decide) rfl ?_
  intro p0 e9 s9 m9 ag9 below meth c9 s₁ B hml hv
  obtain ⟨hav, hsz, hPre, hK, hQ, hEx⟩ := hv
  subst hsz
  have hx := B.exec
  have hb := B.bytes
  have hr := B.returns
  have hts := atoms_spec (ws := wsL_build) B.pre
  have hown : s9.vm.findClass RL = some m9.cls := findClass_of_methodNamed B.named
  have hlocks := B.notSynchronized
  have hin3 : ∀ w ∈ u_ws RX3 TX3 5, w ∈ wsL_build := by decide +kernel
  have hl := lv_entry ([.ref (q 0), .ref b]) (n := 9) (Nat.le_of_ble_eq_true rfl)
  have hE : entryFrame m9 ag9 9 = F0 m9 0 ((lg_sl ([.ref (q 0), .ref b]) ++ List.replicate (9 - (lg_sl ([.ref (q 0), .ref b])).length) Slot.unset).toArray) [] := by rw [hav]; exact lg_entry_eq m9 _ _
  obtain ⟨Q0, hQ0⟩ : ∃ Q0, Q0 = MQ below (zGQ (fun v H => v = some (.ref s9.heap.size) ∧ zJ D cI cZ c1 c2 q s9.heap.size s9.heap.size 0 H) (fun x : Nat => x ∈ zLC q ∨ s9.heap.size ≤ x)) ag9 s9 (330) (4300) (fun x : Nat => x ∈ zLC q ∨ s9.heap.size ≤ x) := ⟨_, rfl⟩
  show W p0 l e9 ({ frames := 9, cells := 330, slots := 4300, locals := 158 } : Room) s9 m9 ag9 below meth c9 s9.heap [] 0 0 (MQ below (zGQ (fun v H => v = some (.ref s9.heap.size) ∧ zJ D cI cZ c1 c2 q s9.heap.size s9.heap.size 0 H) (fun x : Nat => x ∈ zLC q ∨ s9.heap.size ≤ x)) ag9 s9 (330) (4300) (fun x : Nat => x ∈ zLC q ∨ s9.heap.size ≤ x)) _
  rw [hE, ← hQ0]
  have hS : va_S (fun x : Nat => x ∈ zLC q ∨ s9.heap.size ≤ x) s9.heap s9.heap [] := va_S.rf
  have hU : s9.heap.size ≤ s9.heap.size := Nat.le_refl _
  generalize (lg_sl ([.ref (q 0), .ref b]) ++ List.replicate (9 - (lg_sl ([.ref (q 0), .ref b])).length) Slot.unset).toArray = ls at hl ⊢
  have hl : lv_has ls 9 [(0, .ref (q 0)), (1, .ref b)] := hl
  obtain ⟨hX, h79, h15⟩ := hEx
  obtain ⟨s0, hs0e⟩ : ∃ s0 : Nat, s0 = s9.heap.size := ⟨_, rfl⟩
  have hq0 : ∀ x ∈ zLC q, x < s0 := by rw [hs0e]; exact hqz
  have hbl : b < s9.heap.size := hbz
  have hbA : ¬ (b ∈ zLC q ∨ s9.heap.size ≤ b) := fun h => h.elim hbq (fun h => absurd hbz (Nat.not_lt.mpr h))
  have hC := hPre
  refine zs_newO hx hb hts hin3 hown (hts (.classLink RL 10 RX3) (by decide +kernel)) (hts (.instantiable RX3 5) (by decide +kernel)) (hts (.initialized RX3) (by decide +kernel)) hK hS (show 0 + 1 ≤ 330 from by omega) (show 0 + 5 ≤ 4300 from by omega) dL_build_0 (fun H a ha hO hz9 hk9 hS => ?_)
  have hC := zgrowP hC hk9
  have ha2 : s0 = a := by omega
  subst ha2
  have hU : s9.heap.size ≤ H.size := hS.1
  refine lv_dup hx hb dL_build_3 rfl ?_
  refine zcallGI (As := []) (rest := [.ref s0]) ⟨hx, hb, hml, hown, hts⟩ hK hQ (kX3_init l D cI cZ c1 c2 H.size s0) ⟨va_cnB 0 hts gL_build_X3_init_n79 rfl rfl rfl h79 (hts (.initialized RX3) (by decide +kernel)) (by decide +kernel) ⟨Nat.le_of_ble_eq_true rfl, Nat.le_of_ble_eq_true rfl⟩, rfl, hts (.instanceMethod yX3_init) (by decide +kernel)⟩ zBl.n15 (fun U _ hW => zN15.warm hW h15) hO hS (fun x h => Or.inr (by omega)) rfl hl.1 rfl (Nat.le_of_ble_eq_true rfl) dL_build_4 ⟨show 0 + 1 + 23 ≤ 330 from by omega, show 0 + 5 + 50 ≤ 4300 from by omega⟩ (fun v9 H locs hp9 hz9 hk9 hS => ?_)
  obtain ⟨rfl, hL⟩ := hp9
  have hC := zkeepL hC rfl hq0 (fun x h1 h2 => hk9 x h1 (by omega))
  have hU : s9.heap.size ≤ H.size := hS.1
  obtain ⟨kd_1, ap_1, ac_1, am_1, ra_1, rc_1, rr_1, rm_1, hL⟩ := hL
  obtain ⟨ub_1, hub, hL⟩ : ∃ ub_1 : Nat, ub_1 ≤ H.size ∧ zSL D cI c1 c2 s0 ub_1 H s0 kd_1 ap_1 ac_1 am_1 ra_1 rc_1 rr_1 rm_1 0 (cst 0) (cst 0) (cst 0) (cst 0) (cst 0) 0 (fun _ => cst 0) 0 0 := ⟨H.size, Nat.le_refl _, hL⟩
  have haub := hL.aub
  refine W.eq (g2 := F0 m9 7 ls [.ref s0]) rfl ?_
  refine lv_astore_n (lv' := [(2, .ref s0), (0, .ref (q 0)), (1, .ref b)]) hx hb dL_build_7 rfl hl (by decide) rfl (fun ls hl => ?_)
  refine zr_iconst hx hb dL_build_8 ?_
  refine lv_aload_n hx hb dL_build_9 rfl (lv_at hl 2 rfl) ?_
  refine zr_iconst hx hb dL_build_10 ?_
  refine zcallGE (As := [.ref b, .int (zI 0)]) (rest := [.int (zI 1)]) ⟨hx, hb, hml, hown, hts⟩ hK hQ (kL_cell l D cI cZ c1 c2 H.size b N xs hN9 0 (by omega)) (va_cwS 2 hts gL_build_L_cell rfl rfl rfl (by decide +kernel) ⟨by first | exact Nat.le_of_ble_eq_true rfl | (show _ ≤ _; omega), Nat.le_of_ble_eq_true rfl⟩) zBl.X (fun U hU hW => by rw [hU]; exact va_X.moved hW.alike (va_X.kept hX (hS.2.1 _ hbl hbA))) (trivial) hS (fun _ h => h.elim) rfl hl.1 rfl (Nat.le_of_ble_eq_true rfl) dL_build_11 ⟨show 0 + 1 + 23 + 0 ≤ 330 from by omega, show 0 + 5 + 50 + 0 ≤ 4300 from by omega⟩ (fun v9 H locs hp9 hz9 hk9 hS => ?_)
  obtain ⟨x_2, rfl⟩ := hp9
  have hk9 := fun (x : Nat) (h : x < _) => hk9 x h (fun h => h)
  have hC := zgrowP hC hk9
  have hL := zSL.keep hL (fun x _ h2 => hk9 x (Nat.lt_of_lt_of_le h2 hub))
  have hU : s9.heap.size ≤ H.size := hS.1
  have hub : ub_1 ≤ H.size := by omega
  refine W.eq (g2 := F0 m9 14 ls [.int x_2, .int (zI 1)]) rfl ?_
  refine zr_bipush hx hb dL_build_14 (by decide) ?_
  refine zcallGS (As := [.int x_2, .int (zI 14)]) (rest := [.int (zI 1)]) ⟨hx, hb, hml, hown, hts⟩ hK hQ (kL_below l D cI cZ c1 c2 H.size x_2 14 (by omega)) (va_cwS 2 hts gL_build_L_below rfl rfl rfl (by decide +kernel) ⟨by first | exact Nat.le_of_ble_eq_true rfl | (show _ ≤ _; omega), Nat.le_of_ble_eq_true rfl⟩) (trivial) hS (fun _ h => h.elim) rfl hl.1 rfl (Nat.le_of_ble_eq_true rfl) dL_build_16 ⟨show 0 + 1 + 23 + 0 ≤ 330 from by omega, show 0 + 5 + 50 + 0 ≤ 4300 from by omega⟩ (fun v9 H locs hp9 hz9 hk9 hS => ?_)
  obtain ⟨z_3, rfl, h0z_3, h1z_3⟩ := hp9
  have hk9 := fun (x : Nat) (h : x < _) => hk9 x h (fun h => h)
  have hC := zgrowP hC hk9
  have hL := zSL.keep hL (fun x _ h2 => hk9 x (Nat.lt_of_lt_of_le h2 hub))
  have hU : s9.heap.size ≤ H.size := hS.1
  have hub : ub_1 ≤ H.size := by omega
  refine W.eq (g2 := F0 m9 19 ls [.int (zI z_3), .int (zI 1)]) rfl ?_
  refine zr_iadd (v := 1 + z_3) hx hb rfl dL_build_19 ?_
  obtain ⟨cn, hcn⟩ : ∃ cn : Nat, (cn : Int) = 1 + z_3 := ⟨(1 + z_3).toNat, by omega⟩; rw [← hcn]
  refine lv_istore_n (lv' := [(3, .int (zI (cn : Int))), (2, .ref s0), (0, .ref (q 0)), (1, .ref b)]) hx hb dL_build_20 rfl hl (by decide) rfl (fun ls hl => ?_)
  refine zr_iconst hx hb dL_build_21 ?_
  refine lv_istore (lv' := [(4, .int (zI 0)), (3, .int (zI (cn : Int))), (2, .ref s0), (0, .ref (q 0)), (1, .ref b)]) hx hb dL_build_22 hl (by decide) rfl (fun ls hl => ?_)
  have L24_4 : ∀ (kf i : Nat), i ≤ cn → cn - i < kf → ∀ (H : Heap) (locs : List Loc) (ls : Array Slot) (pa : Int → Int) (sp : Int → Int) (al : Int → Int) (cc ss : Nat), (zJC D cI cZ q pa sp al (cst 0) (cst 0) (cst 0) (cst 0) i 0 0 H) → (zSW D cI c1 c2 s0 s0 i pa sp al (cst 0) (cst 0) 0 (fun _ => cst 0) 0 0 H) → va_S (fun x : Nat => x ∈ zLC q ∨ s9.heap.size ≤ x) s9.heap H locs → lv_has ls 9 [(4, .int (zI (i : Int))), (3, .int (zI (cn : Int))), (2, .ref s0), (0, .ref (q 0)), (1, .ref b)] → (zInv i pa sp al (cst 0) (cst 0) (cst 0) (cst 0) 0 0 (fun _ => cst 0)) → (∀ j : Int, 0 ≤ j → j < ((i : Nat) : Int) → al j = 1) → cc ≤ 24 + 19 * i → ss ≤ 55 + 290 * i → W p0 l e9 (({ frames := 9, cells := 330, slots := 4300, locals := 158 } : Room)) s9 m9 ag9 below meth c9 H locs cc ss Q0 (F0 m9 24 ls []) := by
    intro kf
    induction kf with
    | zero => intro i h1 h2; omega
    | succ kf ih =>
      intro i hi_i hk_i H locs ls pa sp al cc ss hC hL hS hl hI hal1 hcc hss
      have ih_i := ih
      clear ih
      have hU : s9.heap.size ≤ H.size := hS.1
      obtain ⟨dg, ah, wl, lo, hC⟩ := hC
      obtain ⟨kd_5, ap_5, ac_5, am_5, ra_5, rc_5, rr_5, rm_5, hL⟩ := hL
      obtain ⟨ub_5, hub, hL⟩ : ∃ ub_5 : Nat, ub_5 ≤ H.size ∧ zSL D cI c1 c2 s0 ub_5 H s0 kd_5 ap_5 ac_5 am_5 ra_5 rc_5 rr_5 rm_5 i pa sp al (cst 0) (cst 0) 0 (fun _ => cst 0) 0 0 := ⟨H.size, Nat.le_refl _, hL⟩
      have haub := hL.aub
      have hpa := hI.1.1
      have hsp := hI.1.2.1
      have hal := hI.1.2.2.1
      have hco := hI.1.2.2.2.1
      have hda := hI.1.2.2.2.2.1
      have hn9 := hI.n16
      have hsn : ∀ j : Int, 0 ≤ j → j < ((i : Nat) : Int) → sp j < ((i : Nat) : Int) := fun j h0 h1 => by have := hI.2.1.2.1 j h0 h1; omega
      refine lv_iload hx hb dL_build_24 (lv_at hl 0 rfl) ?_
      refine lv_iload_n hx hb dL_build_26 rfl (lv_at hl 1 rfl) ?_
      refine zr_icmp_ge (tgt := 213) hx hb dL_build_27 (by decide) ⟨by omega, by omega⟩ ⟨by omega, by omega⟩ (fun c_6 => ?_) (fun c_6 => ?_)
      · have c_6 := c_6
        have x_7 : i = cn := by omega
        try rw [x_7] at hl
        try rw [x_7] at hC
        try rw [x_7] at hL
        try rw [x_7] at hI
        try rw [x_7] at hal1
        try rw [x_7] at hcc
        try rw [x_7] at hss
        refine zr_iconst hx hb dL_build_213 ?_
        refine lv_istore (lv' := [(4, .int (zI 1)), (3, .int (zI (cn : Int))), (2, .ref s0), (0, .ref (q 0)), (1, .ref b)]) hx hb dL_build_214 hl (by decide) rfl (fun ls hl => ?_)
        have L216_8 : ∀ (kf u : Nat), u ≤ 4 → 4 - u < kf → ∀ (H : Heap) (locs : List Loc) (ls : Array Slot) (co : Int → Int) (da : Int → Int) (cc ss : Nat), (zJC D cI cZ q pa sp al co da (cst 0) (cst 0) cn 0 0 H) → (zSW D cI c1 c2 s0 s0 cn pa sp al co da 0 (fun _ => cst 0) 0 0 H) → va_S (fun x : Nat => x ∈ zLC q ∨ s9.heap.size ≤ x) s9.heap H locs → lv_has ls 9 [(4, .int (zI ((u : Int) + 1))), (3, .int (zI (cn : Int))), (2, .ref s0), (0, .ref (q 0)), (1, .ref b)] → (zInv cn pa sp al co da (cst 0) (cst 0) 0 0 (fun _ => cst 0)) → cc ≤ 290 + 3 * u → ss ≤ 4115 + 6 * u → W p0 l e9 (({ frames := 9, cells := 330, slots := 4300, locals := 158 } : Room)) s9 m9 ag9 below meth c9 H locs cc ss Q0 (F0 m9 216 ls []) := by
          intro kf
          induction kf with
          | zero => intro u h1 h2; omega
          | succ kf ih =>
            intro u hi_u hk_u H locs ls co da cc ss hC hL hS hl hI hcc hss
            have ih_u := ih
            clear ih
            have hU : s9.heap.size ≤ H.size := hS.1
            obtain ⟨dg, ah, wl, lo, hC⟩ := hC
            obtain ⟨kd_9, ap_9, ac_9, am_9, ra_9, rc_9, rr_9, rm_9, hL⟩ := hL
            obtain ⟨ub_9, hub, hL⟩ : ∃ ub_9 : Nat, ub_9 ≤ H.size ∧ zSL D cI c1 c2 s0 ub_9 H s0 kd_9 ap_9 ac_9 am_9 ra_9 rc_9 rr_9 rm_9 cn pa sp al co da 0 (fun _ => cst 0) 0 0 := ⟨H.size, Nat.le_refl _, hL⟩
            have haub := hL.aub
            have hpa := hI.1.1
            have hsp := hI.1.2.1
            have hal := hI.1.2.2.1
            have hco := hI.1.2.2.2.1
            have hda := hI.1.2.2.2.2.1
            have hn9 := hI.n16
            have hsn : ∀ j : Int, 0 ≤ j → j < ((cn : Nat) : Int) → sp j < ((cn : Nat) : Int) := fun j h0 h1 => by have := hI.2.1.2.1 j h0 h1; omega
            refine lv_iload hx hb dL_build_216 (lv_at hl 0 rfl) ?_
            refine zr_iconst hx hb dL_build_218 ?_
            refine zr_icmp_ge (tgt := 351) hx hb dL_build_219 (by decide) ⟨by omega, by omega⟩ ⟨by decide, by decide⟩ (fun c_10 => ?_) (fun c_10 => ?_)
            · have c_10 := c_10
              have x_11 : u = 4 := by omega
              try rw [x_11] at hl
              try rw [x_11] at hC
              try rw [x_11] at hL
              try rw [x_11] at hI
              try rw [x_11] at hcc
              try rw [x_11] at hss
              refine lv_aload_n hx hb dL_build_351 rfl (lv_at hl 2 rfl) ?_
              rw [hQ0]
              exact zgret_o hx hb hr hlocks (⟨congrArg (fun x => some (Value.ref x)) hs0e, by rw [← hs0e]; exact ⟨cn, pa, sp, al, co, da, (cst 0), (cst 0), 0, 0, 0, _, hI, by omega, Int.le_refl 0, ⟨_, _, _, _, hC⟩, hL.toW hub⟩⟩) hS dL_build_352 (by omega) (by omega)
            · have c_10 := c_10
              refine zr_iconst hx hb dL_build_222 ?_
              refine lv_istore (lv' := [(5, .int (zI 0)), (4, .int (zI ((u : Int) + 1))), (3, .int (zI (cn : Int))), (2, .ref s0), (0, .ref (q 0)), (1, .ref b)]) hx hb dL_build_223 hl (by decide) rfl (fun ls hl => ?_)
              have L225_12 : ∀ (kf t : Nat), t ≤ 3 → 3 - t < kf → ∀ (H : Heap) (locs : List Loc) (ls : Array Slot) (co2 : Int → Int) (da2 : Int → Int) (cc ss : Nat), (zJC D cI cZ q pa sp al co2 da2 (cst 0) (cst 0) cn 0 0 H) → (zSW D cI c1 c2 s0 s0 cn pa sp al co2 da2 0 (fun _ => cst 0) 0 0 H) → va_S (fun x : Nat => x ∈ zLC q ∨ s9.heap.size ≤ x) s9.heap H locs → lv_has ls 9 [(5, .int (zI (t : Int))), (4, .int (zI ((u : Int) + 1))), (3, .int (zI (cn : Int))), (2, .ref s0), (0, .ref (q 0)), (1, .ref b)] → (zInv cn pa sp al co2 da2 (cst 0) (cst 0) 0 0 (fun _ => cst 0)) → cc ≤ 290 + 3 * u + t → ss ≤ 4115 + 6 * u + 2 * t → W p0 l e9 (({ frames := 9, cells := 330, slots := 4300, locals := 158 } : Room)) s9 m9 ag9 below meth c9 H locs cc ss Q0 (F0 m9 225 ls []) := by
                intro kf
                induction kf with
                | zero => intro t h1 h2; omega
                | succ kf ih =>
                  intro t hi_t hk_t H locs ls co2 da2 cc ss hC hL hS hl hI hcc hss
                  have ih_t := ih
                  clear ih
                  have hU : s9.heap.size ≤ H.size := hS.1
                  obtain ⟨dg, ah, wl, lo, hC⟩ := hC
                  obtain ⟨kd_13, ap_13, ac_13, am_13, ra_13, rc_13, rr_13, rm_13, hL⟩ := hL
                  obtain ⟨ub_13, hub, hL⟩ : ∃ ub_13 : Nat, ub_13 ≤ H.size ∧ zSL D cI c1 c2 s0 ub_13 H s0 kd_13 ap_13 ac_13 am_13 ra_13 rc_13 rr_13 rm_13 cn pa sp al co2 da2 0 (fun _ => cst 0) 0 0 := ⟨H.size, Nat.le_refl _, hL⟩
                  have haub := hL.aub
                  have hpa := hI.1.1
                  have hsp := hI.1.2.1
                  have hal := hI.1.2.2.1
                  have hco := hI.1.2.2.2.1
                  have hda := hI.1.2.2.2.2.1
                  have hn9 := hI.n16
                  have hsn : ∀ j : Int, 0 ≤ j → j < ((cn : Nat) : Int) → sp j < ((cn : Nat) : Int) := fun j h0 h1 => by have := hI.2.1.2.1 j h0 h1; omega
                  refine lv_iload hx hb dL_build_225 (lv_at hl 0 rfl) ?_
                  refine zr_iconst hx hb dL_build_227 ?_
                  refine zr_icmp_ge (tgt := 345) hx hb dL_build_228 (by decide) ⟨by omega, by omega⟩ ⟨by decide, by decide⟩ (fun c_14 => ?_) (fun c_14 => ?_)
                  · have c_14 := c_14
                    have x_15 : t = 3 := by omega
                    try rw [x_15] at hl
                    try rw [x_15] at hC
                    try rw [x_15] at hL
                    try rw [x_15] at hI
                    try rw [x_15] at hcc
                    try rw [x_15] at hss
                    refine zr_iinc (v := ((u : Int) + 1) + 1) (lv' := [(4, .int (zI (((u : Int) + 1) + 1))), (5, .int (zI 3)), (3, .int (zI (cn : Int))), (2, .ref s0), (0, .ref (q 0)), (1, .ref b)]) hx hb dL_build_345 hl (k := 1) rfl rfl (by decide) rfl (fun ls hl => ?_)
                    refine lv_goto (tgt := 216) hx hb dL_build_348 (by decide) ?_
                    have hl := lv_sub hl (l' := [(4, .int (zI (((u : Int) + 1) + 1))), (3, .int (zI (cn : Int))), (2, .ref s0), (0, .ref (q 0)), (1, .ref b)]) [0, 2, 3, 4, 5] rfl
                    have e_16 : ((((u + 1) : Nat) : Int) + 1 : Int) = ((u : Int) + 1) + 1 := by omega
                    have hl : lv_has ls 9 [(4, .int (zI ((((u + 1) : Nat) : Int) + 1))), (3, .int (zI (cn : Int))), (2, .ref s0), (0, .ref (q 0)), (1, .ref b)] := by rw [e_16]; exact hl
                    exact ih_u (u + 1) (by omega) (by omega) _ _ _ co2 da2 _ _ (⟨_, _, _, _, hC⟩) (hL.toW hub) hS hl hI (by omega) (by omega)
                  · have c_14 := c_14
                    refine lv_aload_n hx hb dL_build_231 rfl (lv_at hl 5 rfl) ?_
                    refine lv_iload hx hb dL_build_232 (lv_at hl 1 rfl) ?_
                    refine zr_iconst hx hb dL_build_234 ?_
                    refine lv_iload hx hb dL_build_235 (lv_at hl 0 rfl) ?_
                    refine zr_imul (v := 4 * (t : Int)) hx hb rfl dL_build_237 ?_
                    refine zr_iadd (v := ((u : Int) + 1) + (4 * (t : Int))) hx hb rfl dL_build_238 ?_
                    refine zcallGE (As := [.ref b, .int (zI (((u : Int) + 1) + (4 * (t : Int))))]) (rest := []) ⟨hx, hb, hml, hown, hts⟩ hK hQ (kL_cell l D cI cZ c1 c2 H.size b N xs hN9 (((u : Int) + 1) + (4 * (t : Int))) (by omega)) (va_cwS 2 hts gL_build_L_cell rfl rfl rfl (by decide +kernel) ⟨by first | exact Nat.le_of_ble_eq_true rfl | (show _ ≤ _; omega), Nat.le_of_ble_eq_true rfl⟩) zBl.X (fun U hU hW => by rw [hU]; exact va_X.moved hW.alike (va_X.kept hX (hS.2.1 _ hbl hbA))) (trivial) hS (fun _ h => h.elim) rfl hl.1 rfl (Nat.le_of_ble_eq_true rfl) dL_build_239 ⟨show cc + 0 ≤ 330 from by omega, show ss + 0 ≤ 4300 from by omega⟩ (fun v9 H locs hp9 hz9 hk9 hS => ?_)
                    obtain ⟨x_17, rfl⟩ := hp9
                    have hk9 := fun (x : Nat) (h : x < _) => hk9 x h (fun h => h)
                    have hC := zgrowP hC hk9
                    have hL := zSL.keep hL (fun x _ h2 => hk9 x (Nat.lt_of_lt_of_le h2 hub))
                    have hU : s9.heap.size ≤ H.size := hS.1
                    have hub : ub_13 ≤ H.size := by omega
                    refine W.eq (g2 := F0 m9 242 ls [.int x_17]) rfl ?_
                    refine zr_iconst hx hb dL_build_242 ?_
                    refine zx_ishr hx hb dL_build_243 (fun x_18 => ?_)
                    refine lv_istore (lv' := [(6, .int x_18), (5, .int (zI (t : Int))), (4, .int (zI ((u : Int) + 1))), (3, .int (zI (cn : Int))), (2, .ref s0), (0, .ref (q 0)), (1, .ref b)]) hx hb dL_build_244 hl (by decide) rfl (fun ls hl => ?_)
                    refine lv_aload_n hx hb dL_build_246 rfl (lv_at hl 4 rfl) ?_
                    refine va_get (D := D) (ci := 3) (v := .ref ac_13) (C := RX3) (T := TX3) (N := 5) hx hb hts hin3 hown hK hL.obj 0 rfl rfl 3 (by decide) (hts (.fieldLink RL 51 "MourningRibbonsLaw$Sim" "code" "[[[I") (by decide +kernel)) (fun _ h9 => h9) rfl dL_build_247 ?_
                    refine lv_iload hx hb dL_build_250 (lv_at hl 2 rfl) ?_
                    refine zs_ald2 (v := .ref (rc_13 ((u : Int) + 1))) (i := (u : Int) + 1) hx hb hQ hL.cod (by omega) (by omega) (by decide) rfl dL_build_252 ?_
                    refine lv_iload hx hb dL_build_253 (lv_at hl 1 rfl) ?_
                    refine zr_iconst hx hb dL_build_255 ?_
                    refine zs_newI (N' := 2) hx hb hQ (hts (.arrayClass .int) (by decide +kernel)) hS (z := 2) (by omega) (by omega) (show cc + 1 ≤ 330 from by omega) (show ss + 2 ≤ 4300 from by omega) dL_build_256 (fun H w2 hq_w2 hi_w2 hz9 hk9 hS => ?_)
                    have hC := zgrowP hC hk9
                    have hL := zSL.keep hL (fun x _ h2 => hk9 x (Nat.lt_of_lt_of_le h2 hub))
                    have hge_w2 : s9.heap.size ≤ w2 := by omega
                    have hU : s9.heap.size ≤ H.size := hS.1
                    have hub : ub_13 ≤ H.size := by omega
                    refine lv_dup hx hb dL_build_258 rfl ?_
                    refine zr_iconst hx hb dL_build_259 ?_
                    refine lv_iload hx hb dL_build_260 (lv_at hl 0 rfl) ?_
                    refine zr_bipush hx hb dL_build_262 (by decide) ?_
                    refine zcallGS (As := [.int x_18, .int (zI 6)]) (rest := [.int (zI 0), .ref w2, .ref w2, .int (zI (t : Int)), .ref (rc_13 ((u : Int) + 1))]) ⟨hx, hb, hml, hown, hts⟩ hK hQ (kL_below l D cI cZ c1 c2 H.size x_18 6 (by omega)) (va_cwS 2 hts gL_build_L_below rfl rfl rfl (by decide +kernel) ⟨by first | exact Nat.le_of_ble_eq_true rfl | (show _ ≤ _; omega), Nat.le_of_ble_eq_true rfl⟩) (trivial) hS (fun _ h => h.elim) rfl hl.1 rfl (Nat.le_of_ble_eq_true rfl) dL_build_264 ⟨show cc + 1 + 0 ≤ 330 from by omega, show ss + 2 + 0 ≤ 4300 from by omega⟩ (fun v9 H locs hp9 hz9 hk9 hS => ?_)
                    obtain ⟨z_19, rfl, h0z_19, h1z_19⟩ := hp9
                    have hk9 := fun (x : Nat) (h : x < _) => hk9 x h (fun h => h)
                    have hC := zgrowP hC hk9
                    have hL := zSL.keep hL (fun x _ h2 => hk9 x (Nat.lt_of_lt_of_le h2 hub))
                    have hi_w2 := vA.grow hi_w2 hk9
                    have hU : s9.heap.size ≤ H.size := hS.1
                    have hub : ub_13 ≤ H.size := by omega
                    refine W.eq (g2 := F0 m9 267 ls [.int (zI z_19), .int (zI 0), .ref w2, .ref w2, .int (zI (t : Int)), .ref (rc_13 ((u : Int) + 1))]) rfl ?_
                    refine zs_ist (i := 0) (x := z_19) hx hb hQ hi_w2 hS (Or.inr (by omega)) (by decide) (by decide) (by decide) dL_build_267 (fun H locs hv9 hz9 hk9 hS => ?_)
                    have hC := zkeepW hC rfl hk9 (fun h => by have := hq0 _ h; omega)
                    have hL := zSL.keep hL (fun x _ h2 => hk9 x (by omega))
                    have hi_w2 := hv9
                    have hU : s9.heap.size ≤ H.size := hS.1
                    have hub : ub_13 ≤ H.size := by omega
                    refine lv_dup hx hb dL_build_268 rfl ?_
                    refine zr_iconst hx hb dL_build_269 ?_
                    refine lv_iload hx hb dL_build_270 (lv_at hl 0 rfl) ?_
                    refine zr_iconst hx hb dL_build_272 ?_
                    refine zx_ishr hx hb dL_build_273 (fun x_20 => ?_)
                    refine zr_iconst hx hb dL_build_274 ?_
                    refine zcallGS (As := [.int x_20, .int (zI 4)]) (rest := [.int (zI 1), .ref w2, .ref w2, .int (zI (t : Int)), .ref (rc_13 ((u : Int) + 1))]) ⟨hx, hb, hml, hown, hts⟩ hK hQ (kL_below l D cI cZ c1 c2 H.size x_20 4 (by omega)) (va_cwS 2 hts gL_build_L_below rfl rfl rfl (by decide +kernel) ⟨by first | exact Nat.le_of_ble_eq_true rfl | (show _ ≤ _; omega), Nat.le_of_ble_eq_true rfl⟩) (trivial) hS (fun _ h => h.elim) rfl hl.1 rfl (Nat.le_of_ble_eq_true rfl) dL_build_275 ⟨show cc + 1 + 0 ≤ 330 from by omega, show ss + 2 + 0 ≤ 4300 from by omega⟩ (fun v9 H locs hp9 hz9 hk9 hS => ?_)
                    obtain ⟨z_21, rfl, h0z_21, h1z_21⟩ := hp9
                    have hk9 := fun (x : Nat) (h : x < _) => hk9 x h (fun h => h)
                    have hC := zgrowP hC hk9
                    have hL := zSL.keep hL (fun x _ h2 => hk9 x (Nat.lt_of_lt_of_le h2 hub))
                    have hi_w2 := vA.grow hi_w2 hk9
                    have hU : s9.heap.size ≤ H.size := hS.1
                    have hub : ub_13 ≤ H.size := by omega
                    refine W.eq (g2 := F0 m9 278 ls [.int (zI z_21), .int (zI 1), .ref w2, .ref w2, .int (zI (t : Int)), .ref (rc_13 ((u : Int) + 1))]) rfl ?_
                    refine zr_if_ne (tgt := 285) hx hb dL_build_278 (by decide) ⟨by omega, by omega⟩ (fun c_22 => ?_) (fun c_22 => ?_)
                    · have c_22 := c_22
                      refine lv_iload hx hb dL_build_285 (lv_at hl 0 rfl) ?_
                      refine zr_iconst hx hb dL_build_287 ?_
                      refine zx_ishr hx hb dL_build_288 (fun x_23 => ?_)
                      refine zr_bipush hx hb dL_build_289 (by decide) ?_
                      refine zcallGS (As := [.int x_23, .int (zI 20)]) (rest := [.int (zI 1), .ref w2, .ref w2, .int (zI (t : Int)), .ref (rc_13 ((u : Int) + 1))]) ⟨hx, hb, hml, hown, hts⟩ hK hQ (kL_below l D cI cZ c1 c2 H.size x_23 20 (by omega)) (va_cwS 2 hts gL_build_L_below rfl rfl rfl (by decide +kernel) ⟨by first | exact Nat.le_of_ble_eq_true rfl | (show _ ≤ _; omega), Nat.le_of_ble_eq_true rfl⟩) (trivial) hS (fun _ h => h.elim) rfl hl.1 rfl (Nat.le_of_ble_eq_true rfl) dL_build_291 ⟨show cc + 1 + 0 ≤ 330 from by omega, show ss + 2 + 0 ≤ 4300 from by omega⟩ (fun v9 H locs hp9 hz9 hk9 hS => ?_)
                      obtain ⟨z_24, rfl, h0z_24, h1z_24⟩ := hp9
                      have hk9 := fun (x : Nat) (h : x < _) => hk9 x h (fun h => h)
                      have hC := zgrowP hC hk9
                      have hL := zSL.keep hL (fun x _ h2 => hk9 x (Nat.lt_of_lt_of_le h2 hub))
                      have hi_w2 := vA.grow hi_w2 hk9
                      have hU : s9.heap.size ≤ H.size := hS.1
                      have hub : ub_13 ≤ H.size := by omega
                      refine W.eq (g2 := F0 m9 294 ls [.int (zI z_24), .int (zI 1), .ref w2, .ref w2, .int (zI (t : Int)), .ref (rc_13 ((u : Int) + 1))]) rfl ?_
                      refine zs_ist (i := 1) (x := z_24) hx hb hQ hi_w2 hS (Or.inr (by omega)) (by decide) (by decide) (by decide) dL_build_294 (fun H locs hv9 hz9 hk9 hS => ?_)
                      have hC := zkeepW hC rfl hk9 (fun h => by have := hq0 _ h; omega)
                      have hL := zSL.keep hL (fun x _ h2 => hk9 x (by omega))
                      have hi_w2 := hv9
                      have hU : s9.heap.size ≤ H.size := hS.1
                      have hub : ub_13 ≤ H.size := by omega
                      refine zs_ast1 (i := (t : Int)) (v := w2) hx hb hQ (hL.cds ((u : Int) + 1) (by omega) (by omega)) hi_w2 hS (Or.inr (by rw [← hs0e]; exact (hL.out (by rw [(hL.2.2.1 _ (by omega) (by omega)).2]; omega)).1)) (by omega) (by omega) (by decide) dL_build_295 (fun H locs hv9 hz9 hk9 hS => ?_)
                      have hrcd := hL.out (x := rc_13 ((u : Int) + 1)) (by rw [(hL.2.2.1 ((u : Int) + 1) (by omega) (by omega)).2]; omega)
                      obtain ⟨kd_25, rr_25, hL⟩ := zSL_setC (c := z_19) (k9 := z_24) hL hub hz9 (by omega) (by omega) (by omega) (by omega) hi_w2 (zrowStg _ _) (by omega) hv9 hk9
                      have hC := zkeepW hC rfl hk9 (fun h => absurd (hq0 _ h) (Nat.not_lt.mpr hrcd.1))
                      obtain ⟨ub_26, hub, hL⟩ : ∃ ub_26 : Nat, ub_26 ≤ H.size ∧ zSL D cI c1 c2 s0 ub_26 H s0 kd_25 ap_13 ac_13 am_13 ra_13 rc_13 rr_25 rm_13 cn pa sp al (up co2 (192 + ((((u : Int) + 1) - 1) * 3 + (t : Int))) z_19) (up da2 (192 + ((((u : Int) + 1) - 1) * 3 + (t : Int))) z_24) 0 (fun _ => cst 0) 0 0 := ⟨H.size, Nat.le_refl _, hL⟩
                      have hU : s9.heap.size ≤ H.size := hS.1
                      have hub : ub_26 ≤ H.size := by omega
                      refine lv_aload_n hx hb dL_build_296 rfl (lv_at hl 5 rfl) ?_
                      refine lv_iload hx hb dL_build_297 (lv_at hl 2 rfl) ?_
                      refine lv_iload hx hb dL_build_299 (lv_at hl 1 rfl) ?_
                      refine lv_aload_n hx hb dL_build_301 rfl (lv_at hl 4 rfl) ?_
                      refine va_get (D := D) (ci := 3) (v := .ref ac_13) (C := RX3) (T := TX3) (N := 5) hx hb hts hin3 hown hK hL.obj 0 rfl rfl 3 (by decide) (hts (.fieldLink RL 51 "MourningRibbonsLaw$Sim" "code" "[[[I") (by decide +kernel)) (fun _ h9 => h9) rfl dL_build_302 ?_
                      refine lv_iload hx hb dL_build_305 (lv_at hl 2 rfl) ?_
                      refine zs_ald2 (v := .ref (rc_13 ((u : Int) + 1))) (i := (u : Int) + 1) hx hb hQ hL.cod (by omega) (by omega) (by decide) rfl dL_build_307 ?_
                      refine lv_iload hx hb dL_build_308 (lv_at hl 1 rfl) ?_
                      refine zs_ald1 (v := .ref (rr_25 ((u : Int) + 1) (t : Int))) (i := (t : Int)) hx hb hQ (hL.cds ((u : Int) + 1) (by omega) (by omega)) (by omega) (by omega) (by decide) rfl dL_build_310 ?_
                      refine zr_iconst hx hb dL_build_311 ?_
                      refine zs_ild (v := z_19) (i := 0) hx hb hQ (hL.stg ((u : Int) + 1) (t : Int) (by omega) (by omega) (by omega) (by omega)) (by decide) (by decide) (by decide) ((if_pos rfl).trans (if_pos rfl)) dL_build_312 ?_
                      refine lv_aload_n hx hb dL_build_313 rfl (lv_at hl 4 rfl) ?_
                      refine va_get (D := D) (ci := 3) (v := .ref ac_13) (C := RX3) (T := TX3) (N := 5) hx hb hts hin3 hown hK hL.obj 0 rfl rfl 3 (by decide) (hts (.fieldLink RL 51 "MourningRibbonsLaw$Sim" "code" "[[[I") (by decide +kernel)) (fun _ h9 => h9) rfl dL_build_314 ?_
                      refine lv_iload hx hb dL_build_317 (lv_at hl 2 rfl) ?_
                      refine zs_ald2 (v := .ref (rc_13 ((u : Int) + 1))) (i := (u : Int) + 1) hx hb hQ hL.cod (by omega) (by omega) (by decide) rfl dL_build_319 ?_
                      refine lv_iload hx hb dL_build_320 (lv_at hl 1 rfl) ?_
                      refine zs_ald1 (v := .ref (rr_25 ((u : Int) + 1) (t : Int))) (i := (t : Int)) hx hb hQ (hL.cds ((u : Int) + 1) (by omega) (by omega)) (by omega) (by omega) (by decide) rfl dL_build_322 ?_
                      refine zr_iconst hx hb dL_build_323 ?_
                      refine zs_ild (v := z_24) (i := 1) hx hb hQ (hL.stg ((u : Int) + 1) (t : Int) (by omega) (by omega) (by omega) (by omega)) (by decide) (by decide) (by decide) ((if_neg (by decide)).trans (if_pos rfl)) dL_build_324 ?_
                      refine zcallV (ci := 2) (q0 := 0) (cq := (RX2, TX2, 9)) (As := [.int (zI ((u : Int) + 1)), .int (zI (t : Int)), .int (zI z_19), .int (zI z_24)]) (rest := []) ⟨hx, hb, hml, hown, hts⟩ hK (kX2_setStageok l D cI cZ q hN pa sp al dg co2 da2 (cst 0) (cst 0) ah wl lo cn 0 0 hda ((u : Int) + 1) (t : Int) z_19 z_24 (by omega) (by omega) (by omega) (by omega)) (cwV 4 hts gL_build_X2_setStage rfl rfl rfl (by decide +kernel) ⟨Nat.le_of_ble_eq_true rfl, Nat.le_of_ble_eq_true rfl⟩) hC hS (fun x h => Or.inl h) rfl rfl rfl hl.1 rfl (Nat.le_of_ble_eq_true rfl) dL_build_325 ⟨show cc + 1 ≤ 330 from by omega, show ss + 2 ≤ 4300 from by omega⟩ (fun H locs hC hS hz9 hk9 => ?_)
                      have hkq := fun (x : Nat) (h1 : x < _) (h2 : s0 ≤ x) => hk9 x h1 (fun h => absurd (hq0 x h) (Nat.not_lt.mpr h2))
                      have hL := zSL.keep hL (fun x h1 h2 => hkq x (Nat.lt_of_lt_of_le h2 hub) h1)
                      have hU : s9.heap.size ≤ H.size := hS.1
                      have hub : ub_26 ≤ H.size := by omega
                      refine W.eq (g2 := F0 m9 328 ls [.int (zI (dAll (up da2 (16 * 12 + (((u : Int) + 1) - 1) * 3 + (t : Int)) z_24) 16 ((u : Int) + 1)))]) rfl ?_
                      rw [show 16 * 12 + (((u : Int) + 1) - 1) * 3 + (t : Int) = 192 + ((((u : Int) + 1) - 1) * 3 + (t : Int)) by omega] at hC ⊢; have hda2 : ∀ j : Int, 0 ≤ (up da2 (192 + ((((u : Int) + 1) - 1) * 3 + (t : Int))) z_24) j ∧ (up da2 (192 + ((((u : Int) + 1) - 1) * 3 + (t : Int))) z_24) j ≤ 60 := up_bd hda ⟨by omega, by omega⟩
                      refine lv_aload_n hx hb dL_build_328 rfl (lv_at hl 4 rfl) ?_
                      refine lv_iload hx hb dL_build_329 (lv_at hl 2 rfl) ?_
                      refine zcallGV (ci := 3) (cq := (RX3, TX3, 5)) (As := [.int (zI ((u : Int) + 1))]) (rest := [.int (zI (dAll (up da2 (192 + ((((u : Int) + 1) - 1) * 3 + (t : Int))) z_24) 16 ((u : Int) + 1)))]) ⟨hx, hb, hml, hown, hts⟩ hK hQ (kX3_length l D cI cZ c1 c2 H.size s0 s0 cn pa sp al (up co2 (192 + ((((u : Int) + 1) - 1) * 3 + (t : Int))) z_19) (up da2 (192 + ((((u : Int) + 1) - 1) * 3 + (t : Int))) z_24) 0 (fun _ => cst 0) 0 0 ((u : Int) + 1) hda2 (by omega)) (cwV 1 hts gL_build_X3_length rfl rfl rfl (by decide +kernel) ⟨by first | exact Nat.le_of_ble_eq_true rfl | (show _ ≤ _; omega), Nat.le_of_ble_eq_true rfl⟩) (hL.toW hub) hL.obj hS (fun x h => Or.inr (Nat.le_trans hU h)) rfl rfl hl.1 rfl (Nat.le_of_ble_eq_true rfl) dL_build_331 ⟨show cc + 1 + 0 ≤ 330 from by omega, show ss + 2 + 0 ≤ 4300 from by omega⟩ (fun v9 H locs hp9 hz9 hk9 hS => ?_)
                      subst hp9
                      have hk9 := fun (x : Nat) (h : x < _) => hk9 x h (Nat.not_le.mpr h)
                      have hC := zgrowP hC hk9
                      have hL := zSL.keep hL (fun x _ h2 => hk9 x (Nat.lt_of_lt_of_le h2 hub))
                      have b_27 := dAll_bd hda2 16 ((u : Int) + 1)
                      have hU : s9.heap.size ≤ H.size := hS.1
                      have hub : ub_26 ≤ H.size := by omega
                      refine W.eq (g2 := F0 m9 334 ls [.int (zI (dAll (up da2 (192 + ((((u : Int) + 1) - 1) * 3 + (t : Int))) z_24) 16 ((u : Int) + 1))), .int (zI (dAll (up da2 (192 + ((((u : Int) + 1) - 1) * 3 + (t : Int))) z_24) 16 ((u : Int) + 1)))]) rfl ?_
                      refine zr_icmp_eqT (tgt := 339) hx hb rfl dL_build_334 (by decide) ?_
                      refine zr_iinc (v := (t : Int) + 1) (lv' := [(5, .int (zI ((t : Int) + 1))), (6, .int x_18), (4, .int (zI ((u : Int) + 1))), (3, .int (zI (cn : Int))), (2, .ref s0), (0, .ref (q 0)), (1, .ref b)]) hx hb dL_build_339 hl (k := 1) rfl rfl (by decide) rfl (fun ls hl => ?_)
                      refine lv_goto (tgt := 225) hx hb dL_build_342 (by decide) ?_
                      have hl := lv_sub hl (l' := [(5, .int (zI ((t : Int) + 1))), (4, .int (zI ((u : Int) + 1))), (3, .int (zI (cn : Int))), (2, .ref s0), (0, .ref (q 0)), (1, .ref b)]) [0, 2, 3, 4, 5, 6] rfl
                      have e_28 : ((((t + 1) : Nat) : Int) : Int) = (t : Int) + 1 := by omega
                      have hl : lv_has ls 9 [(5, .int (zI (((t + 1) : Nat) : Int))), (4, .int (zI ((u : Int) + 1))), (3, .int (zI (cn : Int))), (2, .ref s0), (0, .ref (q 0)), (1, .ref b)] := by rw [e_28]; exact hl
                      exact ih_t (t + 1) (by omega) (by omega) _ _ _ (up co2 (192 + ((((u : Int) + 1) - 1) * 3 + (t : Int))) z_19) (up da2 (192 + ((((u : Int) + 1) - 1) * 3 + (t : Int))) z_24) _ _ (⟨_, _, _, _, hC⟩) (hL.toW hub) hS hl (hI.stg (k := 192 + ((((u : Int) + 1) - 1) * 3 + (t : Int))) (c := z_19) (v := z_24) (by omega) ⟨by omega, by omega⟩ ⟨by omega, by omega⟩) (by omega) (by omega)
                    · have c_22 := c_22
                      refine zr_iconst hx hb dL_build_281 ?_
                      refine lv_goto (tgt := 294) hx hb dL_build_282 (by decide) ?_
                      refine zs_ist (i := 1) (x := 0) hx hb hQ hi_w2 hS (Or.inr (by omega)) (by decide) (by decide) (by decide) dL_build_294 (fun H locs hv9 hz9 hk9 hS => ?_)
                      have hC := zkeepW hC rfl hk9 (fun h => by have := hq0 _ h; omega)
                      have hL := zSL.keep hL (fun x _ h2 => hk9 x (by omega))
                      have hi_w2 := hv9
                      have hU : s9.heap.size ≤ H.size := hS.1
                      have hub : ub_13 ≤ H.size := by omega
                      refine zs_ast1 (i := (t : Int)) (v := w2) hx hb hQ (hL.cds ((u : Int) + 1) (by omega) (by omega)) hi_w2 hS (Or.inr (by rw [← hs0e]; exact (hL.out (by rw [(hL.2.2.1 _ (by omega) (by omega)).2]; omega)).1)) (by omega) (by omega) (by decide) dL_build_295 (fun H locs hv9 hz9 hk9 hS => ?_)
                      have hrcd := hL.out (x := rc_13 ((u : Int) + 1)) (by rw [(hL.2.2.1 ((u : Int) + 1) (by omega) (by omega)).2]; omega)
                      obtain ⟨kd_29, rr_29, hL⟩ := zSL_setC (c := z_19) (k9 := 0) hL hub hz9 (by omega) (by omega) (by omega) (by omega) hi_w2 (zrowStg _ _) (by omega) hv9 hk9
                      have hC := zkeepW hC rfl hk9 (fun h => absurd (hq0 _ h) (Nat.not_lt.mpr hrcd.1))
                      obtain ⟨ub_30, hub, hL⟩ : ∃ ub_30 : Nat, ub_30 ≤ H.size ∧ zSL D cI c1 c2 s0 ub_30 H s0 kd_29 ap_13 ac_13 am_13 ra_13 rc_13 rr_29 rm_13 cn pa sp al (up co2 (192 + ((((u : Int) + 1) - 1) * 3 + (t : Int))) z_19) (up da2 (192 + ((((u : Int) + 1) - 1) * 3 + (t : Int))) 0) 0 (fun _ => cst 0) 0 0 := ⟨H.size, Nat.le_refl _, hL⟩
                      have hU : s9.heap.size ≤ H.size := hS.1
                      have hub : ub_30 ≤ H.size := by omega
                      refine lv_aload_n hx hb dL_build_296 rfl (lv_at hl 5 rfl) ?_
                      refine lv_iload hx hb dL_build_297 (lv_at hl 2 rfl) ?_
                      refine lv_iload hx hb dL_build_299 (lv_at hl 1 rfl) ?_
                      refine lv_aload_n hx hb dL_build_301 rfl (lv_at hl 4 rfl) ?_
                      refine va_get (D := D) (ci := 3) (v := .ref ac_13) (C := RX3) (T := TX3) (N := 5) hx hb hts hin3 hown hK hL.obj 0 rfl rfl 3 (by decide) (hts (.fieldLink RL 51 "MourningRibbonsLaw$Sim" "code" "[[[I") (by decide +kernel)) (fun _ h9 => h9) rfl dL_build_302 ?_
                      refine lv_iload hx hb dL_build_305 (lv_at hl 2 rfl) ?_
                      refine zs_ald2 (v := .ref (rc_13 ((u : Int) + 1))) (i := (u : Int) + 1) hx hb hQ hL.cod (by omega) (by omega) (by decide) rfl dL_build_307 ?_
                      refine lv_iload hx hb dL_build_308 (lv_at hl 1 rfl) ?_
                      refine zs_ald1 (v := .ref (rr_29 ((u : Int) + 1) (t : Int))) (i := (t : Int)) hx hb hQ (hL.cds ((u : Int) + 1) (by omega) (by omega)) (by omega) (by omega) (by decide) rfl dL_build_310 ?_
                      refine zr_iconst hx hb dL_build_311 ?_
                      refine zs_ild (v := z_19) (i := 0) hx hb hQ (hL.stg ((u : Int) + 1) (t : Int) (by omega) (by omega) (by omega) (by omega)) (by decide) (by decide) (by decide) ((if_pos rfl).trans (if_pos rfl)) dL_build_312 ?_
                      refine lv_aload_n hx hb dL_build_313 rfl (lv_at hl 4 rfl) ?_
                      refine va_get (D := D) (ci := 3) (v := .ref ac_13) (C := RX3) (T := TX3) (N := 5) hx hb hts hin3 hown hK hL.obj 0 rfl rfl 3 (by decide) (hts (.fieldLink RL 51 "MourningRibbonsLaw$Sim" "code" "[[[I") (by decide +kernel)) (fun _ h9 => h9) rfl dL_build_314 ?_
                      refine lv_iload hx hb dL_build_317 (lv_at hl 2 rfl) ?_
                      refine zs_ald2 (v := .ref (rc_13 ((u : Int) + 1))) (i := (u : Int) + 1) hx hb hQ hL.cod (by omega) (by omega) (by decide) rfl dL_build_319 ?_
                      refine lv_iload hx hb dL_build_320 (lv_at hl 1 rfl) ?_
                      refine zs_ald1 (v := .ref (rr_29 ((u : Int) + 1) (t : Int))) (i := (t : Int)) hx hb hQ (hL.cds ((u : Int) + 1) (by omega) (by omega)) (by omega) (by omega) (by decide) rfl dL_build_322 ?_
                      refine zr_iconst hx hb dL_build_323 ?_
                      refine zs_ild (v := 0) (i := 1) hx hb hQ (hL.stg ((u : Int) + 1) (t : Int) (by omega) (by omega) (by omega) (by omega)) (by decide) (by decide) (by decide) ((if_neg (by decide)).trans (if_pos rfl)) dL_build_324 ?_
                      refine zcallV (ci := 2) (q0 := 0) (cq := (RX2, TX2, 9)) (As := [.int (zI ((u : Int) + 1)), .int (zI (t : Int)), .int (zI z_19), .int (zI 0)]) (rest := []) ⟨hx, hb, hml, hown, hts⟩ hK (kX2_setStageok l D cI cZ q hN pa sp al dg co2 da2 (cst 0) (cst 0) ah wl lo cn 0 0 hda ((u : Int) + 1) (t : Int) z_19 0 (by omega) (by omega) (by omega) (by omega)) (cwV 4 hts gL_build_X2_setStage rfl rfl rfl (by decide +kernel) ⟨Nat.le_of_ble_eq_true rfl, Nat.le_of_ble_eq_true rfl⟩) hC hS (fun x h => Or.inl h) rfl rfl rfl hl.1 rfl (Nat.le_of_ble_eq_true rfl) dL_build_325 ⟨show cc + 1 ≤ 330 from by omega, show ss + 2 ≤ 4300 from by omega⟩ (fun H locs hC hS hz9 hk9 => ?_)
                      have hkq := fun (x : Nat) (h1 : x < _) (h2 : s0 ≤ x) => hk9 x h1 (fun h => absurd (hq0 x h) (Nat.not_lt.mpr h2))
                      have hL := zSL.keep hL (fun x h1 h2 => hkq x (Nat.lt_of_lt_of_le h2 hub) h1)
                      have hU : s9.heap.size ≤ H.size := hS.1
                      have hub : ub_30 ≤ H.size := by omega
                      refine W.eq (g2 := F0 m9 328 ls [.int (zI (dAll (up da2 (16 * 12 + (((u : Int) + 1) - 1) * 3 + (t : Int)) 0) 16 ((u : Int) + 1)))]) rfl ?_
                      rw [show 16 * 12 + (((u : Int) + 1) - 1) * 3 + (t : Int) = 192 + ((((u : Int) + 1) - 1) * 3 + (t : Int)) by omega] at hC ⊢; have hda2 : ∀ j : Int, 0 ≤ (up da2 (192 + ((((u : Int) + 1) - 1) * 3 + (t : Int))) 0) j ∧ (up da2 (192 + ((((u : Int) + 1) - 1) * 3 + (t : Int))) 0) j ≤ 60 := up_bd hda ⟨by omega, by omega⟩
                      refine lv_aload_n hx hb dL_build_328 rfl (lv_at hl 4 rfl) ?_
                      refine lv_iload hx hb dL_build_329 (lv_at hl 2 rfl) ?_
                      refine zcallGV (ci := 3) (cq := (RX3, TX3, 5)) (As := [.int (zI ((u : Int) + 1))]) (rest := [.int (zI (dAll (up da2 (192 + ((((u : Int) + 1) - 1) * 3 + (t : Int))) 0) 16 ((u : Int) + 1)))]) ⟨hx, hb, hml, hown, hts⟩ hK hQ (kX3_length l D cI cZ c1 c2 H.size s0 s0 cn pa sp al (up co2 (192 + ((((u : Int) + 1) - 1) * 3 + (t : Int))) z_19) (up da2 (192 + ((((u : Int) + 1) - 1) * 3 + (t : Int))) 0) 0 (fun _ => cst 0) 0 0 ((u : Int) + 1) hda2 (by omega)) (cwV 1 hts gL_build_X3_length rfl rfl rfl (by decide +kernel) ⟨by first | exact Nat.le_of_ble_eq_true rfl | (show _ ≤ _; omega), Nat.le_of_ble_eq_true rfl⟩) (hL.toW hub) hL.obj hS (fun x h => Or.inr (Nat.le_trans hU h)) rfl rfl hl.1 rfl (Nat.le_of_ble_eq_true rfl) dL_build_331 ⟨show cc + 1 + 0 ≤ 330 from by omega, show ss + 2 + 0 ≤ 4300 from by omega⟩ (fun v9 H locs hp9 hz9 hk9 hS => ?_)
                      subst hp9
                      have hk9 := fun (x : Nat) (h : x < _) => hk9 x h (Nat.not_le.mpr h)
                      have hC := zgrowP hC hk9
                      have hL := zSL.keep hL (fun x _ h2 => hk9 x (Nat.lt_of_lt_of_le h2 hub))
                      have b_31 := dAll_bd hda2 16 ((u : Int) + 1)
                      have hU : s9.heap.size ≤ H.size := hS.1
                      have hub : ub_30 ≤ H.size := by omega
                      refine W.eq (g2 := F0 m9 334 ls [.int (zI (dAll (up da2 (192 + ((((u : Int) + 1) - 1) * 3 + (t : Int))) 0) 16 ((u : Int) + 1))), .int (zI (dAll (up da2 (192 + ((((u : Int) + 1) - 1) * 3 + (t : Int))) 0) 16 ((u : Int) + 1)))]) rfl ?_
                      refine zr_icmp_eqT (tgt := 339) hx hb rfl dL_build_334 (by decide) ?_
                      refine zr_iinc (v := (t : Int) + 1) (lv' := [(5, .int (zI ((t : Int) + 1))), (6, .int x_18), (4, .int (zI ((u : Int) + 1))), (3, .int (zI (cn : Int))), (2, .ref s0), (0, .ref (q 0)), (1, .ref b)]) hx hb dL_build_339 hl (k := 1) rfl rfl (by decide) rfl (fun ls hl => ?_)
                      refine lv_goto (tgt := 225) hx hb dL_build_342 (by decide) ?_
                      have hl := lv_sub hl (l' := [(5, .int (zI ((t : Int) + 1))), (4, .int (zI ((u : Int) + 1))), (3, .int (zI (cn : Int))), (2, .ref s0), (0, .ref (q 0)), (1, .ref b)]) [0, 2, 3, 4, 5, 6] rfl
                      have e_32 : ((((t + 1) : Nat) : Int) : Int) = (t : Int) + 1 := by omega
                      have hl : lv_has ls 9 [(5, .int (zI (((t + 1) : Nat) : Int))), (4, .int (zI ((u : Int) + 1))), (3, .int (zI (cn : Int))), (2, .ref s0), (0, .ref (q 0)), (1, .ref b)] := by rw [e_32]; exact hl
                      exact ih_t (t + 1) (by omega) (by omega) _ _ _ (up co2 (192 + ((((u : Int) + 1) - 1) * 3 + (t : Int))) z_19) (up da2 (192 + ((((u : Int) + 1) - 1) * 3 + (t : Int))) 0) _ _ (⟨_, _, _, _, hC⟩) (hL.toW hub) hS hl (hI.stg (k := 192 + ((((u : Int) + 1) - 1) * 3 + (t : Int))) (c := z_19) (v := 0) (by omega) ⟨by omega, by omega⟩ ⟨by omega, by omega⟩) (by omega) (by omega)
              have hl := lv_sub hl (l' := [(5, .int (zI 0)), (4, .int (zI ((u : Int) + 1))), (3, .int (zI (cn : Int))), (2, .ref s0), (0, .ref (q 0)), (1, .ref b)]) [0, 1, 2, 3, 4, 5] rfl
              exact L225_12 (3 + 1) 0 (Nat.zero_le _) (by omega) _ _ _ co da _ _ (⟨_, _, _, _, hC⟩) (hL.toW hub) hS hl hI (by omega) (by omega)
        have hl := lv_sub hl (l' := [(4, .int (zI 1)), (3, .int (zI (cn : Int))), (2, .ref s0), (0, .ref (q 0)), (1, .ref b)]) [0, 1, 2, 3, 4] rfl
        exact L216_8 (4 + 1) 0 (Nat.zero_le _) (by omega) _ _ _ (cst 0) (cst 0) _ _ (⟨_, _, _, _, hC⟩) (hL.toW hub) hS hl hI (by omega) (by omega)
      · have c_6 := c_6
        refine lv_aload_n hx hb dL_build_30 rfl (lv_at hl 4 rfl) ?_
        refine zr_iconst hx hb dL_build_31 ?_
        refine lv_iload hx hb dL_build_32 (lv_at hl 0 rfl) ?_
        refine zr_iadd (v := 1 + (i : Int)) hx hb rfl dL_build_34 ?_
        refine zcallGE (As := [.ref b, .int (zI (1 + (i : Int)))]) (rest := []) ⟨hx, hb, hml, hown, hts⟩ hK hQ (kL_cell l D cI cZ c1 c2 H.size b N xs hN9 (1 + (i : Int)) (by omega)) (va_cwS 2 hts gL_build_L_cell rfl rfl rfl (by decide +kernel) ⟨by first | exact Nat.le_of_ble_eq_true rfl | (show _ ≤ _; omega), Nat.le_of_ble_eq_true rfl⟩) zBl.X (fun U hU hW => by rw [hU]; exact va_X.moved hW.alike (va_X.kept hX (hS.2.1 _ hbl hbA))) (trivial) hS (fun _ h => h.elim) rfl hl.1 rfl (Nat.le_of_ble_eq_true rfl) dL_build_35 ⟨show cc + 0 ≤ 330 from by omega, show ss + 0 ≤ 4300 from by omega⟩ (fun v9 H locs hp9 hz9 hk9 hS => ?_)
        obtain ⟨x_33, rfl⟩ := hp9
        have hk9 := fun (x : Nat) (h : x < _) => hk9 x h (fun h => h)
        have hC := zgrowP hC hk9
        have hL := zSL.keep hL (fun x _ h2 => hk9 x (Nat.lt_of_lt_of_le h2 hub))
        have hU : s9.heap.size ≤ H.size := hS.1
        have hub : ub_5 ≤ H.size := by omega
        refine W.eq (g2 := F0 m9 38 ls [.int x_33]) rfl ?_
        refine lv_istore (lv' := [(5, .int x_33), (4, .int (zI (i : Int))), (3, .int (zI (cn : Int))), (2, .ref s0), (0, .ref (q 0)), (1, .ref b)]) hx hb dL_build_38 hl (by decide) rfl (fun ls hl => ?_)
        refine lv_iload hx hb dL_build_40 (lv_at hl 1 rfl) ?_
        refine zr_if_eq (tgt := 54) hx hb dL_build_42 (by decide) ⟨by omega, by omega⟩ (fun c_34 => ?_) (fun c_34 => ?_)
        · have c_34 := c_34
          refine zr_iconst hx hb dL_build_54 ?_
          refine lv_goto (tgt := 67) hx hb dL_build_55 (by decide) ?_
          refine lv_istore (lv' := [(6, .int (zI (-1))), (5, .int x_33), (4, .int (zI (i : Int))), (3, .int (zI (cn : Int))), (2, .ref s0), (0, .ref (q 0)), (1, .ref b)]) hx hb dL_build_67 hl (by decide) rfl (fun ls hl => ?_)
          refine lv_aload_n hx hb dL_build_69 rfl (lv_at hl 4 rfl) ?_
          refine lv_aload_n hx hb dL_build_70 rfl (lv_at hl 4 rfl) ?_
          refine va_get (D := D) (ci := 3) (v := .ref ap_5) (C := RX3) (T := TX3) (N := 5) hx hb hts hin3 hown hK hL.obj 0 rfl rfl 2 (by decide) (hts (.fieldLink RL 9 "MourningRibbonsLaw$Sim" "people" "[[I") (by decide +kernel)) (fun _ h9 => h9) rfl dL_build_71 ?_
          refine zr_iconst hx hb dL_build_74 ?_
          refine zs_newI (N' := 3) hx hb hQ (hts (.arrayClass .int) (by decide +kernel)) hS (z := 3) (by omega) (by omega) (show cc + 1 ≤ 330 from by omega) (show ss + 3 ≤ 4300 from by omega) dL_build_75 (fun H w1 hq_w1 hi_w1 hz9 hk9 hS => ?_)
          have hC := zgrowP hC hk9
          have hL := zSL.keep hL (fun x _ h2 => hk9 x (Nat.lt_of_lt_of_le h2 hub))
          have hge_w1 : s9.heap.size ≤ w1 := by omega
          have hU : s9.heap.size ≤ H.size := hS.1
          have hub : ub_5 ≤ H.size := by omega
          refine lv_dup hx hb dL_build_77 rfl ?_
          refine zr_iconst hx hb dL_build_78 ?_
          refine lv_iload hx hb dL_build_79 (lv_at hl 0 rfl) ?_
          refine zs_ist (i := 0) (x := (-1)) hx hb hQ hi_w1 hS (Or.inr (by omega)) (by decide) (by decide) (by decide) dL_build_81 (fun H locs hv9 hz9 hk9 hS => ?_)
          have hC := zkeepW hC rfl hk9 (fun h => by have := hq0 _ h; omega)
          have hL := zSL.keep hL (fun x _ h2 => hk9 x (by omega))
          have hi_w1 := hv9
          have hU : s9.heap.size ≤ H.size := hS.1
          have hub : ub_5 ≤ H.size := by omega
          refine lv_dup hx hb dL_build_82 rfl ?_
          refine zr_iconst hx hb dL_build_83 ?_
          refine zr_iconst hx hb dL_build_84 ?_
          refine zs_ist (i := 1) (x := (-1)) hx hb hQ hi_w1 hS (Or.inr (by omega)) (by decide) (by decide) (by decide) dL_build_85 (fun H locs hv9 hz9 hk9 hS => ?_)
          have hC := zkeepW hC rfl hk9 (fun h => by have := hq0 _ h; omega)
          have hL := zSL.keep hL (fun x _ h2 => hk9 x (by omega))
          have hi_w1 := hv9
          have hU : s9.heap.size ≤ H.size := hS.1
          have hub : ub_5 ≤ H.size := by omega
          refine lv_dup hx hb dL_build_86 rfl ?_
          refine zr_iconst hx hb dL_build_87 ?_
          refine zr_iconst hx hb dL_build_88 ?_
          refine zs_ist (i := 2) (x := 1) hx hb hQ hi_w1 hS (Or.inr (by omega)) (by decide) (by decide) (by decide) dL_build_89 (fun H locs hv9 hz9 hk9 hS => ?_)
          have hC := zkeepW hC rfl hk9 (fun h => by have := hq0 _ h; omega)
          have hL := zSL.keep hL (fun x _ h2 => hk9 x (by omega))
          have hi_w1 := hv9
          have hU : s9.heap.size ≤ H.size := hS.1
          have hub : ub_5 ≤ H.size := by omega
          refine zcallGS (As := [.ref ap_5, .ref w1]) (rest := [.ref s0]) ⟨hx, hb, hml, hown, hts⟩ hK hQ (kX3_more l D cI cZ c1 c2 H.size ap_5 w1 i ra_5 (by omega)) (va_cwS 2 hts gL_build_X3_more rfl rfl rfl (by decide +kernel) ⟨by first | exact Nat.le_of_ble_eq_true rfl | (show _ ≤ _; omega), Nat.le_of_ble_eq_true rfl⟩) (⟨hL.ppl, fun i h0 h1 => ⟨3, _, hL.row i h0 h1⟩, 3, _, hi_w1⟩) hS (fun x h => Or.inr (Nat.le_trans hU h)) rfl hl.1 rfl (Nat.le_of_ble_eq_true rfl) dL_build_90 ⟨show cc + 1 + 1 ≤ 330 from by omega, show ss + 3 + (i + 1) ≤ 4300 from by omega⟩ (fun v9 H locs hp9 hz9 hk9 hS => ?_)
          obtain ⟨bm, rfl, hgm_bm, hr9⟩ := hp9
          have hk9 := fun (x : Nat) (h : x < _) => hk9 x h (Nat.not_le.mpr h)
          have hC := zgrowP hC hk9
          have hL := zSL.keep hL (fun x _ h2 => hk9 x (Nat.lt_of_lt_of_le h2 hub))
          have hi_w1 := vA.grow hi_w1 hk9
          have hU : s9.heap.size ≤ H.size := hS.1
          have hub : ub_5 ≤ H.size := by omega
          refine W.eq (g2 := F0 m9 93 ls [.ref bm, .ref s0]) rfl ?_
          refine zs_put (v := .ref bm) (ty := (.array (.array .int))) hx hb hts hin3 hown hK hL.obj hS (Or.inr (by omega)) 2 (by decide) (hts (.fieldLink RL 9 "MourningRibbonsLaw$Sim" "people" "[[I") (by decide +kernel)) rfl rfl (by decide +kernel) rfl rfl (Nat.le_of_ble_eq_true rfl) dL_build_93 (fun H locs hO9 hz9 hk9 hS => ?_)
          obtain ⟨kd_35, ra_35, hL⟩ := zSL_addP (f := (-1)) hL hub hz9 hO9 hk9 (by omega) hi_w1 (zrowNew _ _ _ _ _) (by omega) hr9 (by have := hi_w1.lt; omega)
          have hC := zkeepW hC rfl hk9 (fun h => absurd (hq0 _ h) (Nat.not_lt.mpr haub.1))
          obtain ⟨ub_36, hub, hL⟩ : ∃ ub_36 : Nat, ub_36 ≤ H.size ∧ zSL D cI c1 c2 s0 ub_36 H s0 kd_35 bm ac_5 am_5 ra_35 rc_5 rr_5 rm_5 (i + 1) (up pa ((i : Nat) : Int) (-1)) (up sp ((i : Nat) : Int) (-1)) (up al ((i : Nat) : Int) 1) (cst 0) (cst 0) 0 (fun _ => cst 0) 0 0 := ⟨H.size, Nat.le_refl _, hL⟩
          have hU : s9.heap.size ≤ H.size := hS.1
          have hub : ub_36 ≤ H.size := by omega
          refine lv_iload hx hb dL_build_96 (lv_at hl 0 rfl) ?_
          refine zr_if_ge (tgt := 108) hx hb dL_build_98 (by decide) ⟨by decide, by decide⟩ (fun c_37 => by exfalso; revert c_37; decide) (fun c_37 => ?_)
          refine lv_aload_n hx hb dL_build_101 rfl (lv_at hl 5 rfl) ?_
          refine zcallV (ci := 2) (q0 := 0) (cq := (RX2, TX2, 9)) (As := []) (rest := []) ⟨hx, hb, hml, hown, hts⟩ hK (kX2_addPersonok l D cI cZ q hN pa sp al dg (cst 0) (cst 0) (cst 0) (cst 0) ah wl lo i 0 0 hI.n16 (by omega)) (cwV 0 hts gL_build_X2_addPerson rfl rfl rfl (by decide +kernel) ⟨Nat.le_of_ble_eq_true rfl, Nat.le_of_ble_eq_true rfl⟩) hC hS (fun x h => Or.inl h) rfl rfl rfl hl.1 rfl (Nat.le_of_ble_eq_true rfl) dL_build_102 ⟨show cc + 1 + 1 ≤ 330 from by omega, show ss + 3 + (i + 1) ≤ 4300 from by omega⟩ (fun H locs hC hS hz9 hk9 => ?_)
          have hkq := fun (x : Nat) (h1 : x < _) (h2 : s0 ≤ x) => hk9 x h1 (fun h => absurd (hq0 x h) (Nat.not_lt.mpr h2))
          have hL := zSL.keep hL (fun x h1 h2 => hkq x (Nat.lt_of_lt_of_le h2 hub) h1)
          have hU : s9.heap.size ≤ H.size := hS.1
          have hub : ub_36 ≤ H.size := by omega
          refine W.eq (g2 := F0 m9 105 ls [.int (zI (i : Int))]) rfl ?_
          refine lv_goto (tgt := 114) hx hb dL_build_105 (by decide) ?_
          refine lv_iload hx hb dL_build_114 (lv_at hl 2 rfl) ?_
          refine zr_icmp_eqT (tgt := 121) hx hb rfl dL_build_116 (by decide) ?_
          obtain ⟨pa, sp, al, hI, hal1, hspi, hC, hL⟩ : ∃ pa2 sp2 al2 : Int → Int, zInv (i + 1) pa2 sp2 al2 (cst 0) (cst 0) (cst 0) (cst 0) 0 0 (fun _ => cst 0) ∧ (∀ j : Int, 0 ≤ j → j < ((i + 1 : Nat) : Int) → al2 j = 1) ∧ sp2 (i : Int) = -1 ∧ va_P D vwCl (wC cI cZ q pa2 sp2 al2 dg (cst 0) (cst 0) (cst 0) (cst 0) ah wl lo ((i + 1 : Nat) : Int) 0 0) H ∧ zSL D cI c1 c2 s0 ub_36 H s0 kd_35 bm ac_5 am_5 ra_35 rc_5 rr_5 rm_5 (i + 1) pa2 sp2 al2 (cst 0) (cst 0) 0 (fun _ => cst 0) 0 0 := ⟨_, _, _, hI.add (by omega) (f := (-1)) ⟨by omega, by omega⟩, fun j h0 h1 => (by unfold up; split; rfl; exact hal1 j h0 (by omega)), if_pos rfl, hC, hL⟩
          have hpa := hI.1.1
          have hsp := hI.1.2.1
          have hal := hI.1.2.2.1
          have hco := hI.1.2.2.2.1
          have hda := hI.1.2.2.2.2.1
          have hn9 := hI.n16
          have hsn : ∀ j : Int, 0 ≤ j → j < ((i + 1 : Nat) : Int) → sp j < ((i + 1 : Nat) : Int) := fun j h0 h1 => by have := hI.2.1.2.1 j h0 h1; omega
          refine lv_iload hx hb dL_build_121 (lv_at hl 2 rfl) ?_
          refine zr_if_ne (tgt := 130) hx hb dL_build_123 (by decide) ⟨by omega, by omega⟩ (fun c_38 => ?_) (fun c_38 => ?_)
          · have c_38 := c_38
            refine lv_iload hx hb dL_build_130 (lv_at hl 1 rfl) ?_
            refine zr_iconst hx hb dL_build_132 ?_
            refine zx_ishr hx hb dL_build_133 (fun x_39 => ?_)
            refine lv_iload hx hb dL_build_134 (lv_at hl 2 rfl) ?_
            refine zcallGS (As := [.int x_39, .int (zI (i : Int))]) (rest := []) ⟨hx, hb, hml, hown, hts⟩ hK hQ (kL_below l D cI cZ c1 c2 H.size x_39 (i : Int) (by omega)) (va_cwS 2 hts gL_build_L_below rfl rfl rfl (by decide +kernel) ⟨by first | exact Nat.le_of_ble_eq_true rfl | (show _ ≤ _; omega), Nat.le_of_ble_eq_true rfl⟩) (trivial) hS (fun _ h => h.elim) rfl hl.1 rfl (Nat.le_of_ble_eq_true rfl) dL_build_136 ⟨show cc + 1 + 1 + 0 ≤ 330 from by omega, show ss + 3 + (i + 1) + 0 ≤ 4300 from by omega⟩ (fun v9 H locs hp9 hz9 hk9 hS => ?_)
            obtain ⟨z_40, rfl, h0z_40, h1z_40⟩ := hp9
            have hk9 := fun (x : Nat) (h : x < _) => hk9 x h (fun h => h)
            have hC := zgrowP hC hk9
            have hL := zSL.keep hL (fun x _ h2 => hk9 x (Nat.lt_of_lt_of_le h2 hub))
            have hU : s9.heap.size ≤ H.size := hS.1
            have hub : ub_36 ≤ H.size := by omega
            refine W.eq (g2 := F0 m9 139 ls [.int (zI z_40)]) rfl ?_
            obtain ⟨y7, hnm_y7⟩ : ∃ y7 : Int, y7 = z_40 := ⟨_, rfl⟩; rw [← hnm_y7]
            refine lv_istore (lv' := [(7, .int (zI y7)), (6, .int (zI (-1))), (5, .int x_33), (4, .int (zI (i : Int))), (3, .int (zI (cn : Int))), (2, .ref s0), (0, .ref (q 0)), (1, .ref b)]) hx hb dL_build_139 hl (by decide) rfl (fun ls hl => ?_)
            refine lv_iload hx hb dL_build_141 (lv_at hl 2 rfl) ?_
            refine zr_iconst hx hb dL_build_143 ?_
            refine zx_ishr hx hb dL_build_144 (fun x_41 => ?_)
            refine zr_iconst hx hb dL_build_145 ?_
            refine zcallGS (As := [.int x_41, .int (zI 3)]) (rest := []) ⟨hx, hb, hml, hown, hts⟩ hK hQ (kL_below l D cI cZ c1 c2 H.size x_41 3 (by omega)) (va_cwS 2 hts gL_build_L_below rfl rfl rfl (by decide +kernel) ⟨by first | exact Nat.le_of_ble_eq_true rfl | (show _ ≤ _; omega), Nat.le_of_ble_eq_true rfl⟩) (trivial) hS (fun _ h => h.elim) rfl hl.1 rfl (Nat.le_of_ble_eq_true rfl) dL_build_146 ⟨show cc + 1 + 1 + 0 ≤ 330 from by omega, show ss + 3 + (i + 1) + 0 ≤ 4300 from by omega⟩ (fun v9 H locs hp9 hz9 hk9 hS => ?_)
            obtain ⟨z_42, rfl, h0z_42, h1z_42⟩ := hp9
            have hk9 := fun (x : Nat) (h : x < _) => hk9 x h (fun h => h)
            have hC := zgrowP hC hk9
            have hL := zSL.keep hL (fun x _ h2 => hk9 x (Nat.lt_of_lt_of_le h2 hub))
            have hU : s9.heap.size ≤ H.size := hS.1
            have hub : ub_36 ≤ H.size := by omega
            refine W.eq (g2 := F0 m9 149 ls [.int (zI z_42)]) rfl ?_
            refine zr_if_gt (tgt := 207) hx hb dL_build_149 (by decide) ⟨by omega, by omega⟩ (fun c_43 => ?_) (fun c_43 => ?_)
            · have c_43 := c_43
              refine zr_iinc (v := (i : Int) + 1) (lv' := [(4, .int (zI ((i : Int) + 1))), (7, .int (zI y7)), (6, .int (zI (-1))), (5, .int x_33), (3, .int (zI (cn : Int))), (2, .ref s0), (0, .ref (q 0)), (1, .ref b)]) hx hb dL_build_207 hl (k := 3) rfl rfl (by decide) rfl (fun ls hl => ?_)
              refine lv_goto (tgt := 24) hx hb dL_build_210 (by decide) ?_
              have hl := lv_sub hl (l' := [(4, .int (zI ((i : Int) + 1))), (3, .int (zI (cn : Int))), (2, .ref s0), (0, .ref (q 0)), (1, .ref b)]) [0, 4, 5, 6, 7] rfl
              have e_44 : ((((i + 1) : Nat) : Int) : Int) = (i : Int) + 1 := by omega
              have hl : lv_has ls 9 [(4, .int (zI (((i + 1) : Nat) : Int))), (3, .int (zI (cn : Int))), (2, .ref s0), (0, .ref (q 0)), (1, .ref b)] := by rw [e_44]; exact hl
              exact ih_i (i + 1) (by omega) (by omega) _ _ _ pa sp al _ _ (⟨_, _, _, _, hC⟩) (hL.toW hub) hS hl hI hal1 (by omega) (by omega)
            · have c_43 := c_43
              refine lv_iload hx hb dL_build_152 (lv_at hl 3 rfl) ?_
              refine zr_if_eq (tgt := 207) hx hb dL_build_154 (by decide) ⟨by omega, by omega⟩ (fun c_45 => ?_) (fun c_45 => ?_)
              · have c_45 := c_45
                refine zr_iinc (v := (i : Int) + 1) (lv' := [(4, .int (zI ((i : Int) + 1))), (7, .int (zI y7)), (6, .int (zI (-1))), (5, .int x_33), (3, .int (zI (cn : Int))), (2, .ref s0), (0, .ref (q 0)), (1, .ref b)]) hx hb dL_build_207 hl (k := 3) rfl rfl (by decide) rfl (fun ls hl => ?_)
                refine lv_goto (tgt := 24) hx hb dL_build_210 (by decide) ?_
                have hl := lv_sub hl (l' := [(4, .int (zI ((i : Int) + 1))), (3, .int (zI (cn : Int))), (2, .ref s0), (0, .ref (q 0)), (1, .ref b)]) [0, 4, 5, 6, 7] rfl
                have e_46 : ((((i + 1) : Nat) : Int) : Int) = (i : Int) + 1 := by omega
                have hl : lv_has ls 9 [(4, .int (zI (((i + 1) : Nat) : Int))), (3, .int (zI (cn : Int))), (2, .ref s0), (0, .ref (q 0)), (1, .ref b)] := by rw [e_46]; exact hl
                exact ih_i (i + 1) (by omega) (by omega) _ _ _ pa sp al _ _ (⟨_, _, _, _, hC⟩) (hL.toW hub) hS hl hI hal1 (by omega) (by omega)
              · have c_45 := c_45
                refine lv_aload_n hx hb dL_build_157 rfl (lv_at hl 5 rfl) ?_
                refine va_get (D := D) (ci := 3) (v := .ref bm) (C := RX3) (T := TX3) (N := 5) hx hb hts hin3 hown hK hL.obj 0 rfl rfl 2 (by decide) (hts (.fieldLink RL 9 "MourningRibbonsLaw$Sim" "people" "[[I") (by decide +kernel)) (fun _ h9 => h9) rfl dL_build_158 ?_
                refine lv_iload hx hb dL_build_161 (lv_at hl 0 rfl) ?_
                refine zs_ald1 (v := .ref (ra_35 y7)) (i := y7) hx hb hQ hL.ppl (by omega) (by omega) (by have := hL.n16; omega) rfl dL_build_163 ?_
                refine zr_iconst hx hb dL_build_164 ?_
                refine zs_ild (v := sp y7) (i := 1) hx hb hQ (hL.row y7 (by omega) (by omega)) (by decide) (by decide) (by decide) rfl dL_build_165 ?_
                have b_47 := hsp y7
                refine zr_if_lt (tgt := 172) hx hb dL_build_166 (by decide) ⟨by omega, by omega⟩ (fun c_48 => ?_) (fun c_48 => ?_)
                · have c_48 := c_48
                  have hq1 := hal1 (i : Int) (by omega) (by omega)
                  have hq2 := hal1 y7 (by omega) (by omega)
                  refine lv_aload_n hx hb dL_build_172 rfl (lv_at hl 5 rfl) ?_
                  refine zcallGV (ci := 3) (cq := (RX3, TX3, 5)) (As := []) (rest := []) ⟨hx, hb, hml, hown, hts⟩ hK hQ (kX3_degrees l D cI cZ c1 c2 H.size s0 s0 (i + 1) pa sp al (cst 0) (cst 0) 0 (fun _ => cst 0) 0 0 hpa hsp) (cwV 0 hts gL_build_X3_degrees rfl rfl rfl (by decide +kernel) ⟨by first | exact Nat.le_of_ble_eq_true rfl | (show _ ≤ _; omega), Nat.le_of_ble_eq_true rfl⟩) (hL.toW hub) hL.obj hS (fun x h => Or.inr (Nat.le_trans hU h)) rfl rfl hl.1 rfl (Nat.le_of_ble_eq_true rfl) dL_build_173 ⟨show cc + 1 + 1 + 17 ≤ 330 from by omega, show ss + 3 + (i + 1) + 272 ≤ 4300 from by omega⟩ (fun v9 H locs hp9 hz9 hk9 hS => ?_)
                  obtain ⟨mx, rfl, hge_mx, hM⟩ := hp9
                  have hk9 := fun (x : Nat) (h : x < _) => hk9 x h (Nat.not_le.mpr h)
                  have hge_mx := Nat.le_trans hU hge_mx
                  have hC := zgrowP hC hk9
                  have hL := zSL.keep hL (fun x _ h2 => hk9 x (Nat.lt_of_lt_of_le h2 hub))
                  have hU : s9.heap.size ≤ H.size := hS.1
                  have hub : ub_36 ≤ H.size := by omega
                  refine W.eq (g2 := F0 m9 176 ls [.ref mx]) rfl ?_
                  refine lv_iload hx hb dL_build_176 (lv_at hl 3 rfl) ?_
                  refine zs_ald1 (v := .ref (rd mx (i : Int))) (i := (i : Int)) hx hb hQ hM.1 (by omega) (by omega) (by have := hL.n16; omega) rfl dL_build_178 ?_
                  refine lv_iload hx hb dL_build_179 (lv_at hl 0 rfl) ?_
                  refine zs_ild (v := dgF pa sp (i + 1) (i : Int) y7) (i := y7) hx hb hQ (hM.2 (i : Int) (by omega) (by omega)) (by omega) (by omega) (by have := hL.n16; omega) rfl dL_build_181 ?_
                  have b_49 := dgF_bd pa sp (i + 1) (i : Int) y7
                  refine lv_istore (lv' := [(8, .int (zI (dgF pa sp (i + 1) (i : Int) y7))), (7, .int (zI y7)), (6, .int (zI (-1))), (5, .int x_33), (4, .int (zI (i : Int))), (3, .int (zI (cn : Int))), (2, .ref s0), (0, .ref (q 0)), (1, .ref b)]) hx hb dL_build_182 hl (by decide) rfl (fun ls hl => ?_)
                  refine lv_aload_n hx hb dL_build_184 rfl (lv_at hl 6 rfl) ?_
                  refine lv_iload hx hb dL_build_185 (lv_at hl 4 rfl) ?_
                  refine lv_iload hx hb dL_build_187 (lv_at hl 1 rfl) ?_
                  refine zcallGV (ci := 3) (cq := (RX3, TX3, 5)) (As := [.int (zI (i : Int)), .int (zI y7)]) (rest := []) ⟨hx, hb, hml, hown, hts⟩ hK hQ (kX3_marry l D cI cZ c1 c2 H.size s0 s0 (i + 1) pa sp al (cst 0) (cst 0) 0 (fun _ => cst 0) 0 0 (i : Int) y7 hsp (by omega) (by omega) (by omega) hsn) (cwV 2 hts gL_build_X3_marry rfl rfl rfl (by decide +kernel) ⟨by first | exact Nat.le_of_ble_eq_true rfl | (show _ ≤ _; omega), Nat.le_of_ble_eq_true rfl⟩) (hL.toW hub) hL.obj hS (fun x h => Or.inr (by rw [← hs0e]; exact h)) rfl rfl hl.1 rfl (Nat.le_of_ble_eq_true rfl) dL_build_189 ⟨show cc + 1 + 1 + 17 + 0 ≤ 330 from by omega, show ss + 3 + (i + 1) + 272 + 0 ≤ 4300 from by omega⟩ (fun v9 H locs hp9 hz9 hk9 hS => ?_)
                  obtain ⟨rfl, kd_50, ap_50, ac_50, am_50, ra_50, rc_50, rr_50, rm_50, hL⟩ := hp9
                  have hC := zkeepL hC rfl hq0 hk9
                  obtain ⟨ub_51, hub, hL⟩ : ∃ ub_51 : Nat, ub_51 ≤ H.size ∧ zSL D cI c1 c2 s0 ub_51 H s0 kd_50 ap_50 ac_50 am_50 ra_50 rc_50 rr_50 rm_50 (i + 1) pa (up (up (lvS (lvS sp (i : Int)) y7) (i : Int) y7) y7 (i : Int)) al (cst 0) (cst 0) 0 (fun _ => cst 0) 0 0 := ⟨H.size, Nat.le_refl _, hL⟩
                  have hU : s9.heap.size ≤ H.size := hS.1
                  have hub : ub_51 ≤ H.size := by omega
                  refine W.eq (g2 := F0 m9 192 ls []) rfl ?_
                  refine lv_aload_n hx hb dL_build_192 rfl (lv_at hl 7 rfl) ?_
                  refine lv_iload hx hb dL_build_193 (lv_at hl 4 rfl) ?_
                  refine lv_iload hx hb dL_build_195 (lv_at hl 1 rfl) ?_
                  refine zcallV (ci := 2) (q0 := 0) (cq := (RX2, TX2, 9)) (As := [.int (zI (i : Int)), .int (zI y7)]) (rest := []) ⟨hx, hb, hml, hown, hts⟩ hK (kX2_marryok l D cI cZ q hN pa sp al dg (cst 0) (cst 0) (cst 0) (cst 0) ah wl lo (i + 1) 0 0 hI.n16 hpa hsp hal (i : Int) y7 (by omega) (by omega) (by omega) (by omega) (by omega) (by omega) (by omega)) (cwV 2 hts gL_build_X2_marry rfl rfl rfl (by decide +kernel) ⟨Nat.le_of_ble_eq_true rfl, Nat.le_of_ble_eq_true rfl⟩) hC hS (fun x h => Or.inl h) rfl rfl rfl hl.1 rfl (Nat.le_of_ble_eq_true rfl) dL_build_197 ⟨show cc + 1 + 1 + 17 ≤ 330 from by omega, show ss + 3 + (i + 1) + 272 ≤ 4300 from by omega⟩ (fun H locs hC hS hz9 hk9 => ?_)
                  have hkq := fun (x : Nat) (h1 : x < _) (h2 : s0 ≤ x) => hk9 x h1 (fun h => absurd (hq0 x h) (Nat.not_lt.mpr h2))
                  have hL := zSL.keep hL (fun x h1 h2 => hkq x (Nat.lt_of_lt_of_le h2 hub) h1)
                  have hU : s9.heap.size ≤ H.size := hS.1
                  have hub : ub_51 ≤ H.size := by omega
                  refine W.eq (g2 := F0 m9 200 ls [.int (zI (dgF pa sp (i + 1) (i : Int) y7))]) rfl ?_
                  refine lv_iload hx hb dL_build_200 (lv_at hl 0 rfl) ?_
                  refine zr_icmp_eqT (tgt := 207) hx hb rfl dL_build_202 (by decide) ?_
                  refine zr_iinc (v := (i : Int) + 1) (lv' := [(4, .int (zI ((i : Int) + 1))), (8, .int (zI (dgF pa sp (i + 1) (i : Int) y7))), (7, .int (zI y7)), (6, .int (zI (-1))), (5, .int x_33), (3, .int (zI (cn : Int))), (2, .ref s0), (0, .ref (q 0)), (1, .ref b)]) hx hb dL_build_207 hl (k := 4) rfl rfl (by decide) rfl (fun ls hl => ?_)
                  refine lv_goto (tgt := 24) hx hb dL_build_210 (by decide) ?_
                  have hl := lv_sub hl (l' := [(4, .int (zI ((i : Int) + 1))), (3, .int (zI (cn : Int))), (2, .ref s0), (0, .ref (q 0)), (1, .ref b)]) [0, 5, 6, 7, 8] rfl
                  have e_52 : ((((i + 1) : Nat) : Int) : Int) = (i : Int) + 1 := by omega
                  have hl : lv_has ls 9 [(4, .int (zI (((i + 1) : Nat) : Int))), (3, .int (zI (cn : Int))), (2, .ref s0), (0, .ref (q 0)), (1, .ref b)] := by rw [e_52]; exact hl
                  exact ih_i (i + 1) (by omega) (by omega) _ _ _ pa (up (up (lvS (lvS sp (i : Int)) y7) (i : Int) y7) y7 (i : Int)) al _ _ (⟨_, _, _, _, hC⟩) (hL.toW hub) hS hl (hI.wed (a := (i : Int)) (b := y7) (by omega) (by omega) (by omega) (by omega) (by omega)) hal1 (by omega) (by omega)
                · have c_48 := c_48
                  refine lv_goto (tgt := 207) hx hb dL_build_169 (by decide) ?_
                  refine zr_iinc (v := (i : Int) + 1) (lv' := [(4, .int (zI ((i : Int) + 1))), (7, .int (zI y7)), (6, .int (zI (-1))), (5, .int x_33), (3, .int (zI (cn : Int))), (2, .ref s0), (0, .ref (q 0)), (1, .ref b)]) hx hb dL_build_207 hl (k := 3) rfl rfl (by decide) rfl (fun ls hl => ?_)
                  refine lv_goto (tgt := 24) hx hb dL_build_210 (by decide) ?_
                  have hl := lv_sub hl (l' := [(4, .int (zI ((i : Int) + 1))), (3, .int (zI (cn : Int))), (2, .ref s0), (0, .ref (q 0)), (1, .ref b)]) [0, 4, 5, 6, 7] rfl
                  have e_53 : ((((i + 1) : Nat) : Int) : Int) = (i : Int) + 1 := by omega
                  have hl : lv_has ls 9 [(4, .int (zI (((i + 1) : Nat) : Int))), (3, .int (zI (cn : Int))), (2, .ref s0), (0, .ref (q 0)), (1, .ref b)] := by rw [e_53]; exact hl
                  exact ih_i (i + 1) (by omega) (by omega) _ _ _ pa sp al _ _ (⟨_, _, _, _, hC⟩) (hL.toW hub) hS hl hI hal1 (by omega) (by omega)
          · have c_38 := c_38
            refine zr_iconst hx hb dL_build_126 ?_
            refine lv_goto (tgt := 139) hx hb dL_build_127 (by decide) ?_
            obtain ⟨y7, hnm_y7⟩ : ∃ y7 : Int, y7 = 0 := ⟨_, rfl⟩; rw [← hnm_y7]
            refine lv_istore (lv' := [(7, .int (zI y7)), (6, .int (zI (-1))), (5, .int x_33), (4, .int (zI (i : Int))), (3, .int (zI (cn : Int))), (2, .ref s0), (0, .ref (q 0)), (1, .ref b)]) hx hb dL_build_139 hl (by decide) rfl (fun ls hl => ?_)
            refine lv_iload hx hb dL_build_141 (lv_at hl 2 rfl) ?_
            refine zr_iconst hx hb dL_build_143 ?_
            refine zx_ishr hx hb dL_build_144 (fun x_54 => ?_)
            refine zr_iconst hx hb dL_build_145 ?_
            refine zcallGS (As := [.int x_54, .int (zI 3)]) (rest := []) ⟨hx, hb, hml, hown, hts⟩ hK hQ (kL_below l D cI cZ c1 c2 H.size x_54 3 (by omega)) (va_cwS 2 hts gL_build_L_below rfl rfl rfl (by decide +kernel) ⟨by first | exact Nat.le_of_ble_eq_true rfl | (show _ ≤ _; omega), Nat.le_of_ble_eq_true rfl⟩) (trivial) hS (fun _ h => h.elim) rfl hl.1 rfl (Nat.le_of_ble_eq_true rfl) dL_build_146 ⟨show cc + 1 + 1 + 0 ≤ 330 from by omega, show ss + 3 + (i + 1) + 0 ≤ 4300 from by omega⟩ (fun v9 H locs hp9 hz9 hk9 hS => ?_)
            obtain ⟨z_55, rfl, h0z_55, h1z_55⟩ := hp9
            have hk9 := fun (x : Nat) (h : x < _) => hk9 x h (fun h => h)
            have hC := zgrowP hC hk9
            have hL := zSL.keep hL (fun x _ h2 => hk9 x (Nat.lt_of_lt_of_le h2 hub))
            have hU : s9.heap.size ≤ H.size := hS.1
            have hub : ub_36 ≤ H.size := by omega
            refine W.eq (g2 := F0 m9 149 ls [.int (zI z_55)]) rfl ?_
            refine zr_if_gt (tgt := 207) hx hb dL_build_149 (by decide) ⟨by omega, by omega⟩ (fun c_56 => ?_) (fun c_56 => ?_)
            · have c_56 := c_56
              refine zr_iinc (v := (i : Int) + 1) (lv' := [(4, .int (zI ((i : Int) + 1))), (7, .int (zI y7)), (6, .int (zI (-1))), (5, .int x_33), (3, .int (zI (cn : Int))), (2, .ref s0), (0, .ref (q 0)), (1, .ref b)]) hx hb dL_build_207 hl (k := 3) rfl rfl (by decide) rfl (fun ls hl => ?_)
              refine lv_goto (tgt := 24) hx hb dL_build_210 (by decide) ?_
              have hl := lv_sub hl (l' := [(4, .int (zI ((i : Int) + 1))), (3, .int (zI (cn : Int))), (2, .ref s0), (0, .ref (q 0)), (1, .ref b)]) [0, 4, 5, 6, 7] rfl
              have e_57 : ((((i + 1) : Nat) : Int) : Int) = (i : Int) + 1 := by omega
              have hl : lv_has ls 9 [(4, .int (zI (((i + 1) : Nat) : Int))), (3, .int (zI (cn : Int))), (2, .ref s0), (0, .ref (q 0)), (1, .ref b)] := by rw [e_57]; exact hl
              exact ih_i (i + 1) (by omega) (by omega) _ _ _ pa sp al _ _ (⟨_, _, _, _, hC⟩) (hL.toW hub) hS hl hI hal1 (by omega) (by omega)
            · have c_56 := c_56
              refine lv_iload hx hb dL_build_152 (lv_at hl 3 rfl) ?_
              refine zr_if_eq (tgt := 207) hx hb dL_build_154 (by decide) ⟨by omega, by omega⟩ (fun c_58 => ?_) (fun c_58 => ?_)
              · have c_58 := c_58
                refine zr_iinc (v := (i : Int) + 1) (lv' := [(4, .int (zI ((i : Int) + 1))), (7, .int (zI y7)), (6, .int (zI (-1))), (5, .int x_33), (3, .int (zI (cn : Int))), (2, .ref s0), (0, .ref (q 0)), (1, .ref b)]) hx hb dL_build_207 hl (k := 3) rfl rfl (by decide) rfl (fun ls hl => ?_)
                refine lv_goto (tgt := 24) hx hb dL_build_210 (by decide) ?_
                have hl := lv_sub hl (l' := [(4, .int (zI ((i : Int) + 1))), (3, .int (zI (cn : Int))), (2, .ref s0), (0, .ref (q 0)), (1, .ref b)]) [0, 4, 5, 6, 7] rfl
                have e_59 : ((((i + 1) : Nat) : Int) : Int) = (i : Int) + 1 := by omega
                have hl : lv_has ls 9 [(4, .int (zI (((i + 1) : Nat) : Int))), (3, .int (zI (cn : Int))), (2, .ref s0), (0, .ref (q 0)), (1, .ref b)] := by rw [e_59]; exact hl
                exact ih_i (i + 1) (by omega) (by omega) _ _ _ pa sp al _ _ (⟨_, _, _, _, hC⟩) (hL.toW hub) hS hl hI hal1 (by omega) (by omega)
              · have c_58 := c_58
                refine lv_aload_n hx hb dL_build_157 rfl (lv_at hl 5 rfl) ?_
                refine va_get (D := D) (ci := 3) (v := .ref bm) (C := RX3) (T := TX3) (N := 5) hx hb hts hin3 hown hK hL.obj 0 rfl rfl 2 (by decide) (hts (.fieldLink RL 9 "MourningRibbonsLaw$Sim" "people" "[[I") (by decide +kernel)) (fun _ h9 => h9) rfl dL_build_158 ?_
                refine lv_iload hx hb dL_build_161 (lv_at hl 0 rfl) ?_
                refine zs_ald1 (v := .ref (ra_35 y7)) (i := y7) hx hb hQ hL.ppl (by omega) (by omega) (by have := hL.n16; omega) rfl dL_build_163 ?_
                refine zr_iconst hx hb dL_build_164 ?_
                refine zs_ild (v := sp y7) (i := 1) hx hb hQ (hL.row y7 (by omega) (by omega)) (by decide) (by decide) (by decide) rfl dL_build_165 ?_
                have b_60 := hsp y7
                refine zr_if_lt (tgt := 172) hx hb dL_build_166 (by decide) ⟨by omega, by omega⟩ (fun c_61 => ?_) (fun c_61 => ?_)
                · have c_61 := c_61
                  have hq1 := hal1 (i : Int) (by omega) (by omega)
                  have hq2 := hal1 y7 (by omega) (by omega)
                  refine lv_aload_n hx hb dL_build_172 rfl (lv_at hl 5 rfl) ?_
                  refine zcallGV (ci := 3) (cq := (RX3, TX3, 5)) (As := []) (rest := []) ⟨hx, hb, hml, hown, hts⟩ hK hQ (kX3_degrees l D cI cZ c1 c2 H.size s0 s0 (i + 1) pa sp al (cst 0) (cst 0) 0 (fun _ => cst 0) 0 0 hpa hsp) (cwV 0 hts gL_build_X3_degrees rfl rfl rfl (by decide +kernel) ⟨by first | exact Nat.le_of_ble_eq_true rfl | (show _ ≤ _; omega), Nat.le_of_ble_eq_true rfl⟩) (hL.toW hub) hL.obj hS (fun x h => Or.inr (Nat.le_trans hU h)) rfl rfl hl.1 rfl (Nat.le_of_ble_eq_true rfl) dL_build_173 ⟨show cc + 1 + 1 + 17 ≤ 330 from by omega, show ss + 3 + (i + 1) + 272 ≤ 4300 from by omega⟩ (fun v9 H locs hp9 hz9 hk9 hS => ?_)
                  obtain ⟨mx, rfl, hge_mx, hM⟩ := hp9
                  have hk9 := fun (x : Nat) (h : x < _) => hk9 x h (Nat.not_le.mpr h)
                  have hge_mx := Nat.le_trans hU hge_mx
                  have hC := zgrowP hC hk9
                  have hL := zSL.keep hL (fun x _ h2 => hk9 x (Nat.lt_of_lt_of_le h2 hub))
                  have hU : s9.heap.size ≤ H.size := hS.1
                  have hub : ub_36 ≤ H.size := by omega
                  refine W.eq (g2 := F0 m9 176 ls [.ref mx]) rfl ?_
                  refine lv_iload hx hb dL_build_176 (lv_at hl 3 rfl) ?_
                  refine zs_ald1 (v := .ref (rd mx (i : Int))) (i := (i : Int)) hx hb hQ hM.1 (by omega) (by omega) (by have := hL.n16; omega) rfl dL_build_178 ?_
                  refine lv_iload hx hb dL_build_179 (lv_at hl 0 rfl) ?_
                  refine zs_ild (v := dgF pa sp (i + 1) (i : Int) y7) (i := y7) hx hb hQ (hM.2 (i : Int) (by omega) (by omega)) (by omega) (by omega) (by have := hL.n16; omega) rfl dL_build_181 ?_
                  have b_62 := dgF_bd pa sp (i + 1) (i : Int) y7
                  refine lv_istore (lv' := [(8, .int (zI (dgF pa sp (i + 1) (i : Int) y7))), (7, .int (zI y7)), (6, .int (zI (-1))), (5, .int x_33), (4, .int (zI (i : Int))), (3, .int (zI (cn : Int))), (2, .ref s0), (0, .ref (q 0)), (1, .ref b)]) hx hb dL_build_182 hl (by decide) rfl (fun ls hl => ?_)
                  refine lv_aload_n hx hb dL_build_184 rfl (lv_at hl 6 rfl) ?_
                  refine lv_iload hx hb dL_build_185 (lv_at hl 4 rfl) ?_
                  refine lv_iload hx hb dL_build_187 (lv_at hl 1 rfl) ?_
                  refine zcallGV (ci := 3) (cq := (RX3, TX3, 5)) (As := [.int (zI (i : Int)), .int (zI y7)]) (rest := []) ⟨hx, hb, hml, hown, hts⟩ hK hQ (kX3_marry l D cI cZ c1 c2 H.size s0 s0 (i + 1) pa sp al (cst 0) (cst 0) 0 (fun _ => cst 0) 0 0 (i : Int) y7 hsp (by omega) (by omega) (by omega) hsn) (cwV 2 hts gL_build_X3_marry rfl rfl rfl (by decide +kernel) ⟨by first | exact Nat.le_of_ble_eq_true rfl | (show _ ≤ _; omega), Nat.le_of_ble_eq_true rfl⟩) (hL.toW hub) hL.obj hS (fun x h => Or.inr (by rw [← hs0e]; exact h)) rfl rfl hl.1 rfl (Nat.le_of_ble_eq_true rfl) dL_build_189 ⟨show cc + 1 + 1 + 17 + 0 ≤ 330 from by omega, show ss + 3 + (i + 1) + 272 + 0 ≤ 4300 from by omega⟩ (fun v9 H locs hp9 hz9 hk9 hS => ?_)
                  obtain ⟨rfl, kd_63, ap_63, ac_63, am_63, ra_63, rc_63, rr_63, rm_63, hL⟩ := hp9
                  have hC := zkeepL hC rfl hq0 hk9
                  obtain ⟨ub_64, hub, hL⟩ : ∃ ub_64 : Nat, ub_64 ≤ H.size ∧ zSL D cI c1 c2 s0 ub_64 H s0 kd_63 ap_63 ac_63 am_63 ra_63 rc_63 rr_63 rm_63 (i + 1) pa (up (up (lvS (lvS sp (i : Int)) y7) (i : Int) y7) y7 (i : Int)) al (cst 0) (cst 0) 0 (fun _ => cst 0) 0 0 := ⟨H.size, Nat.le_refl _, hL⟩
                  have hU : s9.heap.size ≤ H.size := hS.1
                  have hub : ub_64 ≤ H.size := by omega
                  refine W.eq (g2 := F0 m9 192 ls []) rfl ?_
                  refine lv_aload_n hx hb dL_build_192 rfl (lv_at hl 7 rfl) ?_
                  refine lv_iload hx hb dL_build_193 (lv_at hl 4 rfl) ?_
                  refine lv_iload hx hb dL_build_195 (lv_at hl 1 rfl) ?_
                  refine zcallV (ci := 2) (q0 := 0) (cq := (RX2, TX2, 9)) (As := [.int (zI (i : Int)), .int (zI y7)]) (rest := []) ⟨hx, hb, hml, hown, hts⟩ hK (kX2_marryok l D cI cZ q hN pa sp al dg (cst 0) (cst 0) (cst 0) (cst 0) ah wl lo (i + 1) 0 0 hI.n16 hpa hsp hal (i : Int) y7 (by omega) (by omega) (by omega) (by omega) (by omega) (by omega) (by omega)) (cwV 2 hts gL_build_X2_marry rfl rfl rfl (by decide +kernel) ⟨Nat.le_of_ble_eq_true rfl, Nat.le_of_ble_eq_true rfl⟩) hC hS (fun x h => Or.inl h) rfl rfl rfl hl.1 rfl (Nat.le_of_ble_eq_true rfl) dL_build_197 ⟨show cc + 1 + 1 + 17 ≤ 330 from by omega, show ss + 3 + (i + 1) + 272 ≤ 4300 from by omega⟩ (fun H locs hC hS hz9 hk9 => ?_)
                  have hkq := fun (x : Nat) (h1 : x < _) (h2 : s0 ≤ x) => hk9 x h1 (fun h => absurd (hq0 x h) (Nat.not_lt.mpr h2))
                  have hL := zSL.keep hL (fun x h1 h2 => hkq x (Nat.lt_of_lt_of_le h2 hub) h1)
                  have hU : s9.heap.size ≤ H.size := hS.1
                  have hub : ub_64 ≤ H.size := by omega
                  refine W.eq (g2 := F0 m9 200 ls [.int (zI (dgF pa sp (i + 1) (i : Int) y7))]) rfl ?_
                  refine lv_iload hx hb dL_build_200 (lv_at hl 0 rfl) ?_
                  refine zr_icmp_eqT (tgt := 207) hx hb rfl dL_build_202 (by decide) ?_
                  refine zr_iinc (v := (i : Int) + 1) (lv' := [(4, .int (zI ((i : Int) + 1))), (8, .int (zI (dgF pa sp (i + 1) (i : Int) y7))), (7, .int (zI y7)), (6, .int (zI (-1))), (5, .int x_33), (3, .int (zI (cn : Int))), (2, .ref s0), (0, .ref (q 0)), (1, .ref b)]) hx hb dL_build_207 hl (k := 4) rfl rfl (by decide) rfl (fun ls hl => ?_)
                  refine lv_goto (tgt := 24) hx hb dL_build_210 (by decide) ?_
                  have hl := lv_sub hl (l' := [(4, .int (zI ((i : Int) + 1))), (3, .int (zI (cn : Int))), (2, .ref s0), (0, .ref (q 0)), (1, .ref b)]) [0, 5, 6, 7, 8] rfl
                  have e_65 : ((((i + 1) : Nat) : Int) : Int) = (i : Int) + 1 := by omega
                  have hl : lv_has ls 9 [(4, .int (zI (((i + 1) : Nat) : Int))), (3, .int (zI (cn : Int))), (2, .ref s0), (0, .ref (q 0)), (1, .ref b)] := by rw [e_65]; exact hl
                  exact ih_i (i + 1) (by omega) (by omega) _ _ _ pa (up (up (lvS (lvS sp (i : Int)) y7) (i : Int) y7) y7 (i : Int)) al _ _ (⟨_, _, _, _, hC⟩) (hL.toW hub) hS hl (hI.wed (a := (i : Int)) (b := y7) (by omega) (by omega) (by omega) (by omega) (by omega)) hal1 (by omega) (by omega)
                · have c_61 := c_61
                  refine lv_goto (tgt := 207) hx hb dL_build_169 (by decide) ?_
                  refine zr_iinc (v := (i : Int) + 1) (lv' := [(4, .int (zI ((i : Int) + 1))), (7, .int (zI y7)), (6, .int (zI (-1))), (5, .int x_33), (3, .int (zI (cn : Int))), (2, .ref s0), (0, .ref (q 0)), (1, .ref b)]) hx hb dL_build_207 hl (k := 3) rfl rfl (by decide) rfl (fun ls hl => ?_)
                  refine lv_goto (tgt := 24) hx hb dL_build_210 (by decide) ?_
                  have hl := lv_sub hl (l' := [(4, .int (zI ((i : Int) + 1))), (3, .int (zI (cn : Int))), (2, .ref s0), (0, .ref (q 0)), (1, .ref b)]) [0, 4, 5, 6, 7] rfl
                  have e_66 : ((((i + 1) : Nat) : Int) : Int) = (i : Int) + 1 := by omega
                  have hl : lv_has ls 9 [(4, .int (zI (((i + 1) : Nat) : Int))), (3, .int (zI (cn : Int))), (2, .ref s0), (0, .ref (q 0)), (1, .ref b)] := by rw [e_66]; exact hl
                  exact ih_i (i + 1) (by omega) (by omega) _ _ _ pa sp al _ _ (⟨_, _, _, _, hC⟩) (hL.toW hub) hS hl hI hal1 (by omega) (by omega)
        · have c_34 := c_34
          refine lv_iload hx hb dL_build_45 (lv_at hl 0 rfl) ?_
          refine zr_iconst hx hb dL_build_47 ?_
          refine zcallGS (As := [.int x_33, .int (zI 3)]) (rest := []) ⟨hx, hb, hml, hown, hts⟩ hK hQ (kL_below l D cI cZ c1 c2 H.size x_33 3 (by omega)) (va_cwS 2 hts gL_build_L_below rfl rfl rfl (by decide +kernel) ⟨by first | exact Nat.le_of_ble_eq_true rfl | (show _ ≤ _; omega), Nat.le_of_ble_eq_true rfl⟩) (trivial) hS (fun _ h => h.elim) rfl hl.1 rfl (Nat.le_of_ble_eq_true rfl) dL_build_48 ⟨show cc + 0 ≤ 330 from by omega, show ss + 0 ≤ 4300 from by omega⟩ (fun v9 H locs hp9 hz9 hk9 hS => ?_)
          obtain ⟨z_67, rfl, h0z_67, h1z_67⟩ := hp9
          have hk9 := fun (x : Nat) (h : x < _) => hk9 x h (fun h => h)
          have hC := zgrowP hC hk9
          have hL := zSL.keep hL (fun x _ h2 => hk9 x (Nat.lt_of_lt_of_le h2 hub))
          have hU : s9.heap.size ≤ H.size := hS.1
          have hub : ub_5 ≤ H.size := by omega
          refine W.eq (g2 := F0 m9 51 ls [.int (zI z_67)]) rfl ?_
          refine zr_if_ne (tgt := 58) hx hb dL_build_51 (by decide) ⟨by omega, by omega⟩ (fun c_68 => ?_) (fun c_68 => ?_)
          · have c_68 := c_68
            refine lv_iload hx hb dL_build_58 (lv_at hl 0 rfl) ?_
            refine zr_iconst hx hb dL_build_60 ?_
            refine zx_ishr hx hb dL_build_61 (fun x_69 => ?_)
            refine lv_iload hx hb dL_build_62 (lv_at hl 1 rfl) ?_
            refine zcallGS (As := [.int x_69, .int (zI (i : Int))]) (rest := []) ⟨hx, hb, hml, hown, hts⟩ hK hQ (kL_below l D cI cZ c1 c2 H.size x_69 (i : Int) (by omega)) (va_cwS 2 hts gL_build_L_below rfl rfl rfl (by decide +kernel) ⟨by first | exact Nat.le_of_ble_eq_true rfl | (show _ ≤ _; omega), Nat.le_of_ble_eq_true rfl⟩) (trivial) hS (fun _ h => h.elim) rfl hl.1 rfl (Nat.le_of_ble_eq_true rfl) dL_build_64 ⟨show cc + 0 ≤ 330 from by omega, show ss + 0 ≤ 4300 from by omega⟩ (fun v9 H locs hp9 hz9 hk9 hS => ?_)
            obtain ⟨z_70, rfl, h0z_70, h1z_70⟩ := hp9
            have hk9 := fun (x : Nat) (h : x < _) => hk9 x h (fun h => h)
            have hC := zgrowP hC hk9
            have hL := zSL.keep hL (fun x _ h2 => hk9 x (Nat.lt_of_lt_of_le h2 hub))
            have hU : s9.heap.size ≤ H.size := hS.1
            have hub : ub_5 ≤ H.size := by omega
            refine W.eq (g2 := F0 m9 67 ls [.int (zI z_70)]) rfl ?_
            refine lv_istore (lv' := [(6, .int (zI z_70)), (5, .int x_33), (4, .int (zI (i : Int))), (3, .int (zI (cn : Int))), (2, .ref s0), (0, .ref (q 0)), (1, .ref b)]) hx hb dL_build_67 hl (by decide) rfl (fun ls hl => ?_)
            refine lv_aload_n hx hb dL_build_69 rfl (lv_at hl 4 rfl) ?_
            refine lv_aload_n hx hb dL_build_70 rfl (lv_at hl 4 rfl) ?_
            refine va_get (D := D) (ci := 3) (v := .ref ap_5) (C := RX3) (T := TX3) (N := 5) hx hb hts hin3 hown hK hL.obj 0 rfl rfl 2 (by decide) (hts (.fieldLink RL 9 "MourningRibbonsLaw$Sim" "people" "[[I") (by decide +kernel)) (fun _ h9 => h9) rfl dL_build_71 ?_
            refine zr_iconst hx hb dL_build_74 ?_
            refine zs_newI (N' := 3) hx hb hQ (hts (.arrayClass .int) (by decide +kernel)) hS (z := 3) (by omega) (by omega) (show cc + 1 ≤ 330 from by omega) (show ss + 3 ≤ 4300 from by omega) dL_build_75 (fun H w1 hq_w1 hi_w1 hz9 hk9 hS => ?_)
            have hC := zgrowP hC hk9
            have hL := zSL.keep hL (fun x _ h2 => hk9 x (Nat.lt_of_lt_of_le h2 hub))
            have hge_w1 : s9.heap.size ≤ w1 := by omega
            have hU : s9.heap.size ≤ H.size := hS.1
            have hub : ub_5 ≤ H.size := by omega
            refine lv_dup hx hb dL_build_77 rfl ?_
            refine zr_iconst hx hb dL_build_78 ?_
            refine lv_iload hx hb dL_build_79 (lv_at hl 0 rfl) ?_
            refine zs_ist (i := 0) (x := z_70) hx hb hQ hi_w1 hS (Or.inr (by omega)) (by decide) (by decide) (by decide) dL_build_81 (fun H locs hv9 hz9 hk9 hS => ?_)
            have hC := zkeepW hC rfl hk9 (fun h => by have := hq0 _ h; omega)
            have hL := zSL.keep hL (fun x _ h2 => hk9 x (by omega))
            have hi_w1 := hv9
            have hU : s9.heap.size ≤ H.size := hS.1
            have hub : ub_5 ≤ H.size := by omega
            refine lv_dup hx hb dL_build_82 rfl ?_
            refine zr_iconst hx hb dL_build_83 ?_
            refine zr_iconst hx hb dL_build_84 ?_
            refine zs_ist (i := 1) (x := (-1)) hx hb hQ hi_w1 hS (Or.inr (by omega)) (by decide) (by decide) (by decide) dL_build_85 (fun H locs hv9 hz9 hk9 hS => ?_)
            have hC := zkeepW hC rfl hk9 (fun h => by have := hq0 _ h; omega)
            have hL := zSL.keep hL (fun x _ h2 => hk9 x (by omega))
            have hi_w1 := hv9
            have hU : s9.heap.size ≤ H.size := hS.1
            have hub : ub_5 ≤ H.size := by omega
            refine lv_dup hx hb dL_build_86 rfl ?_
            refine zr_iconst hx hb dL_build_87 ?_
            refine zr_iconst hx hb dL_build_88 ?_
            refine zs_ist (i := 2) (x := 1) hx hb hQ hi_w1 hS (Or.inr (by omega)) (by decide) (by decide) (by decide) dL_build_89 (fun H locs hv9 hz9 hk9 hS => ?_)
            have hC := zkeepW hC rfl hk9 (fun h => by have := hq0 _ h; omega)
            have hL := zSL.keep hL (fun x _ h2 => hk9 x (by omega))
            have hi_w1 := hv9
            have hU : s9.heap.size ≤ H.size := hS.1
            have hub : ub_5 ≤ H.size := by omega
            refine zcallGS (As := [.ref ap_5, .ref w1]) (rest := [.ref s0]) ⟨hx, hb, hml, hown, hts⟩ hK hQ (kX3_more l D cI cZ c1 c2 H.size ap_5 w1 i ra_5 (by omega)) (va_cwS 2 hts gL_build_X3_more rfl rfl rfl (by decide +kernel) ⟨by first | exact Nat.le_of_ble_eq_true rfl | (show _ ≤ _; omega), Nat.le_of_ble_eq_true rfl⟩) (⟨hL.ppl, fun i h0 h1 => ⟨3, _, hL.row i h0 h1⟩, 3, _, hi_w1⟩) hS (fun x h => Or.inr (Nat.le_trans hU h)) rfl hl.1 rfl (Nat.le_of_ble_eq_true rfl) dL_build_90 ⟨show cc + 1 + 1 ≤ 330 from by omega, show ss + 3 + (i + 1) ≤ 4300 from by omega⟩ (fun v9 H locs hp9 hz9 hk9 hS => ?_)
            obtain ⟨bm, rfl, hgm_bm, hr9⟩ := hp9
            have hk9 := fun (x : Nat) (h : x < _) => hk9 x h (Nat.not_le.mpr h)
            have hC := zgrowP hC hk9
            have hL := zSL.keep hL (fun x _ h2 => hk9 x (Nat.lt_of_lt_of_le h2 hub))
            have hi_w1 := vA.grow hi_w1 hk9
            have hU : s9.heap.size ≤ H.size := hS.1
            have hub : ub_5 ≤ H.size := by omega
            refine W.eq (g2 := F0 m9 93 ls [.ref bm, .ref s0]) rfl ?_
            refine zs_put (v := .ref bm) (ty := (.array (.array .int))) hx hb hts hin3 hown hK hL.obj hS (Or.inr (by omega)) 2 (by decide) (hts (.fieldLink RL 9 "MourningRibbonsLaw$Sim" "people" "[[I") (by decide +kernel)) rfl rfl (by decide +kernel) rfl rfl (Nat.le_of_ble_eq_true rfl) dL_build_93 (fun H locs hO9 hz9 hk9 hS => ?_)
            obtain ⟨kd_71, ra_71, hL⟩ := zSL_addP (f := z_70) hL hub hz9 hO9 hk9 (by omega) hi_w1 (zrowNew _ _ _ _ _) (by omega) hr9 (by have := hi_w1.lt; omega)
            have hC := zkeepW hC rfl hk9 (fun h => absurd (hq0 _ h) (Nat.not_lt.mpr haub.1))
            obtain ⟨ub_72, hub, hL⟩ : ∃ ub_72 : Nat, ub_72 ≤ H.size ∧ zSL D cI c1 c2 s0 ub_72 H s0 kd_71 bm ac_5 am_5 ra_71 rc_5 rr_5 rm_5 (i + 1) (up pa ((i : Nat) : Int) z_70) (up sp ((i : Nat) : Int) (-1)) (up al ((i : Nat) : Int) 1) (cst 0) (cst 0) 0 (fun _ => cst 0) 0 0 := ⟨H.size, Nat.le_refl _, hL⟩
            have hU : s9.heap.size ≤ H.size := hS.1
            have hub : ub_72 ≤ H.size := by omega
            refine lv_iload hx hb dL_build_96 (lv_at hl 0 rfl) ?_
            refine zr_if_ge (tgt := 108) hx hb dL_build_98 (by decide) ⟨by omega, by omega⟩ (fun c_73 => ?_) (fun c_73 => by exfalso; omega)
            refine lv_aload_n hx hb dL_build_108 rfl (lv_at hl 5 rfl) ?_
            have hq3 := hal1 z_70 (by omega) (by omega)
            refine lv_iload hx hb dL_build_109 (lv_at hl 0 rfl) ?_
            refine zcallV (ci := 2) (q0 := 0) (cq := (RX2, TX2, 9)) (As := [.int (zI z_70)]) (rest := []) ⟨hx, hb, hml, hown, hts⟩ hK (kX2_addChildok l D cI cZ q hN pa sp al dg (cst 0) (cst 0) (cst 0) (cst 0) ah wl lo i 0 0 hI.n16 hal z_70 (by omega) (by omega) (by omega)) (cwV 1 hts gL_build_X2_addChild rfl rfl rfl (by decide +kernel) ⟨Nat.le_of_ble_eq_true rfl, Nat.le_of_ble_eq_true rfl⟩) hC hS (fun x h => Or.inl h) rfl rfl rfl hl.1 rfl (Nat.le_of_ble_eq_true rfl) dL_build_111 ⟨show cc + 1 + 1 ≤ 330 from by omega, show ss + 3 + (i + 1) ≤ 4300 from by omega⟩ (fun H locs hC hS hz9 hk9 => ?_)
            have hkq := fun (x : Nat) (h1 : x < _) (h2 : s0 ≤ x) => hk9 x h1 (fun h => absurd (hq0 x h) (Nat.not_lt.mpr h2))
            have hL := zSL.keep hL (fun x h1 h2 => hkq x (Nat.lt_of_lt_of_le h2 hub) h1)
            have hU : s9.heap.size ≤ H.size := hS.1
            have hub : ub_72 ≤ H.size := by omega
            refine W.eq (g2 := F0 m9 114 ls [.int (zI (i : Int))]) rfl ?_
            refine lv_iload hx hb dL_build_114 (lv_at hl 2 rfl) ?_
            refine zr_icmp_eqT (tgt := 121) hx hb rfl dL_build_116 (by decide) ?_
            obtain ⟨pa, sp, al, hI, hal1, hspi, hC, hL⟩ : ∃ pa2 sp2 al2 : Int → Int, zInv (i + 1) pa2 sp2 al2 (cst 0) (cst 0) (cst 0) (cst 0) 0 0 (fun _ => cst 0) ∧ (∀ j : Int, 0 ≤ j → j < ((i + 1 : Nat) : Int) → al2 j = 1) ∧ sp2 (i : Int) = -1 ∧ va_P D vwCl (wC cI cZ q pa2 sp2 al2 dg (cst 0) (cst 0) (cst 0) (cst 0) ah wl lo ((i + 1 : Nat) : Int) 0 0) H ∧ zSL D cI c1 c2 s0 ub_72 H s0 kd_71 bm ac_5 am_5 ra_71 rc_5 rr_5 rm_5 (i + 1) pa2 sp2 al2 (cst 0) (cst 0) 0 (fun _ => cst 0) 0 0 := ⟨_, _, _, hI.add (by omega) (f := z_70) ⟨by omega, by omega⟩, fun j h0 h1 => (by unfold up; split; rfl; exact hal1 j h0 (by omega)), if_pos rfl, hC, hL⟩
            have hpa := hI.1.1
            have hsp := hI.1.2.1
            have hal := hI.1.2.2.1
            have hco := hI.1.2.2.2.1
            have hda := hI.1.2.2.2.2.1
            have hn9 := hI.n16
            have hsn : ∀ j : Int, 0 ≤ j → j < ((i + 1 : Nat) : Int) → sp j < ((i + 1 : Nat) : Int) := fun j h0 h1 => by have := hI.2.1.2.1 j h0 h1; omega
            refine lv_iload hx hb dL_build_121 (lv_at hl 2 rfl) ?_
            refine zr_if_ne (tgt := 130) hx hb dL_build_123 (by decide) ⟨by omega, by omega⟩ (fun c_74 => ?_) (fun c_74 => ?_)
            · have c_74 := c_74
              refine lv_iload hx hb dL_build_130 (lv_at hl 1 rfl) ?_
              refine zr_iconst hx hb dL_build_132 ?_
              refine zx_ishr hx hb dL_build_133 (fun x_75 => ?_)
              refine lv_iload hx hb dL_build_134 (lv_at hl 2 rfl) ?_
              refine zcallGS (As := [.int x_75, .int (zI (i : Int))]) (rest := []) ⟨hx, hb, hml, hown, hts⟩ hK hQ (kL_below l D cI cZ c1 c2 H.size x_75 (i : Int) (by omega)) (va_cwS 2 hts gL_build_L_below rfl rfl rfl (by decide +kernel) ⟨by first | exact Nat.le_of_ble_eq_true rfl | (show _ ≤ _; omega), Nat.le_of_ble_eq_true rfl⟩) (trivial) hS (fun _ h => h.elim) rfl hl.1 rfl (Nat.le_of_ble_eq_true rfl) dL_build_136 ⟨show cc + 1 + 1 + 0 ≤ 330 from by omega, show ss + 3 + (i + 1) + 0 ≤ 4300 from by omega⟩ (fun v9 H locs hp9 hz9 hk9 hS => ?_)
              obtain ⟨z_76, rfl, h0z_76, h1z_76⟩ := hp9
              have hk9 := fun (x : Nat) (h : x < _) => hk9 x h (fun h => h)
              have hC := zgrowP hC hk9
              have hL := zSL.keep hL (fun x _ h2 => hk9 x (Nat.lt_of_lt_of_le h2 hub))
              have hU : s9.heap.size ≤ H.size := hS.1
              have hub : ub_72 ≤ H.size := by omega
              refine W.eq (g2 := F0 m9 139 ls [.int (zI z_76)]) rfl ?_
              obtain ⟨y7, hnm_y7⟩ : ∃ y7 : Int, y7 = z_76 := ⟨_, rfl⟩; rw [← hnm_y7]
              refine lv_istore (lv' := [(7, .int (zI y7)), (6, .int (zI z_70)), (5, .int x_33), (4, .int (zI (i : Int))), (3, .int (zI (cn : Int))), (2, .ref s0), (0, .ref (q 0)), (1, .ref b)]) hx hb dL_build_139 hl (by decide) rfl (fun ls hl => ?_)
              refine lv_iload hx hb dL_build_141 (lv_at hl 2 rfl) ?_
              refine zr_iconst hx hb dL_build_143 ?_
              refine zx_ishr hx hb dL_build_144 (fun x_77 => ?_)
              refine zr_iconst hx hb dL_build_145 ?_
              refine zcallGS (As := [.int x_77, .int (zI 3)]) (rest := []) ⟨hx, hb, hml, hown, hts⟩ hK hQ (kL_below l D cI cZ c1 c2 H.size x_77 3 (by omega)) (va_cwS 2 hts gL_build_L_below rfl rfl rfl (by decide +kernel) ⟨by first | exact Nat.le_of_ble_eq_true rfl | (show _ ≤ _; omega), Nat.le_of_ble_eq_true rfl⟩) (trivial) hS (fun _ h => h.elim) rfl hl.1 rfl (Nat.le_of_ble_eq_true rfl) dL_build_146 ⟨show cc + 1 + 1 + 0 ≤ 330 from by omega, show ss + 3 + (i + 1) + 0 ≤ 4300 from by omega⟩ (fun v9 H locs hp9 hz9 hk9 hS => ?_)
              obtain ⟨z_78, rfl, h0z_78, h1z_78⟩ := hp9
              have hk9 := fun (x : Nat) (h : x < _) => hk9 x h (fun h => h)
              have hC := zgrowP hC hk9
              have hL := zSL.keep hL (fun x _ h2 => hk9 x (Nat.lt_of_lt_of_le h2 hub))
              have hU : s9.heap.size ≤ H.size := hS.1
              have hub : ub_72 ≤ H.size := by omega
              refine W.eq (g2 := F0 m9 149 ls [.int (zI z_78)]) rfl ?_
              refine zr_if_gt (tgt := 207) hx hb dL_build_149 (by decide) ⟨by omega, by omega⟩ (fun c_79 => ?_) (fun c_79 => ?_)
              · have c_79 := c_79
                refine zr_iinc (v := (i : Int) + 1) (lv' := [(4, .int (zI ((i : Int) + 1))), (7, .int (zI y7)), (6, .int (zI z_70)), (5, .int x_33), (3, .int (zI (cn : Int))), (2, .ref s0), (0, .ref (q 0)), (1, .ref b)]) hx hb dL_build_207 hl (k := 3) rfl rfl (by decide) rfl (fun ls hl => ?_)
                refine lv_goto (tgt := 24) hx hb dL_build_210 (by decide) ?_
                have hl := lv_sub hl (l' := [(4, .int (zI ((i : Int) + 1))), (3, .int (zI (cn : Int))), (2, .ref s0), (0, .ref (q 0)), (1, .ref b)]) [0, 4, 5, 6, 7] rfl
                have e_80 : ((((i + 1) : Nat) : Int) : Int) = (i : Int) + 1 := by omega
                have hl : lv_has ls 9 [(4, .int (zI (((i + 1) : Nat) : Int))), (3, .int (zI (cn : Int))), (2, .ref s0), (0, .ref (q 0)), (1, .ref b)] := by rw [e_80]; exact hl
                exact ih_i (i + 1) (by omega) (by omega) _ _ _ pa sp al _ _ (⟨_, _, _, _, hC⟩) (hL.toW hub) hS hl hI hal1 (by omega) (by omega)
              · have c_79 := c_79
                refine lv_iload hx hb dL_build_152 (lv_at hl 3 rfl) ?_
                refine zr_if_eq (tgt := 207) hx hb dL_build_154 (by decide) ⟨by omega, by omega⟩ (fun c_81 => ?_) (fun c_81 => ?_)
                · have c_81 := c_81
                  refine zr_iinc (v := (i : Int) + 1) (lv' := [(4, .int (zI ((i : Int) + 1))), (7, .int (zI y7)), (6, .int (zI z_70)), (5, .int x_33), (3, .int (zI (cn : Int))), (2, .ref s0), (0, .ref (q 0)), (1, .ref b)]) hx hb dL_build_207 hl (k := 3) rfl rfl (by decide) rfl (fun ls hl => ?_)
                  refine lv_goto (tgt := 24) hx hb dL_build_210 (by decide) ?_
                  have hl := lv_sub hl (l' := [(4, .int (zI ((i : Int) + 1))), (3, .int (zI (cn : Int))), (2, .ref s0), (0, .ref (q 0)), (1, .ref b)]) [0, 4, 5, 6, 7] rfl
                  have e_82 : ((((i + 1) : Nat) : Int) : Int) = (i : Int) + 1 := by omega
                  have hl : lv_has ls 9 [(4, .int (zI (((i + 1) : Nat) : Int))), (3, .int (zI (cn : Int))), (2, .ref s0), (0, .ref (q 0)), (1, .ref b)] := by rw [e_82]; exact hl
                  exact ih_i (i + 1) (by omega) (by omega) _ _ _ pa sp al _ _ (⟨_, _, _, _, hC⟩) (hL.toW hub) hS hl hI hal1 (by omega) (by omega)
                · have c_81 := c_81
                  refine lv_aload_n hx hb dL_build_157 rfl (lv_at hl 5 rfl) ?_
                  refine va_get (D := D) (ci := 3) (v := .ref bm) (C := RX3) (T := TX3) (N := 5) hx hb hts hin3 hown hK hL.obj 0 rfl rfl 2 (by decide) (hts (.fieldLink RL 9 "MourningRibbonsLaw$Sim" "people" "[[I") (by decide +kernel)) (fun _ h9 => h9) rfl dL_build_158 ?_
                  refine lv_iload hx hb dL_build_161 (lv_at hl 0 rfl) ?_
                  refine zs_ald1 (v := .ref (ra_71 y7)) (i := y7) hx hb hQ hL.ppl (by omega) (by omega) (by have := hL.n16; omega) rfl dL_build_163 ?_
                  refine zr_iconst hx hb dL_build_164 ?_
                  refine zs_ild (v := sp y7) (i := 1) hx hb hQ (hL.row y7 (by omega) (by omega)) (by decide) (by decide) (by decide) rfl dL_build_165 ?_
                  have b_83 := hsp y7
                  refine zr_if_lt (tgt := 172) hx hb dL_build_166 (by decide) ⟨by omega, by omega⟩ (fun c_84 => ?_) (fun c_84 => ?_)
                  · have c_84 := c_84
                    have hq1 := hal1 (i : Int) (by omega) (by omega)
                    have hq2 := hal1 y7 (by omega) (by omega)
                    refine lv_aload_n hx hb dL_build_172 rfl (lv_at hl 5 rfl) ?_
                    refine zcallGV (ci := 3) (cq := (RX3, TX3, 5)) (As := []) (rest := []) ⟨hx, hb, hml, hown, hts⟩ hK hQ (kX3_degrees l D cI cZ c1 c2 H.size s0 s0 (i + 1) pa sp al (cst 0) (cst 0) 0 (fun _ => cst 0) 0 0 hpa hsp) (cwV 0 hts gL_build_X3_degrees rfl rfl rfl (by decide +kernel) ⟨by first | exact Nat.le_of_ble_eq_true rfl | (show _ ≤ _; omega), Nat.le_of_ble_eq_true rfl⟩) (hL.toW hub) hL.obj hS (fun x h => Or.inr (Nat.le_trans hU h)) rfl rfl hl.1 rfl (Nat.le_of_ble_eq_true rfl) dL_build_173 ⟨show cc + 1 + 1 + 17 ≤ 330 from by omega, show ss + 3 + (i + 1) + 272 ≤ 4300 from by omega⟩ (fun v9 H locs hp9 hz9 hk9 hS => ?_)
                    obtain ⟨mx, rfl, hge_mx, hM⟩ := hp9
                    have hk9 := fun (x : Nat) (h : x < _) => hk9 x h (Nat.not_le.mpr h)
                    have hge_mx := Nat.le_trans hU hge_mx
                    have hC := zgrowP hC hk9
                    have hL := zSL.keep hL (fun x _ h2 => hk9 x (Nat.lt_of_lt_of_le h2 hub))
                    have hU : s9.heap.size ≤ H.size := hS.1
                    have hub : ub_72 ≤ H.size := by omega
                    refine W.eq (g2 := F0 m9 176 ls [.ref mx]) rfl ?_
                    refine lv_iload hx hb dL_build_176 (lv_at hl 3 rfl) ?_
                    refine zs_ald1 (v := .ref (rd mx (i : Int))) (i := (i : Int)) hx hb hQ hM.1 (by omega) (by omega) (by have := hL.n16; omega) rfl dL_build_178 ?_
                    refine lv_iload hx hb dL_build_179 (lv_at hl 0 rfl) ?_
                    refine zs_ild (v := dgF pa sp (i + 1) (i : Int) y7) (i := y7) hx hb hQ (hM.2 (i : Int) (by omega) (by omega)) (by omega) (by omega) (by have := hL.n16; omega) rfl dL_build_181 ?_
                    have b_85 := dgF_bd pa sp (i + 1) (i : Int) y7
                    refine lv_istore (lv' := [(8, .int (zI (dgF pa sp (i + 1) (i : Int) y7))), (7, .int (zI y7)), (6, .int (zI z_70)), (5, .int x_33), (4, .int (zI (i : Int))), (3, .int (zI (cn : Int))), (2, .ref s0), (0, .ref (q 0)), (1, .ref b)]) hx hb dL_build_182 hl (by decide) rfl (fun ls hl => ?_)
                    refine lv_aload_n hx hb dL_build_184 rfl (lv_at hl 6 rfl) ?_
                    refine lv_iload hx hb dL_build_185 (lv_at hl 4 rfl) ?_
                    refine lv_iload hx hb dL_build_187 (lv_at hl 1 rfl) ?_
                    refine zcallGV (ci := 3) (cq := (RX3, TX3, 5)) (As := [.int (zI (i : Int)), .int (zI y7)]) (rest := []) ⟨hx, hb, hml, hown, hts⟩ hK hQ (kX3_marry l D cI cZ c1 c2 H.size s0 s0 (i + 1) pa sp al (cst 0) (cst 0) 0 (fun _ => cst 0) 0 0 (i : Int) y7 hsp (by omega) (by omega) (by omega) hsn) (cwV 2 hts gL_build_X3_marry rfl rfl rfl (by decide +kernel) ⟨by first | exact Nat.le_of_ble_eq_true rfl | (show _ ≤ _; omega), Nat.le_of_ble_eq_true rfl⟩) (hL.toW hub) hL.obj hS (fun x h => Or.inr (by rw [← hs0e]; exact h)) rfl rfl hl.1 rfl (Nat.le_of_ble_eq_true rfl) dL_build_189 ⟨show cc + 1 + 1 + 17 + 0 ≤ 330 from by omega, show ss + 3 + (i + 1) + 272 + 0 ≤ 4300 from by omega⟩ (fun v9 H locs hp9 hz9 hk9 hS => ?_)
                    obtain ⟨rfl, kd_86, ap_86, ac_86, am_86, ra_86, rc_86, rr_86, rm_86, hL⟩ := hp9
                    have hC := zkeepL hC rfl hq0 hk9
                    obtain ⟨ub_87, hub, hL⟩ : ∃ ub_87 : Nat, ub_87 ≤ H.size ∧ zSL D cI c1 c2 s0 ub_87 H s0 kd_86 ap_86 ac_86 am_86 ra_86 rc_86 rr_86 rm_86 (i + 1) pa (up (up (lvS (lvS sp (i : Int)) y7) (i : Int) y7) y7 (i : Int)) al (cst 0) (cst 0) 0 (fun _ => cst 0) 0 0 := ⟨H.size, Nat.le_refl _, hL⟩
                    have hU : s9.heap.size ≤ H.size := hS.1
                    have hub : ub_87 ≤ H.size := by omega
                    refine W.eq (g2 := F0 m9 192 ls []) rfl ?_
                    refine lv_aload_n hx hb dL_build_192 rfl (lv_at hl 7 rfl) ?_
                    refine lv_iload hx hb dL_build_193 (lv_at hl 4 rfl) ?_
                    refine lv_iload hx hb dL_build_195 (lv_at hl 1 rfl) ?_
                    refine zcallV (ci := 2) (q0 := 0) (cq := (RX2, TX2, 9)) (As := [.int (zI (i : Int)), .int (zI y7)]) (rest := []) ⟨hx, hb, hml, hown, hts⟩ hK (kX2_marryok l D cI cZ q hN pa sp al dg (cst 0) (cst 0) (cst 0) (cst 0) ah wl lo (i + 1) 0 0 hI.n16 hpa hsp hal (i : Int) y7 (by omega) (by omega) (by omega) (by omega) (by omega) (by omega) (by omega)) (cwV 2 hts gL_build_X2_marry rfl rfl rfl (by decide +kernel) ⟨Nat.le_of_ble_eq_true rfl, Nat.le_of_ble_eq_true rfl⟩) hC hS (fun x h => Or.inl h) rfl rfl rfl hl.1 rfl (Nat.le_of_ble_eq_true rfl) dL_build_197 ⟨show cc + 1 + 1 + 17 ≤ 330 from by omega, show ss + 3 + (i + 1) + 272 ≤ 4300 from by omega⟩ (fun H locs hC hS hz9 hk9 => ?_)
                    have hkq := fun (x : Nat) (h1 : x < _) (h2 : s0 ≤ x) => hk9 x h1 (fun h => absurd (hq0 x h) (Nat.not_lt.mpr h2))
                    have hL := zSL.keep hL (fun x h1 h2 => hkq x (Nat.lt_of_lt_of_le h2 hub) h1)
                    have hU : s9.heap.size ≤ H.size := hS.1
                    have hub : ub_87 ≤ H.size := by omega
                    refine W.eq (g2 := F0 m9 200 ls [.int (zI (dgF pa sp (i + 1) (i : Int) y7))]) rfl ?_
                    refine lv_iload hx hb dL_build_200 (lv_at hl 0 rfl) ?_
                    refine zr_icmp_eqT (tgt := 207) hx hb rfl dL_build_202 (by decide) ?_
                    refine zr_iinc (v := (i : Int) + 1) (lv' := [(4, .int (zI ((i : Int) + 1))), (8, .int (zI (dgF pa sp (i + 1) (i : Int) y7))), (7, .int (zI y7)), (6, .int (zI z_70)), (5, .int x_33), (3, .int (zI (cn : Int))), (2, .ref s0), (0, .ref (q 0)), (1, .ref b)]) hx hb dL_build_207 hl (k := 4) rfl rfl (by decide) rfl (fun ls hl => ?_)
                    refine lv_goto (tgt := 24) hx hb dL_build_210 (by decide) ?_
                    have hl := lv_sub hl (l' := [(4, .int (zI ((i : Int) + 1))), (3, .int (zI (cn : Int))), (2, .ref s0), (0, .ref (q 0)), (1, .ref b)]) [0, 5, 6, 7, 8] rfl
                    have e_88 : ((((i + 1) : Nat) : Int) : Int) = (i : Int) + 1 := by omega
                    have hl : lv_has ls 9 [(4, .int (zI (((i + 1) : Nat) : Int))), (3, .int (zI (cn : Int))), (2, .ref s0), (0, .ref (q 0)), (1, .ref b)] := by rw [e_88]; exact hl
                    exact ih_i (i + 1) (by omega) (by omega) _ _ _ pa (up (up (lvS (lvS sp (i : Int)) y7) (i : Int) y7) y7 (i : Int)) al _ _ (⟨_, _, _, _, hC⟩) (hL.toW hub) hS hl (hI.wed (a := (i : Int)) (b := y7) (by omega) (by omega) (by omega) (by omega) (by omega)) hal1 (by omega) (by omega)
                  · have c_84 := c_84
                    refine lv_goto (tgt := 207) hx hb dL_build_169 (by decide) ?_
                    refine zr_iinc (v := (i : Int) + 1) (lv' := [(4, .int (zI ((i : Int) + 1))), (7, .int (zI y7)), (6, .int (zI z_70)), (5, .int x_33), (3, .int (zI (cn : Int))), (2, .ref s0), (0, .ref (q 0)), (1, .ref b)]) hx hb dL_build_207 hl (k := 3) rfl rfl (by decide) rfl (fun ls hl => ?_)
                    refine lv_goto (tgt := 24) hx hb dL_build_210 (by decide) ?_
                    have hl := lv_sub hl (l' := [(4, .int (zI ((i : Int) + 1))), (3, .int (zI (cn : Int))), (2, .ref s0), (0, .ref (q 0)), (1, .ref b)]) [0, 4, 5, 6, 7] rfl
                    have e_89 : ((((i + 1) : Nat) : Int) : Int) = (i : Int) + 1 := by omega
                    have hl : lv_has ls 9 [(4, .int (zI (((i + 1) : Nat) : Int))), (3, .int (zI (cn : Int))), (2, .ref s0), (0, .ref (q 0)), (1, .ref b)] := by rw [e_89]; exact hl
                    exact ih_i (i + 1) (by omega) (by omega) _ _ _ pa sp al _ _ (⟨_, _, _, _, hC⟩) (hL.toW hub) hS hl hI hal1 (by omega) (by omega)
            · have c_74 := c_74
              refine zr_iconst hx hb dL_build_126 ?_
              refine lv_goto (tgt := 139) hx hb dL_build_127 (by decide) ?_
              obtain ⟨y7, hnm_y7⟩ : ∃ y7 : Int, y7 = 0 := ⟨_, rfl⟩; rw [← hnm_y7]
              refine lv_istore (lv' := [(7, .int (zI y7)), (6, .int (zI z_70)), (5, .int x_33), (4, .int (zI (i : Int))), (3, .int (zI (cn : Int))), (2, .ref s0), (0, .ref (q 0)), (1, .ref b)]) hx hb dL_build_139 hl (by decide) rfl (fun ls hl => ?_)
              refine lv_iload hx hb dL_build_141 (lv_at hl 2 rfl) ?_
              refine zr_iconst hx hb dL_build_143 ?_
              refine zx_ishr hx hb dL_build_144 (fun x_90 => ?_)
              refine zr_iconst hx hb dL_build_145 ?_
              refine zcallGS (As := [.int x_90, .int (zI 3)]) (rest := []) ⟨hx, hb, hml, hown, hts⟩ hK hQ (kL_below l D cI cZ c1 c2 H.size x_90 3 (by omega)) (va_cwS 2 hts gL_build_L_below rfl rfl rfl (by decide +kernel) ⟨by first | exact Nat.le_of_ble_eq_true rfl | (show _ ≤ _; omega), Nat.le_of_ble_eq_true rfl⟩) (trivial) hS (fun _ h => h.elim) rfl hl.1 rfl (Nat.le_of_ble_eq_true rfl) dL_build_146 ⟨show cc + 1 + 1 + 0 ≤ 330 from by omega, show ss + 3 + (i + 1) + 0 ≤ 4300 from by omega⟩ (fun v9 H locs hp9 hz9 hk9 hS => ?_)
              obtain ⟨z_91, rfl, h0z_91, h1z_91⟩ := hp9
              have hk9 := fun (x : Nat) (h : x < _) => hk9 x h (fun h => h)
              have hC := zgrowP hC hk9
              have hL := zSL.keep hL (fun x _ h2 => hk9 x (Nat.lt_of_lt_of_le h2 hub))
              have hU : s9.heap.size ≤ H.size := hS.1
              have hub : ub_72 ≤ H.size := by omega
              refine W.eq (g2 := F0 m9 149 ls [.int (zI z_91)]) rfl ?_
              refine zr_if_gt (tgt := 207) hx hb dL_build_149 (by decide) ⟨by omega, by omega⟩ (fun c_92 => ?_) (fun c_92 => ?_)
              · have c_92 := c_92
                refine zr_iinc (v := (i : Int) + 1) (lv' := [(4, .int (zI ((i : Int) + 1))), (7, .int (zI y7)), (6, .int (zI z_70)), (5, .int x_33), (3, .int (zI (cn : Int))), (2, .ref s0), (0, .ref (q 0)), (1, .ref b)]) hx hb dL_build_207 hl (k := 3) rfl rfl (by decide) rfl (fun ls hl => ?_)
                refine lv_goto (tgt := 24) hx hb dL_build_210 (by decide) ?_
                have hl := lv_sub hl (l' := [(4, .int (zI ((i : Int) + 1))), (3, .int (zI (cn : Int))), (2, .ref s0), (0, .ref (q 0)), (1, .ref b)]) [0, 4, 5, 6, 7] rfl
                have e_93 : ((((i + 1) : Nat) : Int) : Int) = (i : Int) + 1 := by omega
                have hl : lv_has ls 9 [(4, .int (zI (((i + 1) : Nat) : Int))), (3, .int (zI (cn : Int))), (2, .ref s0), (0, .ref (q 0)), (1, .ref b)] := by rw [e_93]; exact hl
                exact ih_i (i + 1) (by omega) (by omega) _ _ _ pa sp al _ _ (⟨_, _, _, _, hC⟩) (hL.toW hub) hS hl hI hal1 (by omega) (by omega)
              · have c_92 := c_92
                refine lv_iload hx hb dL_build_152 (lv_at hl 3 rfl) ?_
                refine zr_if_eq (tgt := 207) hx hb dL_build_154 (by decide) ⟨by omega, by omega⟩ (fun c_94 => ?_) (fun c_94 => ?_)
                · have c_94 := c_94
                  refine zr_iinc (v := (i : Int) + 1) (lv' := [(4, .int (zI ((i : Int) + 1))), (7, .int (zI y7)), (6, .int (zI z_70)), (5, .int x_33), (3, .int (zI (cn : Int))), (2, .ref s0), (0, .ref (q 0)), (1, .ref b)]) hx hb dL_build_207 hl (k := 3) rfl rfl (by decide) rfl (fun ls hl => ?_)
                  refine lv_goto (tgt := 24) hx hb dL_build_210 (by decide) ?_
                  have hl := lv_sub hl (l' := [(4, .int (zI ((i : Int) + 1))), (3, .int (zI (cn : Int))), (2, .ref s0), (0, .ref (q 0)), (1, .ref b)]) [0, 4, 5, 6, 7] rfl
                  have e_95 : ((((i + 1) : Nat) : Int) : Int) = (i : Int) + 1 := by omega
                  have hl : lv_has ls 9 [(4, .int (zI (((i + 1) : Nat) : Int))), (3, .int (zI (cn : Int))), (2, .ref s0), (0, .ref (q 0)), (1, .ref b)] := by rw [e_95]; exact hl
                  exact ih_i (i + 1) (by omega) (by omega) _ _ _ pa sp al _ _ (⟨_, _, _, _, hC⟩) (hL.toW hub) hS hl hI hal1 (by omega) (by omega)
                · have c_94 := c_94
                  refine lv_aload_n hx hb dL_build_157 rfl (lv_at hl 5 rfl) ?_
                  refine va_get (D := D) (ci := 3) (v := .ref bm) (C := RX3) (T := TX3) (N := 5) hx hb hts hin3 hown hK hL.obj 0 rfl rfl 2 (by decide) (hts (.fieldLink RL 9 "MourningRibbonsLaw$Sim" "people" "[[I") (by decide +kernel)) (fun _ h9 => h9) rfl dL_build_158 ?_
                  refine lv_iload hx hb dL_build_161 (lv_at hl 0 rfl) ?_
                  refine zs_ald1 (v := .ref (ra_71 y7)) (i := y7) hx hb hQ hL.ppl (by omega) (by omega) (by have := hL.n16; omega) rfl dL_build_163 ?_
                  refine zr_iconst hx hb dL_build_164 ?_
                  refine zs_ild (v := sp y7) (i := 1) hx hb hQ (hL.row y7 (by omega) (by omega)) (by decide) (by decide) (by decide) rfl dL_build_165 ?_
                  have b_96 := hsp y7
                  refine zr_if_lt (tgt := 172) hx hb dL_build_166 (by decide) ⟨by omega, by omega⟩ (fun c_97 => ?_) (fun c_97 => ?_)
                  · have c_97 := c_97
                    have hq1 := hal1 (i : Int) (by omega) (by omega)
                    have hq2 := hal1 y7 (by omega) (by omega)
                    refine lv_aload_n hx hb dL_build_172 rfl (lv_at hl 5 rfl) ?_
                    refine zcallGV (ci := 3) (cq := (RX3, TX3, 5)) (As := []) (rest := []) ⟨hx, hb, hml, hown, hts⟩ hK hQ (kX3_degrees l D cI cZ c1 c2 H.size s0 s0 (i + 1) pa sp al (cst 0) (cst 0) 0 (fun _ => cst 0) 0 0 hpa hsp) (cwV 0 hts gL_build_X3_degrees rfl rfl rfl (by decide +kernel) ⟨by first | exact Nat.le_of_ble_eq_true rfl | (show _ ≤ _; omega), Nat.le_of_ble_eq_true rfl⟩) (hL.toW hub) hL.obj hS (fun x h => Or.inr (Nat.le_trans hU h)) rfl rfl hl.1 rfl (Nat.le_of_ble_eq_true rfl) dL_build_173 ⟨show cc + 1 + 1 + 17 ≤ 330 from by omega, show ss + 3 + (i + 1) + 272 ≤ 4300 from by omega⟩ (fun v9 H locs hp9 hz9 hk9 hS => ?_)
                    obtain ⟨mx, rfl, hge_mx, hM⟩ := hp9
                    have hk9 := fun (x : Nat) (h : x < _) => hk9 x h (Nat.not_le.mpr h)
                    have hge_mx := Nat.le_trans hU hge_mx
                    have hC := zgrowP hC hk9
                    have hL := zSL.keep hL (fun x _ h2 => hk9 x (Nat.lt_of_lt_of_le h2 hub))
                    have hU : s9.heap.size ≤ H.size := hS.1
                    have hub : ub_72 ≤ H.size := by omega
                    refine W.eq (g2 := F0 m9 176 ls [.ref mx]) rfl ?_
                    refine lv_iload hx hb dL_build_176 (lv_at hl 3 rfl) ?_
                    refine zs_ald1 (v := .ref (rd mx (i : Int))) (i := (i : Int)) hx hb hQ hM.1 (by omega) (by omega) (by have := hL.n16; omega) rfl dL_build_178 ?_
                    refine lv_iload hx hb dL_build_179 (lv_at hl 0 rfl) ?_
                    refine zs_ild (v := dgF pa sp (i + 1) (i : Int) y7) (i := y7) hx hb hQ (hM.2 (i : Int) (by omega) (by omega)) (by omega) (by omega) (by have := hL.n16; omega) rfl dL_build_181 ?_
                    have b_98 := dgF_bd pa sp (i + 1) (i : Int) y7
                    refine lv_istore (lv' := [(8, .int (zI (dgF pa sp (i + 1) (i : Int) y7))), (7, .int (zI y7)), (6, .int (zI z_70)), (5, .int x_33), (4, .int (zI (i : Int))), (3, .int (zI (cn : Int))), (2, .ref s0), (0, .ref (q 0)), (1, .ref b)]) hx hb dL_build_182 hl (by decide) rfl (fun ls hl => ?_)
                    refine lv_aload_n hx hb dL_build_184 rfl (lv_at hl 6 rfl) ?_
                    refine lv_iload hx hb dL_build_185 (lv_at hl 4 rfl) ?_
                    refine lv_iload hx hb dL_build_187 (lv_at hl 1 rfl) ?_
                    refine zcallGV (ci := 3) (cq := (RX3, TX3, 5)) (As := [.int (zI (i : Int)), .int (zI y7)]) (rest := []) ⟨hx, hb, hml, hown, hts⟩ hK hQ (kX3_marry l D cI cZ c1 c2 H.size s0 s0 (i + 1) pa sp al (cst 0) (cst 0) 0 (fun _ => cst 0) 0 0 (i : Int) y7 hsp (by omega) (by omega) (by omega) hsn) (cwV 2 hts gL_build_X3_marry rfl rfl rfl (by decide +kernel) ⟨by first | exact Nat.le_of_ble_eq_true rfl | (show _ ≤ _; omega), Nat.le_of_ble_eq_true rfl⟩) (hL.toW hub) hL.obj hS (fun x h => Or.inr (by rw [← hs0e]; exact h)) rfl rfl hl.1 rfl (Nat.le_of_ble_eq_true rfl) dL_build_189 ⟨show cc + 1 + 1 + 17 + 0 ≤ 330 from by omega, show ss + 3 + (i + 1) + 272 + 0 ≤ 4300 from by omega⟩ (fun v9 H locs hp9 hz9 hk9 hS => ?_)
                    obtain ⟨rfl, kd_99, ap_99, ac_99, am_99, ra_99, rc_99, rr_99, rm_99, hL⟩ := hp9
                    have hC := zkeepL hC rfl hq0 hk9
                    obtain ⟨ub_100, hub, hL⟩ : ∃ ub_100 : Nat, ub_100 ≤ H.size ∧ zSL D cI c1 c2 s0 ub_100 H s0 kd_99 ap_99 ac_99 am_99 ra_99 rc_99 rr_99 rm_99 (i + 1) pa (up (up (lvS (lvS sp (i : Int)) y7) (i : Int) y7) y7 (i : Int)) al (cst 0) (cst 0) 0 (fun _ => cst 0) 0 0 := ⟨H.size, Nat.le_refl _, hL⟩
                    have hU : s9.heap.size ≤ H.size := hS.1
                    have hub : ub_100 ≤ H.size := by omega
                    refine W.eq (g2 := F0 m9 192 ls []) rfl ?_
                    refine lv_aload_n hx hb dL_build_192 rfl (lv_at hl 7 rfl) ?_
                    refine lv_iload hx hb dL_build_193 (lv_at hl 4 rfl) ?_
                    refine lv_iload hx hb dL_build_195 (lv_at hl 1 rfl) ?_
                    refine zcallV (ci := 2) (q0 := 0) (cq := (RX2, TX2, 9)) (As := [.int (zI (i : Int)), .int (zI y7)]) (rest := []) ⟨hx, hb, hml, hown, hts⟩ hK (kX2_marryok l D cI cZ q hN pa sp al dg (cst 0) (cst 0) (cst 0) (cst 0) ah wl lo (i + 1) 0 0 hI.n16 hpa hsp hal (i : Int) y7 (by omega) (by omega) (by omega) (by omega) (by omega) (by omega) (by omega)) (cwV 2 hts gL_build_X2_marry rfl rfl rfl (by decide +kernel) ⟨Nat.le_of_ble_eq_true rfl, Nat.le_of_ble_eq_true rfl⟩) hC hS (fun x h => Or.inl h) rfl rfl rfl hl.1 rfl (Nat.le_of_ble_eq_true rfl) dL_build_197 ⟨show cc + 1 + 1 + 17 ≤ 330 from by omega, show ss + 3 + (i + 1) + 272 ≤ 4300 from by omega⟩ (fun H locs hC hS hz9 hk9 => ?_)
                    have hkq := fun (x : Nat) (h1 : x < _) (h2 : s0 ≤ x) => hk9 x h1 (fun h => absurd (hq0 x h) (Nat.not_lt.mpr h2))
                    have hL := zSL.keep hL (fun x h1 h2 => hkq x (Nat.lt_of_lt_of_le h2 hub) h1)
                    have hU : s9.heap.size ≤ H.size := hS.1
                    have hub : ub_100 ≤ H.size := by omega
                    refine W.eq (g2 := F0 m9 200 ls [.int (zI (dgF pa sp (i + 1) (i : Int) y7))]) rfl ?_
                    refine lv_iload hx hb dL_build_200 (lv_at hl 0 rfl) ?_
                    refine zr_icmp_eqT (tgt := 207) hx hb rfl dL_build_202 (by decide) ?_
                    refine zr_iinc (v := (i : Int) + 1) (lv' := [(4, .int (zI ((i : Int) + 1))), (8, .int (zI (dgF pa sp (i + 1) (i : Int) y7))), (7, .int (zI y7)), (6, .int (zI z_70)), (5, .int x_33), (3, .int (zI (cn : Int))), (2, .ref s0), (0, .ref (q 0)), (1, .ref b)]) hx hb dL_build_207 hl (k := 4) rfl rfl (by decide) rfl (fun ls hl => ?_)
                    refine lv_goto (tgt := 24) hx hb dL_build_210 (by decide) ?_
                    have hl := lv_sub hl (l' := [(4, .int (zI ((i : Int) + 1))), (3, .int (zI (cn : Int))), (2, .ref s0), (0, .ref (q 0)), (1, .ref b)]) [0, 5, 6, 7, 8] rfl
                    have e_101 : ((((i + 1) : Nat) : Int) : Int) = (i : Int) + 1 := by omega
                    have hl : lv_has ls 9 [(4, .int (zI (((i + 1) : Nat) : Int))), (3, .int (zI (cn : Int))), (2, .ref s0), (0, .ref (q 0)), (1, .ref b)] := by rw [e_101]; exact hl
                    exact ih_i (i + 1) (by omega) (by omega) _ _ _ pa (up (up (lvS (lvS sp (i : Int)) y7) (i : Int) y7) y7 (i : Int)) al _ _ (⟨_, _, _, _, hC⟩) (hL.toW hub) hS hl (hI.wed (a := (i : Int)) (b := y7) (by omega) (by omega) (by omega) (by omega) (by omega)) hal1 (by omega) (by omega)
                  · have c_97 := c_97
                    refine lv_goto (tgt := 207) hx hb dL_build_169 (by decide) ?_
                    refine zr_iinc (v := (i : Int) + 1) (lv' := [(4, .int (zI ((i : Int) + 1))), (7, .int (zI y7)), (6, .int (zI z_70)), (5, .int x_33), (3, .int (zI (cn : Int))), (2, .ref s0), (0, .ref (q 0)), (1, .ref b)]) hx hb dL_build_207 hl (k := 3) rfl rfl (by decide) rfl (fun ls hl => ?_)
                    refine lv_goto (tgt := 24) hx hb dL_build_210 (by decide) ?_
                    have hl := lv_sub hl (l' := [(4, .int (zI ((i : Int) + 1))), (3, .int (zI (cn : Int))), (2, .ref s0), (0, .ref (q 0)), (1, .ref b)]) [0, 4, 5, 6, 7] rfl
                    have e_102 : ((((i + 1) : Nat) : Int) : Int) = (i : Int) + 1 := by omega
                    have hl : lv_has ls 9 [(4, .int (zI (((i + 1) : Nat) : Int))), (3, .int (zI (cn : Int))), (2, .ref s0), (0, .ref (q 0)), (1, .ref b)] := by rw [e_102]; exact hl
                    exact ih_i (i + 1) (by omega) (by omega) _ _ _ pa sp al _ _ (⟨_, _, _, _, hC⟩) (hL.toW hub) hS hl hI hal1 (by omega) (by omega)
          · have c_68 := c_68
            refine zr_iconst hx hb dL_build_54 ?_
            refine lv_goto (tgt := 67) hx hb dL_build_55 (by decide) ?_
            refine lv_istore (lv' := [(6, .int (zI (-1))), (5, .int x_33), (4, .int (zI (i : Int))), (3, .int (zI (cn : Int))), (2, .ref s0), (0, .ref (q 0)), (1, .ref b)]) hx hb dL_build_67 hl (by decide) rfl (fun ls hl => ?_)
            refine lv_aload_n hx hb dL_build_69 rfl (lv_at hl 4 rfl) ?_
            refine lv_aload_n hx hb dL_build_70 rfl (lv_at hl 4 rfl) ?_
            refine va_get (D := D) (ci := 3) (v := .ref ap_5) (C := RX3) (T := TX3) (N := 5) hx hb hts hin3 hown hK hL.obj 0 rfl rfl 2 (by decide) (hts (.fieldLink RL 9 "MourningRibbonsLaw$Sim" "people" "[[I") (by decide +kernel)) (fun _ h9 => h9) rfl dL_build_71 ?_
            refine zr_iconst hx hb dL_build_74 ?_
            refine zs_newI (N' := 3) hx hb hQ (hts (.arrayClass .int) (by decide +kernel)) hS (z := 3) (by omega) (by omega) (show cc + 1 ≤ 330 from by omega) (show ss + 3 ≤ 4300 from by omega) dL_build_75 (fun H w1 hq_w1 hi_w1 hz9 hk9 hS => ?_)
            have hC := zgrowP hC hk9
            have hL := zSL.keep hL (fun x _ h2 => hk9 x (Nat.lt_of_lt_of_le h2 hub))
            have hge_w1 : s9.heap.size ≤ w1 := by omega
            have hU : s9.heap.size ≤ H.size := hS.1
            have hub : ub_5 ≤ H.size := by omega
            refine lv_dup hx hb dL_build_77 rfl ?_
            refine zr_iconst hx hb dL_build_78 ?_
            refine lv_iload hx hb dL_build_79 (lv_at hl 0 rfl) ?_
            refine zs_ist (i := 0) (x := (-1)) hx hb hQ hi_w1 hS (Or.inr (by omega)) (by decide) (by decide) (by decide) dL_build_81 (fun H locs hv9 hz9 hk9 hS => ?_)
            have hC := zkeepW hC rfl hk9 (fun h => by have := hq0 _ h; omega)
            have hL := zSL.keep hL (fun x _ h2 => hk9 x (by omega))
            have hi_w1 := hv9
            have hU : s9.heap.size ≤ H.size := hS.1
            have hub : ub_5 ≤ H.size := by omega
            refine lv_dup hx hb dL_build_82 rfl ?_
            refine zr_iconst hx hb dL_build_83 ?_
            refine zr_iconst hx hb dL_build_84 ?_
            refine zs_ist (i := 1) (x := (-1)) hx hb hQ hi_w1 hS (Or.inr (by omega)) (by decide) (by decide) (by decide) dL_build_85 (fun H locs hv9 hz9 hk9 hS => ?_)
            have hC := zkeepW hC rfl hk9 (fun h => by have := hq0 _ h; omega)
            have hL := zSL.keep hL (fun x _ h2 => hk9 x (by omega))
            have hi_w1 := hv9
            have hU : s9.heap.size ≤ H.size := hS.1
            have hub : ub_5 ≤ H.size := by omega
            refine lv_dup hx hb dL_build_86 rfl ?_
            refine zr_iconst hx hb dL_build_87 ?_
            refine zr_iconst hx hb dL_build_88 ?_
            refine zs_ist (i := 2) (x := 1) hx hb hQ hi_w1 hS (Or.inr (by omega)) (by decide) (by decide) (by decide) dL_build_89 (fun H locs hv9 hz9 hk9 hS => ?_)
            have hC := zkeepW hC rfl hk9 (fun h => by have := hq0 _ h; omega)
            have hL := zSL.keep hL (fun x _ h2 => hk9 x (by omega))
            have hi_w1 := hv9
            have hU : s9.heap.size ≤ H.size := hS.1
            have hub : ub_5 ≤ H.size := by omega
            refine zcallGS (As := [.ref ap_5, .ref w1]) (rest := [.ref s0]) ⟨hx, hb, hml, hown, hts⟩ hK hQ (kX3_more l D cI cZ c1 c2 H.size ap_5 w1 i ra_5 (by omega)) (va_cwS 2 hts gL_build_X3_more rfl rfl rfl (by decide +kernel) ⟨by first | exact Nat.le_of_ble_eq_true rfl | (show _ ≤ _; omega), Nat.le_of_ble_eq_true rfl⟩) (⟨hL.ppl, fun i h0 h1 => ⟨3, _, hL.row i h0 h1⟩, 3, _, hi_w1⟩) hS (fun x h => Or.inr (Nat.le_trans hU h)) rfl hl.1 rfl (Nat.le_of_ble_eq_true rfl) dL_build_90 ⟨show cc + 1 + 1 ≤ 330 from by omega, show ss + 3 + (i + 1) ≤ 4300 from by omega⟩ (fun v9 H locs hp9 hz9 hk9 hS => ?_)
            obtain ⟨bm, rfl, hgm_bm, hr9⟩ := hp9
            have hk9 := fun (x : Nat) (h : x < _) => hk9 x h (Nat.not_le.mpr h)
            have hC := zgrowP hC hk9
            have hL := zSL.keep hL (fun x _ h2 => hk9 x (Nat.lt_of_lt_of_le h2 hub))
            have hi_w1 := vA.grow hi_w1 hk9
            have hU : s9.heap.size ≤ H.size := hS.1
            have hub : ub_5 ≤ H.size := by omega
            refine W.eq (g2 := F0 m9 93 ls [.ref bm, .ref s0]) rfl ?_
            refine zs_put (v := .ref bm) (ty := (.array (.array .int))) hx hb hts hin3 hown hK hL.obj hS (Or.inr (by omega)) 2 (by decide) (hts (.fieldLink RL 9 "MourningRibbonsLaw$Sim" "people" "[[I") (by decide +kernel)) rfl rfl (by decide +kernel) rfl rfl (Nat.le_of_ble_eq_true rfl) dL_build_93 (fun H locs hO9 hz9 hk9 hS => ?_)
            obtain ⟨kd_103, ra_103, hL⟩ := zSL_addP (f := (-1)) hL hub hz9 hO9 hk9 (by omega) hi_w1 (zrowNew _ _ _ _ _) (by omega) hr9 (by have := hi_w1.lt; omega)
            have hC := zkeepW hC rfl hk9 (fun h => absurd (hq0 _ h) (Nat.not_lt.mpr haub.1))
            obtain ⟨ub_104, hub, hL⟩ : ∃ ub_104 : Nat, ub_104 ≤ H.size ∧ zSL D cI c1 c2 s0 ub_104 H s0 kd_103 bm ac_5 am_5 ra_103 rc_5 rr_5 rm_5 (i + 1) (up pa ((i : Nat) : Int) (-1)) (up sp ((i : Nat) : Int) (-1)) (up al ((i : Nat) : Int) 1) (cst 0) (cst 0) 0 (fun _ => cst 0) 0 0 := ⟨H.size, Nat.le_refl _, hL⟩
            have hU : s9.heap.size ≤ H.size := hS.1
            have hub : ub_104 ≤ H.size := by omega
            refine lv_iload hx hb dL_build_96 (lv_at hl 0 rfl) ?_
            refine zr_if_ge (tgt := 108) hx hb dL_build_98 (by decide) ⟨by decide, by decide⟩ (fun c_105 => by exfalso; revert c_105; decide) (fun c_105 => ?_)
            refine lv_aload_n hx hb dL_build_101 rfl (lv_at hl 5 rfl) ?_
            refine zcallV (ci := 2) (q0 := 0) (cq := (RX2, TX2, 9)) (As := []) (rest := []) ⟨hx, hb, hml, hown, hts⟩ hK (kX2_addPersonok l D cI cZ q hN pa sp al dg (cst 0) (cst 0) (cst 0) (cst 0) ah wl lo i 0 0 hI.n16 (by omega)) (cwV 0 hts gL_build_X2_addPerson rfl rfl rfl (by decide +kernel) ⟨Nat.le_of_ble_eq_true rfl, Nat.le_of_ble_eq_true rfl⟩) hC hS (fun x h => Or.inl h) rfl rfl rfl hl.1 rfl (Nat.le_of_ble_eq_true rfl) dL_build_102 ⟨show cc + 1 + 1 ≤ 330 from by omega, show ss + 3 + (i + 1) ≤ 4300 from by omega⟩ (fun H locs hC hS hz9 hk9 => ?_)
            have hkq := fun (x : Nat) (h1 : x < _) (h2 : s0 ≤ x) => hk9 x h1 (fun h => absurd (hq0 x h) (Nat.not_lt.mpr h2))
            have hL := zSL.keep hL (fun x h1 h2 => hkq x (Nat.lt_of_lt_of_le h2 hub) h1)
            have hU : s9.heap.size ≤ H.size := hS.1
            have hub : ub_104 ≤ H.size := by omega
            refine W.eq (g2 := F0 m9 105 ls [.int (zI (i : Int))]) rfl ?_
            refine lv_goto (tgt := 114) hx hb dL_build_105 (by decide) ?_
            refine lv_iload hx hb dL_build_114 (lv_at hl 2 rfl) ?_
            refine zr_icmp_eqT (tgt := 121) hx hb rfl dL_build_116 (by decide) ?_
            obtain ⟨pa, sp, al, hI, hal1, hspi, hC, hL⟩ : ∃ pa2 sp2 al2 : Int → Int, zInv (i + 1) pa2 sp2 al2 (cst 0) (cst 0) (cst 0) (cst 0) 0 0 (fun _ => cst 0) ∧ (∀ j : Int, 0 ≤ j → j < ((i + 1 : Nat) : Int) → al2 j = 1) ∧ sp2 (i : Int) = -1 ∧ va_P D vwCl (wC cI cZ q pa2 sp2 al2 dg (cst 0) (cst 0) (cst 0) (cst 0) ah wl lo ((i + 1 : Nat) : Int) 0 0) H ∧ zSL D cI c1 c2 s0 ub_104 H s0 kd_103 bm ac_5 am_5 ra_103 rc_5 rr_5 rm_5 (i + 1) pa2 sp2 al2 (cst 0) (cst 0) 0 (fun _ => cst 0) 0 0 := ⟨_, _, _, hI.add (by omega) (f := (-1)) ⟨by omega, by omega⟩, fun j h0 h1 => (by unfold up; split; rfl; exact hal1 j h0 (by omega)), if_pos rfl, hC, hL⟩
            have hpa := hI.1.1
            have hsp := hI.1.2.1
            have hal := hI.1.2.2.1
            have hco := hI.1.2.2.2.1
            have hda := hI.1.2.2.2.2.1
            have hn9 := hI.n16
            have hsn : ∀ j : Int, 0 ≤ j → j < ((i + 1 : Nat) : Int) → sp j < ((i + 1 : Nat) : Int) := fun j h0 h1 => by have := hI.2.1.2.1 j h0 h1; omega
            refine lv_iload hx hb dL_build_121 (lv_at hl 2 rfl) ?_
            refine zr_if_ne (tgt := 130) hx hb dL_build_123 (by decide) ⟨by omega, by omega⟩ (fun c_106 => ?_) (fun c_106 => ?_)
            · have c_106 := c_106
              refine lv_iload hx hb dL_build_130 (lv_at hl 1 rfl) ?_
              refine zr_iconst hx hb dL_build_132 ?_
              refine zx_ishr hx hb dL_build_133 (fun x_107 => ?_)
              refine lv_iload hx hb dL_build_134 (lv_at hl 2 rfl) ?_
              refine zcallGS (As := [.int x_107, .int (zI (i : Int))]) (rest := []) ⟨hx, hb, hml, hown, hts⟩ hK hQ (kL_below l D cI cZ c1 c2 H.size x_107 (i : Int) (by omega)) (va_cwS 2 hts gL_build_L_below rfl rfl rfl (by decide +kernel) ⟨by first | exact Nat.le_of_ble_eq_true rfl | (show _ ≤ _; omega), Nat.le_of_ble_eq_true rfl⟩) (trivial) hS (fun _ h => h.elim) rfl hl.1 rfl (Nat.le_of_ble_eq_true rfl) dL_build_136 ⟨show cc + 1 + 1 + 0 ≤ 330 from by omega, show ss + 3 + (i + 1) + 0 ≤ 4300 from by omega⟩ (fun v9 H locs hp9 hz9 hk9 hS => ?_)
              obtain ⟨z_108, rfl, h0z_108, h1z_108⟩ := hp9
              have hk9 := fun (x : Nat) (h : x < _) => hk9 x h (fun h => h)
              have hC := zgrowP hC hk9
              have hL := zSL.keep hL (fun x _ h2 => hk9 x (Nat.lt_of_lt_of_le h2 hub))
              have hU : s9.heap.size ≤ H.size := hS.1
              have hub : ub_104 ≤ H.size := by omega
              refine W.eq (g2 := F0 m9 139 ls [.int (zI z_108)]) rfl ?_
              obtain ⟨y7, hnm_y7⟩ : ∃ y7 : Int, y7 = z_108 := ⟨_, rfl⟩; rw [← hnm_y7]
              refine lv_istore (lv' := [(7, .int (zI y7)), (6, .int (zI (-1))), (5, .int x_33), (4, .int (zI (i : Int))), (3, .int (zI (cn : Int))), (2, .ref s0), (0, .ref (q 0)), (1, .ref b)]) hx hb dL_build_139 hl (by decide) rfl (fun ls hl => ?_)
              refine lv_iload hx hb dL_build_141 (lv_at hl 2 rfl) ?_
              refine zr_iconst hx hb dL_build_143 ?_
              refine zx_ishr hx hb dL_build_144 (fun x_109 => ?_)
              refine zr_iconst hx hb dL_build_145 ?_
              refine zcallGS (As := [.int x_109, .int (zI 3)]) (rest := []) ⟨hx, hb, hml, hown, hts⟩ hK hQ (kL_below l D cI cZ c1 c2 H.size x_109 3 (by omega)) (va_cwS 2 hts gL_build_L_below rfl rfl rfl (by decide +kernel) ⟨by first | exact Nat.le_of_ble_eq_true rfl | (show _ ≤ _; omega), Nat.le_of_ble_eq_true rfl⟩) (trivial) hS (fun _ h => h.elim) rfl hl.1 rfl (Nat.le_of_ble_eq_true rfl) dL_build_146 ⟨show cc + 1 + 1 + 0 ≤ 330 from by omega, show ss + 3 + (i + 1) + 0 ≤ 4300 from by omega⟩ (fun v9 H locs hp9 hz9 hk9 hS => ?_)
              obtain ⟨z_110, rfl, h0z_110, h1z_110⟩ := hp9
              have hk9 := fun (x : Nat) (h : x < _) => hk9 x h (fun h => h)
              have hC := zgrowP hC hk9
              have hL := zSL.keep hL (fun x _ h2 => hk9 x (Nat.lt_of_lt_of_le h2 hub))
              have hU : s9.heap.size ≤ H.size := hS.1
              have hub : ub_104 ≤ H.size := by omega
              refine W.eq (g2 := F0 m9 149 ls [.int (zI z_110)]) rfl ?_
              refine zr_if_gt (tgt := 207) hx hb dL_build_149 (by decide) ⟨by omega, by omega⟩ (fun c_111 => ?_) (fun c_111 => ?_)
              · have c_111 := c_111
                refine zr_iinc (v := (i : Int) + 1) (lv' := [(4, .int (zI ((i : Int) + 1))), (7, .int (zI y7)), (6, .int (zI (-1))), (5, .int x_33), (3, .int (zI (cn : Int))), (2, .ref s0), (0, .ref (q 0)), (1, .ref b)]) hx hb dL_build_207 hl (k := 3) rfl rfl (by decide) rfl (fun ls hl => ?_)
                refine lv_goto (tgt := 24) hx hb dL_build_210 (by decide) ?_
                have hl := lv_sub hl (l' := [(4, .int (zI ((i : Int) + 1))), (3, .int (zI (cn : Int))), (2, .ref s0), (0, .ref (q 0)), (1, .ref b)]) [0, 4, 5, 6, 7] rfl
                have e_112 : ((((i + 1) : Nat) : Int) : Int) = (i : Int) + 1 := by omega
                have hl : lv_has ls 9 [(4, .int (zI (((i + 1) : Nat) : Int))), (3, .int (zI (cn : Int))), (2, .ref s0), (0, .ref (q 0)), (1, .ref b)] := by rw [e_112]; exact hl
                exact ih_i (i + 1) (by omega) (by omega) _ _ _ pa sp al _ _ (⟨_, _, _, _, hC⟩) (hL.toW hub) hS hl hI hal1 (by omega) (by omega)
              · have c_111 := c_111
                refine lv_iload hx hb dL_build_152 (lv_at hl 3 rfl) ?_
                refine zr_if_eq (tgt := 207) hx hb dL_build_154 (by decide) ⟨by omega, by omega⟩ (fun c_113 => ?_) (fun c_113 => ?_)
                · have c_113 := c_113
                  refine zr_iinc (v := (i : Int) + 1) (lv' := [(4, .int (zI ((i : Int) + 1))), (7, .int (zI y7)), (6, .int (zI (-1))), (5, .int x_33), (3, .int (zI (cn : Int))), (2, .ref s0), (0, .ref (q 0)), (1, .ref b)]) hx hb dL_build_207 hl (k := 3) rfl rfl (by decide) rfl (fun ls hl => ?_)
                  refine lv_goto (tgt := 24) hx hb dL_build_210 (by decide) ?_
                  have hl := lv_sub hl (l' := [(4, .int (zI ((i : Int) + 1))), (3, .int (zI (cn : Int))), (2, .ref s0), (0, .ref (q 0)), (1, .ref b)]) [0, 4, 5, 6, 7] rfl
                  have e_114 : ((((i + 1) : Nat) : Int) : Int) = (i : Int) + 1 := by omega
                  have hl : lv_has ls 9 [(4, .int (zI (((i + 1) : Nat) : Int))), (3, .int (zI (cn : Int))), (2, .ref s0), (0, .ref (q 0)), (1, .ref b)] := by rw [e_114]; exact hl
                  exact ih_i (i + 1) (by omega) (by omega) _ _ _ pa sp al _ _ (⟨_, _, _, _, hC⟩) (hL.toW hub) hS hl hI hal1 (by omega) (by omega)
                · have c_113 := c_113
                  refine lv_aload_n hx hb dL_build_157 rfl (lv_at hl 5 rfl) ?_
                  refine va_get (D := D) (ci := 3) (v := .ref bm) (C := RX3) (T := TX3) (N := 5) hx hb hts hin3 hown hK hL.obj 0 rfl rfl 2 (by decide) (hts (.fieldLink RL 9 "MourningRibbonsLaw$Sim" "people" "[[I") (by decide +kernel)) (fun _ h9 => h9) rfl dL_build_158 ?_
                  refine lv_iload hx hb dL_build_161 (lv_at hl 0 rfl) ?_
                  refine zs_ald1 (v := .ref (ra_103 y7)) (i := y7) hx hb hQ hL.ppl (by omega) (by omega) (by have := hL.n16; omega) rfl dL_build_163 ?_
                  refine zr_iconst hx hb dL_build_164 ?_
                  refine zs_ild (v := sp y7) (i := 1) hx hb hQ (hL.row y7 (by omega) (by omega)) (by decide) (by decide) (by decide) rfl dL_build_165 ?_
                  have b_115 := hsp y7
                  refine zr_if_lt (tgt := 172) hx hb dL_build_166 (by decide) ⟨by omega, by omega⟩ (fun c_116 => ?_) (fun c_116 => ?_)
                  · have c_116 := c_116
                    have hq1 := hal1 (i : Int) (by omega) (by omega)
                    have hq2 := hal1 y7 (by omega) (by omega)
                    refine lv_aload_n hx hb dL_build_172 rfl (lv_at hl 5 rfl) ?_
                    refine zcallGV (ci := 3) (cq := (RX3, TX3, 5)) (As := []) (rest := []) ⟨hx, hb, hml, hown, hts⟩ hK hQ (kX3_degrees l D cI cZ c1 c2 H.size s0 s0 (i + 1) pa sp al (cst 0) (cst 0) 0 (fun _ => cst 0) 0 0 hpa hsp) (cwV 0 hts gL_build_X3_degrees rfl rfl rfl (by decide +kernel) ⟨by first | exact Nat.le_of_ble_eq_true rfl | (show _ ≤ _; omega), Nat.le_of_ble_eq_true rfl⟩) (hL.toW hub) hL.obj hS (fun x h => Or.inr (Nat.le_trans hU h)) rfl rfl hl.1 rfl (Nat.le_of_ble_eq_true rfl) dL_build_173 ⟨show cc + 1 + 1 + 17 ≤ 330 from by omega, show ss + 3 + (i + 1) + 272 ≤ 4300 from by omega⟩ (fun v9 H locs hp9 hz9 hk9 hS => ?_)
                    obtain ⟨mx, rfl, hge_mx, hM⟩ := hp9
                    have hk9 := fun (x : Nat) (h : x < _) => hk9 x h (Nat.not_le.mpr h)
                    have hge_mx := Nat.le_trans hU hge_mx
                    have hC := zgrowP hC hk9
                    have hL := zSL.keep hL (fun x _ h2 => hk9 x (Nat.lt_of_lt_of_le h2 hub))
                    have hU : s9.heap.size ≤ H.size := hS.1
                    have hub : ub_104 ≤ H.size := by omega
                    refine W.eq (g2 := F0 m9 176 ls [.ref mx]) rfl ?_
                    refine lv_iload hx hb dL_build_176 (lv_at hl 3 rfl) ?_
                    refine zs_ald1 (v := .ref (rd mx (i : Int))) (i := (i : Int)) hx hb hQ hM.1 (by omega) (by omega) (by have := hL.n16; omega) rfl dL_build_178 ?_
                    refine lv_iload hx hb dL_build_179 (lv_at hl 0 rfl) ?_
                    refine zs_ild (v := dgF pa sp (i + 1) (i : Int) y7) (i := y7) hx hb hQ (hM.2 (i : Int) (by omega) (by omega)) (by omega) (by omega) (by have := hL.n16; omega) rfl dL_build_181 ?_
                    have b_117 := dgF_bd pa sp (i + 1) (i : Int) y7
                    refine lv_istore (lv' := [(8, .int (zI (dgF pa sp (i + 1) (i : Int) y7))), (7, .int (zI y7)), (6, .int (zI (-1))), (5, .int x_33), (4, .int (zI (i : Int))), (3, .int (zI (cn : Int))), (2, .ref s0), (0, .ref (q 0)), (1, .ref b)]) hx hb dL_build_182 hl (by decide) rfl (fun ls hl => ?_)
                    refine lv_aload_n hx hb dL_build_184 rfl (lv_at hl 6 rfl) ?_
                    refine lv_iload hx hb dL_build_185 (lv_at hl 4 rfl) ?_
                    refine lv_iload hx hb dL_build_187 (lv_at hl 1 rfl) ?_
                    refine zcallGV (ci := 3) (cq := (RX3, TX3, 5)) (As := [.int (zI (i : Int)), .int (zI y7)]) (rest := []) ⟨hx, hb, hml, hown, hts⟩ hK hQ (kX3_marry l D cI cZ c1 c2 H.size s0 s0 (i + 1) pa sp al (cst 0) (cst 0) 0 (fun _ => cst 0) 0 0 (i : Int) y7 hsp (by omega) (by omega) (by omega) hsn) (cwV 2 hts gL_build_X3_marry rfl rfl rfl (by decide +kernel) ⟨by first | exact Nat.le_of_ble_eq_true rfl | (show _ ≤ _; omega), Nat.le_of_ble_eq_true rfl⟩) (hL.toW hub) hL.obj hS (fun x h => Or.inr (by rw [← hs0e]; exact h)) rfl rfl hl.1 rfl (Nat.le_of_ble_eq_true rfl) dL_build_189 ⟨show cc + 1 + 1 + 17 + 0 ≤ 330 from by omega, show ss + 3 + (i + 1) + 272 + 0 ≤ 4300 from by omega⟩ (fun v9 H locs hp9 hz9 hk9 hS => ?_)
                    obtain ⟨rfl, kd_118, ap_118, ac_118, am_118, ra_118, rc_118, rr_118, rm_118, hL⟩ := hp9
                    have hC := zkeepL hC rfl hq0 hk9
                    obtain ⟨ub_119, hub, hL⟩ : ∃ ub_119 : Nat, ub_119 ≤ H.size ∧ zSL D cI c1 c2 s0 ub_119 H s0 kd_118 ap_118 ac_118 am_118 ra_118 rc_118 rr_118 rm_118 (i + 1) pa (up (up (lvS (lvS sp (i : Int)) y7) (i : Int) y7) y7 (i : Int)) al (cst 0) (cst 0) 0 (fun _ => cst 0) 0 0 := ⟨H.size, Nat.le_refl _, hL⟩
                    have hU : s9.heap.size ≤ H.size := hS.1
                    have hub : ub_119 ≤ H.size := by omega
                    refine W.eq (g2 := F0 m9 192 ls []) rfl ?_
                    refine lv_aload_n hx hb dL_build_192 rfl (lv_at hl 7 rfl) ?_
                    refine lv_iload hx hb dL_build_193 (lv_at hl 4 rfl) ?_
                    refine lv_iload hx hb dL_build_195 (lv_at hl 1 rfl) ?_
                    refine zcallV (ci := 2) (q0 := 0) (cq := (RX2, TX2, 9)) (As := [.int (zI (i : Int)), .int (zI y7)]) (rest := []) ⟨hx, hb, hml, hown, hts⟩ hK (kX2_marryok l D cI cZ q hN pa sp al dg (cst 0) (cst 0) (cst 0) (cst 0) ah wl lo (i + 1) 0 0 hI.n16 hpa hsp hal (i : Int) y7 (by omega) (by omega) (by omega) (by omega) (by omega) (by omega) (by omega)) (cwV 2 hts gL_build_X2_marry rfl rfl rfl (by decide +kernel) ⟨Nat.le_of_ble_eq_true rfl, Nat.le_of_ble_eq_true rfl⟩) hC hS (fun x h => Or.inl h) rfl rfl rfl hl.1 rfl (Nat.le_of_ble_eq_true rfl) dL_build_197 ⟨show cc + 1 + 1 + 17 ≤ 330 from by omega, show ss + 3 + (i + 1) + 272 ≤ 4300 from by omega⟩ (fun H locs hC hS hz9 hk9 => ?_)
                    have hkq := fun (x : Nat) (h1 : x < _) (h2 : s0 ≤ x) => hk9 x h1 (fun h => absurd (hq0 x h) (Nat.not_lt.mpr h2))
                    have hL := zSL.keep hL (fun x h1 h2 => hkq x (Nat.lt_of_lt_of_le h2 hub) h1)
                    have hU : s9.heap.size ≤ H.size := hS.1
                    have hub : ub_119 ≤ H.size := by omega
                    refine W.eq (g2 := F0 m9 200 ls [.int (zI (dgF pa sp (i + 1) (i : Int) y7))]) rfl ?_
                    refine lv_iload hx hb dL_build_200 (lv_at hl 0 rfl) ?_
                    refine zr_icmp_eqT (tgt := 207) hx hb rfl dL_build_202 (by decide) ?_
                    refine zr_iinc (v := (i : Int) + 1) (lv' := [(4, .int (zI ((i : Int) + 1))), (8, .int (zI (dgF pa sp (i + 1) (i : Int) y7))), (7, .int (zI y7)), (6, .int (zI (-1))), (5, .int x_33), (3, .int (zI (cn : Int))), (2, .ref s0), (0, .ref (q 0)), (1, .ref b)]) hx hb dL_build_207 hl (k := 4) rfl rfl (by decide) rfl (fun ls hl => ?_)
                    refine lv_goto (tgt := 24) hx hb dL_build_210 (by decide) ?_
                    have hl := lv_sub hl (l' := [(4, .int (zI ((i : Int) + 1))), (3, .int (zI (cn : Int))), (2, .ref s0), (0, .ref (q 0)), (1, .ref b)]) [0, 5, 6, 7, 8] rfl
                    have e_120 : ((((i + 1) : Nat) : Int) : Int) = (i : Int) + 1 := by omega
                    have hl : lv_has ls 9 [(4, .int (zI (((i + 1) : Nat) : Int))), (3, .int (zI (cn : Int))), (2, .ref s0), (0, .ref (q 0)), (1, .ref b)] := by rw [e_120]; exact hl
                    exact ih_i (i + 1) (by omega) (by omega) _ _ _ pa (up (up (lvS (lvS sp (i : Int)) y7) (i : Int) y7) y7 (i : Int)) al _ _ (⟨_, _, _, _, hC⟩) (hL.toW hub) hS hl (hI.wed (a := (i : Int)) (b := y7) (by omega) (by omega) (by omega) (by omega) (by omega)) hal1 (by omega) (by omega)
                  · have c_116 := c_116
                    refine lv_goto (tgt := 207) hx hb dL_build_169 (by decide) ?_
                    refine zr_iinc (v := (i : Int) + 1) (lv' := [(4, .int (zI ((i : Int) + 1))), (7, .int (zI y7)), (6, .int (zI (-1))), (5, .int x_33), (3, .int (zI (cn : Int))), (2, .ref s0), (0, .ref (q 0)), (1, .ref b)]) hx hb dL_build_207 hl (k := 3) rfl rfl (by decide) rfl (fun ls hl => ?_)
                    refine lv_goto (tgt := 24) hx hb dL_build_210 (by decide) ?_
                    have hl := lv_sub hl (l' := [(4, .int (zI ((i : Int) + 1))), (3, .int (zI (cn : Int))), (2, .ref s0), (0, .ref (q 0)), (1, .ref b)]) [0, 4, 5, 6, 7] rfl
                    have e_121 : ((((i + 1) : Nat) : Int) : Int) = (i : Int) + 1 := by omega
                    have hl : lv_has ls 9 [(4, .int (zI (((i + 1) : Nat) : Int))), (3, .int (zI (cn : Int))), (2, .ref s0), (0, .ref (q 0)), (1, .ref b)] := by rw [e_121]; exact hl
                    exact ih_i (i + 1) (by omega) (by omega) _ _ _ pa sp al _ _ (⟨_, _, _, _, hC⟩) (hL.toW hub) hS hl hI hal1 (by omega) (by omega)
            · have c_106 := c_106
              refine zr_iconst hx hb dL_build_126 ?_
              refine lv_goto (tgt := 139) hx hb dL_build_127 (by decide) ?_
              obtain ⟨y7, hnm_y7⟩ : ∃ y7 : Int, y7 = 0 := ⟨_, rfl⟩; rw [← hnm_y7]
              refine lv_istore (lv' := [(7, .int (zI y7)), (6, .int (zI (-1))), (5, .int x_33), (4, .int (zI (i : Int))), (3, .int (zI (cn : Int))), (2, .ref s0), (0, .ref (q 0)), (1, .ref b)]) hx hb dL_build_139 hl (by decide) rfl (fun ls hl => ?_)
              refine lv_iload hx hb dL_build_141 (lv_at hl 2 rfl) ?_
              refine zr_iconst hx hb dL_build_143 ?_
              refine zx_ishr hx hb dL_build_144 (fun x_122 => ?_)
              refine zr_iconst hx hb dL_build_145 ?_
              refine zcallGS (As := [.int x_122, .int (zI 3)]) (rest := []) ⟨hx, hb, hml, hown, hts⟩ hK hQ (kL_below l D cI cZ c1 c2 H.size x_122 3 (by omega)) (va_cwS 2 hts gL_build_L_below rfl rfl rfl (by decide +kernel) ⟨by first | exact Nat.le_of_ble_eq_true rfl | (show _ ≤ _; omega), Nat.le_of_ble_eq_true rfl⟩) (trivial) hS (fun _ h => h.elim) rfl hl.1 rfl (Nat.le_of_ble_eq_true rfl) dL_build_146 ⟨show cc + 1 + 1 + 0 ≤ 330 from by omega, show ss + 3 + (i + 1) + 0 ≤ 4300 from by omega⟩ (fun v9 H locs hp9 hz9 hk9 hS => ?_)
              obtain ⟨z_123, rfl, h0z_123, h1z_123⟩ := hp9
              have hk9 := fun (x : Nat) (h : x < _) => hk9 x h (fun h => h)
              have hC := zgrowP hC hk9
              have hL := zSL.keep hL (fun x _ h2 => hk9 x (Nat.lt_of_lt_of_le h2 hub))
              have hU : s9.heap.size ≤ H.size := hS.1
              have hub : ub_104 ≤ H.size := by omega
              refine W.eq (g2 := F0 m9 149 ls [.int (zI z_123)]) rfl ?_
              refine zr_if_gt (tgt := 207) hx hb dL_build_149 (by decide) ⟨by omega, by omega⟩ (fun c_124 => ?_) (fun c_124 => ?_)
              · have c_124 := c_124
                refine zr_iinc (v := (i : Int) + 1) (lv' := [(4, .int (zI ((i : Int) + 1))), (7, .int (zI y7)), (6, .int (zI (-1))), (5, .int x_33), (3, .int (zI (cn : Int))), (2, .ref s0), (0, .ref (q 0)), (1, .ref b)]) hx hb dL_build_207 hl (k := 3) rfl rfl (by decide) rfl (fun ls hl => ?_)
                refine lv_goto (tgt := 24) hx hb dL_build_210 (by decide) ?_
                have hl := lv_sub hl (l' := [(4, .int (zI ((i : Int) + 1))), (3, .int (zI (cn : Int))), (2, .ref s0), (0, .ref (q 0)), (1, .ref b)]) [0, 4, 5, 6, 7] rfl
                have e_125 : ((((i + 1) : Nat) : Int) : Int) = (i : Int) + 1 := by omega
                have hl : lv_has ls 9 [(4, .int (zI (((i + 1) : Nat) : Int))), (3, .int (zI (cn : Int))), (2, .ref s0), (0, .ref (q 0)), (1, .ref b)] := by rw [e_125]; exact hl
                exact ih_i (i + 1) (by omega) (by omega) _ _ _ pa sp al _ _ (⟨_, _, _, _, hC⟩) (hL.toW hub) hS hl hI hal1 (by omega) (by omega)
              · have c_124 := c_124
                refine lv_iload hx hb dL_build_152 (lv_at hl 3 rfl) ?_
                refine zr_if_eq (tgt := 207) hx hb dL_build_154 (by decide) ⟨by omega, by omega⟩ (fun c_126 => ?_) (fun c_126 => ?_)
                · have c_126 := c_126
                  refine zr_iinc (v := (i : Int) + 1) (lv' := [(4, .int (zI ((i : Int) + 1))), (7, .int (zI y7)), (6, .int (zI (-1))), (5, .int x_33), (3, .int (zI (cn : Int))), (2, .ref s0), (0, .ref (q 0)), (1, .ref b)]) hx hb dL_build_207 hl (k := 3) rfl rfl (by decide) rfl (fun ls hl => ?_)
                  refine lv_goto (tgt := 24) hx hb dL_build_210 (by decide) ?_
                  have hl := lv_sub hl (l' := [(4, .int (zI ((i : Int) + 1))), (3, .int (zI (cn : Int))), (2, .ref s0), (0, .ref (q 0)), (1, .ref b)]) [0, 4, 5, 6, 7] rfl
                  have e_127 : ((((i + 1) : Nat) : Int) : Int) = (i : Int) + 1 := by omega
                  have hl : lv_has ls 9 [(4, .int (zI (((i + 1) : Nat) : Int))), (3, .int (zI (cn : Int))), (2, .ref s0), (0, .ref (q 0)), (1, .ref b)] := by rw [e_127]; exact hl
                  exact ih_i (i + 1) (by omega) (by omega) _ _ _ pa sp al _ _ (⟨_, _, _, _, hC⟩) (hL.toW hub) hS hl hI hal1 (by omega) (by omega)
                · have c_126 := c_126
                  refine lv_aload_n hx hb dL_build_157 rfl (lv_at hl 5 rfl) ?_
                  refine va_get (D := D) (ci := 3) (v := .ref bm) (C := RX3) (T := TX3) (N := 5) hx hb hts hin3 hown hK hL.obj 0 rfl rfl 2 (by decide) (hts (.fieldLink RL 9 "MourningRibbonsLaw$Sim" "people" "[[I") (by decide +kernel)) (fun _ h9 => h9) rfl dL_build_158 ?_
                  refine lv_iload hx hb dL_build_161 (lv_at hl 0 rfl) ?_
                  refine zs_ald1 (v := .ref (ra_103 y7)) (i := y7) hx hb hQ hL.ppl (by omega) (by omega) (by have := hL.n16; omega) rfl dL_build_163 ?_
                  refine zr_iconst hx hb dL_build_164 ?_
                  refine zs_ild (v := sp y7) (i := 1) hx hb hQ (hL.row y7 (by omega) (by omega)) (by decide) (by decide) (by decide) rfl dL_build_165 ?_
                  have b_128 := hsp y7
                  refine zr_if_lt (tgt := 172) hx hb dL_build_166 (by decide) ⟨by omega, by omega⟩ (fun c_129 => ?_) (fun c_129 => ?_)
                  · have c_129 := c_129
                    have hq1 := hal1 (i : Int) (by omega) (by omega)
                    have hq2 := hal1 y7 (by omega) (by omega)
                    refine lv_aload_n hx hb dL_build_172 rfl (lv_at hl 5 rfl) ?_
                    refine zcallGV (ci := 3) (cq := (RX3, TX3, 5)) (As := []) (rest := []) ⟨hx, hb, hml, hown, hts⟩ hK hQ (kX3_degrees l D cI cZ c1 c2 H.size s0 s0 (i + 1) pa sp al (cst 0) (cst 0) 0 (fun _ => cst 0) 0 0 hpa hsp) (cwV 0 hts gL_build_X3_degrees rfl rfl rfl (by decide +kernel) ⟨by first | exact Nat.le_of_ble_eq_true rfl | (show _ ≤ _; omega), Nat.le_of_ble_eq_true rfl⟩) (hL.toW hub) hL.obj hS (fun x h => Or.inr (Nat.le_trans hU h)) rfl rfl hl.1 rfl (Nat.le_of_ble_eq_true rfl) dL_build_173 ⟨show cc + 1 + 1 + 17 ≤ 330 from by omega, show ss + 3 + (i + 1) + 272 ≤ 4300 from by omega⟩ (fun v9 H locs hp9 hz9 hk9 hS => ?_)
                    obtain ⟨mx, rfl, hge_mx, hM⟩ := hp9
                    have hk9 := fun (x : Nat) (h : x < _) => hk9 x h (Nat.not_le.mpr h)
                    have hge_mx := Nat.le_trans hU hge_mx
                    have hC := zgrowP hC hk9
                    have hL := zSL.keep hL (fun x _ h2 => hk9 x (Nat.lt_of_lt_of_le h2 hub))
                    have hU : s9.heap.size ≤ H.size := hS.1
                    have hub : ub_104 ≤ H.size := by omega
                    refine W.eq (g2 := F0 m9 176 ls [.ref mx]) rfl ?_
                    refine lv_iload hx hb dL_build_176 (lv_at hl 3 rfl) ?_
                    refine zs_ald1 (v := .ref (rd mx (i : Int))) (i := (i : Int)) hx hb hQ hM.1 (by omega) (by omega) (by have := hL.n16; omega) rfl dL_build_178 ?_
                    refine lv_iload hx hb dL_build_179 (lv_at hl 0 rfl) ?_
                    refine zs_ild (v := dgF pa sp (i + 1) (i : Int) y7) (i := y7) hx hb hQ (hM.2 (i : Int) (by omega) (by omega)) (by omega) (by omega) (by have := hL.n16; omega) rfl dL_build_181 ?_
                    have b_130 := dgF_bd pa sp (i + 1) (i : Int) y7
                    refine lv_istore (lv' := [(8, .int (zI (dgF pa sp (i + 1) (i : Int) y7))), (7, .int (zI y7)), (6, .int (zI (-1))), (5, .int x_33), (4, .int (zI (i : Int))), (3, .int (zI (cn : Int))), (2, .ref s0), (0, .ref (q 0)), (1, .ref b)]) hx hb dL_build_182 hl (by decide) rfl (fun ls hl => ?_)
                    refine lv_aload_n hx hb dL_build_184 rfl (lv_at hl 6 rfl) ?_
                    refine lv_iload hx hb dL_build_185 (lv_at hl 4 rfl) ?_
                    refine lv_iload hx hb dL_build_187 (lv_at hl 1 rfl) ?_
                    refine zcallGV (ci := 3) (cq := (RX3, TX3, 5)) (As := [.int (zI (i : Int)), .int (zI y7)]) (rest := []) ⟨hx, hb, hml, hown, hts⟩ hK hQ (kX3_marry l D cI cZ c1 c2 H.size s0 s0 (i + 1) pa sp al (cst 0) (cst 0) 0 (fun _ => cst 0) 0 0 (i : Int) y7 hsp (by omega) (by omega) (by omega) hsn) (cwV 2 hts gL_build_X3_marry rfl rfl rfl (by decide +kernel) ⟨by first | exact Nat.le_of_ble_eq_true rfl | (show _ ≤ _; omega), Nat.le_of_ble_eq_true rfl⟩) (hL.toW hub) hL.obj hS (fun x h => Or.inr (by rw [← hs0e]; exact h)) rfl rfl hl.1 rfl (Nat.le_of_ble_eq_true rfl) dL_build_189 ⟨show cc + 1 + 1 + 17 + 0 ≤ 330 from by omega, show ss + 3 + (i + 1) + 272 + 0 ≤ 4300 from by omega⟩ (fun v9 H locs hp9 hz9 hk9 hS => ?_)
                    obtain ⟨rfl, kd_131, ap_131, ac_131, am_131, ra_131, rc_131, rr_131, rm_131, hL⟩ := hp9
                    have hC := zkeepL hC rfl hq0 hk9
                    obtain ⟨ub_132, hub, hL⟩ : ∃ ub_132 : Nat, ub_132 ≤ H.size ∧ zSL D cI c1 c2 s0 ub_132 H s0 kd_131 ap_131 ac_131 am_131 ra_131 rc_131 rr_131 rm_131 (i + 1) pa (up (up (lvS (lvS sp (i : Int)) y7) (i : Int) y7) y7 (i : Int)) al (cst 0) (cst 0) 0 (fun _ => cst 0) 0 0 := ⟨H.size, Nat.le_refl _, hL⟩
                    have hU : s9.heap.size ≤ H.size := hS.1
                    have hub : ub_132 ≤ H.size := by omega
                    refine W.eq (g2 := F0 m9 192 ls []) rfl ?_
                    refine lv_aload_n hx hb dL_build_192 rfl (lv_at hl 7 rfl) ?_
                    refine lv_iload hx hb dL_build_193 (lv_at hl 4 rfl) ?_
                    refine lv_iload hx hb dL_build_195 (lv_at hl 1 rfl) ?_
                    refine zcallV (ci := 2) (q0 := 0) (cq := (RX2, TX2, 9)) (As := [.int (zI (i : Int)), .int (zI y7)]) (rest := []) ⟨hx, hb, hml, hown, hts⟩ hK (kX2_marryok l D cI cZ q hN pa sp al dg (cst 0) (cst 0) (cst 0) (cst 0) ah wl lo (i + 1) 0 0 hI.n16 hpa hsp hal (i : Int) y7 (by omega) (by omega) (by omega) (by omega) (by omega) (by omega) (by omega)) (cwV 2 hts gL_build_X2_marry rfl rfl rfl (by decide +kernel) ⟨Nat.le_of_ble_eq_true rfl, Nat.le_of_ble_eq_true rfl⟩) hC hS (fun x h => Or.inl h) rfl rfl rfl hl.1 rfl (Nat.le_of_ble_eq_true rfl) dL_build_197 ⟨show cc + 1 + 1 + 17 ≤ 330 from by omega, show ss + 3 + (i + 1) + 272 ≤ 4300 from by omega⟩ (fun H locs hC hS hz9 hk9 => ?_)
                    have hkq := fun (x : Nat) (h1 : x < _) (h2 : s0 ≤ x) => hk9 x h1 (fun h => absurd (hq0 x h) (Nat.not_lt.mpr h2))
                    have hL := zSL.keep hL (fun x h1 h2 => hkq x (Nat.lt_of_lt_of_le h2 hub) h1)
                    have hU : s9.heap.size ≤ H.size := hS.1
                    have hub : ub_132 ≤ H.size := by omega
                    refine W.eq (g2 := F0 m9 200 ls [.int (zI (dgF pa sp (i + 1) (i : Int) y7))]) rfl ?_
                    refine lv_iload hx hb dL_build_200 (lv_at hl 0 rfl) ?_
                    refine zr_icmp_eqT (tgt := 207) hx hb rfl dL_build_202 (by decide) ?_
                    refine zr_iinc (v := (i : Int) + 1) (lv' := [(4, .int (zI ((i : Int) + 1))), (8, .int (zI (dgF pa sp (i + 1) (i : Int) y7))), (7, .int (zI y7)), (6, .int (zI (-1))), (5, .int x_33), (3, .int (zI (cn : Int))), (2, .ref s0), (0, .ref (q 0)), (1, .ref b)]) hx hb dL_build_207 hl (k := 4) rfl rfl (by decide) rfl (fun ls hl => ?_)
                    refine lv_goto (tgt := 24) hx hb dL_build_210 (by decide) ?_
                    have hl := lv_sub hl (l' := [(4, .int (zI ((i : Int) + 1))), (3, .int (zI (cn : Int))), (2, .ref s0), (0, .ref (q 0)), (1, .ref b)]) [0, 5, 6, 7, 8] rfl
                    have e_133 : ((((i + 1) : Nat) : Int) : Int) = (i : Int) + 1 := by omega
                    have hl : lv_has ls 9 [(4, .int (zI (((i + 1) : Nat) : Int))), (3, .int (zI (cn : Int))), (2, .ref s0), (0, .ref (q 0)), (1, .ref b)] := by rw [e_133]; exact hl
                    exact ih_i (i + 1) (by omega) (by omega) _ _ _ pa (up (up (lvS (lvS sp (i : Int)) y7) (i : Int) y7) y7 (i : Int)) al _ _ (⟨_, _, _, _, hC⟩) (hL.toW hub) hS hl (hI.wed (a := (i : Int)) (b := y7) (by omega) (by omega) (by omega) (by omega) (by omega)) hal1 (by omega) (by omega)
                  · have c_129 := c_129
                    refine lv_goto (tgt := 207) hx hb dL_build_169 (by decide) ?_
                    refine zr_iinc (v := (i : Int) + 1) (lv' := [(4, .int (zI ((i : Int) + 1))), (7, .int (zI y7)), (6, .int (zI (-1))), (5, .int x_33), (3, .int (zI (cn : Int))), (2, .ref s0), (0, .ref (q 0)), (1, .ref b)]) hx hb dL_build_207 hl (k := 3) rfl rfl (by decide) rfl (fun ls hl => ?_)
                    refine lv_goto (tgt := 24) hx hb dL_build_210 (by decide) ?_
                    have hl := lv_sub hl (l' := [(4, .int (zI ((i : Int) + 1))), (3, .int (zI (cn : Int))), (2, .ref s0), (0, .ref (q 0)), (1, .ref b)]) [0, 4, 5, 6, 7] rfl
                    have e_134 : ((((i + 1) : Nat) : Int) : Int) = (i : Int) + 1 := by omega
                    have hl : lv_has ls 9 [(4, .int (zI (((i + 1) : Nat) : Int))), (3, .int (zI (cn : Int))), (2, .ref s0), (0, .ref (q 0)), (1, .ref b)] := by rw [e_134]; exact hl
                    exact ih_i (i + 1) (by omega) (by omega) _ _ _ pa sp al _ _ (⟨_, _, _, _, hC⟩) (hL.toW hub) hS hl hI hal1 (by omega) (by omega)
  have hl := lv_sub hl (l' := [(4, .int (zI 0)), (3, .int (zI (cn : Int))), (2, .ref s0), (0, .ref (q 0)), (1, .ref b)]) [0, 1, 2, 3, 4] rfl
  exact L24_4 (cn + 1) 0 (Nat.zero_le _) (by omega) _ _ _ (cst 0) (cst 0) (cst 0) _ _ (⟨_, _, _, _, hC⟩) (hL.toW hub) hS hl zInv0 (fun j h0 h1 => by omega) (by omega) (by omega)
