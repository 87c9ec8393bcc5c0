section ZL12
variable {p : Program} {l : Launch} {e : Env} {R : Room} {s : State} {m : MethodId} {args : Array Value} {below : List Frame} {meth : Method} {c : Code} {H : Heap} {locs : List Loc} {cells slots : Nat} {Q : State → Prop}
variable {pc : Nat} {ls : Array Slot} {rest st0 As : List Value} {cc bytes : ByteArray} {D : va_G} {cI cZ c1 c2 : ClassId} {A free : Nat → Prop} {H0 : Heap} {E : State → Prop} {Pre : Heap → Prop} {Post : Option Value → Heap → Prop}
variable {y : MethodName} {maxL nL index n mc ms : Nat} {ret : Option FieldType} {ws Ts : List Cond} {rm : Room} {own : String} {hh : List (Nat × Nat × Nat × Nat)}
theorem zlcmp (x : Int64) : lg_cmp x x = 0 := by simp [lg_cmp]
theorem zr_lcmp_eqT (hx : p.tables.exec = Jvm.exec) (hb : c.code = cc) {x y : Int64} {off : Int} {tgt : Nat} (h : x = y) (hdg : decode cc pc = .ok (.lcmp, 1)) (hdg2 : decode cc (pc + 1) = .ok (.ifCond .eq off, 3)) (ht : ((pc + 1 : Nat) : Int) + off = (tgt : Int)) (kt : W p l e R s m args below meth c H locs cells slots Q (F0 m tgt ls rest)) : W p l e R s m args below meth c H locs cells slots Q (F0 m pc ls (.long y :: .long x :: rest)) := by
  subst h
  refine W.lcmp hx hb hdg ?_
  rw [zlcmp]
  exact lv_if_eq hx hb hdg2 ht (fun _ => kt) (fun h2 => absurd rfl h2)
theorem zr_lcmp_neF (hx : p.tables.exec = Jvm.exec) (hb : c.code = cc) {x y : Int64} {off : Int} {tgt : Nat} (h : x = y) (hdg : decode cc pc = .ok (.lcmp, 1)) (hdg2 : decode cc (pc + 1) = .ok (.ifCond .ne off, 3)) (ht : ((pc + 1 : Nat) : Int) + off = (tgt : Int)) (kf : W p l e R s m args below meth c H locs cells slots Q (F0 m (pc + 1 + 3) ls rest)) : W p l e R s m args below meth c H locs cells slots Q (F0 m pc ls (.long y :: .long x :: rest)) := by
  subst h
  refine W.lcmp hx hb hdg ?_
  rw [zlcmp]
  exact lv_if_ne hx hb hdg2 ht (fun h2 => absurd rfl h2) (fun _ => kf)
theorem zblindX2 (hE : zBl E) {av : List Value} {sz : Nat} : FrameBlind (va_Pc av (fun U => U.heap.size = sz ∧ Pre U.heap ∧ va_K D vwCl [(cI, .int), (cZ, .boolean)] U ∧ zKA cI c1 c2 U ∧ E U)) := zblindE hE
theorem zcallGX (S : CallFix p m c cc nL s args Ts own) (hK : va_K D vwCl [(cI, .int), (cZ, .boolean)] s) (hQ : zKA cI c1 c2 s) (hM : zGX l y ws rm D cI cZ c1 c2 As H.size E Pre Post free mc ms) (cw : vx_CSW R s args own index y bytes maxL ret hh ws rm mc ms n) (hB : zBl E) (hE : ∀ U : State, U.heap = H → s.WarmedH U.vm → E U) (hPre : Pre H) (hS : va_S A H0 H locs) (hA : ∀ q, free q → A q)
    (hn : As.length = n) (hsz : ls.size = nL) (hst : st0 = As.reverse ++ rest) (hro : (rest.map fun v => v.category).sum ≤ 8) (hdg : decode cc pc = .ok (.invokestatic index, 3)) (hf : cells + mc ≤ R.cells ∧ slots + ms ≤ R.slots)
    (kk : ∀ (v : Option Value) (H1 : Heap) (locs1 : List Loc), Post v H1 → H.size ≤ H1.size → (∀ q : Nat, q < H.size → ¬ free q → H1[q]? = H[q]?) → va_S A H0 H1 locs1 → W p l e R s m args below meth c H1 locs1 (cells + mc) (slots + ms) Q (F0 m (pc + 3) ls (v.toList ++ rest))) : W p l e R s m args below meth c H locs cells slots Q (F0 m pc ls st0) := by
  intro T hT0 X
  rcases vx_runSX (As := As) (rest := rest) (g := F0 m pc ls st0) (H := H) (locs := locs) (cells := cells) (slots := slots) S hM cw ⟨zblindE hB, fun U hU hW => ⟨rfl, by rw [hU], by rw [hU]; exact hPre, va_K.moved hW.alike hK, zKA.moved hW.alike hQ, hE U hU hW⟩⟩ rfl hn hsz hst (lv_room hro) hdg hf T hT0 X with ⟨v', st₀, t, T', L', h0, X', hL, e1, e2, ⟨⟨v, hv, hp⟩, hz, hk⟩, st⟩ | ⟨q, st₀, t, T', L', E', ce, h0, X', hL, e1, e2, hq, hce, hcv, hcl, st⟩
  · cases hv
    rw [h0] at hz hk
    obtain ⟨t2, a1, b1⟩ := kk v' T'.heap (locs ++ L') (by rw [e1]; exact hp) (by rw [e1]; exact hz) (fun q h1 h2 => by rw [e1]; exact hk q h1 h2) ⟨Nat.le_trans hS.1 (by rw [e1]; exact hz), fun q h1 h2 => by rw [e1, hk q (Nat.lt_of_lt_of_le h1 hS.1) (fun z => h2 (hA q z))]; exact hS.2.1 q h1 h2, fun q hq => by
        rcases List.mem_append.mp hq with h | h
        · exact hS.2.2 q h
        · exact hA _ (hL q h)⟩ T' rfl X'
    exact ⟨t2, st t2 a1, b1⟩
  · exact hq.elim
end ZL12
theorem zBl.zt {A : Nat → Prop} : zBl (fun U => zT A U U.heap) := fun _ _ _ _ h => h.calling
/-- what holds all through the law -/
def zCtx (p0 : Program) (l : Launch) (s9 : State) (m9 : MethodId) (meth : Method) (c9 : Code) (b N : Nat) (xs : Nat → Int32) (D : va_G) (cI cZ c1 c2 : ClassId) (q : Nat → Nat) (s0 : Nat) : Prop :=
  (p0.tables.exec = Jvm.exec ∧ c9.code = cL_law ∧ meth.sig.returnType = some .boolean ∧ c9.maxLocals = 20 ∧ meth.locks = false ∧ s9.vm.findClass RL = some m9.cls ∧ l.stackTraces = false) ∧
  ((∀ w ∈ wsL_law, w.before #[Value.ref b] s9 = true) ∧ va_K D vwCl [(cI, .int), (cZ, .boolean)] s9 ∧ zKA cI c1 c2 s9) ∧
  (va_X b N xs s9 s9.heap ∧ b < s9.heap.size ∧ N ≤ 260) ∧ ((zLC q).Nodup ∧ (∀ x ∈ zLC q, x < s0) ∧ (∀ x ∈ zLC q, s9.heap.size ≤ x) ∧ s9.heap.size ≤ s0) ∧ zT (fun x => s9.heap.size ≤ x) s9 s9.heap
set_option maxHeartbeats 4000000 in
set_option maxRecDepth 100000 in
theorem law_B {p0 : Program} {l : Launch} {e9 : Env} {s9 : State} {m9 : MethodId} {below : List Frame} {meth : Method} {c9 : Code} {b N : Nat} {xs : Nat → Int32} {D : va_G} {cI cZ c1 c2 : ClassId} {q : Nat → Nat} {s0 : Nat} {Q0 : State → Prop} (C : zCtx p0 l s9 m9 meth c9 b N xs D cI cZ c1 c2 q s0) {n : Nat} {pa sp al co da mb dd : Int → Int} {td wn : Int} {M : Nat} {mo : Int → Int → Int} (hI : zInv n pa sp al co da mb dd td M mo) (h1n : 1 ≤ n) (htd9 : td ≤ 800000) {k9 : Int} {x : Int32} {H : Heap} {locs : List Loc} {ls : Array Slot} {cc ss : Nat} (hcc : cc ≤ 1190000) (hss : ss ≤ 5400000) (K : ∀ (H1 : Heap) (locs1 : List Loc) (ls1 : Array Slot), zJC D cI cZ q pa sp al co da mb dd n td wn H1 → zSW D cI c1 c2 s0 s0 n pa sp al co da M mo td wn H1 → va_S (fun x => s9.heap.size ≤ x) s9.heap H1 locs1 → lv_has ls1 20 [(0, .ref b), (1, .ref (q 0)), (2, .ref s0), (3, .int (zI k9)), (4, .int x), (5, .long (dgC pa sp al co da mb dd n td wn)), (7, .int (zI (n : Int)))] → W p0 l e9 room_1 s9 m9 #[Value.ref b] below meth c9 H1 locs1 cc ss Q0 (F0 m9 818 ls1 [])) (hC : zJC D cI cZ q pa sp al co da mb dd n td wn H) (hL : zSW D cI c1 c2 s0 s0 n pa sp al co da M mo td wn H) (hS : va_S (fun x => s9.heap.size ≤ x) s9.heap H locs) (hl : lv_has ls 20 [(0, .ref b), (1, .ref (q 0)), (2, .ref s0), (3, .int (zI k9)), (4, .int x)]) : W p0 l e9 room_1 s9 m9 #[Value.ref b] below meth c9 H locs cc ss Q0 (F0 m9 80 ls []) := by
  have C0 := C
  obtain ⟨⟨hx, hb, hr, hml, hlocks, hown, hl0⟩, ⟨hts, hK, hQ⟩, ⟨hX, hbl, hN260⟩, ⟨hN, hq0, hqS, hsS⟩, hT0⟩ := C
  have hbA : ¬ (fun x => s9.heap.size ≤ x) b := Nat.not_le.mpr hbl
  have hU : s9.heap.size ≤ H.size := hS.1
  obtain ⟨dg, ah, wl, lo, hC⟩ := hC
  obtain ⟨kd_1, ap_1, ac_1, am_1, ra_1, rc_1, rr_1, rm_1, hL⟩ := hL
  obtain ⟨ub_1, hub, hL⟩ : ∃ ub_1 : Nat, ub_1 ≤ H.size ∧ zSL D cI c1 c2 s0 ub_1 H s0 kd_1 ap_1 ac_1 am_1 ra_1 rc_1 rr_1 rm_1 n pa sp al co da M mo td wn := ⟨H.size, Nat.le_refl _, hL⟩
  have hs0 := hL.s0u
  have hn9 := hI.n16
  have htd9x : td ≤ 900000 := by omega
  have hpa := hI.1.1
  have hsp := hI.1.2.1
  have hal := hI.1.2.2.1
  have hco := hI.1.2.2.2.1
  have hda := hI.1.2.2.2.2.1
  have hmb := hI.1.2.2.2.2.2.1
  have hdd := hI.1.2.2.2.2.2.2.1
  have hn := hI.1.2.2.2.2.2.2.2.1
  have htd : 0 ≤ td ∧ td ≤ 1000000 := ⟨hI.1.2.2.2.2.2.2.2.2, by omega⟩
  refine lv_aload_n hx hb dL_law_80 rfl (lv_at hl 1 rfl) ?_
  refine zcallV (ci := 2) (q0 := 0) (cq := (RX2, TX2, 9)) (As := []) (rest := []) ⟨hx, hb, hml, hown, hts⟩ hK (kX2_digest l D cI cZ q hN pa sp al dg co da mb dd ah wl lo n td wn hn hco hda hmb hdd htd hpa hsp hal) (cwV 0 hts gL_law_X2_digest rfl rfl rfl (by decide +kernel) ⟨Nat.le_of_ble_eq_true rfl, Nat.le_of_ble_eq_true rfl⟩) hC hS (fun x h => hqS x h) rfl rfl rfl hl.1 rfl (Nat.le_of_ble_eq_true rfl) dL_law_81 ⟨show cc ≤ 1200104 from by omega, show ss ≤ 5501314 from by omega⟩ (fun H locs hC hS hz9 hk9 => ?_)
  have hkq := fun (x : Nat) (h1 : x < _) (h2 : s0 ≤ x) => hk9 x h1 (fun h => absurd (hq0 x h) (Nat.not_lt.mpr h2))
  have hL := zSL.keep hL (fun x h1 h2 => hkq x (Nat.lt_of_lt_of_le h2 hub) h1)
  have hU : s9.heap.size ≤ H.size := hS.1
  have hub : ub_1 ≤ H.size := by omega
  refine W.eq (g2 := F0 m9 84 ls [.long (dgC pa sp al co da mb dd n td wn)]) rfl ?_
  obtain ⟨dg, ah, wl, lo, hC⟩ : zJC D cI cZ q pa sp al co da mb dd n td wn H := ⟨_, _, _, _, hC⟩
  refine lv_lstore (lv' := [(5, .long (dgC pa sp al co da mb dd n td wn)), (0, .ref b), (1, .ref (q 0)), (2, .ref s0), (3, .int (zI k9)), (4, .int x)]) hx hb dL_law_84 hl (by decide) rfl (fun ls hl => ?_)
  refine lv_aload_n hx hb dL_law_86 rfl (lv_at hl 2 rfl) ?_
  refine zcallV (ci := 2) (q0 := 0) (cq := (RX2, TX2, 9)) (As := []) (rest := []) ⟨hx, hb, hml, hown, hts⟩ hK (kX2_people l D cI cZ q hN pa sp al dg co da mb dd ah wl lo n td wn) (cwV 0 hts gL_law_X2_people rfl rfl rfl (by decide +kernel) ⟨Nat.le_of_ble_eq_true rfl, Nat.le_of_ble_eq_true rfl⟩) hC hS (fun x h => hqS x h) rfl rfl rfl hl.1 rfl (Nat.le_of_ble_eq_true rfl) dL_law_87 ⟨show cc ≤ 1200104 from by omega, show ss ≤ 5501314 from by omega⟩ (fun H locs hC hS hz9 hk9 => ?_)
  have hkq := fun (x : Nat) (h1 : x < _) (h2 : s0 ≤ x) => hk9 x h1 (fun h => absurd (hq0 x h) (Nat.not_lt.mpr h2))
  have hL := zSL.keep hL (fun x h1 h2 => hkq x (Nat.lt_of_lt_of_le h2 hub) h1)
  have hU : s9.heap.size ≤ H.size := hS.1
  have hub : ub_1 ≤ H.size := by omega
  refine W.eq (g2 := F0 m9 90 ls [.int (zI (n : Int))]) rfl ?_
  refine lv_istore (lv' := [(7, .int (zI (n : Int))), (5, .long (dgC pa sp al co da mb dd n td wn)), (0, .ref b), (1, .ref (q 0)), (2, .ref s0), (3, .int (zI k9)), (4, .int x)]) hx hb dL_law_90 hl (by decide) rfl (fun ls hl => ?_)
  refine zr_iconst hx hb dL_law_92 ?_
  refine lv_istore (lv' := [(8, .int (zI 0)), (7, .int (zI (n : Int))), (5, .long (dgC pa sp al co da mb dd n td wn)), (0, .ref b), (1, .ref (q 0)), (2, .ref s0), (3, .int (zI k9)), (4, .int x)]) hx hb dL_law_93 hl (by decide) rfl (fun ls hl => ?_)
  refine zr_iconst hx hb dL_law_95 ?_
  refine lv_istore (lv' := [(9, .int (zI 0)), (8, .int (zI 0)), (7, .int (zI (n : Int))), (5, .long (dgC pa sp al co da mb dd n td wn)), (0, .ref b), (1, .ref (q 0)), (2, .ref s0), (3, .int (zI k9)), (4, .int x)]) hx hb dL_law_96 hl (by decide) rfl (fun ls hl => ?_)
  refine zr_iconst hx hb dL_law_98 ?_
  refine lv_istore (lv' := [(10, .int (zI 0)), (9, .int (zI 0)), (8, .int (zI 0)), (7, .int (zI (n : Int))), (5, .long (dgC pa sp al co da mb dd n td wn)), (0, .ref b), (1, .ref (q 0)), (2, .ref s0), (3, .int (zI k9)), (4, .int x)]) hx hb dL_law_99 hl (by decide) rfl (fun ls hl => ?_)
  have L101_2 : ∀ (kf p : Nat), p ≤ n → n - p < kf → ∀ (H : Heap) (locs : List Loc) (ls : Array Slot), (zJC D cI cZ q pa sp al co da mb dd n td wn H) → (zSW D cI c1 c2 s0 s0 n pa sp al co da M mo td wn H) → va_S (fun x => s9.heap.size ≤ x) s9.heap H locs → lv_has ls 20 [(10, .int (zI (p : Int))), (9, .int (zI (mxF (llS da mb dd td n) p))), (8, .int (zI (smF al p))), (7, .int (zI (n : Int))), (5, .long (dgC pa sp al co da mb dd n td wn)), (0, .ref b), (1, .ref (q 0)), (2, .ref s0), (3, .int (zI k9)), (4, .int x)] → W p0 l e9 room_1 s9 m9 #[Value.ref b] below meth c9 H locs cc ss Q0 (F0 m9 101 ls []) := by
    intro kf
    induction kf with
    | zero => intro p h1 h2; omega
    | succ kf ih =>
      intro p hi_p hk_p H locs ls  hC hL hS hl 
      have ih_p := ih
      clear ih
      have hU : s9.heap.size ≤ H.size := hS.1
      obtain ⟨dg, ah, wl, lo, hC⟩ := hC
      obtain ⟨kd_3, ap_3, ac_3, am_3, ra_3, rc_3, rr_3, rm_3, hL⟩ := hL
      obtain ⟨ub_3, hub, hL⟩ : ∃ ub_3 : Nat, ub_3 ≤ H.size ∧ zSL D cI c1 c2 s0 ub_3 H s0 kd_3 ap_3 ac_3 am_3 ra_3 rc_3 rr_3 rm_3 n pa sp al co da M mo td wn := ⟨H.size, Nat.le_refl _, hL⟩
      have hs0 := hL.s0u
      have h8 := smF_bd (f := al) (k := p) (B := 1) hal
      have h9b := mxF_bk (f := (llS da mb dd td n)) (k := p) (B := 180) (by decide) (fun j _ _ => hI.ll180 j)
      refine lv_iload hx hb dL_law_101 (lv_at hl 0 rfl) ?_
      refine lv_iload hx hb dL_law_103 (lv_at hl 3 rfl) ?_
      refine zr_icmp_ge (tgt := 633) hx hb dL_law_105 (by decide) ⟨by omega, by omega⟩ ⟨by omega, by omega⟩ (fun c_4 => ?_) (fun c_4 => ?_)
      · have c_4 := c_4
        have x_5 : p = n := by omega
        try rw [x_5] at hl
        try rw [x_5] at hC
        try rw [x_5] at hL
        have h8 := smF_bd (f := al) (k := n) (B := 1) hal
        have h9b := mxF_bk (f := (llS da mb dd td n)) (k := n) (B := 180) (by decide) (fun j _ _ => hI.ll180 j)
        refine zr_iconst hx hb dL_law_633 ?_
        refine lv_istore (lv' := [(10, .int (zI 0)), (9, .int (zI (mxF (llS da mb dd td n) n))), (8, .int (zI (smF al n))), (7, .int (zI (n : Int))), (5, .long (dgC pa sp al co da mb dd n td wn)), (0, .ref b), (1, .ref (q 0)), (2, .ref s0), (3, .int (zI k9)), (4, .int x)]) hx hb dL_law_634 hl (by decide) rfl (fun ls hl => ?_)
        refine zr_iconst hx hb dL_law_636 ?_
        refine lv_istore (lv' := [(11, .int (zI 0)), (10, .int (zI 0)), (9, .int (zI (mxF (llS da mb dd td n) n))), (8, .int (zI (smF al n))), (7, .int (zI (n : Int))), (5, .long (dgC pa sp al co da mb dd n td wn)), (0, .ref b), (1, .ref (q 0)), (2, .ref s0), (3, .int (zI k9)), (4, .int x)]) hx hb dL_law_637 hl (by decide) rfl (fun ls hl => ?_)
        have L639_6 : ∀ (kf c : Nat), c ≤ 6 → 6 - c < kf → ∀ (H : Heap) (locs : List Loc) (ls : Array Slot), (zJC D cI cZ q pa sp al co da mb dd n td wn H) → (zSW D cI c1 c2 s0 s0 n pa sp al co da M mo td wn H) → va_S (fun x => s9.heap.size ≤ x) s9.heap H locs → lv_has ls 20 [(11, .int (zI (c : Int))), (10, .int (zI (smF (cwN al co da mb dd td n) c))), (9, .int (zI (mxF (llS da mb dd td n) n))), (8, .int (zI (smF al n))), (7, .int (zI (n : Int))), (5, .long (dgC pa sp al co da mb dd n td wn)), (0, .ref b), (1, .ref (q 0)), (2, .ref s0), (3, .int (zI k9)), (4, .int x)] → W p0 l e9 room_1 s9 m9 #[Value.ref b] below meth c9 H locs cc ss Q0 (F0 m9 639 ls []) := by
          intro kf
          induction kf with
          | zero => intro c h1 h2; omega
          | succ kf ih =>
            intro c hi_c hk_c H locs ls  hC hL hS hl 
            have ih_c := ih
            clear ih
            have hU : s9.heap.size ≤ H.size := hS.1
            obtain ⟨dg, ah, wl, lo, hC⟩ := hC
            obtain ⟨kd_7, ap_7, ac_7, am_7, ra_7, rc_7, rr_7, rm_7, hL⟩ := hL
            obtain ⟨ub_7, hub, hL⟩ : ∃ ub_7 : Nat, ub_7 ≤ H.size ∧ zSL D cI c1 c2 s0 ub_7 H s0 kd_7 ap_7 ac_7 am_7 ra_7 rc_7 rr_7 rm_7 n pa sp al co da M mo td wn := ⟨H.size, Nat.le_refl _, hL⟩
            have hs0 := hL.s0u
            refine lv_iload hx hb dL_law_639 (lv_at hl 0 rfl) ?_
            refine zr_bipush hx hb dL_law_641 (by decide) ?_
            refine zr_icmp_ge (tgt := 663) hx hb dL_law_643 (by decide) ⟨by omega, by omega⟩ ⟨by decide, by decide⟩ (fun c_8 => ?_) (fun c_8 => ?_)
            · have c_8 := c_8
              have x_9 : c = 6 := by omega
              try rw [x_9] at hl
              try rw [x_9] at hC
              try rw [x_9] at hL
              refine lv_aload_n hx hb dL_law_663 rfl (lv_at hl 7 rfl) ?_
              refine zcallV (ci := 2) (q0 := 0) (cq := (RX2, TX2, 9)) (As := []) (rest := []) ⟨hx, hb, hml, hown, hts⟩ hK (kX2_strictest l D cI cZ q hN pa sp al dg co da mb dd ah wl lo n td wn hn hco hda hmb hdd htd) (cwV 0 hts gL_law_X2_strictest rfl rfl rfl (by decide +kernel) ⟨Nat.le_of_ble_eq_true rfl, Nat.le_of_ble_eq_true rfl⟩) hC hS (fun x h => hqS x h) rfl rfl rfl hl.1 rfl (Nat.le_of_ble_eq_true rfl) dL_law_664 ⟨show cc ≤ 1200104 from by omega, show ss ≤ 5501314 from by omega⟩ (fun H locs hC hS hz9 hk9 => ?_)
              have hkq := fun (x : Nat) (h1 : x < _) (h2 : s0 ≤ x) => hk9 x h1 (fun h => absurd (hq0 x h) (Nat.not_lt.mpr h2))
              have hL := zSL.keep hL (fun x h1 h2 => hkq x (Nat.lt_of_lt_of_le h2 hub) h1)
              have hU : s9.heap.size ≤ H.size := hS.1
              have hub : ub_7 ≤ H.size := by omega
              refine W.eq (g2 := F0 m9 667 ls [.int (zI (mxF (caZ co da mb dd td n) n))]) rfl ?_
              refine lv_istore (lv' := [(11, .int (zI (mxF (caZ co da mb dd td n) n))), (10, .int (zI (smF (cwN al co da mb dd td n) 6))), (9, .int (zI (mxF (llS da mb dd td n) n))), (8, .int (zI (smF al n))), (7, .int (zI (n : Int))), (5, .long (dgC pa sp al co da mb dd n td wn)), (0, .ref b), (1, .ref (q 0)), (2, .ref s0), (3, .int (zI k9)), (4, .int x)]) hx hb dL_law_667 hl (by decide) rfl (fun ls hl => ?_)
              refine lv_aload_n hx hb dL_law_669 rfl (lv_at hl 7 rfl) ?_
              refine zcallV (ci := 2) (q0 := 0) (cq := (RX2, TX2, 9)) (As := []) (rest := []) ⟨hx, hb, hml, hown, hts⟩ hK (kX2_longestMourner l D cI cZ q hN pa sp al dg co da mb dd ah wl lo n td wn hn hda hmb hdd htd) (cwV 0 hts gL_law_X2_longestMourner rfl rfl rfl (by decide +kernel) ⟨Nat.le_of_ble_eq_true rfl, Nat.le_of_ble_eq_true rfl⟩) hC hS (fun x h => hqS x h) rfl rfl rfl hl.1 rfl (Nat.le_of_ble_eq_true rfl) dL_law_670 ⟨show cc ≤ 1200104 from by omega, show ss ≤ 5501314 from by omega⟩ (fun H locs hC hS hz9 hk9 => ?_)
              have hkq := fun (x : Nat) (h1 : x < _) (h2 : s0 ≤ x) => hk9 x h1 (fun h => absurd (hq0 x h) (Nat.not_lt.mpr h2))
              have hL := zSL.keep hL (fun x h1 h2 => hkq x (Nat.lt_of_lt_of_le h2 hub) h1)
              have hU : s9.heap.size ≤ H.size := hS.1
              have hub : ub_7 ≤ H.size := by omega
              refine W.eq (g2 := F0 m9 673 ls [.int (zI (lgF (llS da mb dd td n) n))]) rfl ?_
              refine lv_istore (lv' := [(12, .int (zI (lgF (llS da mb dd td n) n))), (11, .int (zI (mxF (caZ co da mb dd td n) n))), (10, .int (zI (smF (cwN al co da mb dd td n) 6))), (9, .int (zI (mxF (llS da mb dd td n) n))), (8, .int (zI (smF al n))), (7, .int (zI (n : Int))), (5, .long (dgC pa sp al co da mb dd n td wn)), (0, .ref b), (1, .ref (q 0)), (2, .ref s0), (3, .int (zI k9)), (4, .int x)]) hx hb dL_law_673 hl (by decide) rfl (fun ls hl => ?_)
              have hst := mxF_bk (f := caZ co da mb dd td n) (k := n) (B := 5) (by decide) (fun j _ _ => (caZ_rg hI j).2)
              have hlg := lgF_rg (llS da mb dd td n) n
              refine lv_iload hx hb dL_law_675 (lv_at hl 4 rfl) ?_
              refine lv_aload_n hx hb dL_law_677 rfl (lv_at hl 8 rfl) ?_
              refine zcallV (ci := 2) (q0 := 0) (cq := (RX2, TX2, 9)) (As := []) (rest := [.int (zI (smF al n))]) ⟨hx, hb, hml, hown, hts⟩ hK (kX2_living l D cI cZ q hN pa sp al dg co da mb dd ah wl lo n td wn hn hal) (cwV 0 hts gL_law_X2_living rfl rfl rfl (by decide +kernel) ⟨Nat.le_of_ble_eq_true rfl, Nat.le_of_ble_eq_true rfl⟩) hC hS (fun x h => hqS x h) rfl rfl rfl hl.1 rfl (Nat.le_of_ble_eq_true rfl) dL_law_678 ⟨show cc ≤ 1200104 from by omega, show ss ≤ 5501314 from by omega⟩ (fun H locs hC hS hz9 hk9 => ?_)
              have hkq := fun (x : Nat) (h1 : x < _) (h2 : s0 ≤ x) => hk9 x h1 (fun h => absurd (hq0 x h) (Nat.not_lt.mpr h2))
              have hL := zSL.keep hL (fun x h1 h2 => hkq x (Nat.lt_of_lt_of_le h2 hub) h1)
              have hU : s9.heap.size ≤ H.size := hS.1
              have hub : ub_7 ≤ H.size := by omega
              refine W.eq (g2 := F0 m9 681 ls [.int (zI (smF al n)), .int (zI (smF al n))]) rfl ?_
              refine zr_icmp_neF (tgt := 761) hx hb rfl dL_law_681 (by decide) ?_
              refine lv_iload hx hb dL_law_684 (lv_at hl 2 rfl) ?_
              refine lv_iload hx hb dL_law_686 (lv_at hl 4 rfl) ?_
              refine zr_icmp_neF (tgt := 761) hx hb hI.wsum dL_law_688 (by decide) ?_
              have J705_10 : ∀ (H : Heap) (locs : List Loc), zJC D cI cZ q pa sp al co da mb dd n td wn H → zSL D cI c1 c2 s0 ub_7 H s0 kd_7 ap_7 ac_7 am_7 ra_7 rc_7 rr_7 rm_7 n pa sp al co da M mo td wn → ub_7 ≤ H.size → va_S (fun x => s9.heap.size ≤ x) s9.heap H locs → W p0 l e9 room_1 s9 m9 #[Value.ref b] below meth c9 H locs cc ss Q0 (F0 m9 705 ls []) := by
                intro H locs hC hL hub  hS
                obtain ⟨dg, ah, wl, lo, hC⟩ := hC
                have hU : s9.heap.size ≤ H.size := hS.1
                have J722_11 : ∀ (H : Heap) (locs : List Loc), zJC D cI cZ q pa sp al co da mb dd n td wn H → zSL D cI c1 c2 s0 ub_7 H s0 kd_7 ap_7 ac_7 am_7 ra_7 rc_7 rr_7 rm_7 n pa sp al co da M mo td wn → ub_7 ≤ H.size → va_S (fun x => s9.heap.size ≤ x) s9.heap H locs → W p0 l e9 room_1 s9 m9 #[Value.ref b] below meth c9 H locs cc ss Q0 (F0 m9 722 ls []) := by
                  intro H locs hC hL hub  hS
                  obtain ⟨dg, ah, wl, lo, hC⟩ := hC
                  have hU : s9.heap.size ≤ H.size := hS.1
                  have J732_12 : ∀ (H : Heap) (locs : List Loc) (z : Int), zJC D cI cZ q pa sp al co da mb dd n td wn H → zSL D cI c1 c2 s0 ub_7 H s0 kd_7 ap_7 ac_7 am_7 ra_7 rc_7 rr_7 rm_7 n pa sp al co da M mo td wn → ub_7 ≤ H.size → va_S (fun x => s9.heap.size ≤ x) s9.heap H locs → z = ngF (lgF (llS da mb dd td n) n) → W p0 l e9 room_1 s9 m9 #[Value.ref b] below meth c9 H locs cc ss Q0 (F0 m9 732 ls [(.int (zI z))]) := by
                    intro H locs z hC hL hub  hS hz
                    subst hz
                    obtain ⟨dg, ah, wl, lo, hC⟩ := hC
                    have hU : s9.heap.size ≤ H.size := hS.1
                    have J742_13 : ∀ (H : Heap) (locs : List Loc) (z : Int), zJC D cI cZ q pa sp al co da mb dd n td wn H → zSL D cI c1 c2 s0 ub_7 H s0 kd_7 ap_7 ac_7 am_7 ra_7 rc_7 rr_7 rm_7 n pa sp al co da M mo td wn → ub_7 ≤ H.size → va_S (fun x => s9.heap.size ≤ x) s9.heap H locs → z = zrF (mxF (llS da mb dd td n) n) → W p0 l e9 room_1 s9 m9 #[Value.ref b] below meth c9 H locs cc ss Q0 (F0 m9 742 ls [(.int (zI z)), .int (zI (ngF (lgF (llS da mb dd td n) n)))]) := by
                      intro H locs z hC hL hub  hS hz
                      subst hz
                      obtain ⟨dg, ah, wl, lo, hC⟩ := hC
                      have hU : s9.heap.size ≤ H.size := hS.1
                      refine zr_icmp_neF (tgt := 761) hx hb (lgF_0 (llS da mb dd td n) n) dL_law_742 (by decide) ?_
                      have J763_14 : ∀ (H : Heap) (locs : List Loc), zJC D cI cZ q pa sp al co da mb dd n td wn H → zSL D cI c1 c2 s0 ub_7 H s0 kd_7 ap_7 ac_7 am_7 ra_7 rc_7 rr_7 rm_7 n pa sp al co da M mo td wn → ub_7 ≤ H.size → va_S (fun x => s9.heap.size ≤ x) s9.heap H locs → W p0 l e9 room_1 s9 m9 #[Value.ref b] below meth c9 H locs cc ss Q0 (F0 m9 763 ls []) := by
                        intro H locs hC hL hub  hS
                        obtain ⟨dg, ah, wl, lo, hC⟩ := hC
                        have hU : s9.heap.size ≤ H.size := hS.1
                        refine lv_aload_n hx hb dL_law_763 rfl (lv_at hl 8 rfl) ?_
                        refine zcallV (ci := 2) (q0 := 0) (cq := (RX2, TX2, 9)) (As := []) (rest := []) ⟨hx, hb, hml, hown, hts⟩ hK (kX2_heaviestLoss l D cI cZ q hN pa sp al dg co da mb dd ah wl lo n td wn hn hco hda hmb hdd htd hpa hsp hal) (cwV 0 hts gL_law_X2_heaviestLoss rfl rfl rfl (by decide +kernel) ⟨Nat.le_of_ble_eq_true rfl, Nat.le_of_ble_eq_true rfl⟩) hC hS (fun x h => hqS x h) rfl rfl rfl hl.1 rfl (Nat.le_of_ble_eq_true rfl) dL_law_764 ⟨show cc ≤ 1200104 from by omega, show ss ≤ 5501314 from by omega⟩ (fun H locs hC hS hz9 hk9 => ?_)
                        have hkq := fun (x : Nat) (h1 : x < _) (h2 : s0 ≤ x) => hk9 x h1 (fun h => absurd (hq0 x h) (Nat.not_lt.mpr h2))
                        have hL := zSL.keep hL (fun x h1 h2 => hkq x (Nat.lt_of_lt_of_le h2 hub) h1)
                        have hU : s9.heap.size ≤ H.size := hS.1
                        have hub : ub_7 ≤ H.size := by omega
                        refine W.eq (g2 := F0 m9 767 ls [.int (zI (hvF al (hlF pa sp al co da mb dd td n n) n))]) rfl ?_
                        obtain ⟨dg, ah, wl, lo, hC⟩ : zJC D cI cZ q pa sp al co da mb dd n td wn H := ⟨_, _, _, _, hC⟩
                        obtain ⟨hv9, hnm_hv9⟩ : ∃ hv9 : Int, hv9 = hvF al (hlF pa sp al co da mb dd td n n) n := ⟨_, rfl⟩; rw [← hnm_hv9]
                        have hvr : -1 ≤ hv9 ∧ hv9 < (n : Int) := by rw [hnm_hv9]; exact hvF_rg _ _ _
                        have hv0 : ngF hv9 = zrF (smF al n) := by rw [hnm_hv9]; exact hvF_0 hal _ n
                        have hva : ¬ hv9 < 0 → al hv9 ≠ 0 := by rw [hnm_hv9]; exact fun h => hvF_al h
                        refine lv_istore (lv' := [(13, .int (zI hv9)), (12, .int (zI (lgF (llS da mb dd td n) n))), (11, .int (zI (mxF (caZ co da mb dd td n) n))), (10, .int (zI (smF (cwN al co da mb dd td n) 6))), (9, .int (zI (mxF (llS da mb dd td n) n))), (8, .int (zI (smF al n))), (7, .int (zI (n : Int))), (5, .long (dgC pa sp al co da mb dd n td wn)), (0, .ref b), (1, .ref (q 0)), (2, .ref s0), (3, .int (zI k9)), (4, .int x)]) hx hb dL_law_767 hl (by decide) rfl (fun ls hl => ?_)
                        have J779_15 : ∀ (H : Heap) (locs : List Loc) (z : Int), zJC D cI cZ q pa sp al co da mb dd n td wn H → zSL D cI c1 c2 s0 ub_7 H s0 kd_7 ap_7 ac_7 am_7 ra_7 rc_7 rr_7 rm_7 n pa sp al co da M mo td wn → ub_7 ≤ H.size → va_S (fun x => s9.heap.size ≤ x) s9.heap H locs → z = ngF hv9 → W p0 l e9 room_1 s9 m9 #[Value.ref b] below meth c9 H locs cc ss Q0 (F0 m9 779 ls [(.int (zI z))]) := by
                          intro H locs z hC hL hub  hS hz
                          subst hz
                          obtain ⟨dg, ah, wl, lo, hC⟩ := hC
                          have hU : s9.heap.size ≤ H.size := hS.1
                          have J789_16 : ∀ (H : Heap) (locs : List Loc) (z : Int), zJC D cI cZ q pa sp al co da mb dd n td wn H → zSL D cI c1 c2 s0 ub_7 H s0 kd_7 ap_7 ac_7 am_7 ra_7 rc_7 rr_7 rm_7 n pa sp al co da M mo td wn → ub_7 ≤ H.size → va_S (fun x => s9.heap.size ≤ x) s9.heap H locs → z = zrF (smF al n) → W p0 l e9 room_1 s9 m9 #[Value.ref b] below meth c9 H locs cc ss Q0 (F0 m9 789 ls [(.int (zI z)), .int (zI (ngF hv9))]) := by
                            intro H locs z hC hL hub  hS hz
                            subst hz
                            obtain ⟨dg, ah, wl, lo, hC⟩ := hC
                            have hU : s9.heap.size ≤ H.size := hS.1
                            refine zr_icmp_neF (tgt := 816) hx hb hv0 dL_law_789 (by decide) ?_
                            have J806_17 : ∀ (H : Heap) (locs : List Loc), zJC D cI cZ q pa sp al co da mb dd n td wn H → zSL D cI c1 c2 s0 ub_7 H s0 kd_7 ap_7 ac_7 am_7 ra_7 rc_7 rr_7 rm_7 n pa sp al co da M mo td wn → ub_7 ≤ H.size → va_S (fun x => s9.heap.size ≤ x) s9.heap H locs → W p0 l e9 room_1 s9 m9 #[Value.ref b] below meth c9 H locs cc ss Q0 (F0 m9 806 ls []) := by
                              intro H locs hC hL hub  hS
                              obtain ⟨dg, ah, wl, lo, hC⟩ := hC
                              have hU : s9.heap.size ≤ H.size := hS.1
                              refine lv_aload_n hx hb dL_law_806 rfl (lv_at hl 9 rfl) ?_
                              refine zcallV (ci := 2) (q0 := 0) (cq := (RX2, TX2, 9)) (As := []) (rest := []) ⟨hx, hb, hml, hown, hts⟩ hK (kX2_digest l D cI cZ q hN pa sp al dg co da mb dd ah wl lo n td wn hn hco hda hmb hdd htd hpa hsp hal) (cwV 0 hts gL_law_X2_digest rfl rfl rfl (by decide +kernel) ⟨Nat.le_of_ble_eq_true rfl, Nat.le_of_ble_eq_true rfl⟩) hC hS (fun x h => hqS x h) rfl rfl rfl hl.1 rfl (Nat.le_of_ble_eq_true rfl) dL_law_807 ⟨show cc ≤ 1200104 from by omega, show ss ≤ 5501314 from by omega⟩ (fun H locs hC hS hz9 hk9 => ?_)
                              have hkq := fun (x : Nat) (h1 : x < _) (h2 : s0 ≤ x) => hk9 x h1 (fun h => absurd (hq0 x h) (Nat.not_lt.mpr h2))
                              have hL := zSL.keep hL (fun x h1 h2 => hkq x (Nat.lt_of_lt_of_le h2 hub) h1)
                              have hU : s9.heap.size ≤ H.size := hS.1
                              have hub : ub_7 ≤ H.size := by omega
                              refine W.eq (g2 := F0 m9 810 ls [.long (dgC pa sp al co da mb dd n td wn)]) rfl ?_
                              obtain ⟨dg, ah, wl, lo, hC⟩ : zJC D cI cZ q pa sp al co da mb dd n td wn H := ⟨_, _, _, _, hC⟩
                              refine lv_lload hx hb dL_law_810 (lv_at hl 7 rfl) ?_
                              refine zr_lcmp_eqT (tgt := 818) hx hb rfl dL_law_812 dL_law_813 (by decide) ?_
                              have hl := lv_sub hl (l' := [(0, .ref b), (1, .ref (q 0)), (2, .ref s0), (3, .int (zI k9)), (4, .int x), (5, .long (dgC pa sp al co da mb dd n td wn)), (7, .int (zI (n : Int)))]) [8, 9, 10, 11, 12, 7, 6] rfl
                              exact K _ _ _ ⟨_, _, _, _, hC⟩ (hL.toW hub) hS hl
                            refine lv_iload hx hb dL_law_792 (lv_at hl 0 rfl) ?_
                            refine zr_if_lt (tgt := 806) hx hb dL_law_794 (by decide) ⟨by omega, by omega⟩ (fun c_18 => ?_) (fun c_18 => ?_)
                            · have c_18 := c_18
                              exact J806_17 _ _ ⟨_, _, _, _, hC⟩ hL hub hS
                            · have c_18 := c_18
                              have hva2 := hva (by omega)
                              have hva3 := hal hv9
                              refine lv_aload_n hx hb dL_law_797 rfl (lv_at hl 9 rfl) ?_
                              refine lv_iload hx hb dL_law_798 (lv_at hl 0 rfl) ?_
                              refine zcallV (ci := 2) (q0 := 0) (cq := (RX2, TX2, 9)) (As := [.int (zI hv9)]) (rest := []) ⟨hx, hb, hml, hown, hts⟩ hK (kX2_isAliveok l D cI cZ q hN pa sp al dg co da mb dd ah wl lo n td wn hn hal hv9 (by omega)) (cwV 1 hts gL_law_X2_isAlive rfl rfl rfl (by decide +kernel) ⟨Nat.le_of_ble_eq_true rfl, Nat.le_of_ble_eq_true rfl⟩) hC hS (fun x h => hqS x h) rfl rfl rfl hl.1 rfl (Nat.le_of_ble_eq_true rfl) dL_law_800 ⟨show cc ≤ 1200104 from by omega, show ss ≤ 5501314 from by omega⟩ (fun H locs hC hS hz9 hk9 => ?_)
                              have hkq := fun (x : Nat) (h1 : x < _) (h2 : s0 ≤ x) => hk9 x h1 (fun h => absurd (hq0 x h) (Nat.not_lt.mpr h2))
                              have hL := zSL.keep hL (fun x h1 h2 => hkq x (Nat.lt_of_lt_of_le h2 hub) h1)
                              have hU : s9.heap.size ≤ H.size := hS.1
                              have hub : ub_7 ≤ H.size := by omega
                              refine W.eq (g2 := F0 m9 803 ls [.int (zI (al hv9))]) rfl ?_
                              refine zr_if_eq (tgt := 816) hx hb dL_law_803 (by decide) ⟨by omega, by omega⟩ (fun c_19 => by exfalso; omega) (fun c_19 => ?_)
                              exact J806_17 _ _ ⟨_, _, _, _, hC⟩ hL hub hS
                          refine lv_iload hx hb dL_law_779 (lv_at hl 5 rfl) ?_
                          refine zr_if_ne (tgt := 788) hx hb dL_law_781 (by decide) ⟨by omega, by omega⟩ (fun c_20 => ?_) (fun c_20 => ?_)
                          · have c_20 := c_20
                            refine zr_iconst hx hb dL_law_788 ?_
                            exact J789_16 _ _ _ ⟨_, _, _, _, hC⟩ hL hub hS ((if_neg (by omega)).symm)
                          · have c_20 := c_20
                            refine zr_iconst hx hb dL_law_784 ?_
                            refine lv_goto (tgt := 789) hx hb dL_law_785 (by decide) ?_
                            exact J789_16 _ _ _ ⟨_, _, _, _, hC⟩ hL hub hS ((if_pos (by omega)).symm)
                        refine lv_iload hx hb dL_law_769 (lv_at hl 0 rfl) ?_
                        refine zr_if_ge (tgt := 778) hx hb dL_law_771 (by decide) ⟨by omega, by omega⟩ (fun c_21 => ?_) (fun c_21 => ?_)
                        · have c_21 := c_21
                          refine zr_iconst hx hb dL_law_778 ?_
                          exact J779_15 _ _ _ ⟨_, _, _, _, hC⟩ hL hub hS ((if_neg (by omega)).symm)
                        · have c_21 := c_21
                          refine zr_iconst hx hb dL_law_774 ?_
                          refine lv_goto (tgt := 779) hx hb dL_law_775 (by decide) ?_
                          exact J779_15 _ _ _ ⟨_, _, _, _, hC⟩ hL hub hS ((if_pos (by omega)).symm)
                      refine lv_iload hx hb dL_law_745 (lv_at hl 0 rfl) ?_
                      refine zr_if_lt (tgt := 763) hx hb dL_law_747 (by decide) ⟨by omega, by omega⟩ (fun c_22 => ?_) (fun c_22 => ?_)
                      · have c_22 := c_22
                        exact J763_14 _ _ ⟨_, _, _, _, hC⟩ hL hub hS
                      · have c_22 := c_22
                        refine lv_aload_n hx hb dL_law_750 rfl (lv_at hl 8 rfl) ?_
                        refine lv_iload hx hb dL_law_751 (lv_at hl 0 rfl) ?_
                        refine zcallV (ci := 2) (q0 := 0) (cq := (RX2, TX2, 9)) (As := [.int (zI (lgF (llS da mb dd td n) n))]) (rest := []) ⟨hx, hb, hml, hown, hts⟩ hK (kX2_daysLeftok l D cI cZ q hN pa sp al dg co da mb dd ah wl lo n td wn hn hda hmb hdd htd (lgF (llS da mb dd td n) n) (by omega)) (cwV 1 hts gL_law_X2_daysLeft rfl rfl rfl (by decide +kernel) ⟨Nat.le_of_ble_eq_true rfl, Nat.le_of_ble_eq_true rfl⟩) hC hS (fun x h => hqS x h) rfl rfl rfl hl.1 rfl (Nat.le_of_ble_eq_true rfl) dL_law_753 ⟨show cc ≤ 1200104 from by omega, show ss ≤ 5501314 from by omega⟩ (fun H locs hC hS hz9 hk9 => ?_)
                        have hkq := fun (x : Nat) (h1 : x < _) (h2 : s0 ≤ x) => hk9 x h1 (fun h => absurd (hq0 x h) (Nat.not_lt.mpr h2))
                        have hL := zSL.keep hL (fun x h1 h2 => hkq x (Nat.lt_of_lt_of_le h2 hub) h1)
                        have hU : s9.heap.size ≤ H.size := hS.1
                        have hub : ub_7 ≤ H.size := by omega
                        refine W.eq (g2 := F0 m9 756 ls [.int (zI (mxF (lf da mb dd td (lgF (llS da mb dd td n) n)) n))]) rfl ?_
                        refine lv_iload hx hb dL_law_756 (lv_at hl 3 rfl) ?_
                        refine zr_icmp_eqT (tgt := 763) hx hb (lgF_at (f := (llS da mb dd td n)) (k := n) (by omega)) dL_law_758 (by decide) ?_
                        exact J763_14 _ _ ⟨_, _, _, _, hC⟩ hL hub hS
                    refine lv_iload hx hb dL_law_732 (lv_at hl 3 rfl) ?_
                    refine zr_if_ne (tgt := 741) hx hb dL_law_734 (by decide) ⟨by omega, by omega⟩ (fun c_23 => ?_) (fun c_23 => ?_)
                    · have c_23 := c_23
                      refine zr_iconst hx hb dL_law_741 ?_
                      exact J742_13 _ _ _ ⟨_, _, _, _, hC⟩ hL hub hS ((if_neg (by omega)).symm)
                    · have c_23 := c_23
                      refine zr_iconst hx hb dL_law_737 ?_
                      refine lv_goto (tgt := 742) hx hb dL_law_738 (by decide) ?_
                      exact J742_13 _ _ _ ⟨_, _, _, _, hC⟩ hL hub hS ((if_pos (by omega)).symm)
                  refine lv_iload hx hb dL_law_722 (lv_at hl 0 rfl) ?_
                  refine zr_if_ge (tgt := 731) hx hb dL_law_724 (by decide) ⟨by omega, by omega⟩ (fun c_24 => ?_) (fun c_24 => ?_)
                  · have c_24 := c_24
                    refine zr_iconst hx hb dL_law_731 ?_
                    exact J732_12 _ _ _ ⟨_, _, _, _, hC⟩ hL hub hS ((if_neg (by omega)).symm)
                  · have c_24 := c_24
                    refine zr_iconst hx hb dL_law_727 ?_
                    refine lv_goto (tgt := 732) hx hb dL_law_728 (by decide) ?_
                    exact J732_12 _ _ _ ⟨_, _, _, _, hC⟩ hL hub hS ((if_pos (by omega)).symm)
                refine lv_iload hx hb dL_law_705 (lv_at hl 1 rfl) ?_
                refine zr_iconst hx hb dL_law_707 ?_
                refine zr_icmp_ge (tgt := 722) hx hb dL_law_708 (by decide) ⟨by omega, by omega⟩ ⟨by decide, by decide⟩ (fun c_25 => ?_) (fun c_25 => ?_)
                · have c_25 := c_25
                  exact J722_11 _ _ ⟨_, _, _, _, hC⟩ hL hub hS
                · have c_25 := c_25
                  have hab : smF (cwF al co da mb dd td n ((mxF (caZ co da mb dd td n) n) + 1)) n = 0 := cwN_above (al := al) (co := co) (da := da) (mb := mb) (dd := dd) (td := td) (n := n) (c := (mxF (caZ co da mb dd td n) n) + 1) (by omega)
                  refine lv_aload_n hx hb dL_law_711 rfl (lv_at hl 8 rfl) ?_
                  refine lv_iload hx hb dL_law_712 (lv_at hl 1 rfl) ?_
                  refine zr_iconst hx hb dL_law_714 ?_
                  refine zr_iadd (v := (mxF (caZ co da mb dd td n) n) + 1) hx hb rfl dL_law_715 ?_
                  refine zcallV (ci := 2) (q0 := 0) (cq := (RX2, TX2, 9)) (As := [.int (zI ((mxF (caZ co da mb dd td n) n) + 1))]) (rest := []) ⟨hx, hb, hml, hown, hts⟩ hK (kX2_wearingok l D cI cZ q hN pa sp al dg co da mb dd ah wl lo n td wn hn hco hda hmb hdd htd hal ((mxF (caZ co da mb dd td n) n) + 1) (by omega)) (cwV 1 hts gL_law_X2_wearing rfl rfl rfl (by decide +kernel) ⟨Nat.le_of_ble_eq_true rfl, Nat.le_of_ble_eq_true rfl⟩) hC hS (fun x h => hqS x h) rfl rfl rfl hl.1 rfl (Nat.le_of_ble_eq_true rfl) dL_law_716 ⟨show cc ≤ 1200104 from by omega, show ss ≤ 5501314 from by omega⟩ (fun H locs hC hS hz9 hk9 => ?_)
                  have hkq := fun (x : Nat) (h1 : x < _) (h2 : s0 ≤ x) => hk9 x h1 (fun h => absurd (hq0 x h) (Nat.not_lt.mpr h2))
                  have hL := zSL.keep hL (fun x h1 h2 => hkq x (Nat.lt_of_lt_of_le h2 hub) h1)
                  have hU : s9.heap.size ≤ H.size := hS.1
                  have hub : ub_7 ≤ H.size := by omega
                  refine W.eq (g2 := F0 m9 719 ls [.int (zI (smF (cwF al co da mb dd td n ((mxF (caZ co da mb dd td n) n) + 1)) n))]) rfl ?_
                  refine zr_if_gt (tgt := 761) hx hb dL_law_719 (by decide) ⟨by omega, by omega⟩ (fun c_26 => by exfalso; omega) (fun c_26 => ?_)
                  exact J722_11 _ _ ⟨_, _, _, _, hC⟩ hL hub hS
              refine lv_iload hx hb dL_law_691 (lv_at hl 1 rfl) ?_
              refine zr_if_le (tgt := 705) hx hb dL_law_693 (by decide) ⟨by omega, by omega⟩ (fun c_27 => ?_) (fun c_27 => ?_)
              · have c_27 := c_27
                exact J705_10 _ _ ⟨_, _, _, _, hC⟩ hL hub hS
              · have c_27 := c_27
                have hsw : 0 < smF (cwF al co da mb dd td n (mxF (caZ co da mb dd td n) n)) n := hI.stW (by omega)
                have hswr : 0 ≤ smF (cwF al co da mb dd td n (mxF (caZ co da mb dd td n) n)) n ∧ smF (cwF al co da mb dd td n (mxF (caZ co da mb dd td n) n)) n ≤ 1 * (n : Int) := cwN_rg al co da mb dd td n (mxF (caZ co da mb dd td n) n)
                refine lv_aload_n hx hb dL_law_696 rfl (lv_at hl 8 rfl) ?_
                refine lv_iload hx hb dL_law_697 (lv_at hl 1 rfl) ?_
                refine zcallV (ci := 2) (q0 := 0) (cq := (RX2, TX2, 9)) (As := [.int (zI (mxF (caZ co da mb dd td n) n))]) (rest := []) ⟨hx, hb, hml, hown, hts⟩ hK (kX2_wearingok l D cI cZ q hN pa sp al dg co da mb dd ah wl lo n td wn hn hco hda hmb hdd htd hal (mxF (caZ co da mb dd td n) n) (by omega)) (cwV 1 hts gL_law_X2_wearing rfl rfl rfl (by decide +kernel) ⟨Nat.le_of_ble_eq_true rfl, Nat.le_of_ble_eq_true rfl⟩) hC hS (fun x h => hqS x h) rfl rfl rfl hl.1 rfl (Nat.le_of_ble_eq_true rfl) dL_law_699 ⟨show cc ≤ 1200104 from by omega, show ss ≤ 5501314 from by omega⟩ (fun H locs hC hS hz9 hk9 => ?_)
                have hkq := fun (x : Nat) (h1 : x < _) (h2 : s0 ≤ x) => hk9 x h1 (fun h => absurd (hq0 x h) (Nat.not_lt.mpr h2))
                have hL := zSL.keep hL (fun x h1 h2 => hkq x (Nat.lt_of_lt_of_le h2 hub) h1)
                have hU : s9.heap.size ≤ H.size := hS.1
                have hub : ub_7 ≤ H.size := by omega
                refine W.eq (g2 := F0 m9 702 ls [.int (zI (smF (cwF al co da mb dd td n (mxF (caZ co da mb dd td n) n)) n))]) rfl ?_
                refine zr_if_eq (tgt := 761) hx hb dL_law_702 (by decide) ⟨by omega, by omega⟩ (fun c_28 => by exfalso; omega) (fun c_28 => ?_)
                exact J705_10 _ _ ⟨_, _, _, _, hC⟩ hL hub hS
            · have c_8 := c_8
              refine lv_iload hx hb dL_law_646 (lv_at hl 1 rfl) ?_
              refine lv_aload_n hx hb dL_law_648 rfl (lv_at hl 7 rfl) ?_
              refine lv_iload hx hb dL_law_649 (lv_at hl 0 rfl) ?_
              refine zcallV (ci := 2) (q0 := 0) (cq := (RX2, TX2, 9)) (As := [.int (zI (c : Int))]) (rest := [.int (zI (smF (cwN al co da mb dd td n) c))]) ⟨hx, hb, hml, hown, hts⟩ hK (kX2_wearingok l D cI cZ q hN pa sp al dg co da mb dd ah wl lo n td wn hn hco hda hmb hdd htd hal (c : Int) (by omega)) (cwV 1 hts gL_law_X2_wearing rfl rfl rfl (by decide +kernel) ⟨Nat.le_of_ble_eq_true rfl, Nat.le_of_ble_eq_true rfl⟩) hC hS (fun x h => hqS x h) rfl rfl rfl hl.1 rfl (Nat.le_of_ble_eq_true rfl) dL_law_651 ⟨show cc ≤ 1200104 from by omega, show ss ≤ 5501314 from by omega⟩ (fun H locs hC hS hz9 hk9 => ?_)
              have hkq := fun (x : Nat) (h1 : x < _) (h2 : s0 ≤ x) => hk9 x h1 (fun h => absurd (hq0 x h) (Nat.not_lt.mpr h2))
              have hL := zSL.keep hL (fun x h1 h2 => hkq x (Nat.lt_of_lt_of_le h2 hub) h1)
              have hU : s9.heap.size ≤ H.size := hS.1
              have hub : ub_7 ≤ H.size := by omega
              refine W.eq (g2 := F0 m9 654 ls [.int (zI (smF (cwF al co da mb dd td n (c : Int)) n)), .int (zI (smF (cwN al co da mb dd td n) c))]) rfl ?_
              refine zr_iadd (v := (smF (cwN al co da mb dd td n) c) + (smF (cwF al co da mb dd td n (c : Int)) n)) hx hb rfl dL_law_654 ?_
              refine lv_istore (lv' := [(10, .int (zI ((smF (cwN al co da mb dd td n) c) + (smF (cwF al co da mb dd td n (c : Int)) n)))), (11, .int (zI (c : Int))), (9, .int (zI (mxF (llS da mb dd td n) n))), (8, .int (zI (smF al n))), (7, .int (zI (n : Int))), (5, .long (dgC pa sp al co da mb dd n td wn)), (0, .ref b), (1, .ref (q 0)), (2, .ref s0), (3, .int (zI k9)), (4, .int x)]) hx hb dL_law_655 hl (by decide) rfl (fun ls hl => ?_)
              refine zr_iinc (v := (c : Int) + 1) (lv' := [(11, .int (zI ((c : Int) + 1))), (10, .int (zI ((smF (cwN al co da mb dd td n) c) + (smF (cwF al co da mb dd td n (c : Int)) n)))), (9, .int (zI (mxF (llS da mb dd td n) n))), (8, .int (zI (smF al n))), (7, .int (zI (n : Int))), (5, .long (dgC pa sp al co da mb dd n td wn)), (0, .ref b), (1, .ref (q 0)), (2, .ref s0), (3, .int (zI k9)), (4, .int x)]) hx hb dL_law_657 hl (k := 1) rfl rfl (by decide) rfl (fun ls hl => ?_)
              refine lv_goto (tgt := 639) hx hb dL_law_660 (by decide) ?_
              have hl := lv_sub hl (l' := [(11, .int (zI ((c : Int) + 1))), (10, .int (zI ((smF (cwN al co da mb dd td n) c) + (smF (cwF al co da mb dd td n (c : Int)) n)))), (9, .int (zI (mxF (llS da mb dd td n) n))), (8, .int (zI (smF al n))), (7, .int (zI (n : Int))), (5, .long (dgC pa sp al co da mb dd n td wn)), (0, .ref b), (1, .ref (q 0)), (2, .ref s0), (3, .int (zI k9)), (4, .int x)]) [0, 1, 2, 3, 4, 5, 6, 7, 8, 9, 10] rfl
              have e_29 : ((((c + 1) : Nat) : Int) : Int) = (c : Int) + 1 := by omega
              have e_30 : (smF (cwN al co da mb dd td n) (c + 1) : Int) = (smF (cwN al co da mb dd td n) c) + (smF (cwF al co da mb dd td n (c : Int)) n) := by rw [smF_s]
              have hl : lv_has ls 20 [(11, .int (zI (((c + 1) : Nat) : Int))), (10, .int (zI (smF (cwN al co da mb dd td n) (c + 1)))), (9, .int (zI (mxF (llS da mb dd td n) n))), (8, .int (zI (smF al n))), (7, .int (zI (n : Int))), (5, .long (dgC pa sp al co da mb dd n td wn)), (0, .ref b), (1, .ref (q 0)), (2, .ref s0), (3, .int (zI k9)), (4, .int x)] := by rw [e_29, e_30]; exact hl
              exact ih_c (c + 1) (by omega) (by omega) _ _ _ (⟨_, _, _, _, hC⟩) (hL.toW hub) hS hl 
        have hl := lv_sub hl (l' := [(11, .int (zI 0)), (10, .int (zI 0)), (9, .int (zI (mxF (llS da mb dd td n) n))), (8, .int (zI (smF al n))), (7, .int (zI (n : Int))), (5, .long (dgC pa sp al co da mb dd n td wn)), (0, .ref b), (1, .ref (q 0)), (2, .ref s0), (3, .int (zI k9)), (4, .int x)]) [0, 1, 2, 3, 4, 5, 6, 7, 8, 9, 10] rfl
        have e_31 : (smF (cwN al co da mb dd td n) 0 : Int) = 0 := rfl
        have hl : lv_has ls 20 [(11, .int (zI 0)), (10, .int (zI (smF (cwN al co da mb dd td n) 0))), (9, .int (zI (mxF (llS da mb dd td n) n))), (8, .int (zI (smF al n))), (7, .int (zI (n : Int))), (5, .long (dgC pa sp al co da mb dd n td wn)), (0, .ref b), (1, .ref (q 0)), (2, .ref s0), (3, .int (zI k9)), (4, .int x)] := by rw [e_31]; exact hl
        exact L639_6 (6 + 1) 0 (Nat.zero_le _) (by omega) _ _ _ (⟨_, _, _, _, hC⟩) (hL.toW hub) hS hl 
      · have c_4 := c_4
        have hlp0 := hI.ll180 (p : Int)
        have hlpn : 0 ≤ mxF (lf da mb dd td (p : Int)) n := mxF_nn _ _
        have hll : llS da mb dd td n (p : Int) = mxF (lf da mb dd td (p : Int)) n := rfl
        have hap := hal (p : Int)
        have hpap := hpa (p : Int)
        have hspp := hsp (p : Int)
        refine lv_iload hx hb dL_law_108 (lv_at hl 2 rfl) ?_
        refine lv_aload_n hx hb dL_law_110 rfl (lv_at hl 6 rfl) ?_
        refine lv_iload hx hb dL_law_111 (lv_at hl 0 rfl) ?_
        refine zcallV (ci := 2) (q0 := 0) (cq := (RX2, TX2, 9)) (As := [.int (zI (p : Int))]) (rest := [.int (zI (smF al p))]) ⟨hx, hb, hml, hown, hts⟩ hK (kX2_isAliveok l D cI cZ q hN pa sp al dg co da mb dd ah wl lo n td wn hn hal (p : Int) (by omega)) (cwV 1 hts gL_law_X2_isAlive rfl rfl rfl (by decide +kernel) ⟨Nat.le_of_ble_eq_true rfl, Nat.le_of_ble_eq_true rfl⟩) hC hS (fun x h => hqS x h) rfl rfl rfl hl.1 rfl (Nat.le_of_ble_eq_true rfl) dL_law_113 ⟨show cc ≤ 1200104 from by omega, show ss ≤ 5501314 from by omega⟩ (fun H locs hC hS hz9 hk9 => ?_)
        have hkq := fun (x : Nat) (h1 : x < _) (h2 : s0 ≤ x) => hk9 x h1 (fun h => absurd (hq0 x h) (Nat.not_lt.mpr h2))
        have hL := zSL.keep hL (fun x h1 h2 => hkq x (Nat.lt_of_lt_of_le h2 hub) h1)
        have hU : s9.heap.size ≤ H.size := hS.1
        have hub : ub_3 ≤ H.size := by omega
        refine W.eq (g2 := F0 m9 116 ls [.int (zI (al (p : Int))), .int (zI (smF al p))]) rfl ?_
        have J124_32 : ∀ (H : Heap) (locs : List Loc) (z : Int), zJC D cI cZ q pa sp al co da mb dd n td wn H → zSL D cI c1 c2 s0 ub_3 H s0 kd_3 ap_3 ac_3 am_3 ra_3 rc_3 rr_3 rm_3 n pa sp al co da M mo td wn → ub_3 ≤ H.size → va_S (fun x => s9.heap.size ≤ x) s9.heap H locs → z = al (p : Int) → W p0 l e9 room_1 s9 m9 #[Value.ref b] below meth c9 H locs cc ss Q0 (F0 m9 124 ls [(.int (zI z)), .int (zI (smF al p))]) := by
          intro H locs z hC hL hub  hS hz
          subst hz
          obtain ⟨dg, ah, wl, lo, hC⟩ := hC
          have hU : s9.heap.size ≤ H.size := hS.1
          refine zr_iadd (v := (smF al p) + (al (p : Int))) hx hb rfl dL_law_124 ?_
          refine lv_istore (lv' := [(8, .int (zI ((smF al p) + (al (p : Int))))), (10, .int (zI (p : Int))), (9, .int (zI (mxF (llS da mb dd td n) p))), (7, .int (zI (n : Int))), (5, .long (dgC pa sp al co da mb dd n td wn)), (0, .ref b), (1, .ref (q 0)), (2, .ref s0), (3, .int (zI k9)), (4, .int x)]) hx hb dL_law_125 hl (by decide) rfl (fun ls hl => ?_)
          refine zr_iconst hx hb dL_law_127 ?_
          refine lv_istore (lv' := [(11, .int (zI 0)), (8, .int (zI ((smF al p) + (al (p : Int))))), (10, .int (zI (p : Int))), (9, .int (zI (mxF (llS da mb dd td n) p))), (7, .int (zI (n : Int))), (5, .long (dgC pa sp al co da mb dd n td wn)), (0, .ref b), (1, .ref (q 0)), (2, .ref s0), (3, .int (zI k9)), (4, .int x)]) hx hb dL_law_128 hl (by decide) rfl (fun ls hl => ?_)
          refine zr_iconst hx hb dL_law_130 ?_
          refine lv_istore (lv' := [(12, .int (zI 0)), (11, .int (zI 0)), (8, .int (zI ((smF al p) + (al (p : Int))))), (10, .int (zI (p : Int))), (9, .int (zI (mxF (llS da mb dd td n) p))), (7, .int (zI (n : Int))), (5, .long (dgC pa sp al co da mb dd n td wn)), (0, .ref b), (1, .ref (q 0)), (2, .ref s0), (3, .int (zI k9)), (4, .int x)]) hx hb dL_law_131 hl (by decide) rfl (fun ls hl => ?_)
          refine zr_iconst hx hb dL_law_133 ?_
          refine lv_istore (lv' := [(13, .int (zI 0)), (12, .int (zI 0)), (11, .int (zI 0)), (8, .int (zI ((smF al p) + (al (p : Int))))), (10, .int (zI (p : Int))), (9, .int (zI (mxF (llS da mb dd td n) p))), (7, .int (zI (n : Int))), (5, .long (dgC pa sp al co da mb dd n td wn)), (0, .ref b), (1, .ref (q 0)), (2, .ref s0), (3, .int (zI k9)), (4, .int x)]) hx hb dL_law_134 hl (by decide) rfl (fun ls hl => ?_)
          refine zr_iconst hx hb dL_law_136 ?_
          refine lv_istore (lv' := [(14, .int (zI 0)), (13, .int (zI 0)), (12, .int (zI 0)), (11, .int (zI 0)), (8, .int (zI ((smF al p) + (al (p : Int))))), (10, .int (zI (p : Int))), (9, .int (zI (mxF (llS da mb dd td n) p))), (7, .int (zI (n : Int))), (5, .long (dgC pa sp al co da mb dd n td wn)), (0, .ref b), (1, .ref (q 0)), (2, .ref s0), (3, .int (zI k9)), (4, .int x)]) hx hb dL_law_137 hl (by decide) rfl (fun ls hl => ?_)
          have L139_33 : ∀ (kf j : Nat), j ≤ n → n - j < kf → ∀ (H : Heap) (locs : List Loc) (ls : Array Slot), (zJC D cI cZ q pa sp al co da mb dd n td wn H) → (zSW D cI c1 c2 s0 s0 n pa sp al co da M mo td wn H) → va_S (fun x => s9.heap.size ≤ x) s9.heap H locs → lv_has ls 20 [(14, .int (zI (j : Int))), (13, .int (zI (smF (gtF (lf da mb dd td (p : Int))) j))), (12, .int (zI (mxF (lf da mb dd td (p : Int)) j))), (11, .int (zI (smF (kaF al (dgF pa sp n (p : Int))) j))), (8, .int (zI ((smF al p) + (al (p : Int))))), (10, .int (zI (p : Int))), (9, .int (zI (mxF (llS da mb dd td n) p))), (7, .int (zI (n : Int))), (5, .long (dgC pa sp al co da mb dd n td wn)), (0, .ref b), (1, .ref (q 0)), (2, .ref s0), (3, .int (zI k9)), (4, .int x)] → W p0 l e9 room_1 s9 m9 #[Value.ref b] below meth c9 H locs cc ss Q0 (F0 m9 139 ls []) := by
            intro kf
            induction kf with
            | zero => intro j h1 h2; omega
            | succ kf ih =>
              intro j hi_j hk_j H locs ls  hC hL hS hl 
              have ih_j := ih
              clear ih
              have hU : s9.heap.size ≤ H.size := hS.1
              obtain ⟨dg, ah, wl, lo, hC⟩ := hC
              obtain ⟨kd_34, ap_34, ac_34, am_34, ra_34, rc_34, rr_34, rm_34, hL⟩ := hL
              obtain ⟨ub_34, hub, hL⟩ : ∃ ub_34 : Nat, ub_34 ≤ H.size ∧ zSL D cI c1 c2 s0 ub_34 H s0 kd_34 ap_34 ac_34 am_34 ra_34 rc_34 rr_34 rm_34 n pa sp al co da M mo td wn := ⟨H.size, Nat.le_refl _, hL⟩
              have hs0 := hL.s0u
              have h11 := smF_bd (f := kaF al (dgF pa sp n (p : Int))) (k := j) (B := 1) (kaF_01 al (dgF pa sp n (p : Int)))
              have h12 := mxF_bk (f := (lf da mb dd td (p : Int))) (k := j) (B := 180) (by decide) (fun j _ _ => (hI.lf180 (p : Int) j).2)
              have h13 := smF_bd (f := gtF (lf da mb dd td (p : Int))) (k := j) (B := 1) (gtF_01 (lf da mb dd td (p : Int)))
              refine lv_iload hx hb dL_law_139 (lv_at hl 0 rfl) ?_
              refine lv_iload hx hb dL_law_141 (lv_at hl 7 rfl) ?_
              refine zr_icmp_ge (tgt := 352) hx hb dL_law_143 (by decide) ⟨by omega, by omega⟩ ⟨by omega, by omega⟩ (fun c_35 => ?_) (fun c_35 => ?_)
              · have c_35 := c_35
                have x_36 : j = n := by omega
                try rw [x_36] at hl
                try rw [x_36] at hC
                try rw [x_36] at hL
                refine zr_iconst hx hb dL_law_352 ?_
                refine lv_istore (lv' := [(14, .int (zI 0)), (13, .int (zI (smF (gtF (lf da mb dd td (p : Int))) n))), (12, .int (zI (mxF (lf da mb dd td (p : Int)) n))), (11, .int (zI (smF (kaF al (dgF pa sp n (p : Int))) n))), (8, .int (zI ((smF al p) + (al (p : Int))))), (10, .int (zI (p : Int))), (9, .int (zI (mxF (llS da mb dd td n) p))), (7, .int (zI (n : Int))), (5, .long (dgC pa sp al co da mb dd n td wn)), (0, .ref b), (1, .ref (q 0)), (2, .ref s0), (3, .int (zI k9)), (4, .int x)]) hx hb dL_law_353 hl (by decide) rfl (fun ls hl => ?_)
                refine zr_iconst hx hb dL_law_355 ?_
                refine lv_istore (lv' := [(15, .int (zI 1)), (14, .int (zI 0)), (13, .int (zI (smF (gtF (lf da mb dd td (p : Int))) n))), (12, .int (zI (mxF (lf da mb dd td (p : Int)) n))), (11, .int (zI (smF (kaF al (dgF pa sp n (p : Int))) n))), (8, .int (zI ((smF al p) + (al (p : Int))))), (10, .int (zI (p : Int))), (9, .int (zI (mxF (llS da mb dd td n) p))), (7, .int (zI (n : Int))), (5, .long (dgC pa sp al co da mb dd n td wn)), (0, .ref b), (1, .ref (q 0)), (2, .ref s0), (3, .int (zI k9)), (4, .int x)]) hx hb dL_law_356 hl (by decide) rfl (fun ls hl => ?_)
                have L358_37 : ∀ (kf g : Nat), g ≤ 4 → 4 - g < kf → ∀ (H : Heap) (locs : List Loc) (ls : Array Slot), (zJC D cI cZ q pa sp al co da mb dd n td wn H) → (zSW D cI c1 c2 s0 s0 n pa sp al co da M mo td wn H) → va_S (fun x => s9.heap.size ≤ x) s9.heap H locs → lv_has ls 20 [(15, .int (zI ((g : Int) + 1))), (14, .int (zI (smF (fun g => smF (kinF al (dgF pa sp n (p : Int)) (g + 1)) n) g))), (13, .int (zI (smF (gtF (lf da mb dd td (p : Int))) n))), (12, .int (zI (mxF (lf da mb dd td (p : Int)) n))), (11, .int (zI (smF (kaF al (dgF pa sp n (p : Int))) n))), (8, .int (zI ((smF al p) + (al (p : Int))))), (10, .int (zI (p : Int))), (9, .int (zI (mxF (llS da mb dd td n) p))), (7, .int (zI (n : Int))), (5, .long (dgC pa sp al co da mb dd n td wn)), (0, .ref b), (1, .ref (q 0)), (2, .ref s0), (3, .int (zI k9)), (4, .int x)] → W p0 l e9 room_1 s9 m9 #[Value.ref b] below meth c9 H locs cc ss Q0 (F0 m9 358 ls []) := by
                  intro kf
                  induction kf with
                  | zero => intro g h1 h2; omega
                  | succ kf ih =>
                    intro g hi_g hk_g H locs ls  hC hL hS hl 
                    have ih_g := ih
                    clear ih
                    have hU : s9.heap.size ≤ H.size := hS.1
                    obtain ⟨dg, ah, wl, lo, hC⟩ := hC
                    obtain ⟨kd_38, ap_38, ac_38, am_38, ra_38, rc_38, rr_38, rm_38, hL⟩ := hL
                    obtain ⟨ub_38, hub, hL⟩ : ∃ ub_38 : Nat, ub_38 ≤ H.size ∧ zSL D cI c1 c2 s0 ub_38 H s0 kd_38 ap_38 ac_38 am_38 ra_38 rc_38 rr_38 rm_38 n pa sp al co da M mo td wn := ⟨H.size, Nat.le_refl _, hL⟩
                    have hs0 := hL.s0u
                    refine lv_iload hx hb dL_law_358 (lv_at hl 0 rfl) ?_
                    refine zr_iconst hx hb dL_law_360 ?_
                    refine zr_icmp_ge (tgt := 383) hx hb dL_law_361 (by decide) ⟨by omega, by omega⟩ ⟨by decide, by decide⟩ (fun c_39 => ?_) (fun c_39 => ?_)
                    · have c_39 := c_39
                      have x_40 : g = 4 := by omega
                      try rw [x_40] at hl
                      try rw [x_40] at hC
                      try rw [x_40] at hL
                      refine zr_iconst hx hb dL_law_383 ?_
                      refine lv_istore (lv' := [(15, .int (zI 0)), (14, .int (zI (smF (fun g => smF (kinF al (dgF pa sp n (p : Int)) (g + 1)) n) 4))), (13, .int (zI (smF (gtF (lf da mb dd td (p : Int))) n))), (12, .int (zI (mxF (lf da mb dd td (p : Int)) n))), (11, .int (zI (smF (kaF al (dgF pa sp n (p : Int))) n))), (8, .int (zI ((smF al p) + (al (p : Int))))), (10, .int (zI (p : Int))), (9, .int (zI (mxF (llS da mb dd td n) p))), (7, .int (zI (n : Int))), (5, .long (dgC pa sp al co da mb dd n td wn)), (0, .ref b), (1, .ref (q 0)), (2, .ref s0), (3, .int (zI k9)), (4, .int x)]) hx hb dL_law_384 hl (by decide) rfl (fun ls hl => ?_)
                      refine zr_iconst hx hb dL_law_386 ?_
                      refine lv_istore (lv' := [(16, .int (zI 1)), (15, .int (zI 0)), (14, .int (zI (smF (fun g => smF (kinF al (dgF pa sp n (p : Int)) (g + 1)) n) 4))), (13, .int (zI (smF (gtF (lf da mb dd td (p : Int))) n))), (12, .int (zI (mxF (lf da mb dd td (p : Int)) n))), (11, .int (zI (smF (kaF al (dgF pa sp n (p : Int))) n))), (8, .int (zI ((smF al p) + (al (p : Int))))), (10, .int (zI (p : Int))), (9, .int (zI (mxF (llS da mb dd td n) p))), (7, .int (zI (n : Int))), (5, .long (dgC pa sp al co da mb dd n td wn)), (0, .ref b), (1, .ref (q 0)), (2, .ref s0), (3, .int (zI k9)), (4, .int x)]) hx hb dL_law_387 hl (by decide) rfl (fun ls hl => ?_)
                      have L389_41 : ∀ (kf g : Nat), g ≤ 5 → 5 - g < kf → ∀ (H : Heap) (locs : List Loc) (ls : Array Slot), (zJC D cI cZ q pa sp al co da mb dd n td wn H) → (zSW D cI c1 c2 s0 s0 n pa sp al co da M mo td wn H) → va_S (fun x => s9.heap.size ≤ x) s9.heap H locs → lv_has ls 20 [(16, .int (zI ((g : Int) + 1))), (15, .int (zI (smF (fun g => smF (eqF (ca co da mb dd td n (p : Int)) (g + 1)) 180) g))), (14, .int (zI (smF (fun g => smF (kinF al (dgF pa sp n (p : Int)) (g + 1)) n) 4))), (13, .int (zI (smF (gtF (lf da mb dd td (p : Int))) n))), (12, .int (zI (mxF (lf da mb dd td (p : Int)) n))), (11, .int (zI (smF (kaF al (dgF pa sp n (p : Int))) n))), (8, .int (zI ((smF al p) + (al (p : Int))))), (10, .int (zI (p : Int))), (9, .int (zI (mxF (llS da mb dd td n) p))), (7, .int (zI (n : Int))), (5, .long (dgC pa sp al co da mb dd n td wn)), (0, .ref b), (1, .ref (q 0)), (2, .ref s0), (3, .int (zI k9)), (4, .int x)] → W p0 l e9 room_1 s9 m9 #[Value.ref b] below meth c9 H locs cc ss Q0 (F0 m9 389 ls []) := by
                        intro kf
                        induction kf with
                        | zero => intro g h1 h2; omega
                        | succ kf ih =>
                          intro g hi_g hk_g H locs ls  hC hL hS hl 
                          have ih_g := ih
                          clear ih
                          have hU : s9.heap.size ≤ H.size := hS.1
                          obtain ⟨dg, ah, wl, lo, hC⟩ := hC
                          obtain ⟨kd_42, ap_42, ac_42, am_42, ra_42, rc_42, rr_42, rm_42, hL⟩ := hL
                          obtain ⟨ub_42, hub, hL⟩ : ∃ ub_42 : Nat, ub_42 ≤ H.size ∧ zSL D cI c1 c2 s0 ub_42 H s0 kd_42 ap_42 ac_42 am_42 ra_42 rc_42 rr_42 rm_42 n pa sp al co da M mo td wn := ⟨H.size, Nat.le_refl _, hL⟩
                          have hs0 := hL.s0u
                          refine lv_iload hx hb dL_law_389 (lv_at hl 0 rfl) ?_
                          refine zr_bipush hx hb dL_law_391 (by decide) ?_
                          refine zr_icmp_ge (tgt := 415) hx hb dL_law_393 (by decide) ⟨by omega, by omega⟩ ⟨by decide, by decide⟩ (fun c_43 => ?_) (fun c_43 => ?_)
                          · have c_43 := c_43
                            have x_44 : g = 5 := by omega
                            try rw [x_44] at hl
                            try rw [x_44] at hC
                            try rw [x_44] at hL
                            refine lv_aload_n hx hb dL_law_415 rfl (lv_at hl 12 rfl) ?_
                            refine lv_iload hx hb dL_law_416 (lv_at hl 7 rfl) ?_
                            refine zcallV (ci := 2) (q0 := 0) (cq := (RX2, TX2, 9)) (As := [.int (zI (p : Int))]) (rest := []) ⟨hx, hb, hml, hown, hts⟩ hK (kX2_marriedTook l D cI cZ q hN pa sp al dg co da mb dd ah wl lo n td wn hn hsp (p : Int) (by omega)) (cwV 1 hts gL_law_X2_marriedTo rfl rfl rfl (by decide +kernel) ⟨Nat.le_of_ble_eq_true rfl, Nat.le_of_ble_eq_true rfl⟩) hC hS (fun x h => hqS x h) rfl rfl rfl hl.1 rfl (Nat.le_of_ble_eq_true rfl) dL_law_418 ⟨show cc ≤ 1200104 from by omega, show ss ≤ 5501314 from by omega⟩ (fun H locs hC hS hz9 hk9 => ?_)
                            have hkq := fun (x : Nat) (h1 : x < _) (h2 : s0 ≤ x) => hk9 x h1 (fun h => absurd (hq0 x h) (Nat.not_lt.mpr h2))
                            have hL := zSL.keep hL (fun x h1 h2 => hkq x (Nat.lt_of_lt_of_le h2 hub) h1)
                            have hU : s9.heap.size ≤ H.size := hS.1
                            have hub : ub_42 ≤ H.size := by omega
                            refine W.eq (g2 := F0 m9 421 ls [.int (zI (sp (p : Int)))]) rfl ?_
                            refine lv_istore (lv' := [(16, .int (zI (sp (p : Int)))), (15, .int (zI (smF (fun g => smF (eqF (ca co da mb dd td n (p : Int)) (g + 1)) 180) 5))), (14, .int (zI (smF (fun g => smF (kinF al (dgF pa sp n (p : Int)) (g + 1)) n) 4))), (13, .int (zI (smF (gtF (lf da mb dd td (p : Int))) n))), (12, .int (zI (mxF (lf da mb dd td (p : Int)) n))), (11, .int (zI (smF (kaF al (dgF pa sp n (p : Int))) n))), (8, .int (zI ((smF al p) + (al (p : Int))))), (10, .int (zI (p : Int))), (9, .int (zI (mxF (llS da mb dd td n) p))), (7, .int (zI (n : Int))), (5, .long (dgC pa sp al co da mb dd n td wn)), (0, .ref b), (1, .ref (q 0)), (2, .ref s0), (3, .int (zI k9)), (4, .int x)]) hx hb dL_law_421 hl (by decide) rfl (fun ls hl => ?_)
                            refine lv_iload hx hb dL_law_423 (lv_at hl 2 rfl) ?_
                            refine lv_iload hx hb dL_law_425 (lv_at hl 5 rfl) ?_
                            refine zr_icmp_neF (tgt := 520) hx hb (kin_all al (dgF_bd pa sp n (p : Int)) n) dL_law_427 (by decide) ?_
                            refine lv_iload hx hb dL_law_430 (lv_at hl 4 rfl) ?_
                            refine lv_aload_n hx hb dL_law_432 rfl (lv_at hl 12 rfl) ?_
                            refine lv_iload hx hb dL_law_433 (lv_at hl 7 rfl) ?_
                            refine zcallV (ci := 2) (q0 := 0) (cq := (RX2, TX2, 9)) (As := [.int (zI (p : Int))]) (rest := [.int (zI (mxF (lf da mb dd td (p : Int)) n))]) ⟨hx, hb, hml, hown, hts⟩ hK (kX2_daysLeftok l D cI cZ q hN pa sp al dg co da mb dd ah wl lo n td wn hn hda hmb hdd htd (p : Int) (by omega)) (cwV 1 hts gL_law_X2_daysLeft rfl rfl rfl (by decide +kernel) ⟨Nat.le_of_ble_eq_true rfl, Nat.le_of_ble_eq_true rfl⟩) hC hS (fun x h => hqS x h) rfl rfl rfl hl.1 rfl (Nat.le_of_ble_eq_true rfl) dL_law_435 ⟨show cc ≤ 1200104 from by omega, show ss ≤ 5501314 from by omega⟩ (fun H locs hC hS hz9 hk9 => ?_)
                            have hkq := fun (x : Nat) (h1 : x < _) (h2 : s0 ≤ x) => hk9 x h1 (fun h => absurd (hq0 x h) (Nat.not_lt.mpr h2))
                            have hL := zSL.keep hL (fun x h1 h2 => hkq x (Nat.lt_of_lt_of_le h2 hub) h1)
                            have hU : s9.heap.size ≤ H.size := hS.1
                            have hub : ub_42 ≤ H.size := by omega
                            refine W.eq (g2 := F0 m9 438 ls [.int (zI (mxF (lf da mb dd td (p : Int)) n)), .int (zI (mxF (lf da mb dd td (p : Int)) n))]) rfl ?_
                            refine zr_icmp_neF (tgt := 520) hx hb rfl dL_law_438 (by decide) ?_
                            refine lv_iload hx hb dL_law_441 (lv_at hl 3 rfl) ?_
                            refine lv_aload_n hx hb dL_law_443 rfl (lv_at hl 12 rfl) ?_
                            refine lv_iload hx hb dL_law_444 (lv_at hl 7 rfl) ?_
                            refine zcallV (ci := 2) (q0 := 0) (cq := (RX2, TX2, 9)) (As := [.int (zI (p : Int))]) (rest := [.int (zI (smF (gtF (lf da mb dd td (p : Int))) n))]) ⟨hx, hb, hml, hown, hts⟩ hK (kX2_mourningsOfok l D cI cZ q hN pa sp al dg co da mb dd ah wl lo n td wn hn hda hmb hdd htd (p : Int) (by omega)) (cwV 1 hts gL_law_X2_mourningsOf rfl rfl rfl (by decide +kernel) ⟨Nat.le_of_ble_eq_true rfl, Nat.le_of_ble_eq_true rfl⟩) hC hS (fun x h => hqS x h) rfl rfl rfl hl.1 rfl (Nat.le_of_ble_eq_true rfl) dL_law_446 ⟨show cc ≤ 1200104 from by omega, show ss ≤ 5501314 from by omega⟩ (fun H locs hC hS hz9 hk9 => ?_)
                            have hkq := fun (x : Nat) (h1 : x < _) (h2 : s0 ≤ x) => hk9 x h1 (fun h => absurd (hq0 x h) (Nat.not_lt.mpr h2))
                            have hL := zSL.keep hL (fun x h1 h2 => hkq x (Nat.lt_of_lt_of_le h2 hub) h1)
                            have hU : s9.heap.size ≤ H.size := hS.1
                            have hub : ub_42 ≤ H.size := by omega
                            refine W.eq (g2 := F0 m9 449 ls [.int (zI (smF (gtF (lf da mb dd td (p : Int))) n)), .int (zI (smF (gtF (lf da mb dd td (p : Int))) n))]) rfl ?_
                            refine zr_icmp_neF (tgt := 520) hx hb rfl dL_law_449 (by decide) ?_
                            have hcol := hI.cols (p : Int)
                            refine lv_iload hx hb dL_law_452 (lv_at hl 1 rfl) ?_
                            refine lv_iload hx hb dL_law_454 (lv_at hl 4 rfl) ?_
                            refine zr_icmp_gt (tgt := 520) hx hb dL_law_456 (by decide) ⟨by omega, by omega⟩ ⟨by omega, by omega⟩ (fun c_45 => by exfalso; omega) (fun c_45 => ?_)
                            refine lv_aload_n hx hb dL_law_459 rfl (lv_at hl 12 rfl) ?_
                            refine lv_iload hx hb dL_law_460 (lv_at hl 7 rfl) ?_
                            refine zcallV (ci := 2) (q0 := 0) (cq := (RX2, TX2, 9)) (As := [.int (zI (p : Int))]) (rest := []) ⟨hx, hb, hml, hown, hts⟩ hK (kX2_colourOfok l D cI cZ q hN pa sp al dg co da mb dd ah wl lo n td wn hn hco hda hmb hdd htd (p : Int) (by omega)) (cwV 1 hts gL_law_X2_colourOf rfl rfl rfl (by decide +kernel) ⟨Nat.le_of_ble_eq_true rfl, Nat.le_of_ble_eq_true rfl⟩) hC hS (fun x h => hqS x h) rfl rfl rfl hl.1 rfl (Nat.le_of_ble_eq_true rfl) dL_law_462 ⟨show cc ≤ 1200104 from by omega, show ss ≤ 5501314 from by omega⟩ (fun H locs hC hS hz9 hk9 => ?_)
                            have hkq := fun (x : Nat) (h1 : x < _) (h2 : s0 ≤ x) => hk9 x h1 (fun h => absurd (hq0 x h) (Nat.not_lt.mpr h2))
                            have hL := zSL.keep hL (fun x h1 h2 => hkq x (Nat.lt_of_lt_of_le h2 hub) h1)
                            have hU : s9.heap.size ≤ H.size := hS.1
                            have hub : ub_42 ≤ H.size := by omega
                            refine W.eq (g2 := F0 m9 465 ls [.int (zI (ca co da mb dd td n (p : Int) 0))]) rfl ?_
                            refine lv_aload_n hx hb dL_law_465 rfl (lv_at hl 12 rfl) ?_
                            refine lv_iload hx hb dL_law_466 (lv_at hl 7 rfl) ?_
                            refine zr_iconst hx hb dL_law_468 ?_
                            refine zcallV (ci := 2) (q0 := 0) (cq := (RX2, TX2, 9)) (As := [.int (zI (p : Int)), .int (zI 0)]) (rest := [.int (zI (ca co da mb dd td n (p : Int) 0))]) ⟨hx, hb, hml, hown, hts⟩ hK (kX2_colourInok l D cI cZ q hN pa sp al dg co da mb dd ah wl lo n td wn hn hco hda hmb hdd htd (p : Int) 0 (by omega) (by omega)) (cwV 2 hts gL_law_X2_colourIn rfl rfl rfl (by decide +kernel) ⟨Nat.le_of_ble_eq_true rfl, Nat.le_of_ble_eq_true rfl⟩) hC hS (fun x h => hqS x h) rfl rfl rfl hl.1 rfl (Nat.le_of_ble_eq_true rfl) dL_law_469 ⟨show cc ≤ 1200104 from by omega, show ss ≤ 5501314 from by omega⟩ (fun H locs hC hS hz9 hk9 => ?_)
                            have hkq := fun (x : Nat) (h1 : x < _) (h2 : s0 ≤ x) => hk9 x h1 (fun h => absurd (hq0 x h) (Nat.not_lt.mpr h2))
                            have hL := zSL.keep hL (fun x h1 h2 => hkq x (Nat.lt_of_lt_of_le h2 hub) h1)
                            have hU : s9.heap.size ≤ H.size := hS.1
                            have hub : ub_42 ≤ H.size := by omega
                            refine W.eq (g2 := F0 m9 472 ls [.int (zI (ca co da mb dd td n (p : Int) 0)), .int (zI (ca co da mb dd td n (p : Int) 0))]) rfl ?_
                            refine zr_icmp_neF (tgt := 520) hx hb rfl dL_law_472 (by decide) ?_
                            refine lv_aload_n hx hb dL_law_475 rfl (lv_at hl 12 rfl) ?_
                            refine lv_iload hx hb dL_law_476 (lv_at hl 7 rfl) ?_
                            refine lv_iload hx hb dL_law_478 (lv_at hl 4 rfl) ?_
                            refine zcallV (ci := 2) (q0 := 0) (cq := (RX2, TX2, 9)) (As := [.int (zI (p : Int)), .int (zI (mxF (lf da mb dd td (p : Int)) n))]) (rest := []) ⟨hx, hb, hml, hown, hts⟩ hK (kX2_colourInok l D cI cZ q hN pa sp al dg co da mb dd ah wl lo n td wn hn hco hda hmb hdd htd (p : Int) (mxF (lf da mb dd td (p : Int)) n) (by omega) (by omega)) (cwV 2 hts gL_law_X2_colourIn rfl rfl rfl (by decide +kernel) ⟨Nat.le_of_ble_eq_true rfl, Nat.le_of_ble_eq_true rfl⟩) hC hS (fun x h => hqS x h) rfl rfl rfl hl.1 rfl (Nat.le_of_ble_eq_true rfl) dL_law_480 ⟨show cc ≤ 1200104 from by omega, show ss ≤ 5501314 from by omega⟩ (fun H locs hC hS hz9 hk9 => ?_)
                            have hkq := fun (x : Nat) (h1 : x < _) (h2 : s0 ≤ x) => hk9 x h1 (fun h => absurd (hq0 x h) (Nat.not_lt.mpr h2))
                            have hL := zSL.keep hL (fun x h1 h2 => hkq x (Nat.lt_of_lt_of_le h2 hub) h1)
                            have hU : s9.heap.size ≤ H.size := hS.1
                            have hub : ub_42 ≤ H.size := by omega
                            refine W.eq (g2 := F0 m9 483 ls [.int (zI (ca co da mb dd td n (p : Int) (mxF (lf da mb dd td (p : Int)) n)))]) rfl ?_
                            have hco0 := hI.caOut (p : Int) (t := mxF (lf da mb dd td (p : Int)) n) (Int.le_refl _)
                            refine zr_if_ne (tgt := 520) hx hb dL_law_483 (by decide) ⟨by omega, by omega⟩ (fun c_46 => by exfalso; omega) (fun c_46 => ?_)
                            have hspx := hI.2.1.2.1 (p : Int) (by omega) (by omega)
                            refine lv_iload hx hb dL_law_486 (lv_at hl 0 rfl) ?_
                            refine lv_iload hx hb dL_law_488 (lv_at hl 7 rfl) ?_
                            refine zr_icmp_eq (tgt := 520) hx hb dL_law_490 (by decide) ⟨by omega, by omega⟩ ⟨by omega, by omega⟩ (fun c_47 => by exfalso; omega) (fun c_47 => ?_)
                            have J509_48 : ∀ (H : Heap) (locs : List Loc), zJC D cI cZ q pa sp al co da mb dd n td wn H → zSL D cI c1 c2 s0 ub_42 H s0 kd_42 ap_42 ac_42 am_42 ra_42 rc_42 rr_42 rm_42 n pa sp al co da M mo td wn → ub_42 ≤ H.size → va_S (fun x => s9.heap.size ≤ x) s9.heap H locs → W p0 l e9 room_1 s9 m9 #[Value.ref b] below meth c9 H locs cc ss Q0 (F0 m9 509 ls []) := by
                              intro H locs hC hL hub  hS
                              obtain ⟨dg, ah, wl, lo, hC⟩ := hC
                              have hU : s9.heap.size ≤ H.size := hS.1
                              have hpp := hI.2.1.1 (p : Int) (by omega) (by omega)
                              refine lv_aload_n hx hb dL_law_509 rfl (lv_at hl 12 rfl) ?_
                              refine lv_iload hx hb dL_law_510 (lv_at hl 7 rfl) ?_
                              refine zcallV (ci := 2) (q0 := 0) (cq := (RX2, TX2, 9)) (As := [.int (zI (p : Int))]) (rest := []) ⟨hx, hb, hml, hown, hts⟩ hK (kX2_parentOfok l D cI cZ q hN pa sp al dg co da mb dd ah wl lo n td wn hn hpa (p : Int) (by omega)) (cwV 1 hts gL_law_X2_parentOf rfl rfl rfl (by decide +kernel) ⟨Nat.le_of_ble_eq_true rfl, Nat.le_of_ble_eq_true rfl⟩) hC hS (fun x h => hqS x h) rfl rfl rfl hl.1 rfl (Nat.le_of_ble_eq_true rfl) dL_law_512 ⟨show cc ≤ 1200104 from by omega, show ss ≤ 5501314 from by omega⟩ (fun H locs hC hS hz9 hk9 => ?_)
                              have hkq := fun (x : Nat) (h1 : x < _) (h2 : s0 ≤ x) => hk9 x h1 (fun h => absurd (hq0 x h) (Nat.not_lt.mpr h2))
                              have hL := zSL.keep hL (fun x h1 h2 => hkq x (Nat.lt_of_lt_of_le h2 hub) h1)
                              have hU : s9.heap.size ≤ H.size := hS.1
                              have hub : ub_42 ≤ H.size := by omega
                              refine W.eq (g2 := F0 m9 515 ls [.int (zI (pa (p : Int)))]) rfl ?_
                              refine lv_iload hx hb dL_law_515 (lv_at hl 7 rfl) ?_
                              refine zr_icmp_lt (tgt := 522) hx hb dL_law_517 (by decide) ⟨by omega, by omega⟩ ⟨by omega, by omega⟩ (fun c_49 => ?_) (fun c_49 => by exfalso; omega)
                              refine lv_iload hx hb dL_law_522 (lv_at hl 8 rfl) ?_
                              refine lv_iload hx hb dL_law_524 (lv_at hl 4 rfl) ?_
                              refine zr_mmax hx hb (by rw [hml, hl.1]) hown (hts (.methodLink RL 114 Lib.Math.max.name) (by decide +kernel)) (hts (.static Lib.Math.max.name) (by decide +kernel)) (hts (.initialized "java/lang/Math") (by decide +kernel)) (hts (.code Lib.Math.max.name Lib.Math.max.code 2 (some .int)) (by decide +kernel)) (Nat.le_of_ble_eq_true rfl) (Nat.le_of_ble_eq_true rfl) (show cc ≤ 1200104 from by omega) (show ss ≤ 5501314 from by omega) ⟨by omega, by omega⟩ ⟨by omega, by omega⟩ dL_law_526 ?_
                              refine lv_istore (lv' := [(9, .int (zI (max (mxF (llS da mb dd td n) p) (mxF (lf da mb dd td (p : Int)) n)))), (16, .int (zI (sp (p : Int)))), (15, .int (zI (smF (fun g => smF (eqF (ca co da mb dd td n (p : Int)) (g + 1)) 180) 5))), (14, .int (zI (smF (fun g => smF (kinF al (dgF pa sp n (p : Int)) (g + 1)) n) 4))), (13, .int (zI (smF (gtF (lf da mb dd td (p : Int))) n))), (12, .int (zI (mxF (lf da mb dd td (p : Int)) n))), (11, .int (zI (smF (kaF al (dgF pa sp n (p : Int))) n))), (8, .int (zI ((smF al p) + (al (p : Int))))), (10, .int (zI (p : Int))), (7, .int (zI (n : Int))), (5, .long (dgC pa sp al co da mb dd n td wn)), (0, .ref b), (1, .ref (q 0)), (2, .ref s0), (3, .int (zI k9)), (4, .int x)]) hx hb dL_law_529 hl (by decide) rfl (fun ls hl => ?_)
                              refine lv_aload_n hx hb dL_law_531 rfl (lv_at hl 12 rfl) ?_
                              refine lv_iload hx hb dL_law_532 (lv_at hl 8 rfl) ?_
                              refine zcallV (ci := 2) (q0 := 0) (cq := (RX2, TX2, 9)) (As := [.int (zI (p : Int))]) (rest := []) ⟨hx, hb, hml, hown, hts⟩ hK (kX2_colourOfok l D cI cZ q hN pa sp al dg co da mb dd ah wl lo n td wn hn hco hda hmb hdd htd (p : Int) (by omega)) (cwV 1 hts gL_law_X2_colourOf rfl rfl rfl (by decide +kernel) ⟨Nat.le_of_ble_eq_true rfl, Nat.le_of_ble_eq_true rfl⟩) hC hS (fun x h => hqS x h) rfl rfl rfl hl.1 rfl (Nat.le_of_ble_eq_true rfl) dL_law_534 ⟨show cc ≤ 1200104 from by omega, show ss ≤ 5501314 from by omega⟩ (fun H locs hC hS hz9 hk9 => ?_)
                              have hkq := fun (x : Nat) (h1 : x < _) (h2 : s0 ≤ x) => hk9 x h1 (fun h => absurd (hq0 x h) (Nat.not_lt.mpr h2))
                              have hL := zSL.keep hL (fun x h1 h2 => hkq x (Nat.lt_of_lt_of_le h2 hub) h1)
                              have hU : s9.heap.size ≤ H.size := hS.1
                              have hub : ub_42 ≤ H.size := by omega
                              refine W.eq (g2 := F0 m9 537 ls [.int (zI (ca co da mb dd td n (p : Int) 0))]) rfl ?_
                              refine lv_istore (lv' := [(17, .int (zI (ca co da mb dd td n (p : Int) 0))), (9, .int (zI (max (mxF (llS da mb dd td n) p) (mxF (lf da mb dd td (p : Int)) n)))), (16, .int (zI (sp (p : Int)))), (15, .int (zI (smF (fun g => smF (eqF (ca co da mb dd td n (p : Int)) (g + 1)) 180) 5))), (14, .int (zI (smF (fun g => smF (kinF al (dgF pa sp n (p : Int)) (g + 1)) n) 4))), (13, .int (zI (smF (gtF (lf da mb dd td (p : Int))) n))), (12, .int (zI (mxF (lf da mb dd td (p : Int)) n))), (11, .int (zI (smF (kaF al (dgF pa sp n (p : Int))) n))), (8, .int (zI ((smF al p) + (al (p : Int))))), (10, .int (zI (p : Int))), (7, .int (zI (n : Int))), (5, .long (dgC pa sp al co da mb dd n td wn)), (0, .ref b), (1, .ref (q 0)), (2, .ref s0), (3, .int (zI k9)), (4, .int x)]) hx hb dL_law_537 hl (by decide) rfl (fun ls hl => ?_)
                              refine lv_aload_n hx hb dL_law_539 rfl (lv_at hl 13 rfl) ?_
                              refine lv_iload hx hb dL_law_540 (lv_at hl 9 rfl) ?_
                              refine zcallV (ci := 2) (q0 := 0) (cq := (RX2, TX2, 9)) (As := [.int (zI (p : Int))]) (rest := []) ⟨hx, hb, hml, hown, hts⟩ hK (kX2_daysUntilLighterok l D cI cZ q hN pa sp al dg co da mb dd ah wl lo n td wn hn hco hda hmb hdd htd (p : Int) (by omega)) (cwV 1 hts gL_law_X2_daysUntilLighter rfl rfl rfl (by decide +kernel) ⟨Nat.le_of_ble_eq_true rfl, Nat.le_of_ble_eq_true rfl⟩) hC hS (fun x h => hqS x h) rfl rfl rfl hl.1 rfl (Nat.le_of_ble_eq_true rfl) dL_law_542 ⟨show cc ≤ 1200104 from by omega, show ss ≤ 5501314 from by omega⟩ (fun H locs hC hS hz9 hk9 => ?_)
                              have hkq := fun (x : Nat) (h1 : x < _) (h2 : s0 ≤ x) => hk9 x h1 (fun h => absurd (hq0 x h) (Nat.not_lt.mpr h2))
                              have hL := zSL.keep hL (fun x h1 h2 => hkq x (Nat.lt_of_lt_of_le h2 hub) h1)
                              have hU : s9.heap.size ≤ H.size := hS.1
                              have hub : ub_42 ≤ H.size := by omega
                              refine W.eq (g2 := F0 m9 545 ls [.int (zI (flD (ca co da mb dd td n (p : Int))))]) rfl ?_
                              obtain ⟨dg, ah, wl, lo, hC⟩ : zJC D cI cZ q pa sp al co da mb dd n td wn H := ⟨_, _, _, _, hC⟩
                              have hc0 := ca_bd hco da mb dd td n (p : Int) 0
                              have hfl := flD_rg (ca co da mb dd td n (p : Int))
                              have hf0 := hI.fl0 (f := (ca co da mb dd td n (p : Int)))
                              refine lv_istore (lv' := [(18, .int (zI (flD (ca co da mb dd td n (p : Int))))), (17, .int (zI (ca co da mb dd td n (p : Int) 0))), (9, .int (zI (max (mxF (llS da mb dd td n) p) (mxF (lf da mb dd td (p : Int)) n)))), (16, .int (zI (sp (p : Int)))), (15, .int (zI (smF (fun g => smF (eqF (ca co da mb dd td n (p : Int)) (g + 1)) 180) 5))), (14, .int (zI (smF (fun g => smF (kinF al (dgF pa sp n (p : Int)) (g + 1)) n) 4))), (13, .int (zI (smF (gtF (lf da mb dd td (p : Int))) n))), (12, .int (zI (mxF (lf da mb dd td (p : Int)) n))), (11, .int (zI (smF (kaF al (dgF pa sp n (p : Int))) n))), (8, .int (zI ((smF al p) + (al (p : Int))))), (10, .int (zI (p : Int))), (7, .int (zI (n : Int))), (5, .long (dgC pa sp al co da mb dd n td wn)), (0, .ref b), (1, .ref (q 0)), (2, .ref s0), (3, .int (zI k9)), (4, .int x)]) hx hb dL_law_545 hl (by decide) rfl (fun ls hl => ?_)
                              have J557_50 : ∀ (H : Heap) (locs : List Loc) (z : Int), zJC D cI cZ q pa sp al co da mb dd n td wn H → zSL D cI c1 c2 s0 ub_42 H s0 kd_42 ap_42 ac_42 am_42 ra_42 rc_42 rr_42 rm_42 n pa sp al co da M mo td wn → ub_42 ≤ H.size → va_S (fun x => s9.heap.size ≤ x) s9.heap H locs → z = zrF (ca co da mb dd td n (p : Int) 0) → W p0 l e9 room_1 s9 m9 #[Value.ref b] below meth c9 H locs cc ss Q0 (F0 m9 557 ls [(.int (zI z))]) := by
                                intro H locs z hC hL hub  hS hz
                                subst hz
                                obtain ⟨dg, ah, wl, lo, hC⟩ := hC
                                have hU : s9.heap.size ≤ H.size := hS.1
                                have J567_51 : ∀ (H : Heap) (locs : List Loc) (z : Int), zJC D cI cZ q pa sp al co da mb dd n td wn H → zSL D cI c1 c2 s0 ub_42 H s0 kd_42 ap_42 ac_42 am_42 ra_42 rc_42 rr_42 rm_42 n pa sp al co da M mo td wn → ub_42 ≤ H.size → va_S (fun x => s9.heap.size ≤ x) s9.heap H locs → z = ngF (flD (ca co da mb dd td n (p : Int))) → W p0 l e9 room_1 s9 m9 #[Value.ref b] below meth c9 H locs cc ss Q0 (F0 m9 567 ls [(.int (zI z)), .int (zI (zrF (ca co da mb dd td n (p : Int) 0)))]) := by
                                  intro H locs z hC hL hub  hS hz
                                  subst hz
                                  obtain ⟨dg, ah, wl, lo, hC⟩ := hC
                                  have hU : s9.heap.size ≤ H.size := hS.1
                                  refine zr_icmp_neF (tgt := 594) hx hb hf0 dL_law_567 (by decide) ?_
                                  have J596_52 : ∀ (H : Heap) (locs : List Loc), zJC D cI cZ q pa sp al co da mb dd n td wn H → zSL D cI c1 c2 s0 ub_42 H s0 kd_42 ap_42 ac_42 am_42 ra_42 rc_42 rr_42 rm_42 n pa sp al co da M mo td wn → ub_42 ≤ H.size → va_S (fun x => s9.heap.size ≤ x) s9.heap H locs → W p0 l e9 room_1 s9 m9 #[Value.ref b] below meth c9 H locs cc ss Q0 (F0 m9 596 ls []) := by
                                    intro H locs hC hL hub  hS
                                    obtain ⟨dg, ah, wl, lo, hC⟩ := hC
                                    have hU : s9.heap.size ≤ H.size := hS.1
                                    refine zr_iconst hx hb dL_law_596 ?_
                                    refine lv_istore (lv' := [(19, .int (zI 1)), (18, .int (zI (flD (ca co da mb dd td n (p : Int))))), (17, .int (zI (ca co da mb dd td n (p : Int) 0))), (9, .int (zI (max (mxF (llS da mb dd td n) p) (mxF (lf da mb dd td (p : Int)) n)))), (16, .int (zI (sp (p : Int)))), (15, .int (zI (smF (fun g => smF (eqF (ca co da mb dd td n (p : Int)) (g + 1)) 180) 5))), (14, .int (zI (smF (fun g => smF (kinF al (dgF pa sp n (p : Int)) (g + 1)) n) 4))), (13, .int (zI (smF (gtF (lf da mb dd td (p : Int))) n))), (12, .int (zI (mxF (lf da mb dd td (p : Int)) n))), (11, .int (zI (smF (kaF al (dgF pa sp n (p : Int))) n))), (8, .int (zI ((smF al p) + (al (p : Int))))), (10, .int (zI (p : Int))), (7, .int (zI (n : Int))), (5, .long (dgC pa sp al co da mb dd n td wn)), (0, .ref b), (1, .ref (q 0)), (2, .ref s0), (3, .int (zI k9)), (4, .int x)]) hx hb dL_law_597 hl (by decide) rfl (fun ls hl => ?_)
                                    have L599_53 : ∀ (kf t : Nat), t ≤ (flD (ca co da mb dd td n (p : Int)) - 1).toNat → (flD (ca co da mb dd td n (p : Int)) - 1).toNat - t < kf → ∀ (H : Heap) (locs : List Loc) (ls : Array Slot), (zJC D cI cZ q pa sp al co da mb dd n td wn H) → (zSW D cI c1 c2 s0 s0 n pa sp al co da M mo td wn H) → va_S (fun x => s9.heap.size ≤ x) s9.heap H locs → lv_has ls 20 [(19, .int (zI ((t : Int) + 1))), (18, .int (zI (flD (ca co da mb dd td n (p : Int))))), (17, .int (zI (ca co da mb dd td n (p : Int) 0))), (9, .int (zI (max (mxF (llS da mb dd td n) p) (mxF (lf da mb dd td (p : Int)) n)))), (16, .int (zI (sp (p : Int)))), (15, .int (zI (smF (fun g => smF (eqF (ca co da mb dd td n (p : Int)) (g + 1)) 180) 5))), (14, .int (zI (smF (fun g => smF (kinF al (dgF pa sp n (p : Int)) (g + 1)) n) 4))), (13, .int (zI (smF (gtF (lf da mb dd td (p : Int))) n))), (12, .int (zI (mxF (lf da mb dd td (p : Int)) n))), (11, .int (zI (smF (kaF al (dgF pa sp n (p : Int))) n))), (8, .int (zI ((smF al p) + (al (p : Int))))), (10, .int (zI (p : Int))), (7, .int (zI (n : Int))), (5, .long (dgC pa sp al co da mb dd n td wn)), (0, .ref b), (1, .ref (q 0)), (2, .ref s0), (3, .int (zI k9)), (4, .int x)] → W p0 l e9 room_1 s9 m9 #[Value.ref b] below meth c9 H locs cc ss Q0 (F0 m9 599 ls []) := by
                                      intro kf
                                      induction kf with
                                      | zero => intro t h1 h2; omega
                                      | succ kf ih =>
                                        intro t hi_t hk_t H locs ls  hC hL hS hl 
                                        have ih_t := ih
                                        clear ih
                                        have hU : s9.heap.size ≤ H.size := hS.1
                                        obtain ⟨dg, ah, wl, lo, hC⟩ := hC
                                        obtain ⟨kd_54, ap_54, ac_54, am_54, ra_54, rc_54, rr_54, rm_54, hL⟩ := hL
                                        obtain ⟨ub_54, hub, hL⟩ : ∃ ub_54 : Nat, ub_54 ≤ H.size ∧ zSL D cI c1 c2 s0 ub_54 H s0 kd_54 ap_54 ac_54 am_54 ra_54 rc_54 rr_54 rm_54 n pa sp al co da M mo td wn := ⟨H.size, Nat.le_refl _, hL⟩
                                        have hs0 := hL.s0u
                                        refine lv_iload hx hb dL_law_599 (lv_at hl 0 rfl) ?_
                                        refine lv_iload hx hb dL_law_601 (lv_at hl 1 rfl) ?_
                                        refine zr_icmp_ge (tgt := 627) hx hb dL_law_603 (by decide) ⟨by omega, by omega⟩ ⟨by omega, by omega⟩ (fun c_55 => ?_) (fun c_55 => ?_)
                                        · have c_55 := c_55
                                          have x_56 : t = (flD (ca co da mb dd td n (p : Int)) - 1).toNat := by omega
                                          try rw [x_56] at hl
                                          try rw [x_56] at hC
                                          try rw [x_56] at hL
                                          refine zr_iinc (v := (p : Int) + 1) (lv' := [(10, .int (zI ((p : Int) + 1))), (19, .int (zI ((((flD (ca co da mb dd td n (p : Int)) - 1).toNat : Nat) : Int) + 1))), (18, .int (zI (flD (ca co da mb dd td n (p : Int))))), (17, .int (zI (ca co da mb dd td n (p : Int) 0))), (9, .int (zI (max (mxF (llS da mb dd td n) p) (mxF (lf da mb dd td (p : Int)) n)))), (16, .int (zI (sp (p : Int)))), (15, .int (zI (smF (fun g => smF (eqF (ca co da mb dd td n (p : Int)) (g + 1)) 180) 5))), (14, .int (zI (smF (fun g => smF (kinF al (dgF pa sp n (p : Int)) (g + 1)) n) 4))), (13, .int (zI (smF (gtF (lf da mb dd td (p : Int))) n))), (12, .int (zI (mxF (lf da mb dd td (p : Int)) n))), (11, .int (zI (smF (kaF al (dgF pa sp n (p : Int))) n))), (8, .int (zI ((smF al p) + (al (p : Int))))), (7, .int (zI (n : Int))), (5, .long (dgC pa sp al co da mb dd n td wn)), (0, .ref b), (1, .ref (q 0)), (2, .ref s0), (3, .int (zI k9)), (4, .int x)]) hx hb dL_law_627 hl (k := 11) rfl rfl (by decide) rfl (fun ls hl => ?_)
                                          refine lv_goto (tgt := 101) hx hb dL_law_630 (by decide) ?_
                                          have hl := lv_sub hl (l' := [(10, .int (zI ((p : Int) + 1))), (9, .int (zI (max (mxF (llS da mb dd td n) p) (mxF (lf da mb dd td (p : Int)) n)))), (8, .int (zI ((smF al p) + (al (p : Int))))), (7, .int (zI (n : Int))), (5, .long (dgC pa sp al co da mb dd n td wn)), (0, .ref b), (1, .ref (q 0)), (2, .ref s0), (3, .int (zI k9)), (4, .int x)]) [0, 4, 11, 12, 13, 14, 15, 16, 17, 18] rfl
                                          have e_57 : ((((p + 1) : Nat) : Int) : Int) = (p : Int) + 1 := by omega
                                          have e_58 : (mxF (llS da mb dd td n) (p + 1) : Int) = max (mxF (llS da mb dd td n) p) (mxF (lf da mb dd td (p : Int)) n) := by rw [mxF_s]; rfl
                                          have e_59 : (smF al (p + 1) : Int) = (smF al p) + (al (p : Int)) := by rw [smF_s]
                                          have hl : lv_has ls 20 [(10, .int (zI (((p + 1) : Nat) : Int))), (9, .int (zI (mxF (llS da mb dd td n) (p + 1)))), (8, .int (zI (smF al (p + 1)))), (7, .int (zI (n : Int))), (5, .long (dgC pa sp al co da mb dd n td wn)), (0, .ref b), (1, .ref (q 0)), (2, .ref s0), (3, .int (zI k9)), (4, .int x)] := by rw [e_57, e_58, e_59]; exact hl
                                          exact ih_p (p + 1) (by omega) (by omega) _ _ _ (⟨_, _, _, _, hC⟩) (hL.toW hub) hS hl 
                                        · have c_55 := c_55
                                          refine lv_aload_n hx hb dL_law_606 rfl (lv_at hl 15 rfl) ?_
                                          refine lv_iload hx hb dL_law_607 (lv_at hl 11 rfl) ?_
                                          refine lv_iload hx hb dL_law_609 (lv_at hl 0 rfl) ?_
                                          refine zcallV (ci := 2) (q0 := 0) (cq := (RX2, TX2, 9)) (As := [.int (zI (p : Int)), .int (zI ((t : Int) + 1))]) (rest := []) ⟨hx, hb, hml, hown, hts⟩ hK (kX2_colourInok l D cI cZ q hN pa sp al dg co da mb dd ah wl lo n td wn hn hco hda hmb hdd htd (p : Int) ((t : Int) + 1) (by omega) (by omega)) (cwV 2 hts gL_law_X2_colourIn rfl rfl rfl (by decide +kernel) ⟨Nat.le_of_ble_eq_true rfl, Nat.le_of_ble_eq_true rfl⟩) hC hS (fun x h => hqS x h) rfl rfl rfl hl.1 rfl (Nat.le_of_ble_eq_true rfl) dL_law_611 ⟨show cc ≤ 1200104 from by omega, show ss ≤ 5501314 from by omega⟩ (fun H locs hC hS hz9 hk9 => ?_)
                                          have hkq := fun (x : Nat) (h1 : x < _) (h2 : s0 ≤ x) => hk9 x h1 (fun h => absurd (hq0 x h) (Nat.not_lt.mpr h2))
                                          have hL := zSL.keep hL (fun x h1 h2 => hkq x (Nat.lt_of_lt_of_le h2 hub) h1)
                                          have hU : s9.heap.size ≤ H.size := hS.1
                                          have hub : ub_54 ≤ H.size := by omega
                                          refine W.eq (g2 := F0 m9 614 ls [.int (zI (ca co da mb dd td n (p : Int) ((t : Int) + 1)))]) rfl ?_
                                          have hbf := flD_bef (f := (ca co da mb dd td n (p : Int))) (t := (t : Int) + 1) (by omega) (by omega)
                                          have hcx := ca_bd hco da mb dd td n (p : Int) ((t : Int) + 1)
                                          refine lv_iload hx hb dL_law_614 (lv_at hl 2 rfl) ?_
                                          refine zr_icmp_ge (tgt := 621) hx hb dL_law_616 (by decide) ⟨by omega, by omega⟩ ⟨by omega, by omega⟩ (fun c_60 => ?_) (fun c_60 => by exfalso; omega)
                                          refine zr_iinc (v := ((t : Int) + 1) + 1) (lv' := [(19, .int (zI (((t : Int) + 1) + 1))), (18, .int (zI (flD (ca co da mb dd td n (p : Int))))), (17, .int (zI (ca co da mb dd td n (p : Int) 0))), (9, .int (zI (max (mxF (llS da mb dd td n) p) (mxF (lf da mb dd td (p : Int)) n)))), (16, .int (zI (sp (p : Int)))), (15, .int (zI (smF (fun g => smF (eqF (ca co da mb dd td n (p : Int)) (g + 1)) 180) 5))), (14, .int (zI (smF (fun g => smF (kinF al (dgF pa sp n (p : Int)) (g + 1)) n) 4))), (13, .int (zI (smF (gtF (lf da mb dd td (p : Int))) n))), (12, .int (zI (mxF (lf da mb dd td (p : Int)) n))), (11, .int (zI (smF (kaF al (dgF pa sp n (p : Int))) n))), (8, .int (zI ((smF al p) + (al (p : Int))))), (10, .int (zI (p : Int))), (7, .int (zI (n : Int))), (5, .long (dgC pa sp al co da mb dd n td wn)), (0, .ref b), (1, .ref (q 0)), (2, .ref s0), (3, .int (zI k9)), (4, .int x)]) hx hb dL_law_621 hl (k := 0) rfl rfl (by decide) rfl (fun ls hl => ?_)
                                          refine lv_goto (tgt := 599) hx hb dL_law_624 (by decide) ?_
                                          have hl := lv_sub hl (l' := [(19, .int (zI (((t : Int) + 1) + 1))), (18, .int (zI (flD (ca co da mb dd td n (p : Int))))), (17, .int (zI (ca co da mb dd td n (p : Int) 0))), (9, .int (zI (max (mxF (llS da mb dd td n) p) (mxF (lf da mb dd td (p : Int)) n)))), (16, .int (zI (sp (p : Int)))), (15, .int (zI (smF (fun g => smF (eqF (ca co da mb dd td n (p : Int)) (g + 1)) 180) 5))), (14, .int (zI (smF (fun g => smF (kinF al (dgF pa sp n (p : Int)) (g + 1)) n) 4))), (13, .int (zI (smF (gtF (lf da mb dd td (p : Int))) n))), (12, .int (zI (mxF (lf da mb dd td (p : Int)) n))), (11, .int (zI (smF (kaF al (dgF pa sp n (p : Int))) n))), (8, .int (zI ((smF al p) + (al (p : Int))))), (10, .int (zI (p : Int))), (7, .int (zI (n : Int))), (5, .long (dgC pa sp al co da mb dd n td wn)), (0, .ref b), (1, .ref (q 0)), (2, .ref s0), (3, .int (zI k9)), (4, .int x)]) [0, 1, 2, 3, 4, 5, 6, 7, 8, 9, 10, 11, 12, 13, 14, 15, 16, 17, 18] rfl
                                          have e_61 : ((((t + 1) : Nat) : Int) + 1 : Int) = ((t : Int) + 1) + 1 := by omega
                                          have hl : lv_has ls 20 [(19, .int (zI ((((t + 1) : Nat) : Int) + 1))), (18, .int (zI (flD (ca co da mb dd td n (p : Int))))), (17, .int (zI (ca co da mb dd td n (p : Int) 0))), (9, .int (zI (max (mxF (llS da mb dd td n) p) (mxF (lf da mb dd td (p : Int)) n)))), (16, .int (zI (sp (p : Int)))), (15, .int (zI (smF (fun g => smF (eqF (ca co da mb dd td n (p : Int)) (g + 1)) 180) 5))), (14, .int (zI (smF (fun g => smF (kinF al (dgF pa sp n (p : Int)) (g + 1)) n) 4))), (13, .int (zI (smF (gtF (lf da mb dd td (p : Int))) n))), (12, .int (zI (mxF (lf da mb dd td (p : Int)) n))), (11, .int (zI (smF (kaF al (dgF pa sp n (p : Int))) n))), (8, .int (zI ((smF al p) + (al (p : Int))))), (10, .int (zI (p : Int))), (7, .int (zI (n : Int))), (5, .long (dgC pa sp al co da mb dd n td wn)), (0, .ref b), (1, .ref (q 0)), (2, .ref s0), (3, .int (zI k9)), (4, .int x)] := by rw [e_61]; exact hl
                                          exact ih_t (t + 1) (by omega) (by omega) _ _ _ (⟨_, _, _, _, hC⟩) (hL.toW hub) hS hl 
                                    have hl := lv_sub hl (l' := [(19, .int (zI 1)), (18, .int (zI (flD (ca co da mb dd td n (p : Int))))), (17, .int (zI (ca co da mb dd td n (p : Int) 0))), (9, .int (zI (max (mxF (llS da mb dd td n) p) (mxF (lf da mb dd td (p : Int)) n)))), (16, .int (zI (sp (p : Int)))), (15, .int (zI (smF (fun g => smF (eqF (ca co da mb dd td n (p : Int)) (g + 1)) 180) 5))), (14, .int (zI (smF (fun g => smF (kinF al (dgF pa sp n (p : Int)) (g + 1)) n) 4))), (13, .int (zI (smF (gtF (lf da mb dd td (p : Int))) n))), (12, .int (zI (mxF (lf da mb dd td (p : Int)) n))), (11, .int (zI (smF (kaF al (dgF pa sp n (p : Int))) n))), (8, .int (zI ((smF al p) + (al (p : Int))))), (10, .int (zI (p : Int))), (7, .int (zI (n : Int))), (5, .long (dgC pa sp al co da mb dd n td wn)), (0, .ref b), (1, .ref (q 0)), (2, .ref s0), (3, .int (zI k9)), (4, .int x)]) [0, 1, 2, 3, 4, 5, 6, 7, 8, 9, 10, 11, 12, 13, 14, 15, 16, 17, 18] rfl
                                    exact L599_53 ((flD (ca co da mb dd td n (p : Int)) - 1).toNat + 1) 0 (Nat.zero_le _) (by omega) _ _ _ (⟨_, _, _, _, hC⟩) (hL.toW hub) hS hl 
                                  refine lv_iload hx hb dL_law_570 (lv_at hl 1 rfl) ?_
                                  refine zr_if_le (tgt := 596) hx hb dL_law_572 (by decide) ⟨by omega, by omega⟩ (fun c_62 => ?_) (fun c_62 => ?_)
                                  · have c_62 := c_62
                                    exact J596_52 _ _ ⟨_, _, _, _, hC⟩ hL hub hS
                                  · have c_62 := c_62
                                    have hfx := flD_at (f := (ca co da mb dd td n (p : Int))) (by omega) (hI.caOut (p : Int) (hI.ll180 (p : Int)))
                                    refine lv_iload hx hb dL_law_575 (lv_at hl 0 rfl) ?_
                                    refine zr_iconst hx hb dL_law_577 ?_
                                    refine zr_icmp_lt (tgt := 594) hx hb dL_law_578 (by decide) ⟨by omega, by omega⟩ ⟨by decide, by decide⟩ (fun c_63 => by exfalso; omega) (fun c_63 => ?_)
                                    refine lv_aload_n hx hb dL_law_581 rfl (lv_at hl 14 rfl) ?_
                                    refine lv_iload hx hb dL_law_582 (lv_at hl 10 rfl) ?_
                                    refine lv_iload hx hb dL_law_584 (lv_at hl 0 rfl) ?_
                                    refine zcallV (ci := 2) (q0 := 0) (cq := (RX2, TX2, 9)) (As := [.int (zI (p : Int)), .int (zI (flD (ca co da mb dd td n (p : Int))))]) (rest := []) ⟨hx, hb, hml, hown, hts⟩ hK (kX2_colourInok l D cI cZ q hN pa sp al dg co da mb dd ah wl lo n td wn hn hco hda hmb hdd htd (p : Int) (flD (ca co da mb dd td n (p : Int))) (by omega) (by omega)) (cwV 2 hts gL_law_X2_colourIn rfl rfl rfl (by decide +kernel) ⟨Nat.le_of_ble_eq_true rfl, Nat.le_of_ble_eq_true rfl⟩) hC hS (fun x h => hqS x h) rfl rfl rfl hl.1 rfl (Nat.le_of_ble_eq_true rfl) dL_law_586 ⟨show cc ≤ 1200104 from by omega, show ss ≤ 5501314 from by omega⟩ (fun H locs hC hS hz9 hk9 => ?_)
                                    have hkq := fun (x : Nat) (h1 : x < _) (h2 : s0 ≤ x) => hk9 x h1 (fun h => absurd (hq0 x h) (Nat.not_lt.mpr h2))
                                    have hL := zSL.keep hL (fun x h1 h2 => hkq x (Nat.lt_of_lt_of_le h2 hub) h1)
                                    have hU : s9.heap.size ≤ H.size := hS.1
                                    have hub : ub_42 ≤ H.size := by omega
                                    refine W.eq (g2 := F0 m9 589 ls [.int (zI (ca co da mb dd td n (p : Int) (flD (ca co da mb dd td n (p : Int)))))]) rfl ?_
                                    have hcx := ca_bd hco da mb dd td n (p : Int) (flD (ca co da mb dd td n (p : Int)))
                                    refine lv_iload hx hb dL_law_589 (lv_at hl 1 rfl) ?_
                                    refine zr_icmp_lt (tgt := 596) hx hb dL_law_591 (by decide) ⟨by omega, by omega⟩ ⟨by omega, by omega⟩ (fun c_64 => ?_) (fun c_64 => by exfalso; omega)
                                    exact J596_52 _ _ ⟨_, _, _, _, hC⟩ hL hub hS
                                refine lv_iload hx hb dL_law_557 (lv_at hl 0 rfl) ?_
                                refine zr_if_ge (tgt := 566) hx hb dL_law_559 (by decide) ⟨by omega, by omega⟩ (fun c_65 => ?_) (fun c_65 => ?_)
                                · have c_65 := c_65
                                  refine zr_iconst hx hb dL_law_566 ?_
                                  exact J567_51 _ _ _ ⟨_, _, _, _, hC⟩ hL hub hS ((if_neg (by omega)).symm)
                                · have c_65 := c_65
                                  refine zr_iconst hx hb dL_law_562 ?_
                                  refine lv_goto (tgt := 567) hx hb dL_law_563 (by decide) ?_
                                  exact J567_51 _ _ _ ⟨_, _, _, _, hC⟩ hL hub hS ((if_pos (by omega)).symm)
                              refine lv_iload hx hb dL_law_547 (lv_at hl 1 rfl) ?_
                              refine zr_if_ne (tgt := 556) hx hb dL_law_549 (by decide) ⟨by omega, by omega⟩ (fun c_66 => ?_) (fun c_66 => ?_)
                              · have c_66 := c_66
                                refine zr_iconst hx hb dL_law_556 ?_
                                exact J557_50 _ _ _ ⟨_, _, _, _, hC⟩ hL hub hS ((if_neg (by omega)).symm)
                              · have c_66 := c_66
                                refine zr_iconst hx hb dL_law_552 ?_
                                refine lv_goto (tgt := 557) hx hb dL_law_553 (by decide) ?_
                                exact J557_50 _ _ _ ⟨_, _, _, _, hC⟩ hL hub hS ((if_pos (by omega)).symm)
                            refine lv_iload hx hb dL_law_493 (lv_at hl 0 rfl) ?_
                            refine zr_if_lt (tgt := 509) hx hb dL_law_495 (by decide) ⟨by omega, by omega⟩ (fun c_67 => ?_) (fun c_67 => ?_)
                            · have c_67 := c_67
                              exact J509_48 _ _ ⟨_, _, _, _, hC⟩ hL hub hS
                            · have c_67 := c_67
                              have hss := hsp (sp (p : Int))
                              refine lv_aload_n hx hb dL_law_498 rfl (lv_at hl 12 rfl) ?_
                              refine lv_iload hx hb dL_law_499 (lv_at hl 0 rfl) ?_
                              refine zcallV (ci := 2) (q0 := 0) (cq := (RX2, TX2, 9)) (As := [.int (zI (sp (p : Int)))]) (rest := []) ⟨hx, hb, hml, hown, hts⟩ hK (kX2_marriedTook l D cI cZ q hN pa sp al dg co da mb dd ah wl lo n td wn hn hsp (sp (p : Int)) (by omega)) (cwV 1 hts gL_law_X2_marriedTo rfl rfl rfl (by decide +kernel) ⟨Nat.le_of_ble_eq_true rfl, Nat.le_of_ble_eq_true rfl⟩) hC hS (fun x h => hqS x h) rfl rfl rfl hl.1 rfl (Nat.le_of_ble_eq_true rfl) dL_law_501 ⟨show cc ≤ 1200104 from by omega, show ss ≤ 5501314 from by omega⟩ (fun H locs hC hS hz9 hk9 => ?_)
                              have hkq := fun (x : Nat) (h1 : x < _) (h2 : s0 ≤ x) => hk9 x h1 (fun h => absurd (hq0 x h) (Nat.not_lt.mpr h2))
                              have hL := zSL.keep hL (fun x h1 h2 => hkq x (Nat.lt_of_lt_of_le h2 hub) h1)
                              have hU : s9.heap.size ≤ H.size := hS.1
                              have hub : ub_42 ≤ H.size := by omega
                              refine W.eq (g2 := F0 m9 504 ls [.int (zI (sp (sp (p : Int))))]) rfl ?_
                              refine lv_iload hx hb dL_law_504 (lv_at hl 7 rfl) ?_
                              refine zr_icmp_ne (tgt := 520) hx hb dL_law_506 (by decide) ⟨by omega, by omega⟩ ⟨by omega, by omega⟩ (fun c_68 => by exfalso; omega) (fun c_68 => ?_)
                              exact J509_48 _ _ ⟨_, _, _, _, hC⟩ hL hub hS
                          · have c_43 := c_43
                            refine lv_iload hx hb dL_law_396 (lv_at hl 1 rfl) ?_
                            refine lv_aload_n hx hb dL_law_398 rfl (lv_at hl 12 rfl) ?_
                            refine lv_iload hx hb dL_law_399 (lv_at hl 7 rfl) ?_
                            refine lv_iload hx hb dL_law_401 (lv_at hl 0 rfl) ?_
                            refine zcallV (ci := 2) (q0 := 0) (cq := (RX2, TX2, 9)) (As := [.int (zI (p : Int)), .int (zI ((g : Int) + 1))]) (rest := [.int (zI (smF (fun g => smF (eqF (ca co da mb dd td n (p : Int)) (g + 1)) 180) g))]) ⟨hx, hb, hml, hown, hts⟩ hK (kX2_daysInok l D cI cZ q hN pa sp al dg co da mb dd ah wl lo n td wn hn hco hda hmb hdd htd (p : Int) ((g : Int) + 1) (by omega) (by omega)) (cwV 2 hts gL_law_X2_daysIn rfl rfl rfl (by decide +kernel) ⟨Nat.le_of_ble_eq_true rfl, Nat.le_of_ble_eq_true rfl⟩) hC hS (fun x h => hqS x h) rfl rfl rfl hl.1 rfl (Nat.le_of_ble_eq_true rfl) dL_law_403 ⟨show cc ≤ 1200104 from by omega, show ss ≤ 5501314 from by omega⟩ (fun H locs hC hS hz9 hk9 => ?_)
                            have hkq := fun (x : Nat) (h1 : x < _) (h2 : s0 ≤ x) => hk9 x h1 (fun h => absurd (hq0 x h) (Nat.not_lt.mpr h2))
                            have hL := zSL.keep hL (fun x h1 h2 => hkq x (Nat.lt_of_lt_of_le h2 hub) h1)
                            have hU : s9.heap.size ≤ H.size := hS.1
                            have hub : ub_42 ≤ H.size := by omega
                            refine W.eq (g2 := F0 m9 406 ls [.int (zI (smF (eqF (ca co da mb dd td n (p : Int)) ((g : Int) + 1)) 180)), .int (zI (smF (fun g => smF (eqF (ca co da mb dd td n (p : Int)) (g + 1)) 180) g))]) rfl ?_
                            obtain ⟨dg, ah, wl, lo, hC⟩ : zJC D cI cZ q pa sp al co da mb dd n td wn H := ⟨_, _, _, _, hC⟩
                            refine zr_iadd (v := (smF (fun g => smF (eqF (ca co da mb dd td n (p : Int)) (g + 1)) 180) g) + (smF (eqF (ca co da mb dd td n (p : Int)) ((g : Int) + 1)) 180)) hx hb rfl dL_law_406 ?_
                            refine lv_istore (lv' := [(15, .int (zI ((smF (fun g => smF (eqF (ca co da mb dd td n (p : Int)) (g + 1)) 180) g) + (smF (eqF (ca co da mb dd td n (p : Int)) ((g : Int) + 1)) 180)))), (16, .int (zI ((g : Int) + 1))), (14, .int (zI (smF (fun g => smF (kinF al (dgF pa sp n (p : Int)) (g + 1)) n) 4))), (13, .int (zI (smF (gtF (lf da mb dd td (p : Int))) n))), (12, .int (zI (mxF (lf da mb dd td (p : Int)) n))), (11, .int (zI (smF (kaF al (dgF pa sp n (p : Int))) n))), (8, .int (zI ((smF al p) + (al (p : Int))))), (10, .int (zI (p : Int))), (9, .int (zI (mxF (llS da mb dd td n) p))), (7, .int (zI (n : Int))), (5, .long (dgC pa sp al co da mb dd n td wn)), (0, .ref b), (1, .ref (q 0)), (2, .ref s0), (3, .int (zI k9)), (4, .int x)]) hx hb dL_law_407 hl (by decide) rfl (fun ls hl => ?_)
                            refine zr_iinc (v := ((g : Int) + 1) + 1) (lv' := [(16, .int (zI (((g : Int) + 1) + 1))), (15, .int (zI ((smF (fun g => smF (eqF (ca co da mb dd td n (p : Int)) (g + 1)) 180) g) + (smF (eqF (ca co da mb dd td n (p : Int)) ((g : Int) + 1)) 180)))), (14, .int (zI (smF (fun g => smF (kinF al (dgF pa sp n (p : Int)) (g + 1)) n) 4))), (13, .int (zI (smF (gtF (lf da mb dd td (p : Int))) n))), (12, .int (zI (mxF (lf da mb dd td (p : Int)) n))), (11, .int (zI (smF (kaF al (dgF pa sp n (p : Int))) n))), (8, .int (zI ((smF al p) + (al (p : Int))))), (10, .int (zI (p : Int))), (9, .int (zI (mxF (llS da mb dd td n) p))), (7, .int (zI (n : Int))), (5, .long (dgC pa sp al co da mb dd n td wn)), (0, .ref b), (1, .ref (q 0)), (2, .ref s0), (3, .int (zI k9)), (4, .int x)]) hx hb dL_law_409 hl (k := 1) rfl rfl (by decide) rfl (fun ls hl => ?_)
                            refine lv_goto (tgt := 389) hx hb dL_law_412 (by decide) ?_
                            have hl := lv_sub hl (l' := [(16, .int (zI (((g : Int) + 1) + 1))), (15, .int (zI ((smF (fun g => smF (eqF (ca co da mb dd td n (p : Int)) (g + 1)) 180) g) + (smF (eqF (ca co da mb dd td n (p : Int)) ((g : Int) + 1)) 180)))), (14, .int (zI (smF (fun g => smF (kinF al (dgF pa sp n (p : Int)) (g + 1)) n) 4))), (13, .int (zI (smF (gtF (lf da mb dd td (p : Int))) n))), (12, .int (zI (mxF (lf da mb dd td (p : Int)) n))), (11, .int (zI (smF (kaF al (dgF pa sp n (p : Int))) n))), (8, .int (zI ((smF al p) + (al (p : Int))))), (10, .int (zI (p : Int))), (9, .int (zI (mxF (llS da mb dd td n) p))), (7, .int (zI (n : Int))), (5, .long (dgC pa sp al co da mb dd n td wn)), (0, .ref b), (1, .ref (q 0)), (2, .ref s0), (3, .int (zI k9)), (4, .int x)]) [0, 1, 2, 3, 4, 5, 6, 7, 8, 9, 10, 11, 12, 13, 14, 15] rfl
                            have e_69 : ((((g + 1) : Nat) : Int) + 1 : Int) = ((g : Int) + 1) + 1 := by omega
                            have e_70 : (smF (fun g => smF (eqF (ca co da mb dd td n (p : Int)) (g + 1)) 180) (g + 1) : Int) = (smF (fun g => smF (eqF (ca co da mb dd td n (p : Int)) (g + 1)) 180) g) + (smF (eqF (ca co da mb dd td n (p : Int)) ((g : Int) + 1)) 180) := by rw [smF_s]
                            have hl : lv_has ls 20 [(16, .int (zI ((((g + 1) : Nat) : Int) + 1))), (15, .int (zI (smF (fun g => smF (eqF (ca co da mb dd td n (p : Int)) (g + 1)) 180) (g + 1)))), (14, .int (zI (smF (fun g => smF (kinF al (dgF pa sp n (p : Int)) (g + 1)) n) 4))), (13, .int (zI (smF (gtF (lf da mb dd td (p : Int))) n))), (12, .int (zI (mxF (lf da mb dd td (p : Int)) n))), (11, .int (zI (smF (kaF al (dgF pa sp n (p : Int))) n))), (8, .int (zI ((smF al p) + (al (p : Int))))), (10, .int (zI (p : Int))), (9, .int (zI (mxF (llS da mb dd td n) p))), (7, .int (zI (n : Int))), (5, .long (dgC pa sp al co da mb dd n td wn)), (0, .ref b), (1, .ref (q 0)), (2, .ref s0), (3, .int (zI k9)), (4, .int x)] := by rw [e_69, e_70]; exact hl
                            exact ih_g (g + 1) (by omega) (by omega) _ _ _ (⟨_, _, _, _, hC⟩) (hL.toW hub) hS hl 
                      have hl := lv_sub hl (l' := [(16, .int (zI 1)), (15, .int (zI 0)), (14, .int (zI (smF (fun g => smF (kinF al (dgF pa sp n (p : Int)) (g + 1)) n) 4))), (13, .int (zI (smF (gtF (lf da mb dd td (p : Int))) n))), (12, .int (zI (mxF (lf da mb dd td (p : Int)) n))), (11, .int (zI (smF (kaF al (dgF pa sp n (p : Int))) n))), (8, .int (zI ((smF al p) + (al (p : Int))))), (10, .int (zI (p : Int))), (9, .int (zI (mxF (llS da mb dd td n) p))), (7, .int (zI (n : Int))), (5, .long (dgC pa sp al co da mb dd n td wn)), (0, .ref b), (1, .ref (q 0)), (2, .ref s0), (3, .int (zI k9)), (4, .int x)]) [0, 1, 2, 3, 4, 5, 6, 7, 8, 9, 10, 11, 12, 13, 14, 15] rfl
                      have e_71 : (smF (fun g => smF (eqF (ca co da mb dd td n (p : Int)) (g + 1)) 180) 0 : Int) = 0 := rfl
                      have hl : lv_has ls 20 [(16, .int (zI 1)), (15, .int (zI (smF (fun g => smF (eqF (ca co da mb dd td n (p : Int)) (g + 1)) 180) 0))), (14, .int (zI (smF (fun g => smF (kinF al (dgF pa sp n (p : Int)) (g + 1)) n) 4))), (13, .int (zI (smF (gtF (lf da mb dd td (p : Int))) n))), (12, .int (zI (mxF (lf da mb dd td (p : Int)) n))), (11, .int (zI (smF (kaF al (dgF pa sp n (p : Int))) n))), (8, .int (zI ((smF al p) + (al (p : Int))))), (10, .int (zI (p : Int))), (9, .int (zI (mxF (llS da mb dd td n) p))), (7, .int (zI (n : Int))), (5, .long (dgC pa sp al co da mb dd n td wn)), (0, .ref b), (1, .ref (q 0)), (2, .ref s0), (3, .int (zI k9)), (4, .int x)] := by rw [e_71]; exact hl
                      exact L389_41 (5 + 1) 0 (Nat.zero_le _) (by omega) _ _ _ (⟨_, _, _, _, hC⟩) (hL.toW hub) hS hl 
                    · have c_39 := c_39
                      refine lv_iload hx hb dL_law_364 (lv_at hl 1 rfl) ?_
                      refine lv_aload_n hx hb dL_law_366 rfl (lv_at hl 11 rfl) ?_
                      refine lv_iload hx hb dL_law_367 (lv_at hl 6 rfl) ?_
                      refine lv_iload hx hb dL_law_369 (lv_at hl 0 rfl) ?_
                      refine zcallV (ci := 2) (q0 := 0) (cq := (RX2, TX2, 9)) (As := [.int (zI (p : Int)), .int (zI ((g : Int) + 1))]) (rest := [.int (zI (smF (fun g => smF (kinF al (dgF pa sp n (p : Int)) (g + 1)) n) g))]) ⟨hx, hb, hml, hown, hts⟩ hK (kX2_kinOfok l D cI cZ q hN pa sp al dg co da mb dd ah wl lo n td wn hn hpa hsp hal (p : Int) ((g : Int) + 1) (by omega) (by omega)) (cwV 2 hts gL_law_X2_kinOf rfl rfl rfl (by decide +kernel) ⟨Nat.le_of_ble_eq_true rfl, Nat.le_of_ble_eq_true rfl⟩) hC hS (fun x h => hqS x h) rfl rfl rfl hl.1 rfl (Nat.le_of_ble_eq_true rfl) dL_law_371 ⟨show cc ≤ 1200104 from by omega, show ss ≤ 5501314 from by omega⟩ (fun H locs hC hS hz9 hk9 => ?_)
                      have hkq := fun (x : Nat) (h1 : x < _) (h2 : s0 ≤ x) => hk9 x h1 (fun h => absurd (hq0 x h) (Nat.not_lt.mpr h2))
                      have hL := zSL.keep hL (fun x h1 h2 => hkq x (Nat.lt_of_lt_of_le h2 hub) h1)
                      have hU : s9.heap.size ≤ H.size := hS.1
                      have hub : ub_38 ≤ H.size := by omega
                      refine W.eq (g2 := F0 m9 374 ls [.int (zI (smF (kinF al (dgF pa sp n (p : Int)) ((g : Int) + 1)) n)), .int (zI (smF (fun g => smF (kinF al (dgF pa sp n (p : Int)) (g + 1)) n) g))]) rfl ?_
                      obtain ⟨dg, ah, wl, lo, hC⟩ : zJC D cI cZ q pa sp al co da mb dd n td wn H := ⟨_, _, _, _, hC⟩
                      refine zr_iadd (v := (smF (fun g => smF (kinF al (dgF pa sp n (p : Int)) (g + 1)) n) g) + (smF (kinF al (dgF pa sp n (p : Int)) ((g : Int) + 1)) n)) hx hb rfl dL_law_374 ?_
                      refine lv_istore (lv' := [(14, .int (zI ((smF (fun g => smF (kinF al (dgF pa sp n (p : Int)) (g + 1)) n) g) + (smF (kinF al (dgF pa sp n (p : Int)) ((g : Int) + 1)) n)))), (15, .int (zI ((g : Int) + 1))), (13, .int (zI (smF (gtF (lf da mb dd td (p : Int))) n))), (12, .int (zI (mxF (lf da mb dd td (p : Int)) n))), (11, .int (zI (smF (kaF al (dgF pa sp n (p : Int))) n))), (8, .int (zI ((smF al p) + (al (p : Int))))), (10, .int (zI (p : Int))), (9, .int (zI (mxF (llS da mb dd td n) p))), (7, .int (zI (n : Int))), (5, .long (dgC pa sp al co da mb dd n td wn)), (0, .ref b), (1, .ref (q 0)), (2, .ref s0), (3, .int (zI k9)), (4, .int x)]) hx hb dL_law_375 hl (by decide) rfl (fun ls hl => ?_)
                      refine zr_iinc (v := ((g : Int) + 1) + 1) (lv' := [(15, .int (zI (((g : Int) + 1) + 1))), (14, .int (zI ((smF (fun g => smF (kinF al (dgF pa sp n (p : Int)) (g + 1)) n) g) + (smF (kinF al (dgF pa sp n (p : Int)) ((g : Int) + 1)) n)))), (13, .int (zI (smF (gtF (lf da mb dd td (p : Int))) n))), (12, .int (zI (mxF (lf da mb dd td (p : Int)) n))), (11, .int (zI (smF (kaF al (dgF pa sp n (p : Int))) n))), (8, .int (zI ((smF al p) + (al (p : Int))))), (10, .int (zI (p : Int))), (9, .int (zI (mxF (llS da mb dd td n) p))), (7, .int (zI (n : Int))), (5, .long (dgC pa sp al co da mb dd n td wn)), (0, .ref b), (1, .ref (q 0)), (2, .ref s0), (3, .int (zI k9)), (4, .int x)]) hx hb dL_law_377 hl (k := 1) rfl rfl (by decide) rfl (fun ls hl => ?_)
                      refine lv_goto (tgt := 358) hx hb dL_law_380 (by decide) ?_
                      have hl := lv_sub hl (l' := [(15, .int (zI (((g : Int) + 1) + 1))), (14, .int (zI ((smF (fun g => smF (kinF al (dgF pa sp n (p : Int)) (g + 1)) n) g) + (smF (kinF al (dgF pa sp n (p : Int)) ((g : Int) + 1)) n)))), (13, .int (zI (smF (gtF (lf da mb dd td (p : Int))) n))), (12, .int (zI (mxF (lf da mb dd td (p : Int)) n))), (11, .int (zI (smF (kaF al (dgF pa sp n (p : Int))) n))), (8, .int (zI ((smF al p) + (al (p : Int))))), (10, .int (zI (p : Int))), (9, .int (zI (mxF (llS da mb dd td n) p))), (7, .int (zI (n : Int))), (5, .long (dgC pa sp al co da mb dd n td wn)), (0, .ref b), (1, .ref (q 0)), (2, .ref s0), (3, .int (zI k9)), (4, .int x)]) [0, 1, 2, 3, 4, 5, 6, 7, 8, 9, 10, 11, 12, 13, 14] rfl
                      have e_72 : ((((g + 1) : Nat) : Int) + 1 : Int) = ((g : Int) + 1) + 1 := by omega
                      have e_73 : (smF (fun g => smF (kinF al (dgF pa sp n (p : Int)) (g + 1)) n) (g + 1) : Int) = (smF (fun g => smF (kinF al (dgF pa sp n (p : Int)) (g + 1)) n) g) + (smF (kinF al (dgF pa sp n (p : Int)) ((g : Int) + 1)) n) := by rw [smF_s]
                      have hl : lv_has ls 20 [(15, .int (zI ((((g + 1) : Nat) : Int) + 1))), (14, .int (zI (smF (fun g => smF (kinF al (dgF pa sp n (p : Int)) (g + 1)) n) (g + 1)))), (13, .int (zI (smF (gtF (lf da mb dd td (p : Int))) n))), (12, .int (zI (mxF (lf da mb dd td (p : Int)) n))), (11, .int (zI (smF (kaF al (dgF pa sp n (p : Int))) n))), (8, .int (zI ((smF al p) + (al (p : Int))))), (10, .int (zI (p : Int))), (9, .int (zI (mxF (llS da mb dd td n) p))), (7, .int (zI (n : Int))), (5, .long (dgC pa sp al co da mb dd n td wn)), (0, .ref b), (1, .ref (q 0)), (2, .ref s0), (3, .int (zI k9)), (4, .int x)] := by rw [e_72, e_73]; exact hl
                      exact ih_g (g + 1) (by omega) (by omega) _ _ _ (⟨_, _, _, _, hC⟩) (hL.toW hub) hS hl 
                have hl := lv_sub hl (l' := [(15, .int (zI 1)), (14, .int (zI 0)), (13, .int (zI (smF (gtF (lf da mb dd td (p : Int))) n))), (12, .int (zI (mxF (lf da mb dd td (p : Int)) n))), (11, .int (zI (smF (kaF al (dgF pa sp n (p : Int))) n))), (8, .int (zI ((smF al p) + (al (p : Int))))), (10, .int (zI (p : Int))), (9, .int (zI (mxF (llS da mb dd td n) p))), (7, .int (zI (n : Int))), (5, .long (dgC pa sp al co da mb dd n td wn)), (0, .ref b), (1, .ref (q 0)), (2, .ref s0), (3, .int (zI k9)), (4, .int x)]) [0, 1, 2, 3, 4, 5, 6, 7, 8, 9, 10, 11, 12, 13, 14] rfl
                have e_74 : (smF (fun g => smF (kinF al (dgF pa sp n (p : Int)) (g + 1)) n) 0 : Int) = 0 := rfl
                have hl : lv_has ls 20 [(15, .int (zI 1)), (14, .int (zI (smF (fun g => smF (kinF al (dgF pa sp n (p : Int)) (g + 1)) n) 0))), (13, .int (zI (smF (gtF (lf da mb dd td (p : Int))) n))), (12, .int (zI (mxF (lf da mb dd td (p : Int)) n))), (11, .int (zI (smF (kaF al (dgF pa sp n (p : Int))) n))), (8, .int (zI ((smF al p) + (al (p : Int))))), (10, .int (zI (p : Int))), (9, .int (zI (mxF (llS da mb dd td n) p))), (7, .int (zI (n : Int))), (5, .long (dgC pa sp al co da mb dd n td wn)), (0, .ref b), (1, .ref (q 0)), (2, .ref s0), (3, .int (zI k9)), (4, .int x)] := by rw [e_74]; exact hl
                exact L358_37 (4 + 1) 0 (Nat.zero_le _) (by omega) _ _ _ (⟨_, _, _, _, hC⟩) (hL.toW hub) hS hl 
              · have c_35 := c_35
                have hdg := dgF_bd pa sp n (p : Int) (j : Int)
                have hdg2 := dgF_bd pa sp n (j : Int) (p : Int)
                have hsy := dgF_sym (pa := pa) (sp := sp) (n := n) hI.2.1.sym (s := (p : Int)) (t := (j : Int)) ⟨by omega, by omega⟩ ⟨by omega, by omega⟩
                have hadj := hI.adj (i := (p : Int)) (j := (j : Int)) (by omega) (by omega) (by omega) (by omega)
                have hlf := hI.lf180 (p : Int) (j : Int)
                have haj := hal (j : Int)
                have hpaj := hpa (j : Int)
                refine lv_aload_n hx hb dL_law_146 rfl (lv_at hl 10 rfl) ?_
                refine lv_iload hx hb dL_law_147 (lv_at hl 5 rfl) ?_
                refine lv_iload hx hb dL_law_149 (lv_at hl 0 rfl) ?_
                refine zcallV (ci := 2) (q0 := 0) (cq := (RX2, TX2, 9)) (As := [.int (zI (p : Int)), .int (zI (j : Int))]) (rest := []) ⟨hx, hb, hml, hown, hts⟩ hK (kX2_degreeOfok l D cI cZ q hN pa sp al dg co da mb dd ah wl lo n td wn hn hpa hsp (p : Int) (j : Int) (by omega) (by omega)) (cwV 2 hts gL_law_X2_degreeOf rfl rfl rfl (by decide +kernel) ⟨Nat.le_of_ble_eq_true rfl, Nat.le_of_ble_eq_true rfl⟩) hC hS (fun x h => hqS x h) rfl rfl rfl hl.1 rfl (Nat.le_of_ble_eq_true rfl) dL_law_151 ⟨show cc ≤ 1200104 from by omega, show ss ≤ 5501314 from by omega⟩ (fun H locs hC hS hz9 hk9 => ?_)
                have hkq := fun (x : Nat) (h1 : x < _) (h2 : s0 ≤ x) => hk9 x h1 (fun h => absurd (hq0 x h) (Nat.not_lt.mpr h2))
                have hL := zSL.keep hL (fun x h1 h2 => hkq x (Nat.lt_of_lt_of_le h2 hub) h1)
                have hU : s9.heap.size ≤ H.size := hS.1
                have hub : ub_34 ≤ H.size := by omega
                refine W.eq (g2 := F0 m9 154 ls [.int (zI (dgF pa sp n (p : Int) (j : Int)))]) rfl ?_
                obtain ⟨dg, ah, wl, lo, hC⟩ : zJC D cI cZ q pa sp al co da mb dd n td wn H := ⟨_, _, _, _, hC⟩
                refine lv_istore (lv' := [(15, .int (zI (dgF pa sp n (p : Int) (j : Int)))), (14, .int (zI (j : Int))), (13, .int (zI (smF (gtF (lf da mb dd td (p : Int))) j))), (12, .int (zI (mxF (lf da mb dd td (p : Int)) j))), (11, .int (zI (smF (kaF al (dgF pa sp n (p : Int))) j))), (8, .int (zI ((smF al p) + (al (p : Int))))), (10, .int (zI (p : Int))), (9, .int (zI (mxF (llS da mb dd td n) p))), (7, .int (zI (n : Int))), (5, .long (dgC pa sp al co da mb dd n td wn)), (0, .ref b), (1, .ref (q 0)), (2, .ref s0), (3, .int (zI k9)), (4, .int x)]) hx hb dL_law_154 hl (by decide) rfl (fun ls hl => ?_)
                have J194_75 : ∀ (H : Heap) (locs : List Loc) (z : Int), zJC D cI cZ q pa sp al co da mb dd n td wn H → zSL D cI c1 c2 s0 ub_34 H s0 kd_34 ap_34 ac_34 am_34 ra_34 rc_34 rr_34 rm_34 n pa sp al co da M mo td wn → ub_34 ≤ H.size → va_S (fun x => s9.heap.size ≤ x) s9.heap H locs → z = adF pa sp (p : Int) (j : Int) → W p0 l e9 room_1 s9 m9 #[Value.ref b] below meth c9 H locs cc ss Q0 (F0 m9 194 ls [(.int (zI z))]) := by
                  intro H locs z hC hL hub  hS hz
                  subst hz
                  obtain ⟨dg, ah, wl, lo, hC⟩ := hC
                  have hU : s9.heap.size ≤ H.size := hS.1
                  refine lv_istore (lv' := [(16, .int (zI (adF pa sp (p : Int) (j : Int)))), (15, .int (zI (dgF pa sp n (p : Int) (j : Int)))), (14, .int (zI (j : Int))), (13, .int (zI (smF (gtF (lf da mb dd td (p : Int))) j))), (12, .int (zI (mxF (lf da mb dd td (p : Int)) j))), (11, .int (zI (smF (kaF al (dgF pa sp n (p : Int))) j))), (8, .int (zI ((smF al p) + (al (p : Int))))), (10, .int (zI (p : Int))), (9, .int (zI (mxF (llS da mb dd td n) p))), (7, .int (zI (n : Int))), (5, .long (dgC pa sp al co da mb dd n td wn)), (0, .ref b), (1, .ref (q 0)), (2, .ref s0), (3, .int (zI k9)), (4, .int x)]) hx hb dL_law_194 hl (by decide) rfl (fun ls hl => ?_)
                  refine lv_iload hx hb dL_law_196 (lv_at hl 1 rfl) ?_
                  refine lv_aload_n hx hb dL_law_198 rfl (lv_at hl 12 rfl) ?_
                  refine lv_iload hx hb dL_law_199 (lv_at hl 2 rfl) ?_
                  refine lv_iload hx hb dL_law_201 (lv_at hl 7 rfl) ?_
                  refine zcallV (ci := 2) (q0 := 0) (cq := (RX2, TX2, 9)) (As := [.int (zI (j : Int)), .int (zI (p : Int))]) (rest := [.int (zI (dgF pa sp n (p : Int) (j : Int)))]) ⟨hx, hb, hml, hown, hts⟩ hK (kX2_degreeOfok l D cI cZ q hN pa sp al dg co da mb dd ah wl lo n td wn hn hpa hsp (j : Int) (p : Int) (by omega) (by omega)) (cwV 2 hts gL_law_X2_degreeOf rfl rfl rfl (by decide +kernel) ⟨Nat.le_of_ble_eq_true rfl, Nat.le_of_ble_eq_true rfl⟩) hC hS (fun x h => hqS x h) rfl rfl rfl hl.1 rfl (Nat.le_of_ble_eq_true rfl) dL_law_203 ⟨show cc ≤ 1200104 from by omega, show ss ≤ 5501314 from by omega⟩ (fun H locs hC hS hz9 hk9 => ?_)
                  have hkq := fun (x : Nat) (h1 : x < _) (h2 : s0 ≤ x) => hk9 x h1 (fun h => absurd (hq0 x h) (Nat.not_lt.mpr h2))
                  have hL := zSL.keep hL (fun x h1 h2 => hkq x (Nat.lt_of_lt_of_le h2 hub) h1)
                  have hU : s9.heap.size ≤ H.size := hS.1
                  have hub : ub_34 ≤ H.size := by omega
                  refine W.eq (g2 := F0 m9 206 ls [.int (zI (dgF pa sp n (j : Int) (p : Int))), .int (zI (dgF pa sp n (p : Int) (j : Int)))]) rfl ?_
                  obtain ⟨dg, ah, wl, lo, hC⟩ : zJC D cI cZ q pa sp al co da mb dd n td wn H := ⟨_, _, _, _, hC⟩
                  refine zr_icmp_neF (tgt := 248) hx hb hsy dL_law_206 (by decide) ?_
                  refine lv_iload hx hb dL_law_209 (lv_at hl 1 rfl) ?_
                  refine zr_if_lt (tgt := 248) hx hb dL_law_211 (by decide) ⟨by omega, by omega⟩ (fun c_76 => by exfalso; omega) (fun c_76 => ?_)
                  refine lv_iload hx hb dL_law_214 (lv_at hl 1 rfl) ?_
                  refine zr_iconst hx hb dL_law_216 ?_
                  refine zr_icmp_gt (tgt := 248) hx hb dL_law_217 (by decide) ⟨by omega, by omega⟩ ⟨by decide, by decide⟩ (fun c_77 => by exfalso; omega) (fun c_77 => ?_)
                  have J231_78 : ∀ (H : Heap) (locs : List Loc) (z : Int), zJC D cI cZ q pa sp al co da mb dd n td wn H → zSL D cI c1 c2 s0 ub_34 H s0 kd_34 ap_34 ac_34 am_34 ra_34 rc_34 rr_34 rm_34 n pa sp al co da M mo td wn → ub_34 ≤ H.size → va_S (fun x => s9.heap.size ≤ x) s9.heap H locs → z = oneF (dgF pa sp n (p : Int) (j : Int)) → W p0 l e9 room_1 s9 m9 #[Value.ref b] below meth c9 H locs cc ss Q0 (F0 m9 231 ls [(.int (zI z))]) := by
                    intro H locs z hC hL hub  hS hz
                    subst hz
                    obtain ⟨dg, ah, wl, lo, hC⟩ := hC
                    have hU : s9.heap.size ≤ H.size := hS.1
                    refine lv_iload hx hb dL_law_231 (lv_at hl 0 rfl) ?_
                    refine zr_icmp_neF (tgt := 248) hx hb hadj dL_law_233 (by decide) ?_
                    have J250_79 : ∀ (H : Heap) (locs : List Loc), zJC D cI cZ q pa sp al co da mb dd n td wn H → zSL D cI c1 c2 s0 ub_34 H s0 kd_34 ap_34 ac_34 am_34 ra_34 rc_34 rr_34 rm_34 n pa sp al co da M mo td wn → ub_34 ≤ H.size → va_S (fun x => s9.heap.size ≤ x) s9.heap H locs → W p0 l e9 room_1 s9 m9 #[Value.ref b] below meth c9 H locs cc ss Q0 (F0 m9 250 ls []) := by
                      intro H locs hC hL hub  hS
                      obtain ⟨dg, ah, wl, lo, hC⟩ := hC
                      have hU : s9.heap.size ≤ H.size := hS.1
                      refine lv_iload hx hb dL_law_250 (lv_at hl 5 rfl) ?_
                      have J271_80 : ∀ (H : Heap) (locs : List Loc) (z : Int), zJC D cI cZ q pa sp al co da mb dd n td wn H → zSL D cI c1 c2 s0 ub_34 H s0 kd_34 ap_34 ac_34 am_34 ra_34 rc_34 rr_34 rm_34 n pa sp al co da M mo td wn → ub_34 ≤ H.size → va_S (fun x => s9.heap.size ≤ x) s9.heap H locs → z = kaF al (dgF pa sp n (p : Int)) (j : Int) → W p0 l e9 room_1 s9 m9 #[Value.ref b] below meth c9 H locs cc ss Q0 (F0 m9 271 ls [(.int (zI z)), .int (zI (smF (kaF al (dgF pa sp n (p : Int))) j))]) := by
                        intro H locs z hC hL hub  hS hz
                        subst hz
                        obtain ⟨dg, ah, wl, lo, hC⟩ := hC
                        have hU : s9.heap.size ≤ H.size := hS.1
                        refine zr_iadd (v := (smF (kaF al (dgF pa sp n (p : Int))) j) + (kaF al (dgF pa sp n (p : Int)) (j : Int))) hx hb rfl dL_law_271 ?_
                        refine lv_istore (lv' := [(11, .int (zI ((smF (kaF al (dgF pa sp n (p : Int))) j) + (kaF al (dgF pa sp n (p : Int)) (j : Int))))), (16, .int (zI (adF pa sp (p : Int) (j : Int)))), (15, .int (zI (dgF pa sp n (p : Int) (j : Int)))), (14, .int (zI (j : Int))), (13, .int (zI (smF (gtF (lf da mb dd td (p : Int))) j))), (12, .int (zI (mxF (lf da mb dd td (p : Int)) j))), (8, .int (zI ((smF al p) + (al (p : Int))))), (10, .int (zI (p : Int))), (9, .int (zI (mxF (llS da mb dd td n) p))), (7, .int (zI (n : Int))), (5, .long (dgC pa sp al co da mb dd n td wn)), (0, .ref b), (1, .ref (q 0)), (2, .ref s0), (3, .int (zI k9)), (4, .int x)]) hx hb dL_law_272 hl (by decide) rfl (fun ls hl => ?_)
                        refine lv_aload_n hx hb dL_law_274 rfl (lv_at hl 12 rfl) ?_
                        refine lv_iload hx hb dL_law_275 (lv_at hl 7 rfl) ?_
                        refine lv_iload hx hb dL_law_277 (lv_at hl 3 rfl) ?_
                        refine zcallV (ci := 2) (q0 := 0) (cq := (RX2, TX2, 9)) (As := [.int (zI (p : Int)), .int (zI (j : Int))]) (rest := []) ⟨hx, hb, hml, hown, hts⟩ hK (kX2_daysLeftForok l D cI cZ q hN pa sp al dg co da mb dd ah wl lo n td wn hn hda hmb hdd htd (p : Int) (j : Int) (by omega) (by omega)) (cwV 2 hts gL_law_X2_daysLeftFor rfl rfl rfl (by decide +kernel) ⟨Nat.le_of_ble_eq_true rfl, Nat.le_of_ble_eq_true rfl⟩) hC hS (fun x h => hqS x h) rfl rfl rfl hl.1 rfl (Nat.le_of_ble_eq_true rfl) dL_law_279 ⟨show cc ≤ 1200104 from by omega, show ss ≤ 5501314 from by omega⟩ (fun H locs hC hS hz9 hk9 => ?_)
                        have hkq := fun (x : Nat) (h1 : x < _) (h2 : s0 ≤ x) => hk9 x h1 (fun h => absurd (hq0 x h) (Nat.not_lt.mpr h2))
                        have hL := zSL.keep hL (fun x h1 h2 => hkq x (Nat.lt_of_lt_of_le h2 hub) h1)
                        have hU : s9.heap.size ≤ H.size := hS.1
                        have hub : ub_34 ≤ H.size := by omega
                        refine W.eq (g2 := F0 m9 282 ls [.int (zI (lf da mb dd td (p : Int) (j : Int)))]) rfl ?_
                        refine lv_istore (lv' := [(17, .int (zI (lf da mb dd td (p : Int) (j : Int)))), (11, .int (zI ((smF (kaF al (dgF pa sp n (p : Int))) j) + (kaF al (dgF pa sp n (p : Int)) (j : Int))))), (16, .int (zI (adF pa sp (p : Int) (j : Int)))), (15, .int (zI (dgF pa sp n (p : Int) (j : Int)))), (14, .int (zI (j : Int))), (13, .int (zI (smF (gtF (lf da mb dd td (p : Int))) j))), (12, .int (zI (mxF (lf da mb dd td (p : Int)) j))), (8, .int (zI ((smF al p) + (al (p : Int))))), (10, .int (zI (p : Int))), (9, .int (zI (mxF (llS da mb dd td n) p))), (7, .int (zI (n : Int))), (5, .long (dgC pa sp al co da mb dd n td wn)), (0, .ref b), (1, .ref (q 0)), (2, .ref s0), (3, .int (zI k9)), (4, .int x)]) hx hb dL_law_282 hl (by decide) rfl (fun ls hl => ?_)
                        refine lv_iload hx hb dL_law_284 (lv_at hl 0 rfl) ?_
                        refine zr_if_lt (tgt := 320) hx hb dL_law_286 (by decide) ⟨by omega, by omega⟩ (fun c_81 => by exfalso; omega) (fun c_81 => ?_)
                        refine lv_iload hx hb dL_law_289 (lv_at hl 0 rfl) ?_
                        refine zr_sipush hx hb dL_law_291 (by decide) ?_
                        refine zr_icmp_gt (tgt := 320) hx hb dL_law_294 (by decide) ⟨by omega, by omega⟩ ⟨by decide, by decide⟩ (fun c_82 => by exfalso; omega) (fun c_82 => ?_)
                        have J322_83 : ∀ (H : Heap) (locs : List Loc), zJC D cI cZ q pa sp al co da mb dd n td wn H → zSL D cI c1 c2 s0 ub_34 H s0 kd_34 ap_34 ac_34 am_34 ra_34 rc_34 rr_34 rm_34 n pa sp al co da M mo td wn → ub_34 ≤ H.size → va_S (fun x => s9.heap.size ≤ x) s9.heap H locs → W p0 l e9 room_1 s9 m9 #[Value.ref b] below meth c9 H locs cc ss Q0 (F0 m9 322 ls []) := by
                          intro H locs hC hL hub  hS
                          obtain ⟨dg, ah, wl, lo, hC⟩ := hC
                          have hU : s9.heap.size ≤ H.size := hS.1
                          refine lv_iload hx hb dL_law_322 (lv_at hl 6 rfl) ?_
                          refine lv_iload hx hb dL_law_324 (lv_at hl 0 rfl) ?_
                          refine zr_mmax hx hb (by rw [hml, hl.1]) hown (hts (.methodLink RL 114 Lib.Math.max.name) (by decide +kernel)) (hts (.static Lib.Math.max.name) (by decide +kernel)) (hts (.initialized "java/lang/Math") (by decide +kernel)) (hts (.code Lib.Math.max.name Lib.Math.max.code 2 (some .int)) (by decide +kernel)) (Nat.le_of_ble_eq_true rfl) (Nat.le_of_ble_eq_true rfl) (show cc ≤ 1200104 from by omega) (show ss ≤ 5501314 from by omega) ⟨by omega, by omega⟩ ⟨by omega, by omega⟩ dL_law_326 ?_
                          refine lv_istore (lv' := [(12, .int (zI (max (mxF (lf da mb dd td (p : Int)) j) (lf da mb dd td (p : Int) (j : Int))))), (17, .int (zI (lf da mb dd td (p : Int) (j : Int)))), (11, .int (zI ((smF (kaF al (dgF pa sp n (p : Int))) j) + (kaF al (dgF pa sp n (p : Int)) (j : Int))))), (16, .int (zI (adF pa sp (p : Int) (j : Int)))), (15, .int (zI (dgF pa sp n (p : Int) (j : Int)))), (14, .int (zI (j : Int))), (13, .int (zI (smF (gtF (lf da mb dd td (p : Int))) j))), (8, .int (zI ((smF al p) + (al (p : Int))))), (10, .int (zI (p : Int))), (9, .int (zI (mxF (llS da mb dd td n) p))), (7, .int (zI (n : Int))), (5, .long (dgC pa sp al co da mb dd n td wn)), (0, .ref b), (1, .ref (q 0)), (2, .ref s0), (3, .int (zI k9)), (4, .int x)]) hx hb dL_law_329 hl (by decide) rfl (fun ls hl => ?_)
                          refine lv_iload hx hb dL_law_331 (lv_at hl 6 rfl) ?_
                          have J343_84 : ∀ (H : Heap) (locs : List Loc) (z : Int), zJC D cI cZ q pa sp al co da mb dd n td wn H → zSL D cI c1 c2 s0 ub_34 H s0 kd_34 ap_34 ac_34 am_34 ra_34 rc_34 rr_34 rm_34 n pa sp al co da M mo td wn → ub_34 ≤ H.size → va_S (fun x => s9.heap.size ≤ x) s9.heap H locs → z = gtF (lf da mb dd td (p : Int)) (j : Int) → W p0 l e9 room_1 s9 m9 #[Value.ref b] below meth c9 H locs cc ss Q0 (F0 m9 343 ls [(.int (zI z)), .int (zI (smF (gtF (lf da mb dd td (p : Int))) j))]) := by
                            intro H locs z hC hL hub  hS hz
                            subst hz
                            obtain ⟨dg, ah, wl, lo, hC⟩ := hC
                            have hU : s9.heap.size ≤ H.size := hS.1
                            refine zr_iadd (v := (smF (gtF (lf da mb dd td (p : Int))) j) + (gtF (lf da mb dd td (p : Int)) (j : Int))) hx hb rfl dL_law_343 ?_
                            refine lv_istore (lv' := [(13, .int (zI ((smF (gtF (lf da mb dd td (p : Int))) j) + (gtF (lf da mb dd td (p : Int)) (j : Int))))), (12, .int (zI (max (mxF (lf da mb dd td (p : Int)) j) (lf da mb dd td (p : Int) (j : Int))))), (17, .int (zI (lf da mb dd td (p : Int) (j : Int)))), (11, .int (zI ((smF (kaF al (dgF pa sp n (p : Int))) j) + (kaF al (dgF pa sp n (p : Int)) (j : Int))))), (16, .int (zI (adF pa sp (p : Int) (j : Int)))), (15, .int (zI (dgF pa sp n (p : Int) (j : Int)))), (14, .int (zI (j : Int))), (8, .int (zI ((smF al p) + (al (p : Int))))), (10, .int (zI (p : Int))), (9, .int (zI (mxF (llS da mb dd td n) p))), (7, .int (zI (n : Int))), (5, .long (dgC pa sp al co da mb dd n td wn)), (0, .ref b), (1, .ref (q 0)), (2, .ref s0), (3, .int (zI k9)), (4, .int x)]) hx hb dL_law_344 hl (by decide) rfl (fun ls hl => ?_)
                            refine zr_iinc (v := (j : Int) + 1) (lv' := [(14, .int (zI ((j : Int) + 1))), (13, .int (zI ((smF (gtF (lf da mb dd td (p : Int))) j) + (gtF (lf da mb dd td (p : Int)) (j : Int))))), (12, .int (zI (max (mxF (lf da mb dd td (p : Int)) j) (lf da mb dd td (p : Int) (j : Int))))), (17, .int (zI (lf da mb dd td (p : Int) (j : Int)))), (11, .int (zI ((smF (kaF al (dgF pa sp n (p : Int))) j) + (kaF al (dgF pa sp n (p : Int)) (j : Int))))), (16, .int (zI (adF pa sp (p : Int) (j : Int)))), (15, .int (zI (dgF pa sp n (p : Int) (j : Int)))), (8, .int (zI ((smF al p) + (al (p : Int))))), (10, .int (zI (p : Int))), (9, .int (zI (mxF (llS da mb dd td n) p))), (7, .int (zI (n : Int))), (5, .long (dgC pa sp al co da mb dd n td wn)), (0, .ref b), (1, .ref (q 0)), (2, .ref s0), (3, .int (zI k9)), (4, .int x)]) hx hb dL_law_346 hl (k := 6) rfl rfl (by decide) rfl (fun ls hl => ?_)
                            refine lv_goto (tgt := 139) hx hb dL_law_349 (by decide) ?_
                            have hl := lv_sub hl (l' := [(14, .int (zI ((j : Int) + 1))), (13, .int (zI ((smF (gtF (lf da mb dd td (p : Int))) j) + (gtF (lf da mb dd td (p : Int)) (j : Int))))), (12, .int (zI (max (mxF (lf da mb dd td (p : Int)) j) (lf da mb dd td (p : Int) (j : Int))))), (11, .int (zI ((smF (kaF al (dgF pa sp n (p : Int))) j) + (kaF al (dgF pa sp n (p : Int)) (j : Int))))), (8, .int (zI ((smF al p) + (al (p : Int))))), (10, .int (zI (p : Int))), (9, .int (zI (mxF (llS da mb dd td n) p))), (7, .int (zI (n : Int))), (5, .long (dgC pa sp al co da mb dd n td wn)), (0, .ref b), (1, .ref (q 0)), (2, .ref s0), (3, .int (zI k9)), (4, .int x)]) [0, 1, 2, 4, 7, 8, 9, 10, 11, 12, 13, 14, 15, 16] rfl
                            have e_85 : ((((j + 1) : Nat) : Int) : Int) = (j : Int) + 1 := by omega
                            have e_86 : (smF (gtF (lf da mb dd td (p : Int))) (j + 1) : Int) = (smF (gtF (lf da mb dd td (p : Int))) j) + (gtF (lf da mb dd td (p : Int)) (j : Int)) := by rw [smF_s]
                            have e_87 : (mxF (lf da mb dd td (p : Int)) (j + 1) : Int) = max (mxF (lf da mb dd td (p : Int)) j) (lf da mb dd td (p : Int) (j : Int)) := by rw [mxF_s]
                            have e_88 : (smF (kaF al (dgF pa sp n (p : Int))) (j + 1) : Int) = (smF (kaF al (dgF pa sp n (p : Int))) j) + (kaF al (dgF pa sp n (p : Int)) (j : Int)) := by rw [smF_s]
                            have hl : lv_has ls 20 [(14, .int (zI (((j + 1) : Nat) : Int))), (13, .int (zI (smF (gtF (lf da mb dd td (p : Int))) (j + 1)))), (12, .int (zI (mxF (lf da mb dd td (p : Int)) (j + 1)))), (11, .int (zI (smF (kaF al (dgF pa sp n (p : Int))) (j + 1)))), (8, .int (zI ((smF al p) + (al (p : Int))))), (10, .int (zI (p : Int))), (9, .int (zI (mxF (llS da mb dd td n) p))), (7, .int (zI (n : Int))), (5, .long (dgC pa sp al co da mb dd n td wn)), (0, .ref b), (1, .ref (q 0)), (2, .ref s0), (3, .int (zI k9)), (4, .int x)] := by rw [e_85, e_86, e_87, e_88]; exact hl
                            exact ih_j (j + 1) (by omega) (by omega) _ _ _ (⟨_, _, _, _, hC⟩) (hL.toW hub) hS hl 
                          refine lv_iload hx hb dL_law_333 (lv_at hl 1 rfl) ?_
                          refine zr_if_le (tgt := 342) hx hb dL_law_335 (by decide) ⟨by omega, by omega⟩ (fun c_89 => ?_) (fun c_89 => ?_)
                          · have c_89 := c_89
                            refine zr_iconst hx hb dL_law_342 ?_
                            exact J343_84 _ _ _ ⟨_, _, _, _, hC⟩ hL hub hS ((if_neg (by omega)).symm)
                          · have c_89 := c_89
                            refine zr_iconst hx hb dL_law_338 ?_
                            refine lv_goto (tgt := 343) hx hb dL_law_339 (by decide) ?_
                            exact J343_84 _ _ _ ⟨_, _, _, _, hC⟩ hL hub hS ((if_pos (by omega)).symm)
                        refine lv_iload hx hb dL_law_297 (lv_at hl 0 rfl) ?_
                        refine zr_if_le (tgt := 322) hx hb dL_law_299 (by decide) ⟨by omega, by omega⟩ (fun c_90 => ?_) (fun c_90 => ?_)
                        · have c_90 := c_90
                          exact J322_83 _ _ ⟨_, _, _, _, hC⟩ hL hub hS
                        · have c_90 := c_90
                          have hl0f := hI.lf0 (p := (p : Int)) (d := (j : Int)) (by omega) (by omega) (by omega) (by omega) (by omega)
                          refine lv_aload_n hx hb dL_law_302 rfl (lv_at hl 13 rfl) ?_
                          refine lv_iload hx hb dL_law_303 (lv_at hl 8 rfl) ?_
                          refine zcallV (ci := 2) (q0 := 0) (cq := (RX2, TX2, 9)) (As := [.int (zI (p : Int))]) (rest := []) ⟨hx, hb, hml, hown, hts⟩ hK (kX2_isAliveok l D cI cZ q hN pa sp al dg co da mb dd ah wl lo n td wn hn hal (p : Int) (by omega)) (cwV 1 hts gL_law_X2_isAlive rfl rfl rfl (by decide +kernel) ⟨Nat.le_of_ble_eq_true rfl, Nat.le_of_ble_eq_true rfl⟩) hC hS (fun x h => hqS x h) rfl rfl rfl hl.1 rfl (Nat.le_of_ble_eq_true rfl) dL_law_305 ⟨show cc ≤ 1200104 from by omega, show ss ≤ 5501314 from by omega⟩ (fun H locs hC hS hz9 hk9 => ?_)
                          have hkq := fun (x : Nat) (h1 : x < _) (h2 : s0 ≤ x) => hk9 x h1 (fun h => absurd (hq0 x h) (Nat.not_lt.mpr h2))
                          have hL := zSL.keep hL (fun x h1 h2 => hkq x (Nat.lt_of_lt_of_le h2 hub) h1)
                          have hU : s9.heap.size ≤ H.size := hS.1
                          have hub : ub_34 ≤ H.size := by omega
                          refine W.eq (g2 := F0 m9 308 ls [.int (zI (al (p : Int)))]) rfl ?_
                          refine zr_if_eq (tgt := 320) hx hb dL_law_308 (by decide) ⟨by omega, by omega⟩ (fun c_91 => by exfalso; omega) (fun c_91 => ?_)
                          refine lv_aload_n hx hb dL_law_311 rfl (lv_at hl 13 rfl) ?_
                          refine lv_iload hx hb dL_law_312 (lv_at hl 4 rfl) ?_
                          refine zcallV (ci := 2) (q0 := 0) (cq := (RX2, TX2, 9)) (As := [.int (zI (j : Int))]) (rest := []) ⟨hx, hb, hml, hown, hts⟩ hK (kX2_isAliveok l D cI cZ q hN pa sp al dg co da mb dd ah wl lo n td wn hn hal (j : Int) (by omega)) (cwV 1 hts gL_law_X2_isAlive rfl rfl rfl (by decide +kernel) ⟨Nat.le_of_ble_eq_true rfl, Nat.le_of_ble_eq_true rfl⟩) hC hS (fun x h => hqS x h) rfl rfl rfl hl.1 rfl (Nat.le_of_ble_eq_true rfl) dL_law_314 ⟨show cc ≤ 1200104 from by omega, show ss ≤ 5501314 from by omega⟩ (fun H locs hC hS hz9 hk9 => ?_)
                          have hkq := fun (x : Nat) (h1 : x < _) (h2 : s0 ≤ x) => hk9 x h1 (fun h => absurd (hq0 x h) (Nat.not_lt.mpr h2))
                          have hL := zSL.keep hL (fun x h1 h2 => hkq x (Nat.lt_of_lt_of_le h2 hub) h1)
                          have hU : s9.heap.size ≤ H.size := hS.1
                          have hub : ub_34 ≤ H.size := by omega
                          refine W.eq (g2 := F0 m9 317 ls [.int (zI (al (j : Int)))]) rfl ?_
                          refine zr_if_eq (tgt := 322) hx hb dL_law_317 (by decide) ⟨by omega, by omega⟩ (fun c_92 => ?_) (fun c_92 => by exfalso; omega)
                          exact J322_83 _ _ ⟨_, _, _, _, hC⟩ hL hub hS
                      refine lv_iload hx hb dL_law_252 (lv_at hl 1 rfl) ?_
                      refine zr_if_le (tgt := 270) hx hb dL_law_254 (by decide) ⟨by omega, by omega⟩ (fun c_93 => ?_) (fun c_93 => ?_)
                      · have c_93 := c_93
                        refine zr_iconst hx hb dL_law_270 ?_
                        exact J271_80 _ _ _ ⟨_, _, _, _, hC⟩ hL hub hS ((if_neg (by omega)).symm)
                      · have c_93 := c_93
                        refine lv_aload_n hx hb dL_law_257 rfl (lv_at hl 12 rfl) ?_
                        refine lv_iload hx hb dL_law_258 (lv_at hl 2 rfl) ?_
                        refine zcallV (ci := 2) (q0 := 0) (cq := (RX2, TX2, 9)) (As := [.int (zI (j : Int))]) (rest := [.int (zI (smF (kaF al (dgF pa sp n (p : Int))) j))]) ⟨hx, hb, hml, hown, hts⟩ hK (kX2_isAliveok l D cI cZ q hN pa sp al dg co da mb dd ah wl lo n td wn hn hal (j : Int) (by omega)) (cwV 1 hts gL_law_X2_isAlive rfl rfl rfl (by decide +kernel) ⟨Nat.le_of_ble_eq_true rfl, Nat.le_of_ble_eq_true rfl⟩) hC hS (fun x h => hqS x h) rfl rfl rfl hl.1 rfl (Nat.le_of_ble_eq_true rfl) dL_law_260 ⟨show cc ≤ 1200104 from by omega, show ss ≤ 5501314 from by omega⟩ (fun H locs hC hS hz9 hk9 => ?_)
                        have hkq := fun (x : Nat) (h1 : x < _) (h2 : s0 ≤ x) => hk9 x h1 (fun h => absurd (hq0 x h) (Nat.not_lt.mpr h2))
                        have hL := zSL.keep hL (fun x h1 h2 => hkq x (Nat.lt_of_lt_of_le h2 hub) h1)
                        have hU : s9.heap.size ≤ H.size := hS.1
                        have hub : ub_34 ≤ H.size := by omega
                        refine W.eq (g2 := F0 m9 263 ls [.int (zI (al (j : Int))), .int (zI (smF (kaF al (dgF pa sp n (p : Int))) j))]) rfl ?_
                        refine zr_if_eq (tgt := 270) hx hb dL_law_263 (by decide) ⟨by omega, by omega⟩ (fun c_94 => ?_) (fun c_94 => ?_)
                        · have c_94 := c_94
                          refine zr_iconst hx hb dL_law_270 ?_
                          exact J271_80 _ _ _ ⟨_, _, _, _, hC⟩ hL hub hS ((if_neg (by omega)).symm)
                        · have c_94 := c_94
                          refine zr_iconst hx hb dL_law_266 ?_
                          refine lv_goto (tgt := 271) hx hb dL_law_267 (by decide) ?_
                          exact J271_80 _ _ _ ⟨_, _, _, _, hC⟩ hL hub hS ((if_pos (by omega)).symm)
                    refine lv_iload hx hb dL_law_236 (lv_at hl 2 rfl) ?_
                    refine lv_iload hx hb dL_law_238 (lv_at hl 7 rfl) ?_
                    refine zr_icmp_ne (tgt := 250) hx hb dL_law_240 (by decide) ⟨by omega, by omega⟩ ⟨by omega, by omega⟩ (fun c_95 => ?_) (fun c_95 => ?_)
                    · have c_95 := c_95
                      exact J250_79 _ _ ⟨_, _, _, _, hC⟩ hL hub hS
                    · have c_95 := c_95
                      have hz0 : dgF pa sp n (p : Int) (j : Int) = 0 := by rw [show (j : Int) = (p : Int) by omega]; exact dgF_self pa sp n _
                      refine lv_iload hx hb dL_law_243 (lv_at hl 1 rfl) ?_
                      refine zr_if_eq (tgt := 250) hx hb dL_law_245 (by decide) ⟨by omega, by omega⟩ (fun c_96 => ?_) (fun c_96 => by exfalso; omega)
                      exact J250_79 _ _ ⟨_, _, _, _, hC⟩ hL hub hS
                  refine lv_iload hx hb dL_law_220 (lv_at hl 1 rfl) ?_
                  refine zr_iconst hx hb dL_law_222 ?_
                  refine zr_icmp_ne (tgt := 230) hx hb dL_law_223 (by decide) ⟨by omega, by omega⟩ ⟨by decide, by decide⟩ (fun c_97 => ?_) (fun c_97 => ?_)
                  · have c_97 := c_97
                    refine zr_iconst hx hb dL_law_230 ?_
                    exact J231_78 _ _ _ ⟨_, _, _, _, hC⟩ hL hub hS ((if_neg (by omega)).symm)
                  · have c_97 := c_97
                    refine zr_iconst hx hb dL_law_226 ?_
                    refine lv_goto (tgt := 231) hx hb dL_law_227 (by decide) ?_
                    exact J231_78 _ _ _ ⟨_, _, _, _, hC⟩ hL hub hS ((if_pos (by omega)).symm)
                refine lv_aload_n hx hb dL_law_156 rfl (lv_at hl 11 rfl) ?_
                refine lv_iload hx hb dL_law_157 (lv_at hl 6 rfl) ?_
                refine zcallV (ci := 2) (q0 := 0) (cq := (RX2, TX2, 9)) (As := [.int (zI (p : Int))]) (rest := []) ⟨hx, hb, hml, hown, hts⟩ hK (kX2_parentOfok l D cI cZ q hN pa sp al dg co da mb dd ah wl lo n td wn hn hpa (p : Int) (by omega)) (cwV 1 hts gL_law_X2_parentOf rfl rfl rfl (by decide +kernel) ⟨Nat.le_of_ble_eq_true rfl, Nat.le_of_ble_eq_true rfl⟩) hC hS (fun x h => hqS x h) rfl rfl rfl hl.1 rfl (Nat.le_of_ble_eq_true rfl) dL_law_159 ⟨show cc ≤ 1200104 from by omega, show ss ≤ 5501314 from by omega⟩ (fun H locs hC hS hz9 hk9 => ?_)
                have hkq := fun (x : Nat) (h1 : x < _) (h2 : s0 ≤ x) => hk9 x h1 (fun h => absurd (hq0 x h) (Nat.not_lt.mpr h2))
                have hL := zSL.keep hL (fun x h1 h2 => hkq x (Nat.lt_of_lt_of_le h2 hub) h1)
                have hU : s9.heap.size ≤ H.size := hS.1
                have hub : ub_34 ≤ H.size := by omega
                refine W.eq (g2 := F0 m9 162 ls [.int (zI (pa (p : Int)))]) rfl ?_
                refine lv_iload hx hb dL_law_162 (lv_at hl 1 rfl) ?_
                refine zr_icmp_eq (tgt := 189) hx hb dL_law_164 (by decide) ⟨by omega, by omega⟩ ⟨by omega, by omega⟩ (fun c_98 => ?_) (fun c_98 => ?_)
                · have c_98 := c_98
                  refine zr_iconst hx hb dL_law_189 ?_
                  refine lv_goto (tgt := 194) hx hb dL_law_190 (by decide) ?_
                  exact J194_75 _ _ _ ⟨_, _, _, _, hC⟩ hL hub hS ((if_pos (by omega)).symm)
                · have c_98 := c_98
                  refine lv_aload_n hx hb dL_law_167 rfl (lv_at hl 11 rfl) ?_
                  refine lv_iload hx hb dL_law_168 (lv_at hl 1 rfl) ?_
                  refine zcallV (ci := 2) (q0 := 0) (cq := (RX2, TX2, 9)) (As := [.int (zI (j : Int))]) (rest := []) ⟨hx, hb, hml, hown, hts⟩ hK (kX2_parentOfok l D cI cZ q hN pa sp al dg co da mb dd ah wl lo n td wn hn hpa (j : Int) (by omega)) (cwV 1 hts gL_law_X2_parentOf rfl rfl rfl (by decide +kernel) ⟨Nat.le_of_ble_eq_true rfl, Nat.le_of_ble_eq_true rfl⟩) hC hS (fun x h => hqS x h) rfl rfl rfl hl.1 rfl (Nat.le_of_ble_eq_true rfl) dL_law_170 ⟨show cc ≤ 1200104 from by omega, show ss ≤ 5501314 from by omega⟩ (fun H locs hC hS hz9 hk9 => ?_)
                  have hkq := fun (x : Nat) (h1 : x < _) (h2 : s0 ≤ x) => hk9 x h1 (fun h => absurd (hq0 x h) (Nat.not_lt.mpr h2))
                  have hL := zSL.keep hL (fun x h1 h2 => hkq x (Nat.lt_of_lt_of_le h2 hub) h1)
                  have hU : s9.heap.size ≤ H.size := hS.1
                  have hub : ub_34 ≤ H.size := by omega
                  refine W.eq (g2 := F0 m9 173 ls [.int (zI (pa (j : Int)))]) rfl ?_
                  refine lv_iload hx hb dL_law_173 (lv_at hl 6 rfl) ?_
                  refine zr_icmp_eq (tgt := 189) hx hb dL_law_175 (by decide) ⟨by omega, by omega⟩ ⟨by omega, by omega⟩ (fun c_99 => ?_) (fun c_99 => ?_)
                  · have c_99 := c_99
                    refine zr_iconst hx hb dL_law_189 ?_
                    refine lv_goto (tgt := 194) hx hb dL_law_190 (by decide) ?_
                    exact J194_75 _ _ _ ⟨_, _, _, _, hC⟩ hL hub hS ((if_pos (by omega)).symm)
                  · have c_99 := c_99
                    refine lv_aload_n hx hb dL_law_178 rfl (lv_at hl 11 rfl) ?_
                    refine lv_iload hx hb dL_law_179 (lv_at hl 6 rfl) ?_
                    refine zcallV (ci := 2) (q0 := 0) (cq := (RX2, TX2, 9)) (As := [.int (zI (p : Int))]) (rest := []) ⟨hx, hb, hml, hown, hts⟩ hK (kX2_marriedTook l D cI cZ q hN pa sp al dg co da mb dd ah wl lo n td wn hn hsp (p : Int) (by omega)) (cwV 1 hts gL_law_X2_marriedTo rfl rfl rfl (by decide +kernel) ⟨Nat.le_of_ble_eq_true rfl, Nat.le_of_ble_eq_true rfl⟩) hC hS (fun x h => hqS x h) rfl rfl rfl hl.1 rfl (Nat.le_of_ble_eq_true rfl) dL_law_181 ⟨show cc ≤ 1200104 from by omega, show ss ≤ 5501314 from by omega⟩ (fun H locs hC hS hz9 hk9 => ?_)
                    have hkq := fun (x : Nat) (h1 : x < _) (h2 : s0 ≤ x) => hk9 x h1 (fun h => absurd (hq0 x h) (Nat.not_lt.mpr h2))
                    have hL := zSL.keep hL (fun x h1 h2 => hkq x (Nat.lt_of_lt_of_le h2 hub) h1)
                    have hU : s9.heap.size ≤ H.size := hS.1
                    have hub : ub_34 ≤ H.size := by omega
                    refine W.eq (g2 := F0 m9 184 ls [.int (zI (sp (p : Int)))]) rfl ?_
                    refine lv_iload hx hb dL_law_184 (lv_at hl 1 rfl) ?_
                    refine zr_icmp_ne (tgt := 193) hx hb dL_law_186 (by decide) ⟨by omega, by omega⟩ ⟨by omega, by omega⟩ (fun c_100 => ?_) (fun c_100 => ?_)
                    · have c_100 := c_100
                      refine zr_iconst hx hb dL_law_193 ?_
                      exact J194_75 _ _ _ ⟨_, _, _, _, hC⟩ hL hub hS ((if_neg (by omega)).symm)
                    · have c_100 := c_100
                      refine zr_iconst hx hb dL_law_189 ?_
                      refine lv_goto (tgt := 194) hx hb dL_law_190 (by decide) ?_
                      exact J194_75 _ _ _ ⟨_, _, _, _, hC⟩ hL hub hS ((if_pos (by omega)).symm)
          have hl := lv_sub hl (l' := [(14, .int (zI 0)), (13, .int (zI 0)), (12, .int (zI 0)), (11, .int (zI 0)), (8, .int (zI ((smF al p) + (al (p : Int))))), (10, .int (zI (p : Int))), (9, .int (zI (mxF (llS da mb dd td n) p))), (7, .int (zI (n : Int))), (5, .long (dgC pa sp al co da mb dd n td wn)), (0, .ref b), (1, .ref (q 0)), (2, .ref s0), (3, .int (zI k9)), (4, .int x)]) [0, 1, 2, 3, 4, 5, 6, 7, 8, 9, 10, 11, 12, 13] rfl
          have e_101 : (smF (gtF (lf da mb dd td (p : Int))) 0 : Int) = 0 := rfl
          have e_102 : (mxF (lf da mb dd td (p : Int)) 0 : Int) = 0 := rfl
          have e_103 : (smF (kaF al (dgF pa sp n (p : Int))) 0 : Int) = 0 := rfl
          have hl : lv_has ls 20 [(14, .int (zI 0)), (13, .int (zI (smF (gtF (lf da mb dd td (p : Int))) 0))), (12, .int (zI (mxF (lf da mb dd td (p : Int)) 0))), (11, .int (zI (smF (kaF al (dgF pa sp n (p : Int))) 0))), (8, .int (zI ((smF al p) + (al (p : Int))))), (10, .int (zI (p : Int))), (9, .int (zI (mxF (llS da mb dd td n) p))), (7, .int (zI (n : Int))), (5, .long (dgC pa sp al co da mb dd n td wn)), (0, .ref b), (1, .ref (q 0)), (2, .ref s0), (3, .int (zI k9)), (4, .int x)] := by rw [e_101, e_102, e_103]; exact hl
          exact L139_33 (n + 1) 0 (Nat.zero_le _) (by omega) _ _ _ (⟨_, _, _, _, hC⟩) (hL.toW hub) hS hl 
        refine zr_if_eq (tgt := 123) hx hb dL_law_116 (by decide) ⟨by omega, by omega⟩ (fun c_104 => ?_) (fun c_104 => ?_)
        · have c_104 := c_104
          refine zr_iconst hx hb dL_law_123 ?_
          exact J124_32 _ _ _ ⟨_, _, _, _, hC⟩ hL hub hS (by omega)
        · have c_104 := c_104
          refine zr_iconst hx hb dL_law_119 ?_
          refine lv_goto (tgt := 124) hx hb dL_law_120 (by decide) ?_
          exact J124_32 _ _ _ ⟨_, _, _, _, hC⟩ hL hub hS (by omega)
  have hl := lv_sub hl (l' := [(10, .int (zI 0)), (9, .int (zI 0)), (8, .int (zI 0)), (7, .int (zI (n : Int))), (5, .long (dgC pa sp al co da mb dd n td wn)), (0, .ref b), (1, .ref (q 0)), (2, .ref s0), (3, .int (zI k9)), (4, .int x)]) [0, 1, 2, 3, 4, 5, 6, 7, 8, 9] rfl
  have e_105 : (mxF (llS da mb dd td n) 0 : Int) = 0 := rfl
  have e_106 : (smF al 0 : Int) = 0 := rfl
  have hl : lv_has ls 20 [(10, .int (zI 0)), (9, .int (zI (mxF (llS da mb dd td n) 0))), (8, .int (zI (smF al 0))), (7, .int (zI (n : Int))), (5, .long (dgC pa sp al co da mb dd n td wn)), (0, .ref b), (1, .ref (q 0)), (2, .ref s0), (3, .int (zI k9)), (4, .int x)] := by rw [e_105, e_106]; exact hl
  exact L101_2 (n + 1) 0 (Nat.zero_le _) (by omega) _ _ _ (⟨_, _, _, _, hC⟩) (hL.toW hub) hS hl 
