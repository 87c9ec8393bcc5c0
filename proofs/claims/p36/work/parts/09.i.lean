theorem zJ.mono {D : va_G} {cI cZ c1 c2 : ClassId} {q : Nat → Nat} {s0 a : Nat} {T T' : Int} {H : Heap} (h : zJ D cI cZ c1 c2 q s0 a T H) (hT : T ≤ T') : zJ D cI cZ c1 c2 q s0 a T' H := by
  obtain ⟨n, pa, sp, al, co, da, mb, dd, td, wn, M, mo, h1, h2, h3, h4⟩ := h
  exact ⟨n, pa, sp, al, co, da, mb, dd, td, wn, M, mo, h1, h2, Int.le_trans h3 hT, h4⟩
theorem zJ.grow {D : va_G} {cI cZ c1 c2 : ClassId} {q : Nat → Nat} {s0 a : Nat} {T : Int} {H H1 : Heap} (h : zJ D cI cZ c1 c2 q s0 a T H) (hk : ∀ x : Nat, x < H.size → H1[x]? = H[x]?) (hz : H.size ≤ H1.size) : zJ D cI cZ c1 c2 q s0 a T H1 := by
  obtain ⟨n, pa, sp, al, co, da, mb, dd, td, wn, M, mo, h1, h2, h3, ⟨dg, ah, wl, lo, h4⟩, kd, ap, ac, am, ra, rc, rr, rm, h5⟩ := h
  exact ⟨n, pa, sp, al, co, da, mb, dd, td, wn, M, mo, h1, h2, h3, ⟨dg, ah, wl, lo, zgrowP h4 hk⟩, _, ap, ac, am, ra, rc, rr, rm, (h5.keep (fun x _ h2 => hk x h2)).up hz h5.s0u⟩
section ZL14
variable {p : Program} {l : Launch} {e : Env} {R : Room} {s : State} {m : MethodId} {args : Array Value} {below : List Frame} {meth : Method} {c : Code} {H : Heap} {locs : List Loc} {cells slots : Nat} {Q : State → Prop}
variable {pc : Nat} {ls : Array Slot} {rest st0 As : List Value} {cc bytes : ByteArray} {D : va_G} {cI cZ c1 c2 : ClassId} {A free : Nat → Prop} {H0 : Heap} {Pre : Heap → Prop} {Post : Option Value → Heap → Prop}
variable {y : MethodName} {maxL nL index n mc ms : Nat} {ret : Option FieldType} {ws Ts : List Cond} {rm : Room} {own : String}
theorem zcallGDV {b ci : Nat} {fs : List Value} {cq : vw_C} (S : CallFix p m c cc nL s args Ts own) (hK : va_K D vwCl [(cI, .int), (cZ, .boolean)] s) (hQ : zKA cI c1 c2 s) (hM : zGD l y ws rm D cI cZ c1 c2 (.ref b :: As) H.size Pre Post free mc ms) (cw : CallW R s args own cq.1 index y bytes maxL ret ws rm mc ms n) (hPre : Pre H) (hO : va_P D vwCl [(b, .inr (ci, fs))] H) (hS : va_S A H0 H locs) (hA : ∀ q, free q → A q)
    (hc : vwCl[ci]? = some cq) (hn : As.length = n) (hsz : ls.size = nL) (hst : st0 = As.reverse ++ .ref b :: rest) (hro : (rest.map fun v => v.category).sum ≤ 8) (hdg : decode cc pc = .ok (.invokevirtual index, 3)) (hf : cells + mc ≤ R.cells ∧ slots + ms ≤ R.slots)
    (kk : ∀ (v : Option Value) (d1 : Drawn) (H1 : Heap) (locs1 : List Loc), s.drawn.sameBut d1 lw_cs → Post v H1 → va_S A H0 H1 locs1 → W p l e R (s.setDrawn d1) m args below meth c H1 locs1 (cells + mc) (slots + ms) Q (F0 m (pc + 3) ls (v.toList ++ rest))) : W p l e R s m args below meth c H locs cells slots Q (F0 m pc ls st0) := by
  intro T hT X
  obtain ⟨v', st₀, t, T', L, d', hd', h0, X', hL, e1, e2, ⟨⟨v, hv, hp⟩, hz, hk⟩, st⟩ := (va_runV_D (As := As) (rest := rest) (g := F0 m pc ls st0) S hM cw ⟨zblindG, va_recv hK hO hc (q0 := 0) rfl, fun U hU hW => ⟨rfl, by rw [hU], by rw [hU]; exact hPre, va_K.moved hW.alike hK, zKA.moved hW.alike hQ⟩⟩ rfl hn hsz hst (lv_room hro) hdg hf) T hT X
  cases hv
  rw [h0] at hz hk
  obtain ⟨t2, a1, b1⟩ := kk v' d' T'.heap (locs ++ L) hd' (by rw [e1]; exact hp) ⟨Nat.le_trans hS.1 (by rw [e1]; exact hz), fun q h1 h2 => by rw [e1, hk q (Nat.lt_of_lt_of_le h1 hS.1) (fun z => h2 (hA q z))]; exact hS.2.1 q h1 h2, fun q hq => by
      rcases List.mem_append.mp hq with h | h
      · exact hS.2.2 q h
      · exact hA _ (hL q h)⟩ T' rfl X'
  exact ⟨t2, st t2 a1, b1⟩
end ZL14
set_option maxHeartbeats 4000000 in
set_option maxRecDepth 100000 in
theorem law_D {p0 : Program} {l : Launch} {e9 : Env} {s9 : State} {m9 : MethodId} {below : List Frame} {meth : Method} {c9 : Code} {b N : Nat} {xs : Nat → Int32} {D : va_G} {cI cZ c1 c2 : ClassId} {q : Nat → Nat} {s0 : Nat} {Q0 : State → Prop} (C : zCtx p0 l s9 m9 meth c9 b N xs D cI cZ c1 c2 q s0) {k9 : Int} {x : Int32} {T : Int} (hT9 : T ≤ 700000) {H : Heap} {locs : List Loc} {ls : Array Slot} {cc0 ss0 : Nat} (hcc0 : cc0 ≤ 1190000) (hss0 : ss0 ≤ 5200000) (K : ∀ (H1 : Heap) (locs1 : List Loc) (ls1 : Array Slot), zJ D cI cZ c1 c2 q s0 s0 (T + 9) H1 → va_S (fun x => s9.heap.size ≤ x) s9.heap H1 locs1 → lv_has ls1 20 [(0, .ref b), (1, .ref (q 0)), (2, .ref s0), (3, .int (zI k9)), (4, .int x)] → W p0 l e9 room_1 s9 m9 #[Value.ref b] below meth c9 H1 locs1 (cc0 + 2169) (ss0 + 260280) Q0 (F0 m9 1212 ls1 [])) (hC : zJ D cI cZ c1 c2 q s0 s0 T H)  (hS : va_S (fun x => s9.heap.size ≤ x) s9.heap H locs) (hl : lv_has ls 20 [(0, .ref b), (1, .ref (q 0)), (2, .ref s0), (3, .int (zI k9)), (4, .int x)]) : W p0 l e9 room_1 s9 m9 #[Value.ref b] below meth c9 H locs cc0 ss0 Q0 (F0 m9 1107 ls []) := by
  have C0 := C
  obtain ⟨⟨hx, hb, hr, hml, hlocks, hown, hl0⟩, ⟨hts, hK, hQ⟩, ⟨hX, hbl, hN260⟩, ⟨hN, hq0, hqS, hsS⟩, hT0⟩ := C
  have hbA : ¬ (fun x => s9.heap.size ≤ x) b := Nat.not_le.mpr hbl
  have hU : s9.heap.size ≤ H.size := hS.1
  obtain ⟨n, pa, sp, al, co, da, mb, dd, td, wn, M, mo, hI, h1n, hTd, hC, hL⟩ := hC
  have htd9 : td ≤ 800000 := by omega
  obtain ⟨dg, ah, wl, lo, hC⟩ := hC
  obtain ⟨kd_1, ap_1, ac_1, am_1, ra_1, rc_1, rr_1, rm_1, hL⟩ := hL
  obtain ⟨ub_1, hub, hL⟩ : ∃ ub_1 : Nat, ub_1 ≤ H.size ∧ zSL D cI c1 c2 s0 ub_1 H s0 kd_1 ap_1 ac_1 am_1 ra_1 rc_1 rr_1 rm_1 n pa sp al co da M mo td wn := ⟨H.size, Nat.le_refl _, hL⟩
  have hs0 := hL.s0u
  have hn9 := hI.n16
  have htd9x : td ≤ 900000 := by omega
  have hpa := hI.1.1
  have hsp := hI.1.2.1
  have hal := hI.1.2.2.1
  have hco := hI.1.2.2.2.1
  have hda := hI.1.2.2.2.2.1
  have hmb := hI.1.2.2.2.2.2.1
  have hdd := hI.1.2.2.2.2.2.2.1
  have hn := hI.1.2.2.2.2.2.2.2.1
  have htd : 0 ≤ td ∧ td ≤ 1000000 := ⟨hI.1.2.2.2.2.2.2.2.2, by omega⟩
  refine zr_iconst hx hb dL_law_1107 ?_
  refine lv_iload hx hb dL_law_1108 (lv_at hl 4 rfl) ?_
  refine zr_iconst hx hb dL_law_1110 ?_
  refine zx_ishr hx hb dL_law_1111 (fun x_2 => ?_)
  refine zr_bipush hx hb dL_law_1112 (by decide) ?_
  refine zcallGS (As := [.int x_2, .int (zI 9)]) (rest := [.int (zI 1)]) ⟨hx, hb, hml, hown, hts⟩ hK hQ (kL_below l D cI cZ c1 c2 H.size x_2 9 (by omega)) (va_cwS 2 hts gL_law_L_below rfl rfl rfl (by decide +kernel) ⟨by first | exact Nat.le_of_ble_eq_true rfl | (show _ ≤ _; omega), Nat.le_of_ble_eq_true rfl⟩) (trivial) hS (fun _ h => h.elim) rfl hl.1 rfl (Nat.le_of_ble_eq_true rfl) dL_law_1114 ⟨show cc0 + 0 ≤ 1200104 from by omega, show ss0 + 0 ≤ 5501314 from by omega⟩ (fun v9 H locs hp9 hz9 hk9 hS => ?_)
  obtain ⟨z_3, rfl, h0z_3, h1z_3⟩ := hp9
  have hk9 := fun (x : Nat) (h : x < _) => hk9 x h (fun h => h)
  have hC := zgrowP hC hk9
  have hL := zSL.keep hL (fun x _ h2 => hk9 x (Nat.lt_of_lt_of_le h2 hub))
  have hU : s9.heap.size ≤ H.size := hS.1
  have hub : ub_1 ≤ H.size := by omega
  refine W.eq (g2 := F0 m9 1117 ls [.int (zI z_3), .int (zI 1)]) rfl ?_
  refine zr_iadd (v := 1 + z_3) hx hb rfl dL_law_1117 ?_
  obtain ⟨dn, hdn⟩ : ∃ dn : Nat, (dn : Int) = 1 + z_3 := ⟨(1 + z_3).toNat, by omega⟩; rw [← hdn]
  refine lv_istore (lv' := [(15, .int (zI (dn : Int))), (0, .ref b), (1, .ref (q 0)), (2, .ref s0), (3, .int (zI k9)), (4, .int x)]) hx hb dL_law_1118 hl (by decide) rfl (fun ls hl => ?_)
  refine lv_aload_n hx hb dL_law_1120 rfl (lv_at hl 2 rfl) ?_
  refine zcallV (ci := 2) (q0 := 0) (cq := (RX2, TX2, 9)) (As := []) (rest := []) ⟨hx, hb, hml, hown, hts⟩ hK (kX2_daysWorn l D cI cZ q hN pa sp al dg co da mb dd ah wl lo n td wn) (cwV 0 hts gL_law_X2_daysWorn rfl rfl rfl (by decide +kernel) ⟨Nat.le_of_ble_eq_true rfl, Nat.le_of_ble_eq_true rfl⟩) hC hS (fun x h => hqS x h) rfl rfl rfl hl.1 rfl (Nat.le_of_ble_eq_true rfl) dL_law_1121 ⟨show cc0 ≤ 1200104 from by omega, show ss0 ≤ 5501314 from by omega⟩ (fun H locs hC hS hz9 hk9 => ?_)
  have hkq := fun (x : Nat) (h1 : x < _) (h2 : s0 ≤ x) => hk9 x h1 (fun h => absurd (hq0 x h) (Nat.not_lt.mpr h2))
  have hL := zSL.keep hL (fun x h1 h2 => hkq x (Nat.lt_of_lt_of_le h2 hub) h1)
  have hU : s9.heap.size ≤ H.size := hS.1
  have hub : ub_1 ≤ H.size := by omega
  refine W.eq (g2 := F0 m9 1124 ls [.int (zI wn)]) rfl ?_
  refine lv_istore (lv' := [(16, .int (zI wn)), (15, .int (zI (dn : Int))), (0, .ref b), (1, .ref (q 0)), (2, .ref s0), (3, .int (zI k9)), (4, .int x)]) hx hb dL_law_1124 hl (by decide) rfl (fun ls hl => ?_)
  refine zr_iconst hx hb dL_law_1126 ?_
  refine lv_istore (lv' := [(17, .int (zI 0)), (16, .int (zI wn)), (15, .int (zI (dn : Int))), (0, .ref b), (1, .ref (q 0)), (2, .ref s0), (3, .int (zI k9)), (4, .int x)]) hx hb dL_law_1127 hl (by decide) rfl (fun ls hl => ?_)
  have L1129_4 : ∀ (kf j : Nat), j ≤ dn → dn - j < kf → ∀ (H : Heap) (locs : List Loc) (ls : Array Slot) (td2 : Int) (wn2 : Int) (M2 : Nat) (mo2 : Int → Int → Int) (cc ss : Nat), (zJC D cI cZ q pa sp al co da mb dd n td2 wn2 H) → (zSW D cI c1 c2 s0 s0 n pa sp al co da M2 mo2 td2 wn2 H) → va_S (fun x => s9.heap.size ≤ x) s9.heap H locs → lv_has ls 20 [(17, .int (zI (j : Int))), (16, .int (zI wn2)), (15, .int (zI (dn : Int))), (0, .ref b), (1, .ref (q 0)), (2, .ref s0), (3, .int (zI k9)), (4, .int x)] → (zInv n pa sp al co da mb dd td2 M2 mo2) → (td2 ≤ T + ((j : Nat) : Int)) → cc ≤ cc0 + 241 * j → ss ≤ ss0 + 28920 * j → W p0 l e9 room_1 s9 m9 #[Value.ref b] below meth c9 H locs cc ss Q0 (F0 m9 1129 ls []) := by
    intro kf
    induction kf with
    | zero => intro j h1 h2; omega
    | succ kf ih =>
      intro j hi_j hk_j H locs ls td2 wn2 M2 mo2 cc ss hC hL hS hl hI hTj hcc hss
      have ih_j := ih
      clear ih
      have hU : s9.heap.size ≤ H.size := hS.1
      obtain ⟨dg, ah, wl, lo, hC⟩ := hC
      obtain ⟨kd_5, ap_5, ac_5, am_5, ra_5, rc_5, rr_5, rm_5, hL⟩ := hL
      obtain ⟨ub_5, hub, hL⟩ : ∃ ub_5 : Nat, ub_5 ≤ H.size ∧ zSL D cI c1 c2 s0 ub_5 H s0 kd_5 ap_5 ac_5 am_5 ra_5 rc_5 rr_5 rm_5 n pa sp al co da M2 mo2 td2 wn2 := ⟨H.size, Nat.le_refl _, hL⟩
      have hs0 := hL.s0u
      have htd : 0 ≤ td2 ∧ td2 ≤ 1000000 := ⟨hI.1.2.2.2.2.2.2.2.2, by omega⟩
      refine lv_iload hx hb dL_law_1129 (lv_at hl 0 rfl) ?_
      refine lv_iload hx hb dL_law_1131 (lv_at hl 2 rfl) ?_
      refine zr_icmp_ge (tgt := 1212) hx hb dL_law_1133 (by decide) ⟨by omega, by omega⟩ ⟨by omega, by omega⟩ (fun c_6 => ?_) (fun c_6 => ?_)
      · have c_6 := c_6
        have x_7 : j = dn := by omega
        try rw [x_7] at hl
        try rw [x_7] at hC
        try rw [x_7] at hL
        try rw [x_7] at hI
        try rw [x_7] at hTj
        try rw [x_7] at hcc
        try rw [x_7] at hss
        refine W.widen (k := cc0 + 2169) (n := ss0 + 260280) (by omega) (by omega) ?_
        have hl := lv_sub hl (l' := [(0, .ref b), (1, .ref (q 0)), (2, .ref s0), (3, .int (zI k9)), (4, .int x)]) [3, 4, 5, 6, 7] rfl
        exact K _ _ _ ⟨n, pa, sp, al, co, da, mb, dd, td2, wn2, M2, mo2, hI, h1n, by omega, ⟨_, _, _, _, hC⟩, hL.toW hub⟩ hS hl
      · have c_6 := c_6
        refine zr_iconst hx hb dL_law_1136 ?_
        refine lv_istore (lv' := [(18, .int (zI 1)), (17, .int (zI (j : Int))), (16, .int (zI wn2)), (15, .int (zI (dn : Int))), (0, .ref b), (1, .ref (q 0)), (2, .ref s0), (3, .int (zI k9)), (4, .int x)]) hx hb dL_law_1137 hl (by decide) rfl (fun ls hl => ?_)
        have L1139_8 : ∀ (kf c : Nat), c ≤ 5 → 5 - c < kf → ∀ (H : Heap) (locs : List Loc) (ls : Array Slot), (zJC D cI cZ q pa sp al co da mb dd n td2 wn2 H) → (zSW D cI c1 c2 s0 s0 n pa sp al co da M2 mo2 td2 wn2 H) → va_S (fun x => s9.heap.size ≤ x) s9.heap H locs → lv_has ls 20 [(18, .int (zI ((c : Int) + 1))), (17, .int (zI (j : Int))), (16, .int (zI (wn2 + smF (fun c => cwN al co da mb dd td2 n (c + 1)) c))), (15, .int (zI (dn : Int))), (0, .ref b), (1, .ref (q 0)), (2, .ref s0), (3, .int (zI k9)), (4, .int x)] → W p0 l e9 room_1 s9 m9 #[Value.ref b] below meth c9 H locs cc ss Q0 (F0 m9 1139 ls []) := by
          intro kf
          induction kf with
          | zero => intro c h1 h2; omega
          | succ kf ih =>
            intro c hi_c hk_c H locs ls  hC hL hS hl 
            have ih_c := ih
            clear ih
            have hU : s9.heap.size ≤ H.size := hS.1
            obtain ⟨dg, ah, wl, lo, hC⟩ := hC
            obtain ⟨kd_9, ap_9, ac_9, am_9, ra_9, rc_9, rr_9, rm_9, hL⟩ := hL
            obtain ⟨ub_9, hub, hL⟩ : ∃ ub_9 : Nat, ub_9 ≤ H.size ∧ zSL D cI c1 c2 s0 ub_9 H s0 kd_9 ap_9 ac_9 am_9 ra_9 rc_9 rr_9 rm_9 n pa sp al co da M2 mo2 td2 wn2 := ⟨H.size, Nat.le_refl _, hL⟩
            have hs0 := hL.s0u
            refine lv_iload hx hb dL_law_1139 (lv_at hl 0 rfl) ?_
            refine zr_bipush hx hb dL_law_1141 (by decide) ?_
            refine zr_icmp_ge (tgt := 1163) hx hb dL_law_1143 (by decide) ⟨by omega, by omega⟩ ⟨by decide, by decide⟩ (fun c_10 => ?_) (fun c_10 => ?_)
            · have c_10 := c_10
              have x_11 : c = 5 := by omega
              try rw [x_11] at hl
              try rw [x_11] at hC
              try rw [x_11] at hL
              refine lv_aload_n hx hb dL_law_1163 rfl (lv_at hl 5 rfl) ?_
              refine zr_iconst hx hb dL_law_1164 ?_
              refine zcallV (ci := 2) (q0 := 0) (cq := (RX2, TX2, 9)) (As := [.int (zI 1)]) (rest := []) ⟨hx, hb, hml, hown, hts⟩ hK (kX2_passok l D cI cZ q hN pa sp al dg co da mb dd ah wl lo n td2 wn2 hn hal hco hda hmb hdd htd 1 (by omega) (by omega)) (cwV 1 hts gL_law_X2_pass rfl rfl rfl (by decide +kernel) ⟨Nat.le_of_ble_eq_true rfl, Nat.le_of_ble_eq_true rfl⟩) hC hS (fun x h => hqS x h) rfl rfl rfl hl.1 rfl (Nat.le_of_ble_eq_true rfl) dL_law_1165 ⟨show cc ≤ 1200104 from by omega, show ss ≤ 5501314 from by omega⟩ (fun H locs hC hS hz9 hk9 => ?_)
              have hkq := fun (x : Nat) (h1 : x < _) (h2 : s0 ≤ x) => hk9 x h1 (fun h => absurd (hq0 x h) (Nat.not_lt.mpr h2))
              have hL := zSL.keep hL (fun x h1 h2 => hkq x (Nat.lt_of_lt_of_le h2 hub) h1)
              have hU : s9.heap.size ≤ H.size := hS.1
              have hub : ub_9 ≤ H.size := by omega
              refine W.eq (g2 := F0 m9 1168 ls [.int (zI (smF al n - smF (cwF al co da mb dd (td2 + 1) n 0) n))]) rfl ?_
              obtain ⟨dg, ah, wl, lo, hC⟩ : zJC D cI cZ q pa sp al co da mb dd n (td2 + 1) (wn2 + smF (waP co da mb dd td2 n 1) n) H := ⟨_, _, _, _, hC⟩
              refine lv_istore (lv' := [(18, .int (zI (smF al n - smF (cwF al co da mb dd (td2 + 1) n 0) n))), (17, .int (zI (j : Int))), (16, .int (zI (wn2 + smF (fun c => cwN al co da mb dd td2 n (c + 1)) 5))), (15, .int (zI (dn : Int))), (0, .ref b), (1, .ref (q 0)), (2, .ref s0), (3, .int (zI k9)), (4, .int x)]) hx hb dL_law_1168 hl (by decide) rfl (fun ls hl => ?_)
              refine lv_aload_n hx hb dL_law_1170 rfl (lv_at hl 6 rfl) ?_
              refine zr_iconst hx hb dL_law_1171 ?_
              refine zcallGV (ci := 3) (cq := (RX3, TX3, 5)) (As := [.int (zI 1)]) (rest := []) ⟨hx, hb, hml, hown, hts⟩ hK hQ (kX3_pass l D cI cZ c1 c2 H.size s0 s0 n pa sp al co da M2 mo2 td2 wn2 1 htd (hI.moB (by omega)) (by omega)) (cwV 1 hts gL_law_X3_pass rfl rfl rfl (by decide +kernel) ⟨by first | exact Nat.le_of_ble_eq_true rfl | (show _ ≤ _; omega), Nat.le_of_ble_eq_true rfl⟩) (hL.toW hub) hL.obj hS (fun x h => Nat.le_trans hsS h) rfl rfl hl.1 rfl (Nat.le_of_ble_eq_true rfl) dL_law_1172 ⟨show cc + 241 ≤ 1200104 from by omega, show ss + 28920 ≤ 5501314 from by omega⟩ (fun v9 H locs hp9 hz9 hk9 hS => ?_)
              obtain ⟨rfl, kd_12, ap_12, ac_12, am_12, ra_12, rc_12, rr_12, rm_12, hL⟩ := hp9
              have hC := zkeepL hC rfl hq0 hk9
              obtain ⟨ub_13, hub, hL⟩ : ∃ ub_13 : Nat, ub_13 ≤ H.size ∧ zSL D cI c1 c2 s0 ub_13 H s0 kd_12 ap_12 ac_12 am_12 ra_12 rc_12 rr_12 rm_12 n pa sp al co da (fC (eP mo2 (td2 + (1 : Int))) M2) (fun j => mo2 (fI (eP mo2 (td2 + (1 : Int))) M2 j)) (td2 + (1 : Int)) (wn2 + smF (icS mo2 M2 n td2) 1) := ⟨H.size, Nat.le_refl _, hL⟩
              have hU : s9.heap.size ≤ H.size := hS.1
              have hub : ub_13 ≤ H.size := by omega
              refine W.eq (g2 := F0 m9 1175 ls [.int (zI (icF (fun j => mo2 (fI (eP mo2 (td2 + (1 : Int))) M2 j)) (fC (eP mo2 (td2 + (1 : Int))) M2) n (td2 + (1 : Int))))]) rfl ?_
              have hpq : icF (fun j => mo2 (fI (eP mo2 (td2 + (1 : Int))) M2 j)) (fC (eP mo2 (td2 + (1 : Int))) M2) n (td2 + (1 : Int)) = smF al n - smF (cwF al co da mb dd (td2 + 1) n 0) n := (hI.pass 1).inCol
              have hwq : wn2 + smF (waP co da mb dd td2 n 1) n = wn2 + smF (icS mo2 M2 n td2) 1 := congrArg (fun z => wn2 + z) (hI.worn (k := 1) (by decide))
              refine lv_iload hx hb dL_law_1175 (lv_at hl 0 rfl) ?_
              refine zr_icmp_neF (tgt := 1204) hx hb hpq dL_law_1177 (by decide) ?_
              refine lv_iload hx hb dL_law_1180 (lv_at hl 0 rfl) ?_
              refine lv_aload_n hx hb dL_law_1182 rfl (lv_at hl 5 rfl) ?_
              refine zcallV (ci := 2) (q0 := 0) (cq := (RX2, TX2, 9)) (As := []) (rest := [.int (zI (smF al n - smF (cwF al co da mb dd (td2 + 1) n 0) n))]) ⟨hx, hb, hml, hown, hts⟩ hK (kX2_living l D cI cZ q hN pa sp al dg co da mb dd ah wl lo n (td2 + 1) (wn2 + smF (waP co da mb dd td2 n 1) n) hn hal) (cwV 0 hts gL_law_X2_living rfl rfl rfl (by decide +kernel) ⟨Nat.le_of_ble_eq_true rfl, Nat.le_of_ble_eq_true rfl⟩) hC hS (fun x h => hqS x h) rfl rfl rfl hl.1 rfl (Nat.le_of_ble_eq_true rfl) dL_law_1183 ⟨show cc + 241 ≤ 1200104 from by omega, show ss + 28920 ≤ 5501314 from by omega⟩ (fun H locs hC hS hz9 hk9 => ?_)
              have hkq := fun (x : Nat) (h1 : x < _) (h2 : s0 ≤ x) => hk9 x h1 (fun h => absurd (hq0 x h) (Nat.not_lt.mpr h2))
              have hL := zSL.keep hL (fun x h1 h2 => hkq x (Nat.lt_of_lt_of_le h2 hub) h1)
              have hU : s9.heap.size ≤ H.size := hS.1
              have hub : ub_13 ≤ H.size := by omega
              refine W.eq (g2 := F0 m9 1186 ls [.int (zI (smF al n)), .int (zI (smF al n - smF (cwF al co da mb dd (td2 + 1) n 0) n))]) rfl ?_
              refine lv_aload_n hx hb dL_law_1186 rfl (lv_at hl 5 rfl) ?_
              refine zr_iconst hx hb dL_law_1187 ?_
              refine zcallV (ci := 2) (q0 := 0) (cq := (RX2, TX2, 9)) (As := [.int (zI 0)]) (rest := [.int (zI (smF al n)), .int (zI (smF al n - smF (cwF al co da mb dd (td2 + 1) n 0) n))]) ⟨hx, hb, hml, hown, hts⟩ hK (kX2_wearingok l D cI cZ q hN pa sp al dg co da mb dd ah wl lo n (td2 + 1) (wn2 + smF (waP co da mb dd td2 n 1) n) hn hco hda hmb hdd (⟨by omega, by omega⟩) hal 0 (by omega)) (cwV 1 hts gL_law_X2_wearing rfl rfl rfl (by decide +kernel) ⟨Nat.le_of_ble_eq_true rfl, Nat.le_of_ble_eq_true rfl⟩) hC hS (fun x h => hqS x h) rfl rfl rfl hl.1 rfl (Nat.le_of_ble_eq_true rfl) dL_law_1188 ⟨show cc + 241 ≤ 1200104 from by omega, show ss + 28920 ≤ 5501314 from by omega⟩ (fun H locs hC hS hz9 hk9 => ?_)
              have hkq := fun (x : Nat) (h1 : x < _) (h2 : s0 ≤ x) => hk9 x h1 (fun h => absurd (hq0 x h) (Nat.not_lt.mpr h2))
              have hL := zSL.keep hL (fun x h1 h2 => hkq x (Nat.lt_of_lt_of_le h2 hub) h1)
              have hU : s9.heap.size ≤ H.size := hS.1
              have hub : ub_13 ≤ H.size := by omega
              refine W.eq (g2 := F0 m9 1191 ls [.int (zI (smF (cwF al co da mb dd (td2 + 1) n 0) n)), .int (zI (smF al n)), .int (zI (smF al n - smF (cwF al co da mb dd (td2 + 1) n 0) n))]) rfl ?_
              refine zr_isub (v := (smF al n) - (smF (cwF al co da mb dd (td2 + 1) n 0) n)) hx hb rfl dL_law_1191 ?_
              refine zr_icmp_neF (tgt := 1204) hx hb rfl dL_law_1192 (by decide) ?_
              refine lv_aload_n hx hb dL_law_1195 rfl (lv_at hl 5 rfl) ?_
              refine zcallV (ci := 2) (q0 := 0) (cq := (RX2, TX2, 9)) (As := []) (rest := []) ⟨hx, hb, hml, hown, hts⟩ hK (kX2_daysWorn l D cI cZ q hN pa sp al dg co da mb dd ah wl lo n (td2 + 1) (wn2 + smF (waP co da mb dd td2 n 1) n)) (cwV 0 hts gL_law_X2_daysWorn rfl rfl rfl (by decide +kernel) ⟨Nat.le_of_ble_eq_true rfl, Nat.le_of_ble_eq_true rfl⟩) hC hS (fun x h => hqS x h) rfl rfl rfl hl.1 rfl (Nat.le_of_ble_eq_true rfl) dL_law_1196 ⟨show cc + 241 ≤ 1200104 from by omega, show ss + 28920 ≤ 5501314 from by omega⟩ (fun H locs hC hS hz9 hk9 => ?_)
              have hkq := fun (x : Nat) (h1 : x < _) (h2 : s0 ≤ x) => hk9 x h1 (fun h => absurd (hq0 x h) (Nat.not_lt.mpr h2))
              have hL := zSL.keep hL (fun x h1 h2 => hkq x (Nat.lt_of_lt_of_le h2 hub) h1)
              have hU : s9.heap.size ≤ H.size := hS.1
              have hub : ub_13 ≤ H.size := by omega
              refine W.eq (g2 := F0 m9 1199 ls [.int (zI (wn2 + smF (waP co da mb dd td2 n 1) n))]) rfl ?_
              refine lv_iload hx hb dL_law_1199 (lv_at hl 2 rfl) ?_
              refine zr_icmp_eqT (tgt := 1206) hx hb (congrArg (fun z => wn2 + z) hI.wornDay.symm) dL_law_1201 (by decide) ?_
              refine zr_iinc (v := (j : Int) + 1) (lv' := [(17, .int (zI ((j : Int) + 1))), (18, .int (zI (smF al n - smF (cwF al co da mb dd (td2 + 1) n 0) n))), (16, .int (zI (wn2 + smF (fun c => cwN al co da mb dd td2 n (c + 1)) 5))), (15, .int (zI (dn : Int))), (0, .ref b), (1, .ref (q 0)), (2, .ref s0), (3, .int (zI k9)), (4, .int x)]) hx hb dL_law_1206 hl (k := 1) rfl rfl (by decide) rfl (fun ls hl => ?_)
              refine lv_goto (tgt := 1129) hx hb dL_law_1209 (by decide) ?_
              have hl := lv_sub hl (l' := [(17, .int (zI ((j : Int) + 1))), (16, .int (zI (wn2 + smF (fun c => cwN al co da mb dd td2 n (c + 1)) 5))), (15, .int (zI (dn : Int))), (0, .ref b), (1, .ref (q 0)), (2, .ref s0), (3, .int (zI k9)), (4, .int x)]) [0, 2, 3, 4, 5, 6, 7, 8] rfl
              have e_14 : ((((j + 1) : Nat) : Int) : Int) = (j : Int) + 1 := by omega
              have e_15 : (wn2 + smF (waP co da mb dd td2 n 1) n : Int) = wn2 + smF (fun c => cwN al co da mb dd td2 n (c + 1)) 5 := congrArg (fun z => wn2 + z) hI.wornDay.symm
              have hl : lv_has ls 20 [(17, .int (zI (((j + 1) : Nat) : Int))), (16, .int (zI (wn2 + smF (waP co da mb dd td2 n 1) n))), (15, .int (zI (dn : Int))), (0, .ref b), (1, .ref (q 0)), (2, .ref s0), (3, .int (zI k9)), (4, .int x)] := by rw [e_14, e_15]; exact hl
              exact ih_j (j + 1) (by omega) (by omega) _ _ _ (td2 + 1) (wn2 + smF (waP co da mb dd td2 n 1) n) (fC (eP mo2 (td2 + (1 : Int))) M2) (fun j => mo2 (fI (eP mo2 (td2 + (1 : Int))) M2 j)) _ _ (⟨_, _, _, _, hC⟩) (by have h9 := hL.toW hub; rw [← hwq] at h9; exact h9) hS hl (hI.pass 1) (by omega) (by omega) (by omega)
            · have c_10 := c_10
              refine lv_iload hx hb dL_law_1146 (lv_at hl 2 rfl) ?_
              refine lv_aload_n hx hb dL_law_1148 rfl (lv_at hl 5 rfl) ?_
              refine lv_iload hx hb dL_law_1149 (lv_at hl 0 rfl) ?_
              refine zcallV (ci := 2) (q0 := 0) (cq := (RX2, TX2, 9)) (As := [.int (zI ((c : Int) + 1))]) (rest := [.int (zI (wn2 + smF (fun c => cwN al co da mb dd td2 n (c + 1)) c))]) ⟨hx, hb, hml, hown, hts⟩ hK (kX2_wearingok l D cI cZ q hN pa sp al dg co da mb dd ah wl lo n td2 wn2 hn hco hda hmb hdd htd hal ((c : Int) + 1) (by omega)) (cwV 1 hts gL_law_X2_wearing rfl rfl rfl (by decide +kernel) ⟨Nat.le_of_ble_eq_true rfl, Nat.le_of_ble_eq_true rfl⟩) hC hS (fun x h => hqS x h) rfl rfl rfl hl.1 rfl (Nat.le_of_ble_eq_true rfl) dL_law_1151 ⟨show cc ≤ 1200104 from by omega, show ss ≤ 5501314 from by omega⟩ (fun H locs hC hS hz9 hk9 => ?_)
              have hkq := fun (x : Nat) (h1 : x < _) (h2 : s0 ≤ x) => hk9 x h1 (fun h => absurd (hq0 x h) (Nat.not_lt.mpr h2))
              have hL := zSL.keep hL (fun x h1 h2 => hkq x (Nat.lt_of_lt_of_le h2 hub) h1)
              have hU : s9.heap.size ≤ H.size := hS.1
              have hub : ub_9 ≤ H.size := by omega
              refine W.eq (g2 := F0 m9 1154 ls [.int (zI (smF (cwF al co da mb dd td2 n ((c : Int) + 1)) n)), .int (zI (wn2 + smF (fun c => cwN al co da mb dd td2 n (c + 1)) c))]) rfl ?_
              refine zr_iadd (v := (wn2 + smF (fun c => cwN al co da mb dd td2 n (c + 1)) c) + (smF (cwF al co da mb dd td2 n ((c : Int) + 1)) n)) hx hb rfl dL_law_1154 ?_
              refine lv_istore (lv' := [(16, .int (zI ((wn2 + smF (fun c => cwN al co da mb dd td2 n (c + 1)) c) + (smF (cwF al co da mb dd td2 n ((c : Int) + 1)) n)))), (18, .int (zI ((c : Int) + 1))), (17, .int (zI (j : Int))), (15, .int (zI (dn : Int))), (0, .ref b), (1, .ref (q 0)), (2, .ref s0), (3, .int (zI k9)), (4, .int x)]) hx hb dL_law_1155 hl (by decide) rfl (fun ls hl => ?_)
              refine zr_iinc (v := ((c : Int) + 1) + 1) (lv' := [(18, .int (zI (((c : Int) + 1) + 1))), (16, .int (zI ((wn2 + smF (fun c => cwN al co da mb dd td2 n (c + 1)) c) + (smF (cwF al co da mb dd td2 n ((c : Int) + 1)) n)))), (17, .int (zI (j : Int))), (15, .int (zI (dn : Int))), (0, .ref b), (1, .ref (q 0)), (2, .ref s0), (3, .int (zI k9)), (4, .int x)]) hx hb dL_law_1157 hl (k := 1) rfl rfl (by decide) rfl (fun ls hl => ?_)
              refine lv_goto (tgt := 1139) hx hb dL_law_1160 (by decide) ?_
              have hl := lv_sub hl (l' := [(18, .int (zI (((c : Int) + 1) + 1))), (17, .int (zI (j : Int))), (16, .int (zI ((wn2 + smF (fun c => cwN al co da mb dd td2 n (c + 1)) c) + (smF (cwF al co da mb dd td2 n ((c : Int) + 1)) n)))), (15, .int (zI (dn : Int))), (0, .ref b), (1, .ref (q 0)), (2, .ref s0), (3, .int (zI k9)), (4, .int x)]) [0, 2, 1, 3, 4, 5, 6, 7, 8] rfl
              have e_16 : ((((c + 1) : Nat) : Int) + 1 : Int) = ((c : Int) + 1) + 1 := by omega
              have e_17 : (wn2 + smF (fun c => cwN al co da mb dd td2 n (c + 1)) (c + 1) : Int) = (wn2 + smF (fun c => cwN al co da mb dd td2 n (c + 1)) c) + (smF (cwF al co da mb dd td2 n ((c : Int) + 1)) n) := by rw [smF_s]; exact (Int.add_assoc _ _ _).symm
              have hl : lv_has ls 20 [(18, .int (zI ((((c + 1) : Nat) : Int) + 1))), (17, .int (zI (j : Int))), (16, .int (zI (wn2 + smF (fun c => cwN al co da mb dd td2 n (c + 1)) (c + 1)))), (15, .int (zI (dn : Int))), (0, .ref b), (1, .ref (q 0)), (2, .ref s0), (3, .int (zI k9)), (4, .int x)] := by rw [e_16, e_17]; exact hl
              exact ih_c (c + 1) (by omega) (by omega) _ _ _ (⟨_, _, _, _, hC⟩) (hL.toW hub) hS hl 
        have hl := lv_sub hl (l' := [(18, .int (zI 1)), (17, .int (zI (j : Int))), (16, .int (zI wn2)), (15, .int (zI (dn : Int))), (0, .ref b), (1, .ref (q 0)), (2, .ref s0), (3, .int (zI k9)), (4, .int x)]) [0, 1, 2, 3, 4, 5, 6, 7, 8] rfl
        have e_18 : (wn2 + smF (fun c => cwN al co da mb dd td2 n (c + 1)) 0 : Int) = wn2 := Int.add_zero _
        have hl : lv_has ls 20 [(18, .int (zI 1)), (17, .int (zI (j : Int))), (16, .int (zI (wn2 + smF (fun c => cwN al co da mb dd td2 n (c + 1)) 0))), (15, .int (zI (dn : Int))), (0, .ref b), (1, .ref (q 0)), (2, .ref s0), (3, .int (zI k9)), (4, .int x)] := by rw [e_18]; exact hl
        exact L1139_8 (5 + 1) 0 (Nat.zero_le _) (by omega) _ _ _ (⟨_, _, _, _, hC⟩) (hL.toW hub) hS hl 
  have hl := lv_sub hl (l' := [(17, .int (zI 0)), (16, .int (zI wn)), (15, .int (zI (dn : Int))), (0, .ref b), (1, .ref (q 0)), (2, .ref s0), (3, .int (zI k9)), (4, .int x)]) [0, 1, 2, 3, 4, 5, 6, 7] rfl
  exact L1129_4 (dn + 1) 0 (Nat.zero_le _) (by omega) _ _ _ td wn M mo _ _ (⟨_, _, _, _, hC⟩) (hL.toW hub) hS hl hI (by omega) (by omega) (by omega)
