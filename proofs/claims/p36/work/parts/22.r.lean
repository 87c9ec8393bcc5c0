set_option maxHeartbeats 4000000 in
set_option maxRecDepth 100000 in
theorem law_R {p0 : Program} {l : Launch} {e9 : Env} {s9 : State} {m9 : MethodId} {below : List Frame} {meth : Method} {c9 : Code} {b N : Nat} {xs : Nat → Int32} {D : va_G} {cI cZ c1 c2 : ClassId} {q : Nat → Nat} {s0 : Nat} {Q0 : State → Prop} (C : zCtx p0 l s9 m9 meth c9 b N xs D cI cZ c1 c2 q s0) {H : Heap} {locs : List Loc} {ls : Array Slot} {cc0 ss0 : Nat} (hcc0 : cc0 ≤ 350) (hss0 : ss0 ≤ 5400) (hQ0 : Q0 = lw_Z below #[Value.ref b] s9) (hC : zJ D cI cZ c1 c2 q s0 s0 0 H)  (hS : va_S (fun x => s9.heap.size ≤ x) s9.heap H locs) (hl : lv_has ls 20 [(0, .ref b), (1, .ref (q 0)), (2, .ref s0)]) : W p0 l e9 room_1 s9 m9 #[Value.ref b] below meth c9 H locs cc0 ss0 Q0 (F0 m9 20 ls []) := by
  have C0 := C
  obtain ⟨⟨hx, hb, hr, hml, hlocks, hown, hl0⟩, ⟨hts, hK, hQ⟩, ⟨hX, hbl, hN260⟩, ⟨hN, hq0, hqS, hsS⟩, hT0⟩ := C
  have hbA : ¬ (fun x => s9.heap.size ≤ x) b := Nat.not_le.mpr hbl
  have hU : s9.heap.size ≤ H.size := hS.1
  refine zr_iconst hx hb dL_law_20 ?_
  refine lv_istore_n (lv' := [(3, .int (zI 0)), (0, .ref b), (1, .ref (q 0)), (2, .ref s0)]) hx hb dL_law_21 rfl hl (by decide) rfl (fun ls hl => ?_)
  have L22_1 : ∀ (kf k : Nat), k ≤ 10 → 10 - k < kf → ∀ (H : Heap) (locs : List Loc) (ls : Array Slot) (cc ss : Nat), (zJ D cI cZ c1 c2 q s0 s0 (249 * ((k : Nat) : Int)) H) → va_S (fun x => s9.heap.size ≤ x) s9.heap H locs → lv_has ls 20 [(3, .int (zI (k : Int))), (0, .ref b), (1, .ref (q 0)), (2, .ref s0)] → cc ≤ cc0 + 3710 * k → ss ≤ ss0 + 408300 * k → W p0 l e9 room_1 s9 m9 #[Value.ref b] below meth c9 H locs cc ss Q0 (F0 m9 22 ls []) := by
    intro kf
    induction kf with
    | zero => intro k h1 h2; omega
    | succ kf ih =>
      intro k hi_k hk_k H locs ls  cc ss hC hS hl  hcc hss
      have ih_k := ih
      clear ih
      have hU : s9.heap.size ≤ H.size := hS.1
      refine lv_iload_n hx hb dL_law_22 rfl (lv_at hl 0 rfl) ?_
      refine zr_bipush hx hb dL_law_23 (by decide) ?_
      refine zr_icmp_ge (tgt := 1218) hx hb dL_law_25 (by decide) ⟨by omega, by omega⟩ ⟨by decide, by decide⟩ (fun c_2 => ?_) (fun c_2 => ?_)
      · have c_2 := c_2
        have x_3 : k = 10 := by omega
        try rw [x_3] at hl
        try rw [x_3] at hC
        try rw [x_3] at hcc
        try rw [x_3] at hss
        refine lv_aload_n hx hb dL_law_1218 rfl (lv_at hl 3 rfl) ?_
        refine lv_aload_n hx hb dL_law_1219 rfl (lv_at hl 2 rfl) ?_
        obtain ⟨n, pa, sp, al, co, da, mb, dd, td, wn, M, mo, hI, h1n, hTd, ⟨dg, ah, wl, lo, hC⟩, hL⟩ := hC
        have hLW := hL
        obtain ⟨kd, ap, ac, am, ra, rc, rr, rm, hLo⟩ := hL
        refine zcallGDV (ci := 3) (cq := (RX3, TX3, 5)) (As := [.ref (q 0)]) (rest := []) ⟨hx, hb, hml, hown, hts⟩ hK hQ (kX3_isSame l D cI cZ c1 c2 H.size s0 s0 q hN hq0 pa sp al dg co da mb dd ah wl lo n td wn M mo hI (by omega)) (cwV 1 hts gL_law_X3_isSame rfl rfl rfl (by decide +kernel) ⟨Nat.le_of_ble_eq_true rfl, Nat.le_of_ble_eq_true rfl⟩) ⟨hC, hLW⟩ hLo.obj hS (fun x h => h.elim (fun h => hqS x h) (fun h => Nat.le_trans hU h)) rfl rfl hl.1 rfl (Nat.le_of_ble_eq_true rfl) dL_law_1220 ⟨show cc + 40 ≤ 1200104 from by omega, show ss + 400 ≤ 5501314 from by omega⟩ (fun v9 d1 H locs hd1 hp9 hS => ?_)
        subst hp9
        refine va_forget (fun q hq => hS.2.2 q hq) ?_
        refine W.widen (k := 1200104) (n := 5501314) (by omega) (by omega) ?_
        refine W.eq (g2 := F0 m9 1223 ls [.int 1]) (by rw [show zI 1 = 1 by decide]; rfl) ?_
        rw [hQ0]
        exact lw_ret hd1 hx hb hr hlocks dL_law_1223
      · have c_2 := c_2
        refine lv_aload_n hx hb dL_law_28 rfl (lv_at hl 1 rfl) ?_
        refine lv_iload_n hx hb dL_law_29 rfl (lv_at hl 0 rfl) ?_
        refine zcallGE (As := [.ref b, .int (zI (k : Int))]) (rest := []) ⟨hx, hb, hml, hown, hts⟩ hK hQ (kL_cell l D cI cZ c1 c2 H.size b N xs hN260 (k : Int) (by omega)) (va_cwS 2 hts gL_law_L_cell rfl rfl rfl (by decide +kernel) ⟨by first | exact Nat.le_of_ble_eq_true rfl | (show _ ≤ _; omega), Nat.le_of_ble_eq_true rfl⟩) zBl.X (fun U hU hW => by rw [hU]; exact va_X.moved hW.alike (va_X.kept hX (hS.2.1 _ hbl hbA))) (trivial) hS (fun _ h => h.elim) rfl hl.1 rfl (Nat.le_of_ble_eq_true rfl) dL_law_30 ⟨show cc + 0 ≤ 1200104 from by omega, show ss + 0 ≤ 5501314 from by omega⟩ (fun v9 H locs hp9 hz9 hk9 hS => ?_)
        obtain ⟨x_4, rfl⟩ := hp9
        have hk9 := fun (x : Nat) (h : x < _) => hk9 x h (fun h => h)
        have hC := zJ.grow hC hk9 hz9
        have hU : s9.heap.size ≤ H.size := hS.1
        refine W.eq (g2 := F0 m9 33 ls [.int x_4]) rfl ?_
        refine zr_iconst hx hb dL_law_33 ?_
        refine zx_ishr hx hb dL_law_34 (fun x_5 => ?_)
        refine zr_bipush hx hb dL_law_35 (by decide) ?_
        refine lv_iload_n hx hb dL_law_37 rfl (lv_at hl 0 rfl) ?_
        refine zr_imul (v := 53 * (k : Int)) hx hb rfl dL_law_38 ?_
        refine zx_iadd hx hb dL_law_39 (fun x_6 => ?_)
        refine lv_istore (lv' := [(4, .int x_6), (3, .int (zI (k : Int))), (0, .ref b), (1, .ref (q 0)), (2, .ref s0)]) hx hb dL_law_40 hl (by decide) rfl (fun ls hl => ?_)
        refine zr_iconst hx hb dL_law_42 ?_
        refine lv_istore (lv' := [(5, .int (zI 0)), (4, .int x_6), (3, .int (zI (k : Int))), (0, .ref b), (1, .ref (q 0)), (2, .ref s0)]) hx hb dL_law_43 hl (by decide) rfl (fun ls hl => ?_)
        have L45_7 : ∀ (kf u : Nat), u ≤ 4 → 4 - u < kf → ∀ (H : Heap) (locs : List Loc) (ls : Array Slot) (cc ss : Nat), (zJ D cI cZ c1 c2 q s0 s0 (249 * (k : Int) + 60 * ((u : Nat) : Int)) H) → va_S (fun x => s9.heap.size ≤ x) s9.heap H locs → lv_has ls 20 [(5, .int (zI (u : Int))), (4, .int x_6), (3, .int (zI (k : Int))), (0, .ref b), (1, .ref (q 0)), (2, .ref s0)] → cc ≤ cc0 + 3710 * k + 310 * u → ss ≤ ss0 + 408300 * k + 29600 * u → W p0 l e9 room_1 s9 m9 #[Value.ref b] below meth c9 H locs cc ss Q0 (F0 m9 45 ls []) := by
          intro kf
          induction kf with
          | zero => intro u h1 h2; omega
          | succ kf ih =>
            intro u hi_u hk_u H locs ls  cc ss hC hS hl  hcc hss
            have ih_u := ih
            clear ih
            have hU : s9.heap.size ≤ H.size := hS.1
            refine lv_iload hx hb dL_law_45 (lv_at hl 0 rfl) ?_
            refine zr_iconst hx hb dL_law_47 ?_
            refine zr_icmp_ge (tgt := 80) hx hb dL_law_48 (by decide) ⟨by omega, by omega⟩ ⟨by decide, by decide⟩ (fun c_8 => ?_) (fun c_8 => ?_)
            · have c_8 := c_8
              have x_9 : u = 4 := by omega
              try rw [x_9] at hl
              try rw [x_9] at hC
              try rw [x_9] at hcc
              try rw [x_9] at hss
              have hl := lv_sub hl (l' := [(0, .ref b), (1, .ref (q 0)), (2, .ref s0), (3, .int (zI (k : Int))), (4, .int x_6)]) [3, 4, 5, 2, 1] rfl
              obtain ⟨n, pa, sp, al, co, da, mb, dd, td, wn, M, mo, hI, h1n, hTd, hC, hL⟩ := hC
              refine law_B C0 hI h1n (by omega) (k9 := (k : Int)) (x := x_6) (cc := cc) (ss := ss) (by omega) (by omega) (fun H locs ls hC hL hS hl => ?_) hC hL hS hl
              refine law_C C0 hI h1n (by omega) (T := 249 * (k : Int) + 240) (by omega) (k9 := (k : Int)) (x := x_6) (cc := cc) (ss := ss) (by omega) (by omega) (fun H locs ls hC hS hl => ?_) hC hL hS hl
              refine law_D C0 (T := 249 * (k : Int) + 240) (by omega) (k9 := (k : Int)) (x := x_6) (cc0 := cc + 293) (ss0 := ss + 29504) (by omega) (by omega) (fun H locs ls hC hS hl => ?_) hC hS hl
              have hC := hC.mono (T' := 249 * (((k + 1 : Nat)) : Int)) (by omega)
              refine zr_iinc (v := (k : Int) + 1) (lv' := [(3, .int (zI ((k : Int) + 1))), (0, .ref b), (1, .ref (q 0)), (2, .ref s0), (4, .int x_6)]) hx hb dL_law_1212 hl (k := 3) rfl rfl (by decide) rfl (fun ls hl => ?_)
              refine lv_goto (tgt := 22) hx hb dL_law_1215 (by decide) ?_
              have hl := lv_sub hl (l' := [(3, .int (zI ((k : Int) + 1))), (0, .ref b), (1, .ref (q 0)), (2, .ref s0)]) [0, 1, 2, 3] rfl
              have e_10 : ((((k + 1) : Nat) : Int) : Int) = (k : Int) + 1 := by omega
              have hl : lv_has ls 20 [(3, .int (zI (((k + 1) : Nat) : Int))), (0, .ref b), (1, .ref (q 0)), (2, .ref s0)] := by rw [e_10]; exact hl
              exact ih_k (k + 1) (by omega) (by omega) _ _ _ _ _ hC hS hl  (by omega) (by omega)
            · have c_8 := c_8
              refine lv_aload_n hx hb dL_law_51 rfl (lv_at hl 4 rfl) ?_
              refine lv_aload_n hx hb dL_law_52 rfl (lv_at hl 5 rfl) ?_
              refine lv_iload hx hb dL_law_53 (lv_at hl 1 rfl) ?_
              refine zr_iconst hx hb dL_law_55 ?_
              refine lv_iload hx hb dL_law_56 (lv_at hl 0 rfl) ?_
              refine zr_imul (v := 3 * (u : Int)) hx hb rfl dL_law_58 ?_
              refine zx_ishr hx hb dL_law_59 (fun x_11 => ?_)
              refine zr_bipush hx hb dL_law_60 (by decide) ?_
              refine lv_iload hx hb dL_law_62 (lv_at hl 0 rfl) ?_
              refine zr_imul (v := 29 * (u : Int)) hx hb rfl dL_law_64 ?_
              refine zx_iadd hx hb dL_law_65 (fun x_12 => ?_)
              obtain ⟨n, pa, sp, al, co, da, mb, dd, td, wn, M, mo, hI, h1n, hTd, ⟨dg, ah, wl, lo, hC⟩, hL⟩ := hC
              refine zcallGX (As := [.ref (q 0), .ref s0, .int x_12]) (rest := []) ⟨hx, hb, hml, hown, hts⟩ hK hQ (kL_act l D hl0 cI cZ c1 c2 H.size s0 s0 q hN hq0 pa sp al dg co da mb dd ah wl lo n td wn M mo hI (by omega) x_12) (vx_cwSW 3 hts gL_law_L_act rfl rfl rfl (by decide +kernel) ⟨Nat.le_of_ble_eq_true rfl, Nat.le_of_ble_eq_true rfl⟩) zBl.zt (fun U hU hW => by rw [hU]; exact zT.warm hW (zT.narrow (zT.kept hT0 (fun x h1 h2 => hS.2.1 x h1 h2)) (fun x h => h.elim (fun h => hqS x h) (fun h => Nat.le_trans hsS h)))) ⟨⟨hC, hL⟩, h1n⟩ hS (fun x h => h.elim (fun h => hqS x h) (fun h => Nat.le_trans hsS h)) rfl hl.1 rfl (Nat.le_of_ble_eq_true rfl) dL_law_66 ⟨show cc + 310 ≤ 1200104 from by omega, show ss + 29600 ≤ 5501314 from by omega⟩ (fun v9 H locs hp9 hz9 hk9 hS => ?_)
              obtain ⟨rfl, hC⟩ := hp9
              have hC := hC.mono (T' := 249 * (k : Int) + 60 * (((u + 1 : Nat)) : Int)) (by omega)
              have hU : s9.heap.size ≤ H.size := hS.1
              refine W.eq (g2 := F0 m9 69 ls [.int (zI 1)]) rfl ?_
              refine zr_if_ne (tgt := 74) hx hb dL_law_69 (by decide) ⟨by decide, by decide⟩ (fun c_13 => ?_) (fun c_13 => by exfalso; revert c_13; decide)
              refine zr_iinc (v := (u : Int) + 1) (lv' := [(5, .int (zI ((u : Int) + 1))), (4, .int x_6), (3, .int (zI (k : Int))), (0, .ref b), (1, .ref (q 0)), (2, .ref s0)]) hx hb dL_law_74 hl (k := 0) rfl rfl (by decide) rfl (fun ls hl => ?_)
              refine lv_goto (tgt := 45) hx hb dL_law_77 (by decide) ?_
              have hl := lv_sub hl (l' := [(5, .int (zI ((u : Int) + 1))), (4, .int x_6), (3, .int (zI (k : Int))), (0, .ref b), (1, .ref (q 0)), (2, .ref s0)]) [0, 1, 2, 3, 4, 5] rfl
              have e_14 : ((((u + 1) : Nat) : Int) : Int) = (u : Int) + 1 := by omega
              have hl : lv_has ls 20 [(5, .int (zI (((u + 1) : Nat) : Int))), (4, .int x_6), (3, .int (zI (k : Int))), (0, .ref b), (1, .ref (q 0)), (2, .ref s0)] := by rw [e_14]; exact hl
              exact ih_u (u + 1) (by omega) (by omega) _ _ _ _ _ hC hS hl  (by omega) (by omega)
        have hl := lv_sub hl (l' := [(5, .int (zI 0)), (4, .int x_6), (3, .int (zI (k : Int))), (0, .ref b), (1, .ref (q 0)), (2, .ref s0)]) [0, 1, 2, 3, 4, 5] rfl
        exact L45_7 (4 + 1) 0 (Nat.zero_le _) (by omega) _ _ _ _ _ (hC.mono (by omega)) hS hl  (by omega) (by omega)
  have hl := lv_sub hl (l' := [(3, .int (zI 0)), (0, .ref b), (1, .ref (q 0)), (2, .ref s0)]) [0, 1, 2, 3] rfl
  exact L22_1 (10 + 1) 0 (Nat.zero_le _) (by omega) _ _ _ _ _ (hC.mono (by omega)) hS hl  (by omega) (by omega)
