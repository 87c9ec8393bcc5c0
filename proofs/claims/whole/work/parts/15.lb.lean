set_option maxHeartbeats 4000000 in
set_option maxRecDepth 100000 in
theorem law_c15 {p : Program} {l : Launch} {e : Env} {s : State} {m : MethodId} {below : List Frame} {meth : Method} {c : Code} {b L : Nat} {xs : Nat → Int32} {Q : State → Prop} {D : va_G} {cI cZ cJ : ClassId} {q r : Nat → Nat} {o : Nat} (C : zCx p l s m meth c b L xs D cI cZ cJ q r o) {d0 : Drawn} (hd0 : s.drawn.sameBut d0 lw_cs) {H : Heap} {locs : List Loc} {cells slots : Nat} (hcs : cells + 2 ≤ 601024 ∧ slots + 12 ≤ 7293034) {j : Nat} (hj : 5 * (j : Int) + 5 ≤ (L : Int)) (hj2 : j ≤ 512) {ls : Array Slot} (hZ : zLS D cI cZ cJ q r o j H) (hS : va_S (fun a => s.heap.size ≤ a) s.heap H locs) (hl : lv_has ls 9 [(4, .int (zI (5 * (j : Int)))), (0, .ref b), (1, .ref (q 0)), (2, .ref (r 0)), (3, .ref o)])
    (K : ∀ (d1 : Drawn), s.drawn.sameBut d1 lw_cs → ∀ (H1 : Heap) (locs1 : List Loc) (ls1 : Array Slot), zLS D cI cZ cJ q r o (j + 1) H1 → va_S (fun a => s.heap.size ≤ a) s.heap H1 locs1 → lv_has ls1 9 [(4, .int (zI (5 * (j : Int)))), (0, .ref b), (1, .ref (q 0)), (2, .ref (r 0)), (3, .ref o)] → W p l e room_1 (s.setDrawn d1) m #[Value.ref b] below meth c H1 locs1 (cells + 2) (slots + 12) Q (F0 m 1825 ls1 [])) :
    W p l e room_1 (s.setDrawn d0) m #[Value.ref b] below meth c H locs cells slots Q (F0 m 1029 ls []) := by
  obtain ⟨pa, sp, al, dg, co, da, mb, dd, ah, wl, lo, n, td, wn, co', da', mo, st, mr, th, f, R, htd, hst, hmr, hC, hM, hO⟩ := hZ
  have hn := R.1.1
  have htd0 := R.1.2
  have hLN := C.hLN
  have hs1 := sc_rg xs (5 * (j : Int) + 1)
  have hs2 := sc_rg xs (5 * (j : Int) + 2)
  have hs3 := sc_rg xs (5 * (j : Int) + 3)
  have hs4 := sc_rg xs (5 * (j : Int) + 4)
  by_cases b1 : 1 ≤ sc xs (5 * (j : Int) + 1) ∧ sc xs (5 * (j : Int) + 1) ≤ 4
  · have b1 := b1
    by_cases b2 : 0 ≤ sc xs (5 * (j : Int) + 2) ∧ sc xs (5 * (j : Int) + 2) ≤ 2
    · have b2 := b2
      have hk9 := (R.2.2.2.1 (3 * (sc xs (5 * (j : Int) + 1) - 1) + sc xs (5 * (j : Int) + 2)) (by omega) (by omega)).2
      rw [show (192 : Int) + (3 * (sc xs (5 * (j : Int) + 1) - 1) + sc xs (5 * (j : Int) + 2)) = 16 * 12 + (sc xs (5 * (j : Int) + 1) - 1) * 3 + sc xs (5 * (j : Int) + 2) by omega] at hk9
      refine lv_aload_n C.hx C.hb dL_law_1029 rfl (lv_at hl 2 rfl) ?_
      refine lv_aload_n C.hx C.hb dL_law_1030 rfl (lv_at hl 1 rfl) ?_
      refine lv_iload C.hx C.hb dL_law_1031 (lv_at hl 0 rfl) ?_
      refine zr_iconst C.hx C.hb dL_law_1033 ?_
      refine zr_iadd (v := 5 * (j : Int) + 1) C.hx C.hb rfl dL_law_1034 ?_
      refine zr_sld (s := s.setDrawn d0) C.hx C.hb C.hX C.hbl C.hbA hS (i := 5 * (j : Int) + 1) (by omega) (by omega) C.hLN dL_law_1035 ?_
      refine lv_aload_n C.hx C.hb dL_law_1036 rfl (lv_at hl 1 rfl) ?_
      refine lv_iload C.hx C.hb dL_law_1037 (lv_at hl 0 rfl) ?_
      refine zr_iconst C.hx C.hb dL_law_1039 ?_
      refine zr_iadd (v := 5 * (j : Int) + 2) C.hx C.hb rfl dL_law_1040 ?_
      refine zr_sld (s := s.setDrawn d0) C.hx C.hb C.hX C.hbl C.hbA hS (i := 5 * (j : Int) + 2) (by omega) (by omega) C.hLN dL_law_1041 ?_
      refine lv_aload_n C.hx C.hb dL_law_1042 rfl (lv_at hl 4 rfl) ?_
      refine zcallLW (As := [.ref (q 0), .int (zI (sc xs (5 * (j : Int) + 1))), .int (zI (sc xs (5 * (j : Int) + 2))), .ref o]) (rest := []) ⟨C.hx, C.hb, C.hml, C.hown, dr_words C.hts _⟩ C.hK (kL_stageDaysok l D C.hl0 cI cZ cJ q o C.hN C.hN2 pa sp al dg co da mb dd ah wl lo n td wn f R.2.1.2.2.2.2.1 (sc xs (5 * (j : Int) + 1)) (sc xs (5 * (j : Int) + 2)) (by omega) (by omega)) (vx_cwSW 4 (dr_words C.hts _) gL_law_L_stageDays rfl rfl rfl (by decide +kernel) ⟨Nat.le_of_ble_eq_true rfl, Nat.le_of_ble_eq_true rfl⟩) hC hO (C.tk hS) C.hE hS C.hA3 rfl hl.1 rfl (Nat.le_of_ble_eq_true rfl) dL_law_1043 ⟨C.ok1 hcs.1 (by omega), C.ok2 hcs.2 (by omega)⟩ (fun H locs hC hO hS _ hkk => ?_)
      have hM := zkeep hM hkk C.dM
      refine lv_istore (lv' := [(5, .int (zI 0)), (4, .int (zI (5 * (j : Int)))), (0, .ref b), (1, .ref (q 0)), (2, .ref (r 0)), (3, .ref o)]) C.hx C.hb dL_law_1046 hl (by decide) rfl (fun ls hl => ?_)
      refine lv_aload_n C.hx C.hb dL_law_1048 rfl (lv_at hl 4 rfl) ?_
      refine lv_aload_n C.hx C.hb dL_law_1049 rfl (lv_at hl 2 rfl) ?_
      refine lv_iload C.hx C.hb dL_law_1050 (lv_at hl 1 rfl) ?_
      refine zr_iconst C.hx C.hb dL_law_1052 ?_
      refine zr_iadd (v := 5 * (j : Int) + 1) C.hx C.hb rfl dL_law_1053 ?_
      refine zr_sld (s := s.setDrawn d0) C.hx C.hb C.hX C.hbl C.hbA hS (i := 5 * (j : Int) + 1) (by omega) (by omega) C.hLN dL_law_1054 ?_
      refine lv_aload_n C.hx C.hb dL_law_1055 rfl (lv_at hl 2 rfl) ?_
      refine lv_iload C.hx C.hb dL_law_1056 (lv_at hl 1 rfl) ?_
      refine zr_iconst C.hx C.hb dL_law_1058 ?_
      refine zr_iadd (v := 5 * (j : Int) + 2) C.hx C.hb rfl dL_law_1059 ?_
      refine zr_sld (s := s.setDrawn d0) C.hx C.hb C.hX C.hbl C.hbA hS (i := 5 * (j : Int) + 2) (by omega) (by omega) C.hLN dL_law_1060 ?_
      refine zcallV (ci := 3) (q0 := 0) (cq := (RX3, TX3, 12)) (As := [.int (zI (sc xs (5 * (j : Int) + 1))), .int (zI (sc xs (5 * (j : Int) + 2)))]) (rest := []) ⟨C.hx, C.hb, C.hml, C.hown, dr_words C.hts _⟩ C.hK2 (kX3_stageDaysok l D cI cZ r C.hNr pa sp al co' da' mo st mr th n td wn R.2.2.1.2.1 (sc xs (5 * (j : Int) + 1)) (sc xs (5 * (j : Int) + 2)) (by omega) (by omega) (by omega) (by omega)) (cwV 2 (dr_words C.hts _) gL_law_X3_stageDays rfl rfl rfl (by decide +kernel) ⟨Nat.le_of_ble_eq_true rfl, Nat.le_of_ble_eq_true rfl⟩) hM hS C.hA2 rfl rfl rfl hl.1 rfl (Nat.le_of_ble_eq_true rfl) dL_law_1061 ⟨C.ok1 hcs.1 (by omega), C.ok2 hcs.2 (by omega)⟩ (fun H locs hM hS _ hkk => ?_)
      have hC := zkeep hC hkk C.dC
      have hO := zkeep hO hkk C.dO
      refine W.eq (g2 := F0 m 1064 ls [.int (zI (da' (3 * ((sc xs (5 * (j : Int) + 1)) - 1) + (sc xs (5 * (j : Int) + 2)))))]) rfl ?_
      refine lv_istore (lv' := [(6, .int (zI (da' (3 * ((sc xs (5 * (j : Int) + 1)) - 1) + (sc xs (5 * (j : Int) + 2)))))), (5, .int (zI 0)), (4, .int (zI (5 * (j : Int)))), (0, .ref b), (1, .ref (q 0)), (2, .ref (r 0)), (3, .ref o)]) C.hx C.hb dL_law_1064 hl (by decide) rfl (fun ls hl => ?_)
      refine lv_aload_n C.hx C.hb dL_law_1066 rfl (lv_at hl 5 rfl) ?_
      refine zcallV (ci := 3) (q0 := 0) (cq := (RX3, TX3, 12)) (As := []) (rest := []) ⟨C.hx, C.hb, C.hml, C.hown, dr_words C.hts _⟩ C.hK2 (kX3_thrown l D cI cZ r C.hNr pa sp al co' da' mo st mr 0 n td wn) (cwV 0 (dr_words C.hts _) gL_law_X3_thrown rfl rfl rfl (by decide +kernel) ⟨Nat.le_of_ble_eq_true rfl, Nat.le_of_ble_eq_true rfl⟩) hM hS C.hA2 rfl rfl rfl hl.1 rfl (Nat.le_of_ble_eq_true rfl) dL_law_1067 ⟨C.ok1 hcs.1 (by omega), C.ok2 hcs.2 (by omega)⟩ (fun H locs hM hS _ hkk => ?_)
      have hC := zkeep hC hkk C.dC
      have hO := zkeep hO hkk C.dO
      refine W.eq (g2 := F0 m 1070 ls [.int (zI 0)]) rfl ?_
      refine lv_iload C.hx C.hb dL_law_1070 (lv_at hl 1 rfl) ?_
      refine zr_icmp_eqT (tgt := 1077) C.hx C.hb (rfl) dL_law_1072 (by decide) ?_
      refine lv_iload C.hx C.hb dL_law_1077 (lv_at hl 1 rfl) ?_
      refine zr_if_ne (tgt := 1094) C.hx C.hb dL_law_1079 (by decide) ⟨by decide, by decide⟩ (fun h9 => by exfalso; revert h9; decide) (fun _ => ?_)
      refine lv_aload_n C.hx C.hb dL_law_1082 rfl (lv_at hl 6 rfl) ?_
      refine zr_iconst C.hx C.hb dL_law_1083 ?_
      refine zr_lald0 C.hx C.hb C.hK hO 0 2 rfl rfl dL_law_1084 ?_
      refine W.eq (g2 := F0 m 1085 ls [.long ((zI (da (16 * 12 + ((sc xs (5 * (j : Int) + 1)) - 1) * 3 + (sc xs (5 * (j : Int) + 2))))).toInt64)]) rfl ?_
      refine lv_iload C.hx C.hb dL_law_1085 (lv_at hl 0 rfl) ?_
      refine lv_i2l C.hx C.hb dL_law_1087 rfl ?_
      refine zr_lcmp_eqT (tgt := 1094) C.hx C.hb (congrArg (fun z => (zI z).toInt64) (hk9)) dL_law_1088 dL_law_1089 (by decide) ?_
      refine lv_goto (tgt := 1825) C.hx C.hb dL_law_1094 (by decide) ?_
      refine W.widen (k := cells + 2) (n := slots + 12) (by omega) (by omega) ?_
      have hl := lv_sub hl (l' := [(4, .int (zI (5 * (j : Int)))), (0, .ref b), (1, .ref (q 0)), (2, .ref (r 0)), (3, .ref o)]) [2, 3, 4, 5, 6] rfl
      exact K _ hd0 H locs ls ⟨pa, sp, al, dg, co, da, mb, dd, ah, wl, lo, n, td, wn, co', da', mo, st, mr, 0, (vp_updL f 0 (zI (da (16 * 12 + ((sc xs (5 * (j : Int) + 1)) - 1) * 3 + (sc xs (5 * (j : Int) + 2))))).toInt64), R, by omega, hst, hmr, hC, hM, hO⟩ hS hl
    · have b2 := b2
      refine lv_aload_n C.hx C.hb dL_law_1029 rfl (lv_at hl 2 rfl) ?_
      refine lv_aload_n C.hx C.hb dL_law_1030 rfl (lv_at hl 1 rfl) ?_
      refine lv_iload C.hx C.hb dL_law_1031 (lv_at hl 0 rfl) ?_
      refine zr_iconst C.hx C.hb dL_law_1033 ?_
      refine zr_iadd (v := 5 * (j : Int) + 1) C.hx C.hb rfl dL_law_1034 ?_
      refine zr_sld (s := s.setDrawn d0) C.hx C.hb C.hX C.hbl C.hbA hS (i := 5 * (j : Int) + 1) (by omega) (by omega) C.hLN dL_law_1035 ?_
      refine lv_aload_n C.hx C.hb dL_law_1036 rfl (lv_at hl 1 rfl) ?_
      refine lv_iload C.hx C.hb dL_law_1037 (lv_at hl 0 rfl) ?_
      refine zr_iconst C.hx C.hb dL_law_1039 ?_
      refine zr_iadd (v := 5 * (j : Int) + 2) C.hx C.hb rfl dL_law_1040 ?_
      refine zr_sld (s := s.setDrawn d0) C.hx C.hb C.hX C.hbl C.hbA hS (i := 5 * (j : Int) + 2) (by omega) (by omega) C.hLN dL_law_1041 ?_
      refine lv_aload_n C.hx C.hb dL_law_1042 rfl (lv_at hl 4 rfl) ?_
      refine zcallLW (As := [.ref (q 0), .int (zI (sc xs (5 * (j : Int) + 1))), .int (zI (sc xs (5 * (j : Int) + 2))), .ref o]) (rest := []) ⟨C.hx, C.hb, C.hml, C.hown, dr_words C.hts _⟩ C.hK (kL_stageDaysx2 l D C.hl0 cI cZ cJ q o C.hN C.hN2 pa sp al dg co da mb dd ah wl lo n td wn f (sc xs (5 * (j : Int) + 1)) (sc xs (5 * (j : Int) + 2)) (by omega) (by omega) (by omega)) (vx_cwSW 4 (dr_words C.hts _) gL_law_L_stageDays rfl rfl rfl (by decide +kernel) ⟨Nat.le_of_ble_eq_true rfl, Nat.le_of_ble_eq_true rfl⟩) hC hO (C.tk hS) C.hE hS C.hA3 rfl hl.1 rfl (Nat.le_of_ble_eq_true rfl) dL_law_1043 ⟨C.ok1 hcs.1 (by omega), C.ok2 hcs.2 (by omega)⟩ (fun H locs hC hO hS _ hkk => ?_)
      have hM := zkeep hM hkk C.dM
      refine lv_istore (lv' := [(5, .int (zI 1)), (4, .int (zI (5 * (j : Int)))), (0, .ref b), (1, .ref (q 0)), (2, .ref (r 0)), (3, .ref o)]) C.hx C.hb dL_law_1046 hl (by decide) rfl (fun ls hl => ?_)
      refine lv_aload_n C.hx C.hb dL_law_1048 rfl (lv_at hl 4 rfl) ?_
      refine lv_aload_n C.hx C.hb dL_law_1049 rfl (lv_at hl 2 rfl) ?_
      refine lv_iload C.hx C.hb dL_law_1050 (lv_at hl 1 rfl) ?_
      refine zr_iconst C.hx C.hb dL_law_1052 ?_
      refine zr_iadd (v := 5 * (j : Int) + 1) C.hx C.hb rfl dL_law_1053 ?_
      refine zr_sld (s := s.setDrawn d0) C.hx C.hb C.hX C.hbl C.hbA hS (i := 5 * (j : Int) + 1) (by omega) (by omega) C.hLN dL_law_1054 ?_
      refine lv_aload_n C.hx C.hb dL_law_1055 rfl (lv_at hl 2 rfl) ?_
      refine lv_iload C.hx C.hb dL_law_1056 (lv_at hl 1 rfl) ?_
      refine zr_iconst C.hx C.hb dL_law_1058 ?_
      refine zr_iadd (v := 5 * (j : Int) + 2) C.hx C.hb rfl dL_law_1059 ?_
      refine zr_sld (s := s.setDrawn d0) C.hx C.hb C.hX C.hbl C.hbA hS (i := 5 * (j : Int) + 2) (by omega) (by omega) C.hLN dL_law_1060 ?_
      refine zcallV (ci := 3) (q0 := 0) (cq := (RX3, TX3, 12)) (As := [.int (zI (sc xs (5 * (j : Int) + 1))), .int (zI (sc xs (5 * (j : Int) + 2)))]) (rest := []) ⟨C.hx, C.hb, C.hml, C.hown, dr_words C.hts _⟩ C.hK2 (kX3_stageDayse1 l D cI cZ r C.hNr pa sp al co' da' mo st mr th n td wn (sc xs (5 * (j : Int) + 1)) (sc xs (5 * (j : Int) + 2)) (by omega) (by omega) (by omega)) (cwV 2 (dr_words C.hts _) gL_law_X3_stageDays rfl rfl rfl (by decide +kernel) ⟨Nat.le_of_ble_eq_true rfl, Nat.le_of_ble_eq_true rfl⟩) hM hS C.hA2 rfl rfl rfl hl.1 rfl (Nat.le_of_ble_eq_true rfl) dL_law_1061 ⟨C.ok1 hcs.1 (by omega), C.ok2 hcs.2 (by omega)⟩ (fun H locs hM hS _ hkk => ?_)
      have hC := zkeep hC hkk C.dC
      have hO := zkeep hO hkk C.dO
      refine W.eq (g2 := F0 m 1064 ls [.int (zI 0)]) rfl ?_
      refine lv_istore (lv' := [(6, .int (zI 0)), (5, .int (zI 1)), (4, .int (zI (5 * (j : Int)))), (0, .ref b), (1, .ref (q 0)), (2, .ref (r 0)), (3, .ref o)]) C.hx C.hb dL_law_1064 hl (by decide) rfl (fun ls hl => ?_)
      refine lv_aload_n C.hx C.hb dL_law_1066 rfl (lv_at hl 5 rfl) ?_
      refine zcallV (ci := 3) (q0 := 0) (cq := (RX3, TX3, 12)) (As := []) (rest := []) ⟨C.hx, C.hb, C.hml, C.hown, dr_words C.hts _⟩ C.hK2 (kX3_thrown l D cI cZ r C.hNr pa sp al co' da' mo st mr 1 n td wn) (cwV 0 (dr_words C.hts _) gL_law_X3_thrown rfl rfl rfl (by decide +kernel) ⟨Nat.le_of_ble_eq_true rfl, Nat.le_of_ble_eq_true rfl⟩) hM hS C.hA2 rfl rfl rfl hl.1 rfl (Nat.le_of_ble_eq_true rfl) dL_law_1067 ⟨C.ok1 hcs.1 (by omega), C.ok2 hcs.2 (by omega)⟩ (fun H locs hM hS _ hkk => ?_)
      have hC := zkeep hC hkk C.dC
      have hO := zkeep hO hkk C.dO
      refine W.eq (g2 := F0 m 1070 ls [.int (zI 1)]) rfl ?_
      refine lv_iload C.hx C.hb dL_law_1070 (lv_at hl 1 rfl) ?_
      refine zr_icmp_eqT (tgt := 1077) C.hx C.hb (rfl) dL_law_1072 (by decide) ?_
      refine lv_iload C.hx C.hb dL_law_1077 (lv_at hl 1 rfl) ?_
      refine zr_if_ne (tgt := 1094) C.hx C.hb dL_law_1079 (by decide) ⟨by decide, by decide⟩ (fun _ => ?_) (fun h9 => by exfalso; revert h9; decide)
      refine lv_goto (tgt := 1825) C.hx C.hb dL_law_1094 (by decide) ?_
      refine W.widen (k := cells + 2) (n := slots + 12) (by omega) (by omega) ?_
      have hl := lv_sub hl (l' := [(4, .int (zI (5 * (j : Int)))), (0, .ref b), (1, .ref (q 0)), (2, .ref (r 0)), (3, .ref o)]) [2, 3, 4, 5, 6] rfl
      exact K _ hd0 H locs ls ⟨pa, sp, al, dg, co, da, mb, dd, ah, wl, lo, n, td, wn, co', da', mo, st, mr, 1, f, R, by omega, hst, hmr, hC, hM, hO⟩ hS hl
  · have b1 := b1
    refine lv_aload_n C.hx C.hb dL_law_1029 rfl (lv_at hl 2 rfl) ?_
    refine lv_aload_n C.hx C.hb dL_law_1030 rfl (lv_at hl 1 rfl) ?_
    refine lv_iload C.hx C.hb dL_law_1031 (lv_at hl 0 rfl) ?_
    refine zr_iconst C.hx C.hb dL_law_1033 ?_
    refine zr_iadd (v := 5 * (j : Int) + 1) C.hx C.hb rfl dL_law_1034 ?_
    refine zr_sld (s := s.setDrawn d0) C.hx C.hb C.hX C.hbl C.hbA hS (i := 5 * (j : Int) + 1) (by omega) (by omega) C.hLN dL_law_1035 ?_
    refine lv_aload_n C.hx C.hb dL_law_1036 rfl (lv_at hl 1 rfl) ?_
    refine lv_iload C.hx C.hb dL_law_1037 (lv_at hl 0 rfl) ?_
    refine zr_iconst C.hx C.hb dL_law_1039 ?_
    refine zr_iadd (v := 5 * (j : Int) + 2) C.hx C.hb rfl dL_law_1040 ?_
    refine zr_sld (s := s.setDrawn d0) C.hx C.hb C.hX C.hbl C.hbA hS (i := 5 * (j : Int) + 2) (by omega) (by omega) C.hLN dL_law_1041 ?_
    refine lv_aload_n C.hx C.hb dL_law_1042 rfl (lv_at hl 4 rfl) ?_
    refine zcallLW (As := [.ref (q 0), .int (zI (sc xs (5 * (j : Int) + 1))), .int (zI (sc xs (5 * (j : Int) + 2))), .ref o]) (rest := []) ⟨C.hx, C.hb, C.hml, C.hown, dr_words C.hts _⟩ C.hK (kL_stageDaysx1 l D C.hl0 cI cZ cJ q o C.hN C.hN2 pa sp al dg co da mb dd ah wl lo n td wn f (sc xs (5 * (j : Int) + 1)) (sc xs (5 * (j : Int) + 2)) (by omega) (by omega)) (vx_cwSW 4 (dr_words C.hts _) gL_law_L_stageDays rfl rfl rfl (by decide +kernel) ⟨Nat.le_of_ble_eq_true rfl, Nat.le_of_ble_eq_true rfl⟩) hC hO (C.tk hS) C.hE hS C.hA3 rfl hl.1 rfl (Nat.le_of_ble_eq_true rfl) dL_law_1043 ⟨C.ok1 hcs.1 (by omega), C.ok2 hcs.2 (by omega)⟩ (fun H locs hC hO hS _ hkk => ?_)
    have hM := zkeep hM hkk C.dM
    refine lv_istore (lv' := [(5, .int (zI 1)), (4, .int (zI (5 * (j : Int)))), (0, .ref b), (1, .ref (q 0)), (2, .ref (r 0)), (3, .ref o)]) C.hx C.hb dL_law_1046 hl (by decide) rfl (fun ls hl => ?_)
    refine lv_aload_n C.hx C.hb dL_law_1048 rfl (lv_at hl 4 rfl) ?_
    refine lv_aload_n C.hx C.hb dL_law_1049 rfl (lv_at hl 2 rfl) ?_
    refine lv_iload C.hx C.hb dL_law_1050 (lv_at hl 1 rfl) ?_
    refine zr_iconst C.hx C.hb dL_law_1052 ?_
    refine zr_iadd (v := 5 * (j : Int) + 1) C.hx C.hb rfl dL_law_1053 ?_
    refine zr_sld (s := s.setDrawn d0) C.hx C.hb C.hX C.hbl C.hbA hS (i := 5 * (j : Int) + 1) (by omega) (by omega) C.hLN dL_law_1054 ?_
    refine lv_aload_n C.hx C.hb dL_law_1055 rfl (lv_at hl 2 rfl) ?_
    refine lv_iload C.hx C.hb dL_law_1056 (lv_at hl 1 rfl) ?_
    refine zr_iconst C.hx C.hb dL_law_1058 ?_
    refine zr_iadd (v := 5 * (j : Int) + 2) C.hx C.hb rfl dL_law_1059 ?_
    refine zr_sld (s := s.setDrawn d0) C.hx C.hb C.hX C.hbl C.hbA hS (i := 5 * (j : Int) + 2) (by omega) (by omega) C.hLN dL_law_1060 ?_
    refine zcallV (ci := 3) (q0 := 0) (cq := (RX3, TX3, 12)) (As := [.int (zI (sc xs (5 * (j : Int) + 1))), .int (zI (sc xs (5 * (j : Int) + 2)))]) (rest := []) ⟨C.hx, C.hb, C.hml, C.hown, dr_words C.hts _⟩ C.hK2 (kX3_stageDayse1 l D cI cZ r C.hNr pa sp al co' da' mo st mr th n td wn (sc xs (5 * (j : Int) + 1)) (sc xs (5 * (j : Int) + 2)) (by omega) (by omega) (by omega)) (cwV 2 (dr_words C.hts _) gL_law_X3_stageDays rfl rfl rfl (by decide +kernel) ⟨Nat.le_of_ble_eq_true rfl, Nat.le_of_ble_eq_true rfl⟩) hM hS C.hA2 rfl rfl rfl hl.1 rfl (Nat.le_of_ble_eq_true rfl) dL_law_1061 ⟨C.ok1 hcs.1 (by omega), C.ok2 hcs.2 (by omega)⟩ (fun H locs hM hS _ hkk => ?_)
    have hC := zkeep hC hkk C.dC
    have hO := zkeep hO hkk C.dO
    refine W.eq (g2 := F0 m 1064 ls [.int (zI 0)]) rfl ?_
    refine lv_istore (lv' := [(6, .int (zI 0)), (5, .int (zI 1)), (4, .int (zI (5 * (j : Int)))), (0, .ref b), (1, .ref (q 0)), (2, .ref (r 0)), (3, .ref o)]) C.hx C.hb dL_law_1064 hl (by decide) rfl (fun ls hl => ?_)
    refine lv_aload_n C.hx C.hb dL_law_1066 rfl (lv_at hl 5 rfl) ?_
    refine zcallV (ci := 3) (q0 := 0) (cq := (RX3, TX3, 12)) (As := []) (rest := []) ⟨C.hx, C.hb, C.hml, C.hown, dr_words C.hts _⟩ C.hK2 (kX3_thrown l D cI cZ r C.hNr pa sp al co' da' mo st mr 1 n td wn) (cwV 0 (dr_words C.hts _) gL_law_X3_thrown rfl rfl rfl (by decide +kernel) ⟨Nat.le_of_ble_eq_true rfl, Nat.le_of_ble_eq_true rfl⟩) hM hS C.hA2 rfl rfl rfl hl.1 rfl (Nat.le_of_ble_eq_true rfl) dL_law_1067 ⟨C.ok1 hcs.1 (by omega), C.ok2 hcs.2 (by omega)⟩ (fun H locs hM hS _ hkk => ?_)
    have hC := zkeep hC hkk C.dC
    have hO := zkeep hO hkk C.dO
    refine W.eq (g2 := F0 m 1070 ls [.int (zI 1)]) rfl ?_
    refine lv_iload C.hx C.hb dL_law_1070 (lv_at hl 1 rfl) ?_
    refine zr_icmp_eqT (tgt := 1077) C.hx C.hb (rfl) dL_law_1072 (by decide) ?_
    refine lv_iload C.hx C.hb dL_law_1077 (lv_at hl 1 rfl) ?_
    refine zr_if_ne (tgt := 1094) C.hx C.hb dL_law_1079 (by decide) ⟨by decide, by decide⟩ (fun _ => ?_) (fun h9 => by exfalso; revert h9; decide)
    refine lv_goto (tgt := 1825) C.hx C.hb dL_law_1094 (by decide) ?_
    refine W.widen (k := cells + 2) (n := slots + 12) (by omega) (by omega) ?_
    have hl := lv_sub hl (l' := [(4, .int (zI (5 * (j : Int)))), (0, .ref b), (1, .ref (q 0)), (2, .ref (r 0)), (3, .ref o)]) [2, 3, 4, 5, 6] rfl
    exact K _ hd0 H locs ls ⟨pa, sp, al, dg, co, da, mb, dd, ah, wl, lo, n, td, wn, co', da', mo, st, mr, 1, f, R, by omega, hst, hmr, hC, hM, hO⟩ hS hl
set_option maxHeartbeats 4000000 in
set_option maxRecDepth 100000 in
theorem law_c16 {p : Program} {l : Launch} {e : Env} {s : State} {m : MethodId} {below : List Frame} {meth : Method} {c : Code} {b L : Nat} {xs : Nat → Int32} {Q : State → Prop} {D : va_G} {cI cZ cJ : ClassId} {q r : Nat → Nat} {o : Nat} (C : zCx p l s m meth c b L xs D cI cZ cJ q r o) {d0 : Drawn} (hd0 : s.drawn.sameBut d0 lw_cs) {H : Heap} {locs : List Loc} {cells slots : Nat} (hcs : cells + 2 ≤ 601024 ∧ slots + 12 ≤ 7293034) {j : Nat} (hj : 5 * (j : Int) + 5 ≤ (L : Int)) (hj2 : j ≤ 512) {ls : Array Slot} (hZ : zLS D cI cZ cJ q r o j H) (hS : va_S (fun a => s.heap.size ≤ a) s.heap H locs) (hl : lv_has ls 9 [(4, .int (zI (5 * (j : Int)))), (0, .ref b), (1, .ref (q 0)), (2, .ref (r 0)), (3, .ref o)])
    (K : ∀ (d1 : Drawn), s.drawn.sameBut d1 lw_cs → ∀ (H1 : Heap) (locs1 : List Loc) (ls1 : Array Slot), zLS D cI cZ cJ q r o (j + 1) H1 → va_S (fun a => s.heap.size ≤ a) s.heap H1 locs1 → lv_has ls1 9 [(4, .int (zI (5 * (j : Int)))), (0, .ref b), (1, .ref (q 0)), (2, .ref (r 0)), (3, .ref o)] → W p l e room_1 (s.setDrawn d1) m #[Value.ref b] below meth c H1 locs1 (cells + 2) (slots + 12) Q (F0 m 1825 ls1 [])) :
    W p l e room_1 (s.setDrawn d0) m #[Value.ref b] below meth c H locs cells slots Q (F0 m 1097 ls []) := by
  obtain ⟨pa, sp, al, dg, co, da, mb, dd, ah, wl, lo, n, td, wn, co', da', mo, st, mr, th, f, R, htd, hst, hmr, hC, hM, hO⟩ := hZ
  have hn := R.1.1
  have htd0 := R.1.2
  have hLN := C.hLN
  have hs1 := sc_rg xs (5 * (j : Int) + 1)
  have hs2 := sc_rg xs (5 * (j : Int) + 2)
  have hs3 := sc_rg xs (5 * (j : Int) + 3)
  have hs4 := sc_rg xs (5 * (j : Int) + 4)
  refine lv_aload_n C.hx C.hb dL_law_1097 rfl (lv_at hl 2 rfl) ?_
  refine zcallV (ci := 2) (q0 := 0) (cq := (RX2, TX2, 9)) (As := []) (rest := []) ⟨C.hx, C.hb, C.hml, C.hown, dr_words C.hts _⟩ C.hK2 (kX2_day l D cI cZ q C.hN pa sp al dg co da mb dd ah wl lo n td wn) (cwV 0 (dr_words C.hts _) gL_law_X2_day rfl rfl rfl (by decide +kernel) ⟨Nat.le_of_ble_eq_true rfl, Nat.le_of_ble_eq_true rfl⟩) hC hS C.hA1 rfl rfl rfl hl.1 rfl (Nat.le_of_ble_eq_true rfl) dL_law_1098 ⟨C.ok1 hcs.1 (by omega), C.ok2 hcs.2 (by omega)⟩ (fun H locs hC hS _ hkk => ?_)
  have hM := zkeep hM hkk C.dM2
  have hO := zkeep hO hkk C.dO2
  refine W.eq (g2 := F0 m 1101 ls [.int (zI td)]) rfl ?_
  refine lv_aload_n C.hx C.hb dL_law_1101 rfl (lv_at hl 3 rfl) ?_
  refine zcallV (ci := 3) (q0 := 0) (cq := (RX3, TX3, 12)) (As := []) (rest := [.int (zI td)]) ⟨C.hx, C.hb, C.hml, C.hown, dr_words C.hts _⟩ C.hK2 (kX3_day l D cI cZ r C.hNr pa sp al co' da' mo st mr th n td wn) (cwV 0 (dr_words C.hts _) gL_law_X3_day rfl rfl rfl (by decide +kernel) ⟨Nat.le_of_ble_eq_true rfl, Nat.le_of_ble_eq_true rfl⟩) hM hS C.hA2 rfl rfl rfl hl.1 rfl (Nat.le_of_ble_eq_true rfl) dL_law_1102 ⟨C.ok1 hcs.1 (by omega), C.ok2 hcs.2 (by omega)⟩ (fun H locs hM hS _ hkk => ?_)
  have hC := zkeep hC hkk C.dC
  have hO := zkeep hO hkk C.dO
  refine W.eq (g2 := F0 m 1105 ls [.int (zI td), .int (zI td)]) rfl ?_
  refine zr_icmp_eqT (tgt := 1825) C.hx C.hb (rfl) dL_law_1105 (by decide) ?_
  refine W.widen (k := cells + 2) (n := slots + 12) (by omega) (by omega) ?_
  have hl := lv_sub hl (l' := [(4, .int (zI (5 * (j : Int)))), (0, .ref b), (1, .ref (q 0)), (2, .ref (r 0)), (3, .ref o)]) [0, 1, 2, 3, 4] rfl
  exact K _ hd0 H locs ls ⟨pa, sp, al, dg, co, da, mb, dd, ah, wl, lo, n, td, wn, co', da', mo, st, mr, 0, f, R, by omega, hst, hmr, hC, hM, hO⟩ hS hl
set_option maxHeartbeats 4000000 in
set_option maxRecDepth 100000 in
theorem law_c17 {p : Program} {l : Launch} {e : Env} {s : State} {m : MethodId} {below : List Frame} {meth : Method} {c : Code} {b L : Nat} {xs : Nat → Int32} {Q : State → Prop} {D : va_G} {cI cZ cJ : ClassId} {q r : Nat → Nat} {o : Nat} (C : zCx p l s m meth c b L xs D cI cZ cJ q r o) {d0 : Drawn} (hd0 : s.drawn.sameBut d0 lw_cs) {H : Heap} {locs : List Loc} {cells slots : Nat} (hcs : cells + 2 ≤ 601024 ∧ slots + 12 ≤ 7293034) {j : Nat} (hj : 5 * (j : Int) + 5 ≤ (L : Int)) (hj2 : j ≤ 512) {ls : Array Slot} (hZ : zLS D cI cZ cJ q r o j H) (hS : va_S (fun a => s.heap.size ≤ a) s.heap H locs) (hl : lv_has ls 9 [(4, .int (zI (5 * (j : Int)))), (0, .ref b), (1, .ref (q 0)), (2, .ref (r 0)), (3, .ref o)])
    (K : ∀ (d1 : Drawn), s.drawn.sameBut d1 lw_cs → ∀ (H1 : Heap) (locs1 : List Loc) (ls1 : Array Slot), zLS D cI cZ cJ q r o (j + 1) H1 → va_S (fun a => s.heap.size ≤ a) s.heap H1 locs1 → lv_has ls1 9 [(4, .int (zI (5 * (j : Int)))), (0, .ref b), (1, .ref (q 0)), (2, .ref (r 0)), (3, .ref o)] → W p l e room_1 (s.setDrawn d1) m #[Value.ref b] below meth c H1 locs1 (cells + 2) (slots + 12) Q (F0 m 1825 ls1 [])) :
    W p l e room_1 (s.setDrawn d0) m #[Value.ref b] below meth c H locs cells slots Q (F0 m 1110 ls []) := by
  obtain ⟨pa, sp, al, dg, co, da, mb, dd, ah, wl, lo, n, td, wn, co', da', mo, st, mr, th, f, R, htd, hst, hmr, hC, hM, hO⟩ := hZ
  have hn := R.1.1
  have htd0 := R.1.2
  have hLN := C.hLN
  have hs1 := sc_rg xs (5 * (j : Int) + 1)
  have hs2 := sc_rg xs (5 * (j : Int) + 2)
  have hs3 := sc_rg xs (5 * (j : Int) + 3)
  have hs4 := sc_rg xs (5 * (j : Int) + 4)
  by_cases b1 : 0 ≤ sc xs (5 * (j : Int) + 1) ∧ sc xs (5 * (j : Int) + 1) < (n : Int)
  · have b1 := b1
    refine lv_aload_n C.hx C.hb dL_law_1110 rfl (lv_at hl 2 rfl) ?_
    refine lv_aload_n C.hx C.hb dL_law_1111 rfl (lv_at hl 1 rfl) ?_
    refine lv_iload C.hx C.hb dL_law_1112 (lv_at hl 0 rfl) ?_
    refine zr_iconst C.hx C.hb dL_law_1114 ?_
    refine zr_iadd (v := 5 * (j : Int) + 1) C.hx C.hb rfl dL_law_1115 ?_
    refine zr_sld (s := s.setDrawn d0) C.hx C.hb C.hX C.hbl C.hbA hS (i := 5 * (j : Int) + 1) (by omega) (by omega) C.hLN dL_law_1116 ?_
    refine lv_aload_n C.hx C.hb dL_law_1117 rfl (lv_at hl 4 rfl) ?_
    refine zcallLW (As := [.ref (q 0), .int (zI (sc xs (5 * (j : Int) + 1))), .ref o]) (rest := []) ⟨C.hx, C.hb, C.hml, C.hown, dr_words C.hts _⟩ C.hK (kL_colourOfok l D C.hl0 cI cZ cJ q o C.hN C.hN2 pa sp al dg co da mb dd ah wl lo n td wn f R.1.1 R.2.1.2.2.2.1 R.2.1.2.2.2.2.1 R.2.1.2.2.2.2.2.1 (re_dd1 R) (re_td1 R) (sc xs (5 * (j : Int) + 1)) (by omega)) (vx_cwSW 3 (dr_words C.hts _) gL_law_L_colourOf rfl rfl rfl (by decide +kernel) ⟨Nat.le_of_ble_eq_true rfl, Nat.le_of_ble_eq_true rfl⟩) hC hO (C.tk hS) C.hE hS C.hA3 rfl hl.1 rfl (Nat.le_of_ble_eq_true rfl) dL_law_1118 ⟨C.ok1 hcs.1 (by omega), C.ok2 hcs.2 (by omega)⟩ (fun H locs hC hO hS _ hkk => ?_)
    have hM := zkeep hM hkk C.dM
    refine lv_istore (lv' := [(5, .int (zI 0)), (4, .int (zI (5 * (j : Int)))), (0, .ref b), (1, .ref (q 0)), (2, .ref (r 0)), (3, .ref o)]) C.hx C.hb dL_law_1121 hl (by decide) rfl (fun ls hl => ?_)
    refine lv_aload_n C.hx C.hb dL_law_1123 rfl (lv_at hl 4 rfl) ?_
    refine lv_aload_n C.hx C.hb dL_law_1124 rfl (lv_at hl 2 rfl) ?_
    refine lv_iload C.hx C.hb dL_law_1125 (lv_at hl 1 rfl) ?_
    refine zr_iconst C.hx C.hb dL_law_1127 ?_
    refine zr_iadd (v := 5 * (j : Int) + 1) C.hx C.hb rfl dL_law_1128 ?_
    refine zr_sld (s := s.setDrawn d0) C.hx C.hb C.hX C.hbl C.hbA hS (i := 5 * (j : Int) + 1) (by omega) (by omega) C.hLN dL_law_1129 ?_
    refine zcallV (ci := 3) (q0 := 0) (cq := (RX3, TX3, 12)) (As := [.int (zI (sc xs (5 * (j : Int) + 1)))]) (rest := []) ⟨C.hx, C.hb, C.hml, C.hown, dr_words C.hts _⟩ C.hK2 (kX3_colourOfok l D cI cZ r C.hNr pa sp al co' da' mo st mr th n td wn R.1.1 R.2.2.1.2.2 (re_td1 R) (sc xs (5 * (j : Int) + 1)) (by omega) (by omega)) (cwV 1 (dr_words C.hts _) gL_law_X3_colourOf rfl rfl rfl (by decide +kernel) ⟨Nat.le_of_ble_eq_true rfl, Nat.le_of_ble_eq_true rfl⟩) hM hS C.hA2 rfl rfl rfl hl.1 rfl (Nat.le_of_ble_eq_true rfl) dL_law_1130 ⟨C.ok1 hcs.1 (by omega), C.ok2 hcs.2 (by omega)⟩ (fun H locs hM hS _ hkk => ?_)
    have hC := zkeep hC hkk C.dC
    have hO := zkeep hO hkk C.dO
    refine W.eq (g2 := F0 m 1133 ls [.int (zI (wsM mo n (sc xs (5 * (j : Int) + 1)) td))]) rfl ?_
    refine lv_istore (lv' := [(6, .int (zI (wsM mo n (sc xs (5 * (j : Int) + 1)) td))), (5, .int (zI 0)), (4, .int (zI (5 * (j : Int)))), (0, .ref b), (1, .ref (q 0)), (2, .ref (r 0)), (3, .ref o)]) C.hx C.hb dL_law_1133 hl (by decide) rfl (fun ls hl => ?_)
    refine lv_aload_n C.hx C.hb dL_law_1135 rfl (lv_at hl 5 rfl) ?_
    refine zcallV (ci := 3) (q0 := 0) (cq := (RX3, TX3, 12)) (As := []) (rest := []) ⟨C.hx, C.hb, C.hml, C.hown, dr_words C.hts _⟩ C.hK2 (kX3_thrown l D cI cZ r C.hNr pa sp al co' da' mo st mr 0 n td wn) (cwV 0 (dr_words C.hts _) gL_law_X3_thrown rfl rfl rfl (by decide +kernel) ⟨Nat.le_of_ble_eq_true rfl, Nat.le_of_ble_eq_true rfl⟩) hM hS C.hA2 rfl rfl rfl hl.1 rfl (Nat.le_of_ble_eq_true rfl) dL_law_1136 ⟨C.ok1 hcs.1 (by omega), C.ok2 hcs.2 (by omega)⟩ (fun H locs hM hS _ hkk => ?_)
    have hC := zkeep hC hkk C.dC
    have hO := zkeep hO hkk C.dO
    refine W.eq (g2 := F0 m 1139 ls [.int (zI 0)]) rfl ?_
    refine lv_iload C.hx C.hb dL_law_1139 (lv_at hl 1 rfl) ?_
    refine zr_icmp_eqT (tgt := 1146) C.hx C.hb (rfl) dL_law_1141 (by decide) ?_
    refine lv_iload C.hx C.hb dL_law_1146 (lv_at hl 1 rfl) ?_
    refine zr_if_ne (tgt := 1163) C.hx C.hb dL_law_1148 (by decide) ⟨by decide, by decide⟩ (fun h9 => by exfalso; revert h9; decide) (fun _ => ?_)
    refine lv_aload_n C.hx C.hb dL_law_1151 rfl (lv_at hl 6 rfl) ?_
    refine zr_iconst C.hx C.hb dL_law_1152 ?_
    refine zr_lald0 C.hx C.hb C.hK hO 0 2 rfl rfl dL_law_1153 ?_
    refine W.eq (g2 := F0 m 1154 ls [.long ((zI (ca co da mb dd td n (sc xs (5 * (j : Int) + 1)) 0)).toInt64)]) rfl ?_
    refine lv_iload C.hx C.hb dL_law_1154 (lv_at hl 0 rfl) ?_
    refine lv_i2l C.hx C.hb dL_law_1156 rfl ?_
    refine zr_lcmp_eqT (tgt := 1163) C.hx C.hb (congrArg (fun z => (zI z).toInt64) (re_ca0 R (by omega) (by omega))) dL_law_1157 dL_law_1158 (by decide) ?_
    refine lv_goto (tgt := 1825) C.hx C.hb dL_law_1163 (by decide) ?_
    refine W.widen (k := cells + 2) (n := slots + 12) (by omega) (by omega) ?_
    have hl := lv_sub hl (l' := [(4, .int (zI (5 * (j : Int)))), (0, .ref b), (1, .ref (q 0)), (2, .ref (r 0)), (3, .ref o)]) [2, 3, 4, 5, 6] rfl
    exact K _ hd0 H locs ls ⟨pa, sp, al, dg, co, da, mb, dd, ah, wl, lo, n, td, wn, co', da', mo, st, mr, 0, (vp_updL f 0 (zI (ca co da mb dd td n (sc xs (5 * (j : Int) + 1)) 0)).toInt64), R, by omega, hst, hmr, hC, hM, hO⟩ hS hl
  · have b1 := b1
    refine lv_aload_n C.hx C.hb dL_law_1110 rfl (lv_at hl 2 rfl) ?_
    refine lv_aload_n C.hx C.hb dL_law_1111 rfl (lv_at hl 1 rfl) ?_
    refine lv_iload C.hx C.hb dL_law_1112 (lv_at hl 0 rfl) ?_
    refine zr_iconst C.hx C.hb dL_law_1114 ?_
    refine zr_iadd (v := 5 * (j : Int) + 1) C.hx C.hb rfl dL_law_1115 ?_
    refine zr_sld (s := s.setDrawn d0) C.hx C.hb C.hX C.hbl C.hbA hS (i := 5 * (j : Int) + 1) (by omega) (by omega) C.hLN dL_law_1116 ?_
    refine lv_aload_n C.hx C.hb dL_law_1117 rfl (lv_at hl 4 rfl) ?_
    refine zcallLW (As := [.ref (q 0), .int (zI (sc xs (5 * (j : Int) + 1))), .ref o]) (rest := []) ⟨C.hx, C.hb, C.hml, C.hown, dr_words C.hts _⟩ C.hK (kL_colourOfx1 l D C.hl0 cI cZ cJ q o C.hN C.hN2 pa sp al dg co da mb dd ah wl lo n td wn f R.1.1 (sc xs (5 * (j : Int) + 1)) (by omega) (by omega)) (vx_cwSW 3 (dr_words C.hts _) gL_law_L_colourOf rfl rfl rfl (by decide +kernel) ⟨Nat.le_of_ble_eq_true rfl, Nat.le_of_ble_eq_true rfl⟩) hC hO (C.tk hS) C.hE hS C.hA3 rfl hl.1 rfl (Nat.le_of_ble_eq_true rfl) dL_law_1118 ⟨C.ok1 hcs.1 (by omega), C.ok2 hcs.2 (by omega)⟩ (fun H locs hC hO hS _ hkk => ?_)
    have hM := zkeep hM hkk C.dM
    refine lv_istore (lv' := [(5, .int (zI 1)), (4, .int (zI (5 * (j : Int)))), (0, .ref b), (1, .ref (q 0)), (2, .ref (r 0)), (3, .ref o)]) C.hx C.hb dL_law_1121 hl (by decide) rfl (fun ls hl => ?_)
    refine lv_aload_n C.hx C.hb dL_law_1123 rfl (lv_at hl 4 rfl) ?_
    refine lv_aload_n C.hx C.hb dL_law_1124 rfl (lv_at hl 2 rfl) ?_
    refine lv_iload C.hx C.hb dL_law_1125 (lv_at hl 1 rfl) ?_
    refine zr_iconst C.hx C.hb dL_law_1127 ?_
    refine zr_iadd (v := 5 * (j : Int) + 1) C.hx C.hb rfl dL_law_1128 ?_
    refine zr_sld (s := s.setDrawn d0) C.hx C.hb C.hX C.hbl C.hbA hS (i := 5 * (j : Int) + 1) (by omega) (by omega) C.hLN dL_law_1129 ?_
    refine zcallV (ci := 3) (q0 := 0) (cq := (RX3, TX3, 12)) (As := [.int (zI (sc xs (5 * (j : Int) + 1)))]) (rest := []) ⟨C.hx, C.hb, C.hml, C.hown, dr_words C.hts _⟩ C.hK2 (kX3_colourOfe1 l D cI cZ r C.hNr pa sp al co' da' mo st mr th n td wn R.1.1 (sc xs (5 * (j : Int) + 1)) (by omega) (by omega)) (cwV 1 (dr_words C.hts _) gL_law_X3_colourOf rfl rfl rfl (by decide +kernel) ⟨Nat.le_of_ble_eq_true rfl, Nat.le_of_ble_eq_true rfl⟩) hM hS C.hA2 rfl rfl rfl hl.1 rfl (Nat.le_of_ble_eq_true rfl) dL_law_1130 ⟨C.ok1 hcs.1 (by omega), C.ok2 hcs.2 (by omega)⟩ (fun H locs hM hS _ hkk => ?_)
    have hC := zkeep hC hkk C.dC
    have hO := zkeep hO hkk C.dO
    refine W.eq (g2 := F0 m 1133 ls [.int (zI 0)]) rfl ?_
    refine lv_istore (lv' := [(6, .int (zI 0)), (5, .int (zI 1)), (4, .int (zI (5 * (j : Int)))), (0, .ref b), (1, .ref (q 0)), (2, .ref (r 0)), (3, .ref o)]) C.hx C.hb dL_law_1133 hl (by decide) rfl (fun ls hl => ?_)
    refine lv_aload_n C.hx C.hb dL_law_1135 rfl (lv_at hl 5 rfl) ?_
    refine zcallV (ci := 3) (q0 := 0) (cq := (RX3, TX3, 12)) (As := []) (rest := []) ⟨C.hx, C.hb, C.hml, C.hown, dr_words C.hts _⟩ C.hK2 (kX3_thrown l D cI cZ r C.hNr pa sp al co' da' mo st mr 1 n td wn) (cwV 0 (dr_words C.hts _) gL_law_X3_thrown rfl rfl rfl (by decide +kernel) ⟨Nat.le_of_ble_eq_true rfl, Nat.le_of_ble_eq_true rfl⟩) hM hS C.hA2 rfl rfl rfl hl.1 rfl (Nat.le_of_ble_eq_true rfl) dL_law_1136 ⟨C.ok1 hcs.1 (by omega), C.ok2 hcs.2 (by omega)⟩ (fun H locs hM hS _ hkk => ?_)
    have hC := zkeep hC hkk C.dC
    have hO := zkeep hO hkk C.dO
    refine W.eq (g2 := F0 m 1139 ls [.int (zI 1)]) rfl ?_
    refine lv_iload C.hx C.hb dL_law_1139 (lv_at hl 1 rfl) ?_
    refine zr_icmp_eqT (tgt := 1146) C.hx C.hb (rfl) dL_law_1141 (by decide) ?_
    refine lv_iload C.hx C.hb dL_law_1146 (lv_at hl 1 rfl) ?_
    refine zr_if_ne (tgt := 1163) C.hx C.hb dL_law_1148 (by decide) ⟨by decide, by decide⟩ (fun _ => ?_) (fun h9 => by exfalso; revert h9; decide)
    refine lv_goto (tgt := 1825) C.hx C.hb dL_law_1163 (by decide) ?_
    refine W.widen (k := cells + 2) (n := slots + 12) (by omega) (by omega) ?_
    have hl := lv_sub hl (l' := [(4, .int (zI (5 * (j : Int)))), (0, .ref b), (1, .ref (q 0)), (2, .ref (r 0)), (3, .ref o)]) [2, 3, 4, 5, 6] rfl
    exact K _ hd0 H locs ls ⟨pa, sp, al, dg, co, da, mb, dd, ah, wl, lo, n, td, wn, co', da', mo, st, mr, 1, f, R, by omega, hst, hmr, hC, hM, hO⟩ hS hl
set_option maxHeartbeats 4000000 in
set_option maxRecDepth 100000 in
theorem law_c18 {p : Program} {l : Launch} {e : Env} {s : State} {m : MethodId} {below : List Frame} {meth : Method} {c : Code} {b L : Nat} {xs : Nat → Int32} {Q : State → Prop} {D : va_G} {cI cZ cJ : ClassId} {q r : Nat → Nat} {o : Nat} (C : zCx p l s m meth c b L xs D cI cZ cJ q r o) {d0 : Drawn} (hd0 : s.drawn.sameBut d0 lw_cs) {H : Heap} {locs : List Loc} {cells slots : Nat} (hcs : cells + 2 ≤ 601024 ∧ slots + 12 ≤ 7293034) {j : Nat} (hj : 5 * (j : Int) + 5 ≤ (L : Int)) (hj2 : j ≤ 512) {ls : Array Slot} (hZ : zLS D cI cZ cJ q r o j H) (hS : va_S (fun a => s.heap.size ≤ a) s.heap H locs) (hl : lv_has ls 9 [(4, .int (zI (5 * (j : Int)))), (0, .ref b), (1, .ref (q 0)), (2, .ref (r 0)), (3, .ref o)])
    (K : ∀ (d1 : Drawn), s.drawn.sameBut d1 lw_cs → ∀ (H1 : Heap) (locs1 : List Loc) (ls1 : Array Slot), zLS D cI cZ cJ q r o (j + 1) H1 → va_S (fun a => s.heap.size ≤ a) s.heap H1 locs1 → lv_has ls1 9 [(4, .int (zI (5 * (j : Int)))), (0, .ref b), (1, .ref (q 0)), (2, .ref (r 0)), (3, .ref o)] → W p l e room_1 (s.setDrawn d1) m #[Value.ref b] below meth c H1 locs1 (cells + 2) (slots + 12) Q (F0 m 1825 ls1 [])) :
    W p l e room_1 (s.setDrawn d0) m #[Value.ref b] below meth c H locs cells slots Q (F0 m 1166 ls []) := by
  obtain ⟨pa, sp, al, dg, co, da, mb, dd, ah, wl, lo, n, td, wn, co', da', mo, st, mr, th, f, R, htd, hst, hmr, hC, hM, hO⟩ := hZ
  have hn := R.1.1
  have htd0 := R.1.2
  have hLN := C.hLN
  have hs1 := sc_rg xs (5 * (j : Int) + 1)
  have hs2 := sc_rg xs (5 * (j : Int) + 2)
  have hs3 := sc_rg xs (5 * (j : Int) + 3)
  have hs4 := sc_rg xs (5 * (j : Int) + 4)
  by_cases b1 : 0 ≤ sc xs (5 * (j : Int) + 1) ∧ sc xs (5 * (j : Int) + 1) < (n : Int)
  · have b1 := b1
    by_cases b2 : 0 ≤ sc xs (5 * (j : Int) + 2) ∧ sc xs (5 * (j : Int) + 2) ≤ 200
    · have b2 := b2
      refine lv_aload_n C.hx C.hb dL_law_1166 rfl (lv_at hl 2 rfl) ?_
      refine lv_aload_n C.hx C.hb dL_law_1167 rfl (lv_at hl 1 rfl) ?_
      refine lv_iload C.hx C.hb dL_law_1168 (lv_at hl 0 rfl) ?_
      refine zr_iconst C.hx C.hb dL_law_1170 ?_
      refine zr_iadd (v := 5 * (j : Int) + 1) C.hx C.hb rfl dL_law_1171 ?_
      refine zr_sld (s := s.setDrawn d0) C.hx C.hb C.hX C.hbl C.hbA hS (i := 5 * (j : Int) + 1) (by omega) (by omega) C.hLN dL_law_1172 ?_
      refine lv_aload_n C.hx C.hb dL_law_1173 rfl (lv_at hl 1 rfl) ?_
      refine lv_iload C.hx C.hb dL_law_1174 (lv_at hl 0 rfl) ?_
      refine zr_iconst C.hx C.hb dL_law_1176 ?_
      refine zr_iadd (v := 5 * (j : Int) + 2) C.hx C.hb rfl dL_law_1177 ?_
      refine zr_sld (s := s.setDrawn d0) C.hx C.hb C.hX C.hbl C.hbA hS (i := 5 * (j : Int) + 2) (by omega) (by omega) C.hLN dL_law_1178 ?_
      refine lv_aload_n C.hx C.hb dL_law_1179 rfl (lv_at hl 4 rfl) ?_
      refine zcallLW (As := [.ref (q 0), .int (zI (sc xs (5 * (j : Int) + 1))), .int (zI (sc xs (5 * (j : Int) + 2))), .ref o]) (rest := []) ⟨C.hx, C.hb, C.hml, C.hown, dr_words C.hts _⟩ C.hK (kL_colourInok l D C.hl0 cI cZ cJ q o C.hN C.hN2 pa sp al dg co da mb dd ah wl lo n td wn f R.1.1 R.2.1.2.2.2.1 R.2.1.2.2.2.2.1 R.2.1.2.2.2.2.2.1 (re_dd1 R) (re_td1 R) (sc xs (5 * (j : Int) + 1)) (sc xs (5 * (j : Int) + 2)) (by omega) (by omega)) (vx_cwSW 4 (dr_words C.hts _) gL_law_L_colourIn rfl rfl rfl (by decide +kernel) ⟨Nat.le_of_ble_eq_true rfl, Nat.le_of_ble_eq_true rfl⟩) hC hO (C.tk hS) C.hE hS C.hA3 rfl hl.1 rfl (Nat.le_of_ble_eq_true rfl) dL_law_1180 ⟨C.ok1 hcs.1 (by omega), C.ok2 hcs.2 (by omega)⟩ (fun H locs hC hO hS _ hkk => ?_)
      have hM := zkeep hM hkk C.dM
      refine lv_istore (lv' := [(5, .int (zI 0)), (4, .int (zI (5 * (j : Int)))), (0, .ref b), (1, .ref (q 0)), (2, .ref (r 0)), (3, .ref o)]) C.hx C.hb dL_law_1183 hl (by decide) rfl (fun ls hl => ?_)
      refine lv_aload_n C.hx C.hb dL_law_1185 rfl (lv_at hl 4 rfl) ?_
      refine lv_aload_n C.hx C.hb dL_law_1186 rfl (lv_at hl 2 rfl) ?_
      refine lv_iload C.hx C.hb dL_law_1187 (lv_at hl 1 rfl) ?_
      refine zr_iconst C.hx C.hb dL_law_1189 ?_
      refine zr_iadd (v := 5 * (j : Int) + 1) C.hx C.hb rfl dL_law_1190 ?_
      refine zr_sld (s := s.setDrawn d0) C.hx C.hb C.hX C.hbl C.hbA hS (i := 5 * (j : Int) + 1) (by omega) (by omega) C.hLN dL_law_1191 ?_
      refine lv_aload_n C.hx C.hb dL_law_1192 rfl (lv_at hl 2 rfl) ?_
      refine lv_iload C.hx C.hb dL_law_1193 (lv_at hl 1 rfl) ?_
      refine zr_iconst C.hx C.hb dL_law_1195 ?_
      refine zr_iadd (v := 5 * (j : Int) + 2) C.hx C.hb rfl dL_law_1196 ?_
      refine zr_sld (s := s.setDrawn d0) C.hx C.hb C.hX C.hbl C.hbA hS (i := 5 * (j : Int) + 2) (by omega) (by omega) C.hLN dL_law_1197 ?_
      refine zcallV (ci := 3) (q0 := 0) (cq := (RX3, TX3, 12)) (As := [.int (zI (sc xs (5 * (j : Int) + 1))), .int (zI (sc xs (5 * (j : Int) + 2)))]) (rest := []) ⟨C.hx, C.hb, C.hml, C.hown, dr_words C.hts _⟩ C.hK2 (kX3_colourInok l D cI cZ r C.hNr pa sp al co' da' mo st mr th n td wn R.1.1 R.2.2.1.2.2 (re_td1 R) (sc xs (5 * (j : Int) + 1)) (sc xs (5 * (j : Int) + 2)) (by omega) (by omega) (by omega) (by omega)) (cwV 2 (dr_words C.hts _) gL_law_X3_colourIn rfl rfl rfl (by decide +kernel) ⟨Nat.le_of_ble_eq_true rfl, Nat.le_of_ble_eq_true rfl⟩) hM hS C.hA2 rfl rfl rfl hl.1 rfl (Nat.le_of_ble_eq_true rfl) dL_law_1198 ⟨C.ok1 hcs.1 (by omega), C.ok2 hcs.2 (by omega)⟩ (fun H locs hM hS _ hkk => ?_)
      have hC := zkeep hC hkk C.dC
      have hO := zkeep hO hkk C.dO
      refine W.eq (g2 := F0 m 1201 ls [.int (zI (wsM mo n (sc xs (5 * (j : Int) + 1)) (td + (sc xs (5 * (j : Int) + 2)))))]) rfl ?_
      refine lv_istore (lv' := [(6, .int (zI (wsM mo n (sc xs (5 * (j : Int) + 1)) (td + (sc xs (5 * (j : Int) + 2)))))), (5, .int (zI 0)), (4, .int (zI (5 * (j : Int)))), (0, .ref b), (1, .ref (q 0)), (2, .ref (r 0)), (3, .ref o)]) C.hx C.hb dL_law_1201 hl (by decide) rfl (fun ls hl => ?_)
      refine lv_aload_n C.hx C.hb dL_law_1203 rfl (lv_at hl 5 rfl) ?_
      refine zcallV (ci := 3) (q0 := 0) (cq := (RX3, TX3, 12)) (As := []) (rest := []) ⟨C.hx, C.hb, C.hml, C.hown, dr_words C.hts _⟩ C.hK2 (kX3_thrown l D cI cZ r C.hNr pa sp al co' da' mo st mr 0 n td wn) (cwV 0 (dr_words C.hts _) gL_law_X3_thrown rfl rfl rfl (by decide +kernel) ⟨Nat.le_of_ble_eq_true rfl, Nat.le_of_ble_eq_true rfl⟩) hM hS C.hA2 rfl rfl rfl hl.1 rfl (Nat.le_of_ble_eq_true rfl) dL_law_1204 ⟨C.ok1 hcs.1 (by omega), C.ok2 hcs.2 (by omega)⟩ (fun H locs hM hS _ hkk => ?_)
      have hC := zkeep hC hkk C.dC
      have hO := zkeep hO hkk C.dO
      refine W.eq (g2 := F0 m 1207 ls [.int (zI 0)]) rfl ?_
      refine lv_iload C.hx C.hb dL_law_1207 (lv_at hl 1 rfl) ?_
      refine zr_icmp_eqT (tgt := 1214) C.hx C.hb (rfl) dL_law_1209 (by decide) ?_
      refine lv_iload C.hx C.hb dL_law_1214 (lv_at hl 1 rfl) ?_
      refine zr_if_ne (tgt := 1231) C.hx C.hb dL_law_1216 (by decide) ⟨by decide, by decide⟩ (fun h9 => by exfalso; revert h9; decide) (fun _ => ?_)
      refine lv_aload_n C.hx C.hb dL_law_1219 rfl (lv_at hl 6 rfl) ?_
      refine zr_iconst C.hx C.hb dL_law_1220 ?_
      refine zr_lald0 C.hx C.hb C.hK hO 0 2 rfl rfl dL_law_1221 ?_
      refine W.eq (g2 := F0 m 1222 ls [.long ((zI (ca co da mb dd td n (sc xs (5 * (j : Int) + 1)) (sc xs (5 * (j : Int) + 2)))).toInt64)]) rfl ?_
      refine lv_iload C.hx C.hb dL_law_1222 (lv_at hl 0 rfl) ?_
      refine lv_i2l C.hx C.hb dL_law_1224 rfl ?_
      refine zr_lcmp_eqT (tgt := 1231) C.hx C.hb (congrArg (fun z => (zI z).toInt64) (re_ca R (by omega) (by omega) (by omega))) dL_law_1225 dL_law_1226 (by decide) ?_
      refine lv_goto (tgt := 1825) C.hx C.hb dL_law_1231 (by decide) ?_
      refine W.widen (k := cells + 2) (n := slots + 12) (by omega) (by omega) ?_
      have hl := lv_sub hl (l' := [(4, .int (zI (5 * (j : Int)))), (0, .ref b), (1, .ref (q 0)), (2, .ref (r 0)), (3, .ref o)]) [2, 3, 4, 5, 6] rfl
      exact K _ hd0 H locs ls ⟨pa, sp, al, dg, co, da, mb, dd, ah, wl, lo, n, td, wn, co', da', mo, st, mr, 0, (vp_updL f 0 (zI (ca co da mb dd td n (sc xs (5 * (j : Int) + 1)) (sc xs (5 * (j : Int) + 2)))).toInt64), R, by omega, hst, hmr, hC, hM, hO⟩ hS hl
    · have b2 := b2
      refine lv_aload_n C.hx C.hb dL_law_1166 rfl (lv_at hl 2 rfl) ?_
      refine lv_aload_n C.hx C.hb dL_law_1167 rfl (lv_at hl 1 rfl) ?_
      refine lv_iload C.hx C.hb dL_law_1168 (lv_at hl 0 rfl) ?_
      refine zr_iconst C.hx C.hb dL_law_1170 ?_
      refine zr_iadd (v := 5 * (j : Int) + 1) C.hx C.hb rfl dL_law_1171 ?_
      refine zr_sld (s := s.setDrawn d0) C.hx C.hb C.hX C.hbl C.hbA hS (i := 5 * (j : Int) + 1) (by omega) (by omega) C.hLN dL_law_1172 ?_
      refine lv_aload_n C.hx C.hb dL_law_1173 rfl (lv_at hl 1 rfl) ?_
      refine lv_iload C.hx C.hb dL_law_1174 (lv_at hl 0 rfl) ?_
      refine zr_iconst C.hx C.hb dL_law_1176 ?_
      refine zr_iadd (v := 5 * (j : Int) + 2) C.hx C.hb rfl dL_law_1177 ?_
      refine zr_sld (s := s.setDrawn d0) C.hx C.hb C.hX C.hbl C.hbA hS (i := 5 * (j : Int) + 2) (by omega) (by omega) C.hLN dL_law_1178 ?_
      refine lv_aload_n C.hx C.hb dL_law_1179 rfl (lv_at hl 4 rfl) ?_
      refine zcallLW (As := [.ref (q 0), .int (zI (sc xs (5 * (j : Int) + 1))), .int (zI (sc xs (5 * (j : Int) + 2))), .ref o]) (rest := []) ⟨C.hx, C.hb, C.hml, C.hown, dr_words C.hts _⟩ C.hK (kL_colourInx2 l D C.hl0 cI cZ cJ q o C.hN C.hN2 pa sp al dg co da mb dd ah wl lo n td wn f R.1.1 (sc xs (5 * (j : Int) + 1)) (sc xs (5 * (j : Int) + 2)) (by omega) (by omega) (by omega)) (vx_cwSW 4 (dr_words C.hts _) gL_law_L_colourIn rfl rfl rfl (by decide +kernel) ⟨Nat.le_of_ble_eq_true rfl, Nat.le_of_ble_eq_true rfl⟩) hC hO (C.tk hS) C.hE hS C.hA3 rfl hl.1 rfl (Nat.le_of_ble_eq_true rfl) dL_law_1180 ⟨C.ok1 hcs.1 (by omega), C.ok2 hcs.2 (by omega)⟩ (fun H locs hC hO hS _ hkk => ?_)
      have hM := zkeep hM hkk C.dM
      refine lv_istore (lv' := [(5, .int (zI 2)), (4, .int (zI (5 * (j : Int)))), (0, .ref b), (1, .ref (q 0)), (2, .ref (r 0)), (3, .ref o)]) C.hx C.hb dL_law_1183 hl (by decide) rfl (fun ls hl => ?_)
      refine lv_aload_n C.hx C.hb dL_law_1185 rfl (lv_at hl 4 rfl) ?_
      refine lv_aload_n C.hx C.hb dL_law_1186 rfl (lv_at hl 2 rfl) ?_
      refine lv_iload C.hx C.hb dL_law_1187 (lv_at hl 1 rfl) ?_
      refine zr_iconst C.hx C.hb dL_law_1189 ?_
      refine zr_iadd (v := 5 * (j : Int) + 1) C.hx C.hb rfl dL_law_1190 ?_
      refine zr_sld (s := s.setDrawn d0) C.hx C.hb C.hX C.hbl C.hbA hS (i := 5 * (j : Int) + 1) (by omega) (by omega) C.hLN dL_law_1191 ?_
      refine lv_aload_n C.hx C.hb dL_law_1192 rfl (lv_at hl 2 rfl) ?_
      refine lv_iload C.hx C.hb dL_law_1193 (lv_at hl 1 rfl) ?_
      refine zr_iconst C.hx C.hb dL_law_1195 ?_
      refine zr_iadd (v := 5 * (j : Int) + 2) C.hx C.hb rfl dL_law_1196 ?_
      refine zr_sld (s := s.setDrawn d0) C.hx C.hb C.hX C.hbl C.hbA hS (i := 5 * (j : Int) + 2) (by omega) (by omega) C.hLN dL_law_1197 ?_
      refine zcallV (ci := 3) (q0 := 0) (cq := (RX3, TX3, 12)) (As := [.int (zI (sc xs (5 * (j : Int) + 1))), .int (zI (sc xs (5 * (j : Int) + 2)))]) (rest := []) ⟨C.hx, C.hb, C.hml, C.hown, dr_words C.hts _⟩ C.hK2 (kX3_colourIne2 l D cI cZ r C.hNr pa sp al co' da' mo st mr th n td wn R.1.1 (sc xs (5 * (j : Int) + 1)) (sc xs (5 * (j : Int) + 2)) (by omega) (by omega) (by omega) (by omega)) (cwV 2 (dr_words C.hts _) gL_law_X3_colourIn rfl rfl rfl (by decide +kernel) ⟨Nat.le_of_ble_eq_true rfl, Nat.le_of_ble_eq_true rfl⟩) hM hS C.hA2 rfl rfl rfl hl.1 rfl (Nat.le_of_ble_eq_true rfl) dL_law_1198 ⟨C.ok1 hcs.1 (by omega), C.ok2 hcs.2 (by omega)⟩ (fun H locs hM hS _ hkk => ?_)
      have hC := zkeep hC hkk C.dC
      have hO := zkeep hO hkk C.dO
      refine W.eq (g2 := F0 m 1201 ls [.int (zI 0)]) rfl ?_
      refine lv_istore (lv' := [(6, .int (zI 0)), (5, .int (zI 2)), (4, .int (zI (5 * (j : Int)))), (0, .ref b), (1, .ref (q 0)), (2, .ref (r 0)), (3, .ref o)]) C.hx C.hb dL_law_1201 hl (by decide) rfl (fun ls hl => ?_)
      refine lv_aload_n C.hx C.hb dL_law_1203 rfl (lv_at hl 5 rfl) ?_
      refine zcallV (ci := 3) (q0 := 0) (cq := (RX3, TX3, 12)) (As := []) (rest := []) ⟨C.hx, C.hb, C.hml, C.hown, dr_words C.hts _⟩ C.hK2 (kX3_thrown l D cI cZ r C.hNr pa sp al co' da' mo st mr 2 n td wn) (cwV 0 (dr_words C.hts _) gL_law_X3_thrown rfl rfl rfl (by decide +kernel) ⟨Nat.le_of_ble_eq_true rfl, Nat.le_of_ble_eq_true rfl⟩) hM hS C.hA2 rfl rfl rfl hl.1 rfl (Nat.le_of_ble_eq_true rfl) dL_law_1204 ⟨C.ok1 hcs.1 (by omega), C.ok2 hcs.2 (by omega)⟩ (fun H locs hM hS _ hkk => ?_)
      have hC := zkeep hC hkk C.dC
      have hO := zkeep hO hkk C.dO
      refine W.eq (g2 := F0 m 1207 ls [.int (zI 2)]) rfl ?_
      refine lv_iload C.hx C.hb dL_law_1207 (lv_at hl 1 rfl) ?_
      refine zr_icmp_eqT (tgt := 1214) C.hx C.hb (rfl) dL_law_1209 (by decide) ?_
      refine lv_iload C.hx C.hb dL_law_1214 (lv_at hl 1 rfl) ?_
      refine zr_if_ne (tgt := 1231) C.hx C.hb dL_law_1216 (by decide) ⟨by decide, by decide⟩ (fun _ => ?_) (fun h9 => by exfalso; revert h9; decide)
      refine lv_goto (tgt := 1825) C.hx C.hb dL_law_1231 (by decide) ?_
      refine W.widen (k := cells + 2) (n := slots + 12) (by omega) (by omega) ?_
      have hl := lv_sub hl (l' := [(4, .int (zI (5 * (j : Int)))), (0, .ref b), (1, .ref (q 0)), (2, .ref (r 0)), (3, .ref o)]) [2, 3, 4, 5, 6] rfl
      exact K _ hd0 H locs ls ⟨pa, sp, al, dg, co, da, mb, dd, ah, wl, lo, n, td, wn, co', da', mo, st, mr, 2, f, R, by omega, hst, hmr, hC, hM, hO⟩ hS hl
  · have b1 := b1
    refine lv_aload_n C.hx C.hb dL_law_1166 rfl (lv_at hl 2 rfl) ?_
    refine lv_aload_n C.hx C.hb dL_law_1167 rfl (lv_at hl 1 rfl) ?_
    refine lv_iload C.hx C.hb dL_law_1168 (lv_at hl 0 rfl) ?_
    refine zr_iconst C.hx C.hb dL_law_1170 ?_
    refine zr_iadd (v := 5 * (j : Int) + 1) C.hx C.hb rfl dL_law_1171 ?_
    refine zr_sld (s := s.setDrawn d0) C.hx C.hb C.hX C.hbl C.hbA hS (i := 5 * (j : Int) + 1) (by omega) (by omega) C.hLN dL_law_1172 ?_
    refine lv_aload_n C.hx C.hb dL_law_1173 rfl (lv_at hl 1 rfl) ?_
    refine lv_iload C.hx C.hb dL_law_1174 (lv_at hl 0 rfl) ?_
    refine zr_iconst C.hx C.hb dL_law_1176 ?_
    refine zr_iadd (v := 5 * (j : Int) + 2) C.hx C.hb rfl dL_law_1177 ?_
    refine zr_sld (s := s.setDrawn d0) C.hx C.hb C.hX C.hbl C.hbA hS (i := 5 * (j : Int) + 2) (by omega) (by omega) C.hLN dL_law_1178 ?_
    refine lv_aload_n C.hx C.hb dL_law_1179 rfl (lv_at hl 4 rfl) ?_
    refine zcallLW (As := [.ref (q 0), .int (zI (sc xs (5 * (j : Int) + 1))), .int (zI (sc xs (5 * (j : Int) + 2))), .ref o]) (rest := []) ⟨C.hx, C.hb, C.hml, C.hown, dr_words C.hts _⟩ C.hK (kL_colourInx1 l D C.hl0 cI cZ cJ q o C.hN C.hN2 pa sp al dg co da mb dd ah wl lo n td wn f R.1.1 (sc xs (5 * (j : Int) + 1)) (sc xs (5 * (j : Int) + 2)) (by omega) (by omega)) (vx_cwSW 4 (dr_words C.hts _) gL_law_L_colourIn rfl rfl rfl (by decide +kernel) ⟨Nat.le_of_ble_eq_true rfl, Nat.le_of_ble_eq_true rfl⟩) hC hO (C.tk hS) C.hE hS C.hA3 rfl hl.1 rfl (Nat.le_of_ble_eq_true rfl) dL_law_1180 ⟨C.ok1 hcs.1 (by omega), C.ok2 hcs.2 (by omega)⟩ (fun H locs hC hO hS _ hkk => ?_)
    have hM := zkeep hM hkk C.dM
    refine lv_istore (lv' := [(5, .int (zI 1)), (4, .int (zI (5 * (j : Int)))), (0, .ref b), (1, .ref (q 0)), (2, .ref (r 0)), (3, .ref o)]) C.hx C.hb dL_law_1183 hl (by decide) rfl (fun ls hl => ?_)
    refine lv_aload_n C.hx C.hb dL_law_1185 rfl (lv_at hl 4 rfl) ?_
    refine lv_aload_n C.hx C.hb dL_law_1186 rfl (lv_at hl 2 rfl) ?_
    refine lv_iload C.hx C.hb dL_law_1187 (lv_at hl 1 rfl) ?_
    refine zr_iconst C.hx C.hb dL_law_1189 ?_
    refine zr_iadd (v := 5 * (j : Int) + 1) C.hx C.hb rfl dL_law_1190 ?_
    refine zr_sld (s := s.setDrawn d0) C.hx C.hb C.hX C.hbl C.hbA hS (i := 5 * (j : Int) + 1) (by omega) (by omega) C.hLN dL_law_1191 ?_
    refine lv_aload_n C.hx C.hb dL_law_1192 rfl (lv_at hl 2 rfl) ?_
    refine lv_iload C.hx C.hb dL_law_1193 (lv_at hl 1 rfl) ?_
    refine zr_iconst C.hx C.hb dL_law_1195 ?_
    refine zr_iadd (v := 5 * (j : Int) + 2) C.hx C.hb rfl dL_law_1196 ?_
    refine zr_sld (s := s.setDrawn d0) C.hx C.hb C.hX C.hbl C.hbA hS (i := 5 * (j : Int) + 2) (by omega) (by omega) C.hLN dL_law_1197 ?_
    refine zcallV (ci := 3) (q0 := 0) (cq := (RX3, TX3, 12)) (As := [.int (zI (sc xs (5 * (j : Int) + 1))), .int (zI (sc xs (5 * (j : Int) + 2)))]) (rest := []) ⟨C.hx, C.hb, C.hml, C.hown, dr_words C.hts _⟩ C.hK2 (kX3_colourIne1 l D cI cZ r C.hNr pa sp al co' da' mo st mr th n td wn R.1.1 (sc xs (5 * (j : Int) + 1)) (sc xs (5 * (j : Int) + 2)) (by omega) (by omega)) (cwV 2 (dr_words C.hts _) gL_law_X3_colourIn rfl rfl rfl (by decide +kernel) ⟨Nat.le_of_ble_eq_true rfl, Nat.le_of_ble_eq_true rfl⟩) hM hS C.hA2 rfl rfl rfl hl.1 rfl (Nat.le_of_ble_eq_true rfl) dL_law_1198 ⟨C.ok1 hcs.1 (by omega), C.ok2 hcs.2 (by omega)⟩ (fun H locs hM hS _ hkk => ?_)
    have hC := zkeep hC hkk C.dC
    have hO := zkeep hO hkk C.dO
    refine W.eq (g2 := F0 m 1201 ls [.int (zI 0)]) rfl ?_
    refine lv_istore (lv' := [(6, .int (zI 0)), (5, .int (zI 1)), (4, .int (zI (5 * (j : Int)))), (0, .ref b), (1, .ref (q 0)), (2, .ref (r 0)), (3, .ref o)]) C.hx C.hb dL_law_1201 hl (by decide) rfl (fun ls hl => ?_)
    refine lv_aload_n C.hx C.hb dL_law_1203 rfl (lv_at hl 5 rfl) ?_
    refine zcallV (ci := 3) (q0 := 0) (cq := (RX3, TX3, 12)) (As := []) (rest := []) ⟨C.hx, C.hb, C.hml, C.hown, dr_words C.hts _⟩ C.hK2 (kX3_thrown l D cI cZ r C.hNr pa sp al co' da' mo st mr 1 n td wn) (cwV 0 (dr_words C.hts _) gL_law_X3_thrown rfl rfl rfl (by decide +kernel) ⟨Nat.le_of_ble_eq_true rfl, Nat.le_of_ble_eq_true rfl⟩) hM hS C.hA2 rfl rfl rfl hl.1 rfl (Nat.le_of_ble_eq_true rfl) dL_law_1204 ⟨C.ok1 hcs.1 (by omega), C.ok2 hcs.2 (by omega)⟩ (fun H locs hM hS _ hkk => ?_)
    have hC := zkeep hC hkk C.dC
    have hO := zkeep hO hkk C.dO
    refine W.eq (g2 := F0 m 1207 ls [.int (zI 1)]) rfl ?_
    refine lv_iload C.hx C.hb dL_law_1207 (lv_at hl 1 rfl) ?_
    refine zr_icmp_eqT (tgt := 1214) C.hx C.hb (rfl) dL_law_1209 (by decide) ?_
    refine lv_iload C.hx C.hb dL_law_1214 (lv_at hl 1 rfl) ?_
    refine zr_if_ne (tgt := 1231) C.hx C.hb dL_law_1216 (by decide) ⟨by decide, by decide⟩ (fun _ => ?_) (fun h9 => by exfalso; revert h9; decide)
    refine lv_goto (tgt := 1825) C.hx C.hb dL_law_1231 (by decide) ?_
    refine W.widen (k := cells + 2) (n := slots + 12) (by omega) (by omega) ?_
    have hl := lv_sub hl (l' := [(4, .int (zI (5 * (j : Int)))), (0, .ref b), (1, .ref (q 0)), (2, .ref (r 0)), (3, .ref o)]) [2, 3, 4, 5, 6] rfl
    exact K _ hd0 H locs ls ⟨pa, sp, al, dg, co, da, mb, dd, ah, wl, lo, n, td, wn, co', da', mo, st, mr, 1, f, R, by omega, hst, hmr, hC, hM, hO⟩ hS hl
set_option maxHeartbeats 4000000 in
set_option maxRecDepth 100000 in
theorem law_c19 {p : Program} {l : Launch} {e : Env} {s : State} {m : MethodId} {below : List Frame} {meth : Method} {c : Code} {b L : Nat} {xs : Nat → Int32} {Q : State → Prop} {D : va_G} {cI cZ cJ : ClassId} {q r : Nat → Nat} {o : Nat} (C : zCx p l s m meth c b L xs D cI cZ cJ q r o) {d0 : Drawn} (hd0 : s.drawn.sameBut d0 lw_cs) {H : Heap} {locs : List Loc} {cells slots : Nat} (hcs : cells + 2 ≤ 601024 ∧ slots + 12 ≤ 7293034) {j : Nat} (hj : 5 * (j : Int) + 5 ≤ (L : Int)) (hj2 : j ≤ 512) {ls : Array Slot} (hZ : zLS D cI cZ cJ q r o j H) (hS : va_S (fun a => s.heap.size ≤ a) s.heap H locs) (hl : lv_has ls 9 [(4, .int (zI (5 * (j : Int)))), (0, .ref b), (1, .ref (q 0)), (2, .ref (r 0)), (3, .ref o)])
    (K : ∀ (d1 : Drawn), s.drawn.sameBut d1 lw_cs → ∀ (H1 : Heap) (locs1 : List Loc) (ls1 : Array Slot), zLS D cI cZ cJ q r o (j + 1) H1 → va_S (fun a => s.heap.size ≤ a) s.heap H1 locs1 → lv_has ls1 9 [(4, .int (zI (5 * (j : Int)))), (0, .ref b), (1, .ref (q 0)), (2, .ref (r 0)), (3, .ref o)] → W p l e room_1 (s.setDrawn d1) m #[Value.ref b] below meth c H1 locs1 (cells + 2) (slots + 12) Q (F0 m 1825 ls1 [])) :
    W p l e room_1 (s.setDrawn d0) m #[Value.ref b] below meth c H locs cells slots Q (F0 m 1234 ls []) := by
  obtain ⟨pa, sp, al, dg, co, da, mb, dd, ah, wl, lo, n, td, wn, co', da', mo, st, mr, th, f, R, htd, hst, hmr, hC, hM, hO⟩ := hZ
  have hn := R.1.1
  have htd0 := R.1.2
  have hLN := C.hLN
  have hs1 := sc_rg xs (5 * (j : Int) + 1)
  have hs2 := sc_rg xs (5 * (j : Int) + 2)
  have hs3 := sc_rg xs (5 * (j : Int) + 3)
  have hs4 := sc_rg xs (5 * (j : Int) + 4)
  by_cases b1 : 0 ≤ sc xs (5 * (j : Int) + 1) ∧ sc xs (5 * (j : Int) + 1) < (n : Int)
  · have b1 := b1
    refine lv_aload_n C.hx C.hb dL_law_1234 rfl (lv_at hl 2 rfl) ?_
    refine lv_aload_n C.hx C.hb dL_law_1235 rfl (lv_at hl 1 rfl) ?_
    refine lv_iload C.hx C.hb dL_law_1236 (lv_at hl 0 rfl) ?_
    refine zr_iconst C.hx C.hb dL_law_1238 ?_
    refine zr_iadd (v := 5 * (j : Int) + 1) C.hx C.hb rfl dL_law_1239 ?_
    refine zr_sld (s := s.setDrawn d0) C.hx C.hb C.hX C.hbl C.hbA hS (i := 5 * (j : Int) + 1) (by omega) (by omega) C.hLN dL_law_1240 ?_
    refine lv_aload_n C.hx C.hb dL_law_1241 rfl (lv_at hl 4 rfl) ?_
    refine zcallLW (As := [.ref (q 0), .int (zI (sc xs (5 * (j : Int) + 1))), .ref o]) (rest := []) ⟨C.hx, C.hb, C.hml, C.hown, dr_words C.hts _⟩ C.hK (kL_mourningsOfok l D C.hl0 cI cZ cJ q o C.hN C.hN2 pa sp al dg co da mb dd ah wl lo n td wn f R.1.1 R.2.1.2.2.2.2.1 R.2.1.2.2.2.2.2.1 (re_dd1 R) (re_td1 R) (sc xs (5 * (j : Int) + 1)) (by omega)) (vx_cwSW 3 (dr_words C.hts _) gL_law_L_mourningsOf rfl rfl rfl (by decide +kernel) ⟨Nat.le_of_ble_eq_true rfl, Nat.le_of_ble_eq_true rfl⟩) hC hO (C.tk hS) C.hE hS C.hA3 rfl hl.1 rfl (Nat.le_of_ble_eq_true rfl) dL_law_1242 ⟨C.ok1 hcs.1 (by omega), C.ok2 hcs.2 (by omega)⟩ (fun H locs hC hO hS _ hkk => ?_)
    have hM := zkeep hM hkk C.dM
    refine lv_istore (lv' := [(5, .int (zI 0)), (4, .int (zI (5 * (j : Int)))), (0, .ref b), (1, .ref (q 0)), (2, .ref (r 0)), (3, .ref o)]) C.hx C.hb dL_law_1245 hl (by decide) rfl (fun ls hl => ?_)
    refine lv_aload_n C.hx C.hb dL_law_1247 rfl (lv_at hl 4 rfl) ?_
    refine lv_aload_n C.hx C.hb dL_law_1248 rfl (lv_at hl 2 rfl) ?_
    refine lv_iload C.hx C.hb dL_law_1249 (lv_at hl 1 rfl) ?_
    refine zr_iconst C.hx C.hb dL_law_1251 ?_
    refine zr_iadd (v := 5 * (j : Int) + 1) C.hx C.hb rfl dL_law_1252 ?_
    refine zr_sld (s := s.setDrawn d0) C.hx C.hb C.hX C.hbl C.hbA hS (i := 5 * (j : Int) + 1) (by omega) (by omega) C.hLN dL_law_1253 ?_
    refine zcallV (ci := 3) (q0 := 0) (cq := (RX3, TX3, 12)) (As := [.int (zI (sc xs (5 * (j : Int) + 1)))]) (rest := []) ⟨C.hx, C.hb, C.hml, C.hown, dr_words C.hts _⟩ C.hK2 (kX3_mourningsOfok l D cI cZ r C.hNr pa sp al co' da' mo st mr th n td wn R.1.1 R.2.2.1.2.2 (re_td1 R) (sc xs (5 * (j : Int) + 1)) (by omega) (by omega)) (cwV 1 (dr_words C.hts _) gL_law_X3_mourningsOf rfl rfl rfl (by decide +kernel) ⟨Nat.le_of_ble_eq_true rfl, Nat.le_of_ble_eq_true rfl⟩) hM hS C.hA2 rfl rfl rfl hl.1 rfl (Nat.le_of_ble_eq_true rfl) dL_law_1254 ⟨C.ok1 hcs.1 (by omega), C.ok2 hcs.2 (by omega)⟩ (fun H locs hM hS _ hkk => ?_)
    have hC := zkeep hC hkk C.dC
    have hO := zkeep hO hkk C.dO
    refine W.eq (g2 := F0 m 1257 ls [.int (zI (smF (gtF (lM mo td (sc xs (5 * (j : Int) + 1)))) n))]) rfl ?_
    refine lv_istore (lv' := [(6, .int (zI (smF (gtF (lM mo td (sc xs (5 * (j : Int) + 1)))) n))), (5, .int (zI 0)), (4, .int (zI (5 * (j : Int)))), (0, .ref b), (1, .ref (q 0)), (2, .ref (r 0)), (3, .ref o)]) C.hx C.hb dL_law_1257 hl (by decide) rfl (fun ls hl => ?_)
    refine lv_aload_n C.hx C.hb dL_law_1259 rfl (lv_at hl 5 rfl) ?_
    refine zcallV (ci := 3) (q0 := 0) (cq := (RX3, TX3, 12)) (As := []) (rest := []) ⟨C.hx, C.hb, C.hml, C.hown, dr_words C.hts _⟩ C.hK2 (kX3_thrown l D cI cZ r C.hNr pa sp al co' da' mo st mr 0 n td wn) (cwV 0 (dr_words C.hts _) gL_law_X3_thrown rfl rfl rfl (by decide +kernel) ⟨Nat.le_of_ble_eq_true rfl, Nat.le_of_ble_eq_true rfl⟩) hM hS C.hA2 rfl rfl rfl hl.1 rfl (Nat.le_of_ble_eq_true rfl) dL_law_1260 ⟨C.ok1 hcs.1 (by omega), C.ok2 hcs.2 (by omega)⟩ (fun H locs hM hS _ hkk => ?_)
    have hC := zkeep hC hkk C.dC
    have hO := zkeep hO hkk C.dO
    refine W.eq (g2 := F0 m 1263 ls [.int (zI 0)]) rfl ?_
    refine lv_iload C.hx C.hb dL_law_1263 (lv_at hl 1 rfl) ?_
    refine zr_icmp_eqT (tgt := 1270) C.hx C.hb (rfl) dL_law_1265 (by decide) ?_
    refine lv_iload C.hx C.hb dL_law_1270 (lv_at hl 1 rfl) ?_
    refine zr_if_ne (tgt := 1287) C.hx C.hb dL_law_1272 (by decide) ⟨by decide, by decide⟩ (fun h9 => by exfalso; revert h9; decide) (fun _ => ?_)
    refine lv_aload_n C.hx C.hb dL_law_1275 rfl (lv_at hl 6 rfl) ?_
    refine zr_iconst C.hx C.hb dL_law_1276 ?_
    refine zr_lald0 C.hx C.hb C.hK hO 0 2 rfl rfl dL_law_1277 ?_
    refine W.eq (g2 := F0 m 1278 ls [.long ((zI (smF (gtF (lf da mb dd td (sc xs (5 * (j : Int) + 1)))) n)).toInt64)]) rfl ?_
    refine lv_iload C.hx C.hb dL_law_1278 (lv_at hl 0 rfl) ?_
    refine lv_i2l C.hx C.hb dL_law_1280 rfl ?_
    refine zr_lcmp_eqT (tgt := 1287) C.hx C.hb (congrArg (fun z => (zI z).toInt64) (re_mourn R (by omega) (by omega))) dL_law_1281 dL_law_1282 (by decide) ?_
    refine lv_goto (tgt := 1825) C.hx C.hb dL_law_1287 (by decide) ?_
    refine W.widen (k := cells + 2) (n := slots + 12) (by omega) (by omega) ?_
    have hl := lv_sub hl (l' := [(4, .int (zI (5 * (j : Int)))), (0, .ref b), (1, .ref (q 0)), (2, .ref (r 0)), (3, .ref o)]) [2, 3, 4, 5, 6] rfl
    exact K _ hd0 H locs ls ⟨pa, sp, al, dg, co, da, mb, dd, ah, wl, lo, n, td, wn, co', da', mo, st, mr, 0, (vp_updL f 0 (zI (smF (gtF (lf da mb dd td (sc xs (5 * (j : Int) + 1)))) n)).toInt64), R, by omega, hst, hmr, hC, hM, hO⟩ hS hl
  · have b1 := b1
    refine lv_aload_n C.hx C.hb dL_law_1234 rfl (lv_at hl 2 rfl) ?_
    refine lv_aload_n C.hx C.hb dL_law_1235 rfl (lv_at hl 1 rfl) ?_
    refine lv_iload C.hx C.hb dL_law_1236 (lv_at hl 0 rfl) ?_
    refine zr_iconst C.hx C.hb dL_law_1238 ?_
    refine zr_iadd (v := 5 * (j : Int) + 1) C.hx C.hb rfl dL_law_1239 ?_
    refine zr_sld (s := s.setDrawn d0) C.hx C.hb C.hX C.hbl C.hbA hS (i := 5 * (j : Int) + 1) (by omega) (by omega) C.hLN dL_law_1240 ?_
    refine lv_aload_n C.hx C.hb dL_law_1241 rfl (lv_at hl 4 rfl) ?_
    refine zcallLW (As := [.ref (q 0), .int (zI (sc xs (5 * (j : Int) + 1))), .ref o]) (rest := []) ⟨C.hx, C.hb, C.hml, C.hown, dr_words C.hts _⟩ C.hK (kL_mourningsOfx1 l D C.hl0 cI cZ cJ q o C.hN C.hN2 pa sp al dg co da mb dd ah wl lo n td wn f R.1.1 (sc xs (5 * (j : Int) + 1)) (by omega) (by omega)) (vx_cwSW 3 (dr_words C.hts _) gL_law_L_mourningsOf rfl rfl rfl (by decide +kernel) ⟨Nat.le_of_ble_eq_true rfl, Nat.le_of_ble_eq_true rfl⟩) hC hO (C.tk hS) C.hE hS C.hA3 rfl hl.1 rfl (Nat.le_of_ble_eq_true rfl) dL_law_1242 ⟨C.ok1 hcs.1 (by omega), C.ok2 hcs.2 (by omega)⟩ (fun H locs hC hO hS _ hkk => ?_)
    have hM := zkeep hM hkk C.dM
    refine lv_istore (lv' := [(5, .int (zI 1)), (4, .int (zI (5 * (j : Int)))), (0, .ref b), (1, .ref (q 0)), (2, .ref (r 0)), (3, .ref o)]) C.hx C.hb dL_law_1245 hl (by decide) rfl (fun ls hl => ?_)
    refine lv_aload_n C.hx C.hb dL_law_1247 rfl (lv_at hl 4 rfl) ?_
    refine lv_aload_n C.hx C.hb dL_law_1248 rfl (lv_at hl 2 rfl) ?_
    refine lv_iload C.hx C.hb dL_law_1249 (lv_at hl 1 rfl) ?_
    refine zr_iconst C.hx C.hb dL_law_1251 ?_
    refine zr_iadd (v := 5 * (j : Int) + 1) C.hx C.hb rfl dL_law_1252 ?_
    refine zr_sld (s := s.setDrawn d0) C.hx C.hb C.hX C.hbl C.hbA hS (i := 5 * (j : Int) + 1) (by omega) (by omega) C.hLN dL_law_1253 ?_
    refine zcallV (ci := 3) (q0 := 0) (cq := (RX3, TX3, 12)) (As := [.int (zI (sc xs (5 * (j : Int) + 1)))]) (rest := []) ⟨C.hx, C.hb, C.hml, C.hown, dr_words C.hts _⟩ C.hK2 (kX3_mourningsOfe1 l D cI cZ r C.hNr pa sp al co' da' mo st mr th n td wn R.1.1 (sc xs (5 * (j : Int) + 1)) (by omega) (by omega)) (cwV 1 (dr_words C.hts _) gL_law_X3_mourningsOf rfl rfl rfl (by decide +kernel) ⟨Nat.le_of_ble_eq_true rfl, Nat.le_of_ble_eq_true rfl⟩) hM hS C.hA2 rfl rfl rfl hl.1 rfl (Nat.le_of_ble_eq_true rfl) dL_law_1254 ⟨C.ok1 hcs.1 (by omega), C.ok2 hcs.2 (by omega)⟩ (fun H locs hM hS _ hkk => ?_)
    have hC := zkeep hC hkk C.dC
    have hO := zkeep hO hkk C.dO
    refine W.eq (g2 := F0 m 1257 ls [.int (zI 0)]) rfl ?_
    refine lv_istore (lv' := [(6, .int (zI 0)), (5, .int (zI 1)), (4, .int (zI (5 * (j : Int)))), (0, .ref b), (1, .ref (q 0)), (2, .ref (r 0)), (3, .ref o)]) C.hx C.hb dL_law_1257 hl (by decide) rfl (fun ls hl => ?_)
    refine lv_aload_n C.hx C.hb dL_law_1259 rfl (lv_at hl 5 rfl) ?_
    refine zcallV (ci := 3) (q0 := 0) (cq := (RX3, TX3, 12)) (As := []) (rest := []) ⟨C.hx, C.hb, C.hml, C.hown, dr_words C.hts _⟩ C.hK2 (kX3_thrown l D cI cZ r C.hNr pa sp al co' da' mo st mr 1 n td wn) (cwV 0 (dr_words C.hts _) gL_law_X3_thrown rfl rfl rfl (by decide +kernel) ⟨Nat.le_of_ble_eq_true rfl, Nat.le_of_ble_eq_true rfl⟩) hM hS C.hA2 rfl rfl rfl hl.1 rfl (Nat.le_of_ble_eq_true rfl) dL_law_1260 ⟨C.ok1 hcs.1 (by omega), C.ok2 hcs.2 (by omega)⟩ (fun H locs hM hS _ hkk => ?_)
    have hC := zkeep hC hkk C.dC
    have hO := zkeep hO hkk C.dO
    refine W.eq (g2 := F0 m 1263 ls [.int (zI 1)]) rfl ?_
    refine lv_iload C.hx C.hb dL_law_1263 (lv_at hl 1 rfl) ?_
    refine zr_icmp_eqT (tgt := 1270) C.hx C.hb (rfl) dL_law_1265 (by decide) ?_
    refine lv_iload C.hx C.hb dL_law_1270 (lv_at hl 1 rfl) ?_
    refine zr_if_ne (tgt := 1287) C.hx C.hb dL_law_1272 (by decide) ⟨by decide, by decide⟩ (fun _ => ?_) (fun h9 => by exfalso; revert h9; decide)
    refine lv_goto (tgt := 1825) C.hx C.hb dL_law_1287 (by decide) ?_
    refine W.widen (k := cells + 2) (n := slots + 12) (by omega) (by omega) ?_
    have hl := lv_sub hl (l' := [(4, .int (zI (5 * (j : Int)))), (0, .ref b), (1, .ref (q 0)), (2, .ref (r 0)), (3, .ref o)]) [2, 3, 4, 5, 6] rfl
    exact K _ hd0 H locs ls ⟨pa, sp, al, dg, co, da, mb, dd, ah, wl, lo, n, td, wn, co', da', mo, st, mr, 1, f, R, by omega, hst, hmr, hC, hM, hO⟩ hS hl
set_option maxHeartbeats 4000000 in
set_option maxRecDepth 100000 in
theorem law_c20 {p : Program} {l : Launch} {e : Env} {s : State} {m : MethodId} {below : List Frame} {meth : Method} {c : Code} {b L : Nat} {xs : Nat → Int32} {Q : State → Prop} {D : va_G} {cI cZ cJ : ClassId} {q r : Nat → Nat} {o : Nat} (C : zCx p l s m meth c b L xs D cI cZ cJ q r o) {d0 : Drawn} (hd0 : s.drawn.sameBut d0 lw_cs) {H : Heap} {locs : List Loc} {cells slots : Nat} (hcs : cells + 2 ≤ 601024 ∧ slots + 12 ≤ 7293034) {j : Nat} (hj : 5 * (j : Int) + 5 ≤ (L : Int)) (hj2 : j ≤ 512) {ls : Array Slot} (hZ : zLS D cI cZ cJ q r o j H) (hS : va_S (fun a => s.heap.size ≤ a) s.heap H locs) (hl : lv_has ls 9 [(4, .int (zI (5 * (j : Int)))), (0, .ref b), (1, .ref (q 0)), (2, .ref (r 0)), (3, .ref o)])
    (K : ∀ (d1 : Drawn), s.drawn.sameBut d1 lw_cs → ∀ (H1 : Heap) (locs1 : List Loc) (ls1 : Array Slot), zLS D cI cZ cJ q r o (j + 1) H1 → va_S (fun a => s.heap.size ≤ a) s.heap H1 locs1 → lv_has ls1 9 [(4, .int (zI (5 * (j : Int)))), (0, .ref b), (1, .ref (q 0)), (2, .ref (r 0)), (3, .ref o)] → W p l e room_1 (s.setDrawn d1) m #[Value.ref b] below meth c H1 locs1 (cells + 2) (slots + 12) Q (F0 m 1825 ls1 [])) :
    W p l e room_1 (s.setDrawn d0) m #[Value.ref b] below meth c H locs cells slots Q (F0 m 1290 ls []) := by
  obtain ⟨pa, sp, al, dg, co, da, mb, dd, ah, wl, lo, n, td, wn, co', da', mo, st, mr, th, f, R, htd, hst, hmr, hC, hM, hO⟩ := hZ
  have hn := R.1.1
  have htd0 := R.1.2
  have hLN := C.hLN
  have hs1 := sc_rg xs (5 * (j : Int) + 1)
  have hs2 := sc_rg xs (5 * (j : Int) + 2)
  have hs3 := sc_rg xs (5 * (j : Int) + 3)
  have hs4 := sc_rg xs (5 * (j : Int) + 4)
  by_cases b1 : 0 ≤ sc xs (5 * (j : Int) + 1) ∧ sc xs (5 * (j : Int) + 1) < (n : Int)
  · have b1 := b1
    by_cases b2 : 0 ≤ sc xs (5 * (j : Int) + 2) ∧ sc xs (5 * (j : Int) + 2) < (n : Int)
    · have b2 := b2
      refine lv_aload_n C.hx C.hb dL_law_1290 rfl (lv_at hl 2 rfl) ?_
      refine lv_aload_n C.hx C.hb dL_law_1291 rfl (lv_at hl 1 rfl) ?_
      refine lv_iload C.hx C.hb dL_law_1292 (lv_at hl 0 rfl) ?_
      refine zr_iconst C.hx C.hb dL_law_1294 ?_
      refine zr_iadd (v := 5 * (j : Int) + 1) C.hx C.hb rfl dL_law_1295 ?_
      refine zr_sld (s := s.setDrawn d0) C.hx C.hb C.hX C.hbl C.hbA hS (i := 5 * (j : Int) + 1) (by omega) (by omega) C.hLN dL_law_1296 ?_
      refine lv_aload_n C.hx C.hb dL_law_1297 rfl (lv_at hl 1 rfl) ?_
      refine lv_iload C.hx C.hb dL_law_1298 (lv_at hl 0 rfl) ?_
      refine zr_iconst C.hx C.hb dL_law_1300 ?_
      refine zr_iadd (v := 5 * (j : Int) + 2) C.hx C.hb rfl dL_law_1301 ?_
      refine zr_sld (s := s.setDrawn d0) C.hx C.hb C.hX C.hbl C.hbA hS (i := 5 * (j : Int) + 2) (by omega) (by omega) C.hLN dL_law_1302 ?_
      refine lv_aload_n C.hx C.hb dL_law_1303 rfl (lv_at hl 4 rfl) ?_
      refine zcallLW (As := [.ref (q 0), .int (zI (sc xs (5 * (j : Int) + 1))), .int (zI (sc xs (5 * (j : Int) + 2))), .ref o]) (rest := []) ⟨C.hx, C.hb, C.hml, C.hown, dr_words C.hts _⟩ C.hK (kL_daysLeftForok l D C.hl0 cI cZ cJ q o C.hN C.hN2 pa sp al dg co da mb dd ah wl lo n td wn f R.1.1 R.2.1.2.2.2.2.1 R.2.1.2.2.2.2.2.1 (re_dd1 R) (re_td1 R) (sc xs (5 * (j : Int) + 1)) (sc xs (5 * (j : Int) + 2)) (by omega) (by omega)) (vx_cwSW 4 (dr_words C.hts _) gL_law_L_daysLeftFor rfl rfl rfl (by decide +kernel) ⟨Nat.le_of_ble_eq_true rfl, Nat.le_of_ble_eq_true rfl⟩) hC hO (C.tk hS) C.hE hS C.hA3 rfl hl.1 rfl (Nat.le_of_ble_eq_true rfl) dL_law_1304 ⟨C.ok1 hcs.1 (by omega), C.ok2 hcs.2 (by omega)⟩ (fun H locs hC hO hS _ hkk => ?_)
      have hM := zkeep hM hkk C.dM
      refine lv_istore (lv' := [(5, .int (zI 0)), (4, .int (zI (5 * (j : Int)))), (0, .ref b), (1, .ref (q 0)), (2, .ref (r 0)), (3, .ref o)]) C.hx C.hb dL_law_1307 hl (by decide) rfl (fun ls hl => ?_)
      refine lv_aload_n C.hx C.hb dL_law_1309 rfl (lv_at hl 4 rfl) ?_
      refine lv_aload_n C.hx C.hb dL_law_1310 rfl (lv_at hl 2 rfl) ?_
      refine lv_iload C.hx C.hb dL_law_1311 (lv_at hl 1 rfl) ?_
      refine zr_iconst C.hx C.hb dL_law_1313 ?_
      refine zr_iadd (v := 5 * (j : Int) + 1) C.hx C.hb rfl dL_law_1314 ?_
      refine zr_sld (s := s.setDrawn d0) C.hx C.hb C.hX C.hbl C.hbA hS (i := 5 * (j : Int) + 1) (by omega) (by omega) C.hLN dL_law_1315 ?_
      refine lv_aload_n C.hx C.hb dL_law_1316 rfl (lv_at hl 2 rfl) ?_
      refine lv_iload C.hx C.hb dL_law_1317 (lv_at hl 1 rfl) ?_
      refine zr_iconst C.hx C.hb dL_law_1319 ?_
      refine zr_iadd (v := 5 * (j : Int) + 2) C.hx C.hb rfl dL_law_1320 ?_
      refine zr_sld (s := s.setDrawn d0) C.hx C.hb C.hX C.hbl C.hbA hS (i := 5 * (j : Int) + 2) (by omega) (by omega) C.hLN dL_law_1321 ?_
      refine zcallV (ci := 3) (q0 := 0) (cq := (RX3, TX3, 12)) (As := [.int (zI (sc xs (5 * (j : Int) + 1))), .int (zI (sc xs (5 * (j : Int) + 2)))]) (rest := []) ⟨C.hx, C.hb, C.hml, C.hown, dr_words C.hts _⟩ C.hK2 (kX3_daysLeftForok l D cI cZ r C.hNr pa sp al co' da' mo st mr th n td wn R.1.1 R.2.2.1.2.2 (re_td1 R) (sc xs (5 * (j : Int) + 1)) (sc xs (5 * (j : Int) + 2)) (by omega) (by omega) (by omega) (by omega)) (cwV 2 (dr_words C.hts _) gL_law_X3_daysLeftFor rfl rfl rfl (by decide +kernel) ⟨Nat.le_of_ble_eq_true rfl, Nat.le_of_ble_eq_true rfl⟩) hM hS C.hA2 rfl rfl rfl hl.1 rfl (Nat.le_of_ble_eq_true rfl) dL_law_1322 ⟨C.ok1 hcs.1 (by omega), C.ok2 hcs.2 (by omega)⟩ (fun H locs hM hS _ hkk => ?_)
      have hC := zkeep hC hkk C.dC
      have hO := zkeep hO hkk C.dO
      refine W.eq (g2 := F0 m 1325 ls [.int (zI (lM mo td (sc xs (5 * (j : Int) + 1)) (sc xs (5 * (j : Int) + 2))))]) rfl ?_
      refine lv_istore (lv' := [(6, .int (zI (lM mo td (sc xs (5 * (j : Int) + 1)) (sc xs (5 * (j : Int) + 2))))), (5, .int (zI 0)), (4, .int (zI (5 * (j : Int)))), (0, .ref b), (1, .ref (q 0)), (2, .ref (r 0)), (3, .ref o)]) C.hx C.hb dL_law_1325 hl (by decide) rfl (fun ls hl => ?_)
      refine lv_aload_n C.hx C.hb dL_law_1327 rfl (lv_at hl 5 rfl) ?_
      refine zcallV (ci := 3) (q0 := 0) (cq := (RX3, TX3, 12)) (As := []) (rest := []) ⟨C.hx, C.hb, C.hml, C.hown, dr_words C.hts _⟩ C.hK2 (kX3_thrown l D cI cZ r C.hNr pa sp al co' da' mo st mr 0 n td wn) (cwV 0 (dr_words C.hts _) gL_law_X3_thrown rfl rfl rfl (by decide +kernel) ⟨Nat.le_of_ble_eq_true rfl, Nat.le_of_ble_eq_true rfl⟩) hM hS C.hA2 rfl rfl rfl hl.1 rfl (Nat.le_of_ble_eq_true rfl) dL_law_1328 ⟨C.ok1 hcs.1 (by omega), C.ok2 hcs.2 (by omega)⟩ (fun H locs hM hS _ hkk => ?_)
      have hC := zkeep hC hkk C.dC
      have hO := zkeep hO hkk C.dO
      refine W.eq (g2 := F0 m 1331 ls [.int (zI 0)]) rfl ?_
      refine lv_iload C.hx C.hb dL_law_1331 (lv_at hl 1 rfl) ?_
      refine zr_icmp_eqT (tgt := 1338) C.hx C.hb (rfl) dL_law_1333 (by decide) ?_
      refine lv_iload C.hx C.hb dL_law_1338 (lv_at hl 1 rfl) ?_
      refine zr_if_ne (tgt := 1355) C.hx C.hb dL_law_1340 (by decide) ⟨by decide, by decide⟩ (fun h9 => by exfalso; revert h9; decide) (fun _ => ?_)
      refine lv_aload_n C.hx C.hb dL_law_1343 rfl (lv_at hl 6 rfl) ?_
      refine zr_iconst C.hx C.hb dL_law_1344 ?_
      refine zr_lald0 C.hx C.hb C.hK hO 0 2 rfl rfl dL_law_1345 ?_
      refine W.eq (g2 := F0 m 1346 ls [.long ((zI (lf da mb dd td (sc xs (5 * (j : Int) + 1)) (sc xs (5 * (j : Int) + 2)))).toInt64)]) rfl ?_
      refine lv_iload C.hx C.hb dL_law_1346 (lv_at hl 0 rfl) ?_
      refine lv_i2l C.hx C.hb dL_law_1348 rfl ?_
      refine zr_lcmp_eqT (tgt := 1355) C.hx C.hb (congrArg (fun z => (zI z).toInt64) (re_lf R (by omega) (by omega) (by omega) (by omega))) dL_law_1349 dL_law_1350 (by decide) ?_
      refine lv_goto (tgt := 1825) C.hx C.hb dL_law_1355 (by decide) ?_
      refine W.widen (k := cells + 2) (n := slots + 12) (by omega) (by omega) ?_
      have hl := lv_sub hl (l' := [(4, .int (zI (5 * (j : Int)))), (0, .ref b), (1, .ref (q 0)), (2, .ref (r 0)), (3, .ref o)]) [2, 3, 4, 5, 6] rfl
      exact K _ hd0 H locs ls ⟨pa, sp, al, dg, co, da, mb, dd, ah, wl, lo, n, td, wn, co', da', mo, st, mr, 0, (vp_updL f 0 (zI (lf da mb dd td (sc xs (5 * (j : Int) + 1)) (sc xs (5 * (j : Int) + 2)))).toInt64), R, by omega, hst, hmr, hC, hM, hO⟩ hS hl
    · have b2 := b2
      refine lv_aload_n C.hx C.hb dL_law_1290 rfl (lv_at hl 2 rfl) ?_
      refine lv_aload_n C.hx C.hb dL_law_1291 rfl (lv_at hl 1 rfl) ?_
      refine lv_iload C.hx C.hb dL_law_1292 (lv_at hl 0 rfl) ?_
      refine zr_iconst C.hx C.hb dL_law_1294 ?_
      refine zr_iadd (v := 5 * (j : Int) + 1) C.hx C.hb rfl dL_law_1295 ?_
      refine zr_sld (s := s.setDrawn d0) C.hx C.hb C.hX C.hbl C.hbA hS (i := 5 * (j : Int) + 1) (by omega) (by omega) C.hLN dL_law_1296 ?_
      refine lv_aload_n C.hx C.hb dL_law_1297 rfl (lv_at hl 1 rfl) ?_
      refine lv_iload C.hx C.hb dL_law_1298 (lv_at hl 0 rfl) ?_
      refine zr_iconst C.hx C.hb dL_law_1300 ?_
      refine zr_iadd (v := 5 * (j : Int) + 2) C.hx C.hb rfl dL_law_1301 ?_
      refine zr_sld (s := s.setDrawn d0) C.hx C.hb C.hX C.hbl C.hbA hS (i := 5 * (j : Int) + 2) (by omega) (by omega) C.hLN dL_law_1302 ?_
      refine lv_aload_n C.hx C.hb dL_law_1303 rfl (lv_at hl 4 rfl) ?_
      refine zcallLW (As := [.ref (q 0), .int (zI (sc xs (5 * (j : Int) + 1))), .int (zI (sc xs (5 * (j : Int) + 2))), .ref o]) (rest := []) ⟨C.hx, C.hb, C.hml, C.hown, dr_words C.hts _⟩ C.hK (kL_daysLeftForx2 l D C.hl0 cI cZ cJ q o C.hN C.hN2 pa sp al dg co da mb dd ah wl lo n td wn f R.1.1 (sc xs (5 * (j : Int) + 1)) (sc xs (5 * (j : Int) + 2)) (by omega) (by omega) (by omega)) (vx_cwSW 4 (dr_words C.hts _) gL_law_L_daysLeftFor rfl rfl rfl (by decide +kernel) ⟨Nat.le_of_ble_eq_true rfl, Nat.le_of_ble_eq_true rfl⟩) hC hO (C.tk hS) C.hE hS C.hA3 rfl hl.1 rfl (Nat.le_of_ble_eq_true rfl) dL_law_1304 ⟨C.ok1 hcs.1 (by omega), C.ok2 hcs.2 (by omega)⟩ (fun H locs hC hO hS _ hkk => ?_)
      have hM := zkeep hM hkk C.dM
      refine lv_istore (lv' := [(5, .int (zI 1)), (4, .int (zI (5 * (j : Int)))), (0, .ref b), (1, .ref (q 0)), (2, .ref (r 0)), (3, .ref o)]) C.hx C.hb dL_law_1307 hl (by decide) rfl (fun ls hl => ?_)
      refine lv_aload_n C.hx C.hb dL_law_1309 rfl (lv_at hl 4 rfl) ?_
      refine lv_aload_n C.hx C.hb dL_law_1310 rfl (lv_at hl 2 rfl) ?_
      refine lv_iload C.hx C.hb dL_law_1311 (lv_at hl 1 rfl) ?_
      refine zr_iconst C.hx C.hb dL_law_1313 ?_
      refine zr_iadd (v := 5 * (j : Int) + 1) C.hx C.hb rfl dL_law_1314 ?_
      refine zr_sld (s := s.setDrawn d0) C.hx C.hb C.hX C.hbl C.hbA hS (i := 5 * (j : Int) + 1) (by omega) (by omega) C.hLN dL_law_1315 ?_
      refine lv_aload_n C.hx C.hb dL_law_1316 rfl (lv_at hl 2 rfl) ?_
      refine lv_iload C.hx C.hb dL_law_1317 (lv_at hl 1 rfl) ?_
      refine zr_iconst C.hx C.hb dL_law_1319 ?_
      refine zr_iadd (v := 5 * (j : Int) + 2) C.hx C.hb rfl dL_law_1320 ?_
      refine zr_sld (s := s.setDrawn d0) C.hx C.hb C.hX C.hbl C.hbA hS (i := 5 * (j : Int) + 2) (by omega) (by omega) C.hLN dL_law_1321 ?_
      refine zcallV (ci := 3) (q0 := 0) (cq := (RX3, TX3, 12)) (As := [.int (zI (sc xs (5 * (j : Int) + 1))), .int (zI (sc xs (5 * (j : Int) + 2)))]) (rest := []) ⟨C.hx, C.hb, C.hml, C.hown, dr_words C.hts _⟩ C.hK2 (kX3_daysLeftFore1 l D cI cZ r C.hNr pa sp al co' da' mo st mr th n td wn R.1.1 (sc xs (5 * (j : Int) + 1)) (sc xs (5 * (j : Int) + 2)) (by omega) (by omega) (by omega)) (cwV 2 (dr_words C.hts _) gL_law_X3_daysLeftFor rfl rfl rfl (by decide +kernel) ⟨Nat.le_of_ble_eq_true rfl, Nat.le_of_ble_eq_true rfl⟩) hM hS C.hA2 rfl rfl rfl hl.1 rfl (Nat.le_of_ble_eq_true rfl) dL_law_1322 ⟨C.ok1 hcs.1 (by omega), C.ok2 hcs.2 (by omega)⟩ (fun H locs hM hS _ hkk => ?_)
      have hC := zkeep hC hkk C.dC
      have hO := zkeep hO hkk C.dO
      refine W.eq (g2 := F0 m 1325 ls [.int (zI 0)]) rfl ?_
      refine lv_istore (lv' := [(6, .int (zI 0)), (5, .int (zI 1)), (4, .int (zI (5 * (j : Int)))), (0, .ref b), (1, .ref (q 0)), (2, .ref (r 0)), (3, .ref o)]) C.hx C.hb dL_law_1325 hl (by decide) rfl (fun ls hl => ?_)
      refine lv_aload_n C.hx C.hb dL_law_1327 rfl (lv_at hl 5 rfl) ?_
      refine zcallV (ci := 3) (q0 := 0) (cq := (RX3, TX3, 12)) (As := []) (rest := []) ⟨C.hx, C.hb, C.hml, C.hown, dr_words C.hts _⟩ C.hK2 (kX3_thrown l D cI cZ r C.hNr pa sp al co' da' mo st mr 1 n td wn) (cwV 0 (dr_words C.hts _) gL_law_X3_thrown rfl rfl rfl (by decide +kernel) ⟨Nat.le_of_ble_eq_true rfl, Nat.le_of_ble_eq_true rfl⟩) hM hS C.hA2 rfl rfl rfl hl.1 rfl (Nat.le_of_ble_eq_true rfl) dL_law_1328 ⟨C.ok1 hcs.1 (by omega), C.ok2 hcs.2 (by omega)⟩ (fun H locs hM hS _ hkk => ?_)
      have hC := zkeep hC hkk C.dC
      have hO := zkeep hO hkk C.dO
      refine W.eq (g2 := F0 m 1331 ls [.int (zI 1)]) rfl ?_
      refine lv_iload C.hx C.hb dL_law_1331 (lv_at hl 1 rfl) ?_
      refine zr_icmp_eqT (tgt := 1338) C.hx C.hb (rfl) dL_law_1333 (by decide) ?_
      refine lv_iload C.hx C.hb dL_law_1338 (lv_at hl 1 rfl) ?_
      refine zr_if_ne (tgt := 1355) C.hx C.hb dL_law_1340 (by decide) ⟨by decide, by decide⟩ (fun _ => ?_) (fun h9 => by exfalso; revert h9; decide)
      refine lv_goto (tgt := 1825) C.hx C.hb dL_law_1355 (by decide) ?_
      refine W.widen (k := cells + 2) (n := slots + 12) (by omega) (by omega) ?_
      have hl := lv_sub hl (l' := [(4, .int (zI (5 * (j : Int)))), (0, .ref b), (1, .ref (q 0)), (2, .ref (r 0)), (3, .ref o)]) [2, 3, 4, 5, 6] rfl
      exact K _ hd0 H locs ls ⟨pa, sp, al, dg, co, da, mb, dd, ah, wl, lo, n, td, wn, co', da', mo, st, mr, 1, f, R, by omega, hst, hmr, hC, hM, hO⟩ hS hl
  · have b1 := b1
    refine lv_aload_n C.hx C.hb dL_law_1290 rfl (lv_at hl 2 rfl) ?_
    refine lv_aload_n C.hx C.hb dL_law_1291 rfl (lv_at hl 1 rfl) ?_
    refine lv_iload C.hx C.hb dL_law_1292 (lv_at hl 0 rfl) ?_
    refine zr_iconst C.hx C.hb dL_law_1294 ?_
    refine zr_iadd (v := 5 * (j : Int) + 1) C.hx C.hb rfl dL_law_1295 ?_
    refine zr_sld (s := s.setDrawn d0) C.hx C.hb C.hX C.hbl C.hbA hS (i := 5 * (j : Int) + 1) (by omega) (by omega) C.hLN dL_law_1296 ?_
    refine lv_aload_n C.hx C.hb dL_law_1297 rfl (lv_at hl 1 rfl) ?_
    refine lv_iload C.hx C.hb dL_law_1298 (lv_at hl 0 rfl) ?_
    refine zr_iconst C.hx C.hb dL_law_1300 ?_
    refine zr_iadd (v := 5 * (j : Int) + 2) C.hx C.hb rfl dL_law_1301 ?_
    refine zr_sld (s := s.setDrawn d0) C.hx C.hb C.hX C.hbl C.hbA hS (i := 5 * (j : Int) + 2) (by omega) (by omega) C.hLN dL_law_1302 ?_
    refine lv_aload_n C.hx C.hb dL_law_1303 rfl (lv_at hl 4 rfl) ?_
    refine zcallLW (As := [.ref (q 0), .int (zI (sc xs (5 * (j : Int) + 1))), .int (zI (sc xs (5 * (j : Int) + 2))), .ref o]) (rest := []) ⟨C.hx, C.hb, C.hml, C.hown, dr_words C.hts _⟩ C.hK (kL_daysLeftForx1 l D C.hl0 cI cZ cJ q o C.hN C.hN2 pa sp al dg co da mb dd ah wl lo n td wn f R.1.1 (sc xs (5 * (j : Int) + 1)) (sc xs (5 * (j : Int) + 2)) (by omega) (by omega)) (vx_cwSW 4 (dr_words C.hts _) gL_law_L_daysLeftFor rfl rfl rfl (by decide +kernel) ⟨Nat.le_of_ble_eq_true rfl, Nat.le_of_ble_eq_true rfl⟩) hC hO (C.tk hS) C.hE hS C.hA3 rfl hl.1 rfl (Nat.le_of_ble_eq_true rfl) dL_law_1304 ⟨C.ok1 hcs.1 (by omega), C.ok2 hcs.2 (by omega)⟩ (fun H locs hC hO hS _ hkk => ?_)
    have hM := zkeep hM hkk C.dM
    refine lv_istore (lv' := [(5, .int (zI 1)), (4, .int (zI (5 * (j : Int)))), (0, .ref b), (1, .ref (q 0)), (2, .ref (r 0)), (3, .ref o)]) C.hx C.hb dL_law_1307 hl (by decide) rfl (fun ls hl => ?_)
    refine lv_aload_n C.hx C.hb dL_law_1309 rfl (lv_at hl 4 rfl) ?_
    refine lv_aload_n C.hx C.hb dL_law_1310 rfl (lv_at hl 2 rfl) ?_
    refine lv_iload C.hx C.hb dL_law_1311 (lv_at hl 1 rfl) ?_
    refine zr_iconst C.hx C.hb dL_law_1313 ?_
    refine zr_iadd (v := 5 * (j : Int) + 1) C.hx C.hb rfl dL_law_1314 ?_
    refine zr_sld (s := s.setDrawn d0) C.hx C.hb C.hX C.hbl C.hbA hS (i := 5 * (j : Int) + 1) (by omega) (by omega) C.hLN dL_law_1315 ?_
    refine lv_aload_n C.hx C.hb dL_law_1316 rfl (lv_at hl 2 rfl) ?_
    refine lv_iload C.hx C.hb dL_law_1317 (lv_at hl 1 rfl) ?_
    refine zr_iconst C.hx C.hb dL_law_1319 ?_
    refine zr_iadd (v := 5 * (j : Int) + 2) C.hx C.hb rfl dL_law_1320 ?_
    refine zr_sld (s := s.setDrawn d0) C.hx C.hb C.hX C.hbl C.hbA hS (i := 5 * (j : Int) + 2) (by omega) (by omega) C.hLN dL_law_1321 ?_
    refine zcallV (ci := 3) (q0 := 0) (cq := (RX3, TX3, 12)) (As := [.int (zI (sc xs (5 * (j : Int) + 1))), .int (zI (sc xs (5 * (j : Int) + 2)))]) (rest := []) ⟨C.hx, C.hb, C.hml, C.hown, dr_words C.hts _⟩ C.hK2 (kX3_daysLeftFore1 l D cI cZ r C.hNr pa sp al co' da' mo st mr th n td wn R.1.1 (sc xs (5 * (j : Int) + 1)) (sc xs (5 * (j : Int) + 2)) (by omega) (by omega) (by omega)) (cwV 2 (dr_words C.hts _) gL_law_X3_daysLeftFor rfl rfl rfl (by decide +kernel) ⟨Nat.le_of_ble_eq_true rfl, Nat.le_of_ble_eq_true rfl⟩) hM hS C.hA2 rfl rfl rfl hl.1 rfl (Nat.le_of_ble_eq_true rfl) dL_law_1322 ⟨C.ok1 hcs.1 (by omega), C.ok2 hcs.2 (by omega)⟩ (fun H locs hM hS _ hkk => ?_)
    have hC := zkeep hC hkk C.dC
    have hO := zkeep hO hkk C.dO
    refine W.eq (g2 := F0 m 1325 ls [.int (zI 0)]) rfl ?_
    refine lv_istore (lv' := [(6, .int (zI 0)), (5, .int (zI 1)), (4, .int (zI (5 * (j : Int)))), (0, .ref b), (1, .ref (q 0)), (2, .ref (r 0)), (3, .ref o)]) C.hx C.hb dL_law_1325 hl (by decide) rfl (fun ls hl => ?_)
    refine lv_aload_n C.hx C.hb dL_law_1327 rfl (lv_at hl 5 rfl) ?_
    refine zcallV (ci := 3) (q0 := 0) (cq := (RX3, TX3, 12)) (As := []) (rest := []) ⟨C.hx, C.hb, C.hml, C.hown, dr_words C.hts _⟩ C.hK2 (kX3_thrown l D cI cZ r C.hNr pa sp al co' da' mo st mr 1 n td wn) (cwV 0 (dr_words C.hts _) gL_law_X3_thrown rfl rfl rfl (by decide +kernel) ⟨Nat.le_of_ble_eq_true rfl, Nat.le_of_ble_eq_true rfl⟩) hM hS C.hA2 rfl rfl rfl hl.1 rfl (Nat.le_of_ble_eq_true rfl) dL_law_1328 ⟨C.ok1 hcs.1 (by omega), C.ok2 hcs.2 (by omega)⟩ (fun H locs hM hS _ hkk => ?_)
    have hC := zkeep hC hkk C.dC
    have hO := zkeep hO hkk C.dO
    refine W.eq (g2 := F0 m 1331 ls [.int (zI 1)]) rfl ?_
    refine lv_iload C.hx C.hb dL_law_1331 (lv_at hl 1 rfl) ?_
    refine zr_icmp_eqT (tgt := 1338) C.hx C.hb (rfl) dL_law_1333 (by decide) ?_
    refine lv_iload C.hx C.hb dL_law_1338 (lv_at hl 1 rfl) ?_
    refine zr_if_ne (tgt := 1355) C.hx C.hb dL_law_1340 (by decide) ⟨by decide, by decide⟩ (fun _ => ?_) (fun h9 => by exfalso; revert h9; decide)
    refine lv_goto (tgt := 1825) C.hx C.hb dL_law_1355 (by decide) ?_
    refine W.widen (k := cells + 2) (n := slots + 12) (by omega) (by omega) ?_
    have hl := lv_sub hl (l' := [(4, .int (zI (5 * (j : Int)))), (0, .ref b), (1, .ref (q 0)), (2, .ref (r 0)), (3, .ref o)]) [2, 3, 4, 5, 6] rfl
    exact K _ hd0 H locs ls ⟨pa, sp, al, dg, co, da, mb, dd, ah, wl, lo, n, td, wn, co', da', mo, st, mr, 1, f, R, by omega, hst, hmr, hC, hM, hO⟩ hS hl
set_option maxHeartbeats 4000000 in
set_option maxRecDepth 100000 in
theorem law_c21 {p : Program} {l : Launch} {e : Env} {s : State} {m : MethodId} {below : List Frame} {meth : Method} {c : Code} {b L : Nat} {xs : Nat → Int32} {Q : State → Prop} {D : va_G} {cI cZ cJ : ClassId} {q r : Nat → Nat} {o : Nat} (C : zCx p l s m meth c b L xs D cI cZ cJ q r o) {d0 : Drawn} (hd0 : s.drawn.sameBut d0 lw_cs) {H : Heap} {locs : List Loc} {cells slots : Nat} (hcs : cells + 2 ≤ 601024 ∧ slots + 12 ≤ 7293034) {j : Nat} (hj : 5 * (j : Int) + 5 ≤ (L : Int)) (hj2 : j ≤ 512) {ls : Array Slot} (hZ : zLS D cI cZ cJ q r o j H) (hS : va_S (fun a => s.heap.size ≤ a) s.heap H locs) (hl : lv_has ls 9 [(4, .int (zI (5 * (j : Int)))), (0, .ref b), (1, .ref (q 0)), (2, .ref (r 0)), (3, .ref o)])
    (K : ∀ (d1 : Drawn), s.drawn.sameBut d1 lw_cs → ∀ (H1 : Heap) (locs1 : List Loc) (ls1 : Array Slot), zLS D cI cZ cJ q r o (j + 1) H1 → va_S (fun a => s.heap.size ≤ a) s.heap H1 locs1 → lv_has ls1 9 [(4, .int (zI (5 * (j : Int)))), (0, .ref b), (1, .ref (q 0)), (2, .ref (r 0)), (3, .ref o)] → W p l e room_1 (s.setDrawn d1) m #[Value.ref b] below meth c H1 locs1 (cells + 2) (slots + 12) Q (F0 m 1825 ls1 [])) :
    W p l e room_1 (s.setDrawn d0) m #[Value.ref b] below meth c H locs cells slots Q (F0 m 1358 ls []) := by
  obtain ⟨pa, sp, al, dg, co, da, mb, dd, ah, wl, lo, n, td, wn, co', da', mo, st, mr, th, f, R, htd, hst, hmr, hC, hM, hO⟩ := hZ
  have hn := R.1.1
  have htd0 := R.1.2
  have hLN := C.hLN
  have hs1 := sc_rg xs (5 * (j : Int) + 1)
  have hs2 := sc_rg xs (5 * (j : Int) + 2)
  have hs3 := sc_rg xs (5 * (j : Int) + 3)
  have hs4 := sc_rg xs (5 * (j : Int) + 4)
  by_cases b1 : 0 ≤ sc xs (5 * (j : Int) + 1) ∧ sc xs (5 * (j : Int) + 1) < (n : Int)
  · have b1 := b1
    refine lv_aload_n C.hx C.hb dL_law_1358 rfl (lv_at hl 2 rfl) ?_
    refine lv_aload_n C.hx C.hb dL_law_1359 rfl (lv_at hl 1 rfl) ?_
    refine lv_iload C.hx C.hb dL_law_1360 (lv_at hl 0 rfl) ?_
    refine zr_iconst C.hx C.hb dL_law_1362 ?_
    refine zr_iadd (v := 5 * (j : Int) + 1) C.hx C.hb rfl dL_law_1363 ?_
    refine zr_sld (s := s.setDrawn d0) C.hx C.hb C.hX C.hbl C.hbA hS (i := 5 * (j : Int) + 1) (by omega) (by omega) C.hLN dL_law_1364 ?_
    refine lv_aload_n C.hx C.hb dL_law_1365 rfl (lv_at hl 4 rfl) ?_
    refine zcallLW (As := [.ref (q 0), .int (zI (sc xs (5 * (j : Int) + 1))), .ref o]) (rest := []) ⟨C.hx, C.hb, C.hml, C.hown, dr_words C.hts _⟩ C.hK (kL_daysLeftok l D C.hl0 cI cZ cJ q o C.hN C.hN2 pa sp al dg co da mb dd ah wl lo n td wn f R.1.1 R.2.1.2.2.2.2.1 R.2.1.2.2.2.2.2.1 (re_dd1 R) (re_td1 R) (sc xs (5 * (j : Int) + 1)) (by omega)) (vx_cwSW 3 (dr_words C.hts _) gL_law_L_daysLeft rfl rfl rfl (by decide +kernel) ⟨Nat.le_of_ble_eq_true rfl, Nat.le_of_ble_eq_true rfl⟩) hC hO (C.tk hS) C.hE hS C.hA3 rfl hl.1 rfl (Nat.le_of_ble_eq_true rfl) dL_law_1366 ⟨C.ok1 hcs.1 (by omega), C.ok2 hcs.2 (by omega)⟩ (fun H locs hC hO hS _ hkk => ?_)
    have hM := zkeep hM hkk C.dM
    refine lv_istore (lv' := [(5, .int (zI 0)), (4, .int (zI (5 * (j : Int)))), (0, .ref b), (1, .ref (q 0)), (2, .ref (r 0)), (3, .ref o)]) C.hx C.hb dL_law_1369 hl (by decide) rfl (fun ls hl => ?_)
    refine lv_aload_n C.hx C.hb dL_law_1371 rfl (lv_at hl 4 rfl) ?_
    refine lv_aload_n C.hx C.hb dL_law_1372 rfl (lv_at hl 2 rfl) ?_
    refine lv_iload C.hx C.hb dL_law_1373 (lv_at hl 1 rfl) ?_
    refine zr_iconst C.hx C.hb dL_law_1375 ?_
    refine zr_iadd (v := 5 * (j : Int) + 1) C.hx C.hb rfl dL_law_1376 ?_
    refine zr_sld (s := s.setDrawn d0) C.hx C.hb C.hX C.hbl C.hbA hS (i := 5 * (j : Int) + 1) (by omega) (by omega) C.hLN dL_law_1377 ?_
    refine zcallV (ci := 3) (q0 := 0) (cq := (RX3, TX3, 12)) (As := [.int (zI (sc xs (5 * (j : Int) + 1)))]) (rest := []) ⟨C.hx, C.hb, C.hml, C.hown, dr_words C.hts _⟩ C.hK2 (kX3_daysLeftok l D cI cZ r C.hNr pa sp al co' da' mo st mr th n td wn R.1.1 R.2.2.1.2.2 (re_td1 R) (sc xs (5 * (j : Int) + 1)) (by omega) (by omega)) (cwV 1 (dr_words C.hts _) gL_law_X3_daysLeft rfl rfl rfl (by decide +kernel) ⟨Nat.le_of_ble_eq_true rfl, Nat.le_of_ble_eq_true rfl⟩) hM hS C.hA2 rfl rfl rfl hl.1 rfl (Nat.le_of_ble_eq_true rfl) dL_law_1378 ⟨C.ok1 hcs.1 (by omega), C.ok2 hcs.2 (by omega)⟩ (fun H locs hM hS _ hkk => ?_)
    have hC := zkeep hC hkk C.dC
    have hO := zkeep hO hkk C.dO
    refine W.eq (g2 := F0 m 1381 ls [.int (zI (mxF (lM mo td (sc xs (5 * (j : Int) + 1))) n))]) rfl ?_
    refine lv_istore (lv' := [(6, .int (zI (mxF (lM mo td (sc xs (5 * (j : Int) + 1))) n))), (5, .int (zI 0)), (4, .int (zI (5 * (j : Int)))), (0, .ref b), (1, .ref (q 0)), (2, .ref (r 0)), (3, .ref o)]) C.hx C.hb dL_law_1381 hl (by decide) rfl (fun ls hl => ?_)
    refine lv_aload_n C.hx C.hb dL_law_1383 rfl (lv_at hl 5 rfl) ?_
    refine zcallV (ci := 3) (q0 := 0) (cq := (RX3, TX3, 12)) (As := []) (rest := []) ⟨C.hx, C.hb, C.hml, C.hown, dr_words C.hts _⟩ C.hK2 (kX3_thrown l D cI cZ r C.hNr pa sp al co' da' mo st mr 0 n td wn) (cwV 0 (dr_words C.hts _) gL_law_X3_thrown rfl rfl rfl (by decide +kernel) ⟨Nat.le_of_ble_eq_true rfl, Nat.le_of_ble_eq_true rfl⟩) hM hS C.hA2 rfl rfl rfl hl.1 rfl (Nat.le_of_ble_eq_true rfl) dL_law_1384 ⟨C.ok1 hcs.1 (by omega), C.ok2 hcs.2 (by omega)⟩ (fun H locs hM hS _ hkk => ?_)
    have hC := zkeep hC hkk C.dC
    have hO := zkeep hO hkk C.dO
    refine W.eq (g2 := F0 m 1387 ls [.int (zI 0)]) rfl ?_
    refine lv_iload C.hx C.hb dL_law_1387 (lv_at hl 1 rfl) ?_
    refine zr_icmp_eqT (tgt := 1394) C.hx C.hb (rfl) dL_law_1389 (by decide) ?_
    refine lv_iload C.hx C.hb dL_law_1394 (lv_at hl 1 rfl) ?_
    refine zr_if_ne (tgt := 1411) C.hx C.hb dL_law_1396 (by decide) ⟨by decide, by decide⟩ (fun h9 => by exfalso; revert h9; decide) (fun _ => ?_)
    refine lv_aload_n C.hx C.hb dL_law_1399 rfl (lv_at hl 6 rfl) ?_
    refine zr_iconst C.hx C.hb dL_law_1400 ?_
    refine zr_lald0 C.hx C.hb C.hK hO 0 2 rfl rfl dL_law_1401 ?_
    refine W.eq (g2 := F0 m 1402 ls [.long ((zI (mxF (lf da mb dd td (sc xs (5 * (j : Int) + 1))) n)).toInt64)]) rfl ?_
    refine lv_iload C.hx C.hb dL_law_1402 (lv_at hl 0 rfl) ?_
    refine lv_i2l C.hx C.hb dL_law_1404 rfl ?_
    refine zr_lcmp_eqT (tgt := 1411) C.hx C.hb (congrArg (fun z => (zI z).toInt64) (re_most R (by omega) (by omega))) dL_law_1405 dL_law_1406 (by decide) ?_
    refine lv_goto (tgt := 1825) C.hx C.hb dL_law_1411 (by decide) ?_
    refine W.widen (k := cells + 2) (n := slots + 12) (by omega) (by omega) ?_
    have hl := lv_sub hl (l' := [(4, .int (zI (5 * (j : Int)))), (0, .ref b), (1, .ref (q 0)), (2, .ref (r 0)), (3, .ref o)]) [2, 3, 4, 5, 6] rfl
    exact K _ hd0 H locs ls ⟨pa, sp, al, dg, co, da, mb, dd, ah, wl, lo, n, td, wn, co', da', mo, st, mr, 0, (vp_updL f 0 (zI (mxF (lf da mb dd td (sc xs (5 * (j : Int) + 1))) n)).toInt64), R, by omega, hst, hmr, hC, hM, hO⟩ hS hl
  · have b1 := b1
    refine lv_aload_n C.hx C.hb dL_law_1358 rfl (lv_at hl 2 rfl) ?_
    refine lv_aload_n C.hx C.hb dL_law_1359 rfl (lv_at hl 1 rfl) ?_
    refine lv_iload C.hx C.hb dL_law_1360 (lv_at hl 0 rfl) ?_
    refine zr_iconst C.hx C.hb dL_law_1362 ?_
    refine zr_iadd (v := 5 * (j : Int) + 1) C.hx C.hb rfl dL_law_1363 ?_
    refine zr_sld (s := s.setDrawn d0) C.hx C.hb C.hX C.hbl C.hbA hS (i := 5 * (j : Int) + 1) (by omega) (by omega) C.hLN dL_law_1364 ?_
    refine lv_aload_n C.hx C.hb dL_law_1365 rfl (lv_at hl 4 rfl) ?_
    refine zcallLW (As := [.ref (q 0), .int (zI (sc xs (5 * (j : Int) + 1))), .ref o]) (rest := []) ⟨C.hx, C.hb, C.hml, C.hown, dr_words C.hts _⟩ C.hK (kL_daysLeftx1 l D C.hl0 cI cZ cJ q o C.hN C.hN2 pa sp al dg co da mb dd ah wl lo n td wn f R.1.1 (sc xs (5 * (j : Int) + 1)) (by omega) (by omega)) (vx_cwSW 3 (dr_words C.hts _) gL_law_L_daysLeft rfl rfl rfl (by decide +kernel) ⟨Nat.le_of_ble_eq_true rfl, Nat.le_of_ble_eq_true rfl⟩) hC hO (C.tk hS) C.hE hS C.hA3 rfl hl.1 rfl (Nat.le_of_ble_eq_true rfl) dL_law_1366 ⟨C.ok1 hcs.1 (by omega), C.ok2 hcs.2 (by omega)⟩ (fun H locs hC hO hS _ hkk => ?_)
    have hM := zkeep hM hkk C.dM
    refine lv_istore (lv' := [(5, .int (zI 1)), (4, .int (zI (5 * (j : Int)))), (0, .ref b), (1, .ref (q 0)), (2, .ref (r 0)), (3, .ref o)]) C.hx C.hb dL_law_1369 hl (by decide) rfl (fun ls hl => ?_)
    refine lv_aload_n C.hx C.hb dL_law_1371 rfl (lv_at hl 4 rfl) ?_
    refine lv_aload_n C.hx C.hb dL_law_1372 rfl (lv_at hl 2 rfl) ?_
    refine lv_iload C.hx C.hb dL_law_1373 (lv_at hl 1 rfl) ?_
    refine zr_iconst C.hx C.hb dL_law_1375 ?_
    refine zr_iadd (v := 5 * (j : Int) + 1) C.hx C.hb rfl dL_law_1376 ?_
    refine zr_sld (s := s.setDrawn d0) C.hx C.hb C.hX C.hbl C.hbA hS (i := 5 * (j : Int) + 1) (by omega) (by omega) C.hLN dL_law_1377 ?_
    refine zcallV (ci := 3) (q0 := 0) (cq := (RX3, TX3, 12)) (As := [.int (zI (sc xs (5 * (j : Int) + 1)))]) (rest := []) ⟨C.hx, C.hb, C.hml, C.hown, dr_words C.hts _⟩ C.hK2 (kX3_daysLefte1 l D cI cZ r C.hNr pa sp al co' da' mo st mr th n td wn R.1.1 (sc xs (5 * (j : Int) + 1)) (by omega) (by omega)) (cwV 1 (dr_words C.hts _) gL_law_X3_daysLeft rfl rfl rfl (by decide +kernel) ⟨Nat.le_of_ble_eq_true rfl, Nat.le_of_ble_eq_true rfl⟩) hM hS C.hA2 rfl rfl rfl hl.1 rfl (Nat.le_of_ble_eq_true rfl) dL_law_1378 ⟨C.ok1 hcs.1 (by omega), C.ok2 hcs.2 (by omega)⟩ (fun H locs hM hS _ hkk => ?_)
    have hC := zkeep hC hkk C.dC
    have hO := zkeep hO hkk C.dO
    refine W.eq (g2 := F0 m 1381 ls [.int (zI 0)]) rfl ?_
    refine lv_istore (lv' := [(6, .int (zI 0)), (5, .int (zI 1)), (4, .int (zI (5 * (j : Int)))), (0, .ref b), (1, .ref (q 0)), (2, .ref (r 0)), (3, .ref o)]) C.hx C.hb dL_law_1381 hl (by decide) rfl (fun ls hl => ?_)
    refine lv_aload_n C.hx C.hb dL_law_1383 rfl (lv_at hl 5 rfl) ?_
    refine zcallV (ci := 3) (q0 := 0) (cq := (RX3, TX3, 12)) (As := []) (rest := []) ⟨C.hx, C.hb, C.hml, C.hown, dr_words C.hts _⟩ C.hK2 (kX3_thrown l D cI cZ r C.hNr pa sp al co' da' mo st mr 1 n td wn) (cwV 0 (dr_words C.hts _) gL_law_X3_thrown rfl rfl rfl (by decide +kernel) ⟨Nat.le_of_ble_eq_true rfl, Nat.le_of_ble_eq_true rfl⟩) hM hS C.hA2 rfl rfl rfl hl.1 rfl (Nat.le_of_ble_eq_true rfl) dL_law_1384 ⟨C.ok1 hcs.1 (by omega), C.ok2 hcs.2 (by omega)⟩ (fun H locs hM hS _ hkk => ?_)
    have hC := zkeep hC hkk C.dC
    have hO := zkeep hO hkk C.dO
    refine W.eq (g2 := F0 m 1387 ls [.int (zI 1)]) rfl ?_
    refine lv_iload C.hx C.hb dL_law_1387 (lv_at hl 1 rfl) ?_
    refine zr_icmp_eqT (tgt := 1394) C.hx C.hb (rfl) dL_law_1389 (by decide) ?_
    refine lv_iload C.hx C.hb dL_law_1394 (lv_at hl 1 rfl) ?_
    refine zr_if_ne (tgt := 1411) C.hx C.hb dL_law_1396 (by decide) ⟨by decide, by decide⟩ (fun _ => ?_) (fun h9 => by exfalso; revert h9; decide)
    refine lv_goto (tgt := 1825) C.hx C.hb dL_law_1411 (by decide) ?_
    refine W.widen (k := cells + 2) (n := slots + 12) (by omega) (by omega) ?_
    have hl := lv_sub hl (l' := [(4, .int (zI (5 * (j : Int)))), (0, .ref b), (1, .ref (q 0)), (2, .ref (r 0)), (3, .ref o)]) [2, 3, 4, 5, 6] rfl
    exact K _ hd0 H locs ls ⟨pa, sp, al, dg, co, da, mb, dd, ah, wl, lo, n, td, wn, co', da', mo, st, mr, 1, f, R, by omega, hst, hmr, hC, hM, hO⟩ hS hl
set_option maxHeartbeats 4000000 in
set_option maxRecDepth 100000 in
theorem law_c22 {p : Program} {l : Launch} {e : Env} {s : State} {m : MethodId} {below : List Frame} {meth : Method} {c : Code} {b L : Nat} {xs : Nat → Int32} {Q : State → Prop} {D : va_G} {cI cZ cJ : ClassId} {q r : Nat → Nat} {o : Nat} (C : zCx p l s m meth c b L xs D cI cZ cJ q r o) {d0 : Drawn} (hd0 : s.drawn.sameBut d0 lw_cs) {H : Heap} {locs : List Loc} {cells slots : Nat} (hcs : cells + 2 ≤ 601024 ∧ slots + 12 ≤ 7293034) {j : Nat} (hj : 5 * (j : Int) + 5 ≤ (L : Int)) (hj2 : j ≤ 512) {ls : Array Slot} (hZ : zLS D cI cZ cJ q r o j H) (hS : va_S (fun a => s.heap.size ≤ a) s.heap H locs) (hl : lv_has ls 9 [(4, .int (zI (5 * (j : Int)))), (0, .ref b), (1, .ref (q 0)), (2, .ref (r 0)), (3, .ref o)])
    (K : ∀ (d1 : Drawn), s.drawn.sameBut d1 lw_cs → ∀ (H1 : Heap) (locs1 : List Loc) (ls1 : Array Slot), zLS D cI cZ cJ q r o (j + 1) H1 → va_S (fun a => s.heap.size ≤ a) s.heap H1 locs1 → lv_has ls1 9 [(4, .int (zI (5 * (j : Int)))), (0, .ref b), (1, .ref (q 0)), (2, .ref (r 0)), (3, .ref o)] → W p l e room_1 (s.setDrawn d1) m #[Value.ref b] below meth c H1 locs1 (cells + 2) (slots + 12) Q (F0 m 1825 ls1 [])) :
    W p l e room_1 (s.setDrawn d0) m #[Value.ref b] below meth c H locs cells slots Q (F0 m 1414 ls []) := by
  obtain ⟨pa, sp, al, dg, co, da, mb, dd, ah, wl, lo, n, td, wn, co', da', mo, st, mr, th, f, R, htd, hst, hmr, hC, hM, hO⟩ := hZ
  have hn := R.1.1
  have htd0 := R.1.2
  have hLN := C.hLN
  have hs1 := sc_rg xs (5 * (j : Int) + 1)
  have hs2 := sc_rg xs (5 * (j : Int) + 2)
  have hs3 := sc_rg xs (5 * (j : Int) + 3)
  have hs4 := sc_rg xs (5 * (j : Int) + 4)
  by_cases b1 : 0 ≤ sc xs (5 * (j : Int) + 1) ∧ sc xs (5 * (j : Int) + 1) < (n : Int)
  · have b1 := b1
    refine lv_aload_n C.hx C.hb dL_law_1414 rfl (lv_at hl 2 rfl) ?_
    refine lv_aload_n C.hx C.hb dL_law_1415 rfl (lv_at hl 1 rfl) ?_
    refine lv_iload C.hx C.hb dL_law_1416 (lv_at hl 0 rfl) ?_
    refine zr_iconst C.hx C.hb dL_law_1418 ?_
    refine zr_iadd (v := 5 * (j : Int) + 1) C.hx C.hb rfl dL_law_1419 ?_
    refine zr_sld (s := s.setDrawn d0) C.hx C.hb C.hX C.hbl C.hbA hS (i := 5 * (j : Int) + 1) (by omega) (by omega) C.hLN dL_law_1420 ?_
    refine lv_aload_n C.hx C.hb dL_law_1421 rfl (lv_at hl 4 rfl) ?_
    refine zcallLW (As := [.ref (q 0), .int (zI (sc xs (5 * (j : Int) + 1))), .ref o]) (rest := []) ⟨C.hx, C.hb, C.hml, C.hown, dr_words C.hts _⟩ C.hK (kL_daysUntilLighterok l D C.hl0 cI cZ cJ q o C.hN C.hN2 pa sp al dg co da mb dd ah wl lo n td wn f R.1.1 R.2.1.2.2.2.1 R.2.1.2.2.2.2.1 R.2.1.2.2.2.2.2.1 (re_dd1 R) (re_td1 R) (sc xs (5 * (j : Int) + 1)) (by omega)) (vx_cwSW 3 (dr_words C.hts _) gL_law_L_daysUntilLighter rfl rfl rfl (by decide +kernel) ⟨Nat.le_of_ble_eq_true rfl, Nat.le_of_ble_eq_true rfl⟩) hC hO (C.tk hS) C.hE hS C.hA3 rfl hl.1 rfl (Nat.le_of_ble_eq_true rfl) dL_law_1422 ⟨C.ok1 hcs.1 (by omega), C.ok2 hcs.2 (by omega)⟩ (fun H locs hC hO hS _ hkk => ?_)
    have hM := zkeep hM hkk C.dM
    refine lv_istore (lv' := [(5, .int (zI 0)), (4, .int (zI (5 * (j : Int)))), (0, .ref b), (1, .ref (q 0)), (2, .ref (r 0)), (3, .ref o)]) C.hx C.hb dL_law_1425 hl (by decide) rfl (fun ls hl => ?_)
    refine lv_aload_n C.hx C.hb dL_law_1427 rfl (lv_at hl 4 rfl) ?_
    refine lv_aload_n C.hx C.hb dL_law_1428 rfl (lv_at hl 2 rfl) ?_
    refine lv_iload C.hx C.hb dL_law_1429 (lv_at hl 1 rfl) ?_
    refine zr_iconst C.hx C.hb dL_law_1431 ?_
    refine zr_iadd (v := 5 * (j : Int) + 1) C.hx C.hb rfl dL_law_1432 ?_
    refine zr_sld (s := s.setDrawn d0) C.hx C.hb C.hX C.hbl C.hbA hS (i := 5 * (j : Int) + 1) (by omega) (by omega) C.hLN dL_law_1433 ?_
    refine zcallV (ci := 3) (q0 := 0) (cq := (RX3, TX3, 12)) (As := [.int (zI (sc xs (5 * (j : Int) + 1)))]) (rest := []) ⟨C.hx, C.hb, C.hml, C.hown, dr_words C.hts _⟩ C.hK2 (kX3_daysUntilLighterok l D cI cZ r C.hNr pa sp al co' da' mo st mr th n td wn R.1.1 R.2.2.1.2.2 (re_td1 R) (sc xs (5 * (j : Int) + 1)) (by omega) (by omega) (re_z R (by omega) (by omega))) (cwV 1 (dr_words C.hts _) gL_law_X3_daysUntilLighter rfl rfl rfl (by decide +kernel) ⟨Nat.le_of_ble_eq_true rfl, Nat.le_of_ble_eq_true rfl⟩) hM hS C.hA2 rfl rfl rfl hl.1 rfl (Nat.le_of_ble_eq_true rfl) dL_law_1434 ⟨C.ok1 hcs.1 (by omega), C.ok2 hcs.2 (by omega)⟩ (fun H locs hM hS _ hkk => ?_)
    have hC := zkeep hC hkk C.dC
    have hO := zkeep hO hkk C.dO
    refine W.eq (g2 := F0 m 1437 ls [.int (zI (flD (wT mo n td (sc xs (5 * (j : Int) + 1)))))]) rfl ?_
    refine lv_istore (lv' := [(6, .int (zI (flD (wT mo n td (sc xs (5 * (j : Int) + 1)))))), (5, .int (zI 0)), (4, .int (zI (5 * (j : Int)))), (0, .ref b), (1, .ref (q 0)), (2, .ref (r 0)), (3, .ref o)]) C.hx C.hb dL_law_1437 hl (by decide) rfl (fun ls hl => ?_)
    refine lv_aload_n C.hx C.hb dL_law_1439 rfl (lv_at hl 5 rfl) ?_
    refine zcallV (ci := 3) (q0 := 0) (cq := (RX3, TX3, 12)) (As := []) (rest := []) ⟨C.hx, C.hb, C.hml, C.hown, dr_words C.hts _⟩ C.hK2 (kX3_thrown l D cI cZ r C.hNr pa sp al co' da' mo st mr 0 n td wn) (cwV 0 (dr_words C.hts _) gL_law_X3_thrown rfl rfl rfl (by decide +kernel) ⟨Nat.le_of_ble_eq_true rfl, Nat.le_of_ble_eq_true rfl⟩) hM hS C.hA2 rfl rfl rfl hl.1 rfl (Nat.le_of_ble_eq_true rfl) dL_law_1440 ⟨C.ok1 hcs.1 (by omega), C.ok2 hcs.2 (by omega)⟩ (fun H locs hM hS _ hkk => ?_)
    have hC := zkeep hC hkk C.dC
    have hO := zkeep hO hkk C.dO
    refine W.eq (g2 := F0 m 1443 ls [.int (zI 0)]) rfl ?_
    refine lv_iload C.hx C.hb dL_law_1443 (lv_at hl 1 rfl) ?_
    refine zr_icmp_eqT (tgt := 1450) C.hx C.hb (rfl) dL_law_1445 (by decide) ?_
    refine lv_iload C.hx C.hb dL_law_1450 (lv_at hl 1 rfl) ?_
    refine zr_if_ne (tgt := 1467) C.hx C.hb dL_law_1452 (by decide) ⟨by decide, by decide⟩ (fun h9 => by exfalso; revert h9; decide) (fun _ => ?_)
    refine lv_aload_n C.hx C.hb dL_law_1455 rfl (lv_at hl 6 rfl) ?_
    refine zr_iconst C.hx C.hb dL_law_1456 ?_
    refine zr_lald0 C.hx C.hb C.hK hO 0 2 rfl rfl dL_law_1457 ?_
    refine W.eq (g2 := F0 m 1458 ls [.long ((zI (flD (ca co da mb dd td n (sc xs (5 * (j : Int) + 1))))).toInt64)]) rfl ?_
    refine lv_iload C.hx C.hb dL_law_1458 (lv_at hl 0 rfl) ?_
    refine lv_i2l C.hx C.hb dL_law_1460 rfl ?_
    refine zr_lcmp_eqT (tgt := 1467) C.hx C.hb (congrArg (fun z => (zI z).toInt64) (re_until R (by omega) (by omega))) dL_law_1461 dL_law_1462 (by decide) ?_
    refine lv_goto (tgt := 1825) C.hx C.hb dL_law_1467 (by decide) ?_
    refine W.widen (k := cells + 2) (n := slots + 12) (by omega) (by omega) ?_
    have hl := lv_sub hl (l' := [(4, .int (zI (5 * (j : Int)))), (0, .ref b), (1, .ref (q 0)), (2, .ref (r 0)), (3, .ref o)]) [2, 3, 4, 5, 6] rfl
    exact K _ hd0 H locs ls ⟨pa, sp, al, dg, co, da, mb, dd, ca co da mb dd td n (sc xs (5 * (j : Int) + 1)), wl, lo, n, td, wn, co', da', mo, st, mr, 0, (vp_updL f 0 (zI (flD (ca co da mb dd td n (sc xs (5 * (j : Int) + 1))))).toInt64), R, by omega, hst, hmr, hC, hM, hO⟩ hS hl
  · have b1 := b1
    refine lv_aload_n C.hx C.hb dL_law_1414 rfl (lv_at hl 2 rfl) ?_
    refine lv_aload_n C.hx C.hb dL_law_1415 rfl (lv_at hl 1 rfl) ?_
    refine lv_iload C.hx C.hb dL_law_1416 (lv_at hl 0 rfl) ?_
    refine zr_iconst C.hx C.hb dL_law_1418 ?_
    refine zr_iadd (v := 5 * (j : Int) + 1) C.hx C.hb rfl dL_law_1419 ?_
    refine zr_sld (s := s.setDrawn d0) C.hx C.hb C.hX C.hbl C.hbA hS (i := 5 * (j : Int) + 1) (by omega) (by omega) C.hLN dL_law_1420 ?_
    refine lv_aload_n C.hx C.hb dL_law_1421 rfl (lv_at hl 4 rfl) ?_
    refine zcallLW (As := [.ref (q 0), .int (zI (sc xs (5 * (j : Int) + 1))), .ref o]) (rest := []) ⟨C.hx, C.hb, C.hml, C.hown, dr_words C.hts _⟩ C.hK (kL_daysUntilLighterx1 l D C.hl0 cI cZ cJ q o C.hN C.hN2 pa sp al dg co da mb dd ah wl lo n td wn f R.1.1 (sc xs (5 * (j : Int) + 1)) (by omega) (by omega)) (vx_cwSW 3 (dr_words C.hts _) gL_law_L_daysUntilLighter rfl rfl rfl (by decide +kernel) ⟨Nat.le_of_ble_eq_true rfl, Nat.le_of_ble_eq_true rfl⟩) hC hO (C.tk hS) C.hE hS C.hA3 rfl hl.1 rfl (Nat.le_of_ble_eq_true rfl) dL_law_1422 ⟨C.ok1 hcs.1 (by omega), C.ok2 hcs.2 (by omega)⟩ (fun H locs hC hO hS _ hkk => ?_)
    have hM := zkeep hM hkk C.dM
    refine lv_istore (lv' := [(5, .int (zI 1)), (4, .int (zI (5 * (j : Int)))), (0, .ref b), (1, .ref (q 0)), (2, .ref (r 0)), (3, .ref o)]) C.hx C.hb dL_law_1425 hl (by decide) rfl (fun ls hl => ?_)
    refine lv_aload_n C.hx C.hb dL_law_1427 rfl (lv_at hl 4 rfl) ?_
    refine lv_aload_n C.hx C.hb dL_law_1428 rfl (lv_at hl 2 rfl) ?_
    refine lv_iload C.hx C.hb dL_law_1429 (lv_at hl 1 rfl) ?_
    refine zr_iconst C.hx C.hb dL_law_1431 ?_
    refine zr_iadd (v := 5 * (j : Int) + 1) C.hx C.hb rfl dL_law_1432 ?_
    refine zr_sld (s := s.setDrawn d0) C.hx C.hb C.hX C.hbl C.hbA hS (i := 5 * (j : Int) + 1) (by omega) (by omega) C.hLN dL_law_1433 ?_
    refine zcallV (ci := 3) (q0 := 0) (cq := (RX3, TX3, 12)) (As := [.int (zI (sc xs (5 * (j : Int) + 1)))]) (rest := []) ⟨C.hx, C.hb, C.hml, C.hown, dr_words C.hts _⟩ C.hK2 (kX3_daysUntilLightere1 l D cI cZ r C.hNr pa sp al co' da' mo st mr th n td wn R.1.1 (sc xs (5 * (j : Int) + 1)) (by omega) (by omega)) (cwV 1 (dr_words C.hts _) gL_law_X3_daysUntilLighter rfl rfl rfl (by decide +kernel) ⟨Nat.le_of_ble_eq_true rfl, Nat.le_of_ble_eq_true rfl⟩) hM hS C.hA2 rfl rfl rfl hl.1 rfl (Nat.le_of_ble_eq_true rfl) dL_law_1434 ⟨C.ok1 hcs.1 (by omega), C.ok2 hcs.2 (by omega)⟩ (fun H locs hM hS _ hkk => ?_)
    have hC := zkeep hC hkk C.dC
    have hO := zkeep hO hkk C.dO
    refine W.eq (g2 := F0 m 1437 ls [.int (zI 0)]) rfl ?_
    refine lv_istore (lv' := [(6, .int (zI 0)), (5, .int (zI 1)), (4, .int (zI (5 * (j : Int)))), (0, .ref b), (1, .ref (q 0)), (2, .ref (r 0)), (3, .ref o)]) C.hx C.hb dL_law_1437 hl (by decide) rfl (fun ls hl => ?_)
    refine lv_aload_n C.hx C.hb dL_law_1439 rfl (lv_at hl 5 rfl) ?_
    refine zcallV (ci := 3) (q0 := 0) (cq := (RX3, TX3, 12)) (As := []) (rest := []) ⟨C.hx, C.hb, C.hml, C.hown, dr_words C.hts _⟩ C.hK2 (kX3_thrown l D cI cZ r C.hNr pa sp al co' da' mo st mr 1 n td wn) (cwV 0 (dr_words C.hts _) gL_law_X3_thrown rfl rfl rfl (by decide +kernel) ⟨Nat.le_of_ble_eq_true rfl, Nat.le_of_ble_eq_true rfl⟩) hM hS C.hA2 rfl rfl rfl hl.1 rfl (Nat.le_of_ble_eq_true rfl) dL_law_1440 ⟨C.ok1 hcs.1 (by omega), C.ok2 hcs.2 (by omega)⟩ (fun H locs hM hS _ hkk => ?_)
    have hC := zkeep hC hkk C.dC
    have hO := zkeep hO hkk C.dO
    refine W.eq (g2 := F0 m 1443 ls [.int (zI 1)]) rfl ?_
    refine lv_iload C.hx C.hb dL_law_1443 (lv_at hl 1 rfl) ?_
    refine zr_icmp_eqT (tgt := 1450) C.hx C.hb (rfl) dL_law_1445 (by decide) ?_
    refine lv_iload C.hx C.hb dL_law_1450 (lv_at hl 1 rfl) ?_
    refine zr_if_ne (tgt := 1467) C.hx C.hb dL_law_1452 (by decide) ⟨by decide, by decide⟩ (fun _ => ?_) (fun h9 => by exfalso; revert h9; decide)
    refine lv_goto (tgt := 1825) C.hx C.hb dL_law_1467 (by decide) ?_
    refine W.widen (k := cells + 2) (n := slots + 12) (by omega) (by omega) ?_
    have hl := lv_sub hl (l' := [(4, .int (zI (5 * (j : Int)))), (0, .ref b), (1, .ref (q 0)), (2, .ref (r 0)), (3, .ref o)]) [2, 3, 4, 5, 6] rfl
    exact K _ hd0 H locs ls ⟨pa, sp, al, dg, co, da, mb, dd, ah, wl, lo, n, td, wn, co', da', mo, st, mr, 1, f, R, by omega, hst, hmr, hC, hM, hO⟩ hS hl
set_option maxHeartbeats 4000000 in
set_option maxRecDepth 100000 in
theorem law_c23 {p : Program} {l : Launch} {e : Env} {s : State} {m : MethodId} {below : List Frame} {meth : Method} {c : Code} {b L : Nat} {xs : Nat → Int32} {Q : State → Prop} {D : va_G} {cI cZ cJ : ClassId} {q r : Nat → Nat} {o : Nat} (C : zCx p l s m meth c b L xs D cI cZ cJ q r o) {d0 : Drawn} (hd0 : s.drawn.sameBut d0 lw_cs) {H : Heap} {locs : List Loc} {cells slots : Nat} (hcs : cells + 2 ≤ 601024 ∧ slots + 12 ≤ 7293034) {j : Nat} (hj : 5 * (j : Int) + 5 ≤ (L : Int)) (hj2 : j ≤ 512) {ls : Array Slot} (hZ : zLS D cI cZ cJ q r o j H) (hS : va_S (fun a => s.heap.size ≤ a) s.heap H locs) (hl : lv_has ls 9 [(4, .int (zI (5 * (j : Int)))), (0, .ref b), (1, .ref (q 0)), (2, .ref (r 0)), (3, .ref o)])
    (K : ∀ (d1 : Drawn), s.drawn.sameBut d1 lw_cs → ∀ (H1 : Heap) (locs1 : List Loc) (ls1 : Array Slot), zLS D cI cZ cJ q r o (j + 1) H1 → va_S (fun a => s.heap.size ≤ a) s.heap H1 locs1 → lv_has ls1 9 [(4, .int (zI (5 * (j : Int)))), (0, .ref b), (1, .ref (q 0)), (2, .ref (r 0)), (3, .ref o)] → W p l e room_1 (s.setDrawn d1) m #[Value.ref b] below meth c H1 locs1 (cells + 2) (slots + 12) Q (F0 m 1825 ls1 [])) :
    W p l e room_1 (s.setDrawn d0) m #[Value.ref b] below meth c H locs cells slots Q (F0 m 1470 ls []) := by
  obtain ⟨pa, sp, al, dg, co, da, mb, dd, ah, wl, lo, n, td, wn, co', da', mo, st, mr, th, f, R, htd, hst, hmr, hC, hM, hO⟩ := hZ
  have hn := R.1.1
  have htd0 := R.1.2
  have hLN := C.hLN
  have hs1 := sc_rg xs (5 * (j : Int) + 1)
  have hs2 := sc_rg xs (5 * (j : Int) + 2)
  have hs3 := sc_rg xs (5 * (j : Int) + 3)
  have hs4 := sc_rg xs (5 * (j : Int) + 4)
  by_cases b1 : 0 ≤ sc xs (5 * (j : Int) + 1) ∧ sc xs (5 * (j : Int) + 1) < (n : Int)
  · have b1 := b1
    by_cases b2 : 1 ≤ sc xs (5 * (j : Int) + 2) ∧ sc xs (5 * (j : Int) + 2) ≤ 5
    · have b2 := b2
      refine lv_aload_n C.hx C.hb dL_law_1470 rfl (lv_at hl 2 rfl) ?_
      refine lv_aload_n C.hx C.hb dL_law_1471 rfl (lv_at hl 1 rfl) ?_
      refine lv_iload C.hx C.hb dL_law_1472 (lv_at hl 0 rfl) ?_
      refine zr_iconst C.hx C.hb dL_law_1474 ?_
      refine zr_iadd (v := 5 * (j : Int) + 1) C.hx C.hb rfl dL_law_1475 ?_
      refine zr_sld (s := s.setDrawn d0) C.hx C.hb C.hX C.hbl C.hbA hS (i := 5 * (j : Int) + 1) (by omega) (by omega) C.hLN dL_law_1476 ?_
      refine lv_aload_n C.hx C.hb dL_law_1477 rfl (lv_at hl 1 rfl) ?_
      refine lv_iload C.hx C.hb dL_law_1478 (lv_at hl 0 rfl) ?_
      refine zr_iconst C.hx C.hb dL_law_1480 ?_
      refine zr_iadd (v := 5 * (j : Int) + 2) C.hx C.hb rfl dL_law_1481 ?_
      refine zr_sld (s := s.setDrawn d0) C.hx C.hb C.hX C.hbl C.hbA hS (i := 5 * (j : Int) + 2) (by omega) (by omega) C.hLN dL_law_1482 ?_
      refine lv_aload_n C.hx C.hb dL_law_1483 rfl (lv_at hl 4 rfl) ?_
      refine zcallLW (As := [.ref (q 0), .int (zI (sc xs (5 * (j : Int) + 1))), .int (zI (sc xs (5 * (j : Int) + 2))), .ref o]) (rest := []) ⟨C.hx, C.hb, C.hml, C.hown, dr_words C.hts _⟩ C.hK (kL_daysInok l D C.hl0 cI cZ cJ q o C.hN C.hN2 pa sp al dg co da mb dd ah wl lo n td wn f R.1.1 R.2.1.2.2.2.1 R.2.1.2.2.2.2.1 R.2.1.2.2.2.2.2.1 (re_dd1 R) (re_td1 R) (sc xs (5 * (j : Int) + 1)) (sc xs (5 * (j : Int) + 2)) (by omega) (by omega)) (vx_cwSW 4 (dr_words C.hts _) gL_law_L_daysIn rfl rfl rfl (by decide +kernel) ⟨Nat.le_of_ble_eq_true rfl, Nat.le_of_ble_eq_true rfl⟩) hC hO (C.tk hS) C.hE hS C.hA3 rfl hl.1 rfl (Nat.le_of_ble_eq_true rfl) dL_law_1484 ⟨C.ok1 hcs.1 (by omega), C.ok2 hcs.2 (by omega)⟩ (fun H locs hC hO hS _ hkk => ?_)
      have hM := zkeep hM hkk C.dM
      refine lv_istore (lv' := [(5, .int (zI 0)), (4, .int (zI (5 * (j : Int)))), (0, .ref b), (1, .ref (q 0)), (2, .ref (r 0)), (3, .ref o)]) C.hx C.hb dL_law_1487 hl (by decide) rfl (fun ls hl => ?_)
      refine lv_aload_n C.hx C.hb dL_law_1489 rfl (lv_at hl 4 rfl) ?_
      refine lv_aload_n C.hx C.hb dL_law_1490 rfl (lv_at hl 2 rfl) ?_
      refine lv_iload C.hx C.hb dL_law_1491 (lv_at hl 1 rfl) ?_
      refine zr_iconst C.hx C.hb dL_law_1493 ?_
      refine zr_iadd (v := 5 * (j : Int) + 1) C.hx C.hb rfl dL_law_1494 ?_
      refine zr_sld (s := s.setDrawn d0) C.hx C.hb C.hX C.hbl C.hbA hS (i := 5 * (j : Int) + 1) (by omega) (by omega) C.hLN dL_law_1495 ?_
      refine lv_aload_n C.hx C.hb dL_law_1496 rfl (lv_at hl 2 rfl) ?_
      refine lv_iload C.hx C.hb dL_law_1497 (lv_at hl 1 rfl) ?_
      refine zr_iconst C.hx C.hb dL_law_1499 ?_
      refine zr_iadd (v := 5 * (j : Int) + 2) C.hx C.hb rfl dL_law_1500 ?_
      refine zr_sld (s := s.setDrawn d0) C.hx C.hb C.hX C.hbl C.hbA hS (i := 5 * (j : Int) + 2) (by omega) (by omega) C.hLN dL_law_1501 ?_
      refine zcallV (ci := 3) (q0 := 0) (cq := (RX3, TX3, 12)) (As := [.int (zI (sc xs (5 * (j : Int) + 1))), .int (zI (sc xs (5 * (j : Int) + 2)))]) (rest := []) ⟨C.hx, C.hb, C.hml, C.hown, dr_words C.hts _⟩ C.hK2 (kX3_daysInok l D cI cZ r C.hNr pa sp al co' da' mo st mr th n td wn R.1.1 R.2.2.1.2.2 (re_td1 R) (sc xs (5 * (j : Int) + 1)) (sc xs (5 * (j : Int) + 2)) (by omega) (by omega) (by omega) (by omega) (by have := re_most180 R (p := sc xs (5 * (j : Int) + 1)) (by omega) (by omega); omega)) (cwV 2 (dr_words C.hts _) gL_law_X3_daysIn rfl rfl rfl (by decide +kernel) ⟨Nat.le_of_ble_eq_true rfl, Nat.le_of_ble_eq_true rfl⟩) hM hS C.hA2 rfl rfl rfl hl.1 rfl (Nat.le_of_ble_eq_true rfl) dL_law_1502 ⟨C.ok1 hcs.1 (by omega), C.ok2 hcs.2 (by omega)⟩ (fun H locs hM hS _ hkk => ?_)
      have hC := zkeep hC hkk C.dC
      have hO := zkeep hO hkk C.dO
      refine W.eq (g2 := F0 m 1505 ls [.int (zI (smF (eqF (wT mo n td (sc xs (5 * (j : Int) + 1))) (sc xs (5 * (j : Int) + 2))) (mxF (lM mo td (sc xs (5 * (j : Int) + 1))) n).toNat))]) rfl ?_
      refine lv_istore (lv' := [(6, .int (zI (smF (eqF (wT mo n td (sc xs (5 * (j : Int) + 1))) (sc xs (5 * (j : Int) + 2))) (mxF (lM mo td (sc xs (5 * (j : Int) + 1))) n).toNat))), (5, .int (zI 0)), (4, .int (zI (5 * (j : Int)))), (0, .ref b), (1, .ref (q 0)), (2, .ref (r 0)), (3, .ref o)]) C.hx C.hb dL_law_1505 hl (by decide) rfl (fun ls hl => ?_)
      refine lv_aload_n C.hx C.hb dL_law_1507 rfl (lv_at hl 5 rfl) ?_
      refine zcallV (ci := 3) (q0 := 0) (cq := (RX3, TX3, 12)) (As := []) (rest := []) ⟨C.hx, C.hb, C.hml, C.hown, dr_words C.hts _⟩ C.hK2 (kX3_thrown l D cI cZ r C.hNr pa sp al co' da' mo st mr 0 n td wn) (cwV 0 (dr_words C.hts _) gL_law_X3_thrown rfl rfl rfl (by decide +kernel) ⟨Nat.le_of_ble_eq_true rfl, Nat.le_of_ble_eq_true rfl⟩) hM hS C.hA2 rfl rfl rfl hl.1 rfl (Nat.le_of_ble_eq_true rfl) dL_law_1508 ⟨C.ok1 hcs.1 (by omega), C.ok2 hcs.2 (by omega)⟩ (fun H locs hM hS _ hkk => ?_)
      have hC := zkeep hC hkk C.dC
      have hO := zkeep hO hkk C.dO
      refine W.eq (g2 := F0 m 1511 ls [.int (zI 0)]) rfl ?_
      refine lv_iload C.hx C.hb dL_law_1511 (lv_at hl 1 rfl) ?_
      refine zr_icmp_eqT (tgt := 1518) C.hx C.hb (rfl) dL_law_1513 (by decide) ?_
      refine lv_iload C.hx C.hb dL_law_1518 (lv_at hl 1 rfl) ?_
      refine zr_if_ne (tgt := 1535) C.hx C.hb dL_law_1520 (by decide) ⟨by decide, by decide⟩ (fun h9 => by exfalso; revert h9; decide) (fun _ => ?_)
      refine lv_aload_n C.hx C.hb dL_law_1523 rfl (lv_at hl 6 rfl) ?_
      refine zr_iconst C.hx C.hb dL_law_1524 ?_
      refine zr_lald0 C.hx C.hb C.hK hO 0 2 rfl rfl dL_law_1525 ?_
      refine W.eq (g2 := F0 m 1526 ls [.long ((zI (smF (eqF (ca co da mb dd td n (sc xs (5 * (j : Int) + 1))) (sc xs (5 * (j : Int) + 2))) 180)).toInt64)]) rfl ?_
      refine lv_iload C.hx C.hb dL_law_1526 (lv_at hl 0 rfl) ?_
      refine lv_i2l C.hx C.hb dL_law_1528 rfl ?_
      refine zr_lcmp_eqT (tgt := 1535) C.hx C.hb (congrArg (fun z => (zI z).toInt64) (re_daysIn R (by omega) (by omega) (by omega))) dL_law_1529 dL_law_1530 (by decide) ?_
      refine lv_goto (tgt := 1825) C.hx C.hb dL_law_1535 (by decide) ?_
      refine W.widen (k := cells + 2) (n := slots + 12) (by omega) (by omega) ?_
      have hl := lv_sub hl (l' := [(4, .int (zI (5 * (j : Int)))), (0, .ref b), (1, .ref (q 0)), (2, .ref (r 0)), (3, .ref o)]) [2, 3, 4, 5, 6] rfl
      exact K _ hd0 H locs ls ⟨pa, sp, al, dg, co, da, mb, dd, ca co da mb dd td n (sc xs (5 * (j : Int) + 1)), wl, lo, n, td, wn, co', da', mo, st, mr, 0, (vp_updL f 0 (zI (smF (eqF (ca co da mb dd td n (sc xs (5 * (j : Int) + 1))) (sc xs (5 * (j : Int) + 2))) 180)).toInt64), R, by omega, hst, hmr, hC, hM, hO⟩ hS hl
    · have b2 := b2
      refine lv_aload_n C.hx C.hb dL_law_1470 rfl (lv_at hl 2 rfl) ?_
      refine lv_aload_n C.hx C.hb dL_law_1471 rfl (lv_at hl 1 rfl) ?_
      refine lv_iload C.hx C.hb dL_law_1472 (lv_at hl 0 rfl) ?_
      refine zr_iconst C.hx C.hb dL_law_1474 ?_
      refine zr_iadd (v := 5 * (j : Int) + 1) C.hx C.hb rfl dL_law_1475 ?_
      refine zr_sld (s := s.setDrawn d0) C.hx C.hb C.hX C.hbl C.hbA hS (i := 5 * (j : Int) + 1) (by omega) (by omega) C.hLN dL_law_1476 ?_
      refine lv_aload_n C.hx C.hb dL_law_1477 rfl (lv_at hl 1 rfl) ?_
      refine lv_iload C.hx C.hb dL_law_1478 (lv_at hl 0 rfl) ?_
      refine zr_iconst C.hx C.hb dL_law_1480 ?_
      refine zr_iadd (v := 5 * (j : Int) + 2) C.hx C.hb rfl dL_law_1481 ?_
      refine zr_sld (s := s.setDrawn d0) C.hx C.hb C.hX C.hbl C.hbA hS (i := 5 * (j : Int) + 2) (by omega) (by omega) C.hLN dL_law_1482 ?_
      refine lv_aload_n C.hx C.hb dL_law_1483 rfl (lv_at hl 4 rfl) ?_
      refine zcallLW (As := [.ref (q 0), .int (zI (sc xs (5 * (j : Int) + 1))), .int (zI (sc xs (5 * (j : Int) + 2))), .ref o]) (rest := []) ⟨C.hx, C.hb, C.hml, C.hown, dr_words C.hts _⟩ C.hK (kL_daysInx2 l D C.hl0 cI cZ cJ q o C.hN C.hN2 pa sp al dg co da mb dd ah wl lo n td wn f R.1.1 (sc xs (5 * (j : Int) + 1)) (sc xs (5 * (j : Int) + 2)) (by omega) (by omega) (by omega)) (vx_cwSW 4 (dr_words C.hts _) gL_law_L_daysIn rfl rfl rfl (by decide +kernel) ⟨Nat.le_of_ble_eq_true rfl, Nat.le_of_ble_eq_true rfl⟩) hC hO (C.tk hS) C.hE hS C.hA3 rfl hl.1 rfl (Nat.le_of_ble_eq_true rfl) dL_law_1484 ⟨C.ok1 hcs.1 (by omega), C.ok2 hcs.2 (by omega)⟩ (fun H locs hC hO hS _ hkk => ?_)
      have hM := zkeep hM hkk C.dM
      refine lv_istore (lv' := [(5, .int (zI 1)), (4, .int (zI (5 * (j : Int)))), (0, .ref b), (1, .ref (q 0)), (2, .ref (r 0)), (3, .ref o)]) C.hx C.hb dL_law_1487 hl (by decide) rfl (fun ls hl => ?_)
      refine lv_aload_n C.hx C.hb dL_law_1489 rfl (lv_at hl 4 rfl) ?_
      refine lv_aload_n C.hx C.hb dL_law_1490 rfl (lv_at hl 2 rfl) ?_
      refine lv_iload C.hx C.hb dL_law_1491 (lv_at hl 1 rfl) ?_
      refine zr_iconst C.hx C.hb dL_law_1493 ?_
      refine zr_iadd (v := 5 * (j : Int) + 1) C.hx C.hb rfl dL_law_1494 ?_
      refine zr_sld (s := s.setDrawn d0) C.hx C.hb C.hX C.hbl C.hbA hS (i := 5 * (j : Int) + 1) (by omega) (by omega) C.hLN dL_law_1495 ?_
      refine lv_aload_n C.hx C.hb dL_law_1496 rfl (lv_at hl 2 rfl) ?_
      refine lv_iload C.hx C.hb dL_law_1497 (lv_at hl 1 rfl) ?_
      refine zr_iconst C.hx C.hb dL_law_1499 ?_
      refine zr_iadd (v := 5 * (j : Int) + 2) C.hx C.hb rfl dL_law_1500 ?_
      refine zr_sld (s := s.setDrawn d0) C.hx C.hb C.hX C.hbl C.hbA hS (i := 5 * (j : Int) + 2) (by omega) (by omega) C.hLN dL_law_1501 ?_
      refine zcallV (ci := 3) (q0 := 0) (cq := (RX3, TX3, 12)) (As := [.int (zI (sc xs (5 * (j : Int) + 1))), .int (zI (sc xs (5 * (j : Int) + 2)))]) (rest := []) ⟨C.hx, C.hb, C.hml, C.hown, dr_words C.hts _⟩ C.hK2 (kX3_daysIne1 l D cI cZ r C.hNr pa sp al co' da' mo st mr th n td wn R.1.1 (sc xs (5 * (j : Int) + 1)) (sc xs (5 * (j : Int) + 2)) (by omega) (by omega) (by omega)) (cwV 2 (dr_words C.hts _) gL_law_X3_daysIn rfl rfl rfl (by decide +kernel) ⟨Nat.le_of_ble_eq_true rfl, Nat.le_of_ble_eq_true rfl⟩) hM hS C.hA2 rfl rfl rfl hl.1 rfl (Nat.le_of_ble_eq_true rfl) dL_law_1502 ⟨C.ok1 hcs.1 (by omega), C.ok2 hcs.2 (by omega)⟩ (fun H locs hM hS _ hkk => ?_)
      have hC := zkeep hC hkk C.dC
      have hO := zkeep hO hkk C.dO
      refine W.eq (g2 := F0 m 1505 ls [.int (zI 0)]) rfl ?_
      refine lv_istore (lv' := [(6, .int (zI 0)), (5, .int (zI 1)), (4, .int (zI (5 * (j : Int)))), (0, .ref b), (1, .ref (q 0)), (2, .ref (r 0)), (3, .ref o)]) C.hx C.hb dL_law_1505 hl (by decide) rfl (fun ls hl => ?_)
      refine lv_aload_n C.hx C.hb dL_law_1507 rfl (lv_at hl 5 rfl) ?_
      refine zcallV (ci := 3) (q0 := 0) (cq := (RX3, TX3, 12)) (As := []) (rest := []) ⟨C.hx, C.hb, C.hml, C.hown, dr_words C.hts _⟩ C.hK2 (kX3_thrown l D cI cZ r C.hNr pa sp al co' da' mo st mr 1 n td wn) (cwV 0 (dr_words C.hts _) gL_law_X3_thrown rfl rfl rfl (by decide +kernel) ⟨Nat.le_of_ble_eq_true rfl, Nat.le_of_ble_eq_true rfl⟩) hM hS C.hA2 rfl rfl rfl hl.1 rfl (Nat.le_of_ble_eq_true rfl) dL_law_1508 ⟨C.ok1 hcs.1 (by omega), C.ok2 hcs.2 (by omega)⟩ (fun H locs hM hS _ hkk => ?_)
      have hC := zkeep hC hkk C.dC
      have hO := zkeep hO hkk C.dO
      refine W.eq (g2 := F0 m 1511 ls [.int (zI 1)]) rfl ?_
      refine lv_iload C.hx C.hb dL_law_1511 (lv_at hl 1 rfl) ?_
      refine zr_icmp_eqT (tgt := 1518) C.hx C.hb (rfl) dL_law_1513 (by decide) ?_
      refine lv_iload C.hx C.hb dL_law_1518 (lv_at hl 1 rfl) ?_
      refine zr_if_ne (tgt := 1535) C.hx C.hb dL_law_1520 (by decide) ⟨by decide, by decide⟩ (fun _ => ?_) (fun h9 => by exfalso; revert h9; decide)
      refine lv_goto (tgt := 1825) C.hx C.hb dL_law_1535 (by decide) ?_
      refine W.widen (k := cells + 2) (n := slots + 12) (by omega) (by omega) ?_
      have hl := lv_sub hl (l' := [(4, .int (zI (5 * (j : Int)))), (0, .ref b), (1, .ref (q 0)), (2, .ref (r 0)), (3, .ref o)]) [2, 3, 4, 5, 6] rfl
      exact K _ hd0 H locs ls ⟨pa, sp, al, dg, co, da, mb, dd, ah, wl, lo, n, td, wn, co', da', mo, st, mr, 1, f, R, by omega, hst, hmr, hC, hM, hO⟩ hS hl
  · have b1 := b1
    refine lv_aload_n C.hx C.hb dL_law_1470 rfl (lv_at hl 2 rfl) ?_
    refine lv_aload_n C.hx C.hb dL_law_1471 rfl (lv_at hl 1 rfl) ?_
    refine lv_iload C.hx C.hb dL_law_1472 (lv_at hl 0 rfl) ?_
    refine zr_iconst C.hx C.hb dL_law_1474 ?_
    refine zr_iadd (v := 5 * (j : Int) + 1) C.hx C.hb rfl dL_law_1475 ?_
    refine zr_sld (s := s.setDrawn d0) C.hx C.hb C.hX C.hbl C.hbA hS (i := 5 * (j : Int) + 1) (by omega) (by omega) C.hLN dL_law_1476 ?_
    refine lv_aload_n C.hx C.hb dL_law_1477 rfl (lv_at hl 1 rfl) ?_
    refine lv_iload C.hx C.hb dL_law_1478 (lv_at hl 0 rfl) ?_
    refine zr_iconst C.hx C.hb dL_law_1480 ?_
    refine zr_iadd (v := 5 * (j : Int) + 2) C.hx C.hb rfl dL_law_1481 ?_
    refine zr_sld (s := s.setDrawn d0) C.hx C.hb C.hX C.hbl C.hbA hS (i := 5 * (j : Int) + 2) (by omega) (by omega) C.hLN dL_law_1482 ?_
    refine lv_aload_n C.hx C.hb dL_law_1483 rfl (lv_at hl 4 rfl) ?_
    refine zcallLW (As := [.ref (q 0), .int (zI (sc xs (5 * (j : Int) + 1))), .int (zI (sc xs (5 * (j : Int) + 2))), .ref o]) (rest := []) ⟨C.hx, C.hb, C.hml, C.hown, dr_words C.hts _⟩ C.hK (kL_daysInx1 l D C.hl0 cI cZ cJ q o C.hN C.hN2 pa sp al dg co da mb dd ah wl lo n td wn f R.1.1 (sc xs (5 * (j : Int) + 1)) (sc xs (5 * (j : Int) + 2)) (by omega) (by omega)) (vx_cwSW 4 (dr_words C.hts _) gL_law_L_daysIn rfl rfl rfl (by decide +kernel) ⟨Nat.le_of_ble_eq_true rfl, Nat.le_of_ble_eq_true rfl⟩) hC hO (C.tk hS) C.hE hS C.hA3 rfl hl.1 rfl (Nat.le_of_ble_eq_true rfl) dL_law_1484 ⟨C.ok1 hcs.1 (by omega), C.ok2 hcs.2 (by omega)⟩ (fun H locs hC hO hS _ hkk => ?_)
    have hM := zkeep hM hkk C.dM
    refine lv_istore (lv' := [(5, .int (zI 1)), (4, .int (zI (5 * (j : Int)))), (0, .ref b), (1, .ref (q 0)), (2, .ref (r 0)), (3, .ref o)]) C.hx C.hb dL_law_1487 hl (by decide) rfl (fun ls hl => ?_)
    refine lv_aload_n C.hx C.hb dL_law_1489 rfl (lv_at hl 4 rfl) ?_
    refine lv_aload_n C.hx C.hb dL_law_1490 rfl (lv_at hl 2 rfl) ?_
    refine lv_iload C.hx C.hb dL_law_1491 (lv_at hl 1 rfl) ?_
    refine zr_iconst C.hx C.hb dL_law_1493 ?_
    refine zr_iadd (v := 5 * (j : Int) + 1) C.hx C.hb rfl dL_law_1494 ?_
    refine zr_sld (s := s.setDrawn d0) C.hx C.hb C.hX C.hbl C.hbA hS (i := 5 * (j : Int) + 1) (by omega) (by omega) C.hLN dL_law_1495 ?_
    refine lv_aload_n C.hx C.hb dL_law_1496 rfl (lv_at hl 2 rfl) ?_
    refine lv_iload C.hx C.hb dL_law_1497 (lv_at hl 1 rfl) ?_
    refine zr_iconst C.hx C.hb dL_law_1499 ?_
    refine zr_iadd (v := 5 * (j : Int) + 2) C.hx C.hb rfl dL_law_1500 ?_
    refine zr_sld (s := s.setDrawn d0) C.hx C.hb C.hX C.hbl C.hbA hS (i := 5 * (j : Int) + 2) (by omega) (by omega) C.hLN dL_law_1501 ?_
    refine zcallV (ci := 3) (q0 := 0) (cq := (RX3, TX3, 12)) (As := [.int (zI (sc xs (5 * (j : Int) + 1))), .int (zI (sc xs (5 * (j : Int) + 2)))]) (rest := []) ⟨C.hx, C.hb, C.hml, C.hown, dr_words C.hts _⟩ C.hK2 (kX3_daysIne1 l D cI cZ r C.hNr pa sp al co' da' mo st mr th n td wn R.1.1 (sc xs (5 * (j : Int) + 1)) (sc xs (5 * (j : Int) + 2)) (by omega) (by omega) (by omega)) (cwV 2 (dr_words C.hts _) gL_law_X3_daysIn rfl rfl rfl (by decide +kernel) ⟨Nat.le_of_ble_eq_true rfl, Nat.le_of_ble_eq_true rfl⟩) hM hS C.hA2 rfl rfl rfl hl.1 rfl (Nat.le_of_ble_eq_true rfl) dL_law_1502 ⟨C.ok1 hcs.1 (by omega), C.ok2 hcs.2 (by omega)⟩ (fun H locs hM hS _ hkk => ?_)
    have hC := zkeep hC hkk C.dC
    have hO := zkeep hO hkk C.dO
    refine W.eq (g2 := F0 m 1505 ls [.int (zI 0)]) rfl ?_
    refine lv_istore (lv' := [(6, .int (zI 0)), (5, .int (zI 1)), (4, .int (zI (5 * (j : Int)))), (0, .ref b), (1, .ref (q 0)), (2, .ref (r 0)), (3, .ref o)]) C.hx C.hb dL_law_1505 hl (by decide) rfl (fun ls hl => ?_)
    refine lv_aload_n C.hx C.hb dL_law_1507 rfl (lv_at hl 5 rfl) ?_
    refine zcallV (ci := 3) (q0 := 0) (cq := (RX3, TX3, 12)) (As := []) (rest := []) ⟨C.hx, C.hb, C.hml, C.hown, dr_words C.hts _⟩ C.hK2 (kX3_thrown l D cI cZ r C.hNr pa sp al co' da' mo st mr 1 n td wn) (cwV 0 (dr_words C.hts _) gL_law_X3_thrown rfl rfl rfl (by decide +kernel) ⟨Nat.le_of_ble_eq_true rfl, Nat.le_of_ble_eq_true rfl⟩) hM hS C.hA2 rfl rfl rfl hl.1 rfl (Nat.le_of_ble_eq_true rfl) dL_law_1508 ⟨C.ok1 hcs.1 (by omega), C.ok2 hcs.2 (by omega)⟩ (fun H locs hM hS _ hkk => ?_)
    have hC := zkeep hC hkk C.dC
    have hO := zkeep hO hkk C.dO
    refine W.eq (g2 := F0 m 1511 ls [.int (zI 1)]) rfl ?_
    refine lv_iload C.hx C.hb dL_law_1511 (lv_at hl 1 rfl) ?_
    refine zr_icmp_eqT (tgt := 1518) C.hx C.hb (rfl) dL_law_1513 (by decide) ?_
    refine lv_iload C.hx C.hb dL_law_1518 (lv_at hl 1 rfl) ?_
    refine zr_if_ne (tgt := 1535) C.hx C.hb dL_law_1520 (by decide) ⟨by decide, by decide⟩ (fun _ => ?_) (fun h9 => by exfalso; revert h9; decide)
    refine lv_goto (tgt := 1825) C.hx C.hb dL_law_1535 (by decide) ?_
    refine W.widen (k := cells + 2) (n := slots + 12) (by omega) (by omega) ?_
    have hl := lv_sub hl (l' := [(4, .int (zI (5 * (j : Int)))), (0, .ref b), (1, .ref (q 0)), (2, .ref (r 0)), (3, .ref o)]) [2, 3, 4, 5, 6] rfl
    exact K _ hd0 H locs ls ⟨pa, sp, al, dg, co, da, mb, dd, ah, wl, lo, n, td, wn, co', da', mo, st, mr, 1, f, R, by omega, hst, hmr, hC, hM, hO⟩ hS hl
set_option maxHeartbeats 4000000 in
set_option maxRecDepth 100000 in
theorem law_c24 {p : Program} {l : Launch} {e : Env} {s : State} {m : MethodId} {below : List Frame} {meth : Method} {c : Code} {b L : Nat} {xs : Nat → Int32} {Q : State → Prop} {D : va_G} {cI cZ cJ : ClassId} {q r : Nat → Nat} {o : Nat} (C : zCx p l s m meth c b L xs D cI cZ cJ q r o) {d0 : Drawn} (hd0 : s.drawn.sameBut d0 lw_cs) {H : Heap} {locs : List Loc} {cells slots : Nat} (hcs : cells + 2 ≤ 601024 ∧ slots + 12 ≤ 7293034) {j : Nat} (hj : 5 * (j : Int) + 5 ≤ (L : Int)) (hj2 : j ≤ 512) {ls : Array Slot} (hZ : zLS D cI cZ cJ q r o j H) (hS : va_S (fun a => s.heap.size ≤ a) s.heap H locs) (hl : lv_has ls 9 [(4, .int (zI (5 * (j : Int)))), (0, .ref b), (1, .ref (q 0)), (2, .ref (r 0)), (3, .ref o)])
    (K : ∀ (d1 : Drawn), s.drawn.sameBut d1 lw_cs → ∀ (H1 : Heap) (locs1 : List Loc) (ls1 : Array Slot), zLS D cI cZ cJ q r o (j + 1) H1 → va_S (fun a => s.heap.size ≤ a) s.heap H1 locs1 → lv_has ls1 9 [(4, .int (zI (5 * (j : Int)))), (0, .ref b), (1, .ref (q 0)), (2, .ref (r 0)), (3, .ref o)] → W p l e room_1 (s.setDrawn d1) m #[Value.ref b] below meth c H1 locs1 (cells + 2) (slots + 12) Q (F0 m 1825 ls1 [])) :
    W p l e room_1 (s.setDrawn d0) m #[Value.ref b] below meth c H locs cells slots Q (F0 m 1538 ls []) := by
  obtain ⟨pa, sp, al, dg, co, da, mb, dd, ah, wl, lo, n, td, wn, co', da', mo, st, mr, th, f, R, htd, hst, hmr, hC, hM, hO⟩ := hZ
  have hn := R.1.1
  have htd0 := R.1.2
  have hLN := C.hLN
  have hs1 := sc_rg xs (5 * (j : Int) + 1)
  have hs2 := sc_rg xs (5 * (j : Int) + 2)
  have hs3 := sc_rg xs (5 * (j : Int) + 3)
  have hs4 := sc_rg xs (5 * (j : Int) + 4)
  by_cases b1 : 0 ≤ sc xs (5 * (j : Int) + 1) ∧ sc xs (5 * (j : Int) + 1) ≤ 5
  · have b1 := b1
    refine lv_aload_n C.hx C.hb dL_law_1538 rfl (lv_at hl 2 rfl) ?_
    refine lv_aload_n C.hx C.hb dL_law_1539 rfl (lv_at hl 1 rfl) ?_
    refine lv_iload C.hx C.hb dL_law_1540 (lv_at hl 0 rfl) ?_
    refine zr_iconst C.hx C.hb dL_law_1542 ?_
    refine zr_iadd (v := 5 * (j : Int) + 1) C.hx C.hb rfl dL_law_1543 ?_
    refine zr_sld (s := s.setDrawn d0) C.hx C.hb C.hX C.hbl C.hbA hS (i := 5 * (j : Int) + 1) (by omega) (by omega) C.hLN dL_law_1544 ?_
    refine lv_aload_n C.hx C.hb dL_law_1545 rfl (lv_at hl 4 rfl) ?_
    refine zcallLW (As := [.ref (q 0), .int (zI (sc xs (5 * (j : Int) + 1))), .ref o]) (rest := []) ⟨C.hx, C.hb, C.hml, C.hown, dr_words C.hts _⟩ C.hK (kL_wearingok l D C.hl0 cI cZ cJ q o C.hN C.hN2 pa sp al dg co da mb dd ah wl lo n td wn f R.1.1 R.2.1.2.2.2.1 R.2.1.2.2.2.2.1 R.2.1.2.2.2.2.2.1 (re_dd1 R) (re_td1 R) R.2.1.2.2.1 (sc xs (5 * (j : Int) + 1)) (by omega)) (vx_cwSW 3 (dr_words C.hts _) gL_law_L_wearing rfl rfl rfl (by decide +kernel) ⟨Nat.le_of_ble_eq_true rfl, Nat.le_of_ble_eq_true rfl⟩) hC hO (C.tk hS) C.hE hS C.hA3 rfl hl.1 rfl (Nat.le_of_ble_eq_true rfl) dL_law_1546 ⟨C.ok1 hcs.1 (by omega), C.ok2 hcs.2 (by omega)⟩ (fun H locs hC hO hS _ hkk => ?_)
    have hM := zkeep hM hkk C.dM
    refine lv_istore (lv' := [(5, .int (zI 0)), (4, .int (zI (5 * (j : Int)))), (0, .ref b), (1, .ref (q 0)), (2, .ref (r 0)), (3, .ref o)]) C.hx C.hb dL_law_1549 hl (by decide) rfl (fun ls hl => ?_)
    refine lv_aload_n C.hx C.hb dL_law_1551 rfl (lv_at hl 4 rfl) ?_
    refine lv_aload_n C.hx C.hb dL_law_1552 rfl (lv_at hl 2 rfl) ?_
    refine lv_iload C.hx C.hb dL_law_1553 (lv_at hl 1 rfl) ?_
    refine zr_iconst C.hx C.hb dL_law_1555 ?_
    refine zr_iadd (v := 5 * (j : Int) + 1) C.hx C.hb rfl dL_law_1556 ?_
    refine zr_sld (s := s.setDrawn d0) C.hx C.hb C.hX C.hbl C.hbA hS (i := 5 * (j : Int) + 1) (by omega) (by omega) C.hLN dL_law_1557 ?_
    refine zcallV (ci := 3) (q0 := 0) (cq := (RX3, TX3, 12)) (As := [.int (zI (sc xs (5 * (j : Int) + 1)))]) (rest := []) ⟨C.hx, C.hb, C.hml, C.hown, dr_words C.hts _⟩ C.hK2 (kX3_wearingok l D cI cZ r C.hNr pa sp al co' da' mo st mr th n td wn R.1.1 R.2.2.1.2.2 (re_td1 R) R.2.1.2.2.1 (sc xs (5 * (j : Int) + 1)) (by omega) (by omega)) (cwV 1 (dr_words C.hts _) gL_law_X3_wearing rfl rfl rfl (by decide +kernel) ⟨Nat.le_of_ble_eq_true rfl, Nat.le_of_ble_eq_true rfl⟩) hM hS C.hA2 rfl rfl rfl hl.1 rfl (Nat.le_of_ble_eq_true rfl) dL_law_1558 ⟨C.ok1 hcs.1 (by omega), C.ok2 hcs.2 (by omega)⟩ (fun H locs hM hS _ hkk => ?_)
    have hC := zkeep hC hkk C.dC
    have hO := zkeep hO hkk C.dO
    refine W.eq (g2 := F0 m 1561 ls [.int (zI (smF (weM al mo n td (sc xs (5 * (j : Int) + 1))) n))]) rfl ?_
    refine lv_istore (lv' := [(6, .int (zI (smF (weM al mo n td (sc xs (5 * (j : Int) + 1))) n))), (5, .int (zI 0)), (4, .int (zI (5 * (j : Int)))), (0, .ref b), (1, .ref (q 0)), (2, .ref (r 0)), (3, .ref o)]) C.hx C.hb dL_law_1561 hl (by decide) rfl (fun ls hl => ?_)
    refine lv_aload_n C.hx C.hb dL_law_1563 rfl (lv_at hl 5 rfl) ?_
    refine zcallV (ci := 3) (q0 := 0) (cq := (RX3, TX3, 12)) (As := []) (rest := []) ⟨C.hx, C.hb, C.hml, C.hown, dr_words C.hts _⟩ C.hK2 (kX3_thrown l D cI cZ r C.hNr pa sp al co' da' mo st mr 0 n td wn) (cwV 0 (dr_words C.hts _) gL_law_X3_thrown rfl rfl rfl (by decide +kernel) ⟨Nat.le_of_ble_eq_true rfl, Nat.le_of_ble_eq_true rfl⟩) hM hS C.hA2 rfl rfl rfl hl.1 rfl (Nat.le_of_ble_eq_true rfl) dL_law_1564 ⟨C.ok1 hcs.1 (by omega), C.ok2 hcs.2 (by omega)⟩ (fun H locs hM hS _ hkk => ?_)
    have hC := zkeep hC hkk C.dC
    have hO := zkeep hO hkk C.dO
    refine W.eq (g2 := F0 m 1567 ls [.int (zI 0)]) rfl ?_
    refine lv_iload C.hx C.hb dL_law_1567 (lv_at hl 1 rfl) ?_
    refine zr_icmp_eqT (tgt := 1574) C.hx C.hb (rfl) dL_law_1569 (by decide) ?_
    refine lv_iload C.hx C.hb dL_law_1574 (lv_at hl 1 rfl) ?_
    refine zr_if_ne (tgt := 1591) C.hx C.hb dL_law_1576 (by decide) ⟨by decide, by decide⟩ (fun h9 => by exfalso; revert h9; decide) (fun _ => ?_)
    refine lv_aload_n C.hx C.hb dL_law_1579 rfl (lv_at hl 6 rfl) ?_
    refine zr_iconst C.hx C.hb dL_law_1580 ?_
    refine zr_lald0 C.hx C.hb C.hK hO 0 2 rfl rfl dL_law_1581 ?_
    refine W.eq (g2 := F0 m 1582 ls [.long ((zI (smF (cwF al co da mb dd td n (sc xs (5 * (j : Int) + 1))) n)).toInt64)]) rfl ?_
    refine lv_iload C.hx C.hb dL_law_1582 (lv_at hl 0 rfl) ?_
    refine lv_i2l C.hx C.hb dL_law_1584 rfl ?_
    refine zr_lcmp_eqT (tgt := 1591) C.hx C.hb (congrArg (fun z => (zI z).toInt64) (re_wear R _)) dL_law_1585 dL_law_1586 (by decide) ?_
    refine lv_goto (tgt := 1825) C.hx C.hb dL_law_1591 (by decide) ?_
    refine W.widen (k := cells + 2) (n := slots + 12) (by omega) (by omega) ?_
    have hl := lv_sub hl (l' := [(4, .int (zI (5 * (j : Int)))), (0, .ref b), (1, .ref (q 0)), (2, .ref (r 0)), (3, .ref o)]) [2, 3, 4, 5, 6] rfl
    exact K _ hd0 H locs ls ⟨pa, sp, al, dg, co, da, mb, dd, ah, wl, lo, n, td, wn, co', da', mo, st, mr, 0, (vp_updL f 0 (zI (smF (cwF al co da mb dd td n (sc xs (5 * (j : Int) + 1))) n)).toInt64), R, by omega, hst, hmr, hC, hM, hO⟩ hS hl
  · have b1 := b1
    refine lv_aload_n C.hx C.hb dL_law_1538 rfl (lv_at hl 2 rfl) ?_
    refine lv_aload_n C.hx C.hb dL_law_1539 rfl (lv_at hl 1 rfl) ?_
    refine lv_iload C.hx C.hb dL_law_1540 (lv_at hl 0 rfl) ?_
    refine zr_iconst C.hx C.hb dL_law_1542 ?_
    refine zr_iadd (v := 5 * (j : Int) + 1) C.hx C.hb rfl dL_law_1543 ?_
    refine zr_sld (s := s.setDrawn d0) C.hx C.hb C.hX C.hbl C.hbA hS (i := 5 * (j : Int) + 1) (by omega) (by omega) C.hLN dL_law_1544 ?_
    refine lv_aload_n C.hx C.hb dL_law_1545 rfl (lv_at hl 4 rfl) ?_
    refine zcallLW (As := [.ref (q 0), .int (zI (sc xs (5 * (j : Int) + 1))), .ref o]) (rest := []) ⟨C.hx, C.hb, C.hml, C.hown, dr_words C.hts _⟩ C.hK (kL_wearingx1 l D C.hl0 cI cZ cJ q o C.hN C.hN2 pa sp al dg co da mb dd ah wl lo n td wn f (sc xs (5 * (j : Int) + 1)) (by omega) (by omega)) (vx_cwSW 3 (dr_words C.hts _) gL_law_L_wearing rfl rfl rfl (by decide +kernel) ⟨Nat.le_of_ble_eq_true rfl, Nat.le_of_ble_eq_true rfl⟩) hC hO (C.tk hS) C.hE hS C.hA3 rfl hl.1 rfl (Nat.le_of_ble_eq_true rfl) dL_law_1546 ⟨C.ok1 hcs.1 (by omega), C.ok2 hcs.2 (by omega)⟩ (fun H locs hC hO hS _ hkk => ?_)
    have hM := zkeep hM hkk C.dM
    refine lv_istore (lv' := [(5, .int (zI 1)), (4, .int (zI (5 * (j : Int)))), (0, .ref b), (1, .ref (q 0)), (2, .ref (r 0)), (3, .ref o)]) C.hx C.hb dL_law_1549 hl (by decide) rfl (fun ls hl => ?_)
    refine lv_aload_n C.hx C.hb dL_law_1551 rfl (lv_at hl 4 rfl) ?_
    refine lv_aload_n C.hx C.hb dL_law_1552 rfl (lv_at hl 2 rfl) ?_
    refine lv_iload C.hx C.hb dL_law_1553 (lv_at hl 1 rfl) ?_
    refine zr_iconst C.hx C.hb dL_law_1555 ?_
    refine zr_iadd (v := 5 * (j : Int) + 1) C.hx C.hb rfl dL_law_1556 ?_
    refine zr_sld (s := s.setDrawn d0) C.hx C.hb C.hX C.hbl C.hbA hS (i := 5 * (j : Int) + 1) (by omega) (by omega) C.hLN dL_law_1557 ?_
    refine zcallV (ci := 3) (q0 := 0) (cq := (RX3, TX3, 12)) (As := [.int (zI (sc xs (5 * (j : Int) + 1)))]) (rest := []) ⟨C.hx, C.hb, C.hml, C.hown, dr_words C.hts _⟩ C.hK2 (kX3_wearinge1 l D cI cZ r C.hNr pa sp al co' da' mo st mr th n td wn (sc xs (5 * (j : Int) + 1)) (by omega) (by omega)) (cwV 1 (dr_words C.hts _) gL_law_X3_wearing rfl rfl rfl (by decide +kernel) ⟨Nat.le_of_ble_eq_true rfl, Nat.le_of_ble_eq_true rfl⟩) hM hS C.hA2 rfl rfl rfl hl.1 rfl (Nat.le_of_ble_eq_true rfl) dL_law_1558 ⟨C.ok1 hcs.1 (by omega), C.ok2 hcs.2 (by omega)⟩ (fun H locs hM hS _ hkk => ?_)
    have hC := zkeep hC hkk C.dC
    have hO := zkeep hO hkk C.dO
    refine W.eq (g2 := F0 m 1561 ls [.int (zI 0)]) rfl ?_
    refine lv_istore (lv' := [(6, .int (zI 0)), (5, .int (zI 1)), (4, .int (zI (5 * (j : Int)))), (0, .ref b), (1, .ref (q 0)), (2, .ref (r 0)), (3, .ref o)]) C.hx C.hb dL_law_1561 hl (by decide) rfl (fun ls hl => ?_)
    refine lv_aload_n C.hx C.hb dL_law_1563 rfl (lv_at hl 5 rfl) ?_
    refine zcallV (ci := 3) (q0 := 0) (cq := (RX3, TX3, 12)) (As := []) (rest := []) ⟨C.hx, C.hb, C.hml, C.hown, dr_words C.hts _⟩ C.hK2 (kX3_thrown l D cI cZ r C.hNr pa sp al co' da' mo st mr 1 n td wn) (cwV 0 (dr_words C.hts _) gL_law_X3_thrown rfl rfl rfl (by decide +kernel) ⟨Nat.le_of_ble_eq_true rfl, Nat.le_of_ble_eq_true rfl⟩) hM hS C.hA2 rfl rfl rfl hl.1 rfl (Nat.le_of_ble_eq_true rfl) dL_law_1564 ⟨C.ok1 hcs.1 (by omega), C.ok2 hcs.2 (by omega)⟩ (fun H locs hM hS _ hkk => ?_)
    have hC := zkeep hC hkk C.dC
    have hO := zkeep hO hkk C.dO
    refine W.eq (g2 := F0 m 1567 ls [.int (zI 1)]) rfl ?_
    refine lv_iload C.hx C.hb dL_law_1567 (lv_at hl 1 rfl) ?_
    refine zr_icmp_eqT (tgt := 1574) C.hx C.hb (rfl) dL_law_1569 (by decide) ?_
    refine lv_iload C.hx C.hb dL_law_1574 (lv_at hl 1 rfl) ?_
    refine zr_if_ne (tgt := 1591) C.hx C.hb dL_law_1576 (by decide) ⟨by decide, by decide⟩ (fun _ => ?_) (fun h9 => by exfalso; revert h9; decide)
    refine lv_goto (tgt := 1825) C.hx C.hb dL_law_1591 (by decide) ?_
    refine W.widen (k := cells + 2) (n := slots + 12) (by omega) (by omega) ?_
    have hl := lv_sub hl (l' := [(4, .int (zI (5 * (j : Int)))), (0, .ref b), (1, .ref (q 0)), (2, .ref (r 0)), (3, .ref o)]) [2, 3, 4, 5, 6] rfl
    exact K _ hd0 H locs ls ⟨pa, sp, al, dg, co, da, mb, dd, ah, wl, lo, n, td, wn, co', da', mo, st, mr, 1, f, R, by omega, hst, hmr, hC, hM, hO⟩ hS hl
set_option maxHeartbeats 4000000 in
set_option maxRecDepth 100000 in
theorem law_c25 {p : Program} {l : Launch} {e : Env} {s : State} {m : MethodId} {below : List Frame} {meth : Method} {c : Code} {b L : Nat} {xs : Nat → Int32} {Q : State → Prop} {D : va_G} {cI cZ cJ : ClassId} {q r : Nat → Nat} {o : Nat} (C : zCx p l s m meth c b L xs D cI cZ cJ q r o) {d0 : Drawn} (hd0 : s.drawn.sameBut d0 lw_cs) {H : Heap} {locs : List Loc} {cells slots : Nat} (hcs : cells + 2 ≤ 601024 ∧ slots + 12 ≤ 7293034) {j : Nat} (hj : 5 * (j : Int) + 5 ≤ (L : Int)) (hj2 : j ≤ 512) {ls : Array Slot} (hZ : zLS D cI cZ cJ q r o j H) (hS : va_S (fun a => s.heap.size ≤ a) s.heap H locs) (hl : lv_has ls 9 [(4, .int (zI (5 * (j : Int)))), (0, .ref b), (1, .ref (q 0)), (2, .ref (r 0)), (3, .ref o)])
    (K : ∀ (d1 : Drawn), s.drawn.sameBut d1 lw_cs → ∀ (H1 : Heap) (locs1 : List Loc) (ls1 : Array Slot), zLS D cI cZ cJ q r o (j + 1) H1 → va_S (fun a => s.heap.size ≤ a) s.heap H1 locs1 → lv_has ls1 9 [(4, .int (zI (5 * (j : Int)))), (0, .ref b), (1, .ref (q 0)), (2, .ref (r 0)), (3, .ref o)] → W p l e room_1 (s.setDrawn d1) m #[Value.ref b] below meth c H1 locs1 (cells + 2) (slots + 12) Q (F0 m 1825 ls1 [])) :
    W p l e room_1 (s.setDrawn d0) m #[Value.ref b] below meth c H locs cells slots Q (F0 m 1594 ls []) := by
  obtain ⟨pa, sp, al, dg, co, da, mb, dd, ah, wl, lo, n, td, wn, co', da', mo, st, mr, th, f, R, htd, hst, hmr, hC, hM, hO⟩ := hZ
  have hn := R.1.1
  have htd0 := R.1.2
  have hLN := C.hLN
  have hs1 := sc_rg xs (5 * (j : Int) + 1)
  have hs2 := sc_rg xs (5 * (j : Int) + 2)
  have hs3 := sc_rg xs (5 * (j : Int) + 3)
  have hs4 := sc_rg xs (5 * (j : Int) + 4)
  refine lv_aload_n C.hx C.hb dL_law_1594 rfl (lv_at hl 2 rfl) ?_
  refine zcallV (ci := 2) (q0 := 0) (cq := (RX2, TX2, 9)) (As := []) (rest := []) ⟨C.hx, C.hb, C.hml, C.hown, dr_words C.hts _⟩ C.hK2 (kX2_strictest l D cI cZ q C.hN pa sp al dg co da mb dd ah wl lo n td wn R.1.1 R.2.1.2.2.2.1 R.2.1.2.2.2.2.1 R.2.1.2.2.2.2.2.1 (re_dd1 R) (re_td1 R)) (cwV 0 (dr_words C.hts _) gL_law_X2_strictest rfl rfl rfl (by decide +kernel) ⟨Nat.le_of_ble_eq_true rfl, Nat.le_of_ble_eq_true rfl⟩) hC hS C.hA1 rfl rfl rfl hl.1 rfl (Nat.le_of_ble_eq_true rfl) dL_law_1595 ⟨C.ok1 hcs.1 (by omega), C.ok2 hcs.2 (by omega)⟩ (fun H locs hC hS _ hkk => ?_)
  have hM := zkeep hM hkk C.dM2
  have hO := zkeep hO hkk C.dO2
  refine W.eq (g2 := F0 m 1598 ls [.int (zI (mxF (caZ co da mb dd td n) n))]) rfl ?_
  refine lv_aload_n C.hx C.hb dL_law_1598 rfl (lv_at hl 3 rfl) ?_
  refine zcallV (ci := 3) (q0 := 0) (cq := (RX3, TX3, 12)) (As := []) (rest := [.int (zI (mxF (caZ co da mb dd td n) n))]) ⟨C.hx, C.hb, C.hml, C.hown, dr_words C.hts _⟩ C.hK2 (kX3_strictest l D cI cZ r C.hNr pa sp al co' da' mo st mr th n td wn R.1.1 R.2.2.1.2.2 (re_td1 R)) (cwV 0 (dr_words C.hts _) gL_law_X3_strictest rfl rfl rfl (by decide +kernel) ⟨Nat.le_of_ble_eq_true rfl, Nat.le_of_ble_eq_true rfl⟩) hM hS C.hA2 rfl rfl rfl hl.1 rfl (Nat.le_of_ble_eq_true rfl) dL_law_1599 ⟨C.ok1 hcs.1 (by omega), C.ok2 hcs.2 (by omega)⟩ (fun H locs hM hS _ hkk => ?_)
  have hC := zkeep hC hkk C.dC
  have hO := zkeep hO hkk C.dO
  refine W.eq (g2 := F0 m 1602 ls [.int (zI (mxF (wsZ mo n td) n)), .int (zI (mxF (caZ co da mb dd td n) n))]) rfl ?_
  refine zr_icmp_eqT (tgt := 1825) C.hx C.hb (congrArg zI (re_strict R)) dL_law_1602 (by decide) ?_
  refine W.widen (k := cells + 2) (n := slots + 12) (by omega) (by omega) ?_
  have hl := lv_sub hl (l' := [(4, .int (zI (5 * (j : Int)))), (0, .ref b), (1, .ref (q 0)), (2, .ref (r 0)), (3, .ref o)]) [0, 1, 2, 3, 4] rfl
  exact K _ hd0 H locs ls ⟨pa, sp, al, dg, co, da, mb, dd, ah, wl, lo, n, td, wn, co', da', mo, st, mr, 0, f, R, by omega, hst, hmr, hC, hM, hO⟩ hS hl
set_option maxHeartbeats 4000000 in
set_option maxRecDepth 100000 in
theorem law_c26 {p : Program} {l : Launch} {e : Env} {s : State} {m : MethodId} {below : List Frame} {meth : Method} {c : Code} {b L : Nat} {xs : Nat → Int32} {Q : State → Prop} {D : va_G} {cI cZ cJ : ClassId} {q r : Nat → Nat} {o : Nat} (C : zCx p l s m meth c b L xs D cI cZ cJ q r o) {d0 : Drawn} (hd0 : s.drawn.sameBut d0 lw_cs) {H : Heap} {locs : List Loc} {cells slots : Nat} (hcs : cells + 2 ≤ 601024 ∧ slots + 12 ≤ 7293034) {j : Nat} (hj : 5 * (j : Int) + 5 ≤ (L : Int)) (hj2 : j ≤ 512) {ls : Array Slot} (hZ : zLS D cI cZ cJ q r o j H) (hS : va_S (fun a => s.heap.size ≤ a) s.heap H locs) (hl : lv_has ls 9 [(4, .int (zI (5 * (j : Int)))), (0, .ref b), (1, .ref (q 0)), (2, .ref (r 0)), (3, .ref o)])
    (K : ∀ (d1 : Drawn), s.drawn.sameBut d1 lw_cs → ∀ (H1 : Heap) (locs1 : List Loc) (ls1 : Array Slot), zLS D cI cZ cJ q r o (j + 1) H1 → va_S (fun a => s.heap.size ≤ a) s.heap H1 locs1 → lv_has ls1 9 [(4, .int (zI (5 * (j : Int)))), (0, .ref b), (1, .ref (q 0)), (2, .ref (r 0)), (3, .ref o)] → W p l e room_1 (s.setDrawn d1) m #[Value.ref b] below meth c H1 locs1 (cells + 2) (slots + 12) Q (F0 m 1825 ls1 [])) :
    W p l e room_1 (s.setDrawn d0) m #[Value.ref b] below meth c H locs cells slots Q (F0 m 1607 ls []) := by
  obtain ⟨pa, sp, al, dg, co, da, mb, dd, ah, wl, lo, n, td, wn, co', da', mo, st, mr, th, f, R, htd, hst, hmr, hC, hM, hO⟩ := hZ
  have hn := R.1.1
  have htd0 := R.1.2
  have hLN := C.hLN
  have hs1 := sc_rg xs (5 * (j : Int) + 1)
  have hs2 := sc_rg xs (5 * (j : Int) + 2)
  have hs3 := sc_rg xs (5 * (j : Int) + 3)
  have hs4 := sc_rg xs (5 * (j : Int) + 4)
  refine lv_aload_n C.hx C.hb dL_law_1607 rfl (lv_at hl 2 rfl) ?_
  refine zcallV (ci := 2) (q0 := 0) (cq := (RX2, TX2, 9)) (As := []) (rest := []) ⟨C.hx, C.hb, C.hml, C.hown, dr_words C.hts _⟩ C.hK2 (kX2_longestMourner l D cI cZ q C.hN pa sp al dg co da mb dd ah wl lo n td wn R.1.1 R.2.1.2.2.2.2.1 R.2.1.2.2.2.2.2.1 (re_dd1 R) (re_td1 R)) (cwV 0 (dr_words C.hts _) gL_law_X2_longestMourner rfl rfl rfl (by decide +kernel) ⟨Nat.le_of_ble_eq_true rfl, Nat.le_of_ble_eq_true rfl⟩) hC hS C.hA1 rfl rfl rfl hl.1 rfl (Nat.le_of_ble_eq_true rfl) dL_law_1608 ⟨C.ok1 hcs.1 (by omega), C.ok2 hcs.2 (by omega)⟩ (fun H locs hC hS _ hkk => ?_)
  have hM := zkeep hM hkk C.dM2
  have hO := zkeep hO hkk C.dO2
  refine W.eq (g2 := F0 m 1611 ls [.int (zI (lgF (llS da mb dd td n) n))]) rfl ?_
  refine lv_aload_n C.hx C.hb dL_law_1611 rfl (lv_at hl 3 rfl) ?_
  refine zcallV (ci := 3) (q0 := 0) (cq := (RX3, TX3, 12)) (As := []) (rest := [.int (zI (lgF (llS da mb dd td n) n))]) ⟨C.hx, C.hb, C.hml, C.hown, dr_words C.hts _⟩ C.hK2 (kX3_longestMourner l D cI cZ r C.hNr pa sp al co' da' mo st mr th n td wn R.1.1 R.2.2.1.2.2 (re_td1 R)) (cwV 0 (dr_words C.hts _) gL_law_X3_longestMourner rfl rfl rfl (by decide +kernel) ⟨Nat.le_of_ble_eq_true rfl, Nat.le_of_ble_eq_true rfl⟩) hM hS C.hA2 rfl rfl rfl hl.1 rfl (Nat.le_of_ble_eq_true rfl) dL_law_1612 ⟨C.ok1 hcs.1 (by omega), C.ok2 hcs.2 (by omega)⟩ (fun H locs hM hS _ hkk => ?_)
  have hC := zkeep hC hkk C.dC
  have hO := zkeep hO hkk C.dO
  refine W.eq (g2 := F0 m 1615 ls [.int (zI (lgF (moS mo n td) n)), .int (zI (lgF (llS da mb dd td n) n))]) rfl ?_
  refine zr_icmp_eqT (tgt := 1825) C.hx C.hb (congrArg zI (re_longest R)) dL_law_1615 (by decide) ?_
  refine W.widen (k := cells + 2) (n := slots + 12) (by omega) (by omega) ?_
  have hl := lv_sub hl (l' := [(4, .int (zI (5 * (j : Int)))), (0, .ref b), (1, .ref (q 0)), (2, .ref (r 0)), (3, .ref o)]) [0, 1, 2, 3, 4] rfl
  exact K _ hd0 H locs ls ⟨pa, sp, al, dg, co, da, mb, dd, ah, wl, lo, n, td, wn, co', da', mo, st, mr, 0, f, R, by omega, hst, hmr, hC, hM, hO⟩ hS hl
set_option maxHeartbeats 4000000 in
set_option maxRecDepth 100000 in
theorem law_c27 {p : Program} {l : Launch} {e : Env} {s : State} {m : MethodId} {below : List Frame} {meth : Method} {c : Code} {b L : Nat} {xs : Nat → Int32} {Q : State → Prop} {D : va_G} {cI cZ cJ : ClassId} {q r : Nat → Nat} {o : Nat} (C : zCx p l s m meth c b L xs D cI cZ cJ q r o) {d0 : Drawn} (hd0 : s.drawn.sameBut d0 lw_cs) {H : Heap} {locs : List Loc} {cells slots : Nat} (hcs : cells + 2 ≤ 601024 ∧ slots + 12 ≤ 7293034) {j : Nat} (hj : 5 * (j : Int) + 5 ≤ (L : Int)) (hj2 : j ≤ 512) {ls : Array Slot} (hZ : zLS D cI cZ cJ q r o j H) (hS : va_S (fun a => s.heap.size ≤ a) s.heap H locs) (hl : lv_has ls 9 [(4, .int (zI (5 * (j : Int)))), (0, .ref b), (1, .ref (q 0)), (2, .ref (r 0)), (3, .ref o)])
    (K : ∀ (d1 : Drawn), s.drawn.sameBut d1 lw_cs → ∀ (H1 : Heap) (locs1 : List Loc) (ls1 : Array Slot), zLS D cI cZ cJ q r o (j + 1) H1 → va_S (fun a => s.heap.size ≤ a) s.heap H1 locs1 → lv_has ls1 9 [(4, .int (zI (5 * (j : Int)))), (0, .ref b), (1, .ref (q 0)), (2, .ref (r 0)), (3, .ref o)] → W p l e room_1 (s.setDrawn d1) m #[Value.ref b] below meth c H1 locs1 (cells + 2) (slots + 12) Q (F0 m 1825 ls1 [])) :
    W p l e room_1 (s.setDrawn d0) m #[Value.ref b] below meth c H locs cells slots Q (F0 m 1620 ls []) := by
  obtain ⟨pa, sp, al, dg, co, da, mb, dd, ah, wl, lo, n, td, wn, co', da', mo, st, mr, th, f, R, htd, hst, hmr, hC, hM, hO⟩ := hZ
  have hn := R.1.1
  have htd0 := R.1.2
  have hLN := C.hLN
  have hs1 := sc_rg xs (5 * (j : Int) + 1)
  have hs2 := sc_rg xs (5 * (j : Int) + 2)
  have hs3 := sc_rg xs (5 * (j : Int) + 3)
  have hs4 := sc_rg xs (5 * (j : Int) + 4)
  refine lv_aload_n C.hx C.hb dL_law_1620 rfl (lv_at hl 2 rfl) ?_
  refine zcallV (ci := 2) (q0 := 0) (cq := (RX2, TX2, 9)) (As := []) (rest := []) ⟨C.hx, C.hb, C.hml, C.hown, dr_words C.hts _⟩ C.hK2 (kX2_daysWorn l D cI cZ q C.hN pa sp al dg co da mb dd ah wl lo n td wn) (cwV 0 (dr_words C.hts _) gL_law_X2_daysWorn rfl rfl rfl (by decide +kernel) ⟨Nat.le_of_ble_eq_true rfl, Nat.le_of_ble_eq_true rfl⟩) hC hS C.hA1 rfl rfl rfl hl.1 rfl (Nat.le_of_ble_eq_true rfl) dL_law_1621 ⟨C.ok1 hcs.1 (by omega), C.ok2 hcs.2 (by omega)⟩ (fun H locs hC hS _ hkk => ?_)
  have hM := zkeep hM hkk C.dM2
  have hO := zkeep hO hkk C.dO2
  refine W.eq (g2 := F0 m 1624 ls [.int (zI wn)]) rfl ?_
  refine lv_aload_n C.hx C.hb dL_law_1624 rfl (lv_at hl 3 rfl) ?_
  refine zcallV (ci := 3) (q0 := 0) (cq := (RX3, TX3, 12)) (As := []) (rest := [.int (zI wn)]) ⟨C.hx, C.hb, C.hml, C.hown, dr_words C.hts _⟩ C.hK2 (kX3_daysWorn l D cI cZ r C.hNr pa sp al co' da' mo st mr th n td wn) (cwV 0 (dr_words C.hts _) gL_law_X3_daysWorn rfl rfl rfl (by decide +kernel) ⟨Nat.le_of_ble_eq_true rfl, Nat.le_of_ble_eq_true rfl⟩) hM hS C.hA2 rfl rfl rfl hl.1 rfl (Nat.le_of_ble_eq_true rfl) dL_law_1625 ⟨C.ok1 hcs.1 (by omega), C.ok2 hcs.2 (by omega)⟩ (fun H locs hM hS _ hkk => ?_)
  have hC := zkeep hC hkk C.dC
  have hO := zkeep hO hkk C.dO
  refine W.eq (g2 := F0 m 1628 ls [.int (zI wn), .int (zI wn)]) rfl ?_
  refine zr_icmp_eqT (tgt := 1825) C.hx C.hb (rfl) dL_law_1628 (by decide) ?_
  refine W.widen (k := cells + 2) (n := slots + 12) (by omega) (by omega) ?_
  have hl := lv_sub hl (l' := [(4, .int (zI (5 * (j : Int)))), (0, .ref b), (1, .ref (q 0)), (2, .ref (r 0)), (3, .ref o)]) [0, 1, 2, 3, 4] rfl
  exact K _ hd0 H locs ls ⟨pa, sp, al, dg, co, da, mb, dd, ah, wl, lo, n, td, wn, co', da', mo, st, mr, 0, f, R, by omega, hst, hmr, hC, hM, hO⟩ hS hl
set_option maxHeartbeats 4000000 in
set_option maxRecDepth 100000 in
theorem law_c28 {p : Program} {l : Launch} {e : Env} {s : State} {m : MethodId} {below : List Frame} {meth : Method} {c : Code} {b L : Nat} {xs : Nat → Int32} {Q : State → Prop} {D : va_G} {cI cZ cJ : ClassId} {q r : Nat → Nat} {o : Nat} (C : zCx p l s m meth c b L xs D cI cZ cJ q r o) {d0 : Drawn} (hd0 : s.drawn.sameBut d0 lw_cs) {H : Heap} {locs : List Loc} {cells slots : Nat} (hcs : cells + 2 ≤ 601024 ∧ slots + 12 ≤ 7293034) {j : Nat} (hj : 5 * (j : Int) + 5 ≤ (L : Int)) (hj2 : j ≤ 512) {ls : Array Slot} (hZ : zLS D cI cZ cJ q r o j H) (hS : va_S (fun a => s.heap.size ≤ a) s.heap H locs) (hl : lv_has ls 9 [(4, .int (zI (5 * (j : Int)))), (0, .ref b), (1, .ref (q 0)), (2, .ref (r 0)), (3, .ref o)])
    (K : ∀ (d1 : Drawn), s.drawn.sameBut d1 lw_cs → ∀ (H1 : Heap) (locs1 : List Loc) (ls1 : Array Slot), zLS D cI cZ cJ q r o (j + 1) H1 → va_S (fun a => s.heap.size ≤ a) s.heap H1 locs1 → lv_has ls1 9 [(4, .int (zI (5 * (j : Int)))), (0, .ref b), (1, .ref (q 0)), (2, .ref (r 0)), (3, .ref o)] → W p l e room_1 (s.setDrawn d1) m #[Value.ref b] below meth c H1 locs1 (cells + 2) (slots + 12) Q (F0 m 1825 ls1 [])) :
    W p l e room_1 (s.setDrawn d0) m #[Value.ref b] below meth c H locs cells slots Q (F0 m 1633 ls []) := by
  obtain ⟨pa, sp, al, dg, co, da, mb, dd, ah, wl, lo, n, td, wn, co', da', mo, st, mr, th, f, R, htd, hst, hmr, hC, hM, hO⟩ := hZ
  have hn := R.1.1
  have htd0 := R.1.2
  have hLN := C.hLN
  have hs1 := sc_rg xs (5 * (j : Int) + 1)
  have hs2 := sc_rg xs (5 * (j : Int) + 2)
  have hs3 := sc_rg xs (5 * (j : Int) + 3)
  have hs4 := sc_rg xs (5 * (j : Int) + 4)
  by_cases b1 : 0 ≤ sc xs (5 * (j : Int) + 1) ∧ sc xs (5 * (j : Int) + 1) < (n : Int)
  · have b1 := b1
    by_cases b2 : al (sc xs (5 * (j : Int) + 1)) = 0
    · have b2 := b2
      refine lv_aload_n C.hx C.hb dL_law_1633 rfl (lv_at hl 2 rfl) ?_
      refine lv_aload_n C.hx C.hb dL_law_1634 rfl (lv_at hl 1 rfl) ?_
      refine lv_iload C.hx C.hb dL_law_1635 (lv_at hl 0 rfl) ?_
      refine zr_iconst C.hx C.hb dL_law_1637 ?_
      refine zr_iadd (v := 5 * (j : Int) + 1) C.hx C.hb rfl dL_law_1638 ?_
      refine zr_sld (s := s.setDrawn d0) C.hx C.hb C.hX C.hbl C.hbA hS (i := 5 * (j : Int) + 1) (by omega) (by omega) C.hLN dL_law_1639 ?_
      refine lv_aload_n C.hx C.hb dL_law_1640 rfl (lv_at hl 4 rfl) ?_
      refine zcallLW (As := [.ref (q 0), .int (zI (sc xs (5 * (j : Int) + 1))), .ref o]) (rest := []) ⟨C.hx, C.hb, C.hml, C.hown, dr_words C.hts _⟩ C.hK (kL_wouldMournx2 l D C.hl0 cI cZ cJ q o C.hN C.hN2 pa sp al dg co da mb dd ah wl lo n td wn f R.1.1 R.2.1.2.2.1 (sc xs (5 * (j : Int) + 1)) (by omega) (by omega)) (vx_cwSW 3 (dr_words C.hts _) gL_law_L_wouldMourn rfl rfl rfl (by decide +kernel) ⟨Nat.le_of_ble_eq_true rfl, Nat.le_of_ble_eq_true rfl⟩) hC hO (C.tk hS) C.hE hS C.hA3 rfl hl.1 rfl (Nat.le_of_ble_eq_true rfl) dL_law_1641 ⟨C.ok1 hcs.1 (by omega), C.ok2 hcs.2 (by omega)⟩ (fun H locs hC hO hS _ hkk => ?_)
      have hM := zkeep hM hkk C.dM
      refine lv_istore (lv' := [(5, .int (zI 2)), (4, .int (zI (5 * (j : Int)))), (0, .ref b), (1, .ref (q 0)), (2, .ref (r 0)), (3, .ref o)]) C.hx C.hb dL_law_1644 hl (by decide) rfl (fun ls hl => ?_)
      refine lv_aload_n C.hx C.hb dL_law_1646 rfl (lv_at hl 4 rfl) ?_
      refine lv_aload_n C.hx C.hb dL_law_1647 rfl (lv_at hl 2 rfl) ?_
      refine lv_iload C.hx C.hb dL_law_1648 (lv_at hl 1 rfl) ?_
      refine zr_iconst C.hx C.hb dL_law_1650 ?_
      refine zr_iadd (v := 5 * (j : Int) + 1) C.hx C.hb rfl dL_law_1651 ?_
      refine zr_sld (s := s.setDrawn d0) C.hx C.hb C.hX C.hbl C.hbA hS (i := 5 * (j : Int) + 1) (by omega) (by omega) C.hLN dL_law_1652 ?_
      refine zcallV (ci := 3) (q0 := 0) (cq := (RX3, TX3, 12)) (As := [.int (zI (sc xs (5 * (j : Int) + 1)))]) (rest := []) ⟨C.hx, C.hb, C.hml, C.hown, dr_words C.hts _⟩ C.hK2 (kX3_wouldMourne2 l D cI cZ r C.hNr pa sp al co' da' mo st mr th n td wn R.1.1 R.2.1.2.2.1 (sc xs (5 * (j : Int) + 1)) (by omega) (by omega) (by omega)) (cwV 1 (dr_words C.hts _) gL_law_X3_wouldMourn rfl rfl rfl (by decide +kernel) ⟨Nat.le_of_ble_eq_true rfl, Nat.le_of_ble_eq_true rfl⟩) hM hS C.hA2 rfl rfl rfl hl.1 rfl (Nat.le_of_ble_eq_true rfl) dL_law_1653 ⟨C.ok1 hcs.1 (by omega), C.ok2 hcs.2 (by omega)⟩ (fun H locs hM hS _ hkk => ?_)
      have hC := zkeep hC hkk C.dC
      have hO := zkeep hO hkk C.dO
      refine W.eq (g2 := F0 m 1656 ls [.int (zI 0)]) rfl ?_
      refine lv_istore (lv' := [(6, .int (zI 0)), (5, .int (zI 2)), (4, .int (zI (5 * (j : Int)))), (0, .ref b), (1, .ref (q 0)), (2, .ref (r 0)), (3, .ref o)]) C.hx C.hb dL_law_1656 hl (by decide) rfl (fun ls hl => ?_)
      refine lv_aload_n C.hx C.hb dL_law_1658 rfl (lv_at hl 5 rfl) ?_
      refine zcallV (ci := 3) (q0 := 0) (cq := (RX3, TX3, 12)) (As := []) (rest := []) ⟨C.hx, C.hb, C.hml, C.hown, dr_words C.hts _⟩ C.hK2 (kX3_thrown l D cI cZ r C.hNr pa sp al co' da' mo st mr 2 n td wn) (cwV 0 (dr_words C.hts _) gL_law_X3_thrown rfl rfl rfl (by decide +kernel) ⟨Nat.le_of_ble_eq_true rfl, Nat.le_of_ble_eq_true rfl⟩) hM hS C.hA2 rfl rfl rfl hl.1 rfl (Nat.le_of_ble_eq_true rfl) dL_law_1659 ⟨C.ok1 hcs.1 (by omega), C.ok2 hcs.2 (by omega)⟩ (fun H locs hM hS _ hkk => ?_)
      have hC := zkeep hC hkk C.dC
      have hO := zkeep hO hkk C.dO
      refine W.eq (g2 := F0 m 1662 ls [.int (zI 2)]) rfl ?_
      refine lv_iload C.hx C.hb dL_law_1662 (lv_at hl 1 rfl) ?_
      refine zr_icmp_eqT (tgt := 1669) C.hx C.hb (rfl) dL_law_1664 (by decide) ?_
      refine lv_iload C.hx C.hb dL_law_1669 (lv_at hl 1 rfl) ?_
      refine zr_if_ne (tgt := 1686) C.hx C.hb dL_law_1671 (by decide) ⟨by decide, by decide⟩ (fun _ => ?_) (fun h9 => by exfalso; revert h9; decide)
      refine lv_goto (tgt := 1825) C.hx C.hb dL_law_1686 (by decide) ?_
      refine W.widen (k := cells + 2) (n := slots + 12) (by omega) (by omega) ?_
      have hl := lv_sub hl (l' := [(4, .int (zI (5 * (j : Int)))), (0, .ref b), (1, .ref (q 0)), (2, .ref (r 0)), (3, .ref o)]) [2, 3, 4, 5, 6] rfl
      exact K _ hd0 H locs ls ⟨pa, sp, al, dg, co, da, mb, dd, ah, wl, lo, n, td, wn, co', da', mo, st, mr, 2, f, R, by omega, hst, hmr, hC, hM, hO⟩ hS hl
    · have b2 := b2
      refine lv_aload_n C.hx C.hb dL_law_1633 rfl (lv_at hl 2 rfl) ?_
      refine lv_aload_n C.hx C.hb dL_law_1634 rfl (lv_at hl 1 rfl) ?_
      refine lv_iload C.hx C.hb dL_law_1635 (lv_at hl 0 rfl) ?_
      refine zr_iconst C.hx C.hb dL_law_1637 ?_
      refine zr_iadd (v := 5 * (j : Int) + 1) C.hx C.hb rfl dL_law_1638 ?_
      refine zr_sld (s := s.setDrawn d0) C.hx C.hb C.hX C.hbl C.hbA hS (i := 5 * (j : Int) + 1) (by omega) (by omega) C.hLN dL_law_1639 ?_
      refine lv_aload_n C.hx C.hb dL_law_1640 rfl (lv_at hl 4 rfl) ?_
      refine zcallLW (As := [.ref (q 0), .int (zI (sc xs (5 * (j : Int) + 1))), .ref o]) (rest := []) ⟨C.hx, C.hb, C.hml, C.hown, dr_words C.hts _⟩ C.hK (kL_wouldMournok l D C.hl0 cI cZ cJ q o C.hN C.hN2 pa sp al dg co da mb dd ah wl lo n td wn f R.1.1 R.2.1.1 R.2.1.2.1 R.2.1.2.2.1 R.2.1.2.2.2.2.1 (sc xs (5 * (j : Int) + 1)) (by omega) (by omega)) (vx_cwSW 3 (dr_words C.hts _) gL_law_L_wouldMourn rfl rfl rfl (by decide +kernel) ⟨Nat.le_of_ble_eq_true rfl, Nat.le_of_ble_eq_true rfl⟩) hC hO (C.tk hS) C.hE hS C.hA3 rfl hl.1 rfl (Nat.le_of_ble_eq_true rfl) dL_law_1641 ⟨C.ok1 hcs.1 (by omega), C.ok2 hcs.2 (by omega)⟩ (fun H locs hC hO hS _ hkk => ?_)
      have hM := zkeep hM hkk C.dM
      refine lv_istore (lv' := [(5, .int (zI 0)), (4, .int (zI (5 * (j : Int)))), (0, .ref b), (1, .ref (q 0)), (2, .ref (r 0)), (3, .ref o)]) C.hx C.hb dL_law_1644 hl (by decide) rfl (fun ls hl => ?_)
      refine lv_aload_n C.hx C.hb dL_law_1646 rfl (lv_at hl 4 rfl) ?_
      refine lv_aload_n C.hx C.hb dL_law_1647 rfl (lv_at hl 2 rfl) ?_
      refine lv_iload C.hx C.hb dL_law_1648 (lv_at hl 1 rfl) ?_
      refine zr_iconst C.hx C.hb dL_law_1650 ?_
      refine zr_iadd (v := 5 * (j : Int) + 1) C.hx C.hb rfl dL_law_1651 ?_
      refine zr_sld (s := s.setDrawn d0) C.hx C.hb C.hX C.hbl C.hbA hS (i := 5 * (j : Int) + 1) (by omega) (by omega) C.hLN dL_law_1652 ?_
      refine zcallV (ci := 3) (q0 := 0) (cq := (RX3, TX3, 12)) (As := [.int (zI (sc xs (5 * (j : Int) + 1)))]) (rest := []) ⟨C.hx, C.hb, C.hml, C.hown, dr_words C.hts _⟩ C.hK2 (kX3_wouldMournok l D cI cZ r C.hNr pa sp al co' da' mo st mr th n td wn R.2.1.1 R.2.1.2.1 R.2.1.2.2.1 hst R.2.2.1.2.1 R.1.1 (sc xs (5 * (j : Int) + 1)) (by omega) (by omega) (by omega)) (cwV 1 (dr_words C.hts _) gL_law_X3_wouldMourn rfl rfl rfl (by decide +kernel) ⟨Nat.le_of_ble_eq_true rfl, Nat.le_of_ble_eq_true rfl⟩) hM hS C.hA2 rfl rfl rfl hl.1 rfl (Nat.le_of_ble_eq_true rfl) dL_law_1653 ⟨C.ok1 hcs.1 (by omega), C.ok2 hcs.2 (by omega)⟩ (fun H locs hM hS _ hkk => ?_)
      have hC := zkeep hC hkk C.dC
      have hO := zkeep hO hkk C.dO
      refine W.eq (g2 := F0 m 1656 ls [.int (zI (smF (imF al (goF pa sp n st (sc xs (5 * (j : Int) + 1))) da' (sc xs (5 * (j : Int) + 1))) n))]) rfl ?_
      refine lv_istore (lv' := [(6, .int (zI (smF (imF al (goF pa sp n st (sc xs (5 * (j : Int) + 1))) da' (sc xs (5 * (j : Int) + 1))) n))), (5, .int (zI 0)), (4, .int (zI (5 * (j : Int)))), (0, .ref b), (1, .ref (q 0)), (2, .ref (r 0)), (3, .ref o)]) C.hx C.hb dL_law_1656 hl (by decide) rfl (fun ls hl => ?_)
      refine lv_aload_n C.hx C.hb dL_law_1658 rfl (lv_at hl 5 rfl) ?_
      refine zcallV (ci := 3) (q0 := 0) (cq := (RX3, TX3, 12)) (As := []) (rest := []) ⟨C.hx, C.hb, C.hml, C.hown, dr_words C.hts _⟩ C.hK2 (kX3_thrown l D cI cZ r C.hNr pa sp al co' da' mo (goF pa sp n st (sc xs (5 * (j : Int) + 1))) mr 0 n td wn) (cwV 0 (dr_words C.hts _) gL_law_X3_thrown rfl rfl rfl (by decide +kernel) ⟨Nat.le_of_ble_eq_true rfl, Nat.le_of_ble_eq_true rfl⟩) hM hS C.hA2 rfl rfl rfl hl.1 rfl (Nat.le_of_ble_eq_true rfl) dL_law_1659 ⟨C.ok1 hcs.1 (by omega), C.ok2 hcs.2 (by omega)⟩ (fun H locs hM hS _ hkk => ?_)
      have hC := zkeep hC hkk C.dC
      have hO := zkeep hO hkk C.dO
      refine W.eq (g2 := F0 m 1662 ls [.int (zI 0)]) rfl ?_
      refine lv_iload C.hx C.hb dL_law_1662 (lv_at hl 1 rfl) ?_
      refine zr_icmp_eqT (tgt := 1669) C.hx C.hb (rfl) dL_law_1664 (by decide) ?_
      refine lv_iload C.hx C.hb dL_law_1669 (lv_at hl 1 rfl) ?_
      refine zr_if_ne (tgt := 1686) C.hx C.hb dL_law_1671 (by decide) ⟨by decide, by decide⟩ (fun h9 => by exfalso; revert h9; decide) (fun _ => ?_)
      refine lv_aload_n C.hx C.hb dL_law_1674 rfl (lv_at hl 6 rfl) ?_
      refine zr_iconst C.hx C.hb dL_law_1675 ?_
      refine zr_lald0 C.hx C.hb C.hK hO 0 2 rfl rfl dL_law_1676 ?_
      refine W.eq (g2 := F0 m 1677 ls [.long ((zI (smF (wbF al da (dgF pa sp n (sc xs (5 * (j : Int) + 1)))) n)).toInt64)]) rfl ?_
      refine lv_iload C.hx C.hb dL_law_1677 (lv_at hl 0 rfl) ?_
      refine lv_i2l C.hx C.hb dL_law_1679 rfl ?_
      refine zr_lcmp_eqT (tgt := 1686) C.hx C.hb (congrArg (fun z => (zI z).toInt64) (re_wb R hst (by omega) (by omega))) dL_law_1680 dL_law_1681 (by decide) ?_
      refine lv_goto (tgt := 1825) C.hx C.hb dL_law_1686 (by decide) ?_
      refine W.widen (k := cells + 2) (n := slots + 12) (by omega) (by omega) ?_
      have hl := lv_sub hl (l' := [(4, .int (zI (5 * (j : Int)))), (0, .ref b), (1, .ref (q 0)), (2, .ref (r 0)), (3, .ref o)]) [2, 3, 4, 5, 6] rfl
      exact K _ hd0 H locs ls ⟨pa, sp, al, dgF pa sp n (sc xs (5 * (j : Int) + 1)), co, da, mb, dd, ah, wl, lo, n, td, wn, co', da', mo, goF pa sp n st (sc xs (5 * (j : Int) + 1)), mr, 0, (vp_updL f 0 (zI (smF (wbF al da (dgF pa sp n (sc xs (5 * (j : Int) + 1)))) n)).toInt64), R, by omega, goF_bd hst _ _ _ _, hmr, hC, hM, hO⟩ hS hl
  · have b1 := b1
    refine lv_aload_n C.hx C.hb dL_law_1633 rfl (lv_at hl 2 rfl) ?_
    refine lv_aload_n C.hx C.hb dL_law_1634 rfl (lv_at hl 1 rfl) ?_
    refine lv_iload C.hx C.hb dL_law_1635 (lv_at hl 0 rfl) ?_
    refine zr_iconst C.hx C.hb dL_law_1637 ?_
    refine zr_iadd (v := 5 * (j : Int) + 1) C.hx C.hb rfl dL_law_1638 ?_
    refine zr_sld (s := s.setDrawn d0) C.hx C.hb C.hX C.hbl C.hbA hS (i := 5 * (j : Int) + 1) (by omega) (by omega) C.hLN dL_law_1639 ?_
    refine lv_aload_n C.hx C.hb dL_law_1640 rfl (lv_at hl 4 rfl) ?_
    refine zcallLW (As := [.ref (q 0), .int (zI (sc xs (5 * (j : Int) + 1))), .ref o]) (rest := []) ⟨C.hx, C.hb, C.hml, C.hown, dr_words C.hts _⟩ C.hK (kL_wouldMournx1 l D C.hl0 cI cZ cJ q o C.hN C.hN2 pa sp al dg co da mb dd ah wl lo n td wn f R.1.1 (sc xs (5 * (j : Int) + 1)) (by omega) (by omega)) (vx_cwSW 3 (dr_words C.hts _) gL_law_L_wouldMourn rfl rfl rfl (by decide +kernel) ⟨Nat.le_of_ble_eq_true rfl, Nat.le_of_ble_eq_true rfl⟩) hC hO (C.tk hS) C.hE hS C.hA3 rfl hl.1 rfl (Nat.le_of_ble_eq_true rfl) dL_law_1641 ⟨C.ok1 hcs.1 (by omega), C.ok2 hcs.2 (by omega)⟩ (fun H locs hC hO hS _ hkk => ?_)
    have hM := zkeep hM hkk C.dM
    refine lv_istore (lv' := [(5, .int (zI 1)), (4, .int (zI (5 * (j : Int)))), (0, .ref b), (1, .ref (q 0)), (2, .ref (r 0)), (3, .ref o)]) C.hx C.hb dL_law_1644 hl (by decide) rfl (fun ls hl => ?_)
    refine lv_aload_n C.hx C.hb dL_law_1646 rfl (lv_at hl 4 rfl) ?_
    refine lv_aload_n C.hx C.hb dL_law_1647 rfl (lv_at hl 2 rfl) ?_
    refine lv_iload C.hx C.hb dL_law_1648 (lv_at hl 1 rfl) ?_
    refine zr_iconst C.hx C.hb dL_law_1650 ?_
    refine zr_iadd (v := 5 * (j : Int) + 1) C.hx C.hb rfl dL_law_1651 ?_
    refine zr_sld (s := s.setDrawn d0) C.hx C.hb C.hX C.hbl C.hbA hS (i := 5 * (j : Int) + 1) (by omega) (by omega) C.hLN dL_law_1652 ?_
    refine zcallV (ci := 3) (q0 := 0) (cq := (RX3, TX3, 12)) (As := [.int (zI (sc xs (5 * (j : Int) + 1)))]) (rest := []) ⟨C.hx, C.hb, C.hml, C.hown, dr_words C.hts _⟩ C.hK2 (kX3_wouldMourne1 l D cI cZ r C.hNr pa sp al co' da' mo st mr th n td wn R.1.1 (sc xs (5 * (j : Int) + 1)) (by omega) (by omega)) (cwV 1 (dr_words C.hts _) gL_law_X3_wouldMourn rfl rfl rfl (by decide +kernel) ⟨Nat.le_of_ble_eq_true rfl, Nat.le_of_ble_eq_true rfl⟩) hM hS C.hA2 rfl rfl rfl hl.1 rfl (Nat.le_of_ble_eq_true rfl) dL_law_1653 ⟨C.ok1 hcs.1 (by omega), C.ok2 hcs.2 (by omega)⟩ (fun H locs hM hS _ hkk => ?_)
    have hC := zkeep hC hkk C.dC
    have hO := zkeep hO hkk C.dO
    refine W.eq (g2 := F0 m 1656 ls [.int (zI 0)]) rfl ?_
    refine lv_istore (lv' := [(6, .int (zI 0)), (5, .int (zI 1)), (4, .int (zI (5 * (j : Int)))), (0, .ref b), (1, .ref (q 0)), (2, .ref (r 0)), (3, .ref o)]) C.hx C.hb dL_law_1656 hl (by decide) rfl (fun ls hl => ?_)
    refine lv_aload_n C.hx C.hb dL_law_1658 rfl (lv_at hl 5 rfl) ?_
    refine zcallV (ci := 3) (q0 := 0) (cq := (RX3, TX3, 12)) (As := []) (rest := []) ⟨C.hx, C.hb, C.hml, C.hown, dr_words C.hts _⟩ C.hK2 (kX3_thrown l D cI cZ r C.hNr pa sp al co' da' mo st mr 1 n td wn) (cwV 0 (dr_words C.hts _) gL_law_X3_thrown rfl rfl rfl (by decide +kernel) ⟨Nat.le_of_ble_eq_true rfl, Nat.le_of_ble_eq_true rfl⟩) hM hS C.hA2 rfl rfl rfl hl.1 rfl (Nat.le_of_ble_eq_true rfl) dL_law_1659 ⟨C.ok1 hcs.1 (by omega), C.ok2 hcs.2 (by omega)⟩ (fun H locs hM hS _ hkk => ?_)
    have hC := zkeep hC hkk C.dC
    have hO := zkeep hO hkk C.dO
    refine W.eq (g2 := F0 m 1662 ls [.int (zI 1)]) rfl ?_
    refine lv_iload C.hx C.hb dL_law_1662 (lv_at hl 1 rfl) ?_
    refine zr_icmp_eqT (tgt := 1669) C.hx C.hb (rfl) dL_law_1664 (by decide) ?_
    refine lv_iload C.hx C.hb dL_law_1669 (lv_at hl 1 rfl) ?_
    refine zr_if_ne (tgt := 1686) C.hx C.hb dL_law_1671 (by decide) ⟨by decide, by decide⟩ (fun _ => ?_) (fun h9 => by exfalso; revert h9; decide)
    refine lv_goto (tgt := 1825) C.hx C.hb dL_law_1686 (by decide) ?_
    refine W.widen (k := cells + 2) (n := slots + 12) (by omega) (by omega) ?_
    have hl := lv_sub hl (l' := [(4, .int (zI (5 * (j : Int)))), (0, .ref b), (1, .ref (q 0)), (2, .ref (r 0)), (3, .ref o)]) [2, 3, 4, 5, 6] rfl
    exact K _ hd0 H locs ls ⟨pa, sp, al, dg, co, da, mb, dd, ah, wl, lo, n, td, wn, co', da', mo, st, mr, 1, f, R, by omega, hst, hmr, hC, hM, hO⟩ hS hl
set_option maxHeartbeats 4000000 in
set_option maxRecDepth 100000 in
theorem law_c29 {p : Program} {l : Launch} {e : Env} {s : State} {m : MethodId} {below : List Frame} {meth : Method} {c : Code} {b L : Nat} {xs : Nat → Int32} {Q : State → Prop} {D : va_G} {cI cZ cJ : ClassId} {q r : Nat → Nat} {o : Nat} (C : zCx p l s m meth c b L xs D cI cZ cJ q r o) {d0 : Drawn} (hd0 : s.drawn.sameBut d0 lw_cs) {H : Heap} {locs : List Loc} {cells slots : Nat} (hcs : cells + 2 ≤ 601024 ∧ slots + 12 ≤ 7293034) {j : Nat} (hj : 5 * (j : Int) + 5 ≤ (L : Int)) (hj2 : j ≤ 512) {ls : Array Slot} (hZ : zLS D cI cZ cJ q r o j H) (hS : va_S (fun a => s.heap.size ≤ a) s.heap H locs) (hl : lv_has ls 9 [(4, .int (zI (5 * (j : Int)))), (0, .ref b), (1, .ref (q 0)), (2, .ref (r 0)), (3, .ref o)])
    (K : ∀ (d1 : Drawn), s.drawn.sameBut d1 lw_cs → ∀ (H1 : Heap) (locs1 : List Loc) (ls1 : Array Slot), zLS D cI cZ cJ q r o (j + 1) H1 → va_S (fun a => s.heap.size ≤ a) s.heap H1 locs1 → lv_has ls1 9 [(4, .int (zI (5 * (j : Int)))), (0, .ref b), (1, .ref (q 0)), (2, .ref (r 0)), (3, .ref o)] → W p l e room_1 (s.setDrawn d1) m #[Value.ref b] below meth c H1 locs1 (cells + 2) (slots + 12) Q (F0 m 1825 ls1 [])) :
    W p l e room_1 (s.setDrawn d0) m #[Value.ref b] below meth c H locs cells slots Q (F0 m 1689 ls []) := by
  obtain ⟨pa, sp, al, dg, co, da, mb, dd, ah, wl, lo, n, td, wn, co', da', mo, st, mr, th, f, R, htd, hst, hmr, hC, hM, hO⟩ := hZ
  have hn := R.1.1
  have htd0 := R.1.2
  have hLN := C.hLN
  have hs1 := sc_rg xs (5 * (j : Int) + 1)
  have hs2 := sc_rg xs (5 * (j : Int) + 2)
  have hs3 := sc_rg xs (5 * (j : Int) + 3)
  have hs4 := sc_rg xs (5 * (j : Int) + 4)
  by_cases b1 : 0 ≤ sc xs (5 * (j : Int) + 1) ∧ sc xs (5 * (j : Int) + 1) < (n : Int)
  · have b1 := b1
    by_cases b2 : 0 ≤ sc xs (5 * (j : Int) + 2) ∧ sc xs (5 * (j : Int) + 2) < (n : Int)
    · have b2 := b2
      by_cases b3 : sc xs (5 * (j : Int) + 1) = sc xs (5 * (j : Int) + 2)
      · have b3 := b3
        refine lv_aload_n C.hx C.hb dL_law_1689 rfl (lv_at hl 2 rfl) ?_
        refine lv_aload_n C.hx C.hb dL_law_1690 rfl (lv_at hl 1 rfl) ?_
        refine lv_iload C.hx C.hb dL_law_1691 (lv_at hl 0 rfl) ?_
        refine zr_iconst C.hx C.hb dL_law_1693 ?_
        refine zr_iadd (v := 5 * (j : Int) + 1) C.hx C.hb rfl dL_law_1694 ?_
        refine zr_sld (s := s.setDrawn d0) C.hx C.hb C.hX C.hbl C.hbA hS (i := 5 * (j : Int) + 1) (by omega) (by omega) C.hLN dL_law_1695 ?_
        refine lv_aload_n C.hx C.hb dL_law_1696 rfl (lv_at hl 1 rfl) ?_
        refine lv_iload C.hx C.hb dL_law_1697 (lv_at hl 0 rfl) ?_
        refine zr_iconst C.hx C.hb dL_law_1699 ?_
        refine zr_iadd (v := 5 * (j : Int) + 2) C.hx C.hb rfl dL_law_1700 ?_
        refine zr_sld (s := s.setDrawn d0) C.hx C.hb C.hX C.hbl C.hbA hS (i := 5 * (j : Int) + 2) (by omega) (by omega) C.hLN dL_law_1701 ?_
        refine lv_aload_n C.hx C.hb dL_law_1702 rfl (lv_at hl 4 rfl) ?_
        refine zcallLW (As := [.ref (q 0), .int (zI (sc xs (5 * (j : Int) + 1))), .int (zI (sc xs (5 * (j : Int) + 2))), .ref o]) (rest := []) ⟨C.hx, C.hb, C.hml, C.hown, dr_words C.hts _⟩ C.hK (kL_wouldWearx3 l D C.hl0 cI cZ cJ q o C.hN C.hN2 pa sp al dg co da mb dd ah wl lo n td wn f R.1.1 (sc xs (5 * (j : Int) + 1)) (sc xs (5 * (j : Int) + 2)) (by omega) (by omega) (by omega)) (vx_cwSW 4 (dr_words C.hts _) gL_law_L_wouldWear rfl rfl rfl (by decide +kernel) ⟨Nat.le_of_ble_eq_true rfl, Nat.le_of_ble_eq_true rfl⟩) hC hO (C.tk hS) C.hE hS C.hA3 rfl hl.1 rfl (Nat.le_of_ble_eq_true rfl) dL_law_1703 ⟨C.ok1 hcs.1 (by omega), C.ok2 hcs.2 (by omega)⟩ (fun H locs hC hO hS _ hkk => ?_)
        have hM := zkeep hM hkk C.dM
        refine lv_istore (lv' := [(5, .int (zI 2)), (4, .int (zI (5 * (j : Int)))), (0, .ref b), (1, .ref (q 0)), (2, .ref (r 0)), (3, .ref o)]) C.hx C.hb dL_law_1706 hl (by decide) rfl (fun ls hl => ?_)
        refine lv_aload_n C.hx C.hb dL_law_1708 rfl (lv_at hl 4 rfl) ?_
        refine lv_aload_n C.hx C.hb dL_law_1709 rfl (lv_at hl 2 rfl) ?_
        refine lv_iload C.hx C.hb dL_law_1710 (lv_at hl 1 rfl) ?_
        refine zr_iconst C.hx C.hb dL_law_1712 ?_
        refine zr_iadd (v := 5 * (j : Int) + 1) C.hx C.hb rfl dL_law_1713 ?_
        refine zr_sld (s := s.setDrawn d0) C.hx C.hb C.hX C.hbl C.hbA hS (i := 5 * (j : Int) + 1) (by omega) (by omega) C.hLN dL_law_1714 ?_
        refine lv_aload_n C.hx C.hb dL_law_1715 rfl (lv_at hl 2 rfl) ?_
        refine lv_iload C.hx C.hb dL_law_1716 (lv_at hl 1 rfl) ?_
        refine zr_iconst C.hx C.hb dL_law_1718 ?_
        refine zr_iadd (v := 5 * (j : Int) + 2) C.hx C.hb rfl dL_law_1719 ?_
        refine zr_sld (s := s.setDrawn d0) C.hx C.hb C.hX C.hbl C.hbA hS (i := 5 * (j : Int) + 2) (by omega) (by omega) C.hLN dL_law_1720 ?_
        refine zcallV (ci := 3) (q0 := 0) (cq := (RX3, TX3, 12)) (As := [.int (zI (sc xs (5 * (j : Int) + 1))), .int (zI (sc xs (5 * (j : Int) + 2)))]) (rest := []) ⟨C.hx, C.hb, C.hml, C.hown, dr_words C.hts _⟩ C.hK2 (kX3_wouldWeare2 l D cI cZ r C.hNr pa sp al co' da' mo st mr th n td wn R.1.1 (sc xs (5 * (j : Int) + 1)) (sc xs (5 * (j : Int) + 2)) (by omega) (by omega) (by omega) (by omega) (by omega)) (cwV 2 (dr_words C.hts _) gL_law_X3_wouldWear rfl rfl rfl (by decide +kernel) ⟨Nat.le_of_ble_eq_true rfl, Nat.le_of_ble_eq_true rfl⟩) hM hS C.hA2 rfl rfl rfl hl.1 rfl (Nat.le_of_ble_eq_true rfl) dL_law_1721 ⟨C.ok1 hcs.1 (by omega), C.ok2 hcs.2 (by omega)⟩ (fun H locs hM hS _ hkk => ?_)
        have hC := zkeep hC hkk C.dC
        have hO := zkeep hO hkk C.dO
        refine W.eq (g2 := F0 m 1724 ls [.int (zI 0)]) rfl ?_
        refine lv_istore (lv' := [(6, .int (zI 0)), (5, .int (zI 2)), (4, .int (zI (5 * (j : Int)))), (0, .ref b), (1, .ref (q 0)), (2, .ref (r 0)), (3, .ref o)]) C.hx C.hb dL_law_1724 hl (by decide) rfl (fun ls hl => ?_)
        refine lv_aload_n C.hx C.hb dL_law_1726 rfl (lv_at hl 5 rfl) ?_
        refine zcallV (ci := 3) (q0 := 0) (cq := (RX3, TX3, 12)) (As := []) (rest := []) ⟨C.hx, C.hb, C.hml, C.hown, dr_words C.hts _⟩ C.hK2 (kX3_thrown l D cI cZ r C.hNr pa sp al co' da' mo st mr 2 n td wn) (cwV 0 (dr_words C.hts _) gL_law_X3_thrown rfl rfl rfl (by decide +kernel) ⟨Nat.le_of_ble_eq_true rfl, Nat.le_of_ble_eq_true rfl⟩) hM hS C.hA2 rfl rfl rfl hl.1 rfl (Nat.le_of_ble_eq_true rfl) dL_law_1727 ⟨C.ok1 hcs.1 (by omega), C.ok2 hcs.2 (by omega)⟩ (fun H locs hM hS _ hkk => ?_)
        have hC := zkeep hC hkk C.dC
        have hO := zkeep hO hkk C.dO
        refine W.eq (g2 := F0 m 1730 ls [.int (zI 2)]) rfl ?_
        refine lv_iload C.hx C.hb dL_law_1730 (lv_at hl 1 rfl) ?_
        refine zr_icmp_eqT (tgt := 1737) C.hx C.hb (rfl) dL_law_1732 (by decide) ?_
        refine lv_iload C.hx C.hb dL_law_1737 (lv_at hl 1 rfl) ?_
        refine zr_if_ne (tgt := 1754) C.hx C.hb dL_law_1739 (by decide) ⟨by decide, by decide⟩ (fun _ => ?_) (fun h9 => by exfalso; revert h9; decide)
        refine lv_goto (tgt := 1825) C.hx C.hb dL_law_1754 (by decide) ?_
        refine W.widen (k := cells + 2) (n := slots + 12) (by omega) (by omega) ?_
        have hl := lv_sub hl (l' := [(4, .int (zI (5 * (j : Int)))), (0, .ref b), (1, .ref (q 0)), (2, .ref (r 0)), (3, .ref o)]) [2, 3, 4, 5, 6] rfl
        exact K _ hd0 H locs ls ⟨pa, sp, al, dg, co, da, mb, dd, ah, wl, lo, n, td, wn, co', da', mo, st, mr, 2, f, R, by omega, hst, hmr, hC, hM, hO⟩ hS hl
      · have b3 := b3
        by_cases b4 : al (sc xs (5 * (j : Int) + 1)) = 0
        · have b4 := b4
          refine lv_aload_n C.hx C.hb dL_law_1689 rfl (lv_at hl 2 rfl) ?_
          refine lv_aload_n C.hx C.hb dL_law_1690 rfl (lv_at hl 1 rfl) ?_
          refine lv_iload C.hx C.hb dL_law_1691 (lv_at hl 0 rfl) ?_
          refine zr_iconst C.hx C.hb dL_law_1693 ?_
          refine zr_iadd (v := 5 * (j : Int) + 1) C.hx C.hb rfl dL_law_1694 ?_
          refine zr_sld (s := s.setDrawn d0) C.hx C.hb C.hX C.hbl C.hbA hS (i := 5 * (j : Int) + 1) (by omega) (by omega) C.hLN dL_law_1695 ?_
          refine lv_aload_n C.hx C.hb dL_law_1696 rfl (lv_at hl 1 rfl) ?_
          refine lv_iload C.hx C.hb dL_law_1697 (lv_at hl 0 rfl) ?_
          refine zr_iconst C.hx C.hb dL_law_1699 ?_
          refine zr_iadd (v := 5 * (j : Int) + 2) C.hx C.hb rfl dL_law_1700 ?_
          refine zr_sld (s := s.setDrawn d0) C.hx C.hb C.hX C.hbl C.hbA hS (i := 5 * (j : Int) + 2) (by omega) (by omega) C.hLN dL_law_1701 ?_
          refine lv_aload_n C.hx C.hb dL_law_1702 rfl (lv_at hl 4 rfl) ?_
          refine zcallLW (As := [.ref (q 0), .int (zI (sc xs (5 * (j : Int) + 1))), .int (zI (sc xs (5 * (j : Int) + 2))), .ref o]) (rest := []) ⟨C.hx, C.hb, C.hml, C.hown, dr_words C.hts _⟩ C.hK (kL_wouldWearx4 l D C.hl0 cI cZ cJ q o C.hN C.hN2 pa sp al dg co da mb dd ah wl lo n td wn f R.1.1 R.2.1.2.2.1 (sc xs (5 * (j : Int) + 1)) (sc xs (5 * (j : Int) + 2)) (by omega) (by omega) (by omega) (by omega)) (vx_cwSW 4 (dr_words C.hts _) gL_law_L_wouldWear rfl rfl rfl (by decide +kernel) ⟨Nat.le_of_ble_eq_true rfl, Nat.le_of_ble_eq_true rfl⟩) hC hO (C.tk hS) C.hE hS C.hA3 rfl hl.1 rfl (Nat.le_of_ble_eq_true rfl) dL_law_1703 ⟨C.ok1 hcs.1 (by omega), C.ok2 hcs.2 (by omega)⟩ (fun H locs hC hO hS _ hkk => ?_)
          have hM := zkeep hM hkk C.dM
          refine lv_istore (lv' := [(5, .int (zI 3)), (4, .int (zI (5 * (j : Int)))), (0, .ref b), (1, .ref (q 0)), (2, .ref (r 0)), (3, .ref o)]) C.hx C.hb dL_law_1706 hl (by decide) rfl (fun ls hl => ?_)
          refine lv_aload_n C.hx C.hb dL_law_1708 rfl (lv_at hl 4 rfl) ?_
          refine lv_aload_n C.hx C.hb dL_law_1709 rfl (lv_at hl 2 rfl) ?_
          refine lv_iload C.hx C.hb dL_law_1710 (lv_at hl 1 rfl) ?_
          refine zr_iconst C.hx C.hb dL_law_1712 ?_
          refine zr_iadd (v := 5 * (j : Int) + 1) C.hx C.hb rfl dL_law_1713 ?_
          refine zr_sld (s := s.setDrawn d0) C.hx C.hb C.hX C.hbl C.hbA hS (i := 5 * (j : Int) + 1) (by omega) (by omega) C.hLN dL_law_1714 ?_
          refine lv_aload_n C.hx C.hb dL_law_1715 rfl (lv_at hl 2 rfl) ?_
          refine lv_iload C.hx C.hb dL_law_1716 (lv_at hl 1 rfl) ?_
          refine zr_iconst C.hx C.hb dL_law_1718 ?_
          refine zr_iadd (v := 5 * (j : Int) + 2) C.hx C.hb rfl dL_law_1719 ?_
          refine zr_sld (s := s.setDrawn d0) C.hx C.hb C.hX C.hbl C.hbA hS (i := 5 * (j : Int) + 2) (by omega) (by omega) C.hLN dL_law_1720 ?_
          refine zcallV (ci := 3) (q0 := 0) (cq := (RX3, TX3, 12)) (As := [.int (zI (sc xs (5 * (j : Int) + 1))), .int (zI (sc xs (5 * (j : Int) + 2)))]) (rest := []) ⟨C.hx, C.hb, C.hml, C.hown, dr_words C.hts _⟩ C.hK2 (kX3_wouldWeare3 l D cI cZ r C.hNr pa sp al co' da' mo st mr th n td wn R.1.1 R.2.1.2.2.1 (sc xs (5 * (j : Int) + 1)) (sc xs (5 * (j : Int) + 2)) (by omega) (by omega) (by omega) (by omega) (by omega) (by omega)) (cwV 2 (dr_words C.hts _) gL_law_X3_wouldWear rfl rfl rfl (by decide +kernel) ⟨Nat.le_of_ble_eq_true rfl, Nat.le_of_ble_eq_true rfl⟩) hM hS C.hA2 rfl rfl rfl hl.1 rfl (Nat.le_of_ble_eq_true rfl) dL_law_1721 ⟨C.ok1 hcs.1 (by omega), C.ok2 hcs.2 (by omega)⟩ (fun H locs hM hS _ hkk => ?_)
          have hC := zkeep hC hkk C.dC
          have hO := zkeep hO hkk C.dO
          refine W.eq (g2 := F0 m 1724 ls [.int (zI 0)]) rfl ?_
          refine lv_istore (lv' := [(6, .int (zI 0)), (5, .int (zI 3)), (4, .int (zI (5 * (j : Int)))), (0, .ref b), (1, .ref (q 0)), (2, .ref (r 0)), (3, .ref o)]) C.hx C.hb dL_law_1724 hl (by decide) rfl (fun ls hl => ?_)
          refine lv_aload_n C.hx C.hb dL_law_1726 rfl (lv_at hl 5 rfl) ?_
          refine zcallV (ci := 3) (q0 := 0) (cq := (RX3, TX3, 12)) (As := []) (rest := []) ⟨C.hx, C.hb, C.hml, C.hown, dr_words C.hts _⟩ C.hK2 (kX3_thrown l D cI cZ r C.hNr pa sp al co' da' mo st mr 3 n td wn) (cwV 0 (dr_words C.hts _) gL_law_X3_thrown rfl rfl rfl (by decide +kernel) ⟨Nat.le_of_ble_eq_true rfl, Nat.le_of_ble_eq_true rfl⟩) hM hS C.hA2 rfl rfl rfl hl.1 rfl (Nat.le_of_ble_eq_true rfl) dL_law_1727 ⟨C.ok1 hcs.1 (by omega), C.ok2 hcs.2 (by omega)⟩ (fun H locs hM hS _ hkk => ?_)
          have hC := zkeep hC hkk C.dC
          have hO := zkeep hO hkk C.dO
          refine W.eq (g2 := F0 m 1730 ls [.int (zI 3)]) rfl ?_
          refine lv_iload C.hx C.hb dL_law_1730 (lv_at hl 1 rfl) ?_
          refine zr_icmp_eqT (tgt := 1737) C.hx C.hb (rfl) dL_law_1732 (by decide) ?_
          refine lv_iload C.hx C.hb dL_law_1737 (lv_at hl 1 rfl) ?_
          refine zr_if_ne (tgt := 1754) C.hx C.hb dL_law_1739 (by decide) ⟨by decide, by decide⟩ (fun _ => ?_) (fun h9 => by exfalso; revert h9; decide)
          refine lv_goto (tgt := 1825) C.hx C.hb dL_law_1754 (by decide) ?_
          refine W.widen (k := cells + 2) (n := slots + 12) (by omega) (by omega) ?_
          have hl := lv_sub hl (l' := [(4, .int (zI (5 * (j : Int)))), (0, .ref b), (1, .ref (q 0)), (2, .ref (r 0)), (3, .ref o)]) [2, 3, 4, 5, 6] rfl
          exact K _ hd0 H locs ls ⟨pa, sp, al, dg, co, da, mb, dd, ah, wl, lo, n, td, wn, co', da', mo, st, mr, 3, f, R, by omega, hst, hmr, hC, hM, hO⟩ hS hl
        · have b4 := b4
          by_cases b5 : al (sc xs (5 * (j : Int) + 2)) = 0
          · have b5 := b5
            refine lv_aload_n C.hx C.hb dL_law_1689 rfl (lv_at hl 2 rfl) ?_
            refine lv_aload_n C.hx C.hb dL_law_1690 rfl (lv_at hl 1 rfl) ?_
            refine lv_iload C.hx C.hb dL_law_1691 (lv_at hl 0 rfl) ?_
            refine zr_iconst C.hx C.hb dL_law_1693 ?_
            refine zr_iadd (v := 5 * (j : Int) + 1) C.hx C.hb rfl dL_law_1694 ?_
            refine zr_sld (s := s.setDrawn d0) C.hx C.hb C.hX C.hbl C.hbA hS (i := 5 * (j : Int) + 1) (by omega) (by omega) C.hLN dL_law_1695 ?_
            refine lv_aload_n C.hx C.hb dL_law_1696 rfl (lv_at hl 1 rfl) ?_
            refine lv_iload C.hx C.hb dL_law_1697 (lv_at hl 0 rfl) ?_
            refine zr_iconst C.hx C.hb dL_law_1699 ?_
            refine zr_iadd (v := 5 * (j : Int) + 2) C.hx C.hb rfl dL_law_1700 ?_
            refine zr_sld (s := s.setDrawn d0) C.hx C.hb C.hX C.hbl C.hbA hS (i := 5 * (j : Int) + 2) (by omega) (by omega) C.hLN dL_law_1701 ?_
            refine lv_aload_n C.hx C.hb dL_law_1702 rfl (lv_at hl 4 rfl) ?_
            refine zcallLW (As := [.ref (q 0), .int (zI (sc xs (5 * (j : Int) + 1))), .int (zI (sc xs (5 * (j : Int) + 2))), .ref o]) (rest := []) ⟨C.hx, C.hb, C.hml, C.hown, dr_words C.hts _⟩ C.hK (kL_wouldWearx5 l D C.hl0 cI cZ cJ q o C.hN C.hN2 pa sp al dg co da mb dd ah wl lo n td wn f R.1.1 R.2.1.2.2.1 (sc xs (5 * (j : Int) + 1)) (sc xs (5 * (j : Int) + 2)) (by omega) (by omega) (by omega) (by omega) (by omega)) (vx_cwSW 4 (dr_words C.hts _) gL_law_L_wouldWear rfl rfl rfl (by decide +kernel) ⟨Nat.le_of_ble_eq_true rfl, Nat.le_of_ble_eq_true rfl⟩) hC hO (C.tk hS) C.hE hS C.hA3 rfl hl.1 rfl (Nat.le_of_ble_eq_true rfl) dL_law_1703 ⟨C.ok1 hcs.1 (by omega), C.ok2 hcs.2 (by omega)⟩ (fun H locs hC hO hS _ hkk => ?_)
            have hM := zkeep hM hkk C.dM
            refine lv_istore (lv' := [(5, .int (zI 3)), (4, .int (zI (5 * (j : Int)))), (0, .ref b), (1, .ref (q 0)), (2, .ref (r 0)), (3, .ref o)]) C.hx C.hb dL_law_1706 hl (by decide) rfl (fun ls hl => ?_)
            refine lv_aload_n C.hx C.hb dL_law_1708 rfl (lv_at hl 4 rfl) ?_
            refine lv_aload_n C.hx C.hb dL_law_1709 rfl (lv_at hl 2 rfl) ?_
            refine lv_iload C.hx C.hb dL_law_1710 (lv_at hl 1 rfl) ?_
            refine zr_iconst C.hx C.hb dL_law_1712 ?_
            refine zr_iadd (v := 5 * (j : Int) + 1) C.hx C.hb rfl dL_law_1713 ?_
            refine zr_sld (s := s.setDrawn d0) C.hx C.hb C.hX C.hbl C.hbA hS (i := 5 * (j : Int) + 1) (by omega) (by omega) C.hLN dL_law_1714 ?_
            refine lv_aload_n C.hx C.hb dL_law_1715 rfl (lv_at hl 2 rfl) ?_
            refine lv_iload C.hx C.hb dL_law_1716 (lv_at hl 1 rfl) ?_
            refine zr_iconst C.hx C.hb dL_law_1718 ?_
            refine zr_iadd (v := 5 * (j : Int) + 2) C.hx C.hb rfl dL_law_1719 ?_
            refine zr_sld (s := s.setDrawn d0) C.hx C.hb C.hX C.hbl C.hbA hS (i := 5 * (j : Int) + 2) (by omega) (by omega) C.hLN dL_law_1720 ?_
            refine zcallV (ci := 3) (q0 := 0) (cq := (RX3, TX3, 12)) (As := [.int (zI (sc xs (5 * (j : Int) + 1))), .int (zI (sc xs (5 * (j : Int) + 2)))]) (rest := []) ⟨C.hx, C.hb, C.hml, C.hown, dr_words C.hts _⟩ C.hK2 (kX3_wouldWeare3 l D cI cZ r C.hNr pa sp al co' da' mo st mr th n td wn R.1.1 R.2.1.2.2.1 (sc xs (5 * (j : Int) + 1)) (sc xs (5 * (j : Int) + 2)) (by omega) (by omega) (by omega) (by omega) (by omega) (by omega)) (cwV 2 (dr_words C.hts _) gL_law_X3_wouldWear rfl rfl rfl (by decide +kernel) ⟨Nat.le_of_ble_eq_true rfl, Nat.le_of_ble_eq_true rfl⟩) hM hS C.hA2 rfl rfl rfl hl.1 rfl (Nat.le_of_ble_eq_true rfl) dL_law_1721 ⟨C.ok1 hcs.1 (by omega), C.ok2 hcs.2 (by omega)⟩ (fun H locs hM hS _ hkk => ?_)
            have hC := zkeep hC hkk C.dC
            have hO := zkeep hO hkk C.dO
            refine W.eq (g2 := F0 m 1724 ls [.int (zI 0)]) rfl ?_
            refine lv_istore (lv' := [(6, .int (zI 0)), (5, .int (zI 3)), (4, .int (zI (5 * (j : Int)))), (0, .ref b), (1, .ref (q 0)), (2, .ref (r 0)), (3, .ref o)]) C.hx C.hb dL_law_1724 hl (by decide) rfl (fun ls hl => ?_)
            refine lv_aload_n C.hx C.hb dL_law_1726 rfl (lv_at hl 5 rfl) ?_
            refine zcallV (ci := 3) (q0 := 0) (cq := (RX3, TX3, 12)) (As := []) (rest := []) ⟨C.hx, C.hb, C.hml, C.hown, dr_words C.hts _⟩ C.hK2 (kX3_thrown l D cI cZ r C.hNr pa sp al co' da' mo st mr 3 n td wn) (cwV 0 (dr_words C.hts _) gL_law_X3_thrown rfl rfl rfl (by decide +kernel) ⟨Nat.le_of_ble_eq_true rfl, Nat.le_of_ble_eq_true rfl⟩) hM hS C.hA2 rfl rfl rfl hl.1 rfl (Nat.le_of_ble_eq_true rfl) dL_law_1727 ⟨C.ok1 hcs.1 (by omega), C.ok2 hcs.2 (by omega)⟩ (fun H locs hM hS _ hkk => ?_)
            have hC := zkeep hC hkk C.dC
            have hO := zkeep hO hkk C.dO
            refine W.eq (g2 := F0 m 1730 ls [.int (zI 3)]) rfl ?_
            refine lv_iload C.hx C.hb dL_law_1730 (lv_at hl 1 rfl) ?_
            refine zr_icmp_eqT (tgt := 1737) C.hx C.hb (rfl) dL_law_1732 (by decide) ?_
            refine lv_iload C.hx C.hb dL_law_1737 (lv_at hl 1 rfl) ?_
            refine zr_if_ne (tgt := 1754) C.hx C.hb dL_law_1739 (by decide) ⟨by decide, by decide⟩ (fun _ => ?_) (fun h9 => by exfalso; revert h9; decide)
            refine lv_goto (tgt := 1825) C.hx C.hb dL_law_1754 (by decide) ?_
            refine W.widen (k := cells + 2) (n := slots + 12) (by omega) (by omega) ?_
            have hl := lv_sub hl (l' := [(4, .int (zI (5 * (j : Int)))), (0, .ref b), (1, .ref (q 0)), (2, .ref (r 0)), (3, .ref o)]) [2, 3, 4, 5, 6] rfl
            exact K _ hd0 H locs ls ⟨pa, sp, al, dg, co, da, mb, dd, ah, wl, lo, n, td, wn, co', da', mo, st, mr, 3, f, R, by omega, hst, hmr, hC, hM, hO⟩ hS hl
          · have b5 := b5
            refine lv_aload_n C.hx C.hb dL_law_1689 rfl (lv_at hl 2 rfl) ?_
            refine lv_aload_n C.hx C.hb dL_law_1690 rfl (lv_at hl 1 rfl) ?_
            refine lv_iload C.hx C.hb dL_law_1691 (lv_at hl 0 rfl) ?_
            refine zr_iconst C.hx C.hb dL_law_1693 ?_
            refine zr_iadd (v := 5 * (j : Int) + 1) C.hx C.hb rfl dL_law_1694 ?_
            refine zr_sld (s := s.setDrawn d0) C.hx C.hb C.hX C.hbl C.hbA hS (i := 5 * (j : Int) + 1) (by omega) (by omega) C.hLN dL_law_1695 ?_
            refine lv_aload_n C.hx C.hb dL_law_1696 rfl (lv_at hl 1 rfl) ?_
            refine lv_iload C.hx C.hb dL_law_1697 (lv_at hl 0 rfl) ?_
            refine zr_iconst C.hx C.hb dL_law_1699 ?_
            refine zr_iadd (v := 5 * (j : Int) + 2) C.hx C.hb rfl dL_law_1700 ?_
            refine zr_sld (s := s.setDrawn d0) C.hx C.hb C.hX C.hbl C.hbA hS (i := 5 * (j : Int) + 2) (by omega) (by omega) C.hLN dL_law_1701 ?_
            refine lv_aload_n C.hx C.hb dL_law_1702 rfl (lv_at hl 4 rfl) ?_
            refine zcallLW (As := [.ref (q 0), .int (zI (sc xs (5 * (j : Int) + 1))), .int (zI (sc xs (5 * (j : Int) + 2))), .ref o]) (rest := []) ⟨C.hx, C.hb, C.hml, C.hown, dr_words C.hts _⟩ C.hK (kL_wouldWearok l D C.hl0 cI cZ cJ q o C.hN C.hN2 pa sp al dg co da mb dd ah wl lo n td wn f R.1.1 R.2.1.2.2.2.1 R.2.1.2.2.2.2.1 R.2.1.2.2.2.2.2.1 (re_dd1 R) (re_td1 R) R.2.1.1 R.2.1.2.1 R.2.1.2.2.1 (sc xs (5 * (j : Int) + 1)) (sc xs (5 * (j : Int) + 2)) (by omega) (by omega) (by omega) (by omega) (by omega)) (vx_cwSW 4 (dr_words C.hts _) gL_law_L_wouldWear rfl rfl rfl (by decide +kernel) ⟨Nat.le_of_ble_eq_true rfl, Nat.le_of_ble_eq_true rfl⟩) hC hO (C.tk hS) C.hE hS C.hA3 rfl hl.1 rfl (Nat.le_of_ble_eq_true rfl) dL_law_1703 ⟨C.ok1 hcs.1 (by omega), C.ok2 hcs.2 (by omega)⟩ (fun H locs hC hO hS _ hkk => ?_)
            have hM := zkeep hM hkk C.dM
            refine lv_istore (lv' := [(5, .int (zI 0)), (4, .int (zI (5 * (j : Int)))), (0, .ref b), (1, .ref (q 0)), (2, .ref (r 0)), (3, .ref o)]) C.hx C.hb dL_law_1706 hl (by decide) rfl (fun ls hl => ?_)
            refine lv_aload_n C.hx C.hb dL_law_1708 rfl (lv_at hl 4 rfl) ?_
            refine lv_aload_n C.hx C.hb dL_law_1709 rfl (lv_at hl 2 rfl) ?_
            refine lv_iload C.hx C.hb dL_law_1710 (lv_at hl 1 rfl) ?_
            refine zr_iconst C.hx C.hb dL_law_1712 ?_
            refine zr_iadd (v := 5 * (j : Int) + 1) C.hx C.hb rfl dL_law_1713 ?_
            refine zr_sld (s := s.setDrawn d0) C.hx C.hb C.hX C.hbl C.hbA hS (i := 5 * (j : Int) + 1) (by omega) (by omega) C.hLN dL_law_1714 ?_
            refine lv_aload_n C.hx C.hb dL_law_1715 rfl (lv_at hl 2 rfl) ?_
            refine lv_iload C.hx C.hb dL_law_1716 (lv_at hl 1 rfl) ?_
            refine zr_iconst C.hx C.hb dL_law_1718 ?_
            refine zr_iadd (v := 5 * (j : Int) + 2) C.hx C.hb rfl dL_law_1719 ?_
            refine zr_sld (s := s.setDrawn d0) C.hx C.hb C.hX C.hbl C.hbA hS (i := 5 * (j : Int) + 2) (by omega) (by omega) C.hLN dL_law_1720 ?_
            refine zcallV (ci := 3) (q0 := 0) (cq := (RX3, TX3, 12)) (As := [.int (zI (sc xs (5 * (j : Int) + 1))), .int (zI (sc xs (5 * (j : Int) + 2)))]) (rest := []) ⟨C.hx, C.hb, C.hml, C.hown, dr_words C.hts _⟩ C.hK2 (kX3_wouldWearok l D cI cZ r C.hNr pa sp al co' da' mo st mr th n td wn R.2.1.1 R.2.1.2.1 R.2.1.2.2.1 R.2.2.1.1 R.2.2.1.2.1 R.2.2.1.2.2 hst hmr R.1.1 (re_td1 R) (sc xs (5 * (j : Int) + 1)) (sc xs (5 * (j : Int) + 2)) (by omega) (by omega) (by omega) (by omega) (by omega) (by omega) (by omega)) (cwV 2 (dr_words C.hts _) gL_law_X3_wouldWear rfl rfl rfl (by decide +kernel) ⟨Nat.le_of_ble_eq_true rfl, Nat.le_of_ble_eq_true rfl⟩) hM hS C.hA2 rfl rfl rfl hl.1 rfl (Nat.le_of_ble_eq_true rfl) dL_law_1721 ⟨C.ok1 hcs.1 (by omega), C.ok2 hcs.2 (by omega)⟩ (fun H locs hM hS _ hkk => ?_)
            have hC := zkeep hC hkk C.dC
            have hO := zkeep hO hkk C.dO
            refine W.eq (g2 := F0 m 1724 ls [.int (zI (wtM mo (lmM mr (goF pa sp n st (sc xs (5 * (j : Int) + 2))) al co' da' td (sc xs (5 * (j : Int) + 1)) (sc xs (5 * (j : Int) + 2))) n (sc xs (5 * (j : Int) + 1)) td))]) rfl ?_
            refine lv_istore (lv' := [(6, .int (zI (wtM mo (lmM mr (goF pa sp n st (sc xs (5 * (j : Int) + 2))) al co' da' td (sc xs (5 * (j : Int) + 1)) (sc xs (5 * (j : Int) + 2))) n (sc xs (5 * (j : Int) + 1)) td))), (5, .int (zI 0)), (4, .int (zI (5 * (j : Int)))), (0, .ref b), (1, .ref (q 0)), (2, .ref (r 0)), (3, .ref o)]) C.hx C.hb dL_law_1724 hl (by decide) rfl (fun ls hl => ?_)
            refine lv_aload_n C.hx C.hb dL_law_1726 rfl (lv_at hl 5 rfl) ?_
            refine zcallV (ci := 3) (q0 := 0) (cq := (RX3, TX3, 12)) (As := []) (rest := []) ⟨C.hx, C.hb, C.hml, C.hown, dr_words C.hts _⟩ C.hK2 (kX3_thrown l D cI cZ r C.hNr pa sp al co' da' mo (goF pa sp n st (sc xs (5 * (j : Int) + 2))) (lmM mr (goF pa sp n st (sc xs (5 * (j : Int) + 2))) al co' da' td (sc xs (5 * (j : Int) + 1)) (sc xs (5 * (j : Int) + 2))) 0 n td wn) (cwV 0 (dr_words C.hts _) gL_law_X3_thrown rfl rfl rfl (by decide +kernel) ⟨Nat.le_of_ble_eq_true rfl, Nat.le_of_ble_eq_true rfl⟩) hM hS C.hA2 rfl rfl rfl hl.1 rfl (Nat.le_of_ble_eq_true rfl) dL_law_1727 ⟨C.ok1 hcs.1 (by omega), C.ok2 hcs.2 (by omega)⟩ (fun H locs hM hS _ hkk => ?_)
            have hC := zkeep hC hkk C.dC
            have hO := zkeep hO hkk C.dO
            refine W.eq (g2 := F0 m 1730 ls [.int (zI 0)]) rfl ?_
            refine lv_iload C.hx C.hb dL_law_1730 (lv_at hl 1 rfl) ?_
            refine zr_icmp_eqT (tgt := 1737) C.hx C.hb (rfl) dL_law_1732 (by decide) ?_
            refine lv_iload C.hx C.hb dL_law_1737 (lv_at hl 1 rfl) ?_
            refine zr_if_ne (tgt := 1754) C.hx C.hb dL_law_1739 (by decide) ⟨by decide, by decide⟩ (fun h9 => by exfalso; revert h9; decide) (fun _ => ?_)
            refine lv_aload_n C.hx C.hb dL_law_1742 rfl (lv_at hl 6 rfl) ?_
            refine zr_iconst C.hx C.hb dL_law_1743 ?_
            refine zr_lald0 C.hx C.hb C.hK hO 0 2 rfl rfl dL_law_1744 ?_
            refine W.eq (g2 := F0 m 1745 ls [.long ((zI (max (ca co da mb dd td n (sc xs (5 * (j : Int) + 1)) 0) (cOn co da 16 (dgF pa sp n (sc xs (5 * (j : Int) + 2)) (sc xs (5 * (j : Int) + 1))) 0))).toInt64)]) rfl ?_
            refine lv_iload C.hx C.hb dL_law_1745 (lv_at hl 0 rfl) ?_
            refine lv_i2l C.hx C.hb dL_law_1747 rfl ?_
            refine zr_lcmp_eqT (tgt := 1754) C.hx C.hb (congrArg (fun z => (zI z).toInt64) (re_would R hst (by omega) (by omega) (by omega) (by omega) (by omega) (by omega))) dL_law_1748 dL_law_1749 (by decide) ?_
            refine lv_goto (tgt := 1825) C.hx C.hb dL_law_1754 (by decide) ?_
            refine W.widen (k := cells + 2) (n := slots + 12) (by omega) (by omega) ?_
            have hl := lv_sub hl (l' := [(4, .int (zI (5 * (j : Int)))), (0, .ref b), (1, .ref (q 0)), (2, .ref (r 0)), (3, .ref o)]) [2, 3, 4, 5, 6] rfl
            exact K _ hd0 H locs ls ⟨pa, sp, al, dgF pa sp n (sc xs (5 * (j : Int) + 2)), co, da, mb, dd, ah, wl, lo, n, td, wn, co', da', mo, goF pa sp n st (sc xs (5 * (j : Int) + 2)), lmM mr (goF pa sp n st (sc xs (5 * (j : Int) + 2))) al co' da' td (sc xs (5 * (j : Int) + 1)) (sc xs (5 * (j : Int) + 2)), 0, (vp_updL f 0 (zI (max (ca co da mb dd td n (sc xs (5 * (j : Int) + 1)) 0) (cOn co da 16 (dgF pa sp n (sc xs (5 * (j : Int) + 2)) (sc xs (5 * (j : Int) + 1))) 0))).toInt64), R, by omega, goF_bd hst _ _ _ _, lmM_bd hmr (re_td1 R) R.2.2.1.1 R.2.2.1.2.1 _ _, hC, hM, hO⟩ hS hl
    · have b2 := b2
      refine lv_aload_n C.hx C.hb dL_law_1689 rfl (lv_at hl 2 rfl) ?_
      refine lv_aload_n C.hx C.hb dL_law_1690 rfl (lv_at hl 1 rfl) ?_
      refine lv_iload C.hx C.hb dL_law_1691 (lv_at hl 0 rfl) ?_
      refine zr_iconst C.hx C.hb dL_law_1693 ?_
      refine zr_iadd (v := 5 * (j : Int) + 1) C.hx C.hb rfl dL_law_1694 ?_
      refine zr_sld (s := s.setDrawn d0) C.hx C.hb C.hX C.hbl C.hbA hS (i := 5 * (j : Int) + 1) (by omega) (by omega) C.hLN dL_law_1695 ?_
      refine lv_aload_n C.hx C.hb dL_law_1696 rfl (lv_at hl 1 rfl) ?_
      refine lv_iload C.hx C.hb dL_law_1697 (lv_at hl 0 rfl) ?_
      refine zr_iconst C.hx C.hb dL_law_1699 ?_
      refine zr_iadd (v := 5 * (j : Int) + 2) C.hx C.hb rfl dL_law_1700 ?_
      refine zr_sld (s := s.setDrawn d0) C.hx C.hb C.hX C.hbl C.hbA hS (i := 5 * (j : Int) + 2) (by omega) (by omega) C.hLN dL_law_1701 ?_
      refine lv_aload_n C.hx C.hb dL_law_1702 rfl (lv_at hl 4 rfl) ?_
      refine zcallLW (As := [.ref (q 0), .int (zI (sc xs (5 * (j : Int) + 1))), .int (zI (sc xs (5 * (j : Int) + 2))), .ref o]) (rest := []) ⟨C.hx, C.hb, C.hml, C.hown, dr_words C.hts _⟩ C.hK (kL_wouldWearx2 l D C.hl0 cI cZ cJ q o C.hN C.hN2 pa sp al dg co da mb dd ah wl lo n td wn f R.1.1 (sc xs (5 * (j : Int) + 1)) (sc xs (5 * (j : Int) + 2)) (by omega) (by omega) (by omega)) (vx_cwSW 4 (dr_words C.hts _) gL_law_L_wouldWear rfl rfl rfl (by decide +kernel) ⟨Nat.le_of_ble_eq_true rfl, Nat.le_of_ble_eq_true rfl⟩) hC hO (C.tk hS) C.hE hS C.hA3 rfl hl.1 rfl (Nat.le_of_ble_eq_true rfl) dL_law_1703 ⟨C.ok1 hcs.1 (by omega), C.ok2 hcs.2 (by omega)⟩ (fun H locs hC hO hS _ hkk => ?_)
      have hM := zkeep hM hkk C.dM
      refine lv_istore (lv' := [(5, .int (zI 1)), (4, .int (zI (5 * (j : Int)))), (0, .ref b), (1, .ref (q 0)), (2, .ref (r 0)), (3, .ref o)]) C.hx C.hb dL_law_1706 hl (by decide) rfl (fun ls hl => ?_)
      refine lv_aload_n C.hx C.hb dL_law_1708 rfl (lv_at hl 4 rfl) ?_
      refine lv_aload_n C.hx C.hb dL_law_1709 rfl (lv_at hl 2 rfl) ?_
      refine lv_iload C.hx C.hb dL_law_1710 (lv_at hl 1 rfl) ?_
      refine zr_iconst C.hx C.hb dL_law_1712 ?_
      refine zr_iadd (v := 5 * (j : Int) + 1) C.hx C.hb rfl dL_law_1713 ?_
      refine zr_sld (s := s.setDrawn d0) C.hx C.hb C.hX C.hbl C.hbA hS (i := 5 * (j : Int) + 1) (by omega) (by omega) C.hLN dL_law_1714 ?_
      refine lv_aload_n C.hx C.hb dL_law_1715 rfl (lv_at hl 2 rfl) ?_
      refine lv_iload C.hx C.hb dL_law_1716 (lv_at hl 1 rfl) ?_
      refine zr_iconst C.hx C.hb dL_law_1718 ?_
      refine zr_iadd (v := 5 * (j : Int) + 2) C.hx C.hb rfl dL_law_1719 ?_
      refine zr_sld (s := s.setDrawn d0) C.hx C.hb C.hX C.hbl C.hbA hS (i := 5 * (j : Int) + 2) (by omega) (by omega) C.hLN dL_law_1720 ?_
      refine zcallV (ci := 3) (q0 := 0) (cq := (RX3, TX3, 12)) (As := [.int (zI (sc xs (5 * (j : Int) + 1))), .int (zI (sc xs (5 * (j : Int) + 2)))]) (rest := []) ⟨C.hx, C.hb, C.hml, C.hown, dr_words C.hts _⟩ C.hK2 (kX3_wouldWeare1 l D cI cZ r C.hNr pa sp al co' da' mo st mr th n td wn R.1.1 (sc xs (5 * (j : Int) + 1)) (sc xs (5 * (j : Int) + 2)) (by omega) (by omega) (by omega)) (cwV 2 (dr_words C.hts _) gL_law_X3_wouldWear rfl rfl rfl (by decide +kernel) ⟨Nat.le_of_ble_eq_true rfl, Nat.le_of_ble_eq_true rfl⟩) hM hS C.hA2 rfl rfl rfl hl.1 rfl (Nat.le_of_ble_eq_true rfl) dL_law_1721 ⟨C.ok1 hcs.1 (by omega), C.ok2 hcs.2 (by omega)⟩ (fun H locs hM hS _ hkk => ?_)
      have hC := zkeep hC hkk C.dC
      have hO := zkeep hO hkk C.dO
      refine W.eq (g2 := F0 m 1724 ls [.int (zI 0)]) rfl ?_
      refine lv_istore (lv' := [(6, .int (zI 0)), (5, .int (zI 1)), (4, .int (zI (5 * (j : Int)))), (0, .ref b), (1, .ref (q 0)), (2, .ref (r 0)), (3, .ref o)]) C.hx C.hb dL_law_1724 hl (by decide) rfl (fun ls hl => ?_)
      refine lv_aload_n C.hx C.hb dL_law_1726 rfl (lv_at hl 5 rfl) ?_
      refine zcallV (ci := 3) (q0 := 0) (cq := (RX3, TX3, 12)) (As := []) (rest := []) ⟨C.hx, C.hb, C.hml, C.hown, dr_words C.hts _⟩ C.hK2 (kX3_thrown l D cI cZ r C.hNr pa sp al co' da' mo st mr 1 n td wn) (cwV 0 (dr_words C.hts _) gL_law_X3_thrown rfl rfl rfl (by decide +kernel) ⟨Nat.le_of_ble_eq_true rfl, Nat.le_of_ble_eq_true rfl⟩) hM hS C.hA2 rfl rfl rfl hl.1 rfl (Nat.le_of_ble_eq_true rfl) dL_law_1727 ⟨C.ok1 hcs.1 (by omega), C.ok2 hcs.2 (by omega)⟩ (fun H locs hM hS _ hkk => ?_)
      have hC := zkeep hC hkk C.dC
      have hO := zkeep hO hkk C.dO
      refine W.eq (g2 := F0 m 1730 ls [.int (zI 1)]) rfl ?_
      refine lv_iload C.hx C.hb dL_law_1730 (lv_at hl 1 rfl) ?_
      refine zr_icmp_eqT (tgt := 1737) C.hx C.hb (rfl) dL_law_1732 (by decide) ?_
      refine lv_iload C.hx C.hb dL_law_1737 (lv_at hl 1 rfl) ?_
      refine zr_if_ne (tgt := 1754) C.hx C.hb dL_law_1739 (by decide) ⟨by decide, by decide⟩ (fun _ => ?_) (fun h9 => by exfalso; revert h9; decide)
      refine lv_goto (tgt := 1825) C.hx C.hb dL_law_1754 (by decide) ?_
      refine W.widen (k := cells + 2) (n := slots + 12) (by omega) (by omega) ?_
      have hl := lv_sub hl (l' := [(4, .int (zI (5 * (j : Int)))), (0, .ref b), (1, .ref (q 0)), (2, .ref (r 0)), (3, .ref o)]) [2, 3, 4, 5, 6] rfl
      exact K _ hd0 H locs ls ⟨pa, sp, al, dg, co, da, mb, dd, ah, wl, lo, n, td, wn, co', da', mo, st, mr, 1, f, R, by omega, hst, hmr, hC, hM, hO⟩ hS hl
  · have b1 := b1
    refine lv_aload_n C.hx C.hb dL_law_1689 rfl (lv_at hl 2 rfl) ?_
    refine lv_aload_n C.hx C.hb dL_law_1690 rfl (lv_at hl 1 rfl) ?_
    refine lv_iload C.hx C.hb dL_law_1691 (lv_at hl 0 rfl) ?_
    refine zr_iconst C.hx C.hb dL_law_1693 ?_
    refine zr_iadd (v := 5 * (j : Int) + 1) C.hx C.hb rfl dL_law_1694 ?_
    refine zr_sld (s := s.setDrawn d0) C.hx C.hb C.hX C.hbl C.hbA hS (i := 5 * (j : Int) + 1) (by omega) (by omega) C.hLN dL_law_1695 ?_
    refine lv_aload_n C.hx C.hb dL_law_1696 rfl (lv_at hl 1 rfl) ?_
    refine lv_iload C.hx C.hb dL_law_1697 (lv_at hl 0 rfl) ?_
    refine zr_iconst C.hx C.hb dL_law_1699 ?_
    refine zr_iadd (v := 5 * (j : Int) + 2) C.hx C.hb rfl dL_law_1700 ?_
    refine zr_sld (s := s.setDrawn d0) C.hx C.hb C.hX C.hbl C.hbA hS (i := 5 * (j : Int) + 2) (by omega) (by omega) C.hLN dL_law_1701 ?_
    refine lv_aload_n C.hx C.hb dL_law_1702 rfl (lv_at hl 4 rfl) ?_
    refine zcallLW (As := [.ref (q 0), .int (zI (sc xs (5 * (j : Int) + 1))), .int (zI (sc xs (5 * (j : Int) + 2))), .ref o]) (rest := []) ⟨C.hx, C.hb, C.hml, C.hown, dr_words C.hts _⟩ C.hK (kL_wouldWearx1 l D C.hl0 cI cZ cJ q o C.hN C.hN2 pa sp al dg co da mb dd ah wl lo n td wn f R.1.1 (sc xs (5 * (j : Int) + 1)) (sc xs (5 * (j : Int) + 2)) (by omega) (by omega)) (vx_cwSW 4 (dr_words C.hts _) gL_law_L_wouldWear rfl rfl rfl (by decide +kernel) ⟨Nat.le_of_ble_eq_true rfl, Nat.le_of_ble_eq_true rfl⟩) hC hO (C.tk hS) C.hE hS C.hA3 rfl hl.1 rfl (Nat.le_of_ble_eq_true rfl) dL_law_1703 ⟨C.ok1 hcs.1 (by omega), C.ok2 hcs.2 (by omega)⟩ (fun H locs hC hO hS _ hkk => ?_)
    have hM := zkeep hM hkk C.dM
    refine lv_istore (lv' := [(5, .int (zI 1)), (4, .int (zI (5 * (j : Int)))), (0, .ref b), (1, .ref (q 0)), (2, .ref (r 0)), (3, .ref o)]) C.hx C.hb dL_law_1706 hl (by decide) rfl (fun ls hl => ?_)
    refine lv_aload_n C.hx C.hb dL_law_1708 rfl (lv_at hl 4 rfl) ?_
    refine lv_aload_n C.hx C.hb dL_law_1709 rfl (lv_at hl 2 rfl) ?_
    refine lv_iload C.hx C.hb dL_law_1710 (lv_at hl 1 rfl) ?_
    refine zr_iconst C.hx C.hb dL_law_1712 ?_
    refine zr_iadd (v := 5 * (j : Int) + 1) C.hx C.hb rfl dL_law_1713 ?_
    refine zr_sld (s := s.setDrawn d0) C.hx C.hb C.hX C.hbl C.hbA hS (i := 5 * (j : Int) + 1) (by omega) (by omega) C.hLN dL_law_1714 ?_
    refine lv_aload_n C.hx C.hb dL_law_1715 rfl (lv_at hl 2 rfl) ?_
    refine lv_iload C.hx C.hb dL_law_1716 (lv_at hl 1 rfl) ?_
    refine zr_iconst C.hx C.hb dL_law_1718 ?_
    refine zr_iadd (v := 5 * (j : Int) + 2) C.hx C.hb rfl dL_law_1719 ?_
    refine zr_sld (s := s.setDrawn d0) C.hx C.hb C.hX C.hbl C.hbA hS (i := 5 * (j : Int) + 2) (by omega) (by omega) C.hLN dL_law_1720 ?_
    refine zcallV (ci := 3) (q0 := 0) (cq := (RX3, TX3, 12)) (As := [.int (zI (sc xs (5 * (j : Int) + 1))), .int (zI (sc xs (5 * (j : Int) + 2)))]) (rest := []) ⟨C.hx, C.hb, C.hml, C.hown, dr_words C.hts _⟩ C.hK2 (kX3_wouldWeare1 l D cI cZ r C.hNr pa sp al co' da' mo st mr th n td wn R.1.1 (sc xs (5 * (j : Int) + 1)) (sc xs (5 * (j : Int) + 2)) (by omega) (by omega) (by omega)) (cwV 2 (dr_words C.hts _) gL_law_X3_wouldWear rfl rfl rfl (by decide +kernel) ⟨Nat.le_of_ble_eq_true rfl, Nat.le_of_ble_eq_true rfl⟩) hM hS C.hA2 rfl rfl rfl hl.1 rfl (Nat.le_of_ble_eq_true rfl) dL_law_1721 ⟨C.ok1 hcs.1 (by omega), C.ok2 hcs.2 (by omega)⟩ (fun H locs hM hS _ hkk => ?_)
    have hC := zkeep hC hkk C.dC
    have hO := zkeep hO hkk C.dO
    refine W.eq (g2 := F0 m 1724 ls [.int (zI 0)]) rfl ?_
    refine lv_istore (lv' := [(6, .int (zI 0)), (5, .int (zI 1)), (4, .int (zI (5 * (j : Int)))), (0, .ref b), (1, .ref (q 0)), (2, .ref (r 0)), (3, .ref o)]) C.hx C.hb dL_law_1724 hl (by decide) rfl (fun ls hl => ?_)
    refine lv_aload_n C.hx C.hb dL_law_1726 rfl (lv_at hl 5 rfl) ?_
    refine zcallV (ci := 3) (q0 := 0) (cq := (RX3, TX3, 12)) (As := []) (rest := []) ⟨C.hx, C.hb, C.hml, C.hown, dr_words C.hts _⟩ C.hK2 (kX3_thrown l D cI cZ r C.hNr pa sp al co' da' mo st mr 1 n td wn) (cwV 0 (dr_words C.hts _) gL_law_X3_thrown rfl rfl rfl (by decide +kernel) ⟨Nat.le_of_ble_eq_true rfl, Nat.le_of_ble_eq_true rfl⟩) hM hS C.hA2 rfl rfl rfl hl.1 rfl (Nat.le_of_ble_eq_true rfl) dL_law_1727 ⟨C.ok1 hcs.1 (by omega), C.ok2 hcs.2 (by omega)⟩ (fun H locs hM hS _ hkk => ?_)
    have hC := zkeep hC hkk C.dC
    have hO := zkeep hO hkk C.dO
    refine W.eq (g2 := F0 m 1730 ls [.int (zI 1)]) rfl ?_
    refine lv_iload C.hx C.hb dL_law_1730 (lv_at hl 1 rfl) ?_
    refine zr_icmp_eqT (tgt := 1737) C.hx C.hb (rfl) dL_law_1732 (by decide) ?_
    refine lv_iload C.hx C.hb dL_law_1737 (lv_at hl 1 rfl) ?_
    refine zr_if_ne (tgt := 1754) C.hx C.hb dL_law_1739 (by decide) ⟨by decide, by decide⟩ (fun _ => ?_) (fun h9 => by exfalso; revert h9; decide)
    refine lv_goto (tgt := 1825) C.hx C.hb dL_law_1754 (by decide) ?_
    refine W.widen (k := cells + 2) (n := slots + 12) (by omega) (by omega) ?_
    have hl := lv_sub hl (l' := [(4, .int (zI (5 * (j : Int)))), (0, .ref b), (1, .ref (q 0)), (2, .ref (r 0)), (3, .ref o)]) [2, 3, 4, 5, 6] rfl
    exact K _ hd0 H locs ls ⟨pa, sp, al, dg, co, da, mb, dd, ah, wl, lo, n, td, wn, co', da', mo, st, mr, 1, f, R, by omega, hst, hmr, hC, hM, hO⟩ hS hl
set_option maxHeartbeats 4000000 in
set_option maxRecDepth 100000 in
theorem law_c30 {p : Program} {l : Launch} {e : Env} {s : State} {m : MethodId} {below : List Frame} {meth : Method} {c : Code} {b L : Nat} {xs : Nat → Int32} {Q : State → Prop} {D : va_G} {cI cZ cJ : ClassId} {q r : Nat → Nat} {o : Nat} (C : zCx p l s m meth c b L xs D cI cZ cJ q r o) {d0 : Drawn} (hd0 : s.drawn.sameBut d0 lw_cs) {H : Heap} {locs : List Loc} {cells slots : Nat} (hcs : cells + 2 ≤ 601024 ∧ slots + 12 ≤ 7293034) {j : Nat} (hj : 5 * (j : Int) + 5 ≤ (L : Int)) (hj2 : j ≤ 512) {ls : Array Slot} (hZ : zLS D cI cZ cJ q r o j H) (hS : va_S (fun a => s.heap.size ≤ a) s.heap H locs) (hl : lv_has ls 9 [(4, .int (zI (5 * (j : Int)))), (0, .ref b), (1, .ref (q 0)), (2, .ref (r 0)), (3, .ref o)])
    (K : ∀ (d1 : Drawn), s.drawn.sameBut d1 lw_cs → ∀ (H1 : Heap) (locs1 : List Loc) (ls1 : Array Slot), zLS D cI cZ cJ q r o (j + 1) H1 → va_S (fun a => s.heap.size ≤ a) s.heap H1 locs1 → lv_has ls1 9 [(4, .int (zI (5 * (j : Int)))), (0, .ref b), (1, .ref (q 0)), (2, .ref (r 0)), (3, .ref o)] → W p l e room_1 (s.setDrawn d1) m #[Value.ref b] below meth c H1 locs1 (cells + 2) (slots + 12) Q (F0 m 1825 ls1 [])) :
    W p l e room_1 (s.setDrawn d0) m #[Value.ref b] below meth c H locs cells slots Q (F0 m 1757 ls []) := by
  obtain ⟨pa, sp, al, dg, co, da, mb, dd, ah, wl, lo, n, td, wn, co', da', mo, st, mr, th, f, R, htd, hst, hmr, hC, hM, hO⟩ := hZ
  have hn := R.1.1
  have htd0 := R.1.2
  have hLN := C.hLN
  have hs1 := sc_rg xs (5 * (j : Int) + 1)
  have hs2 := sc_rg xs (5 * (j : Int) + 2)
  have hs3 := sc_rg xs (5 * (j : Int) + 3)
  have hs4 := sc_rg xs (5 * (j : Int) + 4)
  refine lv_aload_n C.hx C.hb dL_law_1757 rfl (lv_at hl 2 rfl) ?_
  refine zcallV (ci := 2) (q0 := 0) (cq := (RX2, TX2, 9)) (As := []) (rest := []) ⟨C.hx, C.hb, C.hml, C.hown, dr_words C.hts _⟩ C.hK2 (kX2_heaviestLoss l D cI cZ q C.hN pa sp al dg co da mb dd ah wl lo n td wn R.1.1 R.2.1.2.2.2.1 R.2.1.2.2.2.2.1 R.2.1.2.2.2.2.2.1 (re_dd1 R) (re_td1 R) R.2.1.1 R.2.1.2.1 R.2.1.2.2.1) (cwV 0 (dr_words C.hts _) gL_law_X2_heaviestLoss rfl rfl rfl (by decide +kernel) ⟨Nat.le_of_ble_eq_true rfl, Nat.le_of_ble_eq_true rfl⟩) hC hS C.hA1 rfl rfl rfl hl.1 rfl (Nat.le_of_ble_eq_true rfl) dL_law_1758 ⟨C.ok1 hcs.1 (by omega), C.ok2 hcs.2 (by omega)⟩ (fun H locs hC hS _ hkk => ?_)
  have hM := zkeep hM hkk C.dM2
  have hO := zkeep hO hkk C.dO2
  refine W.eq (g2 := F0 m 1761 ls [.int (zI (hvF al (hlF pa sp al co da mb dd td n n) n))]) rfl ?_
  refine lv_aload_n C.hx C.hb dL_law_1761 rfl (lv_at hl 3 rfl) ?_
  refine zcallV (ci := 3) (q0 := 0) (cq := (RX3, TX3, 12)) (As := []) (rest := [.int (zI (hvF al (hlF pa sp al co da mb dd td n n) n))]) ⟨C.hx, C.hb, C.hml, C.hown, dr_words C.hts _⟩ C.hK2 (kX3_heaviestLoss l D cI cZ r C.hNr pa sp al co' da' mo st mr th n td wn R.2.1.1 R.2.1.2.1 R.2.1.2.2.1 R.2.2.1.1 R.2.2.1.2.1 R.2.2.1.2.2 hst hmr R.1.1 (re_td1 R)) (cwV 0 (dr_words C.hts _) gL_law_X3_heaviestLoss rfl rfl rfl (by decide +kernel) ⟨Nat.le_of_ble_eq_true rfl, Nat.le_of_ble_eq_true rfl⟩) hM hS C.hA2 rfl rfl rfl hl.1 rfl (Nat.le_of_ble_eq_true rfl) dL_law_1762 ⟨C.ok1 hcs.1 (by omega), C.ok2 hcs.2 (by omega)⟩ (fun H locs hM hS _ hkk => ?_)
  have hC := zkeep hC hkk C.dC
  have hO := zkeep hO hkk C.dO
  refine W.eq (g2 := F0 m 1765 ls [.int (zI (hbF (heV pa sp al co' da' mo n td st mr) n)), .int (zI (hvF al (hlF pa sp al co da mb dd td n n) n))]) rfl ?_
  refine zr_icmp_eqT (tgt := 1825) C.hx C.hb (congrArg zI (re_heavy R hst)) dL_law_1765 (by decide) ?_
  refine W.widen (k := cells + 2) (n := slots + 12) (by omega) (by omega) ?_
  have hl := lv_sub hl (l' := [(4, .int (zI (5 * (j : Int)))), (0, .ref b), (1, .ref (q 0)), (2, .ref (r 0)), (3, .ref o)]) [0, 1, 2, 3, 4] rfl
  exact K _ hd0 H locs ls ⟨pa, sp, al, lsF al dg (dgF pa sp n) n, co, da, mb, dd, lsF al ah (ca co da mb dd td n) n, lsF al wl (wwP co da mb dd td n) n, hlF pa sp al co da mb dd td n n, n, td, wn, co', da', mo, heS pa sp al n st n, heM pa sp al co' da' n td st mr n, 0, f, R, by omega, heS_bd hst n, heM_bd hmr (re_td1 R) R.2.2.1.1 R.2.2.1.2.1 n, hC, hM, hO⟩ hS hl
