set_option maxHeartbeats 4000000 in
set_option maxRecDepth 100000 in
theorem law_c31 {p : Program} {l : Launch} {e : Env} {s : State} {m : MethodId} {below : List Frame} {meth : Method} {c : Code} {b L : Nat} {xs : Nat → Int32} {Q : State → Prop} {D : va_G} {cI cZ cJ : ClassId} {q r : Nat → Nat} {o : Nat} (C : zCx p l s m meth c b L xs D cI cZ cJ q r o) {d0 : Drawn} (hd0 : s.drawn.sameBut d0 lw_cs) {H : Heap} {locs : List Loc} {cells slots : Nat} (hcs : cells + 2 ≤ 601024 ∧ slots + 12 ≤ 7293034) {j : Nat} (hj : 5 * (j : Int) + 5 ≤ (L : Int)) (hj2 : j ≤ 512) {ls : Array Slot} (hZ : zLS D cI cZ cJ q r o j H) (hS : va_S (fun a => s.heap.size ≤ a) s.heap H locs) (hl : lv_has ls 9 [(4, .int (zI (5 * (j : Int)))), (0, .ref b), (1, .ref (q 0)), (2, .ref (r 0)), (3, .ref o)])
    (K : ∀ (d1 : Drawn), s.drawn.sameBut d1 lw_cs → ∀ (H1 : Heap) (locs1 : List Loc) (ls1 : Array Slot), zLS D cI cZ cJ q r o (j + 1) H1 → va_S (fun a => s.heap.size ≤ a) s.heap H1 locs1 → lv_has ls1 9 [(4, .int (zI (5 * (j : Int)))), (0, .ref b), (1, .ref (q 0)), (2, .ref (r 0)), (3, .ref o)] → W p l e room_1 (s.setDrawn d1) m #[Value.ref b] below meth c H1 locs1 (cells + 2) (slots + 12) Q (F0 m 1825 ls1 [])) :
    W p l e room_1 (s.setDrawn d0) m #[Value.ref b] below meth c H locs cells slots Q (F0 m 1770 ls []) := by
  obtain ⟨pa, sp, al, dg, co, da, mb, dd, ah, wl, lo, n, td, wn, co', da', mo, st, mr, th, f, R, htd, hst, hmr, hC, hM, hO⟩ := hZ
  have hn := R.1.1
  have htd0 := R.1.2
  have hLN := C.hLN
  have hs1 := sc_rg xs (5 * (j : Int) + 1)
  have hs2 := sc_rg xs (5 * (j : Int) + 2)
  have hs3 := sc_rg xs (5 * (j : Int) + 3)
  have hs4 := sc_rg xs (5 * (j : Int) + 4)
  refine lv_aload_n C.hx C.hb dL_law_1770 rfl (lv_at hl 2 rfl) ?_
  refine zcallDV (ci := 2) (q0 := 0) (cq := (RX2, TX2, 9)) (As := []) (rest := []) hd0 ⟨C.hx, C.hb, C.hml, C.hown, dr_words C.hts _⟩ C.hK2 (kX2_meanDaysLeft l D cI cZ q C.hN pa sp al dg co da mb dd ah wl lo n td wn R.1.1 R.2.1.2.2.1 R.2.1.2.2.2.2.1 R.2.1.2.2.2.2.2.1 (re_dd1 R) (re_td1 R)) (cwV 0 (dr_words C.hts _) gL_law_X2_meanDaysLeft rfl rfl rfl (by decide +kernel) ⟨Nat.le_of_ble_eq_true rfl, Nat.le_of_ble_eq_true rfl⟩) hC hS C.hA1 rfl rfl rfl hl.1 rfl (Nat.le_of_ble_eq_true rfl) dL_law_1771 ⟨C.ok1 hcs.1 (by omega), C.ok2 hcs.2 (by omega)⟩ (fun r1 d1 H locs hd1 ha1 hC hS _ hkk => ?_)
  have hM := zkeep hM hkk C.dM2
  have hO := zkeep hO hkk C.dO2
  refine lv_dstore (lv' := (5, .double r1) :: [(4, .int (zI (5 * (j : Int)))), (0, .ref b), (1, .ref (q 0)), (2, .ref (r 0)), (3, .ref o)]) C.hx C.hb dL_law_1774 hl (by decide) rfl (fun ls hl => ?_)
  refine lv_aload_n C.hx C.hb dL_law_1776 rfl (lv_at hl 4 rfl) ?_
  refine zcallDV (ci := 3) (q0 := 0) (cq := (RX3, TX3, 12)) (As := []) (rest := []) hd1 ⟨C.hx, C.hb, C.hml, C.hown, dr_words C.hts _⟩ C.hK2 (kX3_meanDaysLeft l D cI cZ r C.hNr pa sp al co' da' mo st mr th n td wn R.2.1.2.2.1 R.1.1 R.2.2.1.2.2 (re_td1 R)) (cwV 0 (dr_words C.hts _) gL_law_X3_meanDaysLeft rfl rfl rfl (by decide +kernel) ⟨Nat.le_of_ble_eq_true rfl, Nat.le_of_ble_eq_true rfl⟩) hM hS C.hA2 rfl rfl rfl hl.1 rfl (Nat.le_of_ble_eq_true rfl) dL_law_1777 ⟨C.ok1 hcs.1 (by omega), C.ok2 hcs.2 (by omega)⟩ (fun r2 d2 H locs hd2 ha2 hM hS _ hkk => ?_)
  have hC := zkeep hC hkk C.dC
  have hO := zkeep hO hkk C.dO
  rw [← re_sumleft R] at ha2
  refine lv_dstore (lv' := (7, .double r2) :: (5, .double r1) :: [(4, .int (zI (5 * (j : Int)))), (0, .ref b), (1, .ref (q 0)), (2, .ref (r 0)), (3, .ref o)]) C.hx C.hb dL_law_1780 hl (by decide) rfl (fun ls hl => ?_)
  have fin : W p l e room_1 (s.setDrawn d2) m #[Value.ref b] below meth c H locs cells slots Q (F0 m 1808 ls []) := by
    refine lv_goto (tgt := 1825) C.hx C.hb dL_law_1808 (by decide) ?_
    refine W.widen (k := cells + 2) (n := slots + 12) (by omega) (by omega) ?_
    exact K _ hd2 H locs ls ⟨pa, sp, al, dg, co, da, mb, dd, ah, wl, lo, n, td, wn, co', da', mo, st, mr, 0, f, R, by omega, hst, hmr, hC, hM, hO⟩ hS (lv_sub hl (l' := [(4, .int (zI (5 * (j : Int)))), (0, .ref b), (1, .ref (q 0)), (2, .ref (r 0)), (3, .ref o)]) [2, 3, 4, 5, 6] rfl)
  refine lv_dload C.hx C.hb dL_law_1782 (lv_at hl 1 rfl) ?_
  refine lv_dload C.hx C.hb dL_law_1784 (lv_at hl 0 rfl) ?_
  refine lv_dcmp C.hx C.hb dL_law_1786 ?_
  refine lv_if_eq (tgt := 1808) C.hx C.hb dL_law_1787 (by decide) (fun _ => fin) (fun h1 => ?_)
  have g : Op.cmpValue (FP.dcmp r1 r1) .l ≠ 0 ∧ Op.cmpValue (FP.dcmp r2 r2) .l ≠ 0 := by
    rcases alike_cmp ha1 ha2 with h2 | ⟨_, h3, h4⟩
    · rw [← h2] at h1 ⊢
      exact ⟨h1, h1⟩
    · rw [h3, h4]
      exact ⟨by decide, by decide⟩
  refine lv_dload C.hx C.hb dL_law_1790 (lv_at hl 1 rfl) ?_
  refine lv_dload C.hx C.hb dL_law_1792 (lv_at hl 1 rfl) ?_
  refine lv_dcmp C.hx C.hb dL_law_1794 ?_
  refine lv_if_eq (tgt := 1806) C.hx C.hb dL_law_1795 (by decide) (fun h2 => absurd h2 g.1) (fun _ => ?_)
  refine lv_dload C.hx C.hb dL_law_1798 (lv_at hl 0 rfl) ?_
  refine lv_dload C.hx C.hb dL_law_1800 (lv_at hl 0 rfl) ?_
  refine lv_dcmp C.hx C.hb dL_law_1802 ?_
  exact lv_if_ne (tgt := 1808) C.hx C.hb dL_law_1803 (by decide) (fun _ => fin) (fun h2 => absurd h2 g.2)
