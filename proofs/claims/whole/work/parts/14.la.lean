/-- what stands between two calls of the law, behind j calls -/
def zLS (D : va_G) (cI cZ cJ : ClassId) (q r : Nat → Nat) (o j : Nat) (H : Heap) : Prop := ∃ (pa sp al dg co da mb dd ah wl lo : Int → Int) (n : Nat) (td wn : Int) (co' da' mo st mr : Int → Int) (th : Int) (f : Nat → Int64),
  Rel pa sp al co da mb dd n td co' da' mo ∧ td ≤ 200 * (j : Int) ∧ (∀ j : Int, -1 ≤ st j ∧ st j ≤ 4) ∧ (∀ j : Int, -1 ≤ mr j ∧ mr j ≤ 1000000) ∧ va_P D vwCl (wC cI cZ q pa sp al dg co da mb dd ah wl lo n td wn) H ∧ va_P D vwCl (wM cI cZ r pa sp al co' da' mo st mr th n td wn) H ∧ va_P D vwCl (wO cJ o f) H
/-- what holds all along the law's walk -/
def zCx (p : Program) (l : Launch) (s : State) (m : MethodId) (meth : Method) (c : Code) (b L : Nat) (xs : Nat → Int32) (D : va_G) (cI cZ cJ : ClassId) (q r : Nat → Nat) (o : Nat) : Prop :=
  (p.tables.exec = Jvm.exec ∧ c.code = code ∧ meth.sig.returnType = ret ∧ c.maxLocals = 9 ∧ s.vm.findClass RL = some m.cls ∧ (∀ w ∈ wsL_law, w.before #[Value.ref b] s = true) ∧ va_X b L xs s s.heap ∧ b < s.heap.size ∧ meth.locks = false ∧ L ≤ 2560 ∧ l.stackTraces = false) ∧
  (va_K D vwCl [(cI, .int), (cZ, .boolean), (cJ, .long)] s ∧ zT (fun a => s.heap.size ≤ a) s s.heap ∧ zE s) ∧ ((zLC q ++ zLM r ++ [o]).Nodup ∧ ∀ a ∈ zLC q ++ zLM r ++ [o], s.heap.size ≤ a)
section ZCX
variable {p : Program} {l : Launch} {s : State} {m : MethodId} {meth : Method} {c : Code} {b L : Nat} {xs : Nat → Int32} {D : va_G} {cI cZ cJ : ClassId} {q r : Nat → Nat} {o : Nat} {H : Heap} {locs : List Loc}
theorem zCx.hx (C : zCx p l s m meth c b L xs D cI cZ cJ q r o) : p.tables.exec = Jvm.exec := C.1.1
theorem zCx.hb (C : zCx p l s m meth c b L xs D cI cZ cJ q r o) : c.code = code := C.1.2.1
theorem zCx.hr (C : zCx p l s m meth c b L xs D cI cZ cJ q r o) : meth.sig.returnType = ret := C.1.2.2.1
theorem zCx.hml (C : zCx p l s m meth c b L xs D cI cZ cJ q r o) : c.maxLocals = 9 := C.1.2.2.2.1
theorem zCx.hown (C : zCx p l s m meth c b L xs D cI cZ cJ q r o) : s.vm.findClass RL = some m.cls := C.1.2.2.2.2.1
theorem zCx.hts (C : zCx p l s m meth c b L xs D cI cZ cJ q r o) : ∀ w ∈ wsL_law, w.before #[Value.ref b] s = true := C.1.2.2.2.2.2.1
theorem zCx.hX (C : zCx p l s m meth c b L xs D cI cZ cJ q r o) : va_X b L xs s s.heap := C.1.2.2.2.2.2.2.1
theorem zCx.hbl (C : zCx p l s m meth c b L xs D cI cZ cJ q r o) : b < s.heap.size := C.1.2.2.2.2.2.2.2.1
theorem zCx.hbA (C : zCx p l s m meth c b L xs D cI cZ cJ q r o) : ¬ (fun a => s.heap.size ≤ a) b := Nat.not_le.mpr C.hbl
theorem zCx.hlocks (C : zCx p l s m meth c b L xs D cI cZ cJ q r o) : meth.locks = false := C.1.2.2.2.2.2.2.2.2.1
theorem zCx.hLN (C : zCx p l s m meth c b L xs D cI cZ cJ q r o) : L ≤ 65536 := Nat.le_trans C.1.2.2.2.2.2.2.2.2.2.1 (by decide)
theorem zCx.hL (C : zCx p l s m meth c b L xs D cI cZ cJ q r o) : L ≤ 2560 := C.1.2.2.2.2.2.2.2.2.2.1
theorem zCx.hl0 (C : zCx p l s m meth c b L xs D cI cZ cJ q r o) : l.stackTraces = false := C.1.2.2.2.2.2.2.2.2.2.2
theorem zCx.hK (C : zCx p l s m meth c b L xs D cI cZ cJ q r o) : va_K D vwCl [(cI, .int), (cZ, .boolean), (cJ, .long)] s := C.2.1.1
theorem zCx.hK2 (C : zCx p l s m meth c b L xs D cI cZ cJ q r o) : va_K D vwCl [(cI, .int), (cZ, .boolean)] s := C.hK.sub [0, 1] rfl
theorem zCx.hE {d0 : Drawn} (C : zCx p l s m meth c b L xs D cI cZ cJ q r o) : zE (s.setDrawn d0) := zE.drawn C.2.1.2.2
theorem zCx.hA1 (C : zCx p l s m meth c b L xs D cI cZ cJ q r o) : ∀ a ∈ zLC q, (fun a => s.heap.size ≤ a) a := fun a h => C.2.2.2 a (List.mem_append_left _ (List.mem_append_left _ h))
theorem zCx.hA2 (C : zCx p l s m meth c b L xs D cI cZ cJ q r o) : ∀ a ∈ zLM r, (fun a => s.heap.size ≤ a) a := fun a h => C.2.2.2 a (List.mem_append_left _ (List.mem_append_right _ h))
theorem zCx.hA3 (C : zCx p l s m meth c b L xs D cI cZ cJ q r o) : ∀ a ∈ zLC q ++ [o], (fun a => s.heap.size ≤ a) a := fun a h => (List.mem_append.mp h).elim (fun h => C.hA1 a h) (fun h => C.2.2.2 a (List.mem_append_right _ h))
theorem zCx.hN (C : zCx p l s m meth c b L xs D cI cZ cJ q r o) : (zLC q).Nodup := (List.nodup_append.mp (List.nodup_append.mp C.2.2.1).1).1
theorem zCx.hNr (C : zCx p l s m meth c b L xs D cI cZ cJ q r o) : (zLM r).Nodup := (List.nodup_append.mp (List.nodup_append.mp C.2.2.1).1).2.1
theorem zCx.hN2 (C : zCx p l s m meth c b L xs D cI cZ cJ q r o) : (zLC q ++ [o]).Nodup := List.nodup_append.mpr ⟨C.hN, by simp, fun a ha b hb => (List.nodup_append.mp C.2.2.1).2.2 a (List.mem_append_left _ ha) b hb⟩
theorem zCx.dM2 (C : zCx p l s m meth c b L xs D cI cZ cJ q r o) : ∀ a ∈ zLM r, a ∉ zLC q := fun a ha h => (List.nodup_append.mp (List.nodup_append.mp C.2.2.1).1).2.2 a h a ha rfl
theorem zCx.dC (C : zCx p l s m meth c b L xs D cI cZ cJ q r o) : ∀ a ∈ zLC q, a ∉ zLM r := fun a ha h => (List.nodup_append.mp (List.nodup_append.mp C.2.2.1).1).2.2 a ha a h rfl
theorem zCx.dO2 (C : zCx p l s m meth c b L xs D cI cZ cJ q r o) : ∀ a ∈ [o], a ∉ zLC q := fun a ha h => (List.nodup_append.mp C.2.2.1).2.2 a (List.mem_append_left _ h) a ha rfl
theorem zCx.dO (C : zCx p l s m meth c b L xs D cI cZ cJ q r o) : ∀ a ∈ [o], a ∉ zLM r := fun a ha h => (List.nodup_append.mp C.2.2.1).2.2 a (List.mem_append_right _ h) a ha rfl
theorem zCx.dM (C : zCx p l s m meth c b L xs D cI cZ cJ q r o) : ∀ a ∈ zLM r, a ∉ zLC q ++ [o] := fun a ha h => (List.mem_append.mp h).elim (fun h => C.dM2 a ha h) (fun h => (List.nodup_append.mp C.2.2.1).2.2 a (List.mem_append_right _ ha) a h rfl)
theorem zCx.tk {d0 : Drawn} (C : zCx p l s m meth c b L xs D cI cZ cJ q r o) (hS : va_S (fun a => s.heap.size ≤ a) s.heap H locs) : zT (fun a => a ∈ zLC q) (s.setDrawn d0) H := ((C.2.1.2.1.kept hS.2.1).narrow (fun a h => C.hA1 a h)).drawn
theorem zCx.ok1 (_ : zCx p l s m meth c b L xs D cI cZ cJ q r o) {x y : Nat} (h : y + 2 ≤ 601024) (h2 : x ≤ y + 2) : x ≤ room_1.cells := Nat.le_trans h2 h
theorem zCx.ok2 (_ : zCx p l s m meth c b L xs D cI cZ cJ q r o) {x y : Nat} (h : y + 12 ≤ 7293034) (h2 : x ≤ y + 12) : x ≤ room_1.slots := Nat.le_trans h2 h
end ZCX
set_option maxHeartbeats 4000000 in
set_option maxRecDepth 100000 in
theorem law_c0 {p : Program} {l : Launch} {e : Env} {s : State} {m : MethodId} {below : List Frame} {meth : Method} {c : Code} {b L : Nat} {xs : Nat → Int32} {Q : State → Prop} {D : va_G} {cI cZ cJ : ClassId} {q r : Nat → Nat} {o : Nat} (C : zCx p l s m meth c b L xs D cI cZ cJ q r o) {d0 : Drawn} (hd0 : s.drawn.sameBut d0 lw_cs) {H : Heap} {locs : List Loc} {cells slots : Nat} (hcs : cells + 2 ≤ 601024 ∧ slots + 12 ≤ 7293034) {j : Nat} (hj : 5 * (j : Int) + 5 ≤ (L : Int)) (hj2 : j ≤ 512) {ls : Array Slot} (hZ : zLS D cI cZ cJ q r o j H) (hS : va_S (fun a => s.heap.size ≤ a) s.heap H locs) (hl : lv_has ls 9 [(4, .int (zI (5 * (j : Int)))), (0, .ref b), (1, .ref (q 0)), (2, .ref (r 0)), (3, .ref o)])
    (K : ∀ (d1 : Drawn), s.drawn.sameBut d1 lw_cs → ∀ (H1 : Heap) (locs1 : List Loc) (ls1 : Array Slot), zLS D cI cZ cJ q r o (j + 1) H1 → va_S (fun a => s.heap.size ≤ a) s.heap H1 locs1 → lv_has ls1 9 [(4, .int (zI (5 * (j : Int)))), (0, .ref b), (1, .ref (q 0)), (2, .ref (r 0)), (3, .ref o)] → W p l e room_1 (s.setDrawn d1) m #[Value.ref b] below meth c H1 locs1 (cells + 2) (slots + 12) Q (F0 m 1825 ls1 [])) :
    W p l e room_1 (s.setDrawn d0) m #[Value.ref b] below meth c H locs cells slots Q (F0 m 184 ls []) := by
  obtain ⟨pa, sp, al, dg, co, da, mb, dd, ah, wl, lo, n, td, wn, co', da', mo, st, mr, th, f, R, htd, hst, hmr, hC, hM, hO⟩ := hZ
  have hn := R.1.1
  have htd0 := R.1.2
  have hLN := C.hLN
  have hs1 := sc_rg xs (5 * (j : Int) + 1)
  have hs2 := sc_rg xs (5 * (j : Int) + 2)
  have hs3 := sc_rg xs (5 * (j : Int) + 3)
  have hs4 := sc_rg xs (5 * (j : Int) + 4)
  by_cases b1 : n < 16
  · have b1 := b1
    refine lv_aload_n C.hx C.hb dL_law_184 rfl (lv_at hl 2 rfl) ?_
    refine lv_aload_n C.hx C.hb dL_law_185 rfl (lv_at hl 4 rfl) ?_
    refine zcallLW (As := [.ref (q 0), .ref o]) (rest := []) ⟨C.hx, C.hb, C.hml, C.hown, dr_words C.hts _⟩ C.hK (kL_addPersonok l D C.hl0 cI cZ cJ q o C.hN C.hN2 pa sp al dg co da mb dd ah wl lo n td wn f R.1.1 (by omega)) (vx_cwSW 2 (dr_words C.hts _) gL_law_L_addPerson rfl rfl rfl (by decide +kernel) ⟨Nat.le_of_ble_eq_true rfl, Nat.le_of_ble_eq_true rfl⟩) hC hO (C.tk hS) C.hE hS C.hA3 rfl hl.1 rfl (Nat.le_of_ble_eq_true rfl) dL_law_186 ⟨C.ok1 hcs.1 (by omega), C.ok2 hcs.2 (by omega)⟩ (fun H locs hC hO hS _ hkk => ?_)
    have hM := zkeep hM hkk C.dM
    refine lv_istore (lv' := [(5, .int (zI 0)), (4, .int (zI (5 * (j : Int)))), (0, .ref b), (1, .ref (q 0)), (2, .ref (r 0)), (3, .ref o)]) C.hx C.hb dL_law_189 hl (by decide) rfl (fun ls hl => ?_)
    refine lv_aload_n C.hx C.hb dL_law_191 rfl (lv_at hl 4 rfl) ?_
    refine zcallV (ci := 3) (q0 := 0) (cq := (RX3, TX3, 12)) (As := []) (rest := []) ⟨C.hx, C.hb, C.hml, C.hown, dr_words C.hts _⟩ C.hK2 (kX3_addPersonok l D cI cZ r C.hNr pa sp al co' da' mo st mr th n td wn R.1.1 (by omega)) (cwV 0 (dr_words C.hts _) gL_law_X3_addPerson rfl rfl rfl (by decide +kernel) ⟨Nat.le_of_ble_eq_true rfl, Nat.le_of_ble_eq_true rfl⟩) hM hS C.hA2 rfl rfl rfl hl.1 rfl (Nat.le_of_ble_eq_true rfl) dL_law_192 ⟨C.ok1 hcs.1 (by omega), C.ok2 hcs.2 (by omega)⟩ (fun H locs hM hS _ hkk => ?_)
    have hC := zkeep hC hkk C.dC
    have hO := zkeep hO hkk C.dO
    refine W.eq (g2 := F0 m 195 ls [.int (zI (n : Int))]) rfl ?_
    refine lv_istore (lv' := [(6, .int (zI (n : Int))), (5, .int (zI 0)), (4, .int (zI (5 * (j : Int)))), (0, .ref b), (1, .ref (q 0)), (2, .ref (r 0)), (3, .ref o)]) C.hx C.hb dL_law_195 hl (by decide) rfl (fun ls hl => ?_)
    refine lv_aload_n C.hx C.hb dL_law_197 rfl (lv_at hl 5 rfl) ?_
    refine zcallV (ci := 3) (q0 := 0) (cq := (RX3, TX3, 12)) (As := []) (rest := []) ⟨C.hx, C.hb, C.hml, C.hown, dr_words C.hts _⟩ C.hK2 (kX3_thrown l D cI cZ r C.hNr (up pa (n : Int) (-1)) (up sp (n : Int) (-1)) (up al (n : Int) 1) co' da' mo st mr 0 (n + 1) td wn) (cwV 0 (dr_words C.hts _) gL_law_X3_thrown rfl rfl rfl (by decide +kernel) ⟨Nat.le_of_ble_eq_true rfl, Nat.le_of_ble_eq_true rfl⟩) hM hS C.hA2 rfl rfl rfl hl.1 rfl (Nat.le_of_ble_eq_true rfl) dL_law_198 ⟨C.ok1 hcs.1 (by omega), C.ok2 hcs.2 (by omega)⟩ (fun H locs hM hS _ hkk => ?_)
    have hC := zkeep hC hkk C.dC
    have hO := zkeep hO hkk C.dO
    refine W.eq (g2 := F0 m 201 ls [.int (zI 0)]) rfl ?_
    refine lv_iload C.hx C.hb dL_law_201 (lv_at hl 1 rfl) ?_
    refine zr_icmp_eqT (tgt := 208) C.hx C.hb (rfl) dL_law_203 (by decide) ?_
    refine lv_iload C.hx C.hb dL_law_208 (lv_at hl 1 rfl) ?_
    refine zr_if_ne (tgt := 225) C.hx C.hb dL_law_210 (by decide) ⟨by decide, by decide⟩ (fun h9 => by exfalso; revert h9; decide) (fun _ => ?_)
    refine lv_aload_n C.hx C.hb dL_law_213 rfl (lv_at hl 6 rfl) ?_
    refine zr_iconst C.hx C.hb dL_law_214 ?_
    refine zr_lald0 C.hx C.hb C.hK hO 0 2 rfl rfl dL_law_215 ?_
    refine W.eq (g2 := F0 m 216 ls [.long ((zI (n : Int)).toInt64)]) rfl ?_
    refine lv_iload C.hx C.hb dL_law_216 (lv_at hl 0 rfl) ?_
    refine lv_i2l C.hx C.hb dL_law_218 rfl ?_
    refine zr_lcmp_eqT (tgt := 225) C.hx C.hb (rfl) dL_law_219 dL_law_220 (by decide) ?_
    refine lv_goto (tgt := 1825) C.hx C.hb dL_law_225 (by decide) ?_
    refine W.widen (k := cells + 2) (n := slots + 12) (by omega) (by omega) ?_
    have hl := lv_sub hl (l' := [(4, .int (zI (5 * (j : Int)))), (0, .ref b), (1, .ref (q 0)), (2, .ref (r 0)), (3, .ref o)]) [2, 3, 4, 5, 6] rfl
    exact K _ hd0 H locs ls ⟨up pa (n : Int) (-1), up sp (n : Int) (-1), up al (n : Int) 1, dg, co, da, mb, dd, ah, wl, lo, n + 1, td, wn, co', da', mo, st, mr, 0, (vp_updL f 0 (zI (n : Int)).toInt64), re_add R (by omega) ⟨by omega, by omega⟩, by omega, hst, hmr, hC, hM, hO⟩ hS hl
  · have b1 := b1
    refine lv_aload_n C.hx C.hb dL_law_184 rfl (lv_at hl 2 rfl) ?_
    refine lv_aload_n C.hx C.hb dL_law_185 rfl (lv_at hl 4 rfl) ?_
    refine zcallLW (As := [.ref (q 0), .ref o]) (rest := []) ⟨C.hx, C.hb, C.hml, C.hown, dr_words C.hts _⟩ C.hK (kL_addPersonx1 l D C.hl0 cI cZ cJ q o C.hN C.hN2 pa sp al dg co da mb dd ah wl lo n td wn f R.1.1 (by omega)) (vx_cwSW 2 (dr_words C.hts _) gL_law_L_addPerson rfl rfl rfl (by decide +kernel) ⟨Nat.le_of_ble_eq_true rfl, Nat.le_of_ble_eq_true rfl⟩) hC hO (C.tk hS) C.hE hS C.hA3 rfl hl.1 rfl (Nat.le_of_ble_eq_true rfl) dL_law_186 ⟨C.ok1 hcs.1 (by omega), C.ok2 hcs.2 (by omega)⟩ (fun H locs hC hO hS _ hkk => ?_)
    have hM := zkeep hM hkk C.dM
    refine lv_istore (lv' := [(5, .int (zI 1)), (4, .int (zI (5 * (j : Int)))), (0, .ref b), (1, .ref (q 0)), (2, .ref (r 0)), (3, .ref o)]) C.hx C.hb dL_law_189 hl (by decide) rfl (fun ls hl => ?_)
    refine lv_aload_n C.hx C.hb dL_law_191 rfl (lv_at hl 4 rfl) ?_
    refine zcallV (ci := 3) (q0 := 0) (cq := (RX3, TX3, 12)) (As := []) (rest := []) ⟨C.hx, C.hb, C.hml, C.hown, dr_words C.hts _⟩ C.hK2 (kX3_addPersone1 l D cI cZ r C.hNr pa sp al co' da' mo st mr th n td wn R.1.1 (by omega)) (cwV 0 (dr_words C.hts _) gL_law_X3_addPerson rfl rfl rfl (by decide +kernel) ⟨Nat.le_of_ble_eq_true rfl, Nat.le_of_ble_eq_true rfl⟩) hM hS C.hA2 rfl rfl rfl hl.1 rfl (Nat.le_of_ble_eq_true rfl) dL_law_192 ⟨C.ok1 hcs.1 (by omega), C.ok2 hcs.2 (by omega)⟩ (fun H locs hM hS _ hkk => ?_)
    have hC := zkeep hC hkk C.dC
    have hO := zkeep hO hkk C.dO
    refine W.eq (g2 := F0 m 195 ls [.int (zI 0)]) rfl ?_
    refine lv_istore (lv' := [(6, .int (zI 0)), (5, .int (zI 1)), (4, .int (zI (5 * (j : Int)))), (0, .ref b), (1, .ref (q 0)), (2, .ref (r 0)), (3, .ref o)]) C.hx C.hb dL_law_195 hl (by decide) rfl (fun ls hl => ?_)
    refine lv_aload_n C.hx C.hb dL_law_197 rfl (lv_at hl 5 rfl) ?_
    refine zcallV (ci := 3) (q0 := 0) (cq := (RX3, TX3, 12)) (As := []) (rest := []) ⟨C.hx, C.hb, C.hml, C.hown, dr_words C.hts _⟩ C.hK2 (kX3_thrown l D cI cZ r C.hNr pa sp al co' da' mo st mr 1 n td wn) (cwV 0 (dr_words C.hts _) gL_law_X3_thrown rfl rfl rfl (by decide +kernel) ⟨Nat.le_of_ble_eq_true rfl, Nat.le_of_ble_eq_true rfl⟩) hM hS C.hA2 rfl rfl rfl hl.1 rfl (Nat.le_of_ble_eq_true rfl) dL_law_198 ⟨C.ok1 hcs.1 (by omega), C.ok2 hcs.2 (by omega)⟩ (fun H locs hM hS _ hkk => ?_)
    have hC := zkeep hC hkk C.dC
    have hO := zkeep hO hkk C.dO
    refine W.eq (g2 := F0 m 201 ls [.int (zI 1)]) rfl ?_
    refine lv_iload C.hx C.hb dL_law_201 (lv_at hl 1 rfl) ?_
    refine zr_icmp_eqT (tgt := 208) C.hx C.hb (rfl) dL_law_203 (by decide) ?_
    refine lv_iload C.hx C.hb dL_law_208 (lv_at hl 1 rfl) ?_
    refine zr_if_ne (tgt := 225) C.hx C.hb dL_law_210 (by decide) ⟨by decide, by decide⟩ (fun _ => ?_) (fun h9 => by exfalso; revert h9; decide)
    refine lv_goto (tgt := 1825) C.hx C.hb dL_law_225 (by decide) ?_
    refine W.widen (k := cells + 2) (n := slots + 12) (by omega) (by omega) ?_
    have hl := lv_sub hl (l' := [(4, .int (zI (5 * (j : Int)))), (0, .ref b), (1, .ref (q 0)), (2, .ref (r 0)), (3, .ref o)]) [2, 3, 4, 5, 6] rfl
    exact K _ hd0 H locs ls ⟨pa, sp, al, dg, co, da, mb, dd, ah, wl, lo, n, td, wn, co', da', mo, st, mr, 1, f, R, by omega, hst, hmr, hC, hM, hO⟩ hS hl
set_option maxHeartbeats 4000000 in
set_option maxRecDepth 100000 in
theorem law_c1 {p : Program} {l : Launch} {e : Env} {s : State} {m : MethodId} {below : List Frame} {meth : Method} {c : Code} {b L : Nat} {xs : Nat → Int32} {Q : State → Prop} {D : va_G} {cI cZ cJ : ClassId} {q r : Nat → Nat} {o : Nat} (C : zCx p l s m meth c b L xs D cI cZ cJ q r o) {d0 : Drawn} (hd0 : s.drawn.sameBut d0 lw_cs) {H : Heap} {locs : List Loc} {cells slots : Nat} (hcs : cells + 2 ≤ 601024 ∧ slots + 12 ≤ 7293034) {j : Nat} (hj : 5 * (j : Int) + 5 ≤ (L : Int)) (hj2 : j ≤ 512) {ls : Array Slot} (hZ : zLS D cI cZ cJ q r o j H) (hS : va_S (fun a => s.heap.size ≤ a) s.heap H locs) (hl : lv_has ls 9 [(4, .int (zI (5 * (j : Int)))), (0, .ref b), (1, .ref (q 0)), (2, .ref (r 0)), (3, .ref o)])
    (K : ∀ (d1 : Drawn), s.drawn.sameBut d1 lw_cs → ∀ (H1 : Heap) (locs1 : List Loc) (ls1 : Array Slot), zLS D cI cZ cJ q r o (j + 1) H1 → va_S (fun a => s.heap.size ≤ a) s.heap H1 locs1 → lv_has ls1 9 [(4, .int (zI (5 * (j : Int)))), (0, .ref b), (1, .ref (q 0)), (2, .ref (r 0)), (3, .ref o)] → W p l e room_1 (s.setDrawn d1) m #[Value.ref b] below meth c H1 locs1 (cells + 2) (slots + 12) Q (F0 m 1825 ls1 [])) :
    W p l e room_1 (s.setDrawn d0) m #[Value.ref b] below meth c H locs cells slots Q (F0 m 228 ls []) := by
  obtain ⟨pa, sp, al, dg, co, da, mb, dd, ah, wl, lo, n, td, wn, co', da', mo, st, mr, th, f, R, htd, hst, hmr, hC, hM, hO⟩ := hZ
  have hn := R.1.1
  have htd0 := R.1.2
  have hLN := C.hLN
  have hs1 := sc_rg xs (5 * (j : Int) + 1)
  have hs2 := sc_rg xs (5 * (j : Int) + 2)
  have hs3 := sc_rg xs (5 * (j : Int) + 3)
  have hs4 := sc_rg xs (5 * (j : Int) + 4)
  by_cases b1 : 0 ≤ sc xs (5 * (j : Int) + 1) ∧ sc xs (5 * (j : Int) + 1) < (n : Int)
  · have b1 := b1
    by_cases b2 : al (sc xs (5 * (j : Int) + 1)) = 0
    · have b2 := b2
      refine lv_aload_n C.hx C.hb dL_law_228 rfl (lv_at hl 2 rfl) ?_
      refine lv_aload_n C.hx C.hb dL_law_229 rfl (lv_at hl 1 rfl) ?_
      refine lv_iload C.hx C.hb dL_law_230 (lv_at hl 0 rfl) ?_
      refine zr_iconst C.hx C.hb dL_law_232 ?_
      refine zr_iadd (v := 5 * (j : Int) + 1) C.hx C.hb rfl dL_law_233 ?_
      refine zr_sld (s := s.setDrawn d0) C.hx C.hb C.hX C.hbl C.hbA hS (i := 5 * (j : Int) + 1) (by omega) (by omega) C.hLN dL_law_234 ?_
      refine lv_aload_n C.hx C.hb dL_law_235 rfl (lv_at hl 4 rfl) ?_
      refine zcallLW (As := [.ref (q 0), .int (zI (sc xs (5 * (j : Int) + 1))), .ref o]) (rest := []) ⟨C.hx, C.hb, C.hml, C.hown, dr_words C.hts _⟩ C.hK (kL_addChildx2 l D C.hl0 cI cZ cJ q o C.hN C.hN2 pa sp al dg co da mb dd ah wl lo n td wn f R.1.1 R.2.1.2.2.1 (sc xs (5 * (j : Int) + 1)) (by omega) (by omega)) (vx_cwSW 3 (dr_words C.hts _) gL_law_L_addChild rfl rfl rfl (by decide +kernel) ⟨Nat.le_of_ble_eq_true rfl, Nat.le_of_ble_eq_true rfl⟩) hC hO (C.tk hS) C.hE hS C.hA3 rfl hl.1 rfl (Nat.le_of_ble_eq_true rfl) dL_law_236 ⟨C.ok1 hcs.1 (by omega), C.ok2 hcs.2 (by omega)⟩ (fun H locs hC hO hS _ hkk => ?_)
      have hM := zkeep hM hkk C.dM
      refine lv_istore (lv' := [(5, .int (zI 2)), (4, .int (zI (5 * (j : Int)))), (0, .ref b), (1, .ref (q 0)), (2, .ref (r 0)), (3, .ref o)]) C.hx C.hb dL_law_239 hl (by decide) rfl (fun ls hl => ?_)
      refine lv_aload_n C.hx C.hb dL_law_241 rfl (lv_at hl 4 rfl) ?_
      refine lv_aload_n C.hx C.hb dL_law_242 rfl (lv_at hl 2 rfl) ?_
      refine lv_iload C.hx C.hb dL_law_243 (lv_at hl 1 rfl) ?_
      refine zr_iconst C.hx C.hb dL_law_245 ?_
      refine zr_iadd (v := 5 * (j : Int) + 1) C.hx C.hb rfl dL_law_246 ?_
      refine zr_sld (s := s.setDrawn d0) C.hx C.hb C.hX C.hbl C.hbA hS (i := 5 * (j : Int) + 1) (by omega) (by omega) C.hLN dL_law_247 ?_
      refine zcallV (ci := 3) (q0 := 0) (cq := (RX3, TX3, 12)) (As := [.int (zI (sc xs (5 * (j : Int) + 1)))]) (rest := []) ⟨C.hx, C.hb, C.hml, C.hown, dr_words C.hts _⟩ C.hK2 (kX3_addChilde2 l D cI cZ r C.hNr pa sp al co' da' mo st mr th n td wn R.1.1 R.2.1.2.2.1 (sc xs (5 * (j : Int) + 1)) (by omega) (by omega) (by omega)) (cwV 1 (dr_words C.hts _) gL_law_X3_addChild rfl rfl rfl (by decide +kernel) ⟨Nat.le_of_ble_eq_true rfl, Nat.le_of_ble_eq_true rfl⟩) hM hS C.hA2 rfl rfl rfl hl.1 rfl (Nat.le_of_ble_eq_true rfl) dL_law_248 ⟨C.ok1 hcs.1 (by omega), C.ok2 hcs.2 (by omega)⟩ (fun H locs hM hS _ hkk => ?_)
      have hC := zkeep hC hkk C.dC
      have hO := zkeep hO hkk C.dO
      refine W.eq (g2 := F0 m 251 ls [.int (zI 0)]) rfl ?_
      refine lv_istore (lv' := [(6, .int (zI 0)), (5, .int (zI 2)), (4, .int (zI (5 * (j : Int)))), (0, .ref b), (1, .ref (q 0)), (2, .ref (r 0)), (3, .ref o)]) C.hx C.hb dL_law_251 hl (by decide) rfl (fun ls hl => ?_)
      refine lv_aload_n C.hx C.hb dL_law_253 rfl (lv_at hl 5 rfl) ?_
      refine zcallV (ci := 3) (q0 := 0) (cq := (RX3, TX3, 12)) (As := []) (rest := []) ⟨C.hx, C.hb, C.hml, C.hown, dr_words C.hts _⟩ C.hK2 (kX3_thrown l D cI cZ r C.hNr pa sp al co' da' mo st mr 2 n td wn) (cwV 0 (dr_words C.hts _) gL_law_X3_thrown rfl rfl rfl (by decide +kernel) ⟨Nat.le_of_ble_eq_true rfl, Nat.le_of_ble_eq_true rfl⟩) hM hS C.hA2 rfl rfl rfl hl.1 rfl (Nat.le_of_ble_eq_true rfl) dL_law_254 ⟨C.ok1 hcs.1 (by omega), C.ok2 hcs.2 (by omega)⟩ (fun H locs hM hS _ hkk => ?_)
      have hC := zkeep hC hkk C.dC
      have hO := zkeep hO hkk C.dO
      refine W.eq (g2 := F0 m 257 ls [.int (zI 2)]) rfl ?_
      refine lv_iload C.hx C.hb dL_law_257 (lv_at hl 1 rfl) ?_
      refine zr_icmp_eqT (tgt := 264) C.hx C.hb (rfl) dL_law_259 (by decide) ?_
      refine lv_iload C.hx C.hb dL_law_264 (lv_at hl 1 rfl) ?_
      refine zr_if_ne (tgt := 281) C.hx C.hb dL_law_266 (by decide) ⟨by decide, by decide⟩ (fun _ => ?_) (fun h9 => by exfalso; revert h9; decide)
      refine lv_goto (tgt := 1825) C.hx C.hb dL_law_281 (by decide) ?_
      refine W.widen (k := cells + 2) (n := slots + 12) (by omega) (by omega) ?_
      have hl := lv_sub hl (l' := [(4, .int (zI (5 * (j : Int)))), (0, .ref b), (1, .ref (q 0)), (2, .ref (r 0)), (3, .ref o)]) [2, 3, 4, 5, 6] rfl
      exact K _ hd0 H locs ls ⟨pa, sp, al, dg, co, da, mb, dd, ah, wl, lo, n, td, wn, co', da', mo, st, mr, 2, f, R, by omega, hst, hmr, hC, hM, hO⟩ hS hl
    · have b2 := b2
      by_cases b3 : n < 16
      · have b3 := b3
        refine lv_aload_n C.hx C.hb dL_law_228 rfl (lv_at hl 2 rfl) ?_
        refine lv_aload_n C.hx C.hb dL_law_229 rfl (lv_at hl 1 rfl) ?_
        refine lv_iload C.hx C.hb dL_law_230 (lv_at hl 0 rfl) ?_
        refine zr_iconst C.hx C.hb dL_law_232 ?_
        refine zr_iadd (v := 5 * (j : Int) + 1) C.hx C.hb rfl dL_law_233 ?_
        refine zr_sld (s := s.setDrawn d0) C.hx C.hb C.hX C.hbl C.hbA hS (i := 5 * (j : Int) + 1) (by omega) (by omega) C.hLN dL_law_234 ?_
        refine lv_aload_n C.hx C.hb dL_law_235 rfl (lv_at hl 4 rfl) ?_
        refine zcallLW (As := [.ref (q 0), .int (zI (sc xs (5 * (j : Int) + 1))), .ref o]) (rest := []) ⟨C.hx, C.hb, C.hml, C.hown, dr_words C.hts _⟩ C.hK (kL_addChildok l D C.hl0 cI cZ cJ q o C.hN C.hN2 pa sp al dg co da mb dd ah wl lo n td wn f R.1.1 R.2.1.2.2.1 (sc xs (5 * (j : Int) + 1)) (by omega) (by omega) (by omega)) (vx_cwSW 3 (dr_words C.hts _) gL_law_L_addChild rfl rfl rfl (by decide +kernel) ⟨Nat.le_of_ble_eq_true rfl, Nat.le_of_ble_eq_true rfl⟩) hC hO (C.tk hS) C.hE hS C.hA3 rfl hl.1 rfl (Nat.le_of_ble_eq_true rfl) dL_law_236 ⟨C.ok1 hcs.1 (by omega), C.ok2 hcs.2 (by omega)⟩ (fun H locs hC hO hS _ hkk => ?_)
        have hM := zkeep hM hkk C.dM
        refine lv_istore (lv' := [(5, .int (zI 0)), (4, .int (zI (5 * (j : Int)))), (0, .ref b), (1, .ref (q 0)), (2, .ref (r 0)), (3, .ref o)]) C.hx C.hb dL_law_239 hl (by decide) rfl (fun ls hl => ?_)
        refine lv_aload_n C.hx C.hb dL_law_241 rfl (lv_at hl 4 rfl) ?_
        refine lv_aload_n C.hx C.hb dL_law_242 rfl (lv_at hl 2 rfl) ?_
        refine lv_iload C.hx C.hb dL_law_243 (lv_at hl 1 rfl) ?_
        refine zr_iconst C.hx C.hb dL_law_245 ?_
        refine zr_iadd (v := 5 * (j : Int) + 1) C.hx C.hb rfl dL_law_246 ?_
        refine zr_sld (s := s.setDrawn d0) C.hx C.hb C.hX C.hbl C.hbA hS (i := 5 * (j : Int) + 1) (by omega) (by omega) C.hLN dL_law_247 ?_
        refine zcallV (ci := 3) (q0 := 0) (cq := (RX3, TX3, 12)) (As := [.int (zI (sc xs (5 * (j : Int) + 1)))]) (rest := []) ⟨C.hx, C.hb, C.hml, C.hown, dr_words C.hts _⟩ C.hK2 (kX3_addChildok l D cI cZ r C.hNr pa sp al co' da' mo st mr th n td wn R.1.1 R.2.1.2.2.1 (sc xs (5 * (j : Int) + 1)) (by omega) (by omega) (by omega) (by omega)) (cwV 1 (dr_words C.hts _) gL_law_X3_addChild rfl rfl rfl (by decide +kernel) ⟨Nat.le_of_ble_eq_true rfl, Nat.le_of_ble_eq_true rfl⟩) hM hS C.hA2 rfl rfl rfl hl.1 rfl (Nat.le_of_ble_eq_true rfl) dL_law_248 ⟨C.ok1 hcs.1 (by omega), C.ok2 hcs.2 (by omega)⟩ (fun H locs hM hS _ hkk => ?_)
        have hC := zkeep hC hkk C.dC
        have hO := zkeep hO hkk C.dO
        refine W.eq (g2 := F0 m 251 ls [.int (zI (n : Int))]) rfl ?_
        refine lv_istore (lv' := [(6, .int (zI (n : Int))), (5, .int (zI 0)), (4, .int (zI (5 * (j : Int)))), (0, .ref b), (1, .ref (q 0)), (2, .ref (r 0)), (3, .ref o)]) C.hx C.hb dL_law_251 hl (by decide) rfl (fun ls hl => ?_)
        refine lv_aload_n C.hx C.hb dL_law_253 rfl (lv_at hl 5 rfl) ?_
        refine zcallV (ci := 3) (q0 := 0) (cq := (RX3, TX3, 12)) (As := []) (rest := []) ⟨C.hx, C.hb, C.hml, C.hown, dr_words C.hts _⟩ C.hK2 (kX3_thrown l D cI cZ r C.hNr (up pa (n : Int) (sc xs (5 * (j : Int) + 1))) (up sp (n : Int) (-1)) (up al (n : Int) 1) co' da' mo st mr 0 (n + 1) td wn) (cwV 0 (dr_words C.hts _) gL_law_X3_thrown rfl rfl rfl (by decide +kernel) ⟨Nat.le_of_ble_eq_true rfl, Nat.le_of_ble_eq_true rfl⟩) hM hS C.hA2 rfl rfl rfl hl.1 rfl (Nat.le_of_ble_eq_true rfl) dL_law_254 ⟨C.ok1 hcs.1 (by omega), C.ok2 hcs.2 (by omega)⟩ (fun H locs hM hS _ hkk => ?_)
        have hC := zkeep hC hkk C.dC
        have hO := zkeep hO hkk C.dO
        refine W.eq (g2 := F0 m 257 ls [.int (zI 0)]) rfl ?_
        refine lv_iload C.hx C.hb dL_law_257 (lv_at hl 1 rfl) ?_
        refine zr_icmp_eqT (tgt := 264) C.hx C.hb (rfl) dL_law_259 (by decide) ?_
        refine lv_iload C.hx C.hb dL_law_264 (lv_at hl 1 rfl) ?_
        refine zr_if_ne (tgt := 281) C.hx C.hb dL_law_266 (by decide) ⟨by decide, by decide⟩ (fun h9 => by exfalso; revert h9; decide) (fun _ => ?_)
        refine lv_aload_n C.hx C.hb dL_law_269 rfl (lv_at hl 6 rfl) ?_
        refine zr_iconst C.hx C.hb dL_law_270 ?_
        refine zr_lald0 C.hx C.hb C.hK hO 0 2 rfl rfl dL_law_271 ?_
        refine W.eq (g2 := F0 m 272 ls [.long ((zI (n : Int)).toInt64)]) rfl ?_
        refine lv_iload C.hx C.hb dL_law_272 (lv_at hl 0 rfl) ?_
        refine lv_i2l C.hx C.hb dL_law_274 rfl ?_
        refine zr_lcmp_eqT (tgt := 281) C.hx C.hb (rfl) dL_law_275 dL_law_276 (by decide) ?_
        refine lv_goto (tgt := 1825) C.hx C.hb dL_law_281 (by decide) ?_
        refine W.widen (k := cells + 2) (n := slots + 12) (by omega) (by omega) ?_
        have hl := lv_sub hl (l' := [(4, .int (zI (5 * (j : Int)))), (0, .ref b), (1, .ref (q 0)), (2, .ref (r 0)), (3, .ref o)]) [2, 3, 4, 5, 6] rfl
        exact K _ hd0 H locs ls ⟨up pa (n : Int) (sc xs (5 * (j : Int) + 1)), up sp (n : Int) (-1), up al (n : Int) 1, dg, co, da, mb, dd, ah, wl, lo, n + 1, td, wn, co', da', mo, st, mr, 0, (vp_updL f 0 (zI (n : Int)).toInt64), re_add R (by omega) ⟨by omega, by omega⟩, by omega, hst, hmr, hC, hM, hO⟩ hS hl
      · have b3 := b3
        refine lv_aload_n C.hx C.hb dL_law_228 rfl (lv_at hl 2 rfl) ?_
        refine lv_aload_n C.hx C.hb dL_law_229 rfl (lv_at hl 1 rfl) ?_
        refine lv_iload C.hx C.hb dL_law_230 (lv_at hl 0 rfl) ?_
        refine zr_iconst C.hx C.hb dL_law_232 ?_
        refine zr_iadd (v := 5 * (j : Int) + 1) C.hx C.hb rfl dL_law_233 ?_
        refine zr_sld (s := s.setDrawn d0) C.hx C.hb C.hX C.hbl C.hbA hS (i := 5 * (j : Int) + 1) (by omega) (by omega) C.hLN dL_law_234 ?_
        refine lv_aload_n C.hx C.hb dL_law_235 rfl (lv_at hl 4 rfl) ?_
        refine zcallLW (As := [.ref (q 0), .int (zI (sc xs (5 * (j : Int) + 1))), .ref o]) (rest := []) ⟨C.hx, C.hb, C.hml, C.hown, dr_words C.hts _⟩ C.hK (kL_addChildx3 l D C.hl0 cI cZ cJ q o C.hN C.hN2 pa sp al dg co da mb dd ah wl lo n td wn f R.1.1 R.2.1.2.2.1 (sc xs (5 * (j : Int) + 1)) (by omega) (by omega) (by omega)) (vx_cwSW 3 (dr_words C.hts _) gL_law_L_addChild rfl rfl rfl (by decide +kernel) ⟨Nat.le_of_ble_eq_true rfl, Nat.le_of_ble_eq_true rfl⟩) hC hO (C.tk hS) C.hE hS C.hA3 rfl hl.1 rfl (Nat.le_of_ble_eq_true rfl) dL_law_236 ⟨C.ok1 hcs.1 (by omega), C.ok2 hcs.2 (by omega)⟩ (fun H locs hC hO hS _ hkk => ?_)
        have hM := zkeep hM hkk C.dM
        refine lv_istore (lv' := [(5, .int (zI 2)), (4, .int (zI (5 * (j : Int)))), (0, .ref b), (1, .ref (q 0)), (2, .ref (r 0)), (3, .ref o)]) C.hx C.hb dL_law_239 hl (by decide) rfl (fun ls hl => ?_)
        refine lv_aload_n C.hx C.hb dL_law_241 rfl (lv_at hl 4 rfl) ?_
        refine lv_aload_n C.hx C.hb dL_law_242 rfl (lv_at hl 2 rfl) ?_
        refine lv_iload C.hx C.hb dL_law_243 (lv_at hl 1 rfl) ?_
        refine zr_iconst C.hx C.hb dL_law_245 ?_
        refine zr_iadd (v := 5 * (j : Int) + 1) C.hx C.hb rfl dL_law_246 ?_
        refine zr_sld (s := s.setDrawn d0) C.hx C.hb C.hX C.hbl C.hbA hS (i := 5 * (j : Int) + 1) (by omega) (by omega) C.hLN dL_law_247 ?_
        refine zcallV (ci := 3) (q0 := 0) (cq := (RX3, TX3, 12)) (As := [.int (zI (sc xs (5 * (j : Int) + 1)))]) (rest := []) ⟨C.hx, C.hb, C.hml, C.hown, dr_words C.hts _⟩ C.hK2 (kX3_addChilde2 l D cI cZ r C.hNr pa sp al co' da' mo st mr th n td wn R.1.1 R.2.1.2.2.1 (sc xs (5 * (j : Int) + 1)) (by omega) (by omega) (by omega)) (cwV 1 (dr_words C.hts _) gL_law_X3_addChild rfl rfl rfl (by decide +kernel) ⟨Nat.le_of_ble_eq_true rfl, Nat.le_of_ble_eq_true rfl⟩) hM hS C.hA2 rfl rfl rfl hl.1 rfl (Nat.le_of_ble_eq_true rfl) dL_law_248 ⟨C.ok1 hcs.1 (by omega), C.ok2 hcs.2 (by omega)⟩ (fun H locs hM hS _ hkk => ?_)
        have hC := zkeep hC hkk C.dC
        have hO := zkeep hO hkk C.dO
        refine W.eq (g2 := F0 m 251 ls [.int (zI 0)]) rfl ?_
        refine lv_istore (lv' := [(6, .int (zI 0)), (5, .int (zI 2)), (4, .int (zI (5 * (j : Int)))), (0, .ref b), (1, .ref (q 0)), (2, .ref (r 0)), (3, .ref o)]) C.hx C.hb dL_law_251 hl (by decide) rfl (fun ls hl => ?_)
        refine lv_aload_n C.hx C.hb dL_law_253 rfl (lv_at hl 5 rfl) ?_
        refine zcallV (ci := 3) (q0 := 0) (cq := (RX3, TX3, 12)) (As := []) (rest := []) ⟨C.hx, C.hb, C.hml, C.hown, dr_words C.hts _⟩ C.hK2 (kX3_thrown l D cI cZ r C.hNr pa sp al co' da' mo st mr 2 n td wn) (cwV 0 (dr_words C.hts _) gL_law_X3_thrown rfl rfl rfl (by decide +kernel) ⟨Nat.le_of_ble_eq_true rfl, Nat.le_of_ble_eq_true rfl⟩) hM hS C.hA2 rfl rfl rfl hl.1 rfl (Nat.le_of_ble_eq_true rfl) dL_law_254 ⟨C.ok1 hcs.1 (by omega), C.ok2 hcs.2 (by omega)⟩ (fun H locs hM hS _ hkk => ?_)
        have hC := zkeep hC hkk C.dC
        have hO := zkeep hO hkk C.dO
        refine W.eq (g2 := F0 m 257 ls [.int (zI 2)]) rfl ?_
        refine lv_iload C.hx C.hb dL_law_257 (lv_at hl 1 rfl) ?_
        refine zr_icmp_eqT (tgt := 264) C.hx C.hb (rfl) dL_law_259 (by decide) ?_
        refine lv_iload C.hx C.hb dL_law_264 (lv_at hl 1 rfl) ?_
        refine zr_if_ne (tgt := 281) C.hx C.hb dL_law_266 (by decide) ⟨by decide, by decide⟩ (fun _ => ?_) (fun h9 => by exfalso; revert h9; decide)
        refine lv_goto (tgt := 1825) C.hx C.hb dL_law_281 (by decide) ?_
        refine W.widen (k := cells + 2) (n := slots + 12) (by omega) (by omega) ?_
        have hl := lv_sub hl (l' := [(4, .int (zI (5 * (j : Int)))), (0, .ref b), (1, .ref (q 0)), (2, .ref (r 0)), (3, .ref o)]) [2, 3, 4, 5, 6] rfl
        exact K _ hd0 H locs ls ⟨pa, sp, al, dg, co, da, mb, dd, ah, wl, lo, n, td, wn, co', da', mo, st, mr, 2, f, R, by omega, hst, hmr, hC, hM, hO⟩ hS hl
  · have b1 := b1
    refine lv_aload_n C.hx C.hb dL_law_228 rfl (lv_at hl 2 rfl) ?_
    refine lv_aload_n C.hx C.hb dL_law_229 rfl (lv_at hl 1 rfl) ?_
    refine lv_iload C.hx C.hb dL_law_230 (lv_at hl 0 rfl) ?_
    refine zr_iconst C.hx C.hb dL_law_232 ?_
    refine zr_iadd (v := 5 * (j : Int) + 1) C.hx C.hb rfl dL_law_233 ?_
    refine zr_sld (s := s.setDrawn d0) C.hx C.hb C.hX C.hbl C.hbA hS (i := 5 * (j : Int) + 1) (by omega) (by omega) C.hLN dL_law_234 ?_
    refine lv_aload_n C.hx C.hb dL_law_235 rfl (lv_at hl 4 rfl) ?_
    refine zcallLW (As := [.ref (q 0), .int (zI (sc xs (5 * (j : Int) + 1))), .ref o]) (rest := []) ⟨C.hx, C.hb, C.hml, C.hown, dr_words C.hts _⟩ C.hK (kL_addChildx1 l D C.hl0 cI cZ cJ q o C.hN C.hN2 pa sp al dg co da mb dd ah wl lo n td wn f R.1.1 (sc xs (5 * (j : Int) + 1)) (by omega) (by omega)) (vx_cwSW 3 (dr_words C.hts _) gL_law_L_addChild rfl rfl rfl (by decide +kernel) ⟨Nat.le_of_ble_eq_true rfl, Nat.le_of_ble_eq_true rfl⟩) hC hO (C.tk hS) C.hE hS C.hA3 rfl hl.1 rfl (Nat.le_of_ble_eq_true rfl) dL_law_236 ⟨C.ok1 hcs.1 (by omega), C.ok2 hcs.2 (by omega)⟩ (fun H locs hC hO hS _ hkk => ?_)
    have hM := zkeep hM hkk C.dM
    refine lv_istore (lv' := [(5, .int (zI 1)), (4, .int (zI (5 * (j : Int)))), (0, .ref b), (1, .ref (q 0)), (2, .ref (r 0)), (3, .ref o)]) C.hx C.hb dL_law_239 hl (by decide) rfl (fun ls hl => ?_)
    refine lv_aload_n C.hx C.hb dL_law_241 rfl (lv_at hl 4 rfl) ?_
    refine lv_aload_n C.hx C.hb dL_law_242 rfl (lv_at hl 2 rfl) ?_
    refine lv_iload C.hx C.hb dL_law_243 (lv_at hl 1 rfl) ?_
    refine zr_iconst C.hx C.hb dL_law_245 ?_
    refine zr_iadd (v := 5 * (j : Int) + 1) C.hx C.hb rfl dL_law_246 ?_
    refine zr_sld (s := s.setDrawn d0) C.hx C.hb C.hX C.hbl C.hbA hS (i := 5 * (j : Int) + 1) (by omega) (by omega) C.hLN dL_law_247 ?_
    refine zcallV (ci := 3) (q0 := 0) (cq := (RX3, TX3, 12)) (As := [.int (zI (sc xs (5 * (j : Int) + 1)))]) (rest := []) ⟨C.hx, C.hb, C.hml, C.hown, dr_words C.hts _⟩ C.hK2 (kX3_addChilde1 l D cI cZ r C.hNr pa sp al co' da' mo st mr th n td wn R.1.1 (sc xs (5 * (j : Int) + 1)) (by omega) (by omega)) (cwV 1 (dr_words C.hts _) gL_law_X3_addChild rfl rfl rfl (by decide +kernel) ⟨Nat.le_of_ble_eq_true rfl, Nat.le_of_ble_eq_true rfl⟩) hM hS C.hA2 rfl rfl rfl hl.1 rfl (Nat.le_of_ble_eq_true rfl) dL_law_248 ⟨C.ok1 hcs.1 (by omega), C.ok2 hcs.2 (by omega)⟩ (fun H locs hM hS _ hkk => ?_)
    have hC := zkeep hC hkk C.dC
    have hO := zkeep hO hkk C.dO
    refine W.eq (g2 := F0 m 251 ls [.int (zI 0)]) rfl ?_
    refine lv_istore (lv' := [(6, .int (zI 0)), (5, .int (zI 1)), (4, .int (zI (5 * (j : Int)))), (0, .ref b), (1, .ref (q 0)), (2, .ref (r 0)), (3, .ref o)]) C.hx C.hb dL_law_251 hl (by decide) rfl (fun ls hl => ?_)
    refine lv_aload_n C.hx C.hb dL_law_253 rfl (lv_at hl 5 rfl) ?_
    refine zcallV (ci := 3) (q0 := 0) (cq := (RX3, TX3, 12)) (As := []) (rest := []) ⟨C.hx, C.hb, C.hml, C.hown, dr_words C.hts _⟩ C.hK2 (kX3_thrown l D cI cZ r C.hNr pa sp al co' da' mo st mr 1 n td wn) (cwV 0 (dr_words C.hts _) gL_law_X3_thrown rfl rfl rfl (by decide +kernel) ⟨Nat.le_of_ble_eq_true rfl, Nat.le_of_ble_eq_true rfl⟩) hM hS C.hA2 rfl rfl rfl hl.1 rfl (Nat.le_of_ble_eq_true rfl) dL_law_254 ⟨C.ok1 hcs.1 (by omega), C.ok2 hcs.2 (by omega)⟩ (fun H locs hM hS _ hkk => ?_)
    have hC := zkeep hC hkk C.dC
    have hO := zkeep hO hkk C.dO
    refine W.eq (g2 := F0 m 257 ls [.int (zI 1)]) rfl ?_
    refine lv_iload C.hx C.hb dL_law_257 (lv_at hl 1 rfl) ?_
    refine zr_icmp_eqT (tgt := 264) C.hx C.hb (rfl) dL_law_259 (by decide) ?_
    refine lv_iload C.hx C.hb dL_law_264 (lv_at hl 1 rfl) ?_
    refine zr_if_ne (tgt := 281) C.hx C.hb dL_law_266 (by decide) ⟨by decide, by decide⟩ (fun _ => ?_) (fun h9 => by exfalso; revert h9; decide)
    refine lv_goto (tgt := 1825) C.hx C.hb dL_law_281 (by decide) ?_
    refine W.widen (k := cells + 2) (n := slots + 12) (by omega) (by omega) ?_
    have hl := lv_sub hl (l' := [(4, .int (zI (5 * (j : Int)))), (0, .ref b), (1, .ref (q 0)), (2, .ref (r 0)), (3, .ref o)]) [2, 3, 4, 5, 6] rfl
    exact K _ hd0 H locs ls ⟨pa, sp, al, dg, co, da, mb, dd, ah, wl, lo, n, td, wn, co', da', mo, st, mr, 1, f, R, by omega, hst, hmr, hC, hM, hO⟩ hS hl
set_option maxHeartbeats 4000000 in
set_option maxRecDepth 100000 in
theorem law_c2 {p : Program} {l : Launch} {e : Env} {s : State} {m : MethodId} {below : List Frame} {meth : Method} {c : Code} {b L : Nat} {xs : Nat → Int32} {Q : State → Prop} {D : va_G} {cI cZ cJ : ClassId} {q r : Nat → Nat} {o : Nat} (C : zCx p l s m meth c b L xs D cI cZ cJ q r o) {d0 : Drawn} (hd0 : s.drawn.sameBut d0 lw_cs) {H : Heap} {locs : List Loc} {cells slots : Nat} (hcs : cells + 2 ≤ 601024 ∧ slots + 12 ≤ 7293034) {j : Nat} (hj : 5 * (j : Int) + 5 ≤ (L : Int)) (hj2 : j ≤ 512) {ls : Array Slot} (hZ : zLS D cI cZ cJ q r o j H) (hS : va_S (fun a => s.heap.size ≤ a) s.heap H locs) (hl : lv_has ls 9 [(4, .int (zI (5 * (j : Int)))), (0, .ref b), (1, .ref (q 0)), (2, .ref (r 0)), (3, .ref o)])
    (K : ∀ (d1 : Drawn), s.drawn.sameBut d1 lw_cs → ∀ (H1 : Heap) (locs1 : List Loc) (ls1 : Array Slot), zLS D cI cZ cJ q r o (j + 1) H1 → va_S (fun a => s.heap.size ≤ a) s.heap H1 locs1 → lv_has ls1 9 [(4, .int (zI (5 * (j : Int)))), (0, .ref b), (1, .ref (q 0)), (2, .ref (r 0)), (3, .ref o)] → W p l e room_1 (s.setDrawn d1) m #[Value.ref b] below meth c H1 locs1 (cells + 2) (slots + 12) Q (F0 m 1825 ls1 [])) :
    W p l e room_1 (s.setDrawn d0) m #[Value.ref b] below meth c H locs cells slots Q (F0 m 284 ls []) := by
  obtain ⟨pa, sp, al, dg, co, da, mb, dd, ah, wl, lo, n, td, wn, co', da', mo, st, mr, th, f, R, htd, hst, hmr, hC, hM, hO⟩ := hZ
  have hn := R.1.1
  have htd0 := R.1.2
  have hLN := C.hLN
  have hs1 := sc_rg xs (5 * (j : Int) + 1)
  have hs2 := sc_rg xs (5 * (j : Int) + 2)
  have hs3 := sc_rg xs (5 * (j : Int) + 3)
  have hs4 := sc_rg xs (5 * (j : Int) + 4)
  by_cases b1 : 0 ≤ sc xs (5 * (j : Int) + 1) ∧ sc xs (5 * (j : Int) + 1) < (n : Int)
  · have b1 := b1
    by_cases b2 : 0 ≤ sc xs (5 * (j : Int) + 2) ∧ sc xs (5 * (j : Int) + 2) < (n : Int)
    · have b2 := b2
      by_cases b3 : sc xs (5 * (j : Int) + 1) = sc xs (5 * (j : Int) + 2)
      · have b3 := b3
        refine lv_aload_n C.hx C.hb dL_law_284 rfl (lv_at hl 2 rfl) ?_
        refine lv_aload_n C.hx C.hb dL_law_285 rfl (lv_at hl 1 rfl) ?_
        refine lv_iload C.hx C.hb dL_law_286 (lv_at hl 0 rfl) ?_
        refine zr_iconst C.hx C.hb dL_law_288 ?_
        refine zr_iadd (v := 5 * (j : Int) + 1) C.hx C.hb rfl dL_law_289 ?_
        refine zr_sld (s := s.setDrawn d0) C.hx C.hb C.hX C.hbl C.hbA hS (i := 5 * (j : Int) + 1) (by omega) (by omega) C.hLN dL_law_290 ?_
        refine lv_aload_n C.hx C.hb dL_law_291 rfl (lv_at hl 1 rfl) ?_
        refine lv_iload C.hx C.hb dL_law_292 (lv_at hl 0 rfl) ?_
        refine zr_iconst C.hx C.hb dL_law_294 ?_
        refine zr_iadd (v := 5 * (j : Int) + 2) C.hx C.hb rfl dL_law_295 ?_
        refine zr_sld (s := s.setDrawn d0) C.hx C.hb C.hX C.hbl C.hbA hS (i := 5 * (j : Int) + 2) (by omega) (by omega) C.hLN dL_law_296 ?_
        refine lv_aload_n C.hx C.hb dL_law_297 rfl (lv_at hl 4 rfl) ?_
        refine zcallLW (As := [.ref (q 0), .int (zI (sc xs (5 * (j : Int) + 1))), .int (zI (sc xs (5 * (j : Int) + 2))), .ref o]) (rest := []) ⟨C.hx, C.hb, C.hml, C.hown, dr_words C.hts _⟩ C.hK (kL_marryx3 l D C.hl0 cI cZ cJ q o C.hN C.hN2 pa sp al dg co da mb dd ah wl lo n td wn f R.1.1 (sc xs (5 * (j : Int) + 1)) (sc xs (5 * (j : Int) + 2)) (by omega) (by omega) (by omega)) (vx_cwSW 4 (dr_words C.hts _) gL_law_L_marry rfl rfl rfl (by decide +kernel) ⟨Nat.le_of_ble_eq_true rfl, Nat.le_of_ble_eq_true rfl⟩) hC hO (C.tk hS) C.hE hS C.hA3 rfl hl.1 rfl (Nat.le_of_ble_eq_true rfl) dL_law_298 ⟨C.ok1 hcs.1 (by omega), C.ok2 hcs.2 (by omega)⟩ (fun H locs hC hO hS _ hkk => ?_)
        have hM := zkeep hM hkk C.dM
        refine lv_istore (lv' := [(5, .int (zI 2)), (4, .int (zI (5 * (j : Int)))), (0, .ref b), (1, .ref (q 0)), (2, .ref (r 0)), (3, .ref o)]) C.hx C.hb dL_law_301 hl (by decide) rfl (fun ls hl => ?_)
        refine lv_aload_n C.hx C.hb dL_law_303 rfl (lv_at hl 4 rfl) ?_
        refine lv_aload_n C.hx C.hb dL_law_304 rfl (lv_at hl 2 rfl) ?_
        refine lv_iload C.hx C.hb dL_law_305 (lv_at hl 1 rfl) ?_
        refine zr_iconst C.hx C.hb dL_law_307 ?_
        refine zr_iadd (v := 5 * (j : Int) + 1) C.hx C.hb rfl dL_law_308 ?_
        refine zr_sld (s := s.setDrawn d0) C.hx C.hb C.hX C.hbl C.hbA hS (i := 5 * (j : Int) + 1) (by omega) (by omega) C.hLN dL_law_309 ?_
        refine lv_aload_n C.hx C.hb dL_law_310 rfl (lv_at hl 2 rfl) ?_
        refine lv_iload C.hx C.hb dL_law_311 (lv_at hl 1 rfl) ?_
        refine zr_iconst C.hx C.hb dL_law_313 ?_
        refine zr_iadd (v := 5 * (j : Int) + 2) C.hx C.hb rfl dL_law_314 ?_
        refine zr_sld (s := s.setDrawn d0) C.hx C.hb C.hX C.hbl C.hbA hS (i := 5 * (j : Int) + 2) (by omega) (by omega) C.hLN dL_law_315 ?_
        refine zcallV (ci := 3) (q0 := 0) (cq := (RX3, TX3, 12)) (As := [.int (zI (sc xs (5 * (j : Int) + 1))), .int (zI (sc xs (5 * (j : Int) + 2)))]) (rest := []) ⟨C.hx, C.hb, C.hml, C.hown, dr_words C.hts _⟩ C.hK2 (kX3_marrye2 l D cI cZ r C.hNr pa sp al co' da' mo st mr th n td wn R.1.1 (sc xs (5 * (j : Int) + 1)) (sc xs (5 * (j : Int) + 2)) (by omega) (by omega) (by omega) (by omega) (by omega)) (cwV 2 (dr_words C.hts _) gL_law_X3_marry rfl rfl rfl (by decide +kernel) ⟨Nat.le_of_ble_eq_true rfl, Nat.le_of_ble_eq_true rfl⟩) hM hS C.hA2 rfl rfl rfl hl.1 rfl (Nat.le_of_ble_eq_true rfl) dL_law_316 ⟨C.ok1 hcs.1 (by omega), C.ok2 hcs.2 (by omega)⟩ (fun H locs hM hS _ hkk => ?_)
        have hC := zkeep hC hkk C.dC
        have hO := zkeep hO hkk C.dO
        refine W.eq (g2 := F0 m 319 ls [.int (zI 0)]) rfl ?_
        refine lv_istore (lv' := [(6, .int (zI 0)), (5, .int (zI 2)), (4, .int (zI (5 * (j : Int)))), (0, .ref b), (1, .ref (q 0)), (2, .ref (r 0)), (3, .ref o)]) C.hx C.hb dL_law_319 hl (by decide) rfl (fun ls hl => ?_)
        refine lv_aload_n C.hx C.hb dL_law_321 rfl (lv_at hl 5 rfl) ?_
        refine zcallV (ci := 3) (q0 := 0) (cq := (RX3, TX3, 12)) (As := []) (rest := []) ⟨C.hx, C.hb, C.hml, C.hown, dr_words C.hts _⟩ C.hK2 (kX3_thrown l D cI cZ r C.hNr pa sp al co' da' mo st mr 2 n td wn) (cwV 0 (dr_words C.hts _) gL_law_X3_thrown rfl rfl rfl (by decide +kernel) ⟨Nat.le_of_ble_eq_true rfl, Nat.le_of_ble_eq_true rfl⟩) hM hS C.hA2 rfl rfl rfl hl.1 rfl (Nat.le_of_ble_eq_true rfl) dL_law_322 ⟨C.ok1 hcs.1 (by omega), C.ok2 hcs.2 (by omega)⟩ (fun H locs hM hS _ hkk => ?_)
        have hC := zkeep hC hkk C.dC
        have hO := zkeep hO hkk C.dO
        refine W.eq (g2 := F0 m 325 ls [.int (zI 2)]) rfl ?_
        refine lv_iload C.hx C.hb dL_law_325 (lv_at hl 1 rfl) ?_
        refine zr_icmp_eqT (tgt := 332) C.hx C.hb (rfl) dL_law_327 (by decide) ?_
        refine lv_iload C.hx C.hb dL_law_332 (lv_at hl 1 rfl) ?_
        refine zr_if_ne (tgt := 349) C.hx C.hb dL_law_334 (by decide) ⟨by decide, by decide⟩ (fun _ => ?_) (fun h9 => by exfalso; revert h9; decide)
        refine lv_goto (tgt := 1825) C.hx C.hb dL_law_349 (by decide) ?_
        refine W.widen (k := cells + 2) (n := slots + 12) (by omega) (by omega) ?_
        have hl := lv_sub hl (l' := [(4, .int (zI (5 * (j : Int)))), (0, .ref b), (1, .ref (q 0)), (2, .ref (r 0)), (3, .ref o)]) [2, 3, 4, 5, 6] rfl
        exact K _ hd0 H locs ls ⟨pa, sp, al, dg, co, da, mb, dd, ah, wl, lo, n, td, wn, co', da', mo, st, mr, 2, f, R, by omega, hst, hmr, hC, hM, hO⟩ hS hl
      · have b3 := b3
        by_cases b4 : al (sc xs (5 * (j : Int) + 1)) = 0
        · have b4 := b4
          refine lv_aload_n C.hx C.hb dL_law_284 rfl (lv_at hl 2 rfl) ?_
          refine lv_aload_n C.hx C.hb dL_law_285 rfl (lv_at hl 1 rfl) ?_
          refine lv_iload C.hx C.hb dL_law_286 (lv_at hl 0 rfl) ?_
          refine zr_iconst C.hx C.hb dL_law_288 ?_
          refine zr_iadd (v := 5 * (j : Int) + 1) C.hx C.hb rfl dL_law_289 ?_
          refine zr_sld (s := s.setDrawn d0) C.hx C.hb C.hX C.hbl C.hbA hS (i := 5 * (j : Int) + 1) (by omega) (by omega) C.hLN dL_law_290 ?_
          refine lv_aload_n C.hx C.hb dL_law_291 rfl (lv_at hl 1 rfl) ?_
          refine lv_iload C.hx C.hb dL_law_292 (lv_at hl 0 rfl) ?_
          refine zr_iconst C.hx C.hb dL_law_294 ?_
          refine zr_iadd (v := 5 * (j : Int) + 2) C.hx C.hb rfl dL_law_295 ?_
          refine zr_sld (s := s.setDrawn d0) C.hx C.hb C.hX C.hbl C.hbA hS (i := 5 * (j : Int) + 2) (by omega) (by omega) C.hLN dL_law_296 ?_
          refine lv_aload_n C.hx C.hb dL_law_297 rfl (lv_at hl 4 rfl) ?_
          refine zcallLW (As := [.ref (q 0), .int (zI (sc xs (5 * (j : Int) + 1))), .int (zI (sc xs (5 * (j : Int) + 2))), .ref o]) (rest := []) ⟨C.hx, C.hb, C.hml, C.hown, dr_words C.hts _⟩ C.hK (kL_marryx4 l D C.hl0 cI cZ cJ q o C.hN C.hN2 pa sp al dg co da mb dd ah wl lo n td wn f R.1.1 R.2.1.2.2.1 (sc xs (5 * (j : Int) + 1)) (sc xs (5 * (j : Int) + 2)) (by omega) (by omega) (by omega) (by omega)) (vx_cwSW 4 (dr_words C.hts _) gL_law_L_marry rfl rfl rfl (by decide +kernel) ⟨Nat.le_of_ble_eq_true rfl, Nat.le_of_ble_eq_true rfl⟩) hC hO (C.tk hS) C.hE hS C.hA3 rfl hl.1 rfl (Nat.le_of_ble_eq_true rfl) dL_law_298 ⟨C.ok1 hcs.1 (by omega), C.ok2 hcs.2 (by omega)⟩ (fun H locs hC hO hS _ hkk => ?_)
          have hM := zkeep hM hkk C.dM
          refine lv_istore (lv' := [(5, .int (zI 3)), (4, .int (zI (5 * (j : Int)))), (0, .ref b), (1, .ref (q 0)), (2, .ref (r 0)), (3, .ref o)]) C.hx C.hb dL_law_301 hl (by decide) rfl (fun ls hl => ?_)
          refine lv_aload_n C.hx C.hb dL_law_303 rfl (lv_at hl 4 rfl) ?_
          refine lv_aload_n C.hx C.hb dL_law_304 rfl (lv_at hl 2 rfl) ?_
          refine lv_iload C.hx C.hb dL_law_305 (lv_at hl 1 rfl) ?_
          refine zr_iconst C.hx C.hb dL_law_307 ?_
          refine zr_iadd (v := 5 * (j : Int) + 1) C.hx C.hb rfl dL_law_308 ?_
          refine zr_sld (s := s.setDrawn d0) C.hx C.hb C.hX C.hbl C.hbA hS (i := 5 * (j : Int) + 1) (by omega) (by omega) C.hLN dL_law_309 ?_
          refine lv_aload_n C.hx C.hb dL_law_310 rfl (lv_at hl 2 rfl) ?_
          refine lv_iload C.hx C.hb dL_law_311 (lv_at hl 1 rfl) ?_
          refine zr_iconst C.hx C.hb dL_law_313 ?_
          refine zr_iadd (v := 5 * (j : Int) + 2) C.hx C.hb rfl dL_law_314 ?_
          refine zr_sld (s := s.setDrawn d0) C.hx C.hb C.hX C.hbl C.hbA hS (i := 5 * (j : Int) + 2) (by omega) (by omega) C.hLN dL_law_315 ?_
          refine zcallV (ci := 3) (q0 := 0) (cq := (RX3, TX3, 12)) (As := [.int (zI (sc xs (5 * (j : Int) + 1))), .int (zI (sc xs (5 * (j : Int) + 2)))]) (rest := []) ⟨C.hx, C.hb, C.hml, C.hown, dr_words C.hts _⟩ C.hK2 (kX3_marrye3 l D cI cZ r C.hNr pa sp al co' da' mo st mr th n td wn R.1.1 R.2.1.2.1 R.2.1.2.2.1 (sc xs (5 * (j : Int) + 1)) (sc xs (5 * (j : Int) + 2)) (by omega) (by omega) (by omega) (by omega) (by omega) (by omega)) (cwV 2 (dr_words C.hts _) gL_law_X3_marry rfl rfl rfl (by decide +kernel) ⟨Nat.le_of_ble_eq_true rfl, Nat.le_of_ble_eq_true rfl⟩) hM hS C.hA2 rfl rfl rfl hl.1 rfl (Nat.le_of_ble_eq_true rfl) dL_law_316 ⟨C.ok1 hcs.1 (by omega), C.ok2 hcs.2 (by omega)⟩ (fun H locs hM hS _ hkk => ?_)
          have hC := zkeep hC hkk C.dC
          have hO := zkeep hO hkk C.dO
          refine W.eq (g2 := F0 m 319 ls [.int (zI 0)]) rfl ?_
          refine lv_istore (lv' := [(6, .int (zI 0)), (5, .int (zI 3)), (4, .int (zI (5 * (j : Int)))), (0, .ref b), (1, .ref (q 0)), (2, .ref (r 0)), (3, .ref o)]) C.hx C.hb dL_law_319 hl (by decide) rfl (fun ls hl => ?_)
          refine lv_aload_n C.hx C.hb dL_law_321 rfl (lv_at hl 5 rfl) ?_
          refine zcallV (ci := 3) (q0 := 0) (cq := (RX3, TX3, 12)) (As := []) (rest := []) ⟨C.hx, C.hb, C.hml, C.hown, dr_words C.hts _⟩ C.hK2 (kX3_thrown l D cI cZ r C.hNr pa sp al co' da' mo st mr 3 n td wn) (cwV 0 (dr_words C.hts _) gL_law_X3_thrown rfl rfl rfl (by decide +kernel) ⟨Nat.le_of_ble_eq_true rfl, Nat.le_of_ble_eq_true rfl⟩) hM hS C.hA2 rfl rfl rfl hl.1 rfl (Nat.le_of_ble_eq_true rfl) dL_law_322 ⟨C.ok1 hcs.1 (by omega), C.ok2 hcs.2 (by omega)⟩ (fun H locs hM hS _ hkk => ?_)
          have hC := zkeep hC hkk C.dC
          have hO := zkeep hO hkk C.dO
          refine W.eq (g2 := F0 m 325 ls [.int (zI 3)]) rfl ?_
          refine lv_iload C.hx C.hb dL_law_325 (lv_at hl 1 rfl) ?_
          refine zr_icmp_eqT (tgt := 332) C.hx C.hb (rfl) dL_law_327 (by decide) ?_
          refine lv_iload C.hx C.hb dL_law_332 (lv_at hl 1 rfl) ?_
          refine zr_if_ne (tgt := 349) C.hx C.hb dL_law_334 (by decide) ⟨by decide, by decide⟩ (fun _ => ?_) (fun h9 => by exfalso; revert h9; decide)
          refine lv_goto (tgt := 1825) C.hx C.hb dL_law_349 (by decide) ?_
          refine W.widen (k := cells + 2) (n := slots + 12) (by omega) (by omega) ?_
          have hl := lv_sub hl (l' := [(4, .int (zI (5 * (j : Int)))), (0, .ref b), (1, .ref (q 0)), (2, .ref (r 0)), (3, .ref o)]) [2, 3, 4, 5, 6] rfl
          exact K _ hd0 H locs ls ⟨pa, sp, al, dg, co, da, mb, dd, ah, wl, lo, n, td, wn, co', da', mo, st, mr, 3, f, R, by omega, hst, hmr, hC, hM, hO⟩ hS hl
        · have b4 := b4
          by_cases b5 : al (sc xs (5 * (j : Int) + 2)) = 0
          · have b5 := b5
            refine lv_aload_n C.hx C.hb dL_law_284 rfl (lv_at hl 2 rfl) ?_
            refine lv_aload_n C.hx C.hb dL_law_285 rfl (lv_at hl 1 rfl) ?_
            refine lv_iload C.hx C.hb dL_law_286 (lv_at hl 0 rfl) ?_
            refine zr_iconst C.hx C.hb dL_law_288 ?_
            refine zr_iadd (v := 5 * (j : Int) + 1) C.hx C.hb rfl dL_law_289 ?_
            refine zr_sld (s := s.setDrawn d0) C.hx C.hb C.hX C.hbl C.hbA hS (i := 5 * (j : Int) + 1) (by omega) (by omega) C.hLN dL_law_290 ?_
            refine lv_aload_n C.hx C.hb dL_law_291 rfl (lv_at hl 1 rfl) ?_
            refine lv_iload C.hx C.hb dL_law_292 (lv_at hl 0 rfl) ?_
            refine zr_iconst C.hx C.hb dL_law_294 ?_
            refine zr_iadd (v := 5 * (j : Int) + 2) C.hx C.hb rfl dL_law_295 ?_
            refine zr_sld (s := s.setDrawn d0) C.hx C.hb C.hX C.hbl C.hbA hS (i := 5 * (j : Int) + 2) (by omega) (by omega) C.hLN dL_law_296 ?_
            refine lv_aload_n C.hx C.hb dL_law_297 rfl (lv_at hl 4 rfl) ?_
            refine zcallLW (As := [.ref (q 0), .int (zI (sc xs (5 * (j : Int) + 1))), .int (zI (sc xs (5 * (j : Int) + 2))), .ref o]) (rest := []) ⟨C.hx, C.hb, C.hml, C.hown, dr_words C.hts _⟩ C.hK (kL_marryx5 l D C.hl0 cI cZ cJ q o C.hN C.hN2 pa sp al dg co da mb dd ah wl lo n td wn f R.1.1 R.2.1.2.2.1 (sc xs (5 * (j : Int) + 1)) (sc xs (5 * (j : Int) + 2)) (by omega) (by omega) (by omega) (by omega) (by omega)) (vx_cwSW 4 (dr_words C.hts _) gL_law_L_marry rfl rfl rfl (by decide +kernel) ⟨Nat.le_of_ble_eq_true rfl, Nat.le_of_ble_eq_true rfl⟩) hC hO (C.tk hS) C.hE hS C.hA3 rfl hl.1 rfl (Nat.le_of_ble_eq_true rfl) dL_law_298 ⟨C.ok1 hcs.1 (by omega), C.ok2 hcs.2 (by omega)⟩ (fun H locs hC hO hS _ hkk => ?_)
            have hM := zkeep hM hkk C.dM
            refine lv_istore (lv' := [(5, .int (zI 3)), (4, .int (zI (5 * (j : Int)))), (0, .ref b), (1, .ref (q 0)), (2, .ref (r 0)), (3, .ref o)]) C.hx C.hb dL_law_301 hl (by decide) rfl (fun ls hl => ?_)
            refine lv_aload_n C.hx C.hb dL_law_303 rfl (lv_at hl 4 rfl) ?_
            refine lv_aload_n C.hx C.hb dL_law_304 rfl (lv_at hl 2 rfl) ?_
            refine lv_iload C.hx C.hb dL_law_305 (lv_at hl 1 rfl) ?_
            refine zr_iconst C.hx C.hb dL_law_307 ?_
            refine zr_iadd (v := 5 * (j : Int) + 1) C.hx C.hb rfl dL_law_308 ?_
            refine zr_sld (s := s.setDrawn d0) C.hx C.hb C.hX C.hbl C.hbA hS (i := 5 * (j : Int) + 1) (by omega) (by omega) C.hLN dL_law_309 ?_
            refine lv_aload_n C.hx C.hb dL_law_310 rfl (lv_at hl 2 rfl) ?_
            refine lv_iload C.hx C.hb dL_law_311 (lv_at hl 1 rfl) ?_
            refine zr_iconst C.hx C.hb dL_law_313 ?_
            refine zr_iadd (v := 5 * (j : Int) + 2) C.hx C.hb rfl dL_law_314 ?_
            refine zr_sld (s := s.setDrawn d0) C.hx C.hb C.hX C.hbl C.hbA hS (i := 5 * (j : Int) + 2) (by omega) (by omega) C.hLN dL_law_315 ?_
            refine zcallV (ci := 3) (q0 := 0) (cq := (RX3, TX3, 12)) (As := [.int (zI (sc xs (5 * (j : Int) + 1))), .int (zI (sc xs (5 * (j : Int) + 2)))]) (rest := []) ⟨C.hx, C.hb, C.hml, C.hown, dr_words C.hts _⟩ C.hK2 (kX3_marrye3 l D cI cZ r C.hNr pa sp al co' da' mo st mr th n td wn R.1.1 R.2.1.2.1 R.2.1.2.2.1 (sc xs (5 * (j : Int) + 1)) (sc xs (5 * (j : Int) + 2)) (by omega) (by omega) (by omega) (by omega) (by omega) (by omega)) (cwV 2 (dr_words C.hts _) gL_law_X3_marry rfl rfl rfl (by decide +kernel) ⟨Nat.le_of_ble_eq_true rfl, Nat.le_of_ble_eq_true rfl⟩) hM hS C.hA2 rfl rfl rfl hl.1 rfl (Nat.le_of_ble_eq_true rfl) dL_law_316 ⟨C.ok1 hcs.1 (by omega), C.ok2 hcs.2 (by omega)⟩ (fun H locs hM hS _ hkk => ?_)
            have hC := zkeep hC hkk C.dC
            have hO := zkeep hO hkk C.dO
            refine W.eq (g2 := F0 m 319 ls [.int (zI 0)]) rfl ?_
            refine lv_istore (lv' := [(6, .int (zI 0)), (5, .int (zI 3)), (4, .int (zI (5 * (j : Int)))), (0, .ref b), (1, .ref (q 0)), (2, .ref (r 0)), (3, .ref o)]) C.hx C.hb dL_law_319 hl (by decide) rfl (fun ls hl => ?_)
            refine lv_aload_n C.hx C.hb dL_law_321 rfl (lv_at hl 5 rfl) ?_
            refine zcallV (ci := 3) (q0 := 0) (cq := (RX3, TX3, 12)) (As := []) (rest := []) ⟨C.hx, C.hb, C.hml, C.hown, dr_words C.hts _⟩ C.hK2 (kX3_thrown l D cI cZ r C.hNr pa sp al co' da' mo st mr 3 n td wn) (cwV 0 (dr_words C.hts _) gL_law_X3_thrown rfl rfl rfl (by decide +kernel) ⟨Nat.le_of_ble_eq_true rfl, Nat.le_of_ble_eq_true rfl⟩) hM hS C.hA2 rfl rfl rfl hl.1 rfl (Nat.le_of_ble_eq_true rfl) dL_law_322 ⟨C.ok1 hcs.1 (by omega), C.ok2 hcs.2 (by omega)⟩ (fun H locs hM hS _ hkk => ?_)
            have hC := zkeep hC hkk C.dC
            have hO := zkeep hO hkk C.dO
            refine W.eq (g2 := F0 m 325 ls [.int (zI 3)]) rfl ?_
            refine lv_iload C.hx C.hb dL_law_325 (lv_at hl 1 rfl) ?_
            refine zr_icmp_eqT (tgt := 332) C.hx C.hb (rfl) dL_law_327 (by decide) ?_
            refine lv_iload C.hx C.hb dL_law_332 (lv_at hl 1 rfl) ?_
            refine zr_if_ne (tgt := 349) C.hx C.hb dL_law_334 (by decide) ⟨by decide, by decide⟩ (fun _ => ?_) (fun h9 => by exfalso; revert h9; decide)
            refine lv_goto (tgt := 1825) C.hx C.hb dL_law_349 (by decide) ?_
            refine W.widen (k := cells + 2) (n := slots + 12) (by omega) (by omega) ?_
            have hl := lv_sub hl (l' := [(4, .int (zI (5 * (j : Int)))), (0, .ref b), (1, .ref (q 0)), (2, .ref (r 0)), (3, .ref o)]) [2, 3, 4, 5, 6] rfl
            exact K _ hd0 H locs ls ⟨pa, sp, al, dg, co, da, mb, dd, ah, wl, lo, n, td, wn, co', da', mo, st, mr, 3, f, R, by omega, hst, hmr, hC, hM, hO⟩ hS hl
          · have b5 := b5
            by_cases b6 : sp (sc xs (5 * (j : Int) + 1)) ≠ -1 ∧ al (sp (sc xs (5 * (j : Int) + 1))) ≠ 0
            · have b6 := b6
              refine lv_aload_n C.hx C.hb dL_law_284 rfl (lv_at hl 2 rfl) ?_
              refine lv_aload_n C.hx C.hb dL_law_285 rfl (lv_at hl 1 rfl) ?_
              refine lv_iload C.hx C.hb dL_law_286 (lv_at hl 0 rfl) ?_
              refine zr_iconst C.hx C.hb dL_law_288 ?_
              refine zr_iadd (v := 5 * (j : Int) + 1) C.hx C.hb rfl dL_law_289 ?_
              refine zr_sld (s := s.setDrawn d0) C.hx C.hb C.hX C.hbl C.hbA hS (i := 5 * (j : Int) + 1) (by omega) (by omega) C.hLN dL_law_290 ?_
              refine lv_aload_n C.hx C.hb dL_law_291 rfl (lv_at hl 1 rfl) ?_
              refine lv_iload C.hx C.hb dL_law_292 (lv_at hl 0 rfl) ?_
              refine zr_iconst C.hx C.hb dL_law_294 ?_
              refine zr_iadd (v := 5 * (j : Int) + 2) C.hx C.hb rfl dL_law_295 ?_
              refine zr_sld (s := s.setDrawn d0) C.hx C.hb C.hX C.hbl C.hbA hS (i := 5 * (j : Int) + 2) (by omega) (by omega) C.hLN dL_law_296 ?_
              refine lv_aload_n C.hx C.hb dL_law_297 rfl (lv_at hl 4 rfl) ?_
              refine zcallLW (As := [.ref (q 0), .int (zI (sc xs (5 * (j : Int) + 1))), .int (zI (sc xs (5 * (j : Int) + 2))), .ref o]) (rest := []) ⟨C.hx, C.hb, C.hml, C.hown, dr_words C.hts _⟩ C.hK (kL_marryx6 l D C.hl0 cI cZ cJ q o C.hN C.hN2 pa sp al dg co da mb dd ah wl lo n td wn f R.1.1 R.2.1.2.1 R.2.1.2.2.1 R.2.1.1 (sc xs (5 * (j : Int) + 1)) (sc xs (5 * (j : Int) + 2)) (by omega) (by omega) (by omega) (by omega) (by omega) (by omega)) (vx_cwSW 4 (dr_words C.hts _) gL_law_L_marry rfl rfl rfl (by decide +kernel) ⟨Nat.le_of_ble_eq_true rfl, Nat.le_of_ble_eq_true rfl⟩) hC hO (C.tk hS) C.hE hS C.hA3 rfl hl.1 rfl (Nat.le_of_ble_eq_true rfl) dL_law_298 ⟨C.ok1 hcs.1 (by omega), C.ok2 hcs.2 (by omega)⟩ (fun H locs hC hO hS _ hkk => ?_)
              have hM := zkeep hM hkk C.dM
              refine lv_istore (lv' := [(5, .int (zI 3)), (4, .int (zI (5 * (j : Int)))), (0, .ref b), (1, .ref (q 0)), (2, .ref (r 0)), (3, .ref o)]) C.hx C.hb dL_law_301 hl (by decide) rfl (fun ls hl => ?_)
              refine lv_aload_n C.hx C.hb dL_law_303 rfl (lv_at hl 4 rfl) ?_
              refine lv_aload_n C.hx C.hb dL_law_304 rfl (lv_at hl 2 rfl) ?_
              refine lv_iload C.hx C.hb dL_law_305 (lv_at hl 1 rfl) ?_
              refine zr_iconst C.hx C.hb dL_law_307 ?_
              refine zr_iadd (v := 5 * (j : Int) + 1) C.hx C.hb rfl dL_law_308 ?_
              refine zr_sld (s := s.setDrawn d0) C.hx C.hb C.hX C.hbl C.hbA hS (i := 5 * (j : Int) + 1) (by omega) (by omega) C.hLN dL_law_309 ?_
              refine lv_aload_n C.hx C.hb dL_law_310 rfl (lv_at hl 2 rfl) ?_
              refine lv_iload C.hx C.hb dL_law_311 (lv_at hl 1 rfl) ?_
              refine zr_iconst C.hx C.hb dL_law_313 ?_
              refine zr_iadd (v := 5 * (j : Int) + 2) C.hx C.hb rfl dL_law_314 ?_
              refine zr_sld (s := s.setDrawn d0) C.hx C.hb C.hX C.hbl C.hbA hS (i := 5 * (j : Int) + 2) (by omega) (by omega) C.hLN dL_law_315 ?_
              refine zcallV (ci := 3) (q0 := 0) (cq := (RX3, TX3, 12)) (As := [.int (zI (sc xs (5 * (j : Int) + 1))), .int (zI (sc xs (5 * (j : Int) + 2)))]) (rest := []) ⟨C.hx, C.hb, C.hml, C.hown, dr_words C.hts _⟩ C.hK2 (kX3_marrye3 l D cI cZ r C.hNr pa sp al co' da' mo st mr th n td wn R.1.1 R.2.1.2.1 R.2.1.2.2.1 (sc xs (5 * (j : Int) + 1)) (sc xs (5 * (j : Int) + 2)) (by omega) (by omega) (by omega) (by omega) (by omega) (by omega)) (cwV 2 (dr_words C.hts _) gL_law_X3_marry rfl rfl rfl (by decide +kernel) ⟨Nat.le_of_ble_eq_true rfl, Nat.le_of_ble_eq_true rfl⟩) hM hS C.hA2 rfl rfl rfl hl.1 rfl (Nat.le_of_ble_eq_true rfl) dL_law_316 ⟨C.ok1 hcs.1 (by omega), C.ok2 hcs.2 (by omega)⟩ (fun H locs hM hS _ hkk => ?_)
              have hC := zkeep hC hkk C.dC
              have hO := zkeep hO hkk C.dO
              refine W.eq (g2 := F0 m 319 ls [.int (zI 0)]) rfl ?_
              refine lv_istore (lv' := [(6, .int (zI 0)), (5, .int (zI 3)), (4, .int (zI (5 * (j : Int)))), (0, .ref b), (1, .ref (q 0)), (2, .ref (r 0)), (3, .ref o)]) C.hx C.hb dL_law_319 hl (by decide) rfl (fun ls hl => ?_)
              refine lv_aload_n C.hx C.hb dL_law_321 rfl (lv_at hl 5 rfl) ?_
              refine zcallV (ci := 3) (q0 := 0) (cq := (RX3, TX3, 12)) (As := []) (rest := []) ⟨C.hx, C.hb, C.hml, C.hown, dr_words C.hts _⟩ C.hK2 (kX3_thrown l D cI cZ r C.hNr pa sp al co' da' mo st mr 3 n td wn) (cwV 0 (dr_words C.hts _) gL_law_X3_thrown rfl rfl rfl (by decide +kernel) ⟨Nat.le_of_ble_eq_true rfl, Nat.le_of_ble_eq_true rfl⟩) hM hS C.hA2 rfl rfl rfl hl.1 rfl (Nat.le_of_ble_eq_true rfl) dL_law_322 ⟨C.ok1 hcs.1 (by omega), C.ok2 hcs.2 (by omega)⟩ (fun H locs hM hS _ hkk => ?_)
              have hC := zkeep hC hkk C.dC
              have hO := zkeep hO hkk C.dO
              refine W.eq (g2 := F0 m 325 ls [.int (zI 3)]) rfl ?_
              refine lv_iload C.hx C.hb dL_law_325 (lv_at hl 1 rfl) ?_
              refine zr_icmp_eqT (tgt := 332) C.hx C.hb (rfl) dL_law_327 (by decide) ?_
              refine lv_iload C.hx C.hb dL_law_332 (lv_at hl 1 rfl) ?_
              refine zr_if_ne (tgt := 349) C.hx C.hb dL_law_334 (by decide) ⟨by decide, by decide⟩ (fun _ => ?_) (fun h9 => by exfalso; revert h9; decide)
              refine lv_goto (tgt := 1825) C.hx C.hb dL_law_349 (by decide) ?_
              refine W.widen (k := cells + 2) (n := slots + 12) (by omega) (by omega) ?_
              have hl := lv_sub hl (l' := [(4, .int (zI (5 * (j : Int)))), (0, .ref b), (1, .ref (q 0)), (2, .ref (r 0)), (3, .ref o)]) [2, 3, 4, 5, 6] rfl
              exact K _ hd0 H locs ls ⟨pa, sp, al, dg, co, da, mb, dd, ah, wl, lo, n, td, wn, co', da', mo, st, mr, 3, f, R, by omega, hst, hmr, hC, hM, hO⟩ hS hl
            · have b6 := b6
              by_cases b7 : sp (sc xs (5 * (j : Int) + 2)) ≠ -1 ∧ al (sp (sc xs (5 * (j : Int) + 2))) ≠ 0
              · have b7 := b7
                refine lv_aload_n C.hx C.hb dL_law_284 rfl (lv_at hl 2 rfl) ?_
                refine lv_aload_n C.hx C.hb dL_law_285 rfl (lv_at hl 1 rfl) ?_
                refine lv_iload C.hx C.hb dL_law_286 (lv_at hl 0 rfl) ?_
                refine zr_iconst C.hx C.hb dL_law_288 ?_
                refine zr_iadd (v := 5 * (j : Int) + 1) C.hx C.hb rfl dL_law_289 ?_
                refine zr_sld (s := s.setDrawn d0) C.hx C.hb C.hX C.hbl C.hbA hS (i := 5 * (j : Int) + 1) (by omega) (by omega) C.hLN dL_law_290 ?_
                refine lv_aload_n C.hx C.hb dL_law_291 rfl (lv_at hl 1 rfl) ?_
                refine lv_iload C.hx C.hb dL_law_292 (lv_at hl 0 rfl) ?_
                refine zr_iconst C.hx C.hb dL_law_294 ?_
                refine zr_iadd (v := 5 * (j : Int) + 2) C.hx C.hb rfl dL_law_295 ?_
                refine zr_sld (s := s.setDrawn d0) C.hx C.hb C.hX C.hbl C.hbA hS (i := 5 * (j : Int) + 2) (by omega) (by omega) C.hLN dL_law_296 ?_
                refine lv_aload_n C.hx C.hb dL_law_297 rfl (lv_at hl 4 rfl) ?_
                refine zcallLW (As := [.ref (q 0), .int (zI (sc xs (5 * (j : Int) + 1))), .int (zI (sc xs (5 * (j : Int) + 2))), .ref o]) (rest := []) ⟨C.hx, C.hb, C.hml, C.hown, dr_words C.hts _⟩ C.hK (kL_marryx6 l D C.hl0 cI cZ cJ q o C.hN C.hN2 pa sp al dg co da mb dd ah wl lo n td wn f R.1.1 R.2.1.2.1 R.2.1.2.2.1 R.2.1.1 (sc xs (5 * (j : Int) + 1)) (sc xs (5 * (j : Int) + 2)) (by omega) (by omega) (by omega) (by omega) (by omega) (by omega)) (vx_cwSW 4 (dr_words C.hts _) gL_law_L_marry rfl rfl rfl (by decide +kernel) ⟨Nat.le_of_ble_eq_true rfl, Nat.le_of_ble_eq_true rfl⟩) hC hO (C.tk hS) C.hE hS C.hA3 rfl hl.1 rfl (Nat.le_of_ble_eq_true rfl) dL_law_298 ⟨C.ok1 hcs.1 (by omega), C.ok2 hcs.2 (by omega)⟩ (fun H locs hC hO hS _ hkk => ?_)
                have hM := zkeep hM hkk C.dM
                refine lv_istore (lv' := [(5, .int (zI 3)), (4, .int (zI (5 * (j : Int)))), (0, .ref b), (1, .ref (q 0)), (2, .ref (r 0)), (3, .ref o)]) C.hx C.hb dL_law_301 hl (by decide) rfl (fun ls hl => ?_)
                refine lv_aload_n C.hx C.hb dL_law_303 rfl (lv_at hl 4 rfl) ?_
                refine lv_aload_n C.hx C.hb dL_law_304 rfl (lv_at hl 2 rfl) ?_
                refine lv_iload C.hx C.hb dL_law_305 (lv_at hl 1 rfl) ?_
                refine zr_iconst C.hx C.hb dL_law_307 ?_
                refine zr_iadd (v := 5 * (j : Int) + 1) C.hx C.hb rfl dL_law_308 ?_
                refine zr_sld (s := s.setDrawn d0) C.hx C.hb C.hX C.hbl C.hbA hS (i := 5 * (j : Int) + 1) (by omega) (by omega) C.hLN dL_law_309 ?_
                refine lv_aload_n C.hx C.hb dL_law_310 rfl (lv_at hl 2 rfl) ?_
                refine lv_iload C.hx C.hb dL_law_311 (lv_at hl 1 rfl) ?_
                refine zr_iconst C.hx C.hb dL_law_313 ?_
                refine zr_iadd (v := 5 * (j : Int) + 2) C.hx C.hb rfl dL_law_314 ?_
                refine zr_sld (s := s.setDrawn d0) C.hx C.hb C.hX C.hbl C.hbA hS (i := 5 * (j : Int) + 2) (by omega) (by omega) C.hLN dL_law_315 ?_
                refine zcallV (ci := 3) (q0 := 0) (cq := (RX3, TX3, 12)) (As := [.int (zI (sc xs (5 * (j : Int) + 1))), .int (zI (sc xs (5 * (j : Int) + 2)))]) (rest := []) ⟨C.hx, C.hb, C.hml, C.hown, dr_words C.hts _⟩ C.hK2 (kX3_marrye3 l D cI cZ r C.hNr pa sp al co' da' mo st mr th n td wn R.1.1 R.2.1.2.1 R.2.1.2.2.1 (sc xs (5 * (j : Int) + 1)) (sc xs (5 * (j : Int) + 2)) (by omega) (by omega) (by omega) (by omega) (by omega) (by omega)) (cwV 2 (dr_words C.hts _) gL_law_X3_marry rfl rfl rfl (by decide +kernel) ⟨Nat.le_of_ble_eq_true rfl, Nat.le_of_ble_eq_true rfl⟩) hM hS C.hA2 rfl rfl rfl hl.1 rfl (Nat.le_of_ble_eq_true rfl) dL_law_316 ⟨C.ok1 hcs.1 (by omega), C.ok2 hcs.2 (by omega)⟩ (fun H locs hM hS _ hkk => ?_)
                have hC := zkeep hC hkk C.dC
                have hO := zkeep hO hkk C.dO
                refine W.eq (g2 := F0 m 319 ls [.int (zI 0)]) rfl ?_
                refine lv_istore (lv' := [(6, .int (zI 0)), (5, .int (zI 3)), (4, .int (zI (5 * (j : Int)))), (0, .ref b), (1, .ref (q 0)), (2, .ref (r 0)), (3, .ref o)]) C.hx C.hb dL_law_319 hl (by decide) rfl (fun ls hl => ?_)
                refine lv_aload_n C.hx C.hb dL_law_321 rfl (lv_at hl 5 rfl) ?_
                refine zcallV (ci := 3) (q0 := 0) (cq := (RX3, TX3, 12)) (As := []) (rest := []) ⟨C.hx, C.hb, C.hml, C.hown, dr_words C.hts _⟩ C.hK2 (kX3_thrown l D cI cZ r C.hNr pa sp al co' da' mo st mr 3 n td wn) (cwV 0 (dr_words C.hts _) gL_law_X3_thrown rfl rfl rfl (by decide +kernel) ⟨Nat.le_of_ble_eq_true rfl, Nat.le_of_ble_eq_true rfl⟩) hM hS C.hA2 rfl rfl rfl hl.1 rfl (Nat.le_of_ble_eq_true rfl) dL_law_322 ⟨C.ok1 hcs.1 (by omega), C.ok2 hcs.2 (by omega)⟩ (fun H locs hM hS _ hkk => ?_)
                have hC := zkeep hC hkk C.dC
                have hO := zkeep hO hkk C.dO
                refine W.eq (g2 := F0 m 325 ls [.int (zI 3)]) rfl ?_
                refine lv_iload C.hx C.hb dL_law_325 (lv_at hl 1 rfl) ?_
                refine zr_icmp_eqT (tgt := 332) C.hx C.hb (rfl) dL_law_327 (by decide) ?_
                refine lv_iload C.hx C.hb dL_law_332 (lv_at hl 1 rfl) ?_
                refine zr_if_ne (tgt := 349) C.hx C.hb dL_law_334 (by decide) ⟨by decide, by decide⟩ (fun _ => ?_) (fun h9 => by exfalso; revert h9; decide)
                refine lv_goto (tgt := 1825) C.hx C.hb dL_law_349 (by decide) ?_
                refine W.widen (k := cells + 2) (n := slots + 12) (by omega) (by omega) ?_
                have hl := lv_sub hl (l' := [(4, .int (zI (5 * (j : Int)))), (0, .ref b), (1, .ref (q 0)), (2, .ref (r 0)), (3, .ref o)]) [2, 3, 4, 5, 6] rfl
                exact K _ hd0 H locs ls ⟨pa, sp, al, dg, co, da, mb, dd, ah, wl, lo, n, td, wn, co', da', mo, st, mr, 3, f, R, by omega, hst, hmr, hC, hM, hO⟩ hS hl
              · have b7 := b7
                refine lv_aload_n C.hx C.hb dL_law_284 rfl (lv_at hl 2 rfl) ?_
                refine lv_aload_n C.hx C.hb dL_law_285 rfl (lv_at hl 1 rfl) ?_
                refine lv_iload C.hx C.hb dL_law_286 (lv_at hl 0 rfl) ?_
                refine zr_iconst C.hx C.hb dL_law_288 ?_
                refine zr_iadd (v := 5 * (j : Int) + 1) C.hx C.hb rfl dL_law_289 ?_
                refine zr_sld (s := s.setDrawn d0) C.hx C.hb C.hX C.hbl C.hbA hS (i := 5 * (j : Int) + 1) (by omega) (by omega) C.hLN dL_law_290 ?_
                refine lv_aload_n C.hx C.hb dL_law_291 rfl (lv_at hl 1 rfl) ?_
                refine lv_iload C.hx C.hb dL_law_292 (lv_at hl 0 rfl) ?_
                refine zr_iconst C.hx C.hb dL_law_294 ?_
                refine zr_iadd (v := 5 * (j : Int) + 2) C.hx C.hb rfl dL_law_295 ?_
                refine zr_sld (s := s.setDrawn d0) C.hx C.hb C.hX C.hbl C.hbA hS (i := 5 * (j : Int) + 2) (by omega) (by omega) C.hLN dL_law_296 ?_
                refine lv_aload_n C.hx C.hb dL_law_297 rfl (lv_at hl 4 rfl) ?_
                refine zcallLW (As := [.ref (q 0), .int (zI (sc xs (5 * (j : Int) + 1))), .int (zI (sc xs (5 * (j : Int) + 2))), .ref o]) (rest := []) ⟨C.hx, C.hb, C.hml, C.hown, dr_words C.hts _⟩ C.hK (kL_marryok l D C.hl0 cI cZ cJ q o C.hN C.hN2 pa sp al dg co da mb dd ah wl lo n td wn f R.1.1 R.2.1.1 R.2.1.2.1 R.2.1.2.2.1 (sc xs (5 * (j : Int) + 1)) (sc xs (5 * (j : Int) + 2)) (by omega) (by omega) (by omega) (by omega) (by omega) (by assumption) (by assumption)) (vx_cwSW 4 (dr_words C.hts _) gL_law_L_marry rfl rfl rfl (by decide +kernel) ⟨Nat.le_of_ble_eq_true rfl, Nat.le_of_ble_eq_true rfl⟩) hC hO (C.tk hS) C.hE hS C.hA3 rfl hl.1 rfl (Nat.le_of_ble_eq_true rfl) dL_law_298 ⟨C.ok1 hcs.1 (by omega), C.ok2 hcs.2 (by omega)⟩ (fun H locs hC hO hS _ hkk => ?_)
                have hM := zkeep hM hkk C.dM
                refine lv_istore (lv' := [(5, .int (zI 0)), (4, .int (zI (5 * (j : Int)))), (0, .ref b), (1, .ref (q 0)), (2, .ref (r 0)), (3, .ref o)]) C.hx C.hb dL_law_301 hl (by decide) rfl (fun ls hl => ?_)
                refine lv_aload_n C.hx C.hb dL_law_303 rfl (lv_at hl 4 rfl) ?_
                refine lv_aload_n C.hx C.hb dL_law_304 rfl (lv_at hl 2 rfl) ?_
                refine lv_iload C.hx C.hb dL_law_305 (lv_at hl 1 rfl) ?_
                refine zr_iconst C.hx C.hb dL_law_307 ?_
                refine zr_iadd (v := 5 * (j : Int) + 1) C.hx C.hb rfl dL_law_308 ?_
                refine zr_sld (s := s.setDrawn d0) C.hx C.hb C.hX C.hbl C.hbA hS (i := 5 * (j : Int) + 1) (by omega) (by omega) C.hLN dL_law_309 ?_
                refine lv_aload_n C.hx C.hb dL_law_310 rfl (lv_at hl 2 rfl) ?_
                refine lv_iload C.hx C.hb dL_law_311 (lv_at hl 1 rfl) ?_
                refine zr_iconst C.hx C.hb dL_law_313 ?_
                refine zr_iadd (v := 5 * (j : Int) + 2) C.hx C.hb rfl dL_law_314 ?_
                refine zr_sld (s := s.setDrawn d0) C.hx C.hb C.hX C.hbl C.hbA hS (i := 5 * (j : Int) + 2) (by omega) (by omega) C.hLN dL_law_315 ?_
                refine zcallV (ci := 3) (q0 := 0) (cq := (RX3, TX3, 12)) (As := [.int (zI (sc xs (5 * (j : Int) + 1))), .int (zI (sc xs (5 * (j : Int) + 2)))]) (rest := []) ⟨C.hx, C.hb, C.hml, C.hown, dr_words C.hts _⟩ C.hK2 (kX3_marryok l D cI cZ r C.hNr pa sp al co' da' mo st mr th n td wn R.1.1 R.2.1.1 R.2.1.2.1 R.2.1.2.2.1 hst (sc xs (5 * (j : Int) + 1)) (sc xs (5 * (j : Int) + 2)) (by omega) (by omega) (by omega) (by omega) (by omega) (by omega) (by omega)) (cwV 2 (dr_words C.hts _) gL_law_X3_marry rfl rfl rfl (by decide +kernel) ⟨Nat.le_of_ble_eq_true rfl, Nat.le_of_ble_eq_true rfl⟩) hM hS C.hA2 rfl rfl rfl hl.1 rfl (Nat.le_of_ble_eq_true rfl) dL_law_316 ⟨C.ok1 hcs.1 (by omega), C.ok2 hcs.2 (by omega)⟩ (fun H locs hM hS _ hkk => ?_)
                have hC := zkeep hC hkk C.dC
                have hO := zkeep hO hkk C.dO
                refine W.eq (g2 := F0 m 319 ls [.int (zI (max 0 (goF pa sp n st (sc xs (5 * (j : Int) + 1)) (sc xs (5 * (j : Int) + 2)))))]) rfl ?_
                refine lv_istore (lv' := [(6, .int (zI (max 0 (goF pa sp n st (sc xs (5 * (j : Int) + 1)) (sc xs (5 * (j : Int) + 2)))))), (5, .int (zI 0)), (4, .int (zI (5 * (j : Int)))), (0, .ref b), (1, .ref (q 0)), (2, .ref (r 0)), (3, .ref o)]) C.hx C.hb dL_law_319 hl (by decide) rfl (fun ls hl => ?_)
                refine lv_aload_n C.hx C.hb dL_law_321 rfl (lv_at hl 5 rfl) ?_
                refine zcallV (ci := 3) (q0 := 0) (cq := (RX3, TX3, 12)) (As := []) (rest := []) ⟨C.hx, C.hb, C.hml, C.hown, dr_words C.hts _⟩ C.hK2 (kX3_thrown l D cI cZ r C.hNr pa (up (up (up (lvS (up (lvS sp (sc xs (5 * (j : Int) + 1))) (sc xs (5 * (j : Int) + 1)) (-1)) (sc xs (5 * (j : Int) + 2))) (sc xs (5 * (j : Int) + 2)) (-1)) (sc xs (5 * (j : Int) + 1)) (sc xs (5 * (j : Int) + 2))) (sc xs (5 * (j : Int) + 2)) (sc xs (5 * (j : Int) + 1))) al co' da' mo (goF pa sp n st (sc xs (5 * (j : Int) + 1))) mr 0 n td wn) (cwV 0 (dr_words C.hts _) gL_law_X3_thrown rfl rfl rfl (by decide +kernel) ⟨Nat.le_of_ble_eq_true rfl, Nat.le_of_ble_eq_true rfl⟩) hM hS C.hA2 rfl rfl rfl hl.1 rfl (Nat.le_of_ble_eq_true rfl) dL_law_322 ⟨C.ok1 hcs.1 (by omega), C.ok2 hcs.2 (by omega)⟩ (fun H locs hM hS _ hkk => ?_)
                have hC := zkeep hC hkk C.dC
                have hO := zkeep hO hkk C.dO
                refine W.eq (g2 := F0 m 325 ls [.int (zI 0)]) rfl ?_
                refine lv_iload C.hx C.hb dL_law_325 (lv_at hl 1 rfl) ?_
                refine zr_icmp_eqT (tgt := 332) C.hx C.hb (rfl) dL_law_327 (by decide) ?_
                refine lv_iload C.hx C.hb dL_law_332 (lv_at hl 1 rfl) ?_
                refine zr_if_ne (tgt := 349) C.hx C.hb dL_law_334 (by decide) ⟨by decide, by decide⟩ (fun h9 => by exfalso; revert h9; decide) (fun _ => ?_)
                refine lv_aload_n C.hx C.hb dL_law_337 rfl (lv_at hl 6 rfl) ?_
                refine zr_iconst C.hx C.hb dL_law_338 ?_
                refine zr_lald0 C.hx C.hb C.hK hO 0 2 rfl rfl dL_law_339 ?_
                refine W.eq (g2 := F0 m 340 ls [.long ((zI (dgF pa sp n (sc xs (5 * (j : Int) + 1)) (sc xs (5 * (j : Int) + 2)))).toInt64)]) rfl ?_
                refine lv_iload C.hx C.hb dL_law_340 (lv_at hl 0 rfl) ?_
                refine lv_i2l C.hx C.hb dL_law_342 rfl ?_
                refine zr_lcmp_eqT (tgt := 349) C.hx C.hb (congrArg (fun z => (zI z).toInt64) (dg_go pa sp st (by omega) (by omega) (by omega) (by omega))) dL_law_343 dL_law_344 (by decide) ?_
                refine lv_goto (tgt := 1825) C.hx C.hb dL_law_349 (by decide) ?_
                rw [← wed_eq sp (show sc xs (5 * (j : Int) + 1) ≠ sc xs (5 * (j : Int) + 2) by omega)] at hM
                refine W.widen (k := cells + 2) (n := slots + 12) (by omega) (by omega) ?_
                have hl := lv_sub hl (l' := [(4, .int (zI (5 * (j : Int)))), (0, .ref b), (1, .ref (q 0)), (2, .ref (r 0)), (3, .ref o)]) [2, 3, 4, 5, 6] rfl
                exact K _ hd0 H locs ls ⟨pa, up (up (lvS (lvS sp (sc xs (5 * (j : Int) + 1))) (sc xs (5 * (j : Int) + 2))) (sc xs (5 * (j : Int) + 1)) (sc xs (5 * (j : Int) + 2))) (sc xs (5 * (j : Int) + 2)) (sc xs (5 * (j : Int) + 1)), al, dgF pa sp n (sc xs (5 * (j : Int) + 1)), co, da, mb, dd, ah, wl, lo, n, td, wn, co', da', mo, goF pa sp n st (sc xs (5 * (j : Int) + 1)), mr, 0, (vp_updL f 0 (zI (dgF pa sp n (sc xs (5 * (j : Int) + 1)) (sc xs (5 * (j : Int) + 2)))).toInt64), re_marry R (by omega) (by omega) (by omega) (by omega) (by omega) (by omega) (by omega) (by assumption) (by assumption), by omega, goF_bd hst _ _ _ _, hmr, hC, hM, hO⟩ hS hl
    · have b2 := b2
      refine lv_aload_n C.hx C.hb dL_law_284 rfl (lv_at hl 2 rfl) ?_
      refine lv_aload_n C.hx C.hb dL_law_285 rfl (lv_at hl 1 rfl) ?_
      refine lv_iload C.hx C.hb dL_law_286 (lv_at hl 0 rfl) ?_
      refine zr_iconst C.hx C.hb dL_law_288 ?_
      refine zr_iadd (v := 5 * (j : Int) + 1) C.hx C.hb rfl dL_law_289 ?_
      refine zr_sld (s := s.setDrawn d0) C.hx C.hb C.hX C.hbl C.hbA hS (i := 5 * (j : Int) + 1) (by omega) (by omega) C.hLN dL_law_290 ?_
      refine lv_aload_n C.hx C.hb dL_law_291 rfl (lv_at hl 1 rfl) ?_
      refine lv_iload C.hx C.hb dL_law_292 (lv_at hl 0 rfl) ?_
      refine zr_iconst C.hx C.hb dL_law_294 ?_
      refine zr_iadd (v := 5 * (j : Int) + 2) C.hx C.hb rfl dL_law_295 ?_
      refine zr_sld (s := s.setDrawn d0) C.hx C.hb C.hX C.hbl C.hbA hS (i := 5 * (j : Int) + 2) (by omega) (by omega) C.hLN dL_law_296 ?_
      refine lv_aload_n C.hx C.hb dL_law_297 rfl (lv_at hl 4 rfl) ?_
      refine zcallLW (As := [.ref (q 0), .int (zI (sc xs (5 * (j : Int) + 1))), .int (zI (sc xs (5 * (j : Int) + 2))), .ref o]) (rest := []) ⟨C.hx, C.hb, C.hml, C.hown, dr_words C.hts _⟩ C.hK (kL_marryx2 l D C.hl0 cI cZ cJ q o C.hN C.hN2 pa sp al dg co da mb dd ah wl lo n td wn f R.1.1 (sc xs (5 * (j : Int) + 1)) (sc xs (5 * (j : Int) + 2)) (by omega) (by omega) (by omega)) (vx_cwSW 4 (dr_words C.hts _) gL_law_L_marry rfl rfl rfl (by decide +kernel) ⟨Nat.le_of_ble_eq_true rfl, Nat.le_of_ble_eq_true rfl⟩) hC hO (C.tk hS) C.hE hS C.hA3 rfl hl.1 rfl (Nat.le_of_ble_eq_true rfl) dL_law_298 ⟨C.ok1 hcs.1 (by omega), C.ok2 hcs.2 (by omega)⟩ (fun H locs hC hO hS _ hkk => ?_)
      have hM := zkeep hM hkk C.dM
      refine lv_istore (lv' := [(5, .int (zI 1)), (4, .int (zI (5 * (j : Int)))), (0, .ref b), (1, .ref (q 0)), (2, .ref (r 0)), (3, .ref o)]) C.hx C.hb dL_law_301 hl (by decide) rfl (fun ls hl => ?_)
      refine lv_aload_n C.hx C.hb dL_law_303 rfl (lv_at hl 4 rfl) ?_
      refine lv_aload_n C.hx C.hb dL_law_304 rfl (lv_at hl 2 rfl) ?_
      refine lv_iload C.hx C.hb dL_law_305 (lv_at hl 1 rfl) ?_
      refine zr_iconst C.hx C.hb dL_law_307 ?_
      refine zr_iadd (v := 5 * (j : Int) + 1) C.hx C.hb rfl dL_law_308 ?_
      refine zr_sld (s := s.setDrawn d0) C.hx C.hb C.hX C.hbl C.hbA hS (i := 5 * (j : Int) + 1) (by omega) (by omega) C.hLN dL_law_309 ?_
      refine lv_aload_n C.hx C.hb dL_law_310 rfl (lv_at hl 2 rfl) ?_
      refine lv_iload C.hx C.hb dL_law_311 (lv_at hl 1 rfl) ?_
      refine zr_iconst C.hx C.hb dL_law_313 ?_
      refine zr_iadd (v := 5 * (j : Int) + 2) C.hx C.hb rfl dL_law_314 ?_
      refine zr_sld (s := s.setDrawn d0) C.hx C.hb C.hX C.hbl C.hbA hS (i := 5 * (j : Int) + 2) (by omega) (by omega) C.hLN dL_law_315 ?_
      refine zcallV (ci := 3) (q0 := 0) (cq := (RX3, TX3, 12)) (As := [.int (zI (sc xs (5 * (j : Int) + 1))), .int (zI (sc xs (5 * (j : Int) + 2)))]) (rest := []) ⟨C.hx, C.hb, C.hml, C.hown, dr_words C.hts _⟩ C.hK2 (kX3_marrye1 l D cI cZ r C.hNr pa sp al co' da' mo st mr th n td wn R.1.1 (sc xs (5 * (j : Int) + 1)) (sc xs (5 * (j : Int) + 2)) (by omega) (by omega) (by omega)) (cwV 2 (dr_words C.hts _) gL_law_X3_marry rfl rfl rfl (by decide +kernel) ⟨Nat.le_of_ble_eq_true rfl, Nat.le_of_ble_eq_true rfl⟩) hM hS C.hA2 rfl rfl rfl hl.1 rfl (Nat.le_of_ble_eq_true rfl) dL_law_316 ⟨C.ok1 hcs.1 (by omega), C.ok2 hcs.2 (by omega)⟩ (fun H locs hM hS _ hkk => ?_)
      have hC := zkeep hC hkk C.dC
      have hO := zkeep hO hkk C.dO
      refine W.eq (g2 := F0 m 319 ls [.int (zI 0)]) rfl ?_
      refine lv_istore (lv' := [(6, .int (zI 0)), (5, .int (zI 1)), (4, .int (zI (5 * (j : Int)))), (0, .ref b), (1, .ref (q 0)), (2, .ref (r 0)), (3, .ref o)]) C.hx C.hb dL_law_319 hl (by decide) rfl (fun ls hl => ?_)
      refine lv_aload_n C.hx C.hb dL_law_321 rfl (lv_at hl 5 rfl) ?_
      refine zcallV (ci := 3) (q0 := 0) (cq := (RX3, TX3, 12)) (As := []) (rest := []) ⟨C.hx, C.hb, C.hml, C.hown, dr_words C.hts _⟩ C.hK2 (kX3_thrown l D cI cZ r C.hNr pa sp al co' da' mo st mr 1 n td wn) (cwV 0 (dr_words C.hts _) gL_law_X3_thrown rfl rfl rfl (by decide +kernel) ⟨Nat.le_of_ble_eq_true rfl, Nat.le_of_ble_eq_true rfl⟩) hM hS C.hA2 rfl rfl rfl hl.1 rfl (Nat.le_of_ble_eq_true rfl) dL_law_322 ⟨C.ok1 hcs.1 (by omega), C.ok2 hcs.2 (by omega)⟩ (fun H locs hM hS _ hkk => ?_)
      have hC := zkeep hC hkk C.dC
      have hO := zkeep hO hkk C.dO
      refine W.eq (g2 := F0 m 325 ls [.int (zI 1)]) rfl ?_
      refine lv_iload C.hx C.hb dL_law_325 (lv_at hl 1 rfl) ?_
      refine zr_icmp_eqT (tgt := 332) C.hx C.hb (rfl) dL_law_327 (by decide) ?_
      refine lv_iload C.hx C.hb dL_law_332 (lv_at hl 1 rfl) ?_
      refine zr_if_ne (tgt := 349) C.hx C.hb dL_law_334 (by decide) ⟨by decide, by decide⟩ (fun _ => ?_) (fun h9 => by exfalso; revert h9; decide)
      refine lv_goto (tgt := 1825) C.hx C.hb dL_law_349 (by decide) ?_
      refine W.widen (k := cells + 2) (n := slots + 12) (by omega) (by omega) ?_
      have hl := lv_sub hl (l' := [(4, .int (zI (5 * (j : Int)))), (0, .ref b), (1, .ref (q 0)), (2, .ref (r 0)), (3, .ref o)]) [2, 3, 4, 5, 6] rfl
      exact K _ hd0 H locs ls ⟨pa, sp, al, dg, co, da, mb, dd, ah, wl, lo, n, td, wn, co', da', mo, st, mr, 1, f, R, by omega, hst, hmr, hC, hM, hO⟩ hS hl
  · have b1 := b1
    refine lv_aload_n C.hx C.hb dL_law_284 rfl (lv_at hl 2 rfl) ?_
    refine lv_aload_n C.hx C.hb dL_law_285 rfl (lv_at hl 1 rfl) ?_
    refine lv_iload C.hx C.hb dL_law_286 (lv_at hl 0 rfl) ?_
    refine zr_iconst C.hx C.hb dL_law_288 ?_
    refine zr_iadd (v := 5 * (j : Int) + 1) C.hx C.hb rfl dL_law_289 ?_
    refine zr_sld (s := s.setDrawn d0) C.hx C.hb C.hX C.hbl C.hbA hS (i := 5 * (j : Int) + 1) (by omega) (by omega) C.hLN dL_law_290 ?_
    refine lv_aload_n C.hx C.hb dL_law_291 rfl (lv_at hl 1 rfl) ?_
    refine lv_iload C.hx C.hb dL_law_292 (lv_at hl 0 rfl) ?_
    refine zr_iconst C.hx C.hb dL_law_294 ?_
    refine zr_iadd (v := 5 * (j : Int) + 2) C.hx C.hb rfl dL_law_295 ?_
    refine zr_sld (s := s.setDrawn d0) C.hx C.hb C.hX C.hbl C.hbA hS (i := 5 * (j : Int) + 2) (by omega) (by omega) C.hLN dL_law_296 ?_
    refine lv_aload_n C.hx C.hb dL_law_297 rfl (lv_at hl 4 rfl) ?_
    refine zcallLW (As := [.ref (q 0), .int (zI (sc xs (5 * (j : Int) + 1))), .int (zI (sc xs (5 * (j : Int) + 2))), .ref o]) (rest := []) ⟨C.hx, C.hb, C.hml, C.hown, dr_words C.hts _⟩ C.hK (kL_marryx1 l D C.hl0 cI cZ cJ q o C.hN C.hN2 pa sp al dg co da mb dd ah wl lo n td wn f R.1.1 (sc xs (5 * (j : Int) + 1)) (sc xs (5 * (j : Int) + 2)) (by omega) (by omega)) (vx_cwSW 4 (dr_words C.hts _) gL_law_L_marry rfl rfl rfl (by decide +kernel) ⟨Nat.le_of_ble_eq_true rfl, Nat.le_of_ble_eq_true rfl⟩) hC hO (C.tk hS) C.hE hS C.hA3 rfl hl.1 rfl (Nat.le_of_ble_eq_true rfl) dL_law_298 ⟨C.ok1 hcs.1 (by omega), C.ok2 hcs.2 (by omega)⟩ (fun H locs hC hO hS _ hkk => ?_)
    have hM := zkeep hM hkk C.dM
    refine lv_istore (lv' := [(5, .int (zI 1)), (4, .int (zI (5 * (j : Int)))), (0, .ref b), (1, .ref (q 0)), (2, .ref (r 0)), (3, .ref o)]) C.hx C.hb dL_law_301 hl (by decide) rfl (fun ls hl => ?_)
    refine lv_aload_n C.hx C.hb dL_law_303 rfl (lv_at hl 4 rfl) ?_
    refine lv_aload_n C.hx C.hb dL_law_304 rfl (lv_at hl 2 rfl) ?_
    refine lv_iload C.hx C.hb dL_law_305 (lv_at hl 1 rfl) ?_
    refine zr_iconst C.hx C.hb dL_law_307 ?_
    refine zr_iadd (v := 5 * (j : Int) + 1) C.hx C.hb rfl dL_law_308 ?_
    refine zr_sld (s := s.setDrawn d0) C.hx C.hb C.hX C.hbl C.hbA hS (i := 5 * (j : Int) + 1) (by omega) (by omega) C.hLN dL_law_309 ?_
    refine lv_aload_n C.hx C.hb dL_law_310 rfl (lv_at hl 2 rfl) ?_
    refine lv_iload C.hx C.hb dL_law_311 (lv_at hl 1 rfl) ?_
    refine zr_iconst C.hx C.hb dL_law_313 ?_
    refine zr_iadd (v := 5 * (j : Int) + 2) C.hx C.hb rfl dL_law_314 ?_
    refine zr_sld (s := s.setDrawn d0) C.hx C.hb C.hX C.hbl C.hbA hS (i := 5 * (j : Int) + 2) (by omega) (by omega) C.hLN dL_law_315 ?_
    refine zcallV (ci := 3) (q0 := 0) (cq := (RX3, TX3, 12)) (As := [.int (zI (sc xs (5 * (j : Int) + 1))), .int (zI (sc xs (5 * (j : Int) + 2)))]) (rest := []) ⟨C.hx, C.hb, C.hml, C.hown, dr_words C.hts _⟩ C.hK2 (kX3_marrye1 l D cI cZ r C.hNr pa sp al co' da' mo st mr th n td wn R.1.1 (sc xs (5 * (j : Int) + 1)) (sc xs (5 * (j : Int) + 2)) (by omega) (by omega) (by omega)) (cwV 2 (dr_words C.hts _) gL_law_X3_marry rfl rfl rfl (by decide +kernel) ⟨Nat.le_of_ble_eq_true rfl, Nat.le_of_ble_eq_true rfl⟩) hM hS C.hA2 rfl rfl rfl hl.1 rfl (Nat.le_of_ble_eq_true rfl) dL_law_316 ⟨C.ok1 hcs.1 (by omega), C.ok2 hcs.2 (by omega)⟩ (fun H locs hM hS _ hkk => ?_)
    have hC := zkeep hC hkk C.dC
    have hO := zkeep hO hkk C.dO
    refine W.eq (g2 := F0 m 319 ls [.int (zI 0)]) rfl ?_
    refine lv_istore (lv' := [(6, .int (zI 0)), (5, .int (zI 1)), (4, .int (zI (5 * (j : Int)))), (0, .ref b), (1, .ref (q 0)), (2, .ref (r 0)), (3, .ref o)]) C.hx C.hb dL_law_319 hl (by decide) rfl (fun ls hl => ?_)
    refine lv_aload_n C.hx C.hb dL_law_321 rfl (lv_at hl 5 rfl) ?_
    refine zcallV (ci := 3) (q0 := 0) (cq := (RX3, TX3, 12)) (As := []) (rest := []) ⟨C.hx, C.hb, C.hml, C.hown, dr_words C.hts _⟩ C.hK2 (kX3_thrown l D cI cZ r C.hNr pa sp al co' da' mo st mr 1 n td wn) (cwV 0 (dr_words C.hts _) gL_law_X3_thrown rfl rfl rfl (by decide +kernel) ⟨Nat.le_of_ble_eq_true rfl, Nat.le_of_ble_eq_true rfl⟩) hM hS C.hA2 rfl rfl rfl hl.1 rfl (Nat.le_of_ble_eq_true rfl) dL_law_322 ⟨C.ok1 hcs.1 (by omega), C.ok2 hcs.2 (by omega)⟩ (fun H locs hM hS _ hkk => ?_)
    have hC := zkeep hC hkk C.dC
    have hO := zkeep hO hkk C.dO
    refine W.eq (g2 := F0 m 325 ls [.int (zI 1)]) rfl ?_
    refine lv_iload C.hx C.hb dL_law_325 (lv_at hl 1 rfl) ?_
    refine zr_icmp_eqT (tgt := 332) C.hx C.hb (rfl) dL_law_327 (by decide) ?_
    refine lv_iload C.hx C.hb dL_law_332 (lv_at hl 1 rfl) ?_
    refine zr_if_ne (tgt := 349) C.hx C.hb dL_law_334 (by decide) ⟨by decide, by decide⟩ (fun _ => ?_) (fun h9 => by exfalso; revert h9; decide)
    refine lv_goto (tgt := 1825) C.hx C.hb dL_law_349 (by decide) ?_
    refine W.widen (k := cells + 2) (n := slots + 12) (by omega) (by omega) ?_
    have hl := lv_sub hl (l' := [(4, .int (zI (5 * (j : Int)))), (0, .ref b), (1, .ref (q 0)), (2, .ref (r 0)), (3, .ref o)]) [2, 3, 4, 5, 6] rfl
    exact K _ hd0 H locs ls ⟨pa, sp, al, dg, co, da, mb, dd, ah, wl, lo, n, td, wn, co', da', mo, st, mr, 1, f, R, by omega, hst, hmr, hC, hM, hO⟩ hS hl
set_option maxHeartbeats 4000000 in
set_option maxRecDepth 100000 in
theorem law_c3 {p : Program} {l : Launch} {e : Env} {s : State} {m : MethodId} {below : List Frame} {meth : Method} {c : Code} {b L : Nat} {xs : Nat → Int32} {Q : State → Prop} {D : va_G} {cI cZ cJ : ClassId} {q r : Nat → Nat} {o : Nat} (C : zCx p l s m meth c b L xs D cI cZ cJ q r o) {d0 : Drawn} (hd0 : s.drawn.sameBut d0 lw_cs) {H : Heap} {locs : List Loc} {cells slots : Nat} (hcs : cells + 2 ≤ 601024 ∧ slots + 12 ≤ 7293034) {j : Nat} (hj : 5 * (j : Int) + 5 ≤ (L : Int)) (hj2 : j ≤ 512) {ls : Array Slot} (hZ : zLS D cI cZ cJ q r o j H) (hS : va_S (fun a => s.heap.size ≤ a) s.heap H locs) (hl : lv_has ls 9 [(4, .int (zI (5 * (j : Int)))), (0, .ref b), (1, .ref (q 0)), (2, .ref (r 0)), (3, .ref o)])
    (K : ∀ (d1 : Drawn), s.drawn.sameBut d1 lw_cs → ∀ (H1 : Heap) (locs1 : List Loc) (ls1 : Array Slot), zLS D cI cZ cJ q r o (j + 1) H1 → va_S (fun a => s.heap.size ≤ a) s.heap H1 locs1 → lv_has ls1 9 [(4, .int (zI (5 * (j : Int)))), (0, .ref b), (1, .ref (q 0)), (2, .ref (r 0)), (3, .ref o)] → W p l e room_1 (s.setDrawn d1) m #[Value.ref b] below meth c H1 locs1 (cells + 2) (slots + 12) Q (F0 m 1825 ls1 [])) :
    W p l e room_1 (s.setDrawn d0) m #[Value.ref b] below meth c H locs cells slots Q (F0 m 352 ls []) := by
  obtain ⟨pa, sp, al, dg, co, da, mb, dd, ah, wl, lo, n, td, wn, co', da', mo, st, mr, th, f, R, htd, hst, hmr, hC, hM, hO⟩ := hZ
  have hn := R.1.1
  have htd0 := R.1.2
  have hLN := C.hLN
  have hs1 := sc_rg xs (5 * (j : Int) + 1)
  have hs2 := sc_rg xs (5 * (j : Int) + 2)
  have hs3 := sc_rg xs (5 * (j : Int) + 3)
  have hs4 := sc_rg xs (5 * (j : Int) + 4)
  by_cases b1 : 1 ≤ sc xs (5 * (j : Int) + 1) ∧ sc xs (5 * (j : Int) + 1) ≤ 4
  · have b1 := b1
    by_cases b2 : 0 ≤ sc xs (5 * (j : Int) + 2) ∧ sc xs (5 * (j : Int) + 2) ≤ 2
    · have b2 := b2
      by_cases b3 : (0 ≤ sc xs (5 * (j : Int) + 3) ∧ sc xs (5 * (j : Int) + 3) ≤ 5) ∧ 0 ≤ sc xs (5 * (j : Int) + 4) ∧ sc xs (5 * (j : Int) + 4) ≤ 60
      · have b3 := b3
        refine lv_aload_n C.hx C.hb dL_law_352 rfl (lv_at hl 2 rfl) ?_
        refine lv_aload_n C.hx C.hb dL_law_353 rfl (lv_at hl 1 rfl) ?_
        refine lv_iload C.hx C.hb dL_law_354 (lv_at hl 0 rfl) ?_
        refine zr_iconst C.hx C.hb dL_law_356 ?_
        refine zr_iadd (v := 5 * (j : Int) + 1) C.hx C.hb rfl dL_law_357 ?_
        refine zr_sld (s := s.setDrawn d0) C.hx C.hb C.hX C.hbl C.hbA hS (i := 5 * (j : Int) + 1) (by omega) (by omega) C.hLN dL_law_358 ?_
        refine lv_aload_n C.hx C.hb dL_law_359 rfl (lv_at hl 1 rfl) ?_
        refine lv_iload C.hx C.hb dL_law_360 (lv_at hl 0 rfl) ?_
        refine zr_iconst C.hx C.hb dL_law_362 ?_
        refine zr_iadd (v := 5 * (j : Int) + 2) C.hx C.hb rfl dL_law_363 ?_
        refine zr_sld (s := s.setDrawn d0) C.hx C.hb C.hX C.hbl C.hbA hS (i := 5 * (j : Int) + 2) (by omega) (by omega) C.hLN dL_law_364 ?_
        refine lv_aload_n C.hx C.hb dL_law_365 rfl (lv_at hl 1 rfl) ?_
        refine lv_iload C.hx C.hb dL_law_366 (lv_at hl 0 rfl) ?_
        refine zr_iconst C.hx C.hb dL_law_368 ?_
        refine zr_iadd (v := 5 * (j : Int) + 3) C.hx C.hb rfl dL_law_369 ?_
        refine zr_sld (s := s.setDrawn d0) C.hx C.hb C.hX C.hbl C.hbA hS (i := 5 * (j : Int) + 3) (by omega) (by omega) C.hLN dL_law_370 ?_
        refine lv_aload_n C.hx C.hb dL_law_371 rfl (lv_at hl 1 rfl) ?_
        refine lv_iload C.hx C.hb dL_law_372 (lv_at hl 0 rfl) ?_
        refine zr_iconst C.hx C.hb dL_law_374 ?_
        refine zr_iadd (v := 5 * (j : Int) + 4) C.hx C.hb rfl dL_law_375 ?_
        refine zr_sld (s := s.setDrawn d0) C.hx C.hb C.hX C.hbl C.hbA hS (i := 5 * (j : Int) + 4) (by omega) (by omega) C.hLN dL_law_376 ?_
        refine lv_aload_n C.hx C.hb dL_law_377 rfl (lv_at hl 4 rfl) ?_
        refine zcallLW (As := [.ref (q 0), .int (zI (sc xs (5 * (j : Int) + 1))), .int (zI (sc xs (5 * (j : Int) + 2))), .int (zI (sc xs (5 * (j : Int) + 3))), .int (zI (sc xs (5 * (j : Int) + 4))), .ref o]) (rest := []) ⟨C.hx, C.hb, C.hml, C.hown, dr_words C.hts _⟩ C.hK (kL_setStageok l D C.hl0 cI cZ cJ q o C.hN C.hN2 pa sp al dg co da mb dd ah wl lo n td wn f R.2.1.2.2.2.2.1 (sc xs (5 * (j : Int) + 1)) (sc xs (5 * (j : Int) + 2)) (sc xs (5 * (j : Int) + 3)) (sc xs (5 * (j : Int) + 4)) (by omega) (by omega) (by omega) (by omega)) (vx_cwSW 6 (dr_words C.hts _) gL_law_L_setStage rfl rfl rfl (by decide +kernel) ⟨Nat.le_of_ble_eq_true rfl, Nat.le_of_ble_eq_true rfl⟩) hC hO (C.tk hS) C.hE hS C.hA3 rfl hl.1 rfl (Nat.le_of_ble_eq_true rfl) dL_law_378 ⟨C.ok1 hcs.1 (by omega), C.ok2 hcs.2 (by omega)⟩ (fun H locs hC hO hS _ hkk => ?_)
        have hM := zkeep hM hkk C.dM
        refine lv_istore (lv' := [(5, .int (zI 0)), (4, .int (zI (5 * (j : Int)))), (0, .ref b), (1, .ref (q 0)), (2, .ref (r 0)), (3, .ref o)]) C.hx C.hb dL_law_381 hl (by decide) rfl (fun ls hl => ?_)
        refine lv_aload_n C.hx C.hb dL_law_383 rfl (lv_at hl 4 rfl) ?_
        refine lv_aload_n C.hx C.hb dL_law_384 rfl (lv_at hl 2 rfl) ?_
        refine lv_iload C.hx C.hb dL_law_385 (lv_at hl 1 rfl) ?_
        refine zr_iconst C.hx C.hb dL_law_387 ?_
        refine zr_iadd (v := 5 * (j : Int) + 1) C.hx C.hb rfl dL_law_388 ?_
        refine zr_sld (s := s.setDrawn d0) C.hx C.hb C.hX C.hbl C.hbA hS (i := 5 * (j : Int) + 1) (by omega) (by omega) C.hLN dL_law_389 ?_
        refine lv_aload_n C.hx C.hb dL_law_390 rfl (lv_at hl 2 rfl) ?_
        refine lv_iload C.hx C.hb dL_law_391 (lv_at hl 1 rfl) ?_
        refine zr_iconst C.hx C.hb dL_law_393 ?_
        refine zr_iadd (v := 5 * (j : Int) + 2) C.hx C.hb rfl dL_law_394 ?_
        refine zr_sld (s := s.setDrawn d0) C.hx C.hb C.hX C.hbl C.hbA hS (i := 5 * (j : Int) + 2) (by omega) (by omega) C.hLN dL_law_395 ?_
        refine lv_aload_n C.hx C.hb dL_law_396 rfl (lv_at hl 2 rfl) ?_
        refine lv_iload C.hx C.hb dL_law_397 (lv_at hl 1 rfl) ?_
        refine zr_iconst C.hx C.hb dL_law_399 ?_
        refine zr_iadd (v := 5 * (j : Int) + 3) C.hx C.hb rfl dL_law_400 ?_
        refine zr_sld (s := s.setDrawn d0) C.hx C.hb C.hX C.hbl C.hbA hS (i := 5 * (j : Int) + 3) (by omega) (by omega) C.hLN dL_law_401 ?_
        refine lv_aload_n C.hx C.hb dL_law_402 rfl (lv_at hl 2 rfl) ?_
        refine lv_iload C.hx C.hb dL_law_403 (lv_at hl 1 rfl) ?_
        refine zr_iconst C.hx C.hb dL_law_405 ?_
        refine zr_iadd (v := 5 * (j : Int) + 4) C.hx C.hb rfl dL_law_406 ?_
        refine zr_sld (s := s.setDrawn d0) C.hx C.hb C.hX C.hbl C.hbA hS (i := 5 * (j : Int) + 4) (by omega) (by omega) C.hLN dL_law_407 ?_
        refine zcallV (ci := 3) (q0 := 0) (cq := (RX3, TX3, 12)) (As := [.int (zI (sc xs (5 * (j : Int) + 1))), .int (zI (sc xs (5 * (j : Int) + 2))), .int (zI (sc xs (5 * (j : Int) + 3))), .int (zI (sc xs (5 * (j : Int) + 4)))]) (rest := []) ⟨C.hx, C.hb, C.hml, C.hown, dr_words C.hts _⟩ C.hK2 (kX3_setStageok l D cI cZ r C.hNr pa sp al co' da' mo st mr th n td wn R.2.2.1.2.1 (sc xs (5 * (j : Int) + 1)) (sc xs (5 * (j : Int) + 2)) (sc xs (5 * (j : Int) + 3)) (sc xs (5 * (j : Int) + 4)) (by omega) (by omega) (by omega) (by omega) (by omega) (by omega)) (cwV 4 (dr_words C.hts _) gL_law_X3_setStage rfl rfl rfl (by decide +kernel) ⟨Nat.le_of_ble_eq_true rfl, Nat.le_of_ble_eq_true rfl⟩) hM hS C.hA2 rfl rfl rfl hl.1 rfl (Nat.le_of_ble_eq_true rfl) dL_law_408 ⟨C.ok1 hcs.1 (by omega), C.ok2 hcs.2 (by omega)⟩ (fun H locs hM hS _ hkk => ?_)
        have hC := zkeep hC hkk C.dC
        have hO := zkeep hO hkk C.dO
        refine W.eq (g2 := F0 m 411 ls [.int (zI (lenM (up da' (3 * ((sc xs (5 * (j : Int) + 1)) - 1) + (sc xs (5 * (j : Int) + 2))) (sc xs (5 * (j : Int) + 4))) (sc xs (5 * (j : Int) + 1))))]) rfl ?_
        refine lv_istore (lv' := [(6, .int (zI (lenM (up da' (3 * ((sc xs (5 * (j : Int) + 1)) - 1) + (sc xs (5 * (j : Int) + 2))) (sc xs (5 * (j : Int) + 4))) (sc xs (5 * (j : Int) + 1))))), (5, .int (zI 0)), (4, .int (zI (5 * (j : Int)))), (0, .ref b), (1, .ref (q 0)), (2, .ref (r 0)), (3, .ref o)]) C.hx C.hb dL_law_411 hl (by decide) rfl (fun ls hl => ?_)
        refine lv_aload_n C.hx C.hb dL_law_413 rfl (lv_at hl 5 rfl) ?_
        refine zcallV (ci := 3) (q0 := 0) (cq := (RX3, TX3, 12)) (As := []) (rest := []) ⟨C.hx, C.hb, C.hml, C.hown, dr_words C.hts _⟩ C.hK2 (kX3_thrown l D cI cZ r C.hNr pa sp al (up co' (3 * ((sc xs (5 * (j : Int) + 1)) - 1) + (sc xs (5 * (j : Int) + 2))) (sc xs (5 * (j : Int) + 3))) (up da' (3 * ((sc xs (5 * (j : Int) + 1)) - 1) + (sc xs (5 * (j : Int) + 2))) (sc xs (5 * (j : Int) + 4))) mo st mr 0 n td wn) (cwV 0 (dr_words C.hts _) gL_law_X3_thrown rfl rfl rfl (by decide +kernel) ⟨Nat.le_of_ble_eq_true rfl, Nat.le_of_ble_eq_true rfl⟩) hM hS C.hA2 rfl rfl rfl hl.1 rfl (Nat.le_of_ble_eq_true rfl) dL_law_414 ⟨C.ok1 hcs.1 (by omega), C.ok2 hcs.2 (by omega)⟩ (fun H locs hM hS _ hkk => ?_)
        have hC := zkeep hC hkk C.dC
        have hO := zkeep hO hkk C.dO
        refine W.eq (g2 := F0 m 417 ls [.int (zI 0)]) rfl ?_
        refine lv_iload C.hx C.hb dL_law_417 (lv_at hl 1 rfl) ?_
        refine zr_icmp_eqT (tgt := 424) C.hx C.hb (rfl) dL_law_419 (by decide) ?_
        refine lv_iload C.hx C.hb dL_law_424 (lv_at hl 1 rfl) ?_
        refine zr_if_ne (tgt := 441) C.hx C.hb dL_law_426 (by decide) ⟨by decide, by decide⟩ (fun h9 => by exfalso; revert h9; decide) (fun _ => ?_)
        refine lv_aload_n C.hx C.hb dL_law_429 rfl (lv_at hl 6 rfl) ?_
        refine zr_iconst C.hx C.hb dL_law_430 ?_
        refine zr_lald0 C.hx C.hb C.hK hO 0 2 rfl rfl dL_law_431 ?_
        refine W.eq (g2 := F0 m 432 ls [.long ((zI (dAll (up da (16 * 12 + ((sc xs (5 * (j : Int) + 1)) - 1) * 3 + (sc xs (5 * (j : Int) + 2))) (sc xs (5 * (j : Int) + 4))) 16 (sc xs (5 * (j : Int) + 1)))).toInt64)]) rfl ?_
        refine lv_iload C.hx C.hb dL_law_432 (lv_at hl 0 rfl) ?_
        refine lv_i2l C.hx C.hb dL_law_434 rfl ?_
        refine zr_lcmp_eqT (tgt := 441) C.hx C.hb (congrArg (fun z => (zI z).toInt64) (re_setlen R (by omega) (by omega) (c := 0) (by decide) (by omega))) dL_law_435 dL_law_436 (by decide) ?_
        refine lv_goto (tgt := 1825) C.hx C.hb dL_law_441 (by decide) ?_
        refine W.widen (k := cells + 2) (n := slots + 12) (by omega) (by omega) ?_
        have hl := lv_sub hl (l' := [(4, .int (zI (5 * (j : Int)))), (0, .ref b), (1, .ref (q 0)), (2, .ref (r 0)), (3, .ref o)]) [2, 3, 4, 5, 6] rfl
        exact K _ hd0 H locs ls ⟨pa, sp, al, dg, up co (16 * 12 + ((sc xs (5 * (j : Int) + 1)) - 1) * 3 + (sc xs (5 * (j : Int) + 2))) (sc xs (5 * (j : Int) + 3)), up da (16 * 12 + ((sc xs (5 * (j : Int) + 1)) - 1) * 3 + (sc xs (5 * (j : Int) + 2))) (sc xs (5 * (j : Int) + 4)), mb, dd, ah, wl, lo, n, td, wn, up co' (3 * ((sc xs (5 * (j : Int) + 1)) - 1) + (sc xs (5 * (j : Int) + 2))) (sc xs (5 * (j : Int) + 3)), up da' (3 * ((sc xs (5 * (j : Int) + 1)) - 1) + (sc xs (5 * (j : Int) + 2))) (sc xs (5 * (j : Int) + 4)), mo, st, mr, 0, (vp_updL f 0 (zI (dAll (up da (16 * 12 + ((sc xs (5 * (j : Int) + 1)) - 1) * 3 + (sc xs (5 * (j : Int) + 2))) (sc xs (5 * (j : Int) + 4))) 16 (sc xs (5 * (j : Int) + 1)))).toInt64), re_set R (by omega) (by omega) (by omega) (by omega), by omega, hst, hmr, hC, hM, hO⟩ hS hl
      · have b3 := b3
        refine lv_aload_n C.hx C.hb dL_law_352 rfl (lv_at hl 2 rfl) ?_
        refine lv_aload_n C.hx C.hb dL_law_353 rfl (lv_at hl 1 rfl) ?_
        refine lv_iload C.hx C.hb dL_law_354 (lv_at hl 0 rfl) ?_
        refine zr_iconst C.hx C.hb dL_law_356 ?_
        refine zr_iadd (v := 5 * (j : Int) + 1) C.hx C.hb rfl dL_law_357 ?_
        refine zr_sld (s := s.setDrawn d0) C.hx C.hb C.hX C.hbl C.hbA hS (i := 5 * (j : Int) + 1) (by omega) (by omega) C.hLN dL_law_358 ?_
        refine lv_aload_n C.hx C.hb dL_law_359 rfl (lv_at hl 1 rfl) ?_
        refine lv_iload C.hx C.hb dL_law_360 (lv_at hl 0 rfl) ?_
        refine zr_iconst C.hx C.hb dL_law_362 ?_
        refine zr_iadd (v := 5 * (j : Int) + 2) C.hx C.hb rfl dL_law_363 ?_
        refine zr_sld (s := s.setDrawn d0) C.hx C.hb C.hX C.hbl C.hbA hS (i := 5 * (j : Int) + 2) (by omega) (by omega) C.hLN dL_law_364 ?_
        refine lv_aload_n C.hx C.hb dL_law_365 rfl (lv_at hl 1 rfl) ?_
        refine lv_iload C.hx C.hb dL_law_366 (lv_at hl 0 rfl) ?_
        refine zr_iconst C.hx C.hb dL_law_368 ?_
        refine zr_iadd (v := 5 * (j : Int) + 3) C.hx C.hb rfl dL_law_369 ?_
        refine zr_sld (s := s.setDrawn d0) C.hx C.hb C.hX C.hbl C.hbA hS (i := 5 * (j : Int) + 3) (by omega) (by omega) C.hLN dL_law_370 ?_
        refine lv_aload_n C.hx C.hb dL_law_371 rfl (lv_at hl 1 rfl) ?_
        refine lv_iload C.hx C.hb dL_law_372 (lv_at hl 0 rfl) ?_
        refine zr_iconst C.hx C.hb dL_law_374 ?_
        refine zr_iadd (v := 5 * (j : Int) + 4) C.hx C.hb rfl dL_law_375 ?_
        refine zr_sld (s := s.setDrawn d0) C.hx C.hb C.hX C.hbl C.hbA hS (i := 5 * (j : Int) + 4) (by omega) (by omega) C.hLN dL_law_376 ?_
        refine lv_aload_n C.hx C.hb dL_law_377 rfl (lv_at hl 4 rfl) ?_
        refine zcallLW (As := [.ref (q 0), .int (zI (sc xs (5 * (j : Int) + 1))), .int (zI (sc xs (5 * (j : Int) + 2))), .int (zI (sc xs (5 * (j : Int) + 3))), .int (zI (sc xs (5 * (j : Int) + 4))), .ref o]) (rest := []) ⟨C.hx, C.hb, C.hml, C.hown, dr_words C.hts _⟩ C.hK (kL_setStagex3 l D C.hl0 cI cZ cJ q o C.hN C.hN2 pa sp al dg co da mb dd ah wl lo n td wn f (sc xs (5 * (j : Int) + 1)) (sc xs (5 * (j : Int) + 2)) (sc xs (5 * (j : Int) + 3)) (sc xs (5 * (j : Int) + 4)) (by omega) (by omega) (by omega) (by omega) (by omega)) (vx_cwSW 6 (dr_words C.hts _) gL_law_L_setStage rfl rfl rfl (by decide +kernel) ⟨Nat.le_of_ble_eq_true rfl, Nat.le_of_ble_eq_true rfl⟩) hC hO (C.tk hS) C.hE hS C.hA3 rfl hl.1 rfl (Nat.le_of_ble_eq_true rfl) dL_law_378 ⟨C.ok1 hcs.1 (by omega), C.ok2 hcs.2 (by omega)⟩ (fun H locs hC hO hS _ hkk => ?_)
        have hM := zkeep hM hkk C.dM
        refine lv_istore (lv' := [(5, .int (zI 2)), (4, .int (zI (5 * (j : Int)))), (0, .ref b), (1, .ref (q 0)), (2, .ref (r 0)), (3, .ref o)]) C.hx C.hb dL_law_381 hl (by decide) rfl (fun ls hl => ?_)
        refine lv_aload_n C.hx C.hb dL_law_383 rfl (lv_at hl 4 rfl) ?_
        refine lv_aload_n C.hx C.hb dL_law_384 rfl (lv_at hl 2 rfl) ?_
        refine lv_iload C.hx C.hb dL_law_385 (lv_at hl 1 rfl) ?_
        refine zr_iconst C.hx C.hb dL_law_387 ?_
        refine zr_iadd (v := 5 * (j : Int) + 1) C.hx C.hb rfl dL_law_388 ?_
        refine zr_sld (s := s.setDrawn d0) C.hx C.hb C.hX C.hbl C.hbA hS (i := 5 * (j : Int) + 1) (by omega) (by omega) C.hLN dL_law_389 ?_
        refine lv_aload_n C.hx C.hb dL_law_390 rfl (lv_at hl 2 rfl) ?_
        refine lv_iload C.hx C.hb dL_law_391 (lv_at hl 1 rfl) ?_
        refine zr_iconst C.hx C.hb dL_law_393 ?_
        refine zr_iadd (v := 5 * (j : Int) + 2) C.hx C.hb rfl dL_law_394 ?_
        refine zr_sld (s := s.setDrawn d0) C.hx C.hb C.hX C.hbl C.hbA hS (i := 5 * (j : Int) + 2) (by omega) (by omega) C.hLN dL_law_395 ?_
        refine lv_aload_n C.hx C.hb dL_law_396 rfl (lv_at hl 2 rfl) ?_
        refine lv_iload C.hx C.hb dL_law_397 (lv_at hl 1 rfl) ?_
        refine zr_iconst C.hx C.hb dL_law_399 ?_
        refine zr_iadd (v := 5 * (j : Int) + 3) C.hx C.hb rfl dL_law_400 ?_
        refine zr_sld (s := s.setDrawn d0) C.hx C.hb C.hX C.hbl C.hbA hS (i := 5 * (j : Int) + 3) (by omega) (by omega) C.hLN dL_law_401 ?_
        refine lv_aload_n C.hx C.hb dL_law_402 rfl (lv_at hl 2 rfl) ?_
        refine lv_iload C.hx C.hb dL_law_403 (lv_at hl 1 rfl) ?_
        refine zr_iconst C.hx C.hb dL_law_405 ?_
        refine zr_iadd (v := 5 * (j : Int) + 4) C.hx C.hb rfl dL_law_406 ?_
        refine zr_sld (s := s.setDrawn d0) C.hx C.hb C.hX C.hbl C.hbA hS (i := 5 * (j : Int) + 4) (by omega) (by omega) C.hLN dL_law_407 ?_
        refine zcallV (ci := 3) (q0 := 0) (cq := (RX3, TX3, 12)) (As := [.int (zI (sc xs (5 * (j : Int) + 1))), .int (zI (sc xs (5 * (j : Int) + 2))), .int (zI (sc xs (5 * (j : Int) + 3))), .int (zI (sc xs (5 * (j : Int) + 4)))]) (rest := []) ⟨C.hx, C.hb, C.hml, C.hown, dr_words C.hts _⟩ C.hK2 (kX3_setStagee2 l D cI cZ r C.hNr pa sp al co' da' mo st mr th n td wn (sc xs (5 * (j : Int) + 1)) (sc xs (5 * (j : Int) + 2)) (sc xs (5 * (j : Int) + 3)) (sc xs (5 * (j : Int) + 4)) (by omega) (by omega) (by omega) (by omega) (by omega) (by omega) (by omega)) (cwV 4 (dr_words C.hts _) gL_law_X3_setStage rfl rfl rfl (by decide +kernel) ⟨Nat.le_of_ble_eq_true rfl, Nat.le_of_ble_eq_true rfl⟩) hM hS C.hA2 rfl rfl rfl hl.1 rfl (Nat.le_of_ble_eq_true rfl) dL_law_408 ⟨C.ok1 hcs.1 (by omega), C.ok2 hcs.2 (by omega)⟩ (fun H locs hM hS _ hkk => ?_)
        have hC := zkeep hC hkk C.dC
        have hO := zkeep hO hkk C.dO
        refine W.eq (g2 := F0 m 411 ls [.int (zI 0)]) rfl ?_
        refine lv_istore (lv' := [(6, .int (zI 0)), (5, .int (zI 2)), (4, .int (zI (5 * (j : Int)))), (0, .ref b), (1, .ref (q 0)), (2, .ref (r 0)), (3, .ref o)]) C.hx C.hb dL_law_411 hl (by decide) rfl (fun ls hl => ?_)
        refine lv_aload_n C.hx C.hb dL_law_413 rfl (lv_at hl 5 rfl) ?_
        refine zcallV (ci := 3) (q0 := 0) (cq := (RX3, TX3, 12)) (As := []) (rest := []) ⟨C.hx, C.hb, C.hml, C.hown, dr_words C.hts _⟩ C.hK2 (kX3_thrown l D cI cZ r C.hNr pa sp al co' da' mo st mr 2 n td wn) (cwV 0 (dr_words C.hts _) gL_law_X3_thrown rfl rfl rfl (by decide +kernel) ⟨Nat.le_of_ble_eq_true rfl, Nat.le_of_ble_eq_true rfl⟩) hM hS C.hA2 rfl rfl rfl hl.1 rfl (Nat.le_of_ble_eq_true rfl) dL_law_414 ⟨C.ok1 hcs.1 (by omega), C.ok2 hcs.2 (by omega)⟩ (fun H locs hM hS _ hkk => ?_)
        have hC := zkeep hC hkk C.dC
        have hO := zkeep hO hkk C.dO
        refine W.eq (g2 := F0 m 417 ls [.int (zI 2)]) rfl ?_
        refine lv_iload C.hx C.hb dL_law_417 (lv_at hl 1 rfl) ?_
        refine zr_icmp_eqT (tgt := 424) C.hx C.hb (rfl) dL_law_419 (by decide) ?_
        refine lv_iload C.hx C.hb dL_law_424 (lv_at hl 1 rfl) ?_
        refine zr_if_ne (tgt := 441) C.hx C.hb dL_law_426 (by decide) ⟨by decide, by decide⟩ (fun _ => ?_) (fun h9 => by exfalso; revert h9; decide)
        refine lv_goto (tgt := 1825) C.hx C.hb dL_law_441 (by decide) ?_
        refine W.widen (k := cells + 2) (n := slots + 12) (by omega) (by omega) ?_
        have hl := lv_sub hl (l' := [(4, .int (zI (5 * (j : Int)))), (0, .ref b), (1, .ref (q 0)), (2, .ref (r 0)), (3, .ref o)]) [2, 3, 4, 5, 6] rfl
        exact K _ hd0 H locs ls ⟨pa, sp, al, dg, co, da, mb, dd, ah, wl, lo, n, td, wn, co', da', mo, st, mr, 2, f, R, by omega, hst, hmr, hC, hM, hO⟩ hS hl
    · have b2 := b2
      refine lv_aload_n C.hx C.hb dL_law_352 rfl (lv_at hl 2 rfl) ?_
      refine lv_aload_n C.hx C.hb dL_law_353 rfl (lv_at hl 1 rfl) ?_
      refine lv_iload C.hx C.hb dL_law_354 (lv_at hl 0 rfl) ?_
      refine zr_iconst C.hx C.hb dL_law_356 ?_
      refine zr_iadd (v := 5 * (j : Int) + 1) C.hx C.hb rfl dL_law_357 ?_
      refine zr_sld (s := s.setDrawn d0) C.hx C.hb C.hX C.hbl C.hbA hS (i := 5 * (j : Int) + 1) (by omega) (by omega) C.hLN dL_law_358 ?_
      refine lv_aload_n C.hx C.hb dL_law_359 rfl (lv_at hl 1 rfl) ?_
      refine lv_iload C.hx C.hb dL_law_360 (lv_at hl 0 rfl) ?_
      refine zr_iconst C.hx C.hb dL_law_362 ?_
      refine zr_iadd (v := 5 * (j : Int) + 2) C.hx C.hb rfl dL_law_363 ?_
      refine zr_sld (s := s.setDrawn d0) C.hx C.hb C.hX C.hbl C.hbA hS (i := 5 * (j : Int) + 2) (by omega) (by omega) C.hLN dL_law_364 ?_
      refine lv_aload_n C.hx C.hb dL_law_365 rfl (lv_at hl 1 rfl) ?_
      refine lv_iload C.hx C.hb dL_law_366 (lv_at hl 0 rfl) ?_
      refine zr_iconst C.hx C.hb dL_law_368 ?_
      refine zr_iadd (v := 5 * (j : Int) + 3) C.hx C.hb rfl dL_law_369 ?_
      refine zr_sld (s := s.setDrawn d0) C.hx C.hb C.hX C.hbl C.hbA hS (i := 5 * (j : Int) + 3) (by omega) (by omega) C.hLN dL_law_370 ?_
      refine lv_aload_n C.hx C.hb dL_law_371 rfl (lv_at hl 1 rfl) ?_
      refine lv_iload C.hx C.hb dL_law_372 (lv_at hl 0 rfl) ?_
      refine zr_iconst C.hx C.hb dL_law_374 ?_
      refine zr_iadd (v := 5 * (j : Int) + 4) C.hx C.hb rfl dL_law_375 ?_
      refine zr_sld (s := s.setDrawn d0) C.hx C.hb C.hX C.hbl C.hbA hS (i := 5 * (j : Int) + 4) (by omega) (by omega) C.hLN dL_law_376 ?_
      refine lv_aload_n C.hx C.hb dL_law_377 rfl (lv_at hl 4 rfl) ?_
      refine zcallLW (As := [.ref (q 0), .int (zI (sc xs (5 * (j : Int) + 1))), .int (zI (sc xs (5 * (j : Int) + 2))), .int (zI (sc xs (5 * (j : Int) + 3))), .int (zI (sc xs (5 * (j : Int) + 4))), .ref o]) (rest := []) ⟨C.hx, C.hb, C.hml, C.hown, dr_words C.hts _⟩ C.hK (kL_setStagex2 l D C.hl0 cI cZ cJ q o C.hN C.hN2 pa sp al dg co da mb dd ah wl lo n td wn f (sc xs (5 * (j : Int) + 1)) (sc xs (5 * (j : Int) + 2)) (sc xs (5 * (j : Int) + 3)) (sc xs (5 * (j : Int) + 4)) (by omega) (by omega) (by omega)) (vx_cwSW 6 (dr_words C.hts _) gL_law_L_setStage rfl rfl rfl (by decide +kernel) ⟨Nat.le_of_ble_eq_true rfl, Nat.le_of_ble_eq_true rfl⟩) hC hO (C.tk hS) C.hE hS C.hA3 rfl hl.1 rfl (Nat.le_of_ble_eq_true rfl) dL_law_378 ⟨C.ok1 hcs.1 (by omega), C.ok2 hcs.2 (by omega)⟩ (fun H locs hC hO hS _ hkk => ?_)
      have hM := zkeep hM hkk C.dM
      refine lv_istore (lv' := [(5, .int (zI 1)), (4, .int (zI (5 * (j : Int)))), (0, .ref b), (1, .ref (q 0)), (2, .ref (r 0)), (3, .ref o)]) C.hx C.hb dL_law_381 hl (by decide) rfl (fun ls hl => ?_)
      refine lv_aload_n C.hx C.hb dL_law_383 rfl (lv_at hl 4 rfl) ?_
      refine lv_aload_n C.hx C.hb dL_law_384 rfl (lv_at hl 2 rfl) ?_
      refine lv_iload C.hx C.hb dL_law_385 (lv_at hl 1 rfl) ?_
      refine zr_iconst C.hx C.hb dL_law_387 ?_
      refine zr_iadd (v := 5 * (j : Int) + 1) C.hx C.hb rfl dL_law_388 ?_
      refine zr_sld (s := s.setDrawn d0) C.hx C.hb C.hX C.hbl C.hbA hS (i := 5 * (j : Int) + 1) (by omega) (by omega) C.hLN dL_law_389 ?_
      refine lv_aload_n C.hx C.hb dL_law_390 rfl (lv_at hl 2 rfl) ?_
      refine lv_iload C.hx C.hb dL_law_391 (lv_at hl 1 rfl) ?_
      refine zr_iconst C.hx C.hb dL_law_393 ?_
      refine zr_iadd (v := 5 * (j : Int) + 2) C.hx C.hb rfl dL_law_394 ?_
      refine zr_sld (s := s.setDrawn d0) C.hx C.hb C.hX C.hbl C.hbA hS (i := 5 * (j : Int) + 2) (by omega) (by omega) C.hLN dL_law_395 ?_
      refine lv_aload_n C.hx C.hb dL_law_396 rfl (lv_at hl 2 rfl) ?_
      refine lv_iload C.hx C.hb dL_law_397 (lv_at hl 1 rfl) ?_
      refine zr_iconst C.hx C.hb dL_law_399 ?_
      refine zr_iadd (v := 5 * (j : Int) + 3) C.hx C.hb rfl dL_law_400 ?_
      refine zr_sld (s := s.setDrawn d0) C.hx C.hb C.hX C.hbl C.hbA hS (i := 5 * (j : Int) + 3) (by omega) (by omega) C.hLN dL_law_401 ?_
      refine lv_aload_n C.hx C.hb dL_law_402 rfl (lv_at hl 2 rfl) ?_
      refine lv_iload C.hx C.hb dL_law_403 (lv_at hl 1 rfl) ?_
      refine zr_iconst C.hx C.hb dL_law_405 ?_
      refine zr_iadd (v := 5 * (j : Int) + 4) C.hx C.hb rfl dL_law_406 ?_
      refine zr_sld (s := s.setDrawn d0) C.hx C.hb C.hX C.hbl C.hbA hS (i := 5 * (j : Int) + 4) (by omega) (by omega) C.hLN dL_law_407 ?_
      refine zcallV (ci := 3) (q0 := 0) (cq := (RX3, TX3, 12)) (As := [.int (zI (sc xs (5 * (j : Int) + 1))), .int (zI (sc xs (5 * (j : Int) + 2))), .int (zI (sc xs (5 * (j : Int) + 3))), .int (zI (sc xs (5 * (j : Int) + 4)))]) (rest := []) ⟨C.hx, C.hb, C.hml, C.hown, dr_words C.hts _⟩ C.hK2 (kX3_setStagee1 l D cI cZ r C.hNr pa sp al co' da' mo st mr th n td wn (sc xs (5 * (j : Int) + 1)) (sc xs (5 * (j : Int) + 2)) (sc xs (5 * (j : Int) + 3)) (sc xs (5 * (j : Int) + 4)) (by omega) (by omega) (by omega)) (cwV 4 (dr_words C.hts _) gL_law_X3_setStage rfl rfl rfl (by decide +kernel) ⟨Nat.le_of_ble_eq_true rfl, Nat.le_of_ble_eq_true rfl⟩) hM hS C.hA2 rfl rfl rfl hl.1 rfl (Nat.le_of_ble_eq_true rfl) dL_law_408 ⟨C.ok1 hcs.1 (by omega), C.ok2 hcs.2 (by omega)⟩ (fun H locs hM hS _ hkk => ?_)
      have hC := zkeep hC hkk C.dC
      have hO := zkeep hO hkk C.dO
      refine W.eq (g2 := F0 m 411 ls [.int (zI 0)]) rfl ?_
      refine lv_istore (lv' := [(6, .int (zI 0)), (5, .int (zI 1)), (4, .int (zI (5 * (j : Int)))), (0, .ref b), (1, .ref (q 0)), (2, .ref (r 0)), (3, .ref o)]) C.hx C.hb dL_law_411 hl (by decide) rfl (fun ls hl => ?_)
      refine lv_aload_n C.hx C.hb dL_law_413 rfl (lv_at hl 5 rfl) ?_
      refine zcallV (ci := 3) (q0 := 0) (cq := (RX3, TX3, 12)) (As := []) (rest := []) ⟨C.hx, C.hb, C.hml, C.hown, dr_words C.hts _⟩ C.hK2 (kX3_thrown l D cI cZ r C.hNr pa sp al co' da' mo st mr 1 n td wn) (cwV 0 (dr_words C.hts _) gL_law_X3_thrown rfl rfl rfl (by decide +kernel) ⟨Nat.le_of_ble_eq_true rfl, Nat.le_of_ble_eq_true rfl⟩) hM hS C.hA2 rfl rfl rfl hl.1 rfl (Nat.le_of_ble_eq_true rfl) dL_law_414 ⟨C.ok1 hcs.1 (by omega), C.ok2 hcs.2 (by omega)⟩ (fun H locs hM hS _ hkk => ?_)
      have hC := zkeep hC hkk C.dC
      have hO := zkeep hO hkk C.dO
      refine W.eq (g2 := F0 m 417 ls [.int (zI 1)]) rfl ?_
      refine lv_iload C.hx C.hb dL_law_417 (lv_at hl 1 rfl) ?_
      refine zr_icmp_eqT (tgt := 424) C.hx C.hb (rfl) dL_law_419 (by decide) ?_
      refine lv_iload C.hx C.hb dL_law_424 (lv_at hl 1 rfl) ?_
      refine zr_if_ne (tgt := 441) C.hx C.hb dL_law_426 (by decide) ⟨by decide, by decide⟩ (fun _ => ?_) (fun h9 => by exfalso; revert h9; decide)
      refine lv_goto (tgt := 1825) C.hx C.hb dL_law_441 (by decide) ?_
      refine W.widen (k := cells + 2) (n := slots + 12) (by omega) (by omega) ?_
      have hl := lv_sub hl (l' := [(4, .int (zI (5 * (j : Int)))), (0, .ref b), (1, .ref (q 0)), (2, .ref (r 0)), (3, .ref o)]) [2, 3, 4, 5, 6] rfl
      exact K _ hd0 H locs ls ⟨pa, sp, al, dg, co, da, mb, dd, ah, wl, lo, n, td, wn, co', da', mo, st, mr, 1, f, R, by omega, hst, hmr, hC, hM, hO⟩ hS hl
  · have b1 := b1
    refine lv_aload_n C.hx C.hb dL_law_352 rfl (lv_at hl 2 rfl) ?_
    refine lv_aload_n C.hx C.hb dL_law_353 rfl (lv_at hl 1 rfl) ?_
    refine lv_iload C.hx C.hb dL_law_354 (lv_at hl 0 rfl) ?_
    refine zr_iconst C.hx C.hb dL_law_356 ?_
    refine zr_iadd (v := 5 * (j : Int) + 1) C.hx C.hb rfl dL_law_357 ?_
    refine zr_sld (s := s.setDrawn d0) C.hx C.hb C.hX C.hbl C.hbA hS (i := 5 * (j : Int) + 1) (by omega) (by omega) C.hLN dL_law_358 ?_
    refine lv_aload_n C.hx C.hb dL_law_359 rfl (lv_at hl 1 rfl) ?_
    refine lv_iload C.hx C.hb dL_law_360 (lv_at hl 0 rfl) ?_
    refine zr_iconst C.hx C.hb dL_law_362 ?_
    refine zr_iadd (v := 5 * (j : Int) + 2) C.hx C.hb rfl dL_law_363 ?_
    refine zr_sld (s := s.setDrawn d0) C.hx C.hb C.hX C.hbl C.hbA hS (i := 5 * (j : Int) + 2) (by omega) (by omega) C.hLN dL_law_364 ?_
    refine lv_aload_n C.hx C.hb dL_law_365 rfl (lv_at hl 1 rfl) ?_
    refine lv_iload C.hx C.hb dL_law_366 (lv_at hl 0 rfl) ?_
    refine zr_iconst C.hx C.hb dL_law_368 ?_
    refine zr_iadd (v := 5 * (j : Int) + 3) C.hx C.hb rfl dL_law_369 ?_
    refine zr_sld (s := s.setDrawn d0) C.hx C.hb C.hX C.hbl C.hbA hS (i := 5 * (j : Int) + 3) (by omega) (by omega) C.hLN dL_law_370 ?_
    refine lv_aload_n C.hx C.hb dL_law_371 rfl (lv_at hl 1 rfl) ?_
    refine lv_iload C.hx C.hb dL_law_372 (lv_at hl 0 rfl) ?_
    refine zr_iconst C.hx C.hb dL_law_374 ?_
    refine zr_iadd (v := 5 * (j : Int) + 4) C.hx C.hb rfl dL_law_375 ?_
    refine zr_sld (s := s.setDrawn d0) C.hx C.hb C.hX C.hbl C.hbA hS (i := 5 * (j : Int) + 4) (by omega) (by omega) C.hLN dL_law_376 ?_
    refine lv_aload_n C.hx C.hb dL_law_377 rfl (lv_at hl 4 rfl) ?_
    refine zcallLW (As := [.ref (q 0), .int (zI (sc xs (5 * (j : Int) + 1))), .int (zI (sc xs (5 * (j : Int) + 2))), .int (zI (sc xs (5 * (j : Int) + 3))), .int (zI (sc xs (5 * (j : Int) + 4))), .ref o]) (rest := []) ⟨C.hx, C.hb, C.hml, C.hown, dr_words C.hts _⟩ C.hK (kL_setStagex1 l D C.hl0 cI cZ cJ q o C.hN C.hN2 pa sp al dg co da mb dd ah wl lo n td wn f (sc xs (5 * (j : Int) + 1)) (sc xs (5 * (j : Int) + 2)) (sc xs (5 * (j : Int) + 3)) (sc xs (5 * (j : Int) + 4)) (by omega) (by omega)) (vx_cwSW 6 (dr_words C.hts _) gL_law_L_setStage rfl rfl rfl (by decide +kernel) ⟨Nat.le_of_ble_eq_true rfl, Nat.le_of_ble_eq_true rfl⟩) hC hO (C.tk hS) C.hE hS C.hA3 rfl hl.1 rfl (Nat.le_of_ble_eq_true rfl) dL_law_378 ⟨C.ok1 hcs.1 (by omega), C.ok2 hcs.2 (by omega)⟩ (fun H locs hC hO hS _ hkk => ?_)
    have hM := zkeep hM hkk C.dM
    refine lv_istore (lv' := [(5, .int (zI 1)), (4, .int (zI (5 * (j : Int)))), (0, .ref b), (1, .ref (q 0)), (2, .ref (r 0)), (3, .ref o)]) C.hx C.hb dL_law_381 hl (by decide) rfl (fun ls hl => ?_)
    refine lv_aload_n C.hx C.hb dL_law_383 rfl (lv_at hl 4 rfl) ?_
    refine lv_aload_n C.hx C.hb dL_law_384 rfl (lv_at hl 2 rfl) ?_
    refine lv_iload C.hx C.hb dL_law_385 (lv_at hl 1 rfl) ?_
    refine zr_iconst C.hx C.hb dL_law_387 ?_
    refine zr_iadd (v := 5 * (j : Int) + 1) C.hx C.hb rfl dL_law_388 ?_
    refine zr_sld (s := s.setDrawn d0) C.hx C.hb C.hX C.hbl C.hbA hS (i := 5 * (j : Int) + 1) (by omega) (by omega) C.hLN dL_law_389 ?_
    refine lv_aload_n C.hx C.hb dL_law_390 rfl (lv_at hl 2 rfl) ?_
    refine lv_iload C.hx C.hb dL_law_391 (lv_at hl 1 rfl) ?_
    refine zr_iconst C.hx C.hb dL_law_393 ?_
    refine zr_iadd (v := 5 * (j : Int) + 2) C.hx C.hb rfl dL_law_394 ?_
    refine zr_sld (s := s.setDrawn d0) C.hx C.hb C.hX C.hbl C.hbA hS (i := 5 * (j : Int) + 2) (by omega) (by omega) C.hLN dL_law_395 ?_
    refine lv_aload_n C.hx C.hb dL_law_396 rfl (lv_at hl 2 rfl) ?_
    refine lv_iload C.hx C.hb dL_law_397 (lv_at hl 1 rfl) ?_
    refine zr_iconst C.hx C.hb dL_law_399 ?_
    refine zr_iadd (v := 5 * (j : Int) + 3) C.hx C.hb rfl dL_law_400 ?_
    refine zr_sld (s := s.setDrawn d0) C.hx C.hb C.hX C.hbl C.hbA hS (i := 5 * (j : Int) + 3) (by omega) (by omega) C.hLN dL_law_401 ?_
    refine lv_aload_n C.hx C.hb dL_law_402 rfl (lv_at hl 2 rfl) ?_
    refine lv_iload C.hx C.hb dL_law_403 (lv_at hl 1 rfl) ?_
    refine zr_iconst C.hx C.hb dL_law_405 ?_
    refine zr_iadd (v := 5 * (j : Int) + 4) C.hx C.hb rfl dL_law_406 ?_
    refine zr_sld (s := s.setDrawn d0) C.hx C.hb C.hX C.hbl C.hbA hS (i := 5 * (j : Int) + 4) (by omega) (by omega) C.hLN dL_law_407 ?_
    refine zcallV (ci := 3) (q0 := 0) (cq := (RX3, TX3, 12)) (As := [.int (zI (sc xs (5 * (j : Int) + 1))), .int (zI (sc xs (5 * (j : Int) + 2))), .int (zI (sc xs (5 * (j : Int) + 3))), .int (zI (sc xs (5 * (j : Int) + 4)))]) (rest := []) ⟨C.hx, C.hb, C.hml, C.hown, dr_words C.hts _⟩ C.hK2 (kX3_setStagee1 l D cI cZ r C.hNr pa sp al co' da' mo st mr th n td wn (sc xs (5 * (j : Int) + 1)) (sc xs (5 * (j : Int) + 2)) (sc xs (5 * (j : Int) + 3)) (sc xs (5 * (j : Int) + 4)) (by omega) (by omega) (by omega)) (cwV 4 (dr_words C.hts _) gL_law_X3_setStage rfl rfl rfl (by decide +kernel) ⟨Nat.le_of_ble_eq_true rfl, Nat.le_of_ble_eq_true rfl⟩) hM hS C.hA2 rfl rfl rfl hl.1 rfl (Nat.le_of_ble_eq_true rfl) dL_law_408 ⟨C.ok1 hcs.1 (by omega), C.ok2 hcs.2 (by omega)⟩ (fun H locs hM hS _ hkk => ?_)
    have hC := zkeep hC hkk C.dC
    have hO := zkeep hO hkk C.dO
    refine W.eq (g2 := F0 m 411 ls [.int (zI 0)]) rfl ?_
    refine lv_istore (lv' := [(6, .int (zI 0)), (5, .int (zI 1)), (4, .int (zI (5 * (j : Int)))), (0, .ref b), (1, .ref (q 0)), (2, .ref (r 0)), (3, .ref o)]) C.hx C.hb dL_law_411 hl (by decide) rfl (fun ls hl => ?_)
    refine lv_aload_n C.hx C.hb dL_law_413 rfl (lv_at hl 5 rfl) ?_
    refine zcallV (ci := 3) (q0 := 0) (cq := (RX3, TX3, 12)) (As := []) (rest := []) ⟨C.hx, C.hb, C.hml, C.hown, dr_words C.hts _⟩ C.hK2 (kX3_thrown l D cI cZ r C.hNr pa sp al co' da' mo st mr 1 n td wn) (cwV 0 (dr_words C.hts _) gL_law_X3_thrown rfl rfl rfl (by decide +kernel) ⟨Nat.le_of_ble_eq_true rfl, Nat.le_of_ble_eq_true rfl⟩) hM hS C.hA2 rfl rfl rfl hl.1 rfl (Nat.le_of_ble_eq_true rfl) dL_law_414 ⟨C.ok1 hcs.1 (by omega), C.ok2 hcs.2 (by omega)⟩ (fun H locs hM hS _ hkk => ?_)
    have hC := zkeep hC hkk C.dC
    have hO := zkeep hO hkk C.dO
    refine W.eq (g2 := F0 m 417 ls [.int (zI 1)]) rfl ?_
    refine lv_iload C.hx C.hb dL_law_417 (lv_at hl 1 rfl) ?_
    refine zr_icmp_eqT (tgt := 424) C.hx C.hb (rfl) dL_law_419 (by decide) ?_
    refine lv_iload C.hx C.hb dL_law_424 (lv_at hl 1 rfl) ?_
    refine zr_if_ne (tgt := 441) C.hx C.hb dL_law_426 (by decide) ⟨by decide, by decide⟩ (fun _ => ?_) (fun h9 => by exfalso; revert h9; decide)
    refine lv_goto (tgt := 1825) C.hx C.hb dL_law_441 (by decide) ?_
    refine W.widen (k := cells + 2) (n := slots + 12) (by omega) (by omega) ?_
    have hl := lv_sub hl (l' := [(4, .int (zI (5 * (j : Int)))), (0, .ref b), (1, .ref (q 0)), (2, .ref (r 0)), (3, .ref o)]) [2, 3, 4, 5, 6] rfl
    exact K _ hd0 H locs ls ⟨pa, sp, al, dg, co, da, mb, dd, ah, wl, lo, n, td, wn, co', da', mo, st, mr, 1, f, R, by omega, hst, hmr, hC, hM, hO⟩ hS hl
set_option maxHeartbeats 4000000 in
set_option maxRecDepth 100000 in
theorem law_c4 {p : Program} {l : Launch} {e : Env} {s : State} {m : MethodId} {below : List Frame} {meth : Method} {c : Code} {b L : Nat} {xs : Nat → Int32} {Q : State → Prop} {D : va_G} {cI cZ cJ : ClassId} {q r : Nat → Nat} {o : Nat} (C : zCx p l s m meth c b L xs D cI cZ cJ q r o) {d0 : Drawn} (hd0 : s.drawn.sameBut d0 lw_cs) {H : Heap} {locs : List Loc} {cells slots : Nat} (hcs : cells + 2 ≤ 601024 ∧ slots + 12 ≤ 7293034) {j : Nat} (hj : 5 * (j : Int) + 5 ≤ (L : Int)) (hj2 : j ≤ 512) {ls : Array Slot} (hZ : zLS D cI cZ cJ q r o j H) (hS : va_S (fun a => s.heap.size ≤ a) s.heap H locs) (hl : lv_has ls 9 [(4, .int (zI (5 * (j : Int)))), (0, .ref b), (1, .ref (q 0)), (2, .ref (r 0)), (3, .ref o)])
    (K : ∀ (d1 : Drawn), s.drawn.sameBut d1 lw_cs → ∀ (H1 : Heap) (locs1 : List Loc) (ls1 : Array Slot), zLS D cI cZ cJ q r o (j + 1) H1 → va_S (fun a => s.heap.size ≤ a) s.heap H1 locs1 → lv_has ls1 9 [(4, .int (zI (5 * (j : Int)))), (0, .ref b), (1, .ref (q 0)), (2, .ref (r 0)), (3, .ref o)] → W p l e room_1 (s.setDrawn d1) m #[Value.ref b] below meth c H1 locs1 (cells + 2) (slots + 12) Q (F0 m 1825 ls1 [])) :
    W p l e room_1 (s.setDrawn d0) m #[Value.ref b] below meth c H locs cells slots Q (F0 m 444 ls []) := by
  obtain ⟨pa, sp, al, dg, co, da, mb, dd, ah, wl, lo, n, td, wn, co', da', mo, st, mr, th, f, R, htd, hst, hmr, hC, hM, hO⟩ := hZ
  have hn := R.1.1
  have htd0 := R.1.2
  have hLN := C.hLN
  have hs1 := sc_rg xs (5 * (j : Int) + 1)
  have hs2 := sc_rg xs (5 * (j : Int) + 2)
  have hs3 := sc_rg xs (5 * (j : Int) + 3)
  have hs4 := sc_rg xs (5 * (j : Int) + 4)
  by_cases b1 : 0 ≤ sc xs (5 * (j : Int) + 1) ∧ sc xs (5 * (j : Int) + 1) < (n : Int)
  · have b1 := b1
    by_cases b2 : al (sc xs (5 * (j : Int) + 1)) = 0
    · have b2 := b2
      refine lv_aload_n C.hx C.hb dL_law_444 rfl (lv_at hl 2 rfl) ?_
      refine lv_aload_n C.hx C.hb dL_law_445 rfl (lv_at hl 1 rfl) ?_
      refine lv_iload C.hx C.hb dL_law_446 (lv_at hl 0 rfl) ?_
      refine zr_iconst C.hx C.hb dL_law_448 ?_
      refine zr_iadd (v := 5 * (j : Int) + 1) C.hx C.hb rfl dL_law_449 ?_
      refine zr_sld (s := s.setDrawn d0) C.hx C.hb C.hX C.hbl C.hbA hS (i := 5 * (j : Int) + 1) (by omega) (by omega) C.hLN dL_law_450 ?_
      refine lv_aload_n C.hx C.hb dL_law_451 rfl (lv_at hl 4 rfl) ?_
      refine zcallLW (As := [.ref (q 0), .int (zI (sc xs (5 * (j : Int) + 1))), .ref o]) (rest := []) ⟨C.hx, C.hb, C.hml, C.hown, dr_words C.hts _⟩ C.hK (kL_diex2 l D C.hl0 cI cZ cJ q o C.hN C.hN2 pa sp al dg co da mb dd ah wl lo n td wn f R.1.1 R.2.1.2.2.1 (sc xs (5 * (j : Int) + 1)) (by omega) (by omega)) (vx_cwSW 3 (dr_words C.hts _) gL_law_L_die rfl rfl rfl (by decide +kernel) ⟨Nat.le_of_ble_eq_true rfl, Nat.le_of_ble_eq_true rfl⟩) hC hO (C.tk hS) C.hE hS C.hA3 rfl hl.1 rfl (Nat.le_of_ble_eq_true rfl) dL_law_452 ⟨C.ok1 hcs.1 (by omega), C.ok2 hcs.2 (by omega)⟩ (fun H locs hC hO hS _ hkk => ?_)
      have hM := zkeep hM hkk C.dM
      refine lv_istore (lv' := [(5, .int (zI 2)), (4, .int (zI (5 * (j : Int)))), (0, .ref b), (1, .ref (q 0)), (2, .ref (r 0)), (3, .ref o)]) C.hx C.hb dL_law_455 hl (by decide) rfl (fun ls hl => ?_)
      refine lv_aload_n C.hx C.hb dL_law_457 rfl (lv_at hl 4 rfl) ?_
      refine lv_aload_n C.hx C.hb dL_law_458 rfl (lv_at hl 2 rfl) ?_
      refine lv_iload C.hx C.hb dL_law_459 (lv_at hl 1 rfl) ?_
      refine zr_iconst C.hx C.hb dL_law_461 ?_
      refine zr_iadd (v := 5 * (j : Int) + 1) C.hx C.hb rfl dL_law_462 ?_
      refine zr_sld (s := s.setDrawn d0) C.hx C.hb C.hX C.hbl C.hbA hS (i := 5 * (j : Int) + 1) (by omega) (by omega) C.hLN dL_law_463 ?_
      refine zcallV (ci := 3) (q0 := 0) (cq := (RX3, TX3, 12)) (As := [.int (zI (sc xs (5 * (j : Int) + 1)))]) (rest := []) ⟨C.hx, C.hb, C.hml, C.hown, dr_words C.hts _⟩ C.hK2 (kX3_diee2 l D cI cZ r C.hNr pa sp al co' da' mo st mr th n td wn R.1.1 R.2.1.2.2.1 (sc xs (5 * (j : Int) + 1)) (by omega) (by omega) (by omega)) (cwV 1 (dr_words C.hts _) gL_law_X3_die rfl rfl rfl (by decide +kernel) ⟨Nat.le_of_ble_eq_true rfl, Nat.le_of_ble_eq_true rfl⟩) hM hS C.hA2 rfl rfl rfl hl.1 rfl (Nat.le_of_ble_eq_true rfl) dL_law_464 ⟨C.ok1 hcs.1 (by omega), C.ok2 hcs.2 (by omega)⟩ (fun H locs hM hS _ hkk => ?_)
      have hC := zkeep hC hkk C.dC
      have hO := zkeep hO hkk C.dO
      refine W.eq (g2 := F0 m 467 ls [.int (zI 0)]) rfl ?_
      refine lv_istore (lv' := [(6, .int (zI 0)), (5, .int (zI 2)), (4, .int (zI (5 * (j : Int)))), (0, .ref b), (1, .ref (q 0)), (2, .ref (r 0)), (3, .ref o)]) C.hx C.hb dL_law_467 hl (by decide) rfl (fun ls hl => ?_)
      refine lv_aload_n C.hx C.hb dL_law_469 rfl (lv_at hl 5 rfl) ?_
      refine zcallV (ci := 3) (q0 := 0) (cq := (RX3, TX3, 12)) (As := []) (rest := []) ⟨C.hx, C.hb, C.hml, C.hown, dr_words C.hts _⟩ C.hK2 (kX3_thrown l D cI cZ r C.hNr pa sp al co' da' mo st mr 2 n td wn) (cwV 0 (dr_words C.hts _) gL_law_X3_thrown rfl rfl rfl (by decide +kernel) ⟨Nat.le_of_ble_eq_true rfl, Nat.le_of_ble_eq_true rfl⟩) hM hS C.hA2 rfl rfl rfl hl.1 rfl (Nat.le_of_ble_eq_true rfl) dL_law_470 ⟨C.ok1 hcs.1 (by omega), C.ok2 hcs.2 (by omega)⟩ (fun H locs hM hS _ hkk => ?_)
      have hC := zkeep hC hkk C.dC
      have hO := zkeep hO hkk C.dO
      refine W.eq (g2 := F0 m 473 ls [.int (zI 2)]) rfl ?_
      refine lv_iload C.hx C.hb dL_law_473 (lv_at hl 1 rfl) ?_
      refine zr_icmp_eqT (tgt := 480) C.hx C.hb (rfl) dL_law_475 (by decide) ?_
      refine lv_iload C.hx C.hb dL_law_480 (lv_at hl 1 rfl) ?_
      refine zr_if_ne (tgt := 497) C.hx C.hb dL_law_482 (by decide) ⟨by decide, by decide⟩ (fun _ => ?_) (fun h9 => by exfalso; revert h9; decide)
      refine lv_goto (tgt := 1825) C.hx C.hb dL_law_497 (by decide) ?_
      refine W.widen (k := cells + 2) (n := slots + 12) (by omega) (by omega) ?_
      have hl := lv_sub hl (l' := [(4, .int (zI (5 * (j : Int)))), (0, .ref b), (1, .ref (q 0)), (2, .ref (r 0)), (3, .ref o)]) [2, 3, 4, 5, 6] rfl
      exact K _ hd0 H locs ls ⟨pa, sp, al, dg, co, da, mb, dd, ah, wl, lo, n, td, wn, co', da', mo, st, mr, 2, f, R, by omega, hst, hmr, hC, hM, hO⟩ hS hl
    · have b2 := b2
      refine lv_aload_n C.hx C.hb dL_law_444 rfl (lv_at hl 2 rfl) ?_
      refine lv_aload_n C.hx C.hb dL_law_445 rfl (lv_at hl 1 rfl) ?_
      refine lv_iload C.hx C.hb dL_law_446 (lv_at hl 0 rfl) ?_
      refine zr_iconst C.hx C.hb dL_law_448 ?_
      refine zr_iadd (v := 5 * (j : Int) + 1) C.hx C.hb rfl dL_law_449 ?_
      refine zr_sld (s := s.setDrawn d0) C.hx C.hb C.hX C.hbl C.hbA hS (i := 5 * (j : Int) + 1) (by omega) (by omega) C.hLN dL_law_450 ?_
      refine lv_aload_n C.hx C.hb dL_law_451 rfl (lv_at hl 4 rfl) ?_
      refine zcallLW (As := [.ref (q 0), .int (zI (sc xs (5 * (j : Int) + 1))), .ref o]) (rest := []) ⟨C.hx, C.hb, C.hml, C.hown, dr_words C.hts _⟩ C.hK (kL_dieok l D C.hl0 cI cZ cJ q o C.hN C.hN2 pa sp al dg co da mb dd ah wl lo n td wn f R.1.1 R.2.1.1 R.2.1.2.1 R.2.1.2.2.1 R.2.1.2.2.2.1 R.2.1.2.2.2.2.1 (sc xs (5 * (j : Int) + 1)) (by omega) (by omega)) (vx_cwSW 3 (dr_words C.hts _) gL_law_L_die rfl rfl rfl (by decide +kernel) ⟨Nat.le_of_ble_eq_true rfl, Nat.le_of_ble_eq_true rfl⟩) hC hO (C.tk hS) C.hE hS C.hA3 rfl hl.1 rfl (Nat.le_of_ble_eq_true rfl) dL_law_452 ⟨C.ok1 hcs.1 (by omega), C.ok2 hcs.2 (by omega)⟩ (fun H locs hC hO hS _ hkk => ?_)
      have hM := zkeep hM hkk C.dM
      refine lv_istore (lv' := [(5, .int (zI 0)), (4, .int (zI (5 * (j : Int)))), (0, .ref b), (1, .ref (q 0)), (2, .ref (r 0)), (3, .ref o)]) C.hx C.hb dL_law_455 hl (by decide) rfl (fun ls hl => ?_)
      refine lv_aload_n C.hx C.hb dL_law_457 rfl (lv_at hl 4 rfl) ?_
      refine lv_aload_n C.hx C.hb dL_law_458 rfl (lv_at hl 2 rfl) ?_
      refine lv_iload C.hx C.hb dL_law_459 (lv_at hl 1 rfl) ?_
      refine zr_iconst C.hx C.hb dL_law_461 ?_
      refine zr_iadd (v := 5 * (j : Int) + 1) C.hx C.hb rfl dL_law_462 ?_
      refine zr_sld (s := s.setDrawn d0) C.hx C.hb C.hX C.hbl C.hbA hS (i := 5 * (j : Int) + 1) (by omega) (by omega) C.hLN dL_law_463 ?_
      refine zcallV (ci := 3) (q0 := 0) (cq := (RX3, TX3, 12)) (As := [.int (zI (sc xs (5 * (j : Int) + 1)))]) (rest := []) ⟨C.hx, C.hb, C.hml, C.hown, dr_words C.hts _⟩ C.hK2 (kX3_dieok l D cI cZ r C.hNr pa sp al co' da' mo st mr th n td wn R.2.1.1 R.2.1.2.1 R.2.1.2.2.1 R.2.2.1.1 R.2.2.1.2.1 R.2.2.1.2.2 hst R.1.1 (re_td1 R) (sc xs (5 * (j : Int) + 1)) (by omega) (by omega) (by omega)) (cwV 1 (dr_words C.hts _) gL_law_X3_die rfl rfl rfl (by decide +kernel) ⟨Nat.le_of_ble_eq_true rfl, Nat.le_of_ble_eq_true rfl⟩) hM hS C.hA2 rfl rfl rfl hl.1 rfl (Nat.le_of_ble_eq_true rfl) dL_law_464 ⟨C.ok1 hcs.1 (by omega), C.ok2 hcs.2 (by omega)⟩ (fun H locs hM hS _ hkk => ?_)
      have hC := zkeep hC hkk C.dC
      have hO := zkeep hO hkk C.dO
      refine W.eq (g2 := F0 m 467 ls [.int (zI (smF (imF al (goF pa sp n st (sc xs (5 * (j : Int) + 1))) da' (sc xs (5 * (j : Int) + 1))) n))]) rfl ?_
      refine lv_istore (lv' := [(6, .int (zI (smF (imF al (goF pa sp n st (sc xs (5 * (j : Int) + 1))) da' (sc xs (5 * (j : Int) + 1))) n))), (5, .int (zI 0)), (4, .int (zI (5 * (j : Int)))), (0, .ref b), (1, .ref (q 0)), (2, .ref (r 0)), (3, .ref o)]) C.hx C.hb dL_law_467 hl (by decide) rfl (fun ls hl => ?_)
      refine lv_aload_n C.hx C.hb dL_law_469 rfl (lv_at hl 5 rfl) ?_
      refine zcallV (ci := 3) (q0 := 0) (cq := (RX3, TX3, 12)) (As := []) (rest := []) ⟨C.hx, C.hb, C.hml, C.hown, dr_words C.hts _⟩ C.hK2 (kX3_thrown l D cI cZ r C.hNr pa sp (up al (sc xs (5 * (j : Int) + 1)) 0) co' da' (enM (moF al (goF pa sp n st (sc xs (5 * (j : Int) + 1))) co' da' td (sc xs (5 * (j : Int) + 1)) mo n) (sc xs (5 * (j : Int) + 1)) 16) (goF pa sp n st (sc xs (5 * (j : Int) + 1))) mr 0 n td wn) (cwV 0 (dr_words C.hts _) gL_law_X3_thrown rfl rfl rfl (by decide +kernel) ⟨Nat.le_of_ble_eq_true rfl, Nat.le_of_ble_eq_true rfl⟩) hM hS C.hA2 rfl rfl rfl hl.1 rfl (Nat.le_of_ble_eq_true rfl) dL_law_470 ⟨C.ok1 hcs.1 (by omega), C.ok2 hcs.2 (by omega)⟩ (fun H locs hM hS _ hkk => ?_)
      have hC := zkeep hC hkk C.dC
      have hO := zkeep hO hkk C.dO
      refine W.eq (g2 := F0 m 473 ls [.int (zI 0)]) rfl ?_
      refine lv_iload C.hx C.hb dL_law_473 (lv_at hl 1 rfl) ?_
      refine zr_icmp_eqT (tgt := 480) C.hx C.hb (rfl) dL_law_475 (by decide) ?_
      refine lv_iload C.hx C.hb dL_law_480 (lv_at hl 1 rfl) ?_
      refine zr_if_ne (tgt := 497) C.hx C.hb dL_law_482 (by decide) ⟨by decide, by decide⟩ (fun h9 => by exfalso; revert h9; decide) (fun _ => ?_)
      refine lv_aload_n C.hx C.hb dL_law_485 rfl (lv_at hl 6 rfl) ?_
      refine zr_iconst C.hx C.hb dL_law_486 ?_
      refine zr_lald0 C.hx C.hb C.hK hO 0 2 rfl rfl dL_law_487 ?_
      refine W.eq (g2 := F0 m 488 ls [.long ((zI (smF (wbF (up al (sc xs (5 * (j : Int) + 1)) 0) (cpZ da da (16 * 12 + (1 - 1) * 3 + 0) ((sc xs (5 * (j : Int) + 1)) * 12 + (1 - 1) * 3 + 0) 12) (dgF pa sp n (sc xs (5 * (j : Int) + 1)))) n)).toInt64)]) rfl ?_
      refine lv_iload C.hx C.hb dL_law_488 (lv_at hl 0 rfl) ?_
      refine lv_i2l C.hx C.hb dL_law_490 rfl ?_
      refine zr_lcmp_eqT (tgt := 497) C.hx C.hb (congrArg (fun z => (zI z).toInt64) (re_wb2 R hst (by omega) (by omega))) dL_law_491 dL_law_492 (by decide) ?_
      refine lv_goto (tgt := 1825) C.hx C.hb dL_law_497 (by decide) ?_
      refine W.widen (k := cells + 2) (n := slots + 12) (by omega) (by omega) ?_
      have hl := lv_sub hl (l' := [(4, .int (zI (5 * (j : Int)))), (0, .ref b), (1, .ref (q 0)), (2, .ref (r 0)), (3, .ref o)]) [2, 3, 4, 5, 6] rfl
      exact K _ hd0 H locs ls ⟨pa, sp, up al (sc xs (5 * (j : Int) + 1)) 0, dgF pa sp n (sc xs (5 * (j : Int) + 1)), cpZ co co (16 * 12 + (1 - 1) * 3 + 0) ((sc xs (5 * (j : Int) + 1)) * 12 + (1 - 1) * 3 + 0) 12, cpZ da da (16 * 12 + (1 - 1) * 3 + 0) ((sc xs (5 * (j : Int) + 1)) * 12 + (1 - 1) * 3 + 0) 12, bgC (up al (sc xs (5 * (j : Int) + 1)) 0) (cpZ da da (16 * 12 + (1 - 1) * 3 + 0) ((sc xs (5 * (j : Int) + 1)) * 12 + (1 - 1) * 3 + 0) 12) (dgF pa sp n (sc xs (5 * (j : Int) + 1))) (enC mb (sc xs (5 * (j : Int) + 1)) 16) (sc xs (5 * (j : Int) + 1)) n, up dd (sc xs (5 * (j : Int) + 1)) td, ah, wl, lo, n, td, wn, co', da', enM (moF al (goF pa sp n st (sc xs (5 * (j : Int) + 1))) co' da' td (sc xs (5 * (j : Int) + 1)) mo n) (sc xs (5 * (j : Int) + 1)) 16, goF pa sp n st (sc xs (5 * (j : Int) + 1)), mr, 0, (vp_updL f 0 (zI (smF (wbF (up al (sc xs (5 * (j : Int) + 1)) 0) (cpZ da da (16 * 12 + (1 - 1) * 3 + 0) ((sc xs (5 * (j : Int) + 1)) * 12 + (1 - 1) * 3 + 0) 12) (dgF pa sp n (sc xs (5 * (j : Int) + 1)))) n)).toInt64), re_die R hst (by omega) (by omega) (by assumption), by omega, goF_bd hst _ _ _ _, hmr, hC, hM, hO⟩ hS hl
  · have b1 := b1
    refine lv_aload_n C.hx C.hb dL_law_444 rfl (lv_at hl 2 rfl) ?_
    refine lv_aload_n C.hx C.hb dL_law_445 rfl (lv_at hl 1 rfl) ?_
    refine lv_iload C.hx C.hb dL_law_446 (lv_at hl 0 rfl) ?_
    refine zr_iconst C.hx C.hb dL_law_448 ?_
    refine zr_iadd (v := 5 * (j : Int) + 1) C.hx C.hb rfl dL_law_449 ?_
    refine zr_sld (s := s.setDrawn d0) C.hx C.hb C.hX C.hbl C.hbA hS (i := 5 * (j : Int) + 1) (by omega) (by omega) C.hLN dL_law_450 ?_
    refine lv_aload_n C.hx C.hb dL_law_451 rfl (lv_at hl 4 rfl) ?_
    refine zcallLW (As := [.ref (q 0), .int (zI (sc xs (5 * (j : Int) + 1))), .ref o]) (rest := []) ⟨C.hx, C.hb, C.hml, C.hown, dr_words C.hts _⟩ C.hK (kL_diex1 l D C.hl0 cI cZ cJ q o C.hN C.hN2 pa sp al dg co da mb dd ah wl lo n td wn f R.1.1 (sc xs (5 * (j : Int) + 1)) (by omega) (by omega)) (vx_cwSW 3 (dr_words C.hts _) gL_law_L_die rfl rfl rfl (by decide +kernel) ⟨Nat.le_of_ble_eq_true rfl, Nat.le_of_ble_eq_true rfl⟩) hC hO (C.tk hS) C.hE hS C.hA3 rfl hl.1 rfl (Nat.le_of_ble_eq_true rfl) dL_law_452 ⟨C.ok1 hcs.1 (by omega), C.ok2 hcs.2 (by omega)⟩ (fun H locs hC hO hS _ hkk => ?_)
    have hM := zkeep hM hkk C.dM
    refine lv_istore (lv' := [(5, .int (zI 1)), (4, .int (zI (5 * (j : Int)))), (0, .ref b), (1, .ref (q 0)), (2, .ref (r 0)), (3, .ref o)]) C.hx C.hb dL_law_455 hl (by decide) rfl (fun ls hl => ?_)
    refine lv_aload_n C.hx C.hb dL_law_457 rfl (lv_at hl 4 rfl) ?_
    refine lv_aload_n C.hx C.hb dL_law_458 rfl (lv_at hl 2 rfl) ?_
    refine lv_iload C.hx C.hb dL_law_459 (lv_at hl 1 rfl) ?_
    refine zr_iconst C.hx C.hb dL_law_461 ?_
    refine zr_iadd (v := 5 * (j : Int) + 1) C.hx C.hb rfl dL_law_462 ?_
    refine zr_sld (s := s.setDrawn d0) C.hx C.hb C.hX C.hbl C.hbA hS (i := 5 * (j : Int) + 1) (by omega) (by omega) C.hLN dL_law_463 ?_
    refine zcallV (ci := 3) (q0 := 0) (cq := (RX3, TX3, 12)) (As := [.int (zI (sc xs (5 * (j : Int) + 1)))]) (rest := []) ⟨C.hx, C.hb, C.hml, C.hown, dr_words C.hts _⟩ C.hK2 (kX3_diee1 l D cI cZ r C.hNr pa sp al co' da' mo st mr th n td wn R.1.1 (sc xs (5 * (j : Int) + 1)) (by omega) (by omega)) (cwV 1 (dr_words C.hts _) gL_law_X3_die rfl rfl rfl (by decide +kernel) ⟨Nat.le_of_ble_eq_true rfl, Nat.le_of_ble_eq_true rfl⟩) hM hS C.hA2 rfl rfl rfl hl.1 rfl (Nat.le_of_ble_eq_true rfl) dL_law_464 ⟨C.ok1 hcs.1 (by omega), C.ok2 hcs.2 (by omega)⟩ (fun H locs hM hS _ hkk => ?_)
    have hC := zkeep hC hkk C.dC
    have hO := zkeep hO hkk C.dO
    refine W.eq (g2 := F0 m 467 ls [.int (zI 0)]) rfl ?_
    refine lv_istore (lv' := [(6, .int (zI 0)), (5, .int (zI 1)), (4, .int (zI (5 * (j : Int)))), (0, .ref b), (1, .ref (q 0)), (2, .ref (r 0)), (3, .ref o)]) C.hx C.hb dL_law_467 hl (by decide) rfl (fun ls hl => ?_)
    refine lv_aload_n C.hx C.hb dL_law_469 rfl (lv_at hl 5 rfl) ?_
    refine zcallV (ci := 3) (q0 := 0) (cq := (RX3, TX3, 12)) (As := []) (rest := []) ⟨C.hx, C.hb, C.hml, C.hown, dr_words C.hts _⟩ C.hK2 (kX3_thrown l D cI cZ r C.hNr pa sp al co' da' mo st mr 1 n td wn) (cwV 0 (dr_words C.hts _) gL_law_X3_thrown rfl rfl rfl (by decide +kernel) ⟨Nat.le_of_ble_eq_true rfl, Nat.le_of_ble_eq_true rfl⟩) hM hS C.hA2 rfl rfl rfl hl.1 rfl (Nat.le_of_ble_eq_true rfl) dL_law_470 ⟨C.ok1 hcs.1 (by omega), C.ok2 hcs.2 (by omega)⟩ (fun H locs hM hS _ hkk => ?_)
    have hC := zkeep hC hkk C.dC
    have hO := zkeep hO hkk C.dO
    refine W.eq (g2 := F0 m 473 ls [.int (zI 1)]) rfl ?_
    refine lv_iload C.hx C.hb dL_law_473 (lv_at hl 1 rfl) ?_
    refine zr_icmp_eqT (tgt := 480) C.hx C.hb (rfl) dL_law_475 (by decide) ?_
    refine lv_iload C.hx C.hb dL_law_480 (lv_at hl 1 rfl) ?_
    refine zr_if_ne (tgt := 497) C.hx C.hb dL_law_482 (by decide) ⟨by decide, by decide⟩ (fun _ => ?_) (fun h9 => by exfalso; revert h9; decide)
    refine lv_goto (tgt := 1825) C.hx C.hb dL_law_497 (by decide) ?_
    refine W.widen (k := cells + 2) (n := slots + 12) (by omega) (by omega) ?_
    have hl := lv_sub hl (l' := [(4, .int (zI (5 * (j : Int)))), (0, .ref b), (1, .ref (q 0)), (2, .ref (r 0)), (3, .ref o)]) [2, 3, 4, 5, 6] rfl
    exact K _ hd0 H locs ls ⟨pa, sp, al, dg, co, da, mb, dd, ah, wl, lo, n, td, wn, co', da', mo, st, mr, 1, f, R, by omega, hst, hmr, hC, hM, hO⟩ hS hl
set_option maxHeartbeats 4000000 in
set_option maxRecDepth 100000 in
theorem law_c5 {p : Program} {l : Launch} {e : Env} {s : State} {m : MethodId} {below : List Frame} {meth : Method} {c : Code} {b L : Nat} {xs : Nat → Int32} {Q : State → Prop} {D : va_G} {cI cZ cJ : ClassId} {q r : Nat → Nat} {o : Nat} (C : zCx p l s m meth c b L xs D cI cZ cJ q r o) {d0 : Drawn} (hd0 : s.drawn.sameBut d0 lw_cs) {H : Heap} {locs : List Loc} {cells slots : Nat} (hcs : cells + 2 ≤ 601024 ∧ slots + 12 ≤ 7293034) {j : Nat} (hj : 5 * (j : Int) + 5 ≤ (L : Int)) (hj2 : j ≤ 512) {ls : Array Slot} (hZ : zLS D cI cZ cJ q r o j H) (hS : va_S (fun a => s.heap.size ≤ a) s.heap H locs) (hl : lv_has ls 9 [(4, .int (zI (5 * (j : Int)))), (0, .ref b), (1, .ref (q 0)), (2, .ref (r 0)), (3, .ref o)])
    (K : ∀ (d1 : Drawn), s.drawn.sameBut d1 lw_cs → ∀ (H1 : Heap) (locs1 : List Loc) (ls1 : Array Slot), zLS D cI cZ cJ q r o (j + 1) H1 → va_S (fun a => s.heap.size ≤ a) s.heap H1 locs1 → lv_has ls1 9 [(4, .int (zI (5 * (j : Int)))), (0, .ref b), (1, .ref (q 0)), (2, .ref (r 0)), (3, .ref o)] → W p l e room_1 (s.setDrawn d1) m #[Value.ref b] below meth c H1 locs1 (cells + 2) (slots + 12) Q (F0 m 1825 ls1 [])) :
    W p l e room_1 (s.setDrawn d0) m #[Value.ref b] below meth c H locs cells slots Q (F0 m 500 ls []) := by
  obtain ⟨pa, sp, al, dg, co, da, mb, dd, ah, wl, lo, n, td, wn, co', da', mo, st, mr, th, f, R, htd, hst, hmr, hC, hM, hO⟩ := hZ
  have hn := R.1.1
  have htd0 := R.1.2
  have hLN := C.hLN
  have hs1 := sc_rg xs (5 * (j : Int) + 1)
  have hs2 := sc_rg xs (5 * (j : Int) + 2)
  have hs3 := sc_rg xs (5 * (j : Int) + 3)
  have hs4 := sc_rg xs (5 * (j : Int) + 4)
  by_cases b1 : 0 ≤ sc xs (5 * (j : Int) + 1) ∧ sc xs (5 * (j : Int) + 1) < (n : Int)
  · have b1 := b1
    by_cases b2 : 0 ≤ sc xs (5 * (j : Int) + 2) ∧ sc xs (5 * (j : Int) + 2) < (n : Int)
    · have b2 := b2
      have hlf : lf da mb dd td (sc xs (5 * (j : Int) + 1)) (sc xs (5 * (j : Int) + 2)) = lM mo td (sc xs (5 * (j : Int) + 1)) (sc xs (5 * (j : Int) + 2)) := re_lf R (by omega) (by omega) (by omega) (by omega)
      by_cases b3 : lf da mb dd td (sc xs (5 * (j : Int) + 1)) (sc xs (5 * (j : Int) + 2)) = 0
      · have b3 := b3
        refine lv_aload_n C.hx C.hb dL_law_500 rfl (lv_at hl 2 rfl) ?_
        refine lv_aload_n C.hx C.hb dL_law_501 rfl (lv_at hl 1 rfl) ?_
        refine lv_iload C.hx C.hb dL_law_502 (lv_at hl 0 rfl) ?_
        refine zr_iconst C.hx C.hb dL_law_504 ?_
        refine zr_iadd (v := 5 * (j : Int) + 1) C.hx C.hb rfl dL_law_505 ?_
        refine zr_sld (s := s.setDrawn d0) C.hx C.hb C.hX C.hbl C.hbA hS (i := 5 * (j : Int) + 1) (by omega) (by omega) C.hLN dL_law_506 ?_
        refine lv_aload_n C.hx C.hb dL_law_507 rfl (lv_at hl 1 rfl) ?_
        refine lv_iload C.hx C.hb dL_law_508 (lv_at hl 0 rfl) ?_
        refine zr_iconst C.hx C.hb dL_law_510 ?_
        refine zr_iadd (v := 5 * (j : Int) + 2) C.hx C.hb rfl dL_law_511 ?_
        refine zr_sld (s := s.setDrawn d0) C.hx C.hb C.hX C.hbl C.hbA hS (i := 5 * (j : Int) + 2) (by omega) (by omega) C.hLN dL_law_512 ?_
        refine lv_aload_n C.hx C.hb dL_law_513 rfl (lv_at hl 4 rfl) ?_
        refine zcallLW (As := [.ref (q 0), .int (zI (sc xs (5 * (j : Int) + 1))), .int (zI (sc xs (5 * (j : Int) + 2))), .ref o]) (rest := []) ⟨C.hx, C.hb, C.hml, C.hown, dr_words C.hts _⟩ C.hK (kL_releasex3 l D C.hl0 cI cZ cJ q o C.hN C.hN2 pa sp al dg co da mb dd ah wl lo n td wn f R.1.1 R.2.1.2.2.2.2.1 R.2.1.2.2.2.2.2.1 (re_dd1 R) (re_td1 R) (sc xs (5 * (j : Int) + 1)) (sc xs (5 * (j : Int) + 2)) (by omega) (by omega) (by omega)) (vx_cwSW 4 (dr_words C.hts _) gL_law_L_release rfl rfl rfl (by decide +kernel) ⟨Nat.le_of_ble_eq_true rfl, Nat.le_of_ble_eq_true rfl⟩) hC hO (C.tk hS) C.hE hS C.hA3 rfl hl.1 rfl (Nat.le_of_ble_eq_true rfl) dL_law_514 ⟨C.ok1 hcs.1 (by omega), C.ok2 hcs.2 (by omega)⟩ (fun H locs hC hO hS _ hkk => ?_)
        have hM := zkeep hM hkk C.dM
        refine lv_istore (lv' := [(5, .int (zI 2)), (4, .int (zI (5 * (j : Int)))), (0, .ref b), (1, .ref (q 0)), (2, .ref (r 0)), (3, .ref o)]) C.hx C.hb dL_law_517 hl (by decide) rfl (fun ls hl => ?_)
        refine lv_aload_n C.hx C.hb dL_law_519 rfl (lv_at hl 4 rfl) ?_
        refine lv_aload_n C.hx C.hb dL_law_520 rfl (lv_at hl 2 rfl) ?_
        refine lv_iload C.hx C.hb dL_law_521 (lv_at hl 1 rfl) ?_
        refine zr_iconst C.hx C.hb dL_law_523 ?_
        refine zr_iadd (v := 5 * (j : Int) + 1) C.hx C.hb rfl dL_law_524 ?_
        refine zr_sld (s := s.setDrawn d0) C.hx C.hb C.hX C.hbl C.hbA hS (i := 5 * (j : Int) + 1) (by omega) (by omega) C.hLN dL_law_525 ?_
        refine lv_aload_n C.hx C.hb dL_law_526 rfl (lv_at hl 2 rfl) ?_
        refine lv_iload C.hx C.hb dL_law_527 (lv_at hl 1 rfl) ?_
        refine zr_iconst C.hx C.hb dL_law_529 ?_
        refine zr_iadd (v := 5 * (j : Int) + 2) C.hx C.hb rfl dL_law_530 ?_
        refine zr_sld (s := s.setDrawn d0) C.hx C.hb C.hX C.hbl C.hbA hS (i := 5 * (j : Int) + 2) (by omega) (by omega) C.hLN dL_law_531 ?_
        refine zcallV (ci := 3) (q0 := 0) (cq := (RX3, TX3, 12)) (As := [.int (zI (sc xs (5 * (j : Int) + 1))), .int (zI (sc xs (5 * (j : Int) + 2)))]) (rest := []) ⟨C.hx, C.hb, C.hml, C.hown, dr_words C.hts _⟩ C.hK2 (kX3_releasee2 l D cI cZ r C.hNr pa sp al co' da' mo st mr th n td wn R.1.1 R.2.2.1.2.2 (re_td1 R) (sc xs (5 * (j : Int) + 1)) (sc xs (5 * (j : Int) + 2)) (by omega) (by omega) (by omega) (by omega) (by omega)) (cwV 2 (dr_words C.hts _) gL_law_X3_release rfl rfl rfl (by decide +kernel) ⟨Nat.le_of_ble_eq_true rfl, Nat.le_of_ble_eq_true rfl⟩) hM hS C.hA2 rfl rfl rfl hl.1 rfl (Nat.le_of_ble_eq_true rfl) dL_law_532 ⟨C.ok1 hcs.1 (by omega), C.ok2 hcs.2 (by omega)⟩ (fun H locs hM hS _ hkk => ?_)
        have hC := zkeep hC hkk C.dC
        have hO := zkeep hO hkk C.dO
        refine W.eq (g2 := F0 m 535 ls [.int (zI 0)]) rfl ?_
        refine lv_istore (lv' := [(6, .int (zI 0)), (5, .int (zI 2)), (4, .int (zI (5 * (j : Int)))), (0, .ref b), (1, .ref (q 0)), (2, .ref (r 0)), (3, .ref o)]) C.hx C.hb dL_law_535 hl (by decide) rfl (fun ls hl => ?_)
        refine lv_aload_n C.hx C.hb dL_law_537 rfl (lv_at hl 5 rfl) ?_
        refine zcallV (ci := 3) (q0 := 0) (cq := (RX3, TX3, 12)) (As := []) (rest := []) ⟨C.hx, C.hb, C.hml, C.hown, dr_words C.hts _⟩ C.hK2 (kX3_thrown l D cI cZ r C.hNr pa sp al co' da' mo st mr 2 n td wn) (cwV 0 (dr_words C.hts _) gL_law_X3_thrown rfl rfl rfl (by decide +kernel) ⟨Nat.le_of_ble_eq_true rfl, Nat.le_of_ble_eq_true rfl⟩) hM hS C.hA2 rfl rfl rfl hl.1 rfl (Nat.le_of_ble_eq_true rfl) dL_law_538 ⟨C.ok1 hcs.1 (by omega), C.ok2 hcs.2 (by omega)⟩ (fun H locs hM hS _ hkk => ?_)
        have hC := zkeep hC hkk C.dC
        have hO := zkeep hO hkk C.dO
        refine W.eq (g2 := F0 m 541 ls [.int (zI 2)]) rfl ?_
        refine lv_iload C.hx C.hb dL_law_541 (lv_at hl 1 rfl) ?_
        refine zr_icmp_eqT (tgt := 548) C.hx C.hb (rfl) dL_law_543 (by decide) ?_
        refine lv_iload C.hx C.hb dL_law_548 (lv_at hl 1 rfl) ?_
        refine zr_if_ne (tgt := 565) C.hx C.hb dL_law_550 (by decide) ⟨by decide, by decide⟩ (fun _ => ?_) (fun h9 => by exfalso; revert h9; decide)
        refine lv_goto (tgt := 1825) C.hx C.hb dL_law_565 (by decide) ?_
        refine W.widen (k := cells + 2) (n := slots + 12) (by omega) (by omega) ?_
        have hl := lv_sub hl (l' := [(4, .int (zI (5 * (j : Int)))), (0, .ref b), (1, .ref (q 0)), (2, .ref (r 0)), (3, .ref o)]) [2, 3, 4, 5, 6] rfl
        exact K _ hd0 H locs ls ⟨pa, sp, al, dg, co, da, mb, dd, ah, wl, lo, n, td, wn, co', da', mo, st, mr, 2, f, R, by omega, hst, hmr, hC, hM, hO⟩ hS hl
      · have b3 := b3
        refine lv_aload_n C.hx C.hb dL_law_500 rfl (lv_at hl 2 rfl) ?_
        refine lv_aload_n C.hx C.hb dL_law_501 rfl (lv_at hl 1 rfl) ?_
        refine lv_iload C.hx C.hb dL_law_502 (lv_at hl 0 rfl) ?_
        refine zr_iconst C.hx C.hb dL_law_504 ?_
        refine zr_iadd (v := 5 * (j : Int) + 1) C.hx C.hb rfl dL_law_505 ?_
        refine zr_sld (s := s.setDrawn d0) C.hx C.hb C.hX C.hbl C.hbA hS (i := 5 * (j : Int) + 1) (by omega) (by omega) C.hLN dL_law_506 ?_
        refine lv_aload_n C.hx C.hb dL_law_507 rfl (lv_at hl 1 rfl) ?_
        refine lv_iload C.hx C.hb dL_law_508 (lv_at hl 0 rfl) ?_
        refine zr_iconst C.hx C.hb dL_law_510 ?_
        refine zr_iadd (v := 5 * (j : Int) + 2) C.hx C.hb rfl dL_law_511 ?_
        refine zr_sld (s := s.setDrawn d0) C.hx C.hb C.hX C.hbl C.hbA hS (i := 5 * (j : Int) + 2) (by omega) (by omega) C.hLN dL_law_512 ?_
        refine lv_aload_n C.hx C.hb dL_law_513 rfl (lv_at hl 4 rfl) ?_
        refine zcallLW (As := [.ref (q 0), .int (zI (sc xs (5 * (j : Int) + 1))), .int (zI (sc xs (5 * (j : Int) + 2))), .ref o]) (rest := []) ⟨C.hx, C.hb, C.hml, C.hown, dr_words C.hts _⟩ C.hK (kL_releaseok l D C.hl0 cI cZ cJ q o C.hN C.hN2 pa sp al dg co da mb dd ah wl lo n td wn f R.1.1 R.2.1.2.2.2.2.1 R.2.1.2.2.2.2.2.1 (re_dd1 R) (re_td1 R) (sc xs (5 * (j : Int) + 1)) (sc xs (5 * (j : Int) + 2)) (by omega) (by omega) (by omega)) (vx_cwSW 4 (dr_words C.hts _) gL_law_L_release rfl rfl rfl (by decide +kernel) ⟨Nat.le_of_ble_eq_true rfl, Nat.le_of_ble_eq_true rfl⟩) hC hO (C.tk hS) C.hE hS C.hA3 rfl hl.1 rfl (Nat.le_of_ble_eq_true rfl) dL_law_514 ⟨C.ok1 hcs.1 (by omega), C.ok2 hcs.2 (by omega)⟩ (fun H locs hC hO hS _ hkk => ?_)
        have hM := zkeep hM hkk C.dM
        refine lv_istore (lv' := [(5, .int (zI 0)), (4, .int (zI (5 * (j : Int)))), (0, .ref b), (1, .ref (q 0)), (2, .ref (r 0)), (3, .ref o)]) C.hx C.hb dL_law_517 hl (by decide) rfl (fun ls hl => ?_)
        refine lv_aload_n C.hx C.hb dL_law_519 rfl (lv_at hl 4 rfl) ?_
        refine lv_aload_n C.hx C.hb dL_law_520 rfl (lv_at hl 2 rfl) ?_
        refine lv_iload C.hx C.hb dL_law_521 (lv_at hl 1 rfl) ?_
        refine zr_iconst C.hx C.hb dL_law_523 ?_
        refine zr_iadd (v := 5 * (j : Int) + 1) C.hx C.hb rfl dL_law_524 ?_
        refine zr_sld (s := s.setDrawn d0) C.hx C.hb C.hX C.hbl C.hbA hS (i := 5 * (j : Int) + 1) (by omega) (by omega) C.hLN dL_law_525 ?_
        refine lv_aload_n C.hx C.hb dL_law_526 rfl (lv_at hl 2 rfl) ?_
        refine lv_iload C.hx C.hb dL_law_527 (lv_at hl 1 rfl) ?_
        refine zr_iconst C.hx C.hb dL_law_529 ?_
        refine zr_iadd (v := 5 * (j : Int) + 2) C.hx C.hb rfl dL_law_530 ?_
        refine zr_sld (s := s.setDrawn d0) C.hx C.hb C.hX C.hbl C.hbA hS (i := 5 * (j : Int) + 2) (by omega) (by omega) C.hLN dL_law_531 ?_
        refine zcallV (ci := 3) (q0 := 0) (cq := (RX3, TX3, 12)) (As := [.int (zI (sc xs (5 * (j : Int) + 1))), .int (zI (sc xs (5 * (j : Int) + 2)))]) (rest := []) ⟨C.hx, C.hb, C.hml, C.hown, dr_words C.hts _⟩ C.hK2 (kX3_releaseok l D cI cZ r C.hNr pa sp al co' da' mo st mr th n td wn R.1.1 R.2.2.1.2.2 (re_td1 R) (sc xs (5 * (j : Int) + 1)) (sc xs (5 * (j : Int) + 2)) (by omega) (by omega) (by omega) (by omega) (by omega)) (cwV 2 (dr_words C.hts _) gL_law_X3_release rfl rfl rfl (by decide +kernel) ⟨Nat.le_of_ble_eq_true rfl, Nat.le_of_ble_eq_true rfl⟩) hM hS C.hA2 rfl rfl rfl hl.1 rfl (Nat.le_of_ble_eq_true rfl) dL_law_532 ⟨C.ok1 hcs.1 (by omega), C.ok2 hcs.2 (by omega)⟩ (fun H locs hM hS _ hkk => ?_)
        have hC := zkeep hC hkk C.dC
        have hO := zkeep hO hkk C.dO
        refine W.eq (g2 := F0 m 535 ls [.int (zI (lM mo td (sc xs (5 * (j : Int) + 1)) (sc xs (5 * (j : Int) + 2))))]) rfl ?_
        refine lv_istore (lv' := [(6, .int (zI (lM mo td (sc xs (5 * (j : Int) + 1)) (sc xs (5 * (j : Int) + 2))))), (5, .int (zI 0)), (4, .int (zI (5 * (j : Int)))), (0, .ref b), (1, .ref (q 0)), (2, .ref (r 0)), (3, .ref o)]) C.hx C.hb dL_law_535 hl (by decide) rfl (fun ls hl => ?_)
        refine lv_aload_n C.hx C.hb dL_law_537 rfl (lv_at hl 5 rfl) ?_
        refine zcallV (ci := 3) (q0 := 0) (cq := (RX3, TX3, 12)) (As := []) (rest := []) ⟨C.hx, C.hb, C.hml, C.hown, dr_words C.hts _⟩ C.hK2 (kX3_thrown l D cI cZ r C.hNr pa sp al co' da' (up mo (7 * (16 * (sc xs (5 * (j : Int) + 1)) + (sc xs (5 * (j : Int) + 2)))) (-1)) st mr 0 n td wn) (cwV 0 (dr_words C.hts _) gL_law_X3_thrown rfl rfl rfl (by decide +kernel) ⟨Nat.le_of_ble_eq_true rfl, Nat.le_of_ble_eq_true rfl⟩) hM hS C.hA2 rfl rfl rfl hl.1 rfl (Nat.le_of_ble_eq_true rfl) dL_law_538 ⟨C.ok1 hcs.1 (by omega), C.ok2 hcs.2 (by omega)⟩ (fun H locs hM hS _ hkk => ?_)
        have hC := zkeep hC hkk C.dC
        have hO := zkeep hO hkk C.dO
        refine W.eq (g2 := F0 m 541 ls [.int (zI 0)]) rfl ?_
        refine lv_iload C.hx C.hb dL_law_541 (lv_at hl 1 rfl) ?_
        refine zr_icmp_eqT (tgt := 548) C.hx C.hb (rfl) dL_law_543 (by decide) ?_
        refine lv_iload C.hx C.hb dL_law_548 (lv_at hl 1 rfl) ?_
        refine zr_if_ne (tgt := 565) C.hx C.hb dL_law_550 (by decide) ⟨by decide, by decide⟩ (fun h9 => by exfalso; revert h9; decide) (fun _ => ?_)
        refine lv_aload_n C.hx C.hb dL_law_553 rfl (lv_at hl 6 rfl) ?_
        refine zr_iconst C.hx C.hb dL_law_554 ?_
        refine zr_lald0 C.hx C.hb C.hK hO 0 2 rfl rfl dL_law_555 ?_
        refine W.eq (g2 := F0 m 556 ls [.long ((zI (lf da mb dd td (sc xs (5 * (j : Int) + 1)) (sc xs (5 * (j : Int) + 2)))).toInt64)]) rfl ?_
        refine lv_iload C.hx C.hb dL_law_556 (lv_at hl 0 rfl) ?_
        refine lv_i2l C.hx C.hb dL_law_558 rfl ?_
        refine zr_lcmp_eqT (tgt := 565) C.hx C.hb (congrArg (fun z => (zI z).toInt64) (hlf)) dL_law_559 dL_law_560 (by decide) ?_
        refine lv_goto (tgt := 1825) C.hx C.hb dL_law_565 (by decide) ?_
        refine W.widen (k := cells + 2) (n := slots + 12) (by omega) (by omega) ?_
        have hl := lv_sub hl (l' := [(4, .int (zI (5 * (j : Int)))), (0, .ref b), (1, .ref (q 0)), (2, .ref (r 0)), (3, .ref o)]) [2, 3, 4, 5, 6] rfl
        exact K _ hd0 H locs ls ⟨pa, sp, al, dg, co, da, up mb ((sc xs (5 * (j : Int) + 1)) * 16 + (sc xs (5 * (j : Int) + 2))) 0, dd, ah, wl, lo, n, td, wn, co', da', up mo (7 * (16 * (sc xs (5 * (j : Int) + 1)) + (sc xs (5 * (j : Int) + 2)))) (-1), st, mr, 0, (vp_updL f 0 (zI (lf da mb dd td (sc xs (5 * (j : Int) + 1)) (sc xs (5 * (j : Int) + 2)))).toInt64), re_release R (by omega) (by omega) (by omega) (by omega), by omega, hst, hmr, hC, hM, hO⟩ hS hl
    · have b2 := b2
      refine lv_aload_n C.hx C.hb dL_law_500 rfl (lv_at hl 2 rfl) ?_
      refine lv_aload_n C.hx C.hb dL_law_501 rfl (lv_at hl 1 rfl) ?_
      refine lv_iload C.hx C.hb dL_law_502 (lv_at hl 0 rfl) ?_
      refine zr_iconst C.hx C.hb dL_law_504 ?_
      refine zr_iadd (v := 5 * (j : Int) + 1) C.hx C.hb rfl dL_law_505 ?_
      refine zr_sld (s := s.setDrawn d0) C.hx C.hb C.hX C.hbl C.hbA hS (i := 5 * (j : Int) + 1) (by omega) (by omega) C.hLN dL_law_506 ?_
      refine lv_aload_n C.hx C.hb dL_law_507 rfl (lv_at hl 1 rfl) ?_
      refine lv_iload C.hx C.hb dL_law_508 (lv_at hl 0 rfl) ?_
      refine zr_iconst C.hx C.hb dL_law_510 ?_
      refine zr_iadd (v := 5 * (j : Int) + 2) C.hx C.hb rfl dL_law_511 ?_
      refine zr_sld (s := s.setDrawn d0) C.hx C.hb C.hX C.hbl C.hbA hS (i := 5 * (j : Int) + 2) (by omega) (by omega) C.hLN dL_law_512 ?_
      refine lv_aload_n C.hx C.hb dL_law_513 rfl (lv_at hl 4 rfl) ?_
      refine zcallLW (As := [.ref (q 0), .int (zI (sc xs (5 * (j : Int) + 1))), .int (zI (sc xs (5 * (j : Int) + 2))), .ref o]) (rest := []) ⟨C.hx, C.hb, C.hml, C.hown, dr_words C.hts _⟩ C.hK (kL_releasex2 l D C.hl0 cI cZ cJ q o C.hN C.hN2 pa sp al dg co da mb dd ah wl lo n td wn f R.1.1 (sc xs (5 * (j : Int) + 1)) (sc xs (5 * (j : Int) + 2)) (by omega) (by omega) (by omega)) (vx_cwSW 4 (dr_words C.hts _) gL_law_L_release rfl rfl rfl (by decide +kernel) ⟨Nat.le_of_ble_eq_true rfl, Nat.le_of_ble_eq_true rfl⟩) hC hO (C.tk hS) C.hE hS C.hA3 rfl hl.1 rfl (Nat.le_of_ble_eq_true rfl) dL_law_514 ⟨C.ok1 hcs.1 (by omega), C.ok2 hcs.2 (by omega)⟩ (fun H locs hC hO hS _ hkk => ?_)
      have hM := zkeep hM hkk C.dM
      refine lv_istore (lv' := [(5, .int (zI 1)), (4, .int (zI (5 * (j : Int)))), (0, .ref b), (1, .ref (q 0)), (2, .ref (r 0)), (3, .ref o)]) C.hx C.hb dL_law_517 hl (by decide) rfl (fun ls hl => ?_)
      refine lv_aload_n C.hx C.hb dL_law_519 rfl (lv_at hl 4 rfl) ?_
      refine lv_aload_n C.hx C.hb dL_law_520 rfl (lv_at hl 2 rfl) ?_
      refine lv_iload C.hx C.hb dL_law_521 (lv_at hl 1 rfl) ?_
      refine zr_iconst C.hx C.hb dL_law_523 ?_
      refine zr_iadd (v := 5 * (j : Int) + 1) C.hx C.hb rfl dL_law_524 ?_
      refine zr_sld (s := s.setDrawn d0) C.hx C.hb C.hX C.hbl C.hbA hS (i := 5 * (j : Int) + 1) (by omega) (by omega) C.hLN dL_law_525 ?_
      refine lv_aload_n C.hx C.hb dL_law_526 rfl (lv_at hl 2 rfl) ?_
      refine lv_iload C.hx C.hb dL_law_527 (lv_at hl 1 rfl) ?_
      refine zr_iconst C.hx C.hb dL_law_529 ?_
      refine zr_iadd (v := 5 * (j : Int) + 2) C.hx C.hb rfl dL_law_530 ?_
      refine zr_sld (s := s.setDrawn d0) C.hx C.hb C.hX C.hbl C.hbA hS (i := 5 * (j : Int) + 2) (by omega) (by omega) C.hLN dL_law_531 ?_
      refine zcallV (ci := 3) (q0 := 0) (cq := (RX3, TX3, 12)) (As := [.int (zI (sc xs (5 * (j : Int) + 1))), .int (zI (sc xs (5 * (j : Int) + 2)))]) (rest := []) ⟨C.hx, C.hb, C.hml, C.hown, dr_words C.hts _⟩ C.hK2 (kX3_releasee1 l D cI cZ r C.hNr pa sp al co' da' mo st mr th n td wn R.1.1 (sc xs (5 * (j : Int) + 1)) (sc xs (5 * (j : Int) + 2)) (by omega) (by omega) (by omega)) (cwV 2 (dr_words C.hts _) gL_law_X3_release rfl rfl rfl (by decide +kernel) ⟨Nat.le_of_ble_eq_true rfl, Nat.le_of_ble_eq_true rfl⟩) hM hS C.hA2 rfl rfl rfl hl.1 rfl (Nat.le_of_ble_eq_true rfl) dL_law_532 ⟨C.ok1 hcs.1 (by omega), C.ok2 hcs.2 (by omega)⟩ (fun H locs hM hS _ hkk => ?_)
      have hC := zkeep hC hkk C.dC
      have hO := zkeep hO hkk C.dO
      refine W.eq (g2 := F0 m 535 ls [.int (zI 0)]) rfl ?_
      refine lv_istore (lv' := [(6, .int (zI 0)), (5, .int (zI 1)), (4, .int (zI (5 * (j : Int)))), (0, .ref b), (1, .ref (q 0)), (2, .ref (r 0)), (3, .ref o)]) C.hx C.hb dL_law_535 hl (by decide) rfl (fun ls hl => ?_)
      refine lv_aload_n C.hx C.hb dL_law_537 rfl (lv_at hl 5 rfl) ?_
      refine zcallV (ci := 3) (q0 := 0) (cq := (RX3, TX3, 12)) (As := []) (rest := []) ⟨C.hx, C.hb, C.hml, C.hown, dr_words C.hts _⟩ C.hK2 (kX3_thrown l D cI cZ r C.hNr pa sp al co' da' mo st mr 1 n td wn) (cwV 0 (dr_words C.hts _) gL_law_X3_thrown rfl rfl rfl (by decide +kernel) ⟨Nat.le_of_ble_eq_true rfl, Nat.le_of_ble_eq_true rfl⟩) hM hS C.hA2 rfl rfl rfl hl.1 rfl (Nat.le_of_ble_eq_true rfl) dL_law_538 ⟨C.ok1 hcs.1 (by omega), C.ok2 hcs.2 (by omega)⟩ (fun H locs hM hS _ hkk => ?_)
      have hC := zkeep hC hkk C.dC
      have hO := zkeep hO hkk C.dO
      refine W.eq (g2 := F0 m 541 ls [.int (zI 1)]) rfl ?_
      refine lv_iload C.hx C.hb dL_law_541 (lv_at hl 1 rfl) ?_
      refine zr_icmp_eqT (tgt := 548) C.hx C.hb (rfl) dL_law_543 (by decide) ?_
      refine lv_iload C.hx C.hb dL_law_548 (lv_at hl 1 rfl) ?_
      refine zr_if_ne (tgt := 565) C.hx C.hb dL_law_550 (by decide) ⟨by decide, by decide⟩ (fun _ => ?_) (fun h9 => by exfalso; revert h9; decide)
      refine lv_goto (tgt := 1825) C.hx C.hb dL_law_565 (by decide) ?_
      refine W.widen (k := cells + 2) (n := slots + 12) (by omega) (by omega) ?_
      have hl := lv_sub hl (l' := [(4, .int (zI (5 * (j : Int)))), (0, .ref b), (1, .ref (q 0)), (2, .ref (r 0)), (3, .ref o)]) [2, 3, 4, 5, 6] rfl
      exact K _ hd0 H locs ls ⟨pa, sp, al, dg, co, da, mb, dd, ah, wl, lo, n, td, wn, co', da', mo, st, mr, 1, f, R, by omega, hst, hmr, hC, hM, hO⟩ hS hl
  · have b1 := b1
    refine lv_aload_n C.hx C.hb dL_law_500 rfl (lv_at hl 2 rfl) ?_
    refine lv_aload_n C.hx C.hb dL_law_501 rfl (lv_at hl 1 rfl) ?_
    refine lv_iload C.hx C.hb dL_law_502 (lv_at hl 0 rfl) ?_
    refine zr_iconst C.hx C.hb dL_law_504 ?_
    refine zr_iadd (v := 5 * (j : Int) + 1) C.hx C.hb rfl dL_law_505 ?_
    refine zr_sld (s := s.setDrawn d0) C.hx C.hb C.hX C.hbl C.hbA hS (i := 5 * (j : Int) + 1) (by omega) (by omega) C.hLN dL_law_506 ?_
    refine lv_aload_n C.hx C.hb dL_law_507 rfl (lv_at hl 1 rfl) ?_
    refine lv_iload C.hx C.hb dL_law_508 (lv_at hl 0 rfl) ?_
    refine zr_iconst C.hx C.hb dL_law_510 ?_
    refine zr_iadd (v := 5 * (j : Int) + 2) C.hx C.hb rfl dL_law_511 ?_
    refine zr_sld (s := s.setDrawn d0) C.hx C.hb C.hX C.hbl C.hbA hS (i := 5 * (j : Int) + 2) (by omega) (by omega) C.hLN dL_law_512 ?_
    refine lv_aload_n C.hx C.hb dL_law_513 rfl (lv_at hl 4 rfl) ?_
    refine zcallLW (As := [.ref (q 0), .int (zI (sc xs (5 * (j : Int) + 1))), .int (zI (sc xs (5 * (j : Int) + 2))), .ref o]) (rest := []) ⟨C.hx, C.hb, C.hml, C.hown, dr_words C.hts _⟩ C.hK (kL_releasex1 l D C.hl0 cI cZ cJ q o C.hN C.hN2 pa sp al dg co da mb dd ah wl lo n td wn f R.1.1 (sc xs (5 * (j : Int) + 1)) (sc xs (5 * (j : Int) + 2)) (by omega) (by omega)) (vx_cwSW 4 (dr_words C.hts _) gL_law_L_release rfl rfl rfl (by decide +kernel) ⟨Nat.le_of_ble_eq_true rfl, Nat.le_of_ble_eq_true rfl⟩) hC hO (C.tk hS) C.hE hS C.hA3 rfl hl.1 rfl (Nat.le_of_ble_eq_true rfl) dL_law_514 ⟨C.ok1 hcs.1 (by omega), C.ok2 hcs.2 (by omega)⟩ (fun H locs hC hO hS _ hkk => ?_)
    have hM := zkeep hM hkk C.dM
    refine lv_istore (lv' := [(5, .int (zI 1)), (4, .int (zI (5 * (j : Int)))), (0, .ref b), (1, .ref (q 0)), (2, .ref (r 0)), (3, .ref o)]) C.hx C.hb dL_law_517 hl (by decide) rfl (fun ls hl => ?_)
    refine lv_aload_n C.hx C.hb dL_law_519 rfl (lv_at hl 4 rfl) ?_
    refine lv_aload_n C.hx C.hb dL_law_520 rfl (lv_at hl 2 rfl) ?_
    refine lv_iload C.hx C.hb dL_law_521 (lv_at hl 1 rfl) ?_
    refine zr_iconst C.hx C.hb dL_law_523 ?_
    refine zr_iadd (v := 5 * (j : Int) + 1) C.hx C.hb rfl dL_law_524 ?_
    refine zr_sld (s := s.setDrawn d0) C.hx C.hb C.hX C.hbl C.hbA hS (i := 5 * (j : Int) + 1) (by omega) (by omega) C.hLN dL_law_525 ?_
    refine lv_aload_n C.hx C.hb dL_law_526 rfl (lv_at hl 2 rfl) ?_
    refine lv_iload C.hx C.hb dL_law_527 (lv_at hl 1 rfl) ?_
    refine zr_iconst C.hx C.hb dL_law_529 ?_
    refine zr_iadd (v := 5 * (j : Int) + 2) C.hx C.hb rfl dL_law_530 ?_
    refine zr_sld (s := s.setDrawn d0) C.hx C.hb C.hX C.hbl C.hbA hS (i := 5 * (j : Int) + 2) (by omega) (by omega) C.hLN dL_law_531 ?_
    refine zcallV (ci := 3) (q0 := 0) (cq := (RX3, TX3, 12)) (As := [.int (zI (sc xs (5 * (j : Int) + 1))), .int (zI (sc xs (5 * (j : Int) + 2)))]) (rest := []) ⟨C.hx, C.hb, C.hml, C.hown, dr_words C.hts _⟩ C.hK2 (kX3_releasee1 l D cI cZ r C.hNr pa sp al co' da' mo st mr th n td wn R.1.1 (sc xs (5 * (j : Int) + 1)) (sc xs (5 * (j : Int) + 2)) (by omega) (by omega) (by omega)) (cwV 2 (dr_words C.hts _) gL_law_X3_release rfl rfl rfl (by decide +kernel) ⟨Nat.le_of_ble_eq_true rfl, Nat.le_of_ble_eq_true rfl⟩) hM hS C.hA2 rfl rfl rfl hl.1 rfl (Nat.le_of_ble_eq_true rfl) dL_law_532 ⟨C.ok1 hcs.1 (by omega), C.ok2 hcs.2 (by omega)⟩ (fun H locs hM hS _ hkk => ?_)
    have hC := zkeep hC hkk C.dC
    have hO := zkeep hO hkk C.dO
    refine W.eq (g2 := F0 m 535 ls [.int (zI 0)]) rfl ?_
    refine lv_istore (lv' := [(6, .int (zI 0)), (5, .int (zI 1)), (4, .int (zI (5 * (j : Int)))), (0, .ref b), (1, .ref (q 0)), (2, .ref (r 0)), (3, .ref o)]) C.hx C.hb dL_law_535 hl (by decide) rfl (fun ls hl => ?_)
    refine lv_aload_n C.hx C.hb dL_law_537 rfl (lv_at hl 5 rfl) ?_
    refine zcallV (ci := 3) (q0 := 0) (cq := (RX3, TX3, 12)) (As := []) (rest := []) ⟨C.hx, C.hb, C.hml, C.hown, dr_words C.hts _⟩ C.hK2 (kX3_thrown l D cI cZ r C.hNr pa sp al co' da' mo st mr 1 n td wn) (cwV 0 (dr_words C.hts _) gL_law_X3_thrown rfl rfl rfl (by decide +kernel) ⟨Nat.le_of_ble_eq_true rfl, Nat.le_of_ble_eq_true rfl⟩) hM hS C.hA2 rfl rfl rfl hl.1 rfl (Nat.le_of_ble_eq_true rfl) dL_law_538 ⟨C.ok1 hcs.1 (by omega), C.ok2 hcs.2 (by omega)⟩ (fun H locs hM hS _ hkk => ?_)
    have hC := zkeep hC hkk C.dC
    have hO := zkeep hO hkk C.dO
    refine W.eq (g2 := F0 m 541 ls [.int (zI 1)]) rfl ?_
    refine lv_iload C.hx C.hb dL_law_541 (lv_at hl 1 rfl) ?_
    refine zr_icmp_eqT (tgt := 548) C.hx C.hb (rfl) dL_law_543 (by decide) ?_
    refine lv_iload C.hx C.hb dL_law_548 (lv_at hl 1 rfl) ?_
    refine zr_if_ne (tgt := 565) C.hx C.hb dL_law_550 (by decide) ⟨by decide, by decide⟩ (fun _ => ?_) (fun h9 => by exfalso; revert h9; decide)
    refine lv_goto (tgt := 1825) C.hx C.hb dL_law_565 (by decide) ?_
    refine W.widen (k := cells + 2) (n := slots + 12) (by omega) (by omega) ?_
    have hl := lv_sub hl (l' := [(4, .int (zI (5 * (j : Int)))), (0, .ref b), (1, .ref (q 0)), (2, .ref (r 0)), (3, .ref o)]) [2, 3, 4, 5, 6] rfl
    exact K _ hd0 H locs ls ⟨pa, sp, al, dg, co, da, mb, dd, ah, wl, lo, n, td, wn, co', da', mo, st, mr, 1, f, R, by omega, hst, hmr, hC, hM, hO⟩ hS hl
set_option maxHeartbeats 4000000 in
set_option maxRecDepth 100000 in
theorem law_c6 {p : Program} {l : Launch} {e : Env} {s : State} {m : MethodId} {below : List Frame} {meth : Method} {c : Code} {b L : Nat} {xs : Nat → Int32} {Q : State → Prop} {D : va_G} {cI cZ cJ : ClassId} {q r : Nat → Nat} {o : Nat} (C : zCx p l s m meth c b L xs D cI cZ cJ q r o) {d0 : Drawn} (hd0 : s.drawn.sameBut d0 lw_cs) {H : Heap} {locs : List Loc} {cells slots : Nat} (hcs : cells + 2 ≤ 601024 ∧ slots + 12 ≤ 7293034) {j : Nat} (hj : 5 * (j : Int) + 5 ≤ (L : Int)) (hj2 : j ≤ 512) {ls : Array Slot} (hZ : zLS D cI cZ cJ q r o j H) (hS : va_S (fun a => s.heap.size ≤ a) s.heap H locs) (hl : lv_has ls 9 [(4, .int (zI (5 * (j : Int)))), (0, .ref b), (1, .ref (q 0)), (2, .ref (r 0)), (3, .ref o)])
    (K : ∀ (d1 : Drawn), s.drawn.sameBut d1 lw_cs → ∀ (H1 : Heap) (locs1 : List Loc) (ls1 : Array Slot), zLS D cI cZ cJ q r o (j + 1) H1 → va_S (fun a => s.heap.size ≤ a) s.heap H1 locs1 → lv_has ls1 9 [(4, .int (zI (5 * (j : Int)))), (0, .ref b), (1, .ref (q 0)), (2, .ref (r 0)), (3, .ref o)] → W p l e room_1 (s.setDrawn d1) m #[Value.ref b] below meth c H1 locs1 (cells + 2) (slots + 12) Q (F0 m 1825 ls1 [])) :
    W p l e room_1 (s.setDrawn d0) m #[Value.ref b] below meth c H locs cells slots Q (F0 m 568 ls []) := by
  obtain ⟨pa, sp, al, dg, co, da, mb, dd, ah, wl, lo, n, td, wn, co', da', mo, st, mr, th, f, R, htd, hst, hmr, hC, hM, hO⟩ := hZ
  have hn := R.1.1
  have htd0 := R.1.2
  have hLN := C.hLN
  have hs1 := sc_rg xs (5 * (j : Int) + 1)
  have hs2 := sc_rg xs (5 * (j : Int) + 2)
  have hs3 := sc_rg xs (5 * (j : Int) + 3)
  have hs4 := sc_rg xs (5 * (j : Int) + 4)
  by_cases b1 : 1 ≤ sc xs (5 * (j : Int) + 1) ∧ sc xs (5 * (j : Int) + 1) ≤ 200
  · have b1 := b1
    have hps := re_pass R (k := sc xs (5 * (j : Int) + 1)) (by omega) (by omega)
    refine lv_aload_n C.hx C.hb dL_law_568 rfl (lv_at hl 2 rfl) ?_
    refine lv_aload_n C.hx C.hb dL_law_569 rfl (lv_at hl 1 rfl) ?_
    refine lv_iload C.hx C.hb dL_law_570 (lv_at hl 0 rfl) ?_
    refine zr_iconst C.hx C.hb dL_law_572 ?_
    refine zr_iadd (v := 5 * (j : Int) + 1) C.hx C.hb rfl dL_law_573 ?_
    refine zr_sld (s := s.setDrawn d0) C.hx C.hb C.hX C.hbl C.hbA hS (i := 5 * (j : Int) + 1) (by omega) (by omega) C.hLN dL_law_574 ?_
    refine lv_aload_n C.hx C.hb dL_law_575 rfl (lv_at hl 4 rfl) ?_
    refine zcallLW (As := [.ref (q 0), .int (zI (sc xs (5 * (j : Int) + 1))), .ref o]) (rest := []) ⟨C.hx, C.hb, C.hml, C.hown, dr_words C.hts _⟩ C.hK (kL_passok l D C.hl0 cI cZ cJ q o C.hN C.hN2 pa sp al dg co da mb dd ah wl lo n td wn f R.1.1 R.2.1.2.2.1 R.2.1.2.2.2.1 R.2.1.2.2.2.2.1 R.2.1.2.2.2.2.2.1 (re_dd1 R) (re_td1 R) (sc xs (5 * (j : Int) + 1)) (by omega) (by omega)) (vx_cwSW 3 (dr_words C.hts _) gL_law_L_pass rfl rfl rfl (by decide +kernel) ⟨Nat.le_of_ble_eq_true rfl, Nat.le_of_ble_eq_true rfl⟩) hC hO (C.tk hS) C.hE hS C.hA3 rfl hl.1 rfl (Nat.le_of_ble_eq_true rfl) dL_law_576 ⟨C.ok1 hcs.1 (by omega), C.ok2 hcs.2 (by omega)⟩ (fun H locs hC hO hS _ hkk => ?_)
    have hM := zkeep hM hkk C.dM
    refine lv_istore (lv' := [(5, .int (zI 0)), (4, .int (zI (5 * (j : Int)))), (0, .ref b), (1, .ref (q 0)), (2, .ref (r 0)), (3, .ref o)]) C.hx C.hb dL_law_579 hl (by decide) rfl (fun ls hl => ?_)
    refine lv_aload_n C.hx C.hb dL_law_581 rfl (lv_at hl 4 rfl) ?_
    refine lv_aload_n C.hx C.hb dL_law_582 rfl (lv_at hl 2 rfl) ?_
    refine lv_iload C.hx C.hb dL_law_583 (lv_at hl 1 rfl) ?_
    refine zr_iconst C.hx C.hb dL_law_585 ?_
    refine zr_iadd (v := 5 * (j : Int) + 1) C.hx C.hb rfl dL_law_586 ?_
    refine zr_sld (s := s.setDrawn d0) C.hx C.hb C.hX C.hbl C.hbA hS (i := 5 * (j : Int) + 1) (by omega) (by omega) C.hLN dL_law_587 ?_
    refine zcallV (ci := 3) (q0 := 0) (cq := (RX3, TX3, 12)) (As := [.int (zI (sc xs (5 * (j : Int) + 1)))]) (rest := []) ⟨C.hx, C.hb, C.hml, C.hown, dr_words C.hts _⟩ C.hK2 (kX3_passok l D cI cZ r C.hNr pa sp al co' da' mo st mr th n td wn R.1.1 R.2.2.1.2.2 (re_td1 R) (sc xs (5 * (j : Int) + 1)) (by omega) (by omega) (by omega)) (cwV 1 (dr_words C.hts _) gL_law_X3_pass rfl rfl rfl (by decide +kernel) ⟨Nat.le_of_ble_eq_true rfl, Nat.le_of_ble_eq_true rfl⟩) hM hS C.hA2 rfl rfl rfl hl.1 rfl (Nat.le_of_ble_eq_true rfl) dL_law_588 ⟨C.ok1 hcs.1 (by omega), C.ok2 hcs.2 (by omega)⟩ (fun H locs hM hS _ hkk => ?_)
    have hC := zkeep hC hkk C.dC
    have hO := zkeep hO hkk C.dO
    refine W.eq (g2 := F0 m 591 ls [.int (zI (smF (icF mo n (td + (sc xs (5 * (j : Int) + 1)))) n))]) rfl ?_
    refine lv_istore (lv' := [(6, .int (zI (smF (icF mo n (td + (sc xs (5 * (j : Int) + 1)))) n))), (5, .int (zI 0)), (4, .int (zI (5 * (j : Int)))), (0, .ref b), (1, .ref (q 0)), (2, .ref (r 0)), (3, .ref o)]) C.hx C.hb dL_law_591 hl (by decide) rfl (fun ls hl => ?_)
    refine lv_aload_n C.hx C.hb dL_law_593 rfl (lv_at hl 5 rfl) ?_
    refine zcallV (ci := 3) (q0 := 0) (cq := (RX3, TX3, 12)) (As := []) (rest := []) ⟨C.hx, C.hb, C.hml, C.hown, dr_words C.hts _⟩ C.hK2 (kX3_thrown l D cI cZ r C.hNr pa sp al co' da' mo st mr 0 n (td + (sc xs (5 * (j : Int) + 1))) (wn + smF (psF mo n td) (sc xs (5 * (j : Int) + 1)).toNat)) (cwV 0 (dr_words C.hts _) gL_law_X3_thrown rfl rfl rfl (by decide +kernel) ⟨Nat.le_of_ble_eq_true rfl, Nat.le_of_ble_eq_true rfl⟩) hM hS C.hA2 rfl rfl rfl hl.1 rfl (Nat.le_of_ble_eq_true rfl) dL_law_594 ⟨C.ok1 hcs.1 (by omega), C.ok2 hcs.2 (by omega)⟩ (fun H locs hM hS _ hkk => ?_)
    have hC := zkeep hC hkk C.dC
    have hO := zkeep hO hkk C.dO
    refine W.eq (g2 := F0 m 597 ls [.int (zI 0)]) rfl ?_
    refine lv_iload C.hx C.hb dL_law_597 (lv_at hl 1 rfl) ?_
    refine zr_icmp_eqT (tgt := 604) C.hx C.hb (rfl) dL_law_599 (by decide) ?_
    refine lv_iload C.hx C.hb dL_law_604 (lv_at hl 1 rfl) ?_
    refine zr_if_ne (tgt := 621) C.hx C.hb dL_law_606 (by decide) ⟨by decide, by decide⟩ (fun h9 => by exfalso; revert h9; decide) (fun _ => ?_)
    refine lv_aload_n C.hx C.hb dL_law_609 rfl (lv_at hl 6 rfl) ?_
    refine zr_iconst C.hx C.hb dL_law_610 ?_
    refine zr_lald0 C.hx C.hb C.hK hO 0 2 rfl rfl dL_law_611 ?_
    refine W.eq (g2 := F0 m 612 ls [.long ((zI (smF al n - smF (cwF al co da mb dd (td + (sc xs (5 * (j : Int) + 1))) n 0) n)).toInt64)]) rfl ?_
    refine lv_iload C.hx C.hb dL_law_612 (lv_at hl 0 rfl) ?_
    refine lv_i2l C.hx C.hb dL_law_614 rfl ?_
    refine zr_lcmp_eqT (tgt := 621) C.hx C.hb (congrArg (fun z => (zI z).toInt64) (re_inc hps)) dL_law_615 dL_law_616 (by decide) ?_
    refine lv_goto (tgt := 1825) C.hx C.hb dL_law_621 (by decide) ?_
    rw [← re_worn R (k := sc xs (5 * (j : Int) + 1)) (by omega)] at hM
    refine W.widen (k := cells + 2) (n := slots + 12) (by omega) (by omega) ?_
    have hl := lv_sub hl (l' := [(4, .int (zI (5 * (j : Int)))), (0, .ref b), (1, .ref (q 0)), (2, .ref (r 0)), (3, .ref o)]) [2, 3, 4, 5, 6] rfl
    exact K _ hd0 H locs ls ⟨pa, sp, al, dg, co, da, mb, dd, lastF ah (ca co da mb dd td n) n, wl, lo, n, td + (sc xs (5 * (j : Int) + 1)), wn + smF (waP co da mb dd td n (sc xs (5 * (j : Int) + 1))) n, co', da', mo, st, mr, 0, (vp_updL f 0 (zI (smF al n - smF (cwF al co da mb dd (td + (sc xs (5 * (j : Int) + 1))) n 0) n)).toInt64), hps, by omega, hst, hmr, hC, hM, hO⟩ hS hl
  · have b1 := b1
    refine lv_aload_n C.hx C.hb dL_law_568 rfl (lv_at hl 2 rfl) ?_
    refine lv_aload_n C.hx C.hb dL_law_569 rfl (lv_at hl 1 rfl) ?_
    refine lv_iload C.hx C.hb dL_law_570 (lv_at hl 0 rfl) ?_
    refine zr_iconst C.hx C.hb dL_law_572 ?_
    refine zr_iadd (v := 5 * (j : Int) + 1) C.hx C.hb rfl dL_law_573 ?_
    refine zr_sld (s := s.setDrawn d0) C.hx C.hb C.hX C.hbl C.hbA hS (i := 5 * (j : Int) + 1) (by omega) (by omega) C.hLN dL_law_574 ?_
    refine lv_aload_n C.hx C.hb dL_law_575 rfl (lv_at hl 4 rfl) ?_
    refine zcallLW (As := [.ref (q 0), .int (zI (sc xs (5 * (j : Int) + 1))), .ref o]) (rest := []) ⟨C.hx, C.hb, C.hml, C.hown, dr_words C.hts _⟩ C.hK (kL_passx1 l D C.hl0 cI cZ cJ q o C.hN C.hN2 pa sp al dg co da mb dd ah wl lo n td wn f (sc xs (5 * (j : Int) + 1)) (by omega) (by omega)) (vx_cwSW 3 (dr_words C.hts _) gL_law_L_pass rfl rfl rfl (by decide +kernel) ⟨Nat.le_of_ble_eq_true rfl, Nat.le_of_ble_eq_true rfl⟩) hC hO (C.tk hS) C.hE hS C.hA3 rfl hl.1 rfl (Nat.le_of_ble_eq_true rfl) dL_law_576 ⟨C.ok1 hcs.1 (by omega), C.ok2 hcs.2 (by omega)⟩ (fun H locs hC hO hS _ hkk => ?_)
    have hM := zkeep hM hkk C.dM
    refine lv_istore (lv' := [(5, .int (zI 1)), (4, .int (zI (5 * (j : Int)))), (0, .ref b), (1, .ref (q 0)), (2, .ref (r 0)), (3, .ref o)]) C.hx C.hb dL_law_579 hl (by decide) rfl (fun ls hl => ?_)
    refine lv_aload_n C.hx C.hb dL_law_581 rfl (lv_at hl 4 rfl) ?_
    refine lv_aload_n C.hx C.hb dL_law_582 rfl (lv_at hl 2 rfl) ?_
    refine lv_iload C.hx C.hb dL_law_583 (lv_at hl 1 rfl) ?_
    refine zr_iconst C.hx C.hb dL_law_585 ?_
    refine zr_iadd (v := 5 * (j : Int) + 1) C.hx C.hb rfl dL_law_586 ?_
    refine zr_sld (s := s.setDrawn d0) C.hx C.hb C.hX C.hbl C.hbA hS (i := 5 * (j : Int) + 1) (by omega) (by omega) C.hLN dL_law_587 ?_
    refine zcallV (ci := 3) (q0 := 0) (cq := (RX3, TX3, 12)) (As := [.int (zI (sc xs (5 * (j : Int) + 1)))]) (rest := []) ⟨C.hx, C.hb, C.hml, C.hown, dr_words C.hts _⟩ C.hK2 (kX3_passe1 l D cI cZ r C.hNr pa sp al co' da' mo st mr th n td wn (sc xs (5 * (j : Int) + 1)) (by omega) (by omega)) (cwV 1 (dr_words C.hts _) gL_law_X3_pass rfl rfl rfl (by decide +kernel) ⟨Nat.le_of_ble_eq_true rfl, Nat.le_of_ble_eq_true rfl⟩) hM hS C.hA2 rfl rfl rfl hl.1 rfl (Nat.le_of_ble_eq_true rfl) dL_law_588 ⟨C.ok1 hcs.1 (by omega), C.ok2 hcs.2 (by omega)⟩ (fun H locs hM hS _ hkk => ?_)
    have hC := zkeep hC hkk C.dC
    have hO := zkeep hO hkk C.dO
    refine W.eq (g2 := F0 m 591 ls [.int (zI 0)]) rfl ?_
    refine lv_istore (lv' := [(6, .int (zI 0)), (5, .int (zI 1)), (4, .int (zI (5 * (j : Int)))), (0, .ref b), (1, .ref (q 0)), (2, .ref (r 0)), (3, .ref o)]) C.hx C.hb dL_law_591 hl (by decide) rfl (fun ls hl => ?_)
    refine lv_aload_n C.hx C.hb dL_law_593 rfl (lv_at hl 5 rfl) ?_
    refine zcallV (ci := 3) (q0 := 0) (cq := (RX3, TX3, 12)) (As := []) (rest := []) ⟨C.hx, C.hb, C.hml, C.hown, dr_words C.hts _⟩ C.hK2 (kX3_thrown l D cI cZ r C.hNr pa sp al co' da' mo st mr 1 n td wn) (cwV 0 (dr_words C.hts _) gL_law_X3_thrown rfl rfl rfl (by decide +kernel) ⟨Nat.le_of_ble_eq_true rfl, Nat.le_of_ble_eq_true rfl⟩) hM hS C.hA2 rfl rfl rfl hl.1 rfl (Nat.le_of_ble_eq_true rfl) dL_law_594 ⟨C.ok1 hcs.1 (by omega), C.ok2 hcs.2 (by omega)⟩ (fun H locs hM hS _ hkk => ?_)
    have hC := zkeep hC hkk C.dC
    have hO := zkeep hO hkk C.dO
    refine W.eq (g2 := F0 m 597 ls [.int (zI 1)]) rfl ?_
    refine lv_iload C.hx C.hb dL_law_597 (lv_at hl 1 rfl) ?_
    refine zr_icmp_eqT (tgt := 604) C.hx C.hb (rfl) dL_law_599 (by decide) ?_
    refine lv_iload C.hx C.hb dL_law_604 (lv_at hl 1 rfl) ?_
    refine zr_if_ne (tgt := 621) C.hx C.hb dL_law_606 (by decide) ⟨by decide, by decide⟩ (fun _ => ?_) (fun h9 => by exfalso; revert h9; decide)
    refine lv_goto (tgt := 1825) C.hx C.hb dL_law_621 (by decide) ?_
    refine W.widen (k := cells + 2) (n := slots + 12) (by omega) (by omega) ?_
    have hl := lv_sub hl (l' := [(4, .int (zI (5 * (j : Int)))), (0, .ref b), (1, .ref (q 0)), (2, .ref (r 0)), (3, .ref o)]) [2, 3, 4, 5, 6] rfl
    exact K _ hd0 H locs ls ⟨pa, sp, al, dg, co, da, mb, dd, ah, wl, lo, n, td, wn, co', da', mo, st, mr, 1, f, R, by omega, hst, hmr, hC, hM, hO⟩ hS hl
set_option maxHeartbeats 4000000 in
set_option maxRecDepth 100000 in
theorem law_c7 {p : Program} {l : Launch} {e : Env} {s : State} {m : MethodId} {below : List Frame} {meth : Method} {c : Code} {b L : Nat} {xs : Nat → Int32} {Q : State → Prop} {D : va_G} {cI cZ cJ : ClassId} {q r : Nat → Nat} {o : Nat} (C : zCx p l s m meth c b L xs D cI cZ cJ q r o) {d0 : Drawn} (hd0 : s.drawn.sameBut d0 lw_cs) {H : Heap} {locs : List Loc} {cells slots : Nat} (hcs : cells + 2 ≤ 601024 ∧ slots + 12 ≤ 7293034) {j : Nat} (hj : 5 * (j : Int) + 5 ≤ (L : Int)) (hj2 : j ≤ 512) {ls : Array Slot} (hZ : zLS D cI cZ cJ q r o j H) (hS : va_S (fun a => s.heap.size ≤ a) s.heap H locs) (hl : lv_has ls 9 [(4, .int (zI (5 * (j : Int)))), (0, .ref b), (1, .ref (q 0)), (2, .ref (r 0)), (3, .ref o)])
    (K : ∀ (d1 : Drawn), s.drawn.sameBut d1 lw_cs → ∀ (H1 : Heap) (locs1 : List Loc) (ls1 : Array Slot), zLS D cI cZ cJ q r o (j + 1) H1 → va_S (fun a => s.heap.size ≤ a) s.heap H1 locs1 → lv_has ls1 9 [(4, .int (zI (5 * (j : Int)))), (0, .ref b), (1, .ref (q 0)), (2, .ref (r 0)), (3, .ref o)] → W p l e room_1 (s.setDrawn d1) m #[Value.ref b] below meth c H1 locs1 (cells + 2) (slots + 12) Q (F0 m 1825 ls1 [])) :
    W p l e room_1 (s.setDrawn d0) m #[Value.ref b] below meth c H locs cells slots Q (F0 m 624 ls []) := by
  obtain ⟨pa, sp, al, dg, co, da, mb, dd, ah, wl, lo, n, td, wn, co', da', mo, st, mr, th, f, R, htd, hst, hmr, hC, hM, hO⟩ := hZ
  have hn := R.1.1
  have htd0 := R.1.2
  have hLN := C.hLN
  have hs1 := sc_rg xs (5 * (j : Int) + 1)
  have hs2 := sc_rg xs (5 * (j : Int) + 2)
  have hs3 := sc_rg xs (5 * (j : Int) + 3)
  have hs4 := sc_rg xs (5 * (j : Int) + 4)
  refine lv_aload_n C.hx C.hb dL_law_624 rfl (lv_at hl 2 rfl) ?_
  refine zcallV (ci := 2) (q0 := 0) (cq := (RX2, TX2, 9)) (As := []) (rest := []) ⟨C.hx, C.hb, C.hml, C.hown, dr_words C.hts _⟩ C.hK2 (kX2_people l D cI cZ q C.hN pa sp al dg co da mb dd ah wl lo n td wn) (cwV 0 (dr_words C.hts _) gL_law_X2_people rfl rfl rfl (by decide +kernel) ⟨Nat.le_of_ble_eq_true rfl, Nat.le_of_ble_eq_true rfl⟩) hC hS C.hA1 rfl rfl rfl hl.1 rfl (Nat.le_of_ble_eq_true rfl) dL_law_625 ⟨C.ok1 hcs.1 (by omega), C.ok2 hcs.2 (by omega)⟩ (fun H locs hC hS _ hkk => ?_)
  have hM := zkeep hM hkk C.dM2
  have hO := zkeep hO hkk C.dO2
  refine W.eq (g2 := F0 m 628 ls [.int (zI (n : Int))]) rfl ?_
  refine lv_aload_n C.hx C.hb dL_law_628 rfl (lv_at hl 3 rfl) ?_
  refine zcallV (ci := 3) (q0 := 0) (cq := (RX3, TX3, 12)) (As := []) (rest := [.int (zI (n : Int))]) ⟨C.hx, C.hb, C.hml, C.hown, dr_words C.hts _⟩ C.hK2 (kX3_people l D cI cZ r C.hNr pa sp al co' da' mo st mr th n td wn) (cwV 0 (dr_words C.hts _) gL_law_X3_people rfl rfl rfl (by decide +kernel) ⟨Nat.le_of_ble_eq_true rfl, Nat.le_of_ble_eq_true rfl⟩) hM hS C.hA2 rfl rfl rfl hl.1 rfl (Nat.le_of_ble_eq_true rfl) dL_law_629 ⟨C.ok1 hcs.1 (by omega), C.ok2 hcs.2 (by omega)⟩ (fun H locs hM hS _ hkk => ?_)
  have hC := zkeep hC hkk C.dC
  have hO := zkeep hO hkk C.dO
  refine W.eq (g2 := F0 m 632 ls [.int (zI (n : Int)), .int (zI (n : Int))]) rfl ?_
  refine zr_icmp_eqT (tgt := 1825) C.hx C.hb (rfl) dL_law_632 (by decide) ?_
  refine W.widen (k := cells + 2) (n := slots + 12) (by omega) (by omega) ?_
  have hl := lv_sub hl (l' := [(4, .int (zI (5 * (j : Int)))), (0, .ref b), (1, .ref (q 0)), (2, .ref (r 0)), (3, .ref o)]) [0, 1, 2, 3, 4] rfl
  exact K _ hd0 H locs ls ⟨pa, sp, al, dg, co, da, mb, dd, ah, wl, lo, n, td, wn, co', da', mo, st, mr, 0, f, R, by omega, hst, hmr, hC, hM, hO⟩ hS hl
set_option maxHeartbeats 4000000 in
set_option maxRecDepth 100000 in
theorem law_c8 {p : Program} {l : Launch} {e : Env} {s : State} {m : MethodId} {below : List Frame} {meth : Method} {c : Code} {b L : Nat} {xs : Nat → Int32} {Q : State → Prop} {D : va_G} {cI cZ cJ : ClassId} {q r : Nat → Nat} {o : Nat} (C : zCx p l s m meth c b L xs D cI cZ cJ q r o) {d0 : Drawn} (hd0 : s.drawn.sameBut d0 lw_cs) {H : Heap} {locs : List Loc} {cells slots : Nat} (hcs : cells + 2 ≤ 601024 ∧ slots + 12 ≤ 7293034) {j : Nat} (hj : 5 * (j : Int) + 5 ≤ (L : Int)) (hj2 : j ≤ 512) {ls : Array Slot} (hZ : zLS D cI cZ cJ q r o j H) (hS : va_S (fun a => s.heap.size ≤ a) s.heap H locs) (hl : lv_has ls 9 [(4, .int (zI (5 * (j : Int)))), (0, .ref b), (1, .ref (q 0)), (2, .ref (r 0)), (3, .ref o)])
    (K : ∀ (d1 : Drawn), s.drawn.sameBut d1 lw_cs → ∀ (H1 : Heap) (locs1 : List Loc) (ls1 : Array Slot), zLS D cI cZ cJ q r o (j + 1) H1 → va_S (fun a => s.heap.size ≤ a) s.heap H1 locs1 → lv_has ls1 9 [(4, .int (zI (5 * (j : Int)))), (0, .ref b), (1, .ref (q 0)), (2, .ref (r 0)), (3, .ref o)] → W p l e room_1 (s.setDrawn d1) m #[Value.ref b] below meth c H1 locs1 (cells + 2) (slots + 12) Q (F0 m 1825 ls1 [])) :
    W p l e room_1 (s.setDrawn d0) m #[Value.ref b] below meth c H locs cells slots Q (F0 m 637 ls []) := by
  obtain ⟨pa, sp, al, dg, co, da, mb, dd, ah, wl, lo, n, td, wn, co', da', mo, st, mr, th, f, R, htd, hst, hmr, hC, hM, hO⟩ := hZ
  have hn := R.1.1
  have htd0 := R.1.2
  have hLN := C.hLN
  have hs1 := sc_rg xs (5 * (j : Int) + 1)
  have hs2 := sc_rg xs (5 * (j : Int) + 2)
  have hs3 := sc_rg xs (5 * (j : Int) + 3)
  have hs4 := sc_rg xs (5 * (j : Int) + 4)
  refine lv_aload_n C.hx C.hb dL_law_637 rfl (lv_at hl 2 rfl) ?_
  refine zcallV (ci := 2) (q0 := 0) (cq := (RX2, TX2, 9)) (As := []) (rest := []) ⟨C.hx, C.hb, C.hml, C.hown, dr_words C.hts _⟩ C.hK2 (kX2_living l D cI cZ q C.hN pa sp al dg co da mb dd ah wl lo n td wn R.1.1 R.2.1.2.2.1) (cwV 0 (dr_words C.hts _) gL_law_X2_living rfl rfl rfl (by decide +kernel) ⟨Nat.le_of_ble_eq_true rfl, Nat.le_of_ble_eq_true rfl⟩) hC hS C.hA1 rfl rfl rfl hl.1 rfl (Nat.le_of_ble_eq_true rfl) dL_law_638 ⟨C.ok1 hcs.1 (by omega), C.ok2 hcs.2 (by omega)⟩ (fun H locs hC hS _ hkk => ?_)
  have hM := zkeep hM hkk C.dM2
  have hO := zkeep hO hkk C.dO2
  refine W.eq (g2 := F0 m 641 ls [.int (zI (smF al n))]) rfl ?_
  refine lv_aload_n C.hx C.hb dL_law_641 rfl (lv_at hl 3 rfl) ?_
  refine zcallV (ci := 3) (q0 := 0) (cq := (RX3, TX3, 12)) (As := []) (rest := [.int (zI (smF al n))]) ⟨C.hx, C.hb, C.hml, C.hown, dr_words C.hts _⟩ C.hK2 (kX3_living l D cI cZ r C.hNr pa sp al co' da' mo st mr th n td wn R.1.1 R.2.1.2.2.1) (cwV 0 (dr_words C.hts _) gL_law_X3_living rfl rfl rfl (by decide +kernel) ⟨Nat.le_of_ble_eq_true rfl, Nat.le_of_ble_eq_true rfl⟩) hM hS C.hA2 rfl rfl rfl hl.1 rfl (Nat.le_of_ble_eq_true rfl) dL_law_642 ⟨C.ok1 hcs.1 (by omega), C.ok2 hcs.2 (by omega)⟩ (fun H locs hM hS _ hkk => ?_)
  have hC := zkeep hC hkk C.dC
  have hO := zkeep hO hkk C.dO
  refine W.eq (g2 := F0 m 645 ls [.int (zI (smF al n)), .int (zI (smF al n))]) rfl ?_
  refine zr_icmp_eqT (tgt := 1825) C.hx C.hb (rfl) dL_law_645 (by decide) ?_
  refine W.widen (k := cells + 2) (n := slots + 12) (by omega) (by omega) ?_
  have hl := lv_sub hl (l' := [(4, .int (zI (5 * (j : Int)))), (0, .ref b), (1, .ref (q 0)), (2, .ref (r 0)), (3, .ref o)]) [0, 1, 2, 3, 4] rfl
  exact K _ hd0 H locs ls ⟨pa, sp, al, dg, co, da, mb, dd, ah, wl, lo, n, td, wn, co', da', mo, st, mr, 0, f, R, by omega, hst, hmr, hC, hM, hO⟩ hS hl
set_option maxHeartbeats 4000000 in
set_option maxRecDepth 100000 in
theorem law_c9 {p : Program} {l : Launch} {e : Env} {s : State} {m : MethodId} {below : List Frame} {meth : Method} {c : Code} {b L : Nat} {xs : Nat → Int32} {Q : State → Prop} {D : va_G} {cI cZ cJ : ClassId} {q r : Nat → Nat} {o : Nat} (C : zCx p l s m meth c b L xs D cI cZ cJ q r o) {d0 : Drawn} (hd0 : s.drawn.sameBut d0 lw_cs) {H : Heap} {locs : List Loc} {cells slots : Nat} (hcs : cells + 2 ≤ 601024 ∧ slots + 12 ≤ 7293034) {j : Nat} (hj : 5 * (j : Int) + 5 ≤ (L : Int)) (hj2 : j ≤ 512) {ls : Array Slot} (hZ : zLS D cI cZ cJ q r o j H) (hS : va_S (fun a => s.heap.size ≤ a) s.heap H locs) (hl : lv_has ls 9 [(4, .int (zI (5 * (j : Int)))), (0, .ref b), (1, .ref (q 0)), (2, .ref (r 0)), (3, .ref o)])
    (K : ∀ (d1 : Drawn), s.drawn.sameBut d1 lw_cs → ∀ (H1 : Heap) (locs1 : List Loc) (ls1 : Array Slot), zLS D cI cZ cJ q r o (j + 1) H1 → va_S (fun a => s.heap.size ≤ a) s.heap H1 locs1 → lv_has ls1 9 [(4, .int (zI (5 * (j : Int)))), (0, .ref b), (1, .ref (q 0)), (2, .ref (r 0)), (3, .ref o)] → W p l e room_1 (s.setDrawn d1) m #[Value.ref b] below meth c H1 locs1 (cells + 2) (slots + 12) Q (F0 m 1825 ls1 [])) :
    W p l e room_1 (s.setDrawn d0) m #[Value.ref b] below meth c H locs cells slots Q (F0 m 650 ls []) := by
  obtain ⟨pa, sp, al, dg, co, da, mb, dd, ah, wl, lo, n, td, wn, co', da', mo, st, mr, th, f, R, htd, hst, hmr, hC, hM, hO⟩ := hZ
  have hn := R.1.1
  have htd0 := R.1.2
  have hLN := C.hLN
  have hs1 := sc_rg xs (5 * (j : Int) + 1)
  have hs2 := sc_rg xs (5 * (j : Int) + 2)
  have hs3 := sc_rg xs (5 * (j : Int) + 3)
  have hs4 := sc_rg xs (5 * (j : Int) + 4)
  by_cases b1 : 0 ≤ sc xs (5 * (j : Int) + 1) ∧ sc xs (5 * (j : Int) + 1) < (n : Int)
  · have b1 := b1
    have hb9 := R.2.1.2.2.1 (sc xs (5 * (j : Int) + 1))
    by_cases b2 : al (sc xs (5 * (j : Int) + 1)) = 0
    · have b2 := b2
      refine lv_aload_n C.hx C.hb dL_law_650 rfl (lv_at hl 2 rfl) ?_
      refine lv_aload_n C.hx C.hb dL_law_651 rfl (lv_at hl 1 rfl) ?_
      refine lv_iload C.hx C.hb dL_law_652 (lv_at hl 0 rfl) ?_
      refine zr_iconst C.hx C.hb dL_law_654 ?_
      refine zr_iadd (v := 5 * (j : Int) + 1) C.hx C.hb rfl dL_law_655 ?_
      refine zr_sld (s := s.setDrawn d0) C.hx C.hb C.hX C.hbl C.hbA hS (i := 5 * (j : Int) + 1) (by omega) (by omega) C.hLN dL_law_656 ?_
      refine lv_aload_n C.hx C.hb dL_law_657 rfl (lv_at hl 4 rfl) ?_
      refine zcallLW (As := [.ref (q 0), .int (zI (sc xs (5 * (j : Int) + 1))), .ref o]) (rest := []) ⟨C.hx, C.hb, C.hml, C.hown, dr_words C.hts _⟩ C.hK (kL_isAliveok l D C.hl0 cI cZ cJ q o C.hN C.hN2 pa sp al dg co da mb dd ah wl lo n td wn f R.1.1 R.2.1.2.2.1 (sc xs (5 * (j : Int) + 1)) (by omega)) (vx_cwSW 3 (dr_words C.hts _) gL_law_L_isAlive rfl rfl rfl (by decide +kernel) ⟨Nat.le_of_ble_eq_true rfl, Nat.le_of_ble_eq_true rfl⟩) hC hO (C.tk hS) C.hE hS C.hA3 rfl hl.1 rfl (Nat.le_of_ble_eq_true rfl) dL_law_658 ⟨C.ok1 hcs.1 (by omega), C.ok2 hcs.2 (by omega)⟩ (fun H locs hC hO hS _ hkk => ?_)
      have hM := zkeep hM hkk C.dM
      refine lv_istore (lv' := [(5, .int (zI 0)), (4, .int (zI (5 * (j : Int)))), (0, .ref b), (1, .ref (q 0)), (2, .ref (r 0)), (3, .ref o)]) C.hx C.hb dL_law_661 hl (by decide) rfl (fun ls hl => ?_)
      refine lv_aload_n C.hx C.hb dL_law_663 rfl (lv_at hl 4 rfl) ?_
      refine lv_aload_n C.hx C.hb dL_law_664 rfl (lv_at hl 2 rfl) ?_
      refine lv_iload C.hx C.hb dL_law_665 (lv_at hl 1 rfl) ?_
      refine zr_iconst C.hx C.hb dL_law_667 ?_
      refine zr_iadd (v := 5 * (j : Int) + 1) C.hx C.hb rfl dL_law_668 ?_
      refine zr_sld (s := s.setDrawn d0) C.hx C.hb C.hX C.hbl C.hbA hS (i := 5 * (j : Int) + 1) (by omega) (by omega) C.hLN dL_law_669 ?_
      refine zcallV (ci := 3) (q0 := 0) (cq := (RX3, TX3, 12)) (As := [.int (zI (sc xs (5 * (j : Int) + 1)))]) (rest := []) ⟨C.hx, C.hb, C.hml, C.hown, dr_words C.hts _⟩ C.hK2 (kX3_isAliveok l D cI cZ r C.hNr pa sp al co' da' mo st mr th n td wn R.1.1 R.2.1.2.2.1 (sc xs (5 * (j : Int) + 1)) (by omega) (by omega)) (cwV 1 (dr_words C.hts _) gL_law_X3_isAlive rfl rfl rfl (by decide +kernel) ⟨Nat.le_of_ble_eq_true rfl, Nat.le_of_ble_eq_true rfl⟩) hM hS C.hA2 rfl rfl rfl hl.1 rfl (Nat.le_of_ble_eq_true rfl) dL_law_670 ⟨C.ok1 hcs.1 (by omega), C.ok2 hcs.2 (by omega)⟩ (fun H locs hM hS _ hkk => ?_)
      have hC := zkeep hC hkk C.dC
      have hO := zkeep hO hkk C.dO
      refine W.eq (g2 := F0 m 673 ls [.int (zI (al (sc xs (5 * (j : Int) + 1))))]) rfl ?_
      refine lv_istore (lv' := [(6, .int (zI (al (sc xs (5 * (j : Int) + 1))))), (5, .int (zI 0)), (4, .int (zI (5 * (j : Int)))), (0, .ref b), (1, .ref (q 0)), (2, .ref (r 0)), (3, .ref o)]) C.hx C.hb dL_law_673 hl (by decide) rfl (fun ls hl => ?_)
      refine lv_aload_n C.hx C.hb dL_law_675 rfl (lv_at hl 5 rfl) ?_
      refine zcallV (ci := 3) (q0 := 0) (cq := (RX3, TX3, 12)) (As := []) (rest := []) ⟨C.hx, C.hb, C.hml, C.hown, dr_words C.hts _⟩ C.hK2 (kX3_thrown l D cI cZ r C.hNr pa sp al co' da' mo st mr 0 n td wn) (cwV 0 (dr_words C.hts _) gL_law_X3_thrown rfl rfl rfl (by decide +kernel) ⟨Nat.le_of_ble_eq_true rfl, Nat.le_of_ble_eq_true rfl⟩) hM hS C.hA2 rfl rfl rfl hl.1 rfl (Nat.le_of_ble_eq_true rfl) dL_law_676 ⟨C.ok1 hcs.1 (by omega), C.ok2 hcs.2 (by omega)⟩ (fun H locs hM hS _ hkk => ?_)
      have hC := zkeep hC hkk C.dC
      have hO := zkeep hO hkk C.dO
      refine W.eq (g2 := F0 m 679 ls [.int (zI 0)]) rfl ?_
      refine lv_iload C.hx C.hb dL_law_679 (lv_at hl 1 rfl) ?_
      refine zr_icmp_eqT (tgt := 686) C.hx C.hb (rfl) dL_law_681 (by decide) ?_
      refine lv_iload C.hx C.hb dL_law_686 (lv_at hl 1 rfl) ?_
      refine zr_if_ne (tgt := 710) C.hx C.hb dL_law_688 (by decide) ⟨by decide, by decide⟩ (fun h9 => by exfalso; revert h9; decide) (fun _ => ?_)
      refine lv_aload_n C.hx C.hb dL_law_691 rfl (lv_at hl 6 rfl) ?_
      refine zr_iconst C.hx C.hb dL_law_692 ?_
      refine zr_lald0 C.hx C.hb C.hK hO 0 2 rfl rfl dL_law_693 ?_
      refine W.eq (g2 := F0 m 694 ls [.long ((zI (al (sc xs (5 * (j : Int) + 1)))).toInt64)]) rfl ?_
      refine lv_iload C.hx C.hb dL_law_694 (lv_at hl 0 rfl) ?_
      refine zr_if_eq (tgt := 703) C.hx C.hb dL_law_696 (by decide) ⟨by omega, by omega⟩ (fun _ => ?_) (fun h9 => by exfalso; omega)
      refine lv_lconst (v := 0) C.hx C.hb dL_law_703 rfl ?_
      refine zr_lcmp_eqT (tgt := 710) C.hx C.hb (show (zI (al (sc xs (5 * (j : Int) + 1)))).toInt64 = 0 from by rw [show al (sc xs (5 * (j : Int) + 1)) = 0 by omega]; rfl) dL_law_704 dL_law_705 (by decide) ?_
      refine lv_goto (tgt := 1825) C.hx C.hb dL_law_710 (by decide) ?_
      refine W.widen (k := cells + 2) (n := slots + 12) (by omega) (by omega) ?_
      have hl := lv_sub hl (l' := [(4, .int (zI (5 * (j : Int)))), (0, .ref b), (1, .ref (q 0)), (2, .ref (r 0)), (3, .ref o)]) [2, 3, 4, 5, 6] rfl
      exact K _ hd0 H locs ls ⟨pa, sp, al, dg, co, da, mb, dd, ah, wl, lo, n, td, wn, co', da', mo, st, mr, 0, (vp_updL f 0 (zI (al (sc xs (5 * (j : Int) + 1)))).toInt64), R, by omega, hst, hmr, hC, hM, hO⟩ hS hl
    · have b2 := b2
      refine lv_aload_n C.hx C.hb dL_law_650 rfl (lv_at hl 2 rfl) ?_
      refine lv_aload_n C.hx C.hb dL_law_651 rfl (lv_at hl 1 rfl) ?_
      refine lv_iload C.hx C.hb dL_law_652 (lv_at hl 0 rfl) ?_
      refine zr_iconst C.hx C.hb dL_law_654 ?_
      refine zr_iadd (v := 5 * (j : Int) + 1) C.hx C.hb rfl dL_law_655 ?_
      refine zr_sld (s := s.setDrawn d0) C.hx C.hb C.hX C.hbl C.hbA hS (i := 5 * (j : Int) + 1) (by omega) (by omega) C.hLN dL_law_656 ?_
      refine lv_aload_n C.hx C.hb dL_law_657 rfl (lv_at hl 4 rfl) ?_
      refine zcallLW (As := [.ref (q 0), .int (zI (sc xs (5 * (j : Int) + 1))), .ref o]) (rest := []) ⟨C.hx, C.hb, C.hml, C.hown, dr_words C.hts _⟩ C.hK (kL_isAliveok l D C.hl0 cI cZ cJ q o C.hN C.hN2 pa sp al dg co da mb dd ah wl lo n td wn f R.1.1 R.2.1.2.2.1 (sc xs (5 * (j : Int) + 1)) (by omega)) (vx_cwSW 3 (dr_words C.hts _) gL_law_L_isAlive rfl rfl rfl (by decide +kernel) ⟨Nat.le_of_ble_eq_true rfl, Nat.le_of_ble_eq_true rfl⟩) hC hO (C.tk hS) C.hE hS C.hA3 rfl hl.1 rfl (Nat.le_of_ble_eq_true rfl) dL_law_658 ⟨C.ok1 hcs.1 (by omega), C.ok2 hcs.2 (by omega)⟩ (fun H locs hC hO hS _ hkk => ?_)
      have hM := zkeep hM hkk C.dM
      refine lv_istore (lv' := [(5, .int (zI 0)), (4, .int (zI (5 * (j : Int)))), (0, .ref b), (1, .ref (q 0)), (2, .ref (r 0)), (3, .ref o)]) C.hx C.hb dL_law_661 hl (by decide) rfl (fun ls hl => ?_)
      refine lv_aload_n C.hx C.hb dL_law_663 rfl (lv_at hl 4 rfl) ?_
      refine lv_aload_n C.hx C.hb dL_law_664 rfl (lv_at hl 2 rfl) ?_
      refine lv_iload C.hx C.hb dL_law_665 (lv_at hl 1 rfl) ?_
      refine zr_iconst C.hx C.hb dL_law_667 ?_
      refine zr_iadd (v := 5 * (j : Int) + 1) C.hx C.hb rfl dL_law_668 ?_
      refine zr_sld (s := s.setDrawn d0) C.hx C.hb C.hX C.hbl C.hbA hS (i := 5 * (j : Int) + 1) (by omega) (by omega) C.hLN dL_law_669 ?_
      refine zcallV (ci := 3) (q0 := 0) (cq := (RX3, TX3, 12)) (As := [.int (zI (sc xs (5 * (j : Int) + 1)))]) (rest := []) ⟨C.hx, C.hb, C.hml, C.hown, dr_words C.hts _⟩ C.hK2 (kX3_isAliveok l D cI cZ r C.hNr pa sp al co' da' mo st mr th n td wn R.1.1 R.2.1.2.2.1 (sc xs (5 * (j : Int) + 1)) (by omega) (by omega)) (cwV 1 (dr_words C.hts _) gL_law_X3_isAlive rfl rfl rfl (by decide +kernel) ⟨Nat.le_of_ble_eq_true rfl, Nat.le_of_ble_eq_true rfl⟩) hM hS C.hA2 rfl rfl rfl hl.1 rfl (Nat.le_of_ble_eq_true rfl) dL_law_670 ⟨C.ok1 hcs.1 (by omega), C.ok2 hcs.2 (by omega)⟩ (fun H locs hM hS _ hkk => ?_)
      have hC := zkeep hC hkk C.dC
      have hO := zkeep hO hkk C.dO
      refine W.eq (g2 := F0 m 673 ls [.int (zI (al (sc xs (5 * (j : Int) + 1))))]) rfl ?_
      refine lv_istore (lv' := [(6, .int (zI (al (sc xs (5 * (j : Int) + 1))))), (5, .int (zI 0)), (4, .int (zI (5 * (j : Int)))), (0, .ref b), (1, .ref (q 0)), (2, .ref (r 0)), (3, .ref o)]) C.hx C.hb dL_law_673 hl (by decide) rfl (fun ls hl => ?_)
      refine lv_aload_n C.hx C.hb dL_law_675 rfl (lv_at hl 5 rfl) ?_
      refine zcallV (ci := 3) (q0 := 0) (cq := (RX3, TX3, 12)) (As := []) (rest := []) ⟨C.hx, C.hb, C.hml, C.hown, dr_words C.hts _⟩ C.hK2 (kX3_thrown l D cI cZ r C.hNr pa sp al co' da' mo st mr 0 n td wn) (cwV 0 (dr_words C.hts _) gL_law_X3_thrown rfl rfl rfl (by decide +kernel) ⟨Nat.le_of_ble_eq_true rfl, Nat.le_of_ble_eq_true rfl⟩) hM hS C.hA2 rfl rfl rfl hl.1 rfl (Nat.le_of_ble_eq_true rfl) dL_law_676 ⟨C.ok1 hcs.1 (by omega), C.ok2 hcs.2 (by omega)⟩ (fun H locs hM hS _ hkk => ?_)
      have hC := zkeep hC hkk C.dC
      have hO := zkeep hO hkk C.dO
      refine W.eq (g2 := F0 m 679 ls [.int (zI 0)]) rfl ?_
      refine lv_iload C.hx C.hb dL_law_679 (lv_at hl 1 rfl) ?_
      refine zr_icmp_eqT (tgt := 686) C.hx C.hb (rfl) dL_law_681 (by decide) ?_
      refine lv_iload C.hx C.hb dL_law_686 (lv_at hl 1 rfl) ?_
      refine zr_if_ne (tgt := 710) C.hx C.hb dL_law_688 (by decide) ⟨by decide, by decide⟩ (fun h9 => by exfalso; revert h9; decide) (fun _ => ?_)
      refine lv_aload_n C.hx C.hb dL_law_691 rfl (lv_at hl 6 rfl) ?_
      refine zr_iconst C.hx C.hb dL_law_692 ?_
      refine zr_lald0 C.hx C.hb C.hK hO 0 2 rfl rfl dL_law_693 ?_
      refine W.eq (g2 := F0 m 694 ls [.long ((zI (al (sc xs (5 * (j : Int) + 1)))).toInt64)]) rfl ?_
      refine lv_iload C.hx C.hb dL_law_694 (lv_at hl 0 rfl) ?_
      refine zr_if_eq (tgt := 703) C.hx C.hb dL_law_696 (by decide) ⟨by omega, by omega⟩ (fun h9 => by exfalso; omega) (fun _ => ?_)
      refine lv_lconst (v := 1) C.hx C.hb dL_law_699 rfl ?_
      refine lv_goto (tgt := 704) C.hx C.hb dL_law_700 (by decide) ?_
      refine zr_lcmp_eqT (tgt := 710) C.hx C.hb (show (zI (al (sc xs (5 * (j : Int) + 1)))).toInt64 = 1 from by rw [show al (sc xs (5 * (j : Int) + 1)) = 1 by omega]; rfl) dL_law_704 dL_law_705 (by decide) ?_
      refine lv_goto (tgt := 1825) C.hx C.hb dL_law_710 (by decide) ?_
      refine W.widen (k := cells + 2) (n := slots + 12) (by omega) (by omega) ?_
      have hl := lv_sub hl (l' := [(4, .int (zI (5 * (j : Int)))), (0, .ref b), (1, .ref (q 0)), (2, .ref (r 0)), (3, .ref o)]) [2, 3, 4, 5, 6] rfl
      exact K _ hd0 H locs ls ⟨pa, sp, al, dg, co, da, mb, dd, ah, wl, lo, n, td, wn, co', da', mo, st, mr, 0, (vp_updL f 0 (zI (al (sc xs (5 * (j : Int) + 1)))).toInt64), R, by omega, hst, hmr, hC, hM, hO⟩ hS hl
  · have b1 := b1
    refine lv_aload_n C.hx C.hb dL_law_650 rfl (lv_at hl 2 rfl) ?_
    refine lv_aload_n C.hx C.hb dL_law_651 rfl (lv_at hl 1 rfl) ?_
    refine lv_iload C.hx C.hb dL_law_652 (lv_at hl 0 rfl) ?_
    refine zr_iconst C.hx C.hb dL_law_654 ?_
    refine zr_iadd (v := 5 * (j : Int) + 1) C.hx C.hb rfl dL_law_655 ?_
    refine zr_sld (s := s.setDrawn d0) C.hx C.hb C.hX C.hbl C.hbA hS (i := 5 * (j : Int) + 1) (by omega) (by omega) C.hLN dL_law_656 ?_
    refine lv_aload_n C.hx C.hb dL_law_657 rfl (lv_at hl 4 rfl) ?_
    refine zcallLW (As := [.ref (q 0), .int (zI (sc xs (5 * (j : Int) + 1))), .ref o]) (rest := []) ⟨C.hx, C.hb, C.hml, C.hown, dr_words C.hts _⟩ C.hK (kL_isAlivex1 l D C.hl0 cI cZ cJ q o C.hN C.hN2 pa sp al dg co da mb dd ah wl lo n td wn f R.1.1 (sc xs (5 * (j : Int) + 1)) (by omega) (by omega)) (vx_cwSW 3 (dr_words C.hts _) gL_law_L_isAlive rfl rfl rfl (by decide +kernel) ⟨Nat.le_of_ble_eq_true rfl, Nat.le_of_ble_eq_true rfl⟩) hC hO (C.tk hS) C.hE hS C.hA3 rfl hl.1 rfl (Nat.le_of_ble_eq_true rfl) dL_law_658 ⟨C.ok1 hcs.1 (by omega), C.ok2 hcs.2 (by omega)⟩ (fun H locs hC hO hS _ hkk => ?_)
    have hM := zkeep hM hkk C.dM
    refine lv_istore (lv' := [(5, .int (zI 1)), (4, .int (zI (5 * (j : Int)))), (0, .ref b), (1, .ref (q 0)), (2, .ref (r 0)), (3, .ref o)]) C.hx C.hb dL_law_661 hl (by decide) rfl (fun ls hl => ?_)
    refine lv_aload_n C.hx C.hb dL_law_663 rfl (lv_at hl 4 rfl) ?_
    refine lv_aload_n C.hx C.hb dL_law_664 rfl (lv_at hl 2 rfl) ?_
    refine lv_iload C.hx C.hb dL_law_665 (lv_at hl 1 rfl) ?_
    refine zr_iconst C.hx C.hb dL_law_667 ?_
    refine zr_iadd (v := 5 * (j : Int) + 1) C.hx C.hb rfl dL_law_668 ?_
    refine zr_sld (s := s.setDrawn d0) C.hx C.hb C.hX C.hbl C.hbA hS (i := 5 * (j : Int) + 1) (by omega) (by omega) C.hLN dL_law_669 ?_
    refine zcallV (ci := 3) (q0 := 0) (cq := (RX3, TX3, 12)) (As := [.int (zI (sc xs (5 * (j : Int) + 1)))]) (rest := []) ⟨C.hx, C.hb, C.hml, C.hown, dr_words C.hts _⟩ C.hK2 (kX3_isAlivee1 l D cI cZ r C.hNr pa sp al co' da' mo st mr th n td wn R.1.1 (sc xs (5 * (j : Int) + 1)) (by omega) (by omega)) (cwV 1 (dr_words C.hts _) gL_law_X3_isAlive rfl rfl rfl (by decide +kernel) ⟨Nat.le_of_ble_eq_true rfl, Nat.le_of_ble_eq_true rfl⟩) hM hS C.hA2 rfl rfl rfl hl.1 rfl (Nat.le_of_ble_eq_true rfl) dL_law_670 ⟨C.ok1 hcs.1 (by omega), C.ok2 hcs.2 (by omega)⟩ (fun H locs hM hS _ hkk => ?_)
    have hC := zkeep hC hkk C.dC
    have hO := zkeep hO hkk C.dO
    refine W.eq (g2 := F0 m 673 ls [.int (zI 0)]) rfl ?_
    refine lv_istore (lv' := [(6, .int (zI 0)), (5, .int (zI 1)), (4, .int (zI (5 * (j : Int)))), (0, .ref b), (1, .ref (q 0)), (2, .ref (r 0)), (3, .ref o)]) C.hx C.hb dL_law_673 hl (by decide) rfl (fun ls hl => ?_)
    refine lv_aload_n C.hx C.hb dL_law_675 rfl (lv_at hl 5 rfl) ?_
    refine zcallV (ci := 3) (q0 := 0) (cq := (RX3, TX3, 12)) (As := []) (rest := []) ⟨C.hx, C.hb, C.hml, C.hown, dr_words C.hts _⟩ C.hK2 (kX3_thrown l D cI cZ r C.hNr pa sp al co' da' mo st mr 1 n td wn) (cwV 0 (dr_words C.hts _) gL_law_X3_thrown rfl rfl rfl (by decide +kernel) ⟨Nat.le_of_ble_eq_true rfl, Nat.le_of_ble_eq_true rfl⟩) hM hS C.hA2 rfl rfl rfl hl.1 rfl (Nat.le_of_ble_eq_true rfl) dL_law_676 ⟨C.ok1 hcs.1 (by omega), C.ok2 hcs.2 (by omega)⟩ (fun H locs hM hS _ hkk => ?_)
    have hC := zkeep hC hkk C.dC
    have hO := zkeep hO hkk C.dO
    refine W.eq (g2 := F0 m 679 ls [.int (zI 1)]) rfl ?_
    refine lv_iload C.hx C.hb dL_law_679 (lv_at hl 1 rfl) ?_
    refine zr_icmp_eqT (tgt := 686) C.hx C.hb (rfl) dL_law_681 (by decide) ?_
    refine lv_iload C.hx C.hb dL_law_686 (lv_at hl 1 rfl) ?_
    refine zr_if_ne (tgt := 710) C.hx C.hb dL_law_688 (by decide) ⟨by decide, by decide⟩ (fun _ => ?_) (fun h9 => by exfalso; revert h9; decide)
    refine lv_goto (tgt := 1825) C.hx C.hb dL_law_710 (by decide) ?_
    refine W.widen (k := cells + 2) (n := slots + 12) (by omega) (by omega) ?_
    have hl := lv_sub hl (l' := [(4, .int (zI (5 * (j : Int)))), (0, .ref b), (1, .ref (q 0)), (2, .ref (r 0)), (3, .ref o)]) [2, 3, 4, 5, 6] rfl
    exact K _ hd0 H locs ls ⟨pa, sp, al, dg, co, da, mb, dd, ah, wl, lo, n, td, wn, co', da', mo, st, mr, 1, f, R, by omega, hst, hmr, hC, hM, hO⟩ hS hl
set_option maxHeartbeats 4000000 in
set_option maxRecDepth 100000 in
theorem law_c10 {p : Program} {l : Launch} {e : Env} {s : State} {m : MethodId} {below : List Frame} {meth : Method} {c : Code} {b L : Nat} {xs : Nat → Int32} {Q : State → Prop} {D : va_G} {cI cZ cJ : ClassId} {q r : Nat → Nat} {o : Nat} (C : zCx p l s m meth c b L xs D cI cZ cJ q r o) {d0 : Drawn} (hd0 : s.drawn.sameBut d0 lw_cs) {H : Heap} {locs : List Loc} {cells slots : Nat} (hcs : cells + 2 ≤ 601024 ∧ slots + 12 ≤ 7293034) {j : Nat} (hj : 5 * (j : Int) + 5 ≤ (L : Int)) (hj2 : j ≤ 512) {ls : Array Slot} (hZ : zLS D cI cZ cJ q r o j H) (hS : va_S (fun a => s.heap.size ≤ a) s.heap H locs) (hl : lv_has ls 9 [(4, .int (zI (5 * (j : Int)))), (0, .ref b), (1, .ref (q 0)), (2, .ref (r 0)), (3, .ref o)])
    (K : ∀ (d1 : Drawn), s.drawn.sameBut d1 lw_cs → ∀ (H1 : Heap) (locs1 : List Loc) (ls1 : Array Slot), zLS D cI cZ cJ q r o (j + 1) H1 → va_S (fun a => s.heap.size ≤ a) s.heap H1 locs1 → lv_has ls1 9 [(4, .int (zI (5 * (j : Int)))), (0, .ref b), (1, .ref (q 0)), (2, .ref (r 0)), (3, .ref o)] → W p l e room_1 (s.setDrawn d1) m #[Value.ref b] below meth c H1 locs1 (cells + 2) (slots + 12) Q (F0 m 1825 ls1 [])) :
    W p l e room_1 (s.setDrawn d0) m #[Value.ref b] below meth c H locs cells slots Q (F0 m 713 ls []) := by
  obtain ⟨pa, sp, al, dg, co, da, mb, dd, ah, wl, lo, n, td, wn, co', da', mo, st, mr, th, f, R, htd, hst, hmr, hC, hM, hO⟩ := hZ
  have hn := R.1.1
  have htd0 := R.1.2
  have hLN := C.hLN
  have hs1 := sc_rg xs (5 * (j : Int) + 1)
  have hs2 := sc_rg xs (5 * (j : Int) + 2)
  have hs3 := sc_rg xs (5 * (j : Int) + 3)
  have hs4 := sc_rg xs (5 * (j : Int) + 4)
  by_cases b1 : 0 ≤ sc xs (5 * (j : Int) + 1) ∧ sc xs (5 * (j : Int) + 1) < (n : Int)
  · have b1 := b1
    refine lv_aload_n C.hx C.hb dL_law_713 rfl (lv_at hl 2 rfl) ?_
    refine lv_aload_n C.hx C.hb dL_law_714 rfl (lv_at hl 1 rfl) ?_
    refine lv_iload C.hx C.hb dL_law_715 (lv_at hl 0 rfl) ?_
    refine zr_iconst C.hx C.hb dL_law_717 ?_
    refine zr_iadd (v := 5 * (j : Int) + 1) C.hx C.hb rfl dL_law_718 ?_
    refine zr_sld (s := s.setDrawn d0) C.hx C.hb C.hX C.hbl C.hbA hS (i := 5 * (j : Int) + 1) (by omega) (by omega) C.hLN dL_law_719 ?_
    refine lv_aload_n C.hx C.hb dL_law_720 rfl (lv_at hl 4 rfl) ?_
    refine zcallLW (As := [.ref (q 0), .int (zI (sc xs (5 * (j : Int) + 1))), .ref o]) (rest := []) ⟨C.hx, C.hb, C.hml, C.hown, dr_words C.hts _⟩ C.hK (kL_parentOfok l D C.hl0 cI cZ cJ q o C.hN C.hN2 pa sp al dg co da mb dd ah wl lo n td wn f R.1.1 R.2.1.1 (sc xs (5 * (j : Int) + 1)) (by omega)) (vx_cwSW 3 (dr_words C.hts _) gL_law_L_parentOf rfl rfl rfl (by decide +kernel) ⟨Nat.le_of_ble_eq_true rfl, Nat.le_of_ble_eq_true rfl⟩) hC hO (C.tk hS) C.hE hS C.hA3 rfl hl.1 rfl (Nat.le_of_ble_eq_true rfl) dL_law_721 ⟨C.ok1 hcs.1 (by omega), C.ok2 hcs.2 (by omega)⟩ (fun H locs hC hO hS _ hkk => ?_)
    have hM := zkeep hM hkk C.dM
    refine lv_istore (lv' := [(5, .int (zI 0)), (4, .int (zI (5 * (j : Int)))), (0, .ref b), (1, .ref (q 0)), (2, .ref (r 0)), (3, .ref o)]) C.hx C.hb dL_law_724 hl (by decide) rfl (fun ls hl => ?_)
    refine lv_aload_n C.hx C.hb dL_law_726 rfl (lv_at hl 4 rfl) ?_
    refine lv_aload_n C.hx C.hb dL_law_727 rfl (lv_at hl 2 rfl) ?_
    refine lv_iload C.hx C.hb dL_law_728 (lv_at hl 1 rfl) ?_
    refine zr_iconst C.hx C.hb dL_law_730 ?_
    refine zr_iadd (v := 5 * (j : Int) + 1) C.hx C.hb rfl dL_law_731 ?_
    refine zr_sld (s := s.setDrawn d0) C.hx C.hb C.hX C.hbl C.hbA hS (i := 5 * (j : Int) + 1) (by omega) (by omega) C.hLN dL_law_732 ?_
    refine zcallV (ci := 3) (q0 := 0) (cq := (RX3, TX3, 12)) (As := [.int (zI (sc xs (5 * (j : Int) + 1)))]) (rest := []) ⟨C.hx, C.hb, C.hml, C.hown, dr_words C.hts _⟩ C.hK2 (kX3_parentOfok l D cI cZ r C.hNr pa sp al co' da' mo st mr th n td wn R.1.1 R.2.1.1 (sc xs (5 * (j : Int) + 1)) (by omega) (by omega)) (cwV 1 (dr_words C.hts _) gL_law_X3_parentOf rfl rfl rfl (by decide +kernel) ⟨Nat.le_of_ble_eq_true rfl, Nat.le_of_ble_eq_true rfl⟩) hM hS C.hA2 rfl rfl rfl hl.1 rfl (Nat.le_of_ble_eq_true rfl) dL_law_733 ⟨C.ok1 hcs.1 (by omega), C.ok2 hcs.2 (by omega)⟩ (fun H locs hM hS _ hkk => ?_)
    have hC := zkeep hC hkk C.dC
    have hO := zkeep hO hkk C.dO
    refine W.eq (g2 := F0 m 736 ls [.int (zI (pa (sc xs (5 * (j : Int) + 1))))]) rfl ?_
    refine lv_istore (lv' := [(6, .int (zI (pa (sc xs (5 * (j : Int) + 1))))), (5, .int (zI 0)), (4, .int (zI (5 * (j : Int)))), (0, .ref b), (1, .ref (q 0)), (2, .ref (r 0)), (3, .ref o)]) C.hx C.hb dL_law_736 hl (by decide) rfl (fun ls hl => ?_)
    refine lv_aload_n C.hx C.hb dL_law_738 rfl (lv_at hl 5 rfl) ?_
    refine zcallV (ci := 3) (q0 := 0) (cq := (RX3, TX3, 12)) (As := []) (rest := []) ⟨C.hx, C.hb, C.hml, C.hown, dr_words C.hts _⟩ C.hK2 (kX3_thrown l D cI cZ r C.hNr pa sp al co' da' mo st mr 0 n td wn) (cwV 0 (dr_words C.hts _) gL_law_X3_thrown rfl rfl rfl (by decide +kernel) ⟨Nat.le_of_ble_eq_true rfl, Nat.le_of_ble_eq_true rfl⟩) hM hS C.hA2 rfl rfl rfl hl.1 rfl (Nat.le_of_ble_eq_true rfl) dL_law_739 ⟨C.ok1 hcs.1 (by omega), C.ok2 hcs.2 (by omega)⟩ (fun H locs hM hS _ hkk => ?_)
    have hC := zkeep hC hkk C.dC
    have hO := zkeep hO hkk C.dO
    refine W.eq (g2 := F0 m 742 ls [.int (zI 0)]) rfl ?_
    refine lv_iload C.hx C.hb dL_law_742 (lv_at hl 1 rfl) ?_
    refine zr_icmp_eqT (tgt := 749) C.hx C.hb (rfl) dL_law_744 (by decide) ?_
    refine lv_iload C.hx C.hb dL_law_749 (lv_at hl 1 rfl) ?_
    refine zr_if_ne (tgt := 766) C.hx C.hb dL_law_751 (by decide) ⟨by decide, by decide⟩ (fun h9 => by exfalso; revert h9; decide) (fun _ => ?_)
    refine lv_aload_n C.hx C.hb dL_law_754 rfl (lv_at hl 6 rfl) ?_
    refine zr_iconst C.hx C.hb dL_law_755 ?_
    refine zr_lald0 C.hx C.hb C.hK hO 0 2 rfl rfl dL_law_756 ?_
    refine W.eq (g2 := F0 m 757 ls [.long ((zI (pa (sc xs (5 * (j : Int) + 1)))).toInt64)]) rfl ?_
    refine lv_iload C.hx C.hb dL_law_757 (lv_at hl 0 rfl) ?_
    refine lv_i2l C.hx C.hb dL_law_759 rfl ?_
    refine zr_lcmp_eqT (tgt := 766) C.hx C.hb (rfl) dL_law_760 dL_law_761 (by decide) ?_
    refine lv_goto (tgt := 1825) C.hx C.hb dL_law_766 (by decide) ?_
    refine W.widen (k := cells + 2) (n := slots + 12) (by omega) (by omega) ?_
    have hl := lv_sub hl (l' := [(4, .int (zI (5 * (j : Int)))), (0, .ref b), (1, .ref (q 0)), (2, .ref (r 0)), (3, .ref o)]) [2, 3, 4, 5, 6] rfl
    exact K _ hd0 H locs ls ⟨pa, sp, al, dg, co, da, mb, dd, ah, wl, lo, n, td, wn, co', da', mo, st, mr, 0, (vp_updL f 0 (zI (pa (sc xs (5 * (j : Int) + 1)))).toInt64), R, by omega, hst, hmr, hC, hM, hO⟩ hS hl
  · have b1 := b1
    refine lv_aload_n C.hx C.hb dL_law_713 rfl (lv_at hl 2 rfl) ?_
    refine lv_aload_n C.hx C.hb dL_law_714 rfl (lv_at hl 1 rfl) ?_
    refine lv_iload C.hx C.hb dL_law_715 (lv_at hl 0 rfl) ?_
    refine zr_iconst C.hx C.hb dL_law_717 ?_
    refine zr_iadd (v := 5 * (j : Int) + 1) C.hx C.hb rfl dL_law_718 ?_
    refine zr_sld (s := s.setDrawn d0) C.hx C.hb C.hX C.hbl C.hbA hS (i := 5 * (j : Int) + 1) (by omega) (by omega) C.hLN dL_law_719 ?_
    refine lv_aload_n C.hx C.hb dL_law_720 rfl (lv_at hl 4 rfl) ?_
    refine zcallLW (As := [.ref (q 0), .int (zI (sc xs (5 * (j : Int) + 1))), .ref o]) (rest := []) ⟨C.hx, C.hb, C.hml, C.hown, dr_words C.hts _⟩ C.hK (kL_parentOfx1 l D C.hl0 cI cZ cJ q o C.hN C.hN2 pa sp al dg co da mb dd ah wl lo n td wn f R.1.1 (sc xs (5 * (j : Int) + 1)) (by omega) (by omega)) (vx_cwSW 3 (dr_words C.hts _) gL_law_L_parentOf rfl rfl rfl (by decide +kernel) ⟨Nat.le_of_ble_eq_true rfl, Nat.le_of_ble_eq_true rfl⟩) hC hO (C.tk hS) C.hE hS C.hA3 rfl hl.1 rfl (Nat.le_of_ble_eq_true rfl) dL_law_721 ⟨C.ok1 hcs.1 (by omega), C.ok2 hcs.2 (by omega)⟩ (fun H locs hC hO hS _ hkk => ?_)
    have hM := zkeep hM hkk C.dM
    refine lv_istore (lv' := [(5, .int (zI 1)), (4, .int (zI (5 * (j : Int)))), (0, .ref b), (1, .ref (q 0)), (2, .ref (r 0)), (3, .ref o)]) C.hx C.hb dL_law_724 hl (by decide) rfl (fun ls hl => ?_)
    refine lv_aload_n C.hx C.hb dL_law_726 rfl (lv_at hl 4 rfl) ?_
    refine lv_aload_n C.hx C.hb dL_law_727 rfl (lv_at hl 2 rfl) ?_
    refine lv_iload C.hx C.hb dL_law_728 (lv_at hl 1 rfl) ?_
    refine zr_iconst C.hx C.hb dL_law_730 ?_
    refine zr_iadd (v := 5 * (j : Int) + 1) C.hx C.hb rfl dL_law_731 ?_
    refine zr_sld (s := s.setDrawn d0) C.hx C.hb C.hX C.hbl C.hbA hS (i := 5 * (j : Int) + 1) (by omega) (by omega) C.hLN dL_law_732 ?_
    refine zcallV (ci := 3) (q0 := 0) (cq := (RX3, TX3, 12)) (As := [.int (zI (sc xs (5 * (j : Int) + 1)))]) (rest := []) ⟨C.hx, C.hb, C.hml, C.hown, dr_words C.hts _⟩ C.hK2 (kX3_parentOfe1 l D cI cZ r C.hNr pa sp al co' da' mo st mr th n td wn R.1.1 (sc xs (5 * (j : Int) + 1)) (by omega) (by omega)) (cwV 1 (dr_words C.hts _) gL_law_X3_parentOf rfl rfl rfl (by decide +kernel) ⟨Nat.le_of_ble_eq_true rfl, Nat.le_of_ble_eq_true rfl⟩) hM hS C.hA2 rfl rfl rfl hl.1 rfl (Nat.le_of_ble_eq_true rfl) dL_law_733 ⟨C.ok1 hcs.1 (by omega), C.ok2 hcs.2 (by omega)⟩ (fun H locs hM hS _ hkk => ?_)
    have hC := zkeep hC hkk C.dC
    have hO := zkeep hO hkk C.dO
    refine W.eq (g2 := F0 m 736 ls [.int (zI 0)]) rfl ?_
    refine lv_istore (lv' := [(6, .int (zI 0)), (5, .int (zI 1)), (4, .int (zI (5 * (j : Int)))), (0, .ref b), (1, .ref (q 0)), (2, .ref (r 0)), (3, .ref o)]) C.hx C.hb dL_law_736 hl (by decide) rfl (fun ls hl => ?_)
    refine lv_aload_n C.hx C.hb dL_law_738 rfl (lv_at hl 5 rfl) ?_
    refine zcallV (ci := 3) (q0 := 0) (cq := (RX3, TX3, 12)) (As := []) (rest := []) ⟨C.hx, C.hb, C.hml, C.hown, dr_words C.hts _⟩ C.hK2 (kX3_thrown l D cI cZ r C.hNr pa sp al co' da' mo st mr 1 n td wn) (cwV 0 (dr_words C.hts _) gL_law_X3_thrown rfl rfl rfl (by decide +kernel) ⟨Nat.le_of_ble_eq_true rfl, Nat.le_of_ble_eq_true rfl⟩) hM hS C.hA2 rfl rfl rfl hl.1 rfl (Nat.le_of_ble_eq_true rfl) dL_law_739 ⟨C.ok1 hcs.1 (by omega), C.ok2 hcs.2 (by omega)⟩ (fun H locs hM hS _ hkk => ?_)
    have hC := zkeep hC hkk C.dC
    have hO := zkeep hO hkk C.dO
    refine W.eq (g2 := F0 m 742 ls [.int (zI 1)]) rfl ?_
    refine lv_iload C.hx C.hb dL_law_742 (lv_at hl 1 rfl) ?_
    refine zr_icmp_eqT (tgt := 749) C.hx C.hb (rfl) dL_law_744 (by decide) ?_
    refine lv_iload C.hx C.hb dL_law_749 (lv_at hl 1 rfl) ?_
    refine zr_if_ne (tgt := 766) C.hx C.hb dL_law_751 (by decide) ⟨by decide, by decide⟩ (fun _ => ?_) (fun h9 => by exfalso; revert h9; decide)
    refine lv_goto (tgt := 1825) C.hx C.hb dL_law_766 (by decide) ?_
    refine W.widen (k := cells + 2) (n := slots + 12) (by omega) (by omega) ?_
    have hl := lv_sub hl (l' := [(4, .int (zI (5 * (j : Int)))), (0, .ref b), (1, .ref (q 0)), (2, .ref (r 0)), (3, .ref o)]) [2, 3, 4, 5, 6] rfl
    exact K _ hd0 H locs ls ⟨pa, sp, al, dg, co, da, mb, dd, ah, wl, lo, n, td, wn, co', da', mo, st, mr, 1, f, R, by omega, hst, hmr, hC, hM, hO⟩ hS hl
set_option maxHeartbeats 4000000 in
set_option maxRecDepth 100000 in
theorem law_c11 {p : Program} {l : Launch} {e : Env} {s : State} {m : MethodId} {below : List Frame} {meth : Method} {c : Code} {b L : Nat} {xs : Nat → Int32} {Q : State → Prop} {D : va_G} {cI cZ cJ : ClassId} {q r : Nat → Nat} {o : Nat} (C : zCx p l s m meth c b L xs D cI cZ cJ q r o) {d0 : Drawn} (hd0 : s.drawn.sameBut d0 lw_cs) {H : Heap} {locs : List Loc} {cells slots : Nat} (hcs : cells + 2 ≤ 601024 ∧ slots + 12 ≤ 7293034) {j : Nat} (hj : 5 * (j : Int) + 5 ≤ (L : Int)) (hj2 : j ≤ 512) {ls : Array Slot} (hZ : zLS D cI cZ cJ q r o j H) (hS : va_S (fun a => s.heap.size ≤ a) s.heap H locs) (hl : lv_has ls 9 [(4, .int (zI (5 * (j : Int)))), (0, .ref b), (1, .ref (q 0)), (2, .ref (r 0)), (3, .ref o)])
    (K : ∀ (d1 : Drawn), s.drawn.sameBut d1 lw_cs → ∀ (H1 : Heap) (locs1 : List Loc) (ls1 : Array Slot), zLS D cI cZ cJ q r o (j + 1) H1 → va_S (fun a => s.heap.size ≤ a) s.heap H1 locs1 → lv_has ls1 9 [(4, .int (zI (5 * (j : Int)))), (0, .ref b), (1, .ref (q 0)), (2, .ref (r 0)), (3, .ref o)] → W p l e room_1 (s.setDrawn d1) m #[Value.ref b] below meth c H1 locs1 (cells + 2) (slots + 12) Q (F0 m 1825 ls1 [])) :
    W p l e room_1 (s.setDrawn d0) m #[Value.ref b] below meth c H locs cells slots Q (F0 m 769 ls []) := by
  obtain ⟨pa, sp, al, dg, co, da, mb, dd, ah, wl, lo, n, td, wn, co', da', mo, st, mr, th, f, R, htd, hst, hmr, hC, hM, hO⟩ := hZ
  have hn := R.1.1
  have htd0 := R.1.2
  have hLN := C.hLN
  have hs1 := sc_rg xs (5 * (j : Int) + 1)
  have hs2 := sc_rg xs (5 * (j : Int) + 2)
  have hs3 := sc_rg xs (5 * (j : Int) + 3)
  have hs4 := sc_rg xs (5 * (j : Int) + 4)
  by_cases b1 : 0 ≤ sc xs (5 * (j : Int) + 1) ∧ sc xs (5 * (j : Int) + 1) < (n : Int)
  · have b1 := b1
    refine lv_aload_n C.hx C.hb dL_law_769 rfl (lv_at hl 2 rfl) ?_
    refine lv_aload_n C.hx C.hb dL_law_770 rfl (lv_at hl 1 rfl) ?_
    refine lv_iload C.hx C.hb dL_law_771 (lv_at hl 0 rfl) ?_
    refine zr_iconst C.hx C.hb dL_law_773 ?_
    refine zr_iadd (v := 5 * (j : Int) + 1) C.hx C.hb rfl dL_law_774 ?_
    refine zr_sld (s := s.setDrawn d0) C.hx C.hb C.hX C.hbl C.hbA hS (i := 5 * (j : Int) + 1) (by omega) (by omega) C.hLN dL_law_775 ?_
    refine lv_aload_n C.hx C.hb dL_law_776 rfl (lv_at hl 4 rfl) ?_
    refine zcallLW (As := [.ref (q 0), .int (zI (sc xs (5 * (j : Int) + 1))), .ref o]) (rest := []) ⟨C.hx, C.hb, C.hml, C.hown, dr_words C.hts _⟩ C.hK (kL_marriedTook l D C.hl0 cI cZ cJ q o C.hN C.hN2 pa sp al dg co da mb dd ah wl lo n td wn f R.1.1 R.2.1.2.1 (sc xs (5 * (j : Int) + 1)) (by omega)) (vx_cwSW 3 (dr_words C.hts _) gL_law_L_marriedTo rfl rfl rfl (by decide +kernel) ⟨Nat.le_of_ble_eq_true rfl, Nat.le_of_ble_eq_true rfl⟩) hC hO (C.tk hS) C.hE hS C.hA3 rfl hl.1 rfl (Nat.le_of_ble_eq_true rfl) dL_law_777 ⟨C.ok1 hcs.1 (by omega), C.ok2 hcs.2 (by omega)⟩ (fun H locs hC hO hS _ hkk => ?_)
    have hM := zkeep hM hkk C.dM
    refine lv_istore (lv' := [(5, .int (zI 0)), (4, .int (zI (5 * (j : Int)))), (0, .ref b), (1, .ref (q 0)), (2, .ref (r 0)), (3, .ref o)]) C.hx C.hb dL_law_780 hl (by decide) rfl (fun ls hl => ?_)
    refine lv_aload_n C.hx C.hb dL_law_782 rfl (lv_at hl 4 rfl) ?_
    refine lv_aload_n C.hx C.hb dL_law_783 rfl (lv_at hl 2 rfl) ?_
    refine lv_iload C.hx C.hb dL_law_784 (lv_at hl 1 rfl) ?_
    refine zr_iconst C.hx C.hb dL_law_786 ?_
    refine zr_iadd (v := 5 * (j : Int) + 1) C.hx C.hb rfl dL_law_787 ?_
    refine zr_sld (s := s.setDrawn d0) C.hx C.hb C.hX C.hbl C.hbA hS (i := 5 * (j : Int) + 1) (by omega) (by omega) C.hLN dL_law_788 ?_
    refine zcallV (ci := 3) (q0 := 0) (cq := (RX3, TX3, 12)) (As := [.int (zI (sc xs (5 * (j : Int) + 1)))]) (rest := []) ⟨C.hx, C.hb, C.hml, C.hown, dr_words C.hts _⟩ C.hK2 (kX3_marriedTook l D cI cZ r C.hNr pa sp al co' da' mo st mr th n td wn R.1.1 R.2.1.2.1 (sc xs (5 * (j : Int) + 1)) (by omega) (by omega)) (cwV 1 (dr_words C.hts _) gL_law_X3_marriedTo rfl rfl rfl (by decide +kernel) ⟨Nat.le_of_ble_eq_true rfl, Nat.le_of_ble_eq_true rfl⟩) hM hS C.hA2 rfl rfl rfl hl.1 rfl (Nat.le_of_ble_eq_true rfl) dL_law_789 ⟨C.ok1 hcs.1 (by omega), C.ok2 hcs.2 (by omega)⟩ (fun H locs hM hS _ hkk => ?_)
    have hC := zkeep hC hkk C.dC
    have hO := zkeep hO hkk C.dO
    refine W.eq (g2 := F0 m 792 ls [.int (zI (sp (sc xs (5 * (j : Int) + 1))))]) rfl ?_
    refine lv_istore (lv' := [(6, .int (zI (sp (sc xs (5 * (j : Int) + 1))))), (5, .int (zI 0)), (4, .int (zI (5 * (j : Int)))), (0, .ref b), (1, .ref (q 0)), (2, .ref (r 0)), (3, .ref o)]) C.hx C.hb dL_law_792 hl (by decide) rfl (fun ls hl => ?_)
    refine lv_aload_n C.hx C.hb dL_law_794 rfl (lv_at hl 5 rfl) ?_
    refine zcallV (ci := 3) (q0 := 0) (cq := (RX3, TX3, 12)) (As := []) (rest := []) ⟨C.hx, C.hb, C.hml, C.hown, dr_words C.hts _⟩ C.hK2 (kX3_thrown l D cI cZ r C.hNr pa sp al co' da' mo st mr 0 n td wn) (cwV 0 (dr_words C.hts _) gL_law_X3_thrown rfl rfl rfl (by decide +kernel) ⟨Nat.le_of_ble_eq_true rfl, Nat.le_of_ble_eq_true rfl⟩) hM hS C.hA2 rfl rfl rfl hl.1 rfl (Nat.le_of_ble_eq_true rfl) dL_law_795 ⟨C.ok1 hcs.1 (by omega), C.ok2 hcs.2 (by omega)⟩ (fun H locs hM hS _ hkk => ?_)
    have hC := zkeep hC hkk C.dC
    have hO := zkeep hO hkk C.dO
    refine W.eq (g2 := F0 m 798 ls [.int (zI 0)]) rfl ?_
    refine lv_iload C.hx C.hb dL_law_798 (lv_at hl 1 rfl) ?_
    refine zr_icmp_eqT (tgt := 805) C.hx C.hb (rfl) dL_law_800 (by decide) ?_
    refine lv_iload C.hx C.hb dL_law_805 (lv_at hl 1 rfl) ?_
    refine zr_if_ne (tgt := 822) C.hx C.hb dL_law_807 (by decide) ⟨by decide, by decide⟩ (fun h9 => by exfalso; revert h9; decide) (fun _ => ?_)
    refine lv_aload_n C.hx C.hb dL_law_810 rfl (lv_at hl 6 rfl) ?_
    refine zr_iconst C.hx C.hb dL_law_811 ?_
    refine zr_lald0 C.hx C.hb C.hK hO 0 2 rfl rfl dL_law_812 ?_
    refine W.eq (g2 := F0 m 813 ls [.long ((zI (sp (sc xs (5 * (j : Int) + 1)))).toInt64)]) rfl ?_
    refine lv_iload C.hx C.hb dL_law_813 (lv_at hl 0 rfl) ?_
    refine lv_i2l C.hx C.hb dL_law_815 rfl ?_
    refine zr_lcmp_eqT (tgt := 822) C.hx C.hb (rfl) dL_law_816 dL_law_817 (by decide) ?_
    refine lv_goto (tgt := 1825) C.hx C.hb dL_law_822 (by decide) ?_
    refine W.widen (k := cells + 2) (n := slots + 12) (by omega) (by omega) ?_
    have hl := lv_sub hl (l' := [(4, .int (zI (5 * (j : Int)))), (0, .ref b), (1, .ref (q 0)), (2, .ref (r 0)), (3, .ref o)]) [2, 3, 4, 5, 6] rfl
    exact K _ hd0 H locs ls ⟨pa, sp, al, dg, co, da, mb, dd, ah, wl, lo, n, td, wn, co', da', mo, st, mr, 0, (vp_updL f 0 (zI (sp (sc xs (5 * (j : Int) + 1)))).toInt64), R, by omega, hst, hmr, hC, hM, hO⟩ hS hl
  · have b1 := b1
    refine lv_aload_n C.hx C.hb dL_law_769 rfl (lv_at hl 2 rfl) ?_
    refine lv_aload_n C.hx C.hb dL_law_770 rfl (lv_at hl 1 rfl) ?_
    refine lv_iload C.hx C.hb dL_law_771 (lv_at hl 0 rfl) ?_
    refine zr_iconst C.hx C.hb dL_law_773 ?_
    refine zr_iadd (v := 5 * (j : Int) + 1) C.hx C.hb rfl dL_law_774 ?_
    refine zr_sld (s := s.setDrawn d0) C.hx C.hb C.hX C.hbl C.hbA hS (i := 5 * (j : Int) + 1) (by omega) (by omega) C.hLN dL_law_775 ?_
    refine lv_aload_n C.hx C.hb dL_law_776 rfl (lv_at hl 4 rfl) ?_
    refine zcallLW (As := [.ref (q 0), .int (zI (sc xs (5 * (j : Int) + 1))), .ref o]) (rest := []) ⟨C.hx, C.hb, C.hml, C.hown, dr_words C.hts _⟩ C.hK (kL_marriedTox1 l D C.hl0 cI cZ cJ q o C.hN C.hN2 pa sp al dg co da mb dd ah wl lo n td wn f R.1.1 (sc xs (5 * (j : Int) + 1)) (by omega) (by omega)) (vx_cwSW 3 (dr_words C.hts _) gL_law_L_marriedTo rfl rfl rfl (by decide +kernel) ⟨Nat.le_of_ble_eq_true rfl, Nat.le_of_ble_eq_true rfl⟩) hC hO (C.tk hS) C.hE hS C.hA3 rfl hl.1 rfl (Nat.le_of_ble_eq_true rfl) dL_law_777 ⟨C.ok1 hcs.1 (by omega), C.ok2 hcs.2 (by omega)⟩ (fun H locs hC hO hS _ hkk => ?_)
    have hM := zkeep hM hkk C.dM
    refine lv_istore (lv' := [(5, .int (zI 1)), (4, .int (zI (5 * (j : Int)))), (0, .ref b), (1, .ref (q 0)), (2, .ref (r 0)), (3, .ref o)]) C.hx C.hb dL_law_780 hl (by decide) rfl (fun ls hl => ?_)
    refine lv_aload_n C.hx C.hb dL_law_782 rfl (lv_at hl 4 rfl) ?_
    refine lv_aload_n C.hx C.hb dL_law_783 rfl (lv_at hl 2 rfl) ?_
    refine lv_iload C.hx C.hb dL_law_784 (lv_at hl 1 rfl) ?_
    refine zr_iconst C.hx C.hb dL_law_786 ?_
    refine zr_iadd (v := 5 * (j : Int) + 1) C.hx C.hb rfl dL_law_787 ?_
    refine zr_sld (s := s.setDrawn d0) C.hx C.hb C.hX C.hbl C.hbA hS (i := 5 * (j : Int) + 1) (by omega) (by omega) C.hLN dL_law_788 ?_
    refine zcallV (ci := 3) (q0 := 0) (cq := (RX3, TX3, 12)) (As := [.int (zI (sc xs (5 * (j : Int) + 1)))]) (rest := []) ⟨C.hx, C.hb, C.hml, C.hown, dr_words C.hts _⟩ C.hK2 (kX3_marriedToe1 l D cI cZ r C.hNr pa sp al co' da' mo st mr th n td wn R.1.1 (sc xs (5 * (j : Int) + 1)) (by omega) (by omega)) (cwV 1 (dr_words C.hts _) gL_law_X3_marriedTo rfl rfl rfl (by decide +kernel) ⟨Nat.le_of_ble_eq_true rfl, Nat.le_of_ble_eq_true rfl⟩) hM hS C.hA2 rfl rfl rfl hl.1 rfl (Nat.le_of_ble_eq_true rfl) dL_law_789 ⟨C.ok1 hcs.1 (by omega), C.ok2 hcs.2 (by omega)⟩ (fun H locs hM hS _ hkk => ?_)
    have hC := zkeep hC hkk C.dC
    have hO := zkeep hO hkk C.dO
    refine W.eq (g2 := F0 m 792 ls [.int (zI 0)]) rfl ?_
    refine lv_istore (lv' := [(6, .int (zI 0)), (5, .int (zI 1)), (4, .int (zI (5 * (j : Int)))), (0, .ref b), (1, .ref (q 0)), (2, .ref (r 0)), (3, .ref o)]) C.hx C.hb dL_law_792 hl (by decide) rfl (fun ls hl => ?_)
    refine lv_aload_n C.hx C.hb dL_law_794 rfl (lv_at hl 5 rfl) ?_
    refine zcallV (ci := 3) (q0 := 0) (cq := (RX3, TX3, 12)) (As := []) (rest := []) ⟨C.hx, C.hb, C.hml, C.hown, dr_words C.hts _⟩ C.hK2 (kX3_thrown l D cI cZ r C.hNr pa sp al co' da' mo st mr 1 n td wn) (cwV 0 (dr_words C.hts _) gL_law_X3_thrown rfl rfl rfl (by decide +kernel) ⟨Nat.le_of_ble_eq_true rfl, Nat.le_of_ble_eq_true rfl⟩) hM hS C.hA2 rfl rfl rfl hl.1 rfl (Nat.le_of_ble_eq_true rfl) dL_law_795 ⟨C.ok1 hcs.1 (by omega), C.ok2 hcs.2 (by omega)⟩ (fun H locs hM hS _ hkk => ?_)
    have hC := zkeep hC hkk C.dC
    have hO := zkeep hO hkk C.dO
    refine W.eq (g2 := F0 m 798 ls [.int (zI 1)]) rfl ?_
    refine lv_iload C.hx C.hb dL_law_798 (lv_at hl 1 rfl) ?_
    refine zr_icmp_eqT (tgt := 805) C.hx C.hb (rfl) dL_law_800 (by decide) ?_
    refine lv_iload C.hx C.hb dL_law_805 (lv_at hl 1 rfl) ?_
    refine zr_if_ne (tgt := 822) C.hx C.hb dL_law_807 (by decide) ⟨by decide, by decide⟩ (fun _ => ?_) (fun h9 => by exfalso; revert h9; decide)
    refine lv_goto (tgt := 1825) C.hx C.hb dL_law_822 (by decide) ?_
    refine W.widen (k := cells + 2) (n := slots + 12) (by omega) (by omega) ?_
    have hl := lv_sub hl (l' := [(4, .int (zI (5 * (j : Int)))), (0, .ref b), (1, .ref (q 0)), (2, .ref (r 0)), (3, .ref o)]) [2, 3, 4, 5, 6] rfl
    exact K _ hd0 H locs ls ⟨pa, sp, al, dg, co, da, mb, dd, ah, wl, lo, n, td, wn, co', da', mo, st, mr, 1, f, R, by omega, hst, hmr, hC, hM, hO⟩ hS hl
set_option maxHeartbeats 4000000 in
set_option maxRecDepth 100000 in
theorem law_c12 {p : Program} {l : Launch} {e : Env} {s : State} {m : MethodId} {below : List Frame} {meth : Method} {c : Code} {b L : Nat} {xs : Nat → Int32} {Q : State → Prop} {D : va_G} {cI cZ cJ : ClassId} {q r : Nat → Nat} {o : Nat} (C : zCx p l s m meth c b L xs D cI cZ cJ q r o) {d0 : Drawn} (hd0 : s.drawn.sameBut d0 lw_cs) {H : Heap} {locs : List Loc} {cells slots : Nat} (hcs : cells + 2 ≤ 601024 ∧ slots + 12 ≤ 7293034) {j : Nat} (hj : 5 * (j : Int) + 5 ≤ (L : Int)) (hj2 : j ≤ 512) {ls : Array Slot} (hZ : zLS D cI cZ cJ q r o j H) (hS : va_S (fun a => s.heap.size ≤ a) s.heap H locs) (hl : lv_has ls 9 [(4, .int (zI (5 * (j : Int)))), (0, .ref b), (1, .ref (q 0)), (2, .ref (r 0)), (3, .ref o)])
    (K : ∀ (d1 : Drawn), s.drawn.sameBut d1 lw_cs → ∀ (H1 : Heap) (locs1 : List Loc) (ls1 : Array Slot), zLS D cI cZ cJ q r o (j + 1) H1 → va_S (fun a => s.heap.size ≤ a) s.heap H1 locs1 → lv_has ls1 9 [(4, .int (zI (5 * (j : Int)))), (0, .ref b), (1, .ref (q 0)), (2, .ref (r 0)), (3, .ref o)] → W p l e room_1 (s.setDrawn d1) m #[Value.ref b] below meth c H1 locs1 (cells + 2) (slots + 12) Q (F0 m 1825 ls1 [])) :
    W p l e room_1 (s.setDrawn d0) m #[Value.ref b] below meth c H locs cells slots Q (F0 m 825 ls []) := by
  obtain ⟨pa, sp, al, dg, co, da, mb, dd, ah, wl, lo, n, td, wn, co', da', mo, st, mr, th, f, R, htd, hst, hmr, hC, hM, hO⟩ := hZ
  have hn := R.1.1
  have htd0 := R.1.2
  have hLN := C.hLN
  have hs1 := sc_rg xs (5 * (j : Int) + 1)
  have hs2 := sc_rg xs (5 * (j : Int) + 2)
  have hs3 := sc_rg xs (5 * (j : Int) + 3)
  have hs4 := sc_rg xs (5 * (j : Int) + 4)
  by_cases b1 : 0 ≤ sc xs (5 * (j : Int) + 1) ∧ sc xs (5 * (j : Int) + 1) < (n : Int)
  · have b1 := b1
    by_cases b2 : 0 ≤ sc xs (5 * (j : Int) + 2) ∧ sc xs (5 * (j : Int) + 2) < (n : Int)
    · have b2 := b2
      refine lv_aload_n C.hx C.hb dL_law_825 rfl (lv_at hl 2 rfl) ?_
      refine lv_aload_n C.hx C.hb dL_law_826 rfl (lv_at hl 1 rfl) ?_
      refine lv_iload C.hx C.hb dL_law_827 (lv_at hl 0 rfl) ?_
      refine zr_iconst C.hx C.hb dL_law_829 ?_
      refine zr_iadd (v := 5 * (j : Int) + 1) C.hx C.hb rfl dL_law_830 ?_
      refine zr_sld (s := s.setDrawn d0) C.hx C.hb C.hX C.hbl C.hbA hS (i := 5 * (j : Int) + 1) (by omega) (by omega) C.hLN dL_law_831 ?_
      refine lv_aload_n C.hx C.hb dL_law_832 rfl (lv_at hl 1 rfl) ?_
      refine lv_iload C.hx C.hb dL_law_833 (lv_at hl 0 rfl) ?_
      refine zr_iconst C.hx C.hb dL_law_835 ?_
      refine zr_iadd (v := 5 * (j : Int) + 2) C.hx C.hb rfl dL_law_836 ?_
      refine zr_sld (s := s.setDrawn d0) C.hx C.hb C.hX C.hbl C.hbA hS (i := 5 * (j : Int) + 2) (by omega) (by omega) C.hLN dL_law_837 ?_
      refine lv_aload_n C.hx C.hb dL_law_838 rfl (lv_at hl 4 rfl) ?_
      refine zcallLW (As := [.ref (q 0), .int (zI (sc xs (5 * (j : Int) + 1))), .int (zI (sc xs (5 * (j : Int) + 2))), .ref o]) (rest := []) ⟨C.hx, C.hb, C.hml, C.hown, dr_words C.hts _⟩ C.hK (kL_degreeOfok l D C.hl0 cI cZ cJ q o C.hN C.hN2 pa sp al dg co da mb dd ah wl lo n td wn f R.1.1 R.2.1.1 R.2.1.2.1 (sc xs (5 * (j : Int) + 1)) (sc xs (5 * (j : Int) + 2)) (by omega) (by omega)) (vx_cwSW 4 (dr_words C.hts _) gL_law_L_degreeOf rfl rfl rfl (by decide +kernel) ⟨Nat.le_of_ble_eq_true rfl, Nat.le_of_ble_eq_true rfl⟩) hC hO (C.tk hS) C.hE hS C.hA3 rfl hl.1 rfl (Nat.le_of_ble_eq_true rfl) dL_law_839 ⟨C.ok1 hcs.1 (by omega), C.ok2 hcs.2 (by omega)⟩ (fun H locs hC hO hS _ hkk => ?_)
      have hM := zkeep hM hkk C.dM
      refine lv_istore (lv' := [(5, .int (zI 0)), (4, .int (zI (5 * (j : Int)))), (0, .ref b), (1, .ref (q 0)), (2, .ref (r 0)), (3, .ref o)]) C.hx C.hb dL_law_842 hl (by decide) rfl (fun ls hl => ?_)
      refine lv_aload_n C.hx C.hb dL_law_844 rfl (lv_at hl 4 rfl) ?_
      refine lv_aload_n C.hx C.hb dL_law_845 rfl (lv_at hl 2 rfl) ?_
      refine lv_iload C.hx C.hb dL_law_846 (lv_at hl 1 rfl) ?_
      refine zr_iconst C.hx C.hb dL_law_848 ?_
      refine zr_iadd (v := 5 * (j : Int) + 1) C.hx C.hb rfl dL_law_849 ?_
      refine zr_sld (s := s.setDrawn d0) C.hx C.hb C.hX C.hbl C.hbA hS (i := 5 * (j : Int) + 1) (by omega) (by omega) C.hLN dL_law_850 ?_
      refine lv_aload_n C.hx C.hb dL_law_851 rfl (lv_at hl 2 rfl) ?_
      refine lv_iload C.hx C.hb dL_law_852 (lv_at hl 1 rfl) ?_
      refine zr_iconst C.hx C.hb dL_law_854 ?_
      refine zr_iadd (v := 5 * (j : Int) + 2) C.hx C.hb rfl dL_law_855 ?_
      refine zr_sld (s := s.setDrawn d0) C.hx C.hb C.hX C.hbl C.hbA hS (i := 5 * (j : Int) + 2) (by omega) (by omega) C.hLN dL_law_856 ?_
      refine zcallV (ci := 3) (q0 := 0) (cq := (RX3, TX3, 12)) (As := [.int (zI (sc xs (5 * (j : Int) + 1))), .int (zI (sc xs (5 * (j : Int) + 2)))]) (rest := []) ⟨C.hx, C.hb, C.hml, C.hown, dr_words C.hts _⟩ C.hK2 (kX3_degreeOfok l D cI cZ r C.hNr pa sp al co' da' mo st mr th n td wn R.1.1 R.2.1.1 R.2.1.2.1 hst (sc xs (5 * (j : Int) + 1)) (sc xs (5 * (j : Int) + 2)) (by omega) (by omega) (by omega) (by omega)) (cwV 2 (dr_words C.hts _) gL_law_X3_degreeOf rfl rfl rfl (by decide +kernel) ⟨Nat.le_of_ble_eq_true rfl, Nat.le_of_ble_eq_true rfl⟩) hM hS C.hA2 rfl rfl rfl hl.1 rfl (Nat.le_of_ble_eq_true rfl) dL_law_857 ⟨C.ok1 hcs.1 (by omega), C.ok2 hcs.2 (by omega)⟩ (fun H locs hM hS _ hkk => ?_)
      have hC := zkeep hC hkk C.dC
      have hO := zkeep hO hkk C.dO
      refine W.eq (g2 := F0 m 860 ls [.int (zI (max 0 (goF pa sp n st (sc xs (5 * (j : Int) + 1)) (sc xs (5 * (j : Int) + 2)))))]) rfl ?_
      refine lv_istore (lv' := [(6, .int (zI (max 0 (goF pa sp n st (sc xs (5 * (j : Int) + 1)) (sc xs (5 * (j : Int) + 2)))))), (5, .int (zI 0)), (4, .int (zI (5 * (j : Int)))), (0, .ref b), (1, .ref (q 0)), (2, .ref (r 0)), (3, .ref o)]) C.hx C.hb dL_law_860 hl (by decide) rfl (fun ls hl => ?_)
      refine lv_aload_n C.hx C.hb dL_law_862 rfl (lv_at hl 5 rfl) ?_
      refine zcallV (ci := 3) (q0 := 0) (cq := (RX3, TX3, 12)) (As := []) (rest := []) ⟨C.hx, C.hb, C.hml, C.hown, dr_words C.hts _⟩ C.hK2 (kX3_thrown l D cI cZ r C.hNr pa sp al co' da' mo (goF pa sp n st (sc xs (5 * (j : Int) + 1))) mr 0 n td wn) (cwV 0 (dr_words C.hts _) gL_law_X3_thrown rfl rfl rfl (by decide +kernel) ⟨Nat.le_of_ble_eq_true rfl, Nat.le_of_ble_eq_true rfl⟩) hM hS C.hA2 rfl rfl rfl hl.1 rfl (Nat.le_of_ble_eq_true rfl) dL_law_863 ⟨C.ok1 hcs.1 (by omega), C.ok2 hcs.2 (by omega)⟩ (fun H locs hM hS _ hkk => ?_)
      have hC := zkeep hC hkk C.dC
      have hO := zkeep hO hkk C.dO
      refine W.eq (g2 := F0 m 866 ls [.int (zI 0)]) rfl ?_
      refine lv_iload C.hx C.hb dL_law_866 (lv_at hl 1 rfl) ?_
      refine zr_icmp_eqT (tgt := 873) C.hx C.hb (rfl) dL_law_868 (by decide) ?_
      refine lv_iload C.hx C.hb dL_law_873 (lv_at hl 1 rfl) ?_
      refine zr_if_ne (tgt := 890) C.hx C.hb dL_law_875 (by decide) ⟨by decide, by decide⟩ (fun h9 => by exfalso; revert h9; decide) (fun _ => ?_)
      refine lv_aload_n C.hx C.hb dL_law_878 rfl (lv_at hl 6 rfl) ?_
      refine zr_iconst C.hx C.hb dL_law_879 ?_
      refine zr_lald0 C.hx C.hb C.hK hO 0 2 rfl rfl dL_law_880 ?_
      refine W.eq (g2 := F0 m 881 ls [.long ((zI (dgF pa sp n (sc xs (5 * (j : Int) + 1)) (sc xs (5 * (j : Int) + 2)))).toInt64)]) rfl ?_
      refine lv_iload C.hx C.hb dL_law_881 (lv_at hl 0 rfl) ?_
      refine lv_i2l C.hx C.hb dL_law_883 rfl ?_
      refine zr_lcmp_eqT (tgt := 890) C.hx C.hb (congrArg (fun z => (zI z).toInt64) (dg_go pa sp st (by omega) (by omega) (by omega) (by omega))) dL_law_884 dL_law_885 (by decide) ?_
      refine lv_goto (tgt := 1825) C.hx C.hb dL_law_890 (by decide) ?_
      refine W.widen (k := cells + 2) (n := slots + 12) (by omega) (by omega) ?_
      have hl := lv_sub hl (l' := [(4, .int (zI (5 * (j : Int)))), (0, .ref b), (1, .ref (q 0)), (2, .ref (r 0)), (3, .ref o)]) [2, 3, 4, 5, 6] rfl
      exact K _ hd0 H locs ls ⟨pa, sp, al, dgF pa sp n (sc xs (5 * (j : Int) + 1)), co, da, mb, dd, ah, wl, lo, n, td, wn, co', da', mo, goF pa sp n st (sc xs (5 * (j : Int) + 1)), mr, 0, (vp_updL f 0 (zI (dgF pa sp n (sc xs (5 * (j : Int) + 1)) (sc xs (5 * (j : Int) + 2)))).toInt64), R, by omega, goF_bd hst _ _ _ _, hmr, hC, hM, hO⟩ hS hl
    · have b2 := b2
      refine lv_aload_n C.hx C.hb dL_law_825 rfl (lv_at hl 2 rfl) ?_
      refine lv_aload_n C.hx C.hb dL_law_826 rfl (lv_at hl 1 rfl) ?_
      refine lv_iload C.hx C.hb dL_law_827 (lv_at hl 0 rfl) ?_
      refine zr_iconst C.hx C.hb dL_law_829 ?_
      refine zr_iadd (v := 5 * (j : Int) + 1) C.hx C.hb rfl dL_law_830 ?_
      refine zr_sld (s := s.setDrawn d0) C.hx C.hb C.hX C.hbl C.hbA hS (i := 5 * (j : Int) + 1) (by omega) (by omega) C.hLN dL_law_831 ?_
      refine lv_aload_n C.hx C.hb dL_law_832 rfl (lv_at hl 1 rfl) ?_
      refine lv_iload C.hx C.hb dL_law_833 (lv_at hl 0 rfl) ?_
      refine zr_iconst C.hx C.hb dL_law_835 ?_
      refine zr_iadd (v := 5 * (j : Int) + 2) C.hx C.hb rfl dL_law_836 ?_
      refine zr_sld (s := s.setDrawn d0) C.hx C.hb C.hX C.hbl C.hbA hS (i := 5 * (j : Int) + 2) (by omega) (by omega) C.hLN dL_law_837 ?_
      refine lv_aload_n C.hx C.hb dL_law_838 rfl (lv_at hl 4 rfl) ?_
      refine zcallLW (As := [.ref (q 0), .int (zI (sc xs (5 * (j : Int) + 1))), .int (zI (sc xs (5 * (j : Int) + 2))), .ref o]) (rest := []) ⟨C.hx, C.hb, C.hml, C.hown, dr_words C.hts _⟩ C.hK (kL_degreeOfx2 l D C.hl0 cI cZ cJ q o C.hN C.hN2 pa sp al dg co da mb dd ah wl lo n td wn f R.1.1 (sc xs (5 * (j : Int) + 1)) (sc xs (5 * (j : Int) + 2)) (by omega) (by omega) (by omega)) (vx_cwSW 4 (dr_words C.hts _) gL_law_L_degreeOf rfl rfl rfl (by decide +kernel) ⟨Nat.le_of_ble_eq_true rfl, Nat.le_of_ble_eq_true rfl⟩) hC hO (C.tk hS) C.hE hS C.hA3 rfl hl.1 rfl (Nat.le_of_ble_eq_true rfl) dL_law_839 ⟨C.ok1 hcs.1 (by omega), C.ok2 hcs.2 (by omega)⟩ (fun H locs hC hO hS _ hkk => ?_)
      have hM := zkeep hM hkk C.dM
      refine lv_istore (lv' := [(5, .int (zI 1)), (4, .int (zI (5 * (j : Int)))), (0, .ref b), (1, .ref (q 0)), (2, .ref (r 0)), (3, .ref o)]) C.hx C.hb dL_law_842 hl (by decide) rfl (fun ls hl => ?_)
      refine lv_aload_n C.hx C.hb dL_law_844 rfl (lv_at hl 4 rfl) ?_
      refine lv_aload_n C.hx C.hb dL_law_845 rfl (lv_at hl 2 rfl) ?_
      refine lv_iload C.hx C.hb dL_law_846 (lv_at hl 1 rfl) ?_
      refine zr_iconst C.hx C.hb dL_law_848 ?_
      refine zr_iadd (v := 5 * (j : Int) + 1) C.hx C.hb rfl dL_law_849 ?_
      refine zr_sld (s := s.setDrawn d0) C.hx C.hb C.hX C.hbl C.hbA hS (i := 5 * (j : Int) + 1) (by omega) (by omega) C.hLN dL_law_850 ?_
      refine lv_aload_n C.hx C.hb dL_law_851 rfl (lv_at hl 2 rfl) ?_
      refine lv_iload C.hx C.hb dL_law_852 (lv_at hl 1 rfl) ?_
      refine zr_iconst C.hx C.hb dL_law_854 ?_
      refine zr_iadd (v := 5 * (j : Int) + 2) C.hx C.hb rfl dL_law_855 ?_
      refine zr_sld (s := s.setDrawn d0) C.hx C.hb C.hX C.hbl C.hbA hS (i := 5 * (j : Int) + 2) (by omega) (by omega) C.hLN dL_law_856 ?_
      refine zcallV (ci := 3) (q0 := 0) (cq := (RX3, TX3, 12)) (As := [.int (zI (sc xs (5 * (j : Int) + 1))), .int (zI (sc xs (5 * (j : Int) + 2)))]) (rest := []) ⟨C.hx, C.hb, C.hml, C.hown, dr_words C.hts _⟩ C.hK2 (kX3_degreeOfe1 l D cI cZ r C.hNr pa sp al co' da' mo st mr th n td wn R.1.1 (sc xs (5 * (j : Int) + 1)) (sc xs (5 * (j : Int) + 2)) (by omega) (by omega) (by omega)) (cwV 2 (dr_words C.hts _) gL_law_X3_degreeOf rfl rfl rfl (by decide +kernel) ⟨Nat.le_of_ble_eq_true rfl, Nat.le_of_ble_eq_true rfl⟩) hM hS C.hA2 rfl rfl rfl hl.1 rfl (Nat.le_of_ble_eq_true rfl) dL_law_857 ⟨C.ok1 hcs.1 (by omega), C.ok2 hcs.2 (by omega)⟩ (fun H locs hM hS _ hkk => ?_)
      have hC := zkeep hC hkk C.dC
      have hO := zkeep hO hkk C.dO
      refine W.eq (g2 := F0 m 860 ls [.int (zI 0)]) rfl ?_
      refine lv_istore (lv' := [(6, .int (zI 0)), (5, .int (zI 1)), (4, .int (zI (5 * (j : Int)))), (0, .ref b), (1, .ref (q 0)), (2, .ref (r 0)), (3, .ref o)]) C.hx C.hb dL_law_860 hl (by decide) rfl (fun ls hl => ?_)
      refine lv_aload_n C.hx C.hb dL_law_862 rfl (lv_at hl 5 rfl) ?_
      refine zcallV (ci := 3) (q0 := 0) (cq := (RX3, TX3, 12)) (As := []) (rest := []) ⟨C.hx, C.hb, C.hml, C.hown, dr_words C.hts _⟩ C.hK2 (kX3_thrown l D cI cZ r C.hNr pa sp al co' da' mo st mr 1 n td wn) (cwV 0 (dr_words C.hts _) gL_law_X3_thrown rfl rfl rfl (by decide +kernel) ⟨Nat.le_of_ble_eq_true rfl, Nat.le_of_ble_eq_true rfl⟩) hM hS C.hA2 rfl rfl rfl hl.1 rfl (Nat.le_of_ble_eq_true rfl) dL_law_863 ⟨C.ok1 hcs.1 (by omega), C.ok2 hcs.2 (by omega)⟩ (fun H locs hM hS _ hkk => ?_)
      have hC := zkeep hC hkk C.dC
      have hO := zkeep hO hkk C.dO
      refine W.eq (g2 := F0 m 866 ls [.int (zI 1)]) rfl ?_
      refine lv_iload C.hx C.hb dL_law_866 (lv_at hl 1 rfl) ?_
      refine zr_icmp_eqT (tgt := 873) C.hx C.hb (rfl) dL_law_868 (by decide) ?_
      refine lv_iload C.hx C.hb dL_law_873 (lv_at hl 1 rfl) ?_
      refine zr_if_ne (tgt := 890) C.hx C.hb dL_law_875 (by decide) ⟨by decide, by decide⟩ (fun _ => ?_) (fun h9 => by exfalso; revert h9; decide)
      refine lv_goto (tgt := 1825) C.hx C.hb dL_law_890 (by decide) ?_
      refine W.widen (k := cells + 2) (n := slots + 12) (by omega) (by omega) ?_
      have hl := lv_sub hl (l' := [(4, .int (zI (5 * (j : Int)))), (0, .ref b), (1, .ref (q 0)), (2, .ref (r 0)), (3, .ref o)]) [2, 3, 4, 5, 6] rfl
      exact K _ hd0 H locs ls ⟨pa, sp, al, dg, co, da, mb, dd, ah, wl, lo, n, td, wn, co', da', mo, st, mr, 1, f, R, by omega, hst, hmr, hC, hM, hO⟩ hS hl
  · have b1 := b1
    refine lv_aload_n C.hx C.hb dL_law_825 rfl (lv_at hl 2 rfl) ?_
    refine lv_aload_n C.hx C.hb dL_law_826 rfl (lv_at hl 1 rfl) ?_
    refine lv_iload C.hx C.hb dL_law_827 (lv_at hl 0 rfl) ?_
    refine zr_iconst C.hx C.hb dL_law_829 ?_
    refine zr_iadd (v := 5 * (j : Int) + 1) C.hx C.hb rfl dL_law_830 ?_
    refine zr_sld (s := s.setDrawn d0) C.hx C.hb C.hX C.hbl C.hbA hS (i := 5 * (j : Int) + 1) (by omega) (by omega) C.hLN dL_law_831 ?_
    refine lv_aload_n C.hx C.hb dL_law_832 rfl (lv_at hl 1 rfl) ?_
    refine lv_iload C.hx C.hb dL_law_833 (lv_at hl 0 rfl) ?_
    refine zr_iconst C.hx C.hb dL_law_835 ?_
    refine zr_iadd (v := 5 * (j : Int) + 2) C.hx C.hb rfl dL_law_836 ?_
    refine zr_sld (s := s.setDrawn d0) C.hx C.hb C.hX C.hbl C.hbA hS (i := 5 * (j : Int) + 2) (by omega) (by omega) C.hLN dL_law_837 ?_
    refine lv_aload_n C.hx C.hb dL_law_838 rfl (lv_at hl 4 rfl) ?_
    refine zcallLW (As := [.ref (q 0), .int (zI (sc xs (5 * (j : Int) + 1))), .int (zI (sc xs (5 * (j : Int) + 2))), .ref o]) (rest := []) ⟨C.hx, C.hb, C.hml, C.hown, dr_words C.hts _⟩ C.hK (kL_degreeOfx1 l D C.hl0 cI cZ cJ q o C.hN C.hN2 pa sp al dg co da mb dd ah wl lo n td wn f R.1.1 (sc xs (5 * (j : Int) + 1)) (sc xs (5 * (j : Int) + 2)) (by omega) (by omega)) (vx_cwSW 4 (dr_words C.hts _) gL_law_L_degreeOf rfl rfl rfl (by decide +kernel) ⟨Nat.le_of_ble_eq_true rfl, Nat.le_of_ble_eq_true rfl⟩) hC hO (C.tk hS) C.hE hS C.hA3 rfl hl.1 rfl (Nat.le_of_ble_eq_true rfl) dL_law_839 ⟨C.ok1 hcs.1 (by omega), C.ok2 hcs.2 (by omega)⟩ (fun H locs hC hO hS _ hkk => ?_)
    have hM := zkeep hM hkk C.dM
    refine lv_istore (lv' := [(5, .int (zI 1)), (4, .int (zI (5 * (j : Int)))), (0, .ref b), (1, .ref (q 0)), (2, .ref (r 0)), (3, .ref o)]) C.hx C.hb dL_law_842 hl (by decide) rfl (fun ls hl => ?_)
    refine lv_aload_n C.hx C.hb dL_law_844 rfl (lv_at hl 4 rfl) ?_
    refine lv_aload_n C.hx C.hb dL_law_845 rfl (lv_at hl 2 rfl) ?_
    refine lv_iload C.hx C.hb dL_law_846 (lv_at hl 1 rfl) ?_
    refine zr_iconst C.hx C.hb dL_law_848 ?_
    refine zr_iadd (v := 5 * (j : Int) + 1) C.hx C.hb rfl dL_law_849 ?_
    refine zr_sld (s := s.setDrawn d0) C.hx C.hb C.hX C.hbl C.hbA hS (i := 5 * (j : Int) + 1) (by omega) (by omega) C.hLN dL_law_850 ?_
    refine lv_aload_n C.hx C.hb dL_law_851 rfl (lv_at hl 2 rfl) ?_
    refine lv_iload C.hx C.hb dL_law_852 (lv_at hl 1 rfl) ?_
    refine zr_iconst C.hx C.hb dL_law_854 ?_
    refine zr_iadd (v := 5 * (j : Int) + 2) C.hx C.hb rfl dL_law_855 ?_
    refine zr_sld (s := s.setDrawn d0) C.hx C.hb C.hX C.hbl C.hbA hS (i := 5 * (j : Int) + 2) (by omega) (by omega) C.hLN dL_law_856 ?_
    refine zcallV (ci := 3) (q0 := 0) (cq := (RX3, TX3, 12)) (As := [.int (zI (sc xs (5 * (j : Int) + 1))), .int (zI (sc xs (5 * (j : Int) + 2)))]) (rest := []) ⟨C.hx, C.hb, C.hml, C.hown, dr_words C.hts _⟩ C.hK2 (kX3_degreeOfe1 l D cI cZ r C.hNr pa sp al co' da' mo st mr th n td wn R.1.1 (sc xs (5 * (j : Int) + 1)) (sc xs (5 * (j : Int) + 2)) (by omega) (by omega) (by omega)) (cwV 2 (dr_words C.hts _) gL_law_X3_degreeOf rfl rfl rfl (by decide +kernel) ⟨Nat.le_of_ble_eq_true rfl, Nat.le_of_ble_eq_true rfl⟩) hM hS C.hA2 rfl rfl rfl hl.1 rfl (Nat.le_of_ble_eq_true rfl) dL_law_857 ⟨C.ok1 hcs.1 (by omega), C.ok2 hcs.2 (by omega)⟩ (fun H locs hM hS _ hkk => ?_)
    have hC := zkeep hC hkk C.dC
    have hO := zkeep hO hkk C.dO
    refine W.eq (g2 := F0 m 860 ls [.int (zI 0)]) rfl ?_
    refine lv_istore (lv' := [(6, .int (zI 0)), (5, .int (zI 1)), (4, .int (zI (5 * (j : Int)))), (0, .ref b), (1, .ref (q 0)), (2, .ref (r 0)), (3, .ref o)]) C.hx C.hb dL_law_860 hl (by decide) rfl (fun ls hl => ?_)
    refine lv_aload_n C.hx C.hb dL_law_862 rfl (lv_at hl 5 rfl) ?_
    refine zcallV (ci := 3) (q0 := 0) (cq := (RX3, TX3, 12)) (As := []) (rest := []) ⟨C.hx, C.hb, C.hml, C.hown, dr_words C.hts _⟩ C.hK2 (kX3_thrown l D cI cZ r C.hNr pa sp al co' da' mo st mr 1 n td wn) (cwV 0 (dr_words C.hts _) gL_law_X3_thrown rfl rfl rfl (by decide +kernel) ⟨Nat.le_of_ble_eq_true rfl, Nat.le_of_ble_eq_true rfl⟩) hM hS C.hA2 rfl rfl rfl hl.1 rfl (Nat.le_of_ble_eq_true rfl) dL_law_863 ⟨C.ok1 hcs.1 (by omega), C.ok2 hcs.2 (by omega)⟩ (fun H locs hM hS _ hkk => ?_)
    have hC := zkeep hC hkk C.dC
    have hO := zkeep hO hkk C.dO
    refine W.eq (g2 := F0 m 866 ls [.int (zI 1)]) rfl ?_
    refine lv_iload C.hx C.hb dL_law_866 (lv_at hl 1 rfl) ?_
    refine zr_icmp_eqT (tgt := 873) C.hx C.hb (rfl) dL_law_868 (by decide) ?_
    refine lv_iload C.hx C.hb dL_law_873 (lv_at hl 1 rfl) ?_
    refine zr_if_ne (tgt := 890) C.hx C.hb dL_law_875 (by decide) ⟨by decide, by decide⟩ (fun _ => ?_) (fun h9 => by exfalso; revert h9; decide)
    refine lv_goto (tgt := 1825) C.hx C.hb dL_law_890 (by decide) ?_
    refine W.widen (k := cells + 2) (n := slots + 12) (by omega) (by omega) ?_
    have hl := lv_sub hl (l' := [(4, .int (zI (5 * (j : Int)))), (0, .ref b), (1, .ref (q 0)), (2, .ref (r 0)), (3, .ref o)]) [2, 3, 4, 5, 6] rfl
    exact K _ hd0 H locs ls ⟨pa, sp, al, dg, co, da, mb, dd, ah, wl, lo, n, td, wn, co', da', mo, st, mr, 1, f, R, by omega, hst, hmr, hC, hM, hO⟩ hS hl
set_option maxHeartbeats 4000000 in
set_option maxRecDepth 100000 in
theorem law_c13 {p : Program} {l : Launch} {e : Env} {s : State} {m : MethodId} {below : List Frame} {meth : Method} {c : Code} {b L : Nat} {xs : Nat → Int32} {Q : State → Prop} {D : va_G} {cI cZ cJ : ClassId} {q r : Nat → Nat} {o : Nat} (C : zCx p l s m meth c b L xs D cI cZ cJ q r o) {d0 : Drawn} (hd0 : s.drawn.sameBut d0 lw_cs) {H : Heap} {locs : List Loc} {cells slots : Nat} (hcs : cells + 2 ≤ 601024 ∧ slots + 12 ≤ 7293034) {j : Nat} (hj : 5 * (j : Int) + 5 ≤ (L : Int)) (hj2 : j ≤ 512) {ls : Array Slot} (hZ : zLS D cI cZ cJ q r o j H) (hS : va_S (fun a => s.heap.size ≤ a) s.heap H locs) (hl : lv_has ls 9 [(4, .int (zI (5 * (j : Int)))), (0, .ref b), (1, .ref (q 0)), (2, .ref (r 0)), (3, .ref o)])
    (K : ∀ (d1 : Drawn), s.drawn.sameBut d1 lw_cs → ∀ (H1 : Heap) (locs1 : List Loc) (ls1 : Array Slot), zLS D cI cZ cJ q r o (j + 1) H1 → va_S (fun a => s.heap.size ≤ a) s.heap H1 locs1 → lv_has ls1 9 [(4, .int (zI (5 * (j : Int)))), (0, .ref b), (1, .ref (q 0)), (2, .ref (r 0)), (3, .ref o)] → W p l e room_1 (s.setDrawn d1) m #[Value.ref b] below meth c H1 locs1 (cells + 2) (slots + 12) Q (F0 m 1825 ls1 [])) :
    W p l e room_1 (s.setDrawn d0) m #[Value.ref b] below meth c H locs cells slots Q (F0 m 893 ls []) := by
  obtain ⟨pa, sp, al, dg, co, da, mb, dd, ah, wl, lo, n, td, wn, co', da', mo, st, mr, th, f, R, htd, hst, hmr, hC, hM, hO⟩ := hZ
  have hn := R.1.1
  have htd0 := R.1.2
  have hLN := C.hLN
  have hs1 := sc_rg xs (5 * (j : Int) + 1)
  have hs2 := sc_rg xs (5 * (j : Int) + 2)
  have hs3 := sc_rg xs (5 * (j : Int) + 3)
  have hs4 := sc_rg xs (5 * (j : Int) + 4)
  by_cases b1 : 0 ≤ sc xs (5 * (j : Int) + 1) ∧ sc xs (5 * (j : Int) + 1) < (n : Int)
  · have b1 := b1
    by_cases b2 : 1 ≤ sc xs (5 * (j : Int) + 2) ∧ sc xs (5 * (j : Int) + 2) ≤ 4
    · have b2 := b2
      refine lv_aload_n C.hx C.hb dL_law_893 rfl (lv_at hl 2 rfl) ?_
      refine lv_aload_n C.hx C.hb dL_law_894 rfl (lv_at hl 1 rfl) ?_
      refine lv_iload C.hx C.hb dL_law_895 (lv_at hl 0 rfl) ?_
      refine zr_iconst C.hx C.hb dL_law_897 ?_
      refine zr_iadd (v := 5 * (j : Int) + 1) C.hx C.hb rfl dL_law_898 ?_
      refine zr_sld (s := s.setDrawn d0) C.hx C.hb C.hX C.hbl C.hbA hS (i := 5 * (j : Int) + 1) (by omega) (by omega) C.hLN dL_law_899 ?_
      refine lv_aload_n C.hx C.hb dL_law_900 rfl (lv_at hl 1 rfl) ?_
      refine lv_iload C.hx C.hb dL_law_901 (lv_at hl 0 rfl) ?_
      refine zr_iconst C.hx C.hb dL_law_903 ?_
      refine zr_iadd (v := 5 * (j : Int) + 2) C.hx C.hb rfl dL_law_904 ?_
      refine zr_sld (s := s.setDrawn d0) C.hx C.hb C.hX C.hbl C.hbA hS (i := 5 * (j : Int) + 2) (by omega) (by omega) C.hLN dL_law_905 ?_
      refine lv_aload_n C.hx C.hb dL_law_906 rfl (lv_at hl 4 rfl) ?_
      refine zcallLW (As := [.ref (q 0), .int (zI (sc xs (5 * (j : Int) + 1))), .int (zI (sc xs (5 * (j : Int) + 2))), .ref o]) (rest := []) ⟨C.hx, C.hb, C.hml, C.hown, dr_words C.hts _⟩ C.hK (kL_kinOfok l D C.hl0 cI cZ cJ q o C.hN C.hN2 pa sp al dg co da mb dd ah wl lo n td wn f R.1.1 R.2.1.1 R.2.1.2.1 R.2.1.2.2.1 (sc xs (5 * (j : Int) + 1)) (sc xs (5 * (j : Int) + 2)) (by omega) (by omega)) (vx_cwSW 4 (dr_words C.hts _) gL_law_L_kinOf rfl rfl rfl (by decide +kernel) ⟨Nat.le_of_ble_eq_true rfl, Nat.le_of_ble_eq_true rfl⟩) hC hO (C.tk hS) C.hE hS C.hA3 rfl hl.1 rfl (Nat.le_of_ble_eq_true rfl) dL_law_907 ⟨C.ok1 hcs.1 (by omega), C.ok2 hcs.2 (by omega)⟩ (fun H locs hC hO hS _ hkk => ?_)
      have hM := zkeep hM hkk C.dM
      refine lv_istore (lv' := [(5, .int (zI 0)), (4, .int (zI (5 * (j : Int)))), (0, .ref b), (1, .ref (q 0)), (2, .ref (r 0)), (3, .ref o)]) C.hx C.hb dL_law_910 hl (by decide) rfl (fun ls hl => ?_)
      refine lv_aload_n C.hx C.hb dL_law_912 rfl (lv_at hl 4 rfl) ?_
      refine lv_aload_n C.hx C.hb dL_law_913 rfl (lv_at hl 2 rfl) ?_
      refine lv_iload C.hx C.hb dL_law_914 (lv_at hl 1 rfl) ?_
      refine zr_iconst C.hx C.hb dL_law_916 ?_
      refine zr_iadd (v := 5 * (j : Int) + 1) C.hx C.hb rfl dL_law_917 ?_
      refine zr_sld (s := s.setDrawn d0) C.hx C.hb C.hX C.hbl C.hbA hS (i := 5 * (j : Int) + 1) (by omega) (by omega) C.hLN dL_law_918 ?_
      refine lv_aload_n C.hx C.hb dL_law_919 rfl (lv_at hl 2 rfl) ?_
      refine lv_iload C.hx C.hb dL_law_920 (lv_at hl 1 rfl) ?_
      refine zr_iconst C.hx C.hb dL_law_922 ?_
      refine zr_iadd (v := 5 * (j : Int) + 2) C.hx C.hb rfl dL_law_923 ?_
      refine zr_sld (s := s.setDrawn d0) C.hx C.hb C.hX C.hbl C.hbA hS (i := 5 * (j : Int) + 2) (by omega) (by omega) C.hLN dL_law_924 ?_
      refine zcallV (ci := 3) (q0 := 0) (cq := (RX3, TX3, 12)) (As := [.int (zI (sc xs (5 * (j : Int) + 1))), .int (zI (sc xs (5 * (j : Int) + 2)))]) (rest := []) ⟨C.hx, C.hb, C.hml, C.hown, dr_words C.hts _⟩ C.hK2 (kX3_kinOfok l D cI cZ r C.hNr pa sp al co' da' mo st mr th n td wn R.1.1 R.2.1.1 R.2.1.2.1 R.2.1.2.2.1 hst (sc xs (5 * (j : Int) + 1)) (sc xs (5 * (j : Int) + 2)) (by omega) (by omega) (by omega) (by omega)) (cwV 2 (dr_words C.hts _) gL_law_X3_kinOf rfl rfl rfl (by decide +kernel) ⟨Nat.le_of_ble_eq_true rfl, Nat.le_of_ble_eq_true rfl⟩) hM hS C.hA2 rfl rfl rfl hl.1 rfl (Nat.le_of_ble_eq_true rfl) dL_law_925 ⟨C.ok1 hcs.1 (by omega), C.ok2 hcs.2 (by omega)⟩ (fun H locs hM hS _ hkk => ?_)
      have hC := zkeep hC hkk C.dC
      have hO := zkeep hO hkk C.dO
      refine W.eq (g2 := F0 m 928 ls [.int (zI (smF (kinF al (goF pa sp n st (sc xs (5 * (j : Int) + 1))) (sc xs (5 * (j : Int) + 2))) n))]) rfl ?_
      refine lv_istore (lv' := [(6, .int (zI (smF (kinF al (goF pa sp n st (sc xs (5 * (j : Int) + 1))) (sc xs (5 * (j : Int) + 2))) n))), (5, .int (zI 0)), (4, .int (zI (5 * (j : Int)))), (0, .ref b), (1, .ref (q 0)), (2, .ref (r 0)), (3, .ref o)]) C.hx C.hb dL_law_928 hl (by decide) rfl (fun ls hl => ?_)
      refine lv_aload_n C.hx C.hb dL_law_930 rfl (lv_at hl 5 rfl) ?_
      refine zcallV (ci := 3) (q0 := 0) (cq := (RX3, TX3, 12)) (As := []) (rest := []) ⟨C.hx, C.hb, C.hml, C.hown, dr_words C.hts _⟩ C.hK2 (kX3_thrown l D cI cZ r C.hNr pa sp al co' da' mo (goF pa sp n st (sc xs (5 * (j : Int) + 1))) mr 0 n td wn) (cwV 0 (dr_words C.hts _) gL_law_X3_thrown rfl rfl rfl (by decide +kernel) ⟨Nat.le_of_ble_eq_true rfl, Nat.le_of_ble_eq_true rfl⟩) hM hS C.hA2 rfl rfl rfl hl.1 rfl (Nat.le_of_ble_eq_true rfl) dL_law_931 ⟨C.ok1 hcs.1 (by omega), C.ok2 hcs.2 (by omega)⟩ (fun H locs hM hS _ hkk => ?_)
      have hC := zkeep hC hkk C.dC
      have hO := zkeep hO hkk C.dO
      refine W.eq (g2 := F0 m 934 ls [.int (zI 0)]) rfl ?_
      refine lv_iload C.hx C.hb dL_law_934 (lv_at hl 1 rfl) ?_
      refine zr_icmp_eqT (tgt := 941) C.hx C.hb (rfl) dL_law_936 (by decide) ?_
      refine lv_iload C.hx C.hb dL_law_941 (lv_at hl 1 rfl) ?_
      refine zr_if_ne (tgt := 958) C.hx C.hb dL_law_943 (by decide) ⟨by decide, by decide⟩ (fun h9 => by exfalso; revert h9; decide) (fun _ => ?_)
      refine lv_aload_n C.hx C.hb dL_law_946 rfl (lv_at hl 6 rfl) ?_
      refine zr_iconst C.hx C.hb dL_law_947 ?_
      refine zr_lald0 C.hx C.hb C.hK hO 0 2 rfl rfl dL_law_948 ?_
      refine W.eq (g2 := F0 m 949 ls [.long ((zI (smF (kinF al (dgF pa sp n (sc xs (5 * (j : Int) + 1))) (sc xs (5 * (j : Int) + 2))) n)).toInt64)]) rfl ?_
      refine lv_iload C.hx C.hb dL_law_949 (lv_at hl 0 rfl) ?_
      refine lv_i2l C.hx C.hb dL_law_951 rfl ?_
      refine zr_lcmp_eqT (tgt := 958) C.hx C.hb (congrArg (fun z => (zI z).toInt64) (re_kin R st (by omega) (by omega) (by omega))) dL_law_952 dL_law_953 (by decide) ?_
      refine lv_goto (tgt := 1825) C.hx C.hb dL_law_958 (by decide) ?_
      refine W.widen (k := cells + 2) (n := slots + 12) (by omega) (by omega) ?_
      have hl := lv_sub hl (l' := [(4, .int (zI (5 * (j : Int)))), (0, .ref b), (1, .ref (q 0)), (2, .ref (r 0)), (3, .ref o)]) [2, 3, 4, 5, 6] rfl
      exact K _ hd0 H locs ls ⟨pa, sp, al, dgF pa sp n (sc xs (5 * (j : Int) + 1)), co, da, mb, dd, ah, wl, lo, n, td, wn, co', da', mo, goF pa sp n st (sc xs (5 * (j : Int) + 1)), mr, 0, (vp_updL f 0 (zI (smF (kinF al (dgF pa sp n (sc xs (5 * (j : Int) + 1))) (sc xs (5 * (j : Int) + 2))) n)).toInt64), R, by omega, goF_bd hst _ _ _ _, hmr, hC, hM, hO⟩ hS hl
    · have b2 := b2
      refine lv_aload_n C.hx C.hb dL_law_893 rfl (lv_at hl 2 rfl) ?_
      refine lv_aload_n C.hx C.hb dL_law_894 rfl (lv_at hl 1 rfl) ?_
      refine lv_iload C.hx C.hb dL_law_895 (lv_at hl 0 rfl) ?_
      refine zr_iconst C.hx C.hb dL_law_897 ?_
      refine zr_iadd (v := 5 * (j : Int) + 1) C.hx C.hb rfl dL_law_898 ?_
      refine zr_sld (s := s.setDrawn d0) C.hx C.hb C.hX C.hbl C.hbA hS (i := 5 * (j : Int) + 1) (by omega) (by omega) C.hLN dL_law_899 ?_
      refine lv_aload_n C.hx C.hb dL_law_900 rfl (lv_at hl 1 rfl) ?_
      refine lv_iload C.hx C.hb dL_law_901 (lv_at hl 0 rfl) ?_
      refine zr_iconst C.hx C.hb dL_law_903 ?_
      refine zr_iadd (v := 5 * (j : Int) + 2) C.hx C.hb rfl dL_law_904 ?_
      refine zr_sld (s := s.setDrawn d0) C.hx C.hb C.hX C.hbl C.hbA hS (i := 5 * (j : Int) + 2) (by omega) (by omega) C.hLN dL_law_905 ?_
      refine lv_aload_n C.hx C.hb dL_law_906 rfl (lv_at hl 4 rfl) ?_
      refine zcallLW (As := [.ref (q 0), .int (zI (sc xs (5 * (j : Int) + 1))), .int (zI (sc xs (5 * (j : Int) + 2))), .ref o]) (rest := []) ⟨C.hx, C.hb, C.hml, C.hown, dr_words C.hts _⟩ C.hK (kL_kinOfx2 l D C.hl0 cI cZ cJ q o C.hN C.hN2 pa sp al dg co da mb dd ah wl lo n td wn f R.1.1 (sc xs (5 * (j : Int) + 1)) (sc xs (5 * (j : Int) + 2)) (by omega) (by omega) (by omega)) (vx_cwSW 4 (dr_words C.hts _) gL_law_L_kinOf rfl rfl rfl (by decide +kernel) ⟨Nat.le_of_ble_eq_true rfl, Nat.le_of_ble_eq_true rfl⟩) hC hO (C.tk hS) C.hE hS C.hA3 rfl hl.1 rfl (Nat.le_of_ble_eq_true rfl) dL_law_907 ⟨C.ok1 hcs.1 (by omega), C.ok2 hcs.2 (by omega)⟩ (fun H locs hC hO hS _ hkk => ?_)
      have hM := zkeep hM hkk C.dM
      refine lv_istore (lv' := [(5, .int (zI 1)), (4, .int (zI (5 * (j : Int)))), (0, .ref b), (1, .ref (q 0)), (2, .ref (r 0)), (3, .ref o)]) C.hx C.hb dL_law_910 hl (by decide) rfl (fun ls hl => ?_)
      refine lv_aload_n C.hx C.hb dL_law_912 rfl (lv_at hl 4 rfl) ?_
      refine lv_aload_n C.hx C.hb dL_law_913 rfl (lv_at hl 2 rfl) ?_
      refine lv_iload C.hx C.hb dL_law_914 (lv_at hl 1 rfl) ?_
      refine zr_iconst C.hx C.hb dL_law_916 ?_
      refine zr_iadd (v := 5 * (j : Int) + 1) C.hx C.hb rfl dL_law_917 ?_
      refine zr_sld (s := s.setDrawn d0) C.hx C.hb C.hX C.hbl C.hbA hS (i := 5 * (j : Int) + 1) (by omega) (by omega) C.hLN dL_law_918 ?_
      refine lv_aload_n C.hx C.hb dL_law_919 rfl (lv_at hl 2 rfl) ?_
      refine lv_iload C.hx C.hb dL_law_920 (lv_at hl 1 rfl) ?_
      refine zr_iconst C.hx C.hb dL_law_922 ?_
      refine zr_iadd (v := 5 * (j : Int) + 2) C.hx C.hb rfl dL_law_923 ?_
      refine zr_sld (s := s.setDrawn d0) C.hx C.hb C.hX C.hbl C.hbA hS (i := 5 * (j : Int) + 2) (by omega) (by omega) C.hLN dL_law_924 ?_
      refine zcallV (ci := 3) (q0 := 0) (cq := (RX3, TX3, 12)) (As := [.int (zI (sc xs (5 * (j : Int) + 1))), .int (zI (sc xs (5 * (j : Int) + 2)))]) (rest := []) ⟨C.hx, C.hb, C.hml, C.hown, dr_words C.hts _⟩ C.hK2 (kX3_kinOfe1 l D cI cZ r C.hNr pa sp al co' da' mo st mr th n td wn R.1.1 (sc xs (5 * (j : Int) + 1)) (sc xs (5 * (j : Int) + 2)) (by omega) (by omega) (by omega)) (cwV 2 (dr_words C.hts _) gL_law_X3_kinOf rfl rfl rfl (by decide +kernel) ⟨Nat.le_of_ble_eq_true rfl, Nat.le_of_ble_eq_true rfl⟩) hM hS C.hA2 rfl rfl rfl hl.1 rfl (Nat.le_of_ble_eq_true rfl) dL_law_925 ⟨C.ok1 hcs.1 (by omega), C.ok2 hcs.2 (by omega)⟩ (fun H locs hM hS _ hkk => ?_)
      have hC := zkeep hC hkk C.dC
      have hO := zkeep hO hkk C.dO
      refine W.eq (g2 := F0 m 928 ls [.int (zI 0)]) rfl ?_
      refine lv_istore (lv' := [(6, .int (zI 0)), (5, .int (zI 1)), (4, .int (zI (5 * (j : Int)))), (0, .ref b), (1, .ref (q 0)), (2, .ref (r 0)), (3, .ref o)]) C.hx C.hb dL_law_928 hl (by decide) rfl (fun ls hl => ?_)
      refine lv_aload_n C.hx C.hb dL_law_930 rfl (lv_at hl 5 rfl) ?_
      refine zcallV (ci := 3) (q0 := 0) (cq := (RX3, TX3, 12)) (As := []) (rest := []) ⟨C.hx, C.hb, C.hml, C.hown, dr_words C.hts _⟩ C.hK2 (kX3_thrown l D cI cZ r C.hNr pa sp al co' da' mo st mr 1 n td wn) (cwV 0 (dr_words C.hts _) gL_law_X3_thrown rfl rfl rfl (by decide +kernel) ⟨Nat.le_of_ble_eq_true rfl, Nat.le_of_ble_eq_true rfl⟩) hM hS C.hA2 rfl rfl rfl hl.1 rfl (Nat.le_of_ble_eq_true rfl) dL_law_931 ⟨C.ok1 hcs.1 (by omega), C.ok2 hcs.2 (by omega)⟩ (fun H locs hM hS _ hkk => ?_)
      have hC := zkeep hC hkk C.dC
      have hO := zkeep hO hkk C.dO
      refine W.eq (g2 := F0 m 934 ls [.int (zI 1)]) rfl ?_
      refine lv_iload C.hx C.hb dL_law_934 (lv_at hl 1 rfl) ?_
      refine zr_icmp_eqT (tgt := 941) C.hx C.hb (rfl) dL_law_936 (by decide) ?_
      refine lv_iload C.hx C.hb dL_law_941 (lv_at hl 1 rfl) ?_
      refine zr_if_ne (tgt := 958) C.hx C.hb dL_law_943 (by decide) ⟨by decide, by decide⟩ (fun _ => ?_) (fun h9 => by exfalso; revert h9; decide)
      refine lv_goto (tgt := 1825) C.hx C.hb dL_law_958 (by decide) ?_
      refine W.widen (k := cells + 2) (n := slots + 12) (by omega) (by omega) ?_
      have hl := lv_sub hl (l' := [(4, .int (zI (5 * (j : Int)))), (0, .ref b), (1, .ref (q 0)), (2, .ref (r 0)), (3, .ref o)]) [2, 3, 4, 5, 6] rfl
      exact K _ hd0 H locs ls ⟨pa, sp, al, dg, co, da, mb, dd, ah, wl, lo, n, td, wn, co', da', mo, st, mr, 1, f, R, by omega, hst, hmr, hC, hM, hO⟩ hS hl
  · have b1 := b1
    refine lv_aload_n C.hx C.hb dL_law_893 rfl (lv_at hl 2 rfl) ?_
    refine lv_aload_n C.hx C.hb dL_law_894 rfl (lv_at hl 1 rfl) ?_
    refine lv_iload C.hx C.hb dL_law_895 (lv_at hl 0 rfl) ?_
    refine zr_iconst C.hx C.hb dL_law_897 ?_
    refine zr_iadd (v := 5 * (j : Int) + 1) C.hx C.hb rfl dL_law_898 ?_
    refine zr_sld (s := s.setDrawn d0) C.hx C.hb C.hX C.hbl C.hbA hS (i := 5 * (j : Int) + 1) (by omega) (by omega) C.hLN dL_law_899 ?_
    refine lv_aload_n C.hx C.hb dL_law_900 rfl (lv_at hl 1 rfl) ?_
    refine lv_iload C.hx C.hb dL_law_901 (lv_at hl 0 rfl) ?_
    refine zr_iconst C.hx C.hb dL_law_903 ?_
    refine zr_iadd (v := 5 * (j : Int) + 2) C.hx C.hb rfl dL_law_904 ?_
    refine zr_sld (s := s.setDrawn d0) C.hx C.hb C.hX C.hbl C.hbA hS (i := 5 * (j : Int) + 2) (by omega) (by omega) C.hLN dL_law_905 ?_
    refine lv_aload_n C.hx C.hb dL_law_906 rfl (lv_at hl 4 rfl) ?_
    refine zcallLW (As := [.ref (q 0), .int (zI (sc xs (5 * (j : Int) + 1))), .int (zI (sc xs (5 * (j : Int) + 2))), .ref o]) (rest := []) ⟨C.hx, C.hb, C.hml, C.hown, dr_words C.hts _⟩ C.hK (kL_kinOfx1 l D C.hl0 cI cZ cJ q o C.hN C.hN2 pa sp al dg co da mb dd ah wl lo n td wn f R.1.1 (sc xs (5 * (j : Int) + 1)) (sc xs (5 * (j : Int) + 2)) (by omega) (by omega)) (vx_cwSW 4 (dr_words C.hts _) gL_law_L_kinOf rfl rfl rfl (by decide +kernel) ⟨Nat.le_of_ble_eq_true rfl, Nat.le_of_ble_eq_true rfl⟩) hC hO (C.tk hS) C.hE hS C.hA3 rfl hl.1 rfl (Nat.le_of_ble_eq_true rfl) dL_law_907 ⟨C.ok1 hcs.1 (by omega), C.ok2 hcs.2 (by omega)⟩ (fun H locs hC hO hS _ hkk => ?_)
    have hM := zkeep hM hkk C.dM
    refine lv_istore (lv' := [(5, .int (zI 1)), (4, .int (zI (5 * (j : Int)))), (0, .ref b), (1, .ref (q 0)), (2, .ref (r 0)), (3, .ref o)]) C.hx C.hb dL_law_910 hl (by decide) rfl (fun ls hl => ?_)
    refine lv_aload_n C.hx C.hb dL_law_912 rfl (lv_at hl 4 rfl) ?_
    refine lv_aload_n C.hx C.hb dL_law_913 rfl (lv_at hl 2 rfl) ?_
    refine lv_iload C.hx C.hb dL_law_914 (lv_at hl 1 rfl) ?_
    refine zr_iconst C.hx C.hb dL_law_916 ?_
    refine zr_iadd (v := 5 * (j : Int) + 1) C.hx C.hb rfl dL_law_917 ?_
    refine zr_sld (s := s.setDrawn d0) C.hx C.hb C.hX C.hbl C.hbA hS (i := 5 * (j : Int) + 1) (by omega) (by omega) C.hLN dL_law_918 ?_
    refine lv_aload_n C.hx C.hb dL_law_919 rfl (lv_at hl 2 rfl) ?_
    refine lv_iload C.hx C.hb dL_law_920 (lv_at hl 1 rfl) ?_
    refine zr_iconst C.hx C.hb dL_law_922 ?_
    refine zr_iadd (v := 5 * (j : Int) + 2) C.hx C.hb rfl dL_law_923 ?_
    refine zr_sld (s := s.setDrawn d0) C.hx C.hb C.hX C.hbl C.hbA hS (i := 5 * (j : Int) + 2) (by omega) (by omega) C.hLN dL_law_924 ?_
    refine zcallV (ci := 3) (q0 := 0) (cq := (RX3, TX3, 12)) (As := [.int (zI (sc xs (5 * (j : Int) + 1))), .int (zI (sc xs (5 * (j : Int) + 2)))]) (rest := []) ⟨C.hx, C.hb, C.hml, C.hown, dr_words C.hts _⟩ C.hK2 (kX3_kinOfe1 l D cI cZ r C.hNr pa sp al co' da' mo st mr th n td wn R.1.1 (sc xs (5 * (j : Int) + 1)) (sc xs (5 * (j : Int) + 2)) (by omega) (by omega) (by omega)) (cwV 2 (dr_words C.hts _) gL_law_X3_kinOf rfl rfl rfl (by decide +kernel) ⟨Nat.le_of_ble_eq_true rfl, Nat.le_of_ble_eq_true rfl⟩) hM hS C.hA2 rfl rfl rfl hl.1 rfl (Nat.le_of_ble_eq_true rfl) dL_law_925 ⟨C.ok1 hcs.1 (by omega), C.ok2 hcs.2 (by omega)⟩ (fun H locs hM hS _ hkk => ?_)
    have hC := zkeep hC hkk C.dC
    have hO := zkeep hO hkk C.dO
    refine W.eq (g2 := F0 m 928 ls [.int (zI 0)]) rfl ?_
    refine lv_istore (lv' := [(6, .int (zI 0)), (5, .int (zI 1)), (4, .int (zI (5 * (j : Int)))), (0, .ref b), (1, .ref (q 0)), (2, .ref (r 0)), (3, .ref o)]) C.hx C.hb dL_law_928 hl (by decide) rfl (fun ls hl => ?_)
    refine lv_aload_n C.hx C.hb dL_law_930 rfl (lv_at hl 5 rfl) ?_
    refine zcallV (ci := 3) (q0 := 0) (cq := (RX3, TX3, 12)) (As := []) (rest := []) ⟨C.hx, C.hb, C.hml, C.hown, dr_words C.hts _⟩ C.hK2 (kX3_thrown l D cI cZ r C.hNr pa sp al co' da' mo st mr 1 n td wn) (cwV 0 (dr_words C.hts _) gL_law_X3_thrown rfl rfl rfl (by decide +kernel) ⟨Nat.le_of_ble_eq_true rfl, Nat.le_of_ble_eq_true rfl⟩) hM hS C.hA2 rfl rfl rfl hl.1 rfl (Nat.le_of_ble_eq_true rfl) dL_law_931 ⟨C.ok1 hcs.1 (by omega), C.ok2 hcs.2 (by omega)⟩ (fun H locs hM hS _ hkk => ?_)
    have hC := zkeep hC hkk C.dC
    have hO := zkeep hO hkk C.dO
    refine W.eq (g2 := F0 m 934 ls [.int (zI 1)]) rfl ?_
    refine lv_iload C.hx C.hb dL_law_934 (lv_at hl 1 rfl) ?_
    refine zr_icmp_eqT (tgt := 941) C.hx C.hb (rfl) dL_law_936 (by decide) ?_
    refine lv_iload C.hx C.hb dL_law_941 (lv_at hl 1 rfl) ?_
    refine zr_if_ne (tgt := 958) C.hx C.hb dL_law_943 (by decide) ⟨by decide, by decide⟩ (fun _ => ?_) (fun h9 => by exfalso; revert h9; decide)
    refine lv_goto (tgt := 1825) C.hx C.hb dL_law_958 (by decide) ?_
    refine W.widen (k := cells + 2) (n := slots + 12) (by omega) (by omega) ?_
    have hl := lv_sub hl (l' := [(4, .int (zI (5 * (j : Int)))), (0, .ref b), (1, .ref (q 0)), (2, .ref (r 0)), (3, .ref o)]) [2, 3, 4, 5, 6] rfl
    exact K _ hd0 H locs ls ⟨pa, sp, al, dg, co, da, mb, dd, ah, wl, lo, n, td, wn, co', da', mo, st, mr, 1, f, R, by omega, hst, hmr, hC, hM, hO⟩ hS hl
set_option maxHeartbeats 4000000 in
set_option maxRecDepth 100000 in
theorem law_c14 {p : Program} {l : Launch} {e : Env} {s : State} {m : MethodId} {below : List Frame} {meth : Method} {c : Code} {b L : Nat} {xs : Nat → Int32} {Q : State → Prop} {D : va_G} {cI cZ cJ : ClassId} {q r : Nat → Nat} {o : Nat} (C : zCx p l s m meth c b L xs D cI cZ cJ q r o) {d0 : Drawn} (hd0 : s.drawn.sameBut d0 lw_cs) {H : Heap} {locs : List Loc} {cells slots : Nat} (hcs : cells + 2 ≤ 601024 ∧ slots + 12 ≤ 7293034) {j : Nat} (hj : 5 * (j : Int) + 5 ≤ (L : Int)) (hj2 : j ≤ 512) {ls : Array Slot} (hZ : zLS D cI cZ cJ q r o j H) (hS : va_S (fun a => s.heap.size ≤ a) s.heap H locs) (hl : lv_has ls 9 [(4, .int (zI (5 * (j : Int)))), (0, .ref b), (1, .ref (q 0)), (2, .ref (r 0)), (3, .ref o)])
    (K : ∀ (d1 : Drawn), s.drawn.sameBut d1 lw_cs → ∀ (H1 : Heap) (locs1 : List Loc) (ls1 : Array Slot), zLS D cI cZ cJ q r o (j + 1) H1 → va_S (fun a => s.heap.size ≤ a) s.heap H1 locs1 → lv_has ls1 9 [(4, .int (zI (5 * (j : Int)))), (0, .ref b), (1, .ref (q 0)), (2, .ref (r 0)), (3, .ref o)] → W p l e room_1 (s.setDrawn d1) m #[Value.ref b] below meth c H1 locs1 (cells + 2) (slots + 12) Q (F0 m 1825 ls1 [])) :
    W p l e room_1 (s.setDrawn d0) m #[Value.ref b] below meth c H locs cells slots Q (F0 m 961 ls []) := by
  obtain ⟨pa, sp, al, dg, co, da, mb, dd, ah, wl, lo, n, td, wn, co', da', mo, st, mr, th, f, R, htd, hst, hmr, hC, hM, hO⟩ := hZ
  have hn := R.1.1
  have htd0 := R.1.2
  have hLN := C.hLN
  have hs1 := sc_rg xs (5 * (j : Int) + 1)
  have hs2 := sc_rg xs (5 * (j : Int) + 2)
  have hs3 := sc_rg xs (5 * (j : Int) + 3)
  have hs4 := sc_rg xs (5 * (j : Int) + 4)
  by_cases b1 : 1 ≤ sc xs (5 * (j : Int) + 1) ∧ sc xs (5 * (j : Int) + 1) ≤ 4
  · have b1 := b1
    by_cases b2 : 0 ≤ sc xs (5 * (j : Int) + 2) ∧ sc xs (5 * (j : Int) + 2) ≤ 2
    · have b2 := b2
      have hk9 := (R.2.2.2.1 (3 * (sc xs (5 * (j : Int) + 1) - 1) + sc xs (5 * (j : Int) + 2)) (by omega) (by omega)).1
      rw [show (192 : Int) + (3 * (sc xs (5 * (j : Int) + 1) - 1) + sc xs (5 * (j : Int) + 2)) = 16 * 12 + (sc xs (5 * (j : Int) + 1) - 1) * 3 + sc xs (5 * (j : Int) + 2) by omega] at hk9
      refine lv_aload_n C.hx C.hb dL_law_961 rfl (lv_at hl 2 rfl) ?_
      refine lv_aload_n C.hx C.hb dL_law_962 rfl (lv_at hl 1 rfl) ?_
      refine lv_iload C.hx C.hb dL_law_963 (lv_at hl 0 rfl) ?_
      refine zr_iconst C.hx C.hb dL_law_965 ?_
      refine zr_iadd (v := 5 * (j : Int) + 1) C.hx C.hb rfl dL_law_966 ?_
      refine zr_sld (s := s.setDrawn d0) C.hx C.hb C.hX C.hbl C.hbA hS (i := 5 * (j : Int) + 1) (by omega) (by omega) C.hLN dL_law_967 ?_
      refine lv_aload_n C.hx C.hb dL_law_968 rfl (lv_at hl 1 rfl) ?_
      refine lv_iload C.hx C.hb dL_law_969 (lv_at hl 0 rfl) ?_
      refine zr_iconst C.hx C.hb dL_law_971 ?_
      refine zr_iadd (v := 5 * (j : Int) + 2) C.hx C.hb rfl dL_law_972 ?_
      refine zr_sld (s := s.setDrawn d0) C.hx C.hb C.hX C.hbl C.hbA hS (i := 5 * (j : Int) + 2) (by omega) (by omega) C.hLN dL_law_973 ?_
      refine lv_aload_n C.hx C.hb dL_law_974 rfl (lv_at hl 4 rfl) ?_
      refine zcallLW (As := [.ref (q 0), .int (zI (sc xs (5 * (j : Int) + 1))), .int (zI (sc xs (5 * (j : Int) + 2))), .ref o]) (rest := []) ⟨C.hx, C.hb, C.hml, C.hown, dr_words C.hts _⟩ C.hK (kL_stageColourok l D C.hl0 cI cZ cJ q o C.hN C.hN2 pa sp al dg co da mb dd ah wl lo n td wn f R.2.1.2.2.2.1 (sc xs (5 * (j : Int) + 1)) (sc xs (5 * (j : Int) + 2)) (by omega) (by omega)) (vx_cwSW 4 (dr_words C.hts _) gL_law_L_stageColour rfl rfl rfl (by decide +kernel) ⟨Nat.le_of_ble_eq_true rfl, Nat.le_of_ble_eq_true rfl⟩) hC hO (C.tk hS) C.hE hS C.hA3 rfl hl.1 rfl (Nat.le_of_ble_eq_true rfl) dL_law_975 ⟨C.ok1 hcs.1 (by omega), C.ok2 hcs.2 (by omega)⟩ (fun H locs hC hO hS _ hkk => ?_)
      have hM := zkeep hM hkk C.dM
      refine lv_istore (lv' := [(5, .int (zI 0)), (4, .int (zI (5 * (j : Int)))), (0, .ref b), (1, .ref (q 0)), (2, .ref (r 0)), (3, .ref o)]) C.hx C.hb dL_law_978 hl (by decide) rfl (fun ls hl => ?_)
      refine lv_aload_n C.hx C.hb dL_law_980 rfl (lv_at hl 4 rfl) ?_
      refine lv_aload_n C.hx C.hb dL_law_981 rfl (lv_at hl 2 rfl) ?_
      refine lv_iload C.hx C.hb dL_law_982 (lv_at hl 1 rfl) ?_
      refine zr_iconst C.hx C.hb dL_law_984 ?_
      refine zr_iadd (v := 5 * (j : Int) + 1) C.hx C.hb rfl dL_law_985 ?_
      refine zr_sld (s := s.setDrawn d0) C.hx C.hb C.hX C.hbl C.hbA hS (i := 5 * (j : Int) + 1) (by omega) (by omega) C.hLN dL_law_986 ?_
      refine lv_aload_n C.hx C.hb dL_law_987 rfl (lv_at hl 2 rfl) ?_
      refine lv_iload C.hx C.hb dL_law_988 (lv_at hl 1 rfl) ?_
      refine zr_iconst C.hx C.hb dL_law_990 ?_
      refine zr_iadd (v := 5 * (j : Int) + 2) C.hx C.hb rfl dL_law_991 ?_
      refine zr_sld (s := s.setDrawn d0) C.hx C.hb C.hX C.hbl C.hbA hS (i := 5 * (j : Int) + 2) (by omega) (by omega) C.hLN dL_law_992 ?_
      refine zcallV (ci := 3) (q0 := 0) (cq := (RX3, TX3, 12)) (As := [.int (zI (sc xs (5 * (j : Int) + 1))), .int (zI (sc xs (5 * (j : Int) + 2)))]) (rest := []) ⟨C.hx, C.hb, C.hml, C.hown, dr_words C.hts _⟩ C.hK2 (kX3_stageColourok l D cI cZ r C.hNr pa sp al co' da' mo st mr th n td wn R.2.2.1.1 (sc xs (5 * (j : Int) + 1)) (sc xs (5 * (j : Int) + 2)) (by omega) (by omega) (by omega) (by omega)) (cwV 2 (dr_words C.hts _) gL_law_X3_stageColour rfl rfl rfl (by decide +kernel) ⟨Nat.le_of_ble_eq_true rfl, Nat.le_of_ble_eq_true rfl⟩) hM hS C.hA2 rfl rfl rfl hl.1 rfl (Nat.le_of_ble_eq_true rfl) dL_law_993 ⟨C.ok1 hcs.1 (by omega), C.ok2 hcs.2 (by omega)⟩ (fun H locs hM hS _ hkk => ?_)
      have hC := zkeep hC hkk C.dC
      have hO := zkeep hO hkk C.dO
      refine W.eq (g2 := F0 m 996 ls [.int (zI (co' (3 * ((sc xs (5 * (j : Int) + 1)) - 1) + (sc xs (5 * (j : Int) + 2)))))]) rfl ?_
      refine lv_istore (lv' := [(6, .int (zI (co' (3 * ((sc xs (5 * (j : Int) + 1)) - 1) + (sc xs (5 * (j : Int) + 2)))))), (5, .int (zI 0)), (4, .int (zI (5 * (j : Int)))), (0, .ref b), (1, .ref (q 0)), (2, .ref (r 0)), (3, .ref o)]) C.hx C.hb dL_law_996 hl (by decide) rfl (fun ls hl => ?_)
      refine lv_aload_n C.hx C.hb dL_law_998 rfl (lv_at hl 5 rfl) ?_
      refine zcallV (ci := 3) (q0 := 0) (cq := (RX3, TX3, 12)) (As := []) (rest := []) ⟨C.hx, C.hb, C.hml, C.hown, dr_words C.hts _⟩ C.hK2 (kX3_thrown l D cI cZ r C.hNr pa sp al co' da' mo st mr 0 n td wn) (cwV 0 (dr_words C.hts _) gL_law_X3_thrown rfl rfl rfl (by decide +kernel) ⟨Nat.le_of_ble_eq_true rfl, Nat.le_of_ble_eq_true rfl⟩) hM hS C.hA2 rfl rfl rfl hl.1 rfl (Nat.le_of_ble_eq_true rfl) dL_law_999 ⟨C.ok1 hcs.1 (by omega), C.ok2 hcs.2 (by omega)⟩ (fun H locs hM hS _ hkk => ?_)
      have hC := zkeep hC hkk C.dC
      have hO := zkeep hO hkk C.dO
      refine W.eq (g2 := F0 m 1002 ls [.int (zI 0)]) rfl ?_
      refine lv_iload C.hx C.hb dL_law_1002 (lv_at hl 1 rfl) ?_
      refine zr_icmp_eqT (tgt := 1009) C.hx C.hb (rfl) dL_law_1004 (by decide) ?_
      refine lv_iload C.hx C.hb dL_law_1009 (lv_at hl 1 rfl) ?_
      refine zr_if_ne (tgt := 1026) C.hx C.hb dL_law_1011 (by decide) ⟨by decide, by decide⟩ (fun h9 => by exfalso; revert h9; decide) (fun _ => ?_)
      refine lv_aload_n C.hx C.hb dL_law_1014 rfl (lv_at hl 6 rfl) ?_
      refine zr_iconst C.hx C.hb dL_law_1015 ?_
      refine zr_lald0 C.hx C.hb C.hK hO 0 2 rfl rfl dL_law_1016 ?_
      refine W.eq (g2 := F0 m 1017 ls [.long ((zI (co (16 * 12 + ((sc xs (5 * (j : Int) + 1)) - 1) * 3 + (sc xs (5 * (j : Int) + 2))))).toInt64)]) rfl ?_
      refine lv_iload C.hx C.hb dL_law_1017 (lv_at hl 0 rfl) ?_
      refine lv_i2l C.hx C.hb dL_law_1019 rfl ?_
      refine zr_lcmp_eqT (tgt := 1026) C.hx C.hb (congrArg (fun z => (zI z).toInt64) (hk9)) dL_law_1020 dL_law_1021 (by decide) ?_
      refine lv_goto (tgt := 1825) C.hx C.hb dL_law_1026 (by decide) ?_
      refine W.widen (k := cells + 2) (n := slots + 12) (by omega) (by omega) ?_
      have hl := lv_sub hl (l' := [(4, .int (zI (5 * (j : Int)))), (0, .ref b), (1, .ref (q 0)), (2, .ref (r 0)), (3, .ref o)]) [2, 3, 4, 5, 6] rfl
      exact K _ hd0 H locs ls ⟨pa, sp, al, dg, co, da, mb, dd, ah, wl, lo, n, td, wn, co', da', mo, st, mr, 0, (vp_updL f 0 (zI (co (16 * 12 + ((sc xs (5 * (j : Int) + 1)) - 1) * 3 + (sc xs (5 * (j : Int) + 2))))).toInt64), R, by omega, hst, hmr, hC, hM, hO⟩ hS hl
    · have b2 := b2
      refine lv_aload_n C.hx C.hb dL_law_961 rfl (lv_at hl 2 rfl) ?_
      refine lv_aload_n C.hx C.hb dL_law_962 rfl (lv_at hl 1 rfl) ?_
      refine lv_iload C.hx C.hb dL_law_963 (lv_at hl 0 rfl) ?_
      refine zr_iconst C.hx C.hb dL_law_965 ?_
      refine zr_iadd (v := 5 * (j : Int) + 1) C.hx C.hb rfl dL_law_966 ?_
      refine zr_sld (s := s.setDrawn d0) C.hx C.hb C.hX C.hbl C.hbA hS (i := 5 * (j : Int) + 1) (by omega) (by omega) C.hLN dL_law_967 ?_
      refine lv_aload_n C.hx C.hb dL_law_968 rfl (lv_at hl 1 rfl) ?_
      refine lv_iload C.hx C.hb dL_law_969 (lv_at hl 0 rfl) ?_
      refine zr_iconst C.hx C.hb dL_law_971 ?_
      refine zr_iadd (v := 5 * (j : Int) + 2) C.hx C.hb rfl dL_law_972 ?_
      refine zr_sld (s := s.setDrawn d0) C.hx C.hb C.hX C.hbl C.hbA hS (i := 5 * (j : Int) + 2) (by omega) (by omega) C.hLN dL_law_973 ?_
      refine lv_aload_n C.hx C.hb dL_law_974 rfl (lv_at hl 4 rfl) ?_
      refine zcallLW (As := [.ref (q 0), .int (zI (sc xs (5 * (j : Int) + 1))), .int (zI (sc xs (5 * (j : Int) + 2))), .ref o]) (rest := []) ⟨C.hx, C.hb, C.hml, C.hown, dr_words C.hts _⟩ C.hK (kL_stageColourx2 l D C.hl0 cI cZ cJ q o C.hN C.hN2 pa sp al dg co da mb dd ah wl lo n td wn f (sc xs (5 * (j : Int) + 1)) (sc xs (5 * (j : Int) + 2)) (by omega) (by omega) (by omega)) (vx_cwSW 4 (dr_words C.hts _) gL_law_L_stageColour rfl rfl rfl (by decide +kernel) ⟨Nat.le_of_ble_eq_true rfl, Nat.le_of_ble_eq_true rfl⟩) hC hO (C.tk hS) C.hE hS C.hA3 rfl hl.1 rfl (Nat.le_of_ble_eq_true rfl) dL_law_975 ⟨C.ok1 hcs.1 (by omega), C.ok2 hcs.2 (by omega)⟩ (fun H locs hC hO hS _ hkk => ?_)
      have hM := zkeep hM hkk C.dM
      refine lv_istore (lv' := [(5, .int (zI 1)), (4, .int (zI (5 * (j : Int)))), (0, .ref b), (1, .ref (q 0)), (2, .ref (r 0)), (3, .ref o)]) C.hx C.hb dL_law_978 hl (by decide) rfl (fun ls hl => ?_)
      refine lv_aload_n C.hx C.hb dL_law_980 rfl (lv_at hl 4 rfl) ?_
      refine lv_aload_n C.hx C.hb dL_law_981 rfl (lv_at hl 2 rfl) ?_
      refine lv_iload C.hx C.hb dL_law_982 (lv_at hl 1 rfl) ?_
      refine zr_iconst C.hx C.hb dL_law_984 ?_
      refine zr_iadd (v := 5 * (j : Int) + 1) C.hx C.hb rfl dL_law_985 ?_
      refine zr_sld (s := s.setDrawn d0) C.hx C.hb C.hX C.hbl C.hbA hS (i := 5 * (j : Int) + 1) (by omega) (by omega) C.hLN dL_law_986 ?_
      refine lv_aload_n C.hx C.hb dL_law_987 rfl (lv_at hl 2 rfl) ?_
      refine lv_iload C.hx C.hb dL_law_988 (lv_at hl 1 rfl) ?_
      refine zr_iconst C.hx C.hb dL_law_990 ?_
      refine zr_iadd (v := 5 * (j : Int) + 2) C.hx C.hb rfl dL_law_991 ?_
      refine zr_sld (s := s.setDrawn d0) C.hx C.hb C.hX C.hbl C.hbA hS (i := 5 * (j : Int) + 2) (by omega) (by omega) C.hLN dL_law_992 ?_
      refine zcallV (ci := 3) (q0 := 0) (cq := (RX3, TX3, 12)) (As := [.int (zI (sc xs (5 * (j : Int) + 1))), .int (zI (sc xs (5 * (j : Int) + 2)))]) (rest := []) ⟨C.hx, C.hb, C.hml, C.hown, dr_words C.hts _⟩ C.hK2 (kX3_stageColoure1 l D cI cZ r C.hNr pa sp al co' da' mo st mr th n td wn (sc xs (5 * (j : Int) + 1)) (sc xs (5 * (j : Int) + 2)) (by omega) (by omega) (by omega)) (cwV 2 (dr_words C.hts _) gL_law_X3_stageColour rfl rfl rfl (by decide +kernel) ⟨Nat.le_of_ble_eq_true rfl, Nat.le_of_ble_eq_true rfl⟩) hM hS C.hA2 rfl rfl rfl hl.1 rfl (Nat.le_of_ble_eq_true rfl) dL_law_993 ⟨C.ok1 hcs.1 (by omega), C.ok2 hcs.2 (by omega)⟩ (fun H locs hM hS _ hkk => ?_)
      have hC := zkeep hC hkk C.dC
      have hO := zkeep hO hkk C.dO
      refine W.eq (g2 := F0 m 996 ls [.int (zI 0)]) rfl ?_
      refine lv_istore (lv' := [(6, .int (zI 0)), (5, .int (zI 1)), (4, .int (zI (5 * (j : Int)))), (0, .ref b), (1, .ref (q 0)), (2, .ref (r 0)), (3, .ref o)]) C.hx C.hb dL_law_996 hl (by decide) rfl (fun ls hl => ?_)
      refine lv_aload_n C.hx C.hb dL_law_998 rfl (lv_at hl 5 rfl) ?_
      refine zcallV (ci := 3) (q0 := 0) (cq := (RX3, TX3, 12)) (As := []) (rest := []) ⟨C.hx, C.hb, C.hml, C.hown, dr_words C.hts _⟩ C.hK2 (kX3_thrown l D cI cZ r C.hNr pa sp al co' da' mo st mr 1 n td wn) (cwV 0 (dr_words C.hts _) gL_law_X3_thrown rfl rfl rfl (by decide +kernel) ⟨Nat.le_of_ble_eq_true rfl, Nat.le_of_ble_eq_true rfl⟩) hM hS C.hA2 rfl rfl rfl hl.1 rfl (Nat.le_of_ble_eq_true rfl) dL_law_999 ⟨C.ok1 hcs.1 (by omega), C.ok2 hcs.2 (by omega)⟩ (fun H locs hM hS _ hkk => ?_)
      have hC := zkeep hC hkk C.dC
      have hO := zkeep hO hkk C.dO
      refine W.eq (g2 := F0 m 1002 ls [.int (zI 1)]) rfl ?_
      refine lv_iload C.hx C.hb dL_law_1002 (lv_at hl 1 rfl) ?_
      refine zr_icmp_eqT (tgt := 1009) C.hx C.hb (rfl) dL_law_1004 (by decide) ?_
      refine lv_iload C.hx C.hb dL_law_1009 (lv_at hl 1 rfl) ?_
      refine zr_if_ne (tgt := 1026) C.hx C.hb dL_law_1011 (by decide) ⟨by decide, by decide⟩ (fun _ => ?_) (fun h9 => by exfalso; revert h9; decide)
      refine lv_goto (tgt := 1825) C.hx C.hb dL_law_1026 (by decide) ?_
      refine W.widen (k := cells + 2) (n := slots + 12) (by omega) (by omega) ?_
      have hl := lv_sub hl (l' := [(4, .int (zI (5 * (j : Int)))), (0, .ref b), (1, .ref (q 0)), (2, .ref (r 0)), (3, .ref o)]) [2, 3, 4, 5, 6] rfl
      exact K _ hd0 H locs ls ⟨pa, sp, al, dg, co, da, mb, dd, ah, wl, lo, n, td, wn, co', da', mo, st, mr, 1, f, R, by omega, hst, hmr, hC, hM, hO⟩ hS hl
  · have b1 := b1
    refine lv_aload_n C.hx C.hb dL_law_961 rfl (lv_at hl 2 rfl) ?_
    refine lv_aload_n C.hx C.hb dL_law_962 rfl (lv_at hl 1 rfl) ?_
    refine lv_iload C.hx C.hb dL_law_963 (lv_at hl 0 rfl) ?_
    refine zr_iconst C.hx C.hb dL_law_965 ?_
    refine zr_iadd (v := 5 * (j : Int) + 1) C.hx C.hb rfl dL_law_966 ?_
    refine zr_sld (s := s.setDrawn d0) C.hx C.hb C.hX C.hbl C.hbA hS (i := 5 * (j : Int) + 1) (by omega) (by omega) C.hLN dL_law_967 ?_
    refine lv_aload_n C.hx C.hb dL_law_968 rfl (lv_at hl 1 rfl) ?_
    refine lv_iload C.hx C.hb dL_law_969 (lv_at hl 0 rfl) ?_
    refine zr_iconst C.hx C.hb dL_law_971 ?_
    refine zr_iadd (v := 5 * (j : Int) + 2) C.hx C.hb rfl dL_law_972 ?_
    refine zr_sld (s := s.setDrawn d0) C.hx C.hb C.hX C.hbl C.hbA hS (i := 5 * (j : Int) + 2) (by omega) (by omega) C.hLN dL_law_973 ?_
    refine lv_aload_n C.hx C.hb dL_law_974 rfl (lv_at hl 4 rfl) ?_
    refine zcallLW (As := [.ref (q 0), .int (zI (sc xs (5 * (j : Int) + 1))), .int (zI (sc xs (5 * (j : Int) + 2))), .ref o]) (rest := []) ⟨C.hx, C.hb, C.hml, C.hown, dr_words C.hts _⟩ C.hK (kL_stageColourx1 l D C.hl0 cI cZ cJ q o C.hN C.hN2 pa sp al dg co da mb dd ah wl lo n td wn f (sc xs (5 * (j : Int) + 1)) (sc xs (5 * (j : Int) + 2)) (by omega) (by omega)) (vx_cwSW 4 (dr_words C.hts _) gL_law_L_stageColour rfl rfl rfl (by decide +kernel) ⟨Nat.le_of_ble_eq_true rfl, Nat.le_of_ble_eq_true rfl⟩) hC hO (C.tk hS) C.hE hS C.hA3 rfl hl.1 rfl (Nat.le_of_ble_eq_true rfl) dL_law_975 ⟨C.ok1 hcs.1 (by omega), C.ok2 hcs.2 (by omega)⟩ (fun H locs hC hO hS _ hkk => ?_)
    have hM := zkeep hM hkk C.dM
    refine lv_istore (lv' := [(5, .int (zI 1)), (4, .int (zI (5 * (j : Int)))), (0, .ref b), (1, .ref (q 0)), (2, .ref (r 0)), (3, .ref o)]) C.hx C.hb dL_law_978 hl (by decide) rfl (fun ls hl => ?_)
    refine lv_aload_n C.hx C.hb dL_law_980 rfl (lv_at hl 4 rfl) ?_
    refine lv_aload_n C.hx C.hb dL_law_981 rfl (lv_at hl 2 rfl) ?_
    refine lv_iload C.hx C.hb dL_law_982 (lv_at hl 1 rfl) ?_
    refine zr_iconst C.hx C.hb dL_law_984 ?_
    refine zr_iadd (v := 5 * (j : Int) + 1) C.hx C.hb rfl dL_law_985 ?_
    refine zr_sld (s := s.setDrawn d0) C.hx C.hb C.hX C.hbl C.hbA hS (i := 5 * (j : Int) + 1) (by omega) (by omega) C.hLN dL_law_986 ?_
    refine lv_aload_n C.hx C.hb dL_law_987 rfl (lv_at hl 2 rfl) ?_
    refine lv_iload C.hx C.hb dL_law_988 (lv_at hl 1 rfl) ?_
    refine zr_iconst C.hx C.hb dL_law_990 ?_
    refine zr_iadd (v := 5 * (j : Int) + 2) C.hx C.hb rfl dL_law_991 ?_
    refine zr_sld (s := s.setDrawn d0) C.hx C.hb C.hX C.hbl C.hbA hS (i := 5 * (j : Int) + 2) (by omega) (by omega) C.hLN dL_law_992 ?_
    refine zcallV (ci := 3) (q0 := 0) (cq := (RX3, TX3, 12)) (As := [.int (zI (sc xs (5 * (j : Int) + 1))), .int (zI (sc xs (5 * (j : Int) + 2)))]) (rest := []) ⟨C.hx, C.hb, C.hml, C.hown, dr_words C.hts _⟩ C.hK2 (kX3_stageColoure1 l D cI cZ r C.hNr pa sp al co' da' mo st mr th n td wn (sc xs (5 * (j : Int) + 1)) (sc xs (5 * (j : Int) + 2)) (by omega) (by omega) (by omega)) (cwV 2 (dr_words C.hts _) gL_law_X3_stageColour rfl rfl rfl (by decide +kernel) ⟨Nat.le_of_ble_eq_true rfl, Nat.le_of_ble_eq_true rfl⟩) hM hS C.hA2 rfl rfl rfl hl.1 rfl (Nat.le_of_ble_eq_true rfl) dL_law_993 ⟨C.ok1 hcs.1 (by omega), C.ok2 hcs.2 (by omega)⟩ (fun H locs hM hS _ hkk => ?_)
    have hC := zkeep hC hkk C.dC
    have hO := zkeep hO hkk C.dO
    refine W.eq (g2 := F0 m 996 ls [.int (zI 0)]) rfl ?_
    refine lv_istore (lv' := [(6, .int (zI 0)), (5, .int (zI 1)), (4, .int (zI (5 * (j : Int)))), (0, .ref b), (1, .ref (q 0)), (2, .ref (r 0)), (3, .ref o)]) C.hx C.hb dL_law_996 hl (by decide) rfl (fun ls hl => ?_)
    refine lv_aload_n C.hx C.hb dL_law_998 rfl (lv_at hl 5 rfl) ?_
    refine zcallV (ci := 3) (q0 := 0) (cq := (RX3, TX3, 12)) (As := []) (rest := []) ⟨C.hx, C.hb, C.hml, C.hown, dr_words C.hts _⟩ C.hK2 (kX3_thrown l D cI cZ r C.hNr pa sp al co' da' mo st mr 1 n td wn) (cwV 0 (dr_words C.hts _) gL_law_X3_thrown rfl rfl rfl (by decide +kernel) ⟨Nat.le_of_ble_eq_true rfl, Nat.le_of_ble_eq_true rfl⟩) hM hS C.hA2 rfl rfl rfl hl.1 rfl (Nat.le_of_ble_eq_true rfl) dL_law_999 ⟨C.ok1 hcs.1 (by omega), C.ok2 hcs.2 (by omega)⟩ (fun H locs hM hS _ hkk => ?_)
    have hC := zkeep hC hkk C.dC
    have hO := zkeep hO hkk C.dO
    refine W.eq (g2 := F0 m 1002 ls [.int (zI 1)]) rfl ?_
    refine lv_iload C.hx C.hb dL_law_1002 (lv_at hl 1 rfl) ?_
    refine zr_icmp_eqT (tgt := 1009) C.hx C.hb (rfl) dL_law_1004 (by decide) ?_
    refine lv_iload C.hx C.hb dL_law_1009 (lv_at hl 1 rfl) ?_
    refine zr_if_ne (tgt := 1026) C.hx C.hb dL_law_1011 (by decide) ⟨by decide, by decide⟩ (fun _ => ?_) (fun h9 => by exfalso; revert h9; decide)
    refine lv_goto (tgt := 1825) C.hx C.hb dL_law_1026 (by decide) ?_
    refine W.widen (k := cells + 2) (n := slots + 12) (by omega) (by omega) ?_
    have hl := lv_sub hl (l' := [(4, .int (zI (5 * (j : Int)))), (0, .ref b), (1, .ref (q 0)), (2, .ref (r 0)), (3, .ref o)]) [2, 3, 4, 5, 6] rfl
    exact K _ hd0 H locs ls ⟨pa, sp, al, dg, co, da, mb, dd, ah, wl, lo, n, td, wn, co', da', mo, st, mr, 1, f, R, by omega, hst, hmr, hC, hM, hO⟩ hS hl
