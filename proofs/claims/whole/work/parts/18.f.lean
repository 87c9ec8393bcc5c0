section ZCN
variable {p : Program} {l : Launch} {e : Env} {R : Room} {s : State} {m : MethodId} {args : Array Value} {below : List Frame} {meth : Method} {c : Code} {H : Heap} {locs : List Loc} {cells slots : Nat} {Q : State → Prop}
variable {pc : Nat} {ls : Array Slot} {rest st0 As : List Value} {cc bytes : ByteArray} {D : va_G} {tys : List (ClassId × FieldType)} {w w' : va_W} {A : Nat → Prop} {H0 : Heap} {L : List Nat} {v : Option Value}
variable {y : MethodName} {maxL nL index n : Nat} {ret : Option FieldType} {ws Ts : List Cond} {rm : Room} {own : String}
theorem zblindN {av : List Value} {sz : Nat} : FrameBlind (va_Pc av (fun U => U.heap.size = sz ∧ va_P D vwCl w U.heap ∧ va_K D vwCl tys U)) := fun a U g mk q => by
  obtain ⟨q0, qz, qP, qK⟩ := q
  exact ⟨q0, qz, qP, va_K.moved (u := U) (U := U.calling g mk a) (Vm.Alike.refl U.vm) qK⟩
theorem zcallNV {b ci q0 : Nat} {fs : List Value} {cq : vw_C} (S : CallFix p m c cc nL s args Ts own) (hK : va_K D vwCl tys s) (hM : zMN l y ws rm D tys (.ref b :: As) w w' v L H.size) (cw : CallW R s args own cq.1 index y bytes maxL ret ws rm 1 6 n) (hP : va_P D vwCl w H) (hS : va_S A H0 H locs) (hA : ∀ a ∈ L, A a) (hA2 : ∀ a, H0.size ≤ a → A a)
    (hc : vwCl[ci]? = some cq) (he : w[q0]? = some (b, .inr (ci, fs))) (hn : As.length = n) (hsz : ls.size = nL) (hst : st0 = As.reverse ++ .ref b :: rest) (hro : (rest.map fun v => v.category).sum ≤ 8) (hdg : decode cc pc = .ok (.invokevirtual index, 3)) (hf : cells + 1 ≤ R.cells ∧ slots + 6 ≤ R.slots)
    (kk : ∀ (H1 : Heap) (locs1 : List Loc), va_P D vwCl w' H1 → va_S A H0 H1 locs1 → H.size ≤ H1.size → (∀ q : Nat, q < H.size → q ∉ L → H1[q]? = H[q]?) → W p l e R s m args below meth c H1 locs1 (cells + 1) (slots + 6) Q (F0 m (pc + 3) ls (v.toList ++ rest))) : W p l e R s m args below meth c H locs cells slots Q (F0 m pc ls st0) := by
  intro T hT X
  obtain ⟨v', st₀, t, T', L', h0, X', hL, e1, e2, ⟨⟨hv, hp⟩, hz, hk⟩, st⟩ := va_runV (As := As) (rest := rest) (g := F0 m pc ls st0) (H := H) (locs := locs) (cells := cells) (slots := slots) S hM cw ⟨zblindN, va_recv hK hP hc he, fun U hU hW => ⟨rfl, by rw [hU], by rw [hU]; exact hP, va_K.moved hW.alike hK⟩⟩ rfl hn hsz hst (lv_room hro) hdg hf T hT X
  cases hv
  rw [h0] at hz hk
  obtain ⟨t2, a1, b1⟩ := kk T'.heap (locs ++ L') (by rw [e1]; exact hp) ⟨Nat.le_trans hS.1 (by rw [e1]; exact hz), fun q h1 h2 => by rw [e1, hk q (Nat.lt_of_lt_of_le h1 hS.1) (fun z => h2 (hA q z))]; exact hS.2.1 q h1 h2, fun q hq => by
      rcases List.mem_append.mp hq with h | h
      · exact hS.2.2 q h
      · exact (hL q h).elim (fun h => hA _ h) (fun h => hA2 _ (Nat.le_trans hS.1 h))⟩ (by rw [e1]; exact hz) (fun q h1 h2 => by rw [e1]; exact hk q h1 h2) T' rfl X'
  exact ⟨t2, st t2 a1, b1⟩
end ZCN
section DGE
variable {pa sp al co da mb dd : Int → Int} {n : Nat} {td : Int} {co' da' mo : Int → Int}
theorem dc_eq (R : Rel pa sp al co da mb dd n td co' da' mo) (d : Int64) : ∀ k : Nat, k ≤ 12 → dcF co da 192 d k = dcM co' da' d k := by
  intro k
  induction k with
  | zero => intro _; rfl
  | succ k ih =>
    intro hk
    have h := R.2.2.2.1 (k : Int) (by omega) (by omega)
    show (dcF co da 192 d k * 31 + (zI (co (192 + (k : Int)))).toInt64) * 31 + (zI (da (192 + (k : Int)))).toInt64 = (dcM co' da' d k * 31 + (zI (co' (k : Int))).toInt64) * 31 + (zI (da' (k : Int))).toInt64
    rw [ih (by omega), h.1, h.2]
theorem dp_eq (R : Rel pa sp al co da mb dd n td co' da' mo) (st : Int → Int) (d : Int64) {p : Int} (p0 : 0 ≤ p) (p1 : p < (n : Int)) : dpC pa sp al co da mb dd n td d p = dkM pa sp al n p st (dhM pa sp al mo n td d p) 4 := by
  have hn := R.1.1
  unfold dpC
  rw [re_ca0 R p0 (by omega), re_mourn R p0 (by omega), re_most R p0 (by omega), re_until R p0 (by omega)]
  rw [re_kin R st p0 p1 (g := 1) (by decide), re_kin R (dsP pa sp n p st 1) p0 p1 (g := 2) (by decide), re_kin R (dsP pa sp n p st 2) p0 p1 (g := 3) (by decide), re_kin R (dsP pa sp n p st 3) p0 p1 (g := 4) (by decide)]
  rfl
theorem dq_eq (R : Rel pa sp al co da mb dd n td co' da' mo) (st : Int → Int) (d : Int64) : ∀ k : Nat, k ≤ n → dpL (dpC pa sp al co da mb dd n td) d k = dqM pa sp al mo n td st d k := by
  intro k
  induction k with
  | zero => intro _; rfl
  | succ k ih =>
    intro hk
    show dpC pa sp al co da mb dd n td (dpL (dpC pa sp al co da mb dd n td) d k) (k : Int) = dkM pa sp al n (k : Int) (dsM pa sp n st k) (dhM pa sp al mo n td (dqM pa sp al mo n td st d k) (k : Int)) 4
    rw [ih (by omega), dp_eq R (dsM pa sp n st k) _ (by omega) (by omega)]
theorem re_digest (R : Rel pa sp al co da mb dd n td co' da' mo) (st : Int → Int) (wn : Int) : dgC pa sp al co da mb dd n td wn = dgR pa sp al co' da' mo st n td wn := by
  unfold dgC dgR sdM
  rw [re_strict R, re_longest R, dc_eq R _ 12 (by decide), dq_eq R st _ n (Nat.le_refl n)]
end DGE
set_option maxHeartbeats 4000000 in
set_option maxRecDepth 100000 in
theorem law_c32 {p : Program} {l : Launch} {e : Env} {s : State} {m : MethodId} {below : List Frame} {meth : Method} {c : Code} {b L : Nat} {xs : Nat → Int32} {Q : State → Prop} {D : va_G} {cI cZ cJ : ClassId} {q r : Nat → Nat} {o : Nat} (C : zCx p l s m meth c b L xs D cI cZ cJ q r o) {d0 : Drawn} (hd0 : s.drawn.sameBut d0 lw_cs) {H : Heap} {locs : List Loc} {cells slots : Nat} (hcs : cells + 2 ≤ 601024 ∧ slots + 12 ≤ 7293034) {j : Nat} (hj : 5 * (j : Int) + 5 ≤ (L : Int)) (hj2 : j ≤ 512) {ls : Array Slot} (hZ : zLS D cI cZ cJ q r o j H) (hS : va_S (fun a => s.heap.size ≤ a) s.heap H locs) (hl : lv_has ls 9 [(4, .int (zI (5 * (j : Int)))), (0, .ref b), (1, .ref (q 0)), (2, .ref (r 0)), (3, .ref o)])
    (K : ∀ (d1 : Drawn), s.drawn.sameBut d1 lw_cs → ∀ (H1 : Heap) (locs1 : List Loc) (ls1 : Array Slot), zLS D cI cZ cJ q r o (j + 1) H1 → va_S (fun a => s.heap.size ≤ a) s.heap H1 locs1 → lv_has ls1 9 [(4, .int (zI (5 * (j : Int)))), (0, .ref b), (1, .ref (q 0)), (2, .ref (r 0)), (3, .ref o)] → W p l e room_1 (s.setDrawn d1) m #[Value.ref b] below meth c H1 locs1 (cells + 2) (slots + 12) Q (F0 m 1825 ls1 [])) :
    W p l e room_1 (s.setDrawn d0) m #[Value.ref b] below meth c H locs cells slots Q (F0 m 1811 ls []) := by
  obtain ⟨pa, sp, al, dg, co, da, mb, dd, ah, wl, lo, n, td, wn, co', da', mo, st, mr, th, f, R, htd, hst, hmr, hC, hM, hO⟩ := hZ
  have hn := R.1.1
  have htd0 := R.1.2
  have hLN := C.hLN
  have hs1 := sc_rg xs (5 * (j : Int) + 1)
  have hs2 := sc_rg xs (5 * (j : Int) + 2)
  have hs3 := sc_rg xs (5 * (j : Int) + 3)
  have hs4 := sc_rg xs (5 * (j : Int) + 4)
  refine lv_aload_n C.hx C.hb dL_law_1811 rfl (lv_at hl 2 rfl) ?_
  refine zcallV (ci := 2) (q0 := 0) (cq := (RX2, TX2, 9)) (As := []) (rest := []) ⟨C.hx, C.hb, C.hml, C.hown, dr_words C.hts _⟩ C.hK2 (kX2_digest l D cI cZ q C.hN pa sp al dg co da mb dd ah wl lo n td wn R.1.1 R.2.1.2.2.2.1 R.2.1.2.2.2.2.1 R.2.1.2.2.2.2.2.1 (re_dd1 R) (re_td1 R) R.2.1.1 R.2.1.2.1 R.2.1.2.2.1) (cwV 0 (dr_words C.hts _) gL_law_X2_digest rfl rfl rfl (by decide +kernel) ⟨Nat.le_of_ble_eq_true rfl, Nat.le_of_ble_eq_true rfl⟩) hC hS C.hA1 rfl rfl rfl hl.1 rfl (Nat.le_of_ble_eq_true rfl) dL_law_1812 ⟨C.ok1 hcs.1 (by omega), C.ok2 hcs.2 (by omega)⟩ (fun H locs hC hS _ hkk => ?_)
  have hM := zkeep hM hkk C.dM2
  have hO := zkeep hO hkk C.dO2
  refine W.eq (g2 := F0 m 1815 ls [.long (dgC pa sp al co da mb dd n td wn)]) rfl ?_
  refine lv_aload_n C.hx C.hb dL_law_1815 rfl (lv_at hl 3 rfl) ?_
  refine zcallNV (ci := 3) (q0 := 0) (cq := (RX3, TX3, 12)) (As := []) (rest := [.long (dgC pa sp al co da mb dd n td wn)]) ⟨C.hx, C.hb, C.hml, C.hown, dr_words C.hts _⟩ C.hK2 (kX3_digest l D cI cZ r C.hNr pa sp al co' da' mo st mr th n td wn R.2.1.1 R.2.1.2.1 R.2.1.2.2.1 R.2.2.1.1 R.2.2.1.2.1 hst R.1.1 R.2.2.1.2.2 (re_td1 R) (fun p h0 h1 => re_z R h0 (by omega)) H.size) (cwV 0 (dr_words C.hts _) gL_law_X3_digest rfl rfl rfl (by decide +kernel) ⟨Nat.le_of_ble_eq_true rfl, Nat.le_of_ble_eq_true rfl⟩) hM hS C.hA2 (fun a h => h) rfl rfl rfl hl.1 rfl (Nat.le_of_ble_eq_true rfl) dL_law_1816 ⟨C.ok1 hcs.1 (by omega), C.ok2 hcs.2 (by omega)⟩ (fun H locs hM hS _ hkk => ?_)
  have hC := zkeep hC hkk C.dC
  have hO := zkeep hO hkk C.dO
  refine W.eq (g2 := F0 m 1819 ls [.long (dgR pa sp al co' da' mo st n td wn), .long (dgC pa sp al co da mb dd n td wn)]) rfl ?_
  refine zr_lcmp_eqT (tgt := 1825) C.hx C.hb (re_digest R st wn) dL_law_1819 dL_law_1820 (by decide) ?_
  refine W.widen (k := cells + 2) (n := slots + 12) (by omega) (by omega) ?_
  exact K _ hd0 H locs ls ⟨pa, sp, al, lastF dg (dgF pa sp n) n, co, da, mb, dd, lastF ah (ca co da mb dd td n) n, wl, lo, n, td, wn, co', da', mo, dsM pa sp n st n, mr, 0, f, R, by omega, dsM_bd hst n, hmr, hC, hM, hO⟩ hS (lv_sub hl (l' := [(4, .int (zI (5 * (j : Int)))), (0, .ref b), (1, .ref (q 0)), (2, .ref (r 0)), (3, .ref o)]) [0, 1, 2, 3, 4] rfl)
