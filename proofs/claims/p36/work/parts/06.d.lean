/-! doubles: the mean -/
def dMean (S N : Int) : UInt64 := if N = 0 then FP.dconst0 else FP.ddiv (FP.i2d (zI S)) (FP.i2d (zI N))
theorem dMean_n {S N : Int} (h : N = 0) : dMean S N = FP.dconst0 := if_pos h
theorem dMean_y {S N : Int} (h : N ≠ 0) : dMean S N = FP.ddiv (FP.i2d (zI S)) (FP.i2d (zI N)) := if_neg h
theorem nan_dec {x : UInt64} (h : isNaN64 x = true) : FP.Core.decode FP.Core.b64 x.toNat = .nan := by
  have h1 : 9218868437227405312 < x.toNat % 9223372036854775808 := by
    have h2 : x &&& 0x7fffffffffffffff > 0x7ff0000000000000 := by simpa [isNaN64] using h
    have h3 : (0x7ff0000000000000 : UInt64).toNat < (x &&& 0x7fffffffffffffff).toNat := h2
    rw [UInt64.toNat_and, show (0x7fffffffffffffff : UInt64).toNat = 2 ^ 63 - 1 by decide, Nat.and_two_pow_sub_one_eq_mod] at h3
    exact h3
  have e1 : FP.Core.fieldE FP.Core.b64 x.toNat = FP.Core.b64.exps - 1 := by
    show x.toNat / 4503599627370496 % 2048 = 2047
    omega
  have e2 : FP.Core.fieldT FP.Core.b64 x.toNat ≠ 0 := by
    show x.toNat % 4503599627370496 ≠ 0
    omega
  unfold FP.Core.decode
  rw [if_pos e1, if_neg e2]
theorem nan_cmp1 {x y : UInt64} (h : isNaN64 x = true) : FP.dcmp x y = none := by
  show FP.Core.order (FP.Core.decode FP.Core.b64 x.toNat) (FP.Core.decode FP.Core.b64 y.toNat) = none
  rw [nan_dec h]
  rfl
/-- what alike doubles answer to a comparison: equal, or neither is equal to itself -/
theorem alike_cmp {x y v : UInt64} (hx : alike64 x v = true) (hy : alike64 y v = true) : x = y ∨ (FP.dcmp x y = none ∧ FP.dcmp x x = none ∧ FP.dcmp y y = none) := by
  have h1 : x = v ∨ (isNaN64 x = true ∧ isNaN64 v = true) := by simpa [alike64] using hx
  have h2 : y = v ∨ (isNaN64 y = true ∧ isNaN64 v = true) := by simpa [alike64] using hy
  rcases h1 with h1 | h1
  · rcases h2 with h2 | h2
    · exact Or.inl (h1.trans h2.symm)
    · have := h2.2
      rw [← h1] at this
      exact Or.inr ⟨nan_cmp1 this, nan_cmp1 this, nan_cmp1 h2.1⟩
  · rcases h2 with h2 | h2
    · have := h1.2
      rw [← h2] at this
      exact Or.inr ⟨nan_cmp1 h1.1, nan_cmp1 h1.1, nan_cmp1 this⟩
    · exact Or.inr ⟨nan_cmp1 h1.1, nan_cmp1 h1.1, nan_cmp1 h2.1⟩
abbrev zQD (D : va_G) (w' : va_W) (V : UInt64) (L : List Nat) : Array Value → State → Outcome → State → Prop := va_Qd (fun r (_ : Unit) => alike64 r V = true) (fun _ t => va_P D vwCl w' t.heap) (fun a => a ∈ L)
/-- a contract of a method that answers a double (or one alike) and may draw a NaN's bits -/
def zMD (l : Launch) (y : MethodName) (ws : List Cond) (rm : Room) (D : va_G) (tys : List (ClassId × FieldType)) (av : List Value) (w w' : va_W) (V : UInt64) (L : List Nat) : Prop :=
  MetD lw_cs l y ws rm (va_Pc av (fun U => va_P D vwCl w U.heap ∧ va_K D vwCl tys U)) (zQD D w' V L) 0 0 (fun a => a ∈ L)
section ZD
variable {p : Program} {l : Launch} {e : Env} {R : Room} {s : State} {m : MethodId} {args : Array Value} {below : List Frame} {meth : Method} {c : Code} {H : Heap} {locs : List Loc} {cells slots : Nat} {Q : State → Prop}
variable {pc : Nat} {ls : Array Slot} {rest st0 As : List Value} {cc bytes : ByteArray} {D : va_G} {tys : List (ClassId × FieldType)} {w w' : va_W} {A : Nat → Prop} {H0 : Heap} {L : List Nat} {V : UInt64}
variable {y : MethodName} {maxL nL index n : Nat} {ret : Option FieldType} {ws Ts : List Cond} {rm : Room} {own : String} {d0 : Drawn}
theorem zret_d {r : UInt64} (hd0 : s.drawn.sameBut d0 lw_cs) (hx : p.tables.exec = Jvm.exec) (hb : c.code = cc) (hr : meth.sig.returnType = some .double) (hlocks : meth.locks = false) (ha : alike64 r V = true) (hP : va_P D vwCl w' H) (hS : va_S (fun a => a ∈ L) s.heap H locs) (hdg : decode cc pc = .ok (.dreturn, 1)) :
    W p l e R (s.setDrawn d0) m args below meth c H locs cells slots (MQD lw_cs below (zQD D w' V L) args s cells slots (fun a => a ∈ L)) (F0 m pc ls [.double r]) := by
  have hS2 : va_S (fun a => a ∈ L) (s.setDrawn d0).heap H locs := hS
  exact W.endD hd0 (W.dret hx hb hr (fun t ht _ => ⟨⟨r, (), rfl, ha, by show va_P D vwCl w' t.heap; rw [ht]; exact hP⟩, hS2.F ht⟩) hS.2.2 hdg hlocks)
theorem zcallDV {b ci q0 : Nat} {fs : List Value} {cq : vw_C} (hd0 : s.drawn.sameBut d0 lw_cs) (S : CallFix p m c cc nL (s.setDrawn d0) args Ts own) (hK : va_K D vwCl tys (s.setDrawn d0)) (hM : zMD l y ws rm D tys (.ref b :: As) w w' V L) (cw : CallW R (s.setDrawn d0) args own cq.1 index y bytes maxL ret ws rm 0 0 n) (hP : va_P D vwCl w H) (hS : va_S A H0 H locs) (hA : ∀ a ∈ L, A a)
    (hc : vwCl[ci]? = some cq) (he : w[q0]? = some (b, .inr (ci, fs))) (hn : As.length = n) (hsz : ls.size = nL) (hst : st0 = As.reverse ++ .ref b :: rest) (hro : (rest.map fun v => v.category).sum ≤ 8) (hdg : decode cc pc = .ok (.invokevirtual index, 3)) (hf : cells ≤ R.cells ∧ slots ≤ R.slots)
    (kk : ∀ (r : UInt64) (d1 : Drawn) (H1 : Heap) (locs1 : List Loc), s.drawn.sameBut d1 lw_cs → alike64 r V = true → va_P D vwCl w' H1 → va_S A H0 H1 locs1 → H.size ≤ H1.size → (∀ q : Nat, q < H.size → q ∉ L → H1[q]? = H[q]?) → W p l e R (s.setDrawn d1) m args below meth c H1 locs1 cells slots Q (F0 m (pc + 3) ls (.double r :: rest))) : W p l e R (s.setDrawn d0) m args below meth c H locs cells slots Q (F0 m pc ls st0) :=
  va_calldD hd0 (va_runV_D (As := As) (rest := rest) (g := F0 m pc ls st0) (H := H) (locs := locs) (cells := cells) (slots := slots) S hM cw ⟨zblind, va_recv hK hP hc he, fun U hU hW => ⟨rfl, by rw [hU]; exact hP, va_K.moved hW.alike hK⟩⟩ rfl hn hsz hst (lv_room hro) hdg hf) hS (fun q _ h => hA q h) (fun q h => hA q h)
    (fun r _ t H1 locs1 a1 _ a3 a4 a5 a6 a7 d1 hd1 => kk r d1 H1 locs1 hd1 a3 (by rw [← a1]; exact a4) a7 a5 a6)
end ZD
set_option maxHeartbeats 4000000 in
set_option maxRecDepth 100000 in
theorem kX2_meanDaysLeft (l : Launch) (D : va_G) (cI cZ : ClassId) (q : Nat → Nat) (hN : (zLC q).Nodup) (pa : Int → Int) (sp : Int → Int) (al : Int → Int) (dg : Int → Int) (co : Int → Int) (da : Int → Int) (mb : Int → Int) (dd : Int → Int) (ah : Int → Int) (wl : Int → Int) (lo : Int → Int) (n : Nat) (td : Int) (wn : Int) (hn : n ≤ 16) (hal : ∀ j : Int, 0 ≤ al j ∧ al j ≤ 1) (hda : ∀ j : Int, 0 ≤ da j ∧ da j ≤ 60) (hmb : ∀ j : Int, 0 ≤ mb j ∧ mb j ≤ 4) (hdd : ∀ j : Int, 0 ≤ dd j ∧ dd j ≤ 1000000) (htd : 0 ≤ td ∧ td ≤ 1000000) : zMD l yX2_meanDaysLeft wsX2_meanDaysLeft ({ frames := 4, cells := 0, slots := 0, locals := 92 }) D [(cI, .int), (cZ, .boolean)] [.ref (q 0)] (wC cI cZ q pa sp al dg co da mb dd ah wl lo n td wn) (wC cI cZ q pa sp al dg co da mb dd ah wl lo n td wn) (dMean (smF (llS da mb dd td n) n) (smF al n)) (zLC q) := by
  refine MetD.ofW (cc := cX2_meanDaysLeft) (maxL := 4) (ret := (some .double)) (by decide) rfl ?_
  intro p0 e9 s9 m9 ag9 below meth c9 s₁ B hml hv hd0
  obtain ⟨hav, hP, hK⟩ := hv
  have hx := B.exec
  have hb := B.bytes
  have hr := B.returns
  have hts := atoms_spec (ws := wsX2_meanDaysLeft) B.pre
  have hown : s9.vm.findClass RX2 = some m9.cls := findClass_of_methodNamed B.named
  have hlocks := B.notSynchronized
  have hA : ∀ a ∈ zLC q, (fun a => a ∈ zLC q) a := fun _ h => h
  have hin1 : ∀ w ∈ u_ws RX1 TX1 5, w ∈ wsX2_meanDaysLeft := by decide +kernel
  have hin2 : ∀ w ∈ u_ws RX2 TX2 9, w ∈ wsX2_meanDaysLeft := by decide +kernel
  have hl := lv_entry ([.ref (q 0)]) (n := 4) (Nat.le_of_ble_eq_true rfl)
  have hE : entryFrame m9 ag9 4 = F0 m9 0 ((lg_sl ([.ref (q 0)]) ++ List.replicate (4 - (lg_sl ([.ref (q 0)])).length) Slot.unset).toArray) [] := by rw [hav]; exact lg_entry_eq m9 _ _
  obtain ⟨Q0, hQ0⟩ : ∃ Q0, Q0 = MQD lw_cs below (zQD D (wC cI cZ q pa sp al dg co da mb dd ah wl lo n td wn) (dMean (smF (llS da mb dd td n) n) (smF al n)) (zLC q)) ag9 s9 0 0 (fun a => a ∈ zLC q) := ⟨_, rfl⟩
  show W p0 l e9 ({ frames := 4, cells := 0, slots := 0, locals := 92 }) s9 m9 ag9 below meth c9 s9.heap [] 0 0 (MQD lw_cs below (zQD D (wC cI cZ q pa sp al dg co da mb dd ah wl lo n td wn) (dMean (smF (llS da mb dd td n) n) (smF al n)) (zLC q)) ag9 s9 0 0 (fun a => a ∈ zLC q)) _
  rw [hE, ← hQ0]
  have hS : va_S (fun a => a ∈ zLC q) s9.heap s9.heap [] := va_S.rf
  generalize hH0 : s9.heap = H at hP ⊢
  have hS : va_S (fun a => a ∈ zLC q) s9.heap H [] := by rw [hH0] at hS ⊢; exact hS
  generalize (lg_sl ([.ref (q 0)]) ++ List.replicate (4 - (lg_sl ([.ref (q 0)])).length) Slot.unset).toArray = ls at hl ⊢
  have hl : lv_has ls 4 [(0, .ref (q 0))] := hl
  have hb9 := smF_bd (f := al) (k := n) (B := 1) hal
  refine lv_aload_n hx hb dX2_meanDaysLeft_0 rfl (lv_at hl 0 rfl) ?_
  refine va_get (D := D) (ci := 2) (v := .ref (q 1)) (C := RX2) (T := TX2) (N := 9) hx hb hts hin2 hown hK hP 0 rfl rfl 0 (by decide) (hts (.fieldLink RX2 12 "MourningRibbons" "family" "LMourningRibbons$Family;") (by decide +kernel)) (fun _ h9 => h9) rfl dX2_meanDaysLeft_1 ?_
  refine zcallV (ci := 1) (q0 := 1) (cq := (RX1, TX1, 5)) (As := []) (rest := []) ⟨hx, hb, hml, hown, hts⟩ hK (kX1_livingCount l D cI cZ q hN pa sp al dg co da mb dd ah wl lo n td wn hn hal) (cwV 0 hts gX2_meanDaysLeft_X1_livingCount rfl rfl rfl (by decide +kernel) ⟨Nat.le_of_ble_eq_true rfl, Nat.le_of_ble_eq_true rfl⟩) hP hS hA rfl rfl rfl hl.1 rfl (Nat.le_of_ble_eq_true rfl) dX2_meanDaysLeft_4 ⟨Nat.zero_le _, Nat.zero_le _⟩ (fun H locs hP hS _ _ => ?_)
  refine W.eq (g2 := F0 m9 7 ls [.int (zI (smF al n))]) rfl ?_
  refine lv_istore_n (lv' := [(1, .int (zI (smF al n))), (0, .ref (q 0))]) hx hb dX2_meanDaysLeft_7 rfl hl (by decide) rfl (fun ls hl => ?_)
  refine lv_iload_n hx hb dX2_meanDaysLeft_8 rfl (lv_at hl 0 rfl) ?_
  refine zr_if_ne (tgt := 14) hx hb dX2_meanDaysLeft_9 (by decide) ⟨by omega, by omega⟩ (fun c_1 => ?_) (fun c_1 => ?_)
  · have c_1 := c_1
    refine zr_iconst hx hb dX2_meanDaysLeft_14 ?_
    refine lv_istore_n (lv' := [(2, .int (zI 0)), (1, .int (zI (smF al n))), (0, .ref (q 0))]) hx hb dX2_meanDaysLeft_15 rfl hl (by decide) rfl (fun ls hl => ?_)
    refine zr_iconst hx hb dX2_meanDaysLeft_16 ?_
    refine lv_istore_n (lv' := [(3, .int (zI 0)), (2, .int (zI 0)), (1, .int (zI (smF al n))), (0, .ref (q 0))]) hx hb dX2_meanDaysLeft_17 rfl hl (by decide) rfl (fun ls hl => ?_)
    have L18_2 : ∀ (kf i : Nat), i ≤ n → n - i < kf → ∀ (H : Heap) (locs : List Loc) (ls : Array Slot), va_P D vwCl (wC cI cZ q pa sp al dg co da mb dd ah wl lo n td wn) H → va_S (fun a => a ∈ zLC q) s9.heap H locs → lv_has ls 4 [(3, .int (zI (i : Int))), (2, .int (zI (smF (llS da mb dd td n) i))), (1, .int (zI (smF al n))), (0, .ref (q 0))] → W p0 l e9 ({ frames := 4, cells := 0, slots := 0, locals := 92 }) s9 m9 ag9 below meth c9 H locs 0 0 Q0 (F0 m9 18 ls []) := by
      intro kf
      induction kf with
      | zero => intro i h1 h2; omega
      | succ kf ih =>
        intro i hi_i hk_i H locs ls hP hS hl
        have ih_i := ih
        clear ih
        refine lv_iload_n hx hb dX2_meanDaysLeft_18 rfl (lv_at hl 0 rfl) ?_
        refine lv_aload_n hx hb dX2_meanDaysLeft_19 rfl (lv_at hl 3 rfl) ?_
        refine va_get (D := D) (ci := 2) (v := .ref (q 1)) (C := RX2) (T := TX2) (N := 9) hx hb hts hin2 hown hK hP 0 rfl rfl 0 (by decide) (hts (.fieldLink RX2 12 "MourningRibbons" "family" "LMourningRibbons$Family;") (by decide +kernel)) (fun _ h9 => h9) rfl dX2_meanDaysLeft_20 ?_
        refine va_get (D := D) (ci := 1) (v := .int (zI (n : Int))) (C := RX1) (T := TX1) (N := 5) hx hb hts hin1 hown hK hP 1 rfl rfl 3 (by decide) (hts (.fieldLink RX2 128 "MourningRibbons$Family" "count" "I") (by decide +kernel)) (fun _ h9 => h9) rfl dX2_meanDaysLeft_23 ?_
        refine zr_icmp_ge (tgt := 43) hx hb dX2_meanDaysLeft_26 (by decide) ⟨by omega, by omega⟩ ⟨by omega, by omega⟩ (fun c_3 => ?_) (fun c_3 => ?_)
        · have c_3 := c_3
          refine lv_iload_n hx hb dX2_meanDaysLeft_43 rfl (lv_at hl 1 rfl) ?_
          refine lv_i2d hx hb dX2_meanDaysLeft_44 ?_
          refine lv_iload_n hx hb dX2_meanDaysLeft_45 rfl (lv_at hl 2 rfl) ?_
          refine lv_i2d hx hb dX2_meanDaysLeft_46 ?_
          refine W.base ?_
          refine lv_ddiv_any hd0 lw_bits hx hb dX2_meanDaysLeft_47 (fun r9 d9 hal9 hd9 => ?_)
          rw [hQ0]
          exact zret_d hd9 hx hb hr hlocks (by rw [dMean_y (by omega)]; rw [show i = n by omega] at hal9; exact hal9) hP hS dX2_meanDaysLeft_48
        · have c_3 := c_3
          refine lv_iload_n hx hb dX2_meanDaysLeft_29 rfl (lv_at hl 1 rfl) ?_
          refine lv_aload_n hx hb dX2_meanDaysLeft_30 rfl (lv_at hl 3 rfl) ?_
          refine lv_iload_n hx hb dX2_meanDaysLeft_31 rfl (lv_at hl 0 rfl) ?_
          refine zcallV (ci := 2) (q0 := 0) (cq := (RX2, TX2, 9)) (As := [.int (zI (i : Int))]) (rest := [.int (zI (smF (llS da mb dd td n) i))]) ⟨hx, hb, hml, hown, hts⟩ hK (kX2_longestLeft l D cI cZ q hN pa sp al dg co da mb dd ah wl lo n td wn hn hda hmb hdd htd (i : Int) (by omega)) (cwV 1 hts gX2_meanDaysLeft_X2_longestLeft rfl rfl rfl (by decide +kernel) ⟨Nat.le_of_ble_eq_true rfl, Nat.le_of_ble_eq_true rfl⟩) hP hS hA rfl rfl rfl hl.1 rfl (Nat.le_of_ble_eq_true rfl) dX2_meanDaysLeft_32 ⟨Nat.zero_le _, Nat.zero_le _⟩ (fun H locs hP hS _ _ => ?_)
          refine W.eq (g2 := F0 m9 35 ls [.int (zI (mxF (lf da mb dd td (i : Int)) n)), .int (zI (smF (llS da mb dd td n) i))]) rfl ?_
          have f_4 := mxF_bd (f := lf da mb dd td (i : Int)) (k := n) (B := 1000180) (by decide) (fun j => (lf_180 hda hdd htd mb (i : Int) j).2)
          refine zr_iadd (v := (smF (llS da mb dd td n) i) + (mxF (lf da mb dd td (i : Int)) n)) hx hb rfl dX2_meanDaysLeft_35 ?_
          refine lv_istore_n (lv' := [(2, .int (zI ((smF (llS da mb dd td n) i) + (mxF (lf da mb dd td (i : Int)) n)))), (3, .int (zI (i : Int))), (1, .int (zI (smF al n))), (0, .ref (q 0))]) hx hb dX2_meanDaysLeft_36 rfl hl (by decide) rfl (fun ls hl => ?_)
          refine zr_iinc (v := (i : Int) + 1) (lv' := [(3, .int (zI ((i : Int) + 1))), (2, .int (zI ((smF (llS da mb dd td n) i) + (mxF (lf da mb dd td (i : Int)) n)))), (1, .int (zI (smF al n))), (0, .ref (q 0))]) hx hb dX2_meanDaysLeft_37 hl (k := 1) rfl rfl (by decide) rfl (fun ls hl => ?_)
          refine lv_goto (tgt := 18) hx hb dX2_meanDaysLeft_40 (by decide) ?_
          have hl := lv_sub hl (l' := [(3, .int (zI ((i : Int) + 1))), (2, .int (zI ((smF (llS da mb dd td n) i) + (mxF (lf da mb dd td (i : Int)) n)))), (1, .int (zI (smF al n))), (0, .ref (q 0))]) [0, 1, 2, 3] rfl
          have e_5 : ((((i + 1) : Nat) : Int) : Int) = (i : Int) + 1 := by omega
          have e_6 : (smF (llS da mb dd td n) (i + 1) : Int) = (smF (llS da mb dd td n) i) + (mxF (lf da mb dd td (i : Int)) n) := rfl
          have hl : lv_has ls 4 [(3, .int (zI (((i + 1) : Nat) : Int))), (2, .int (zI (smF (llS da mb dd td n) (i + 1)))), (1, .int (zI (smF al n))), (0, .ref (q 0))] := by rw [e_5, e_6]; exact hl
          exact ih_i (i + 1) (by omega) (by omega) _ _ _ hP hS hl
    have hl := lv_sub hl (l' := [(3, .int (zI 0)), (2, .int (zI 0)), (1, .int (zI (smF al n))), (0, .ref (q 0))]) [0, 1, 2, 3] rfl
    have e_7 : (smF (llS da mb dd td n) 0 : Int) = 0 := rfl
    have hl : lv_has ls 4 [(3, .int (zI 0)), (2, .int (zI (smF (llS da mb dd td n) 0))), (1, .int (zI (smF al n))), (0, .ref (q 0))] := by rw [e_7]; exact hl
    exact L18_2 (n + 1) 0 (Nat.zero_le _) (by omega) _ _ _ hP hS hl
  · have c_1 := c_1
    refine lv_dconst0 hx hb dX2_meanDaysLeft_12 ?_
    rw [hQ0]
    refine W.base ?_
    exact zret_d hd0 hx hb hr hlocks (by rw [dMean_n (by omega)]; exact alike64_refl _) hP hS dX2_meanDaysLeft_13
