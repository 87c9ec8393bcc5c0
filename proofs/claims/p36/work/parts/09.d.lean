/-! both worlds, and what an act answers -/
def zJC (D : va_G) (cI cZ : ClassId) (q : Nat → Nat) (pa sp al co da mb dd : Int → Int) (n : Nat) (td wn : Int) (H : Heap) : Prop := ∃ dg ah wl lo : Int → Int, va_P D vwCl (wC cI cZ q pa sp al dg co da mb dd ah wl lo n td wn) H
def zJ (D : va_G) (cI cZ c1 c2 : ClassId) (q : Nat → Nat) (s0 a : Nat) (T : Int) (H : Heap) : Prop := ∃ (n : Nat) (pa sp al co da mb dd : Int → Int) (td wn : Int) (M : Nat) (mo : Int → Int → Int), zInv n pa sp al co da mb dd td M mo ∧ 1 ≤ n ∧ td ≤ T ∧ zJC D cI cZ q pa sp al co da mb dd n td wn H ∧ zSW D cI c1 c2 s0 a n pa sp al co da M mo td wn H
abbrev zFX : String → State → State → Prop := fun _ _ _ => False
def zGX (l : Launch) (y : MethodName) (ws : List Cond) (rm : Room) (D : va_G) (cI cZ c1 c2 : ClassId) (av : List Value) (sz : Nat) (E : State → Prop) (Pre : Heap → Prop) (Post : Option Value → Heap → Prop) (free : Nat → Prop) (mc ms : Nat) : Prop :=
  vx_Met l y ws rm (va_Pc av (fun U => U.heap.size = sz ∧ Pre U.heap ∧ va_K D vwCl [(cI, .int), (cZ, .boolean)] U ∧ zKA cI c1 c2 U ∧ E U)) (fun _ st o t => (∃ v, o = .returned v ∧ Post v t.heap) ∧ va_F free st t) zFX mc ms free
theorem zrowNew (pa sp al : Int → Int) (f : Int) (n : Int) (j : Int) (j0 : 0 ≤ j) (j3 : j < 3) : up (up (up (cst 0) 0 f) 1 (-1)) 2 1 j = rowP (up pa n f) (up sp n (-1)) (up al n 1) n j := by
  rcases (show j = 0 ∨ j = 1 ∨ j = 2 by omega) with rfl | rfl | rfl
  · show f = up pa n f n
    exact (if_pos rfl).symm
  · show (-1 : Int) = up sp n (-1) n
    exact (if_pos rfl).symm
  · show (1 : Int) = up al n 1 n
    exact (if_pos rfl).symm
theorem zrowStg (c k j : Int) (j0 : 0 ≤ j) (j2 : j < 2) : up (up (cst 0) 0 c) 1 k j = if j = 0 then c else k := by
  rcases (show j = 0 ∨ j = 1 by omega) with rfl | rfl <;> rfl
theorem cmF_01 (sp al : Int → Int) (p : Int) : 0 ≤ cmF sp al p ∧ cmF sp al p ≤ 1 := by unfold cmF; split <;> decide
theorem cmF_0 {sp al : Int → Int} {p : Int} (h : cmF sp al p = 0) : ¬ (al p = 1 ∧ (sp p < 0 ∨ al (sp p) = 0)) := fun q => by
  unfold cmF at h
  rw [if_pos q] at h
  omega
theorem cmF_1 {sp al : Int → Int} {p : Int} (h : cmF sp al p ≠ 0) : al p = 1 ∧ (sp p < 0 ∨ al (sp p) = 0) := Decidable.byContradiction fun q => h (if_neg q)
theorem zSL_cgC {D : va_G} {cI c1 c2 : ClassId} {s0 ub : Nat} {H : Heap} {a : Nat} {kd : Nat → Int} {ap ac am : Nat} {ra rc : Int → Nat} {rr : Int → Int → Nat} {rm : Int → Nat} {n : Nat} {pa sp al co da co' da' : Int → Int} {M : Nat} {mo : Int → Int → Int} {td wn : Int} (h : zSL D cI c1 c2 s0 ub H a kd ap ac am ra rc rr rm n pa sp al co da M mo td wn)
    (e : ∀ d t : Int, 1 ≤ d → d ≤ 4 → 0 ≤ t → t ≤ 2 → co' (192 + ((d - 1) * 3 + t)) = co (192 + ((d - 1) * 3 + t)) ∧ da' (192 + ((d - 1) * 3 + t)) = da (192 + ((d - 1) * 3 + t))) : zSL D cI c1 c2 s0 ub H a kd ap ac am ra rc rr rm n pa sp al co' da' M mo td wn := by
  obtain ⟨h1, h5, h6, h7, h8, h9⟩ := h
  refine ⟨h1, h5, h6, fun d t d1 d4 t0 t2 => ?_, h8, h9⟩
  obtain ⟨e1, e2⟩ := e d t d1 d4 t0 t2
  refine ⟨iA.cgI (h7 d t d1 d4 t0 t2).1 (fun j _ _ => ?_), (h7 d t d1 d4 t0 t2).2⟩
  unfold rowC
  rw [e1, e2]
theorem kpF_192 (f : Int → Int) {p d t : Int} (hp : p ≠ 16) (d1 : 1 ≤ d) (d4 : d ≤ 4) (t0 : 0 ≤ t) (t2 : t ≤ 2) : kpF f p (192 + ((d - 1) * 3 + t)) = f (192 + ((d - 1) * 3 + t)) := by
  rw [show 192 + ((d - 1) * 3 + t) = 16 * 12 + (d - 1) * 3 + t by omega]
  exact kpF_o f (fun e => hp e.symm) d1 d4 t0 t2
set_option maxHeartbeats 4000000 in
set_option maxRecDepth 100000 in
theorem kL_act (l : Launch) (D : va_G) (hl0 : l.stackTraces = false) (cI cZ c1 c2 : ClassId) (sz : Nat) (s0 : Nat) (a : Nat) (q : Nat → Nat) (hN : (zLC q).Nodup) (hq0 : ∀ x ∈ zLC q, x < s0) (pa : Int → Int) (sp : Int → Int) (al : Int → Int) (dg : Int → Int) (co : Int → Int) (da : Int → Int) (mb : Int → Int) (dd : Int → Int) (ah : Int → Int) (wl : Int → Int) (lo : Int → Int) (n : Nat) (td : Int) (wn : Int) (M : Nat) (mo : Int → Int → Int) (hI : zInv n pa sp al co da mb dd td M mo) (htd9 : td ≤ 900000) (x : Int32) : zGX l yL_act wsL_act ({ frames := 9, cells := 310, slots := 29600, locals := 158 } : Room) D cI cZ c1 c2 [.ref (q 0), .ref a, .int x] sz (fun U => zT (fun x => x ∈ zLC q ∨ s0 ≤ x) U U.heap) (fun H => (va_P D vwCl (wC cI cZ q pa sp al dg co da mb dd ah wl lo n td wn) H ∧ zSW D cI c1 c2 s0 a n pa sp al co da M mo td wn H) ∧ 1 ≤ n) (fun v H => v = some (.int (zI 1)) ∧ zJ D cI cZ c1 c2 q s0 a (td + 60) H) (fun x : Nat => x ∈ zLC q ∨ s0 ≤ x) (310) (29600) := by
  refine vx_ofWH (cc := cL_act) (maxL := 10) (ret := (some .boolean)) (hh := [(155, 161, 164, 31), (232, 240, 243, 31), (309, 319, 322, 31), (497, 505, 508, 31), (554, 564, 567, 31)]) (by decide) rfl ?_
  intro p0 e9 s9 m9 ag9 below meth c9 s₁ B hml hv
  obtain ⟨hav, hsz, hPre, hK, hQ, hEx⟩ := hv
  subst hsz
  have hx := B.exec
  have hb := B.bytes
  have hr := B.returns
  have hts := atoms_spec (ws := wsL_act) B.pre
  have hown : s9.vm.findClass RL = some m9.cls := findClass_of_methodNamed B.named
  have hlocks := B.notSynchronized
  have htab := vx_table (x := yL_act) B (hts (.codeWith yL_act cL_act 10 (some .boolean) [(155, 161, 164, 31), (232, 240, 243, 31), (309, 319, 322, 31), (497, 505, 508, 31), (554, 564, 567, 31)]) (List.mem_of_getElem? (i := 0) rfl))
  have hin3 : ∀ w ∈ u_ws RX3 TX3 5, w ∈ wsL_act := by decide +kernel
  have hl := lv_entry ([.ref (q 0), .ref a, .int x]) (n := 10) (Nat.le_of_ble_eq_true rfl)
  have hE : entryFrame m9 ag9 10 = F0 m9 0 ((lg_sl ([.ref (q 0), .ref a, .int x]) ++ List.replicate (10 - (lg_sl ([.ref (q 0), .ref a, .int x])).length) Slot.unset).toArray) [] := by rw [hav]; exact lg_entry_eq m9 _ _
  obtain ⟨Q0, hQ0⟩ : ∃ Q0, Q0 = vx_MQ below (zGQ (fun v H => v = some (.int (zI 1)) ∧ zJ D cI cZ c1 c2 q s0 a (td + 60) H) (fun x : Nat => x ∈ zLC q ∨ s0 ≤ x)) zFX ag9 s9 (310) (29600) (fun x : Nat => x ∈ zLC q ∨ s0 ≤ x) := ⟨_, rfl⟩
  show W p0 l e9 ({ frames := 9, cells := 310, slots := 29600, locals := 158 } : Room) s9 m9 ag9 below meth c9 s9.heap [] 0 0 (vx_MQ below (zGQ (fun v H => v = some (.int (zI 1)) ∧ zJ D cI cZ c1 c2 q s0 a (td + 60) H) (fun x : Nat => x ∈ zLC q ∨ s0 ≤ x)) zFX ag9 s9 (310) (29600) (fun x : Nat => x ∈ zLC q ∨ s0 ≤ x)) _
  rw [hE, ← hQ0]
  have hS : va_S (fun x : Nat => x ∈ zLC q ∨ s0 ≤ x) s9.heap s9.heap [] := va_S.rf
  have hU : s9.heap.size ≤ s9.heap.size := Nat.le_refl _
  generalize (lg_sl ([.ref (q 0), .ref a, .int x]) ++ List.replicate (10 - (lg_sl ([.ref (q 0), .ref a, .int x])).length) Slot.unset).toArray = ls at hl ⊢
  have hl : lv_has ls 10 [(0, .ref (q 0)), (1, .ref a), (2, .int x)] := hl
  have hT := hEx
  obtain ⟨⟨hC, kd, ap, ac, am, ra, rc, rr, rm, hL⟩, h1n⟩ := hPre
  have hs0 := hL.s0u
  have haub := hL.aub
  have hn9 := hL.n16
  have hM9 := hL.M240
  have hub := Nat.le_refl s9.heap.size
  have hpa := hI.1.1
  have hsp := hI.1.2.1
  have hal := hI.1.2.2.1
  have hco := hI.1.2.2.2.1
  have hda := hI.1.2.2.2.2.1
  have hmb := hI.1.2.2.2.2.2.1
  have hdd := hI.1.2.2.2.2.2.2.1
  have hn := hI.1.2.2.2.2.2.2.2.1
  have htd : 0 ≤ td ∧ td ≤ 1000000 := ⟨hI.1.2.2.2.2.2.2.2.2, by omega⟩
  have hmo := hI.moB htd9
  have hsn : ∀ j : Int, 0 ≤ j → j < (n : Int) → sp j < (n : Int) := fun j h0 h1 => by have := hI.2.1.2.1 j h0 h1; omega
  refine lv_aload_n hx hb dL_act_0 rfl (lv_at hl 1 rfl) ?_
  refine va_get (D := D) (ci := 3) (v := .ref ap) (C := RX3) (T := TX3) (N := 5) hx hb hts hin3 hown hK hL.obj 0 rfl rfl 2 (by decide) (hts (.fieldLink RL 9 "MourningRibbonsLaw$Sim" "people" "[[I") (by decide +kernel)) (fun _ h9 => h9) rfl dL_act_1 ?_
  refine zs_len1 hx hb hQ hL.ppl dL_act_4 ?_
  have b_1 := hL.n16
  refine lv_istore_n (lv' := [(3, .int (zI (n : Int))), (0, .ref (q 0)), (1, .ref a), (2, .int x)]) hx hb dL_act_5 rfl hl (by decide) rfl (fun ls hl => ?_)
  refine lv_iload_n hx hb dL_act_6 rfl (lv_at hl 0 rfl) ?_
  refine zr_if_ne (tgt := 14) hx hb dL_act_7 (by decide) ⟨by omega, by omega⟩ (fun c_2 => ?_) (fun c_2 => by exfalso; omega)
  refine lv_iload_n hx hb dL_act_14 rfl (lv_at hl 3 rfl) ?_
  refine zr_iconst hx hb dL_act_15 ?_
  refine zx_ishr hx hb dL_act_16 (fun x_3 => ?_)
  refine lv_iload_n hx hb dL_act_17 rfl (lv_at hl 0 rfl) ?_
  refine zcallGS (As := [.int x_3, .int (zI (n : Int))]) (rest := []) ⟨hx, hb, hml, hown, hts⟩ hK hQ (kL_below l D cI cZ c1 c2 s9.heap.size x_3 (n : Int) (by omega)) (va_cwS 2 hts gL_act_L_below rfl rfl rfl (by decide +kernel) ⟨by first | exact Nat.le_of_ble_eq_true rfl | (show _ ≤ _; omega), Nat.le_of_ble_eq_true rfl⟩) (trivial) hS (fun _ h => h.elim) rfl hl.1 rfl (Nat.le_of_ble_eq_true rfl) dL_act_18 ⟨show 0 + 0 ≤ 310 from by omega, show 0 + 0 ≤ 29600 from by omega⟩ (fun v9 H locs hp9 hz9 hk9 hS => ?_)
  obtain ⟨z_4, rfl, h0z_4, h1z_4⟩ := hp9
  have hk9 := fun (x : Nat) (h : x < _) => hk9 x h (fun h => h)
  have hC := zgrowP hC hk9
  have hL := zSL.keep hL (fun x _ h2 => hk9 x (Nat.lt_of_lt_of_le h2 hU))
  have hT := zT.kept hT (fun x h1 _ => hk9 x h1)
  have hU : s9.heap.size ≤ H.size := hS.1
  refine W.eq (g2 := F0 m9 21 ls [.int (zI z_4)]) rfl ?_
  obtain ⟨p4, hnm_p4⟩ : ∃ p4 : Int, p4 = z_4 := ⟨_, rfl⟩; rw [← hnm_p4]
  refine lv_istore (lv' := [(4, .int (zI p4)), (3, .int (zI (n : Int))), (0, .ref (q 0)), (1, .ref a), (2, .int x)]) hx hb dL_act_21 hl (by decide) rfl (fun ls hl => ?_)
  refine lv_iload_n hx hb dL_act_23 rfl (lv_at hl 1 rfl) ?_
  refine zr_if_ne (tgt := 31) hx hb dL_act_24 (by decide) ⟨by omega, by omega⟩ (fun c_5 => ?_) (fun c_5 => by exfalso; omega)
  refine lv_iload_n hx hb dL_act_31 rfl (lv_at hl 4 rfl) ?_
  refine zr_bipush hx hb dL_act_32 (by decide) ?_
  refine zx_ishr hx hb dL_act_34 (fun x_6 => ?_)
  refine lv_iload_n hx hb dL_act_35 rfl (lv_at hl 1 rfl) ?_
  refine zcallGS (As := [.int x_6, .int (zI (n : Int))]) (rest := []) ⟨hx, hb, hml, hown, hts⟩ hK hQ (kL_below l D cI cZ c1 c2 H.size x_6 (n : Int) (by omega)) (va_cwS 2 hts gL_act_L_below rfl rfl rfl (by decide +kernel) ⟨by first | exact Nat.le_of_ble_eq_true rfl | (show _ ≤ _; omega), Nat.le_of_ble_eq_true rfl⟩) (trivial) hS (fun _ h => h.elim) rfl hl.1 rfl (Nat.le_of_ble_eq_true rfl) dL_act_36 ⟨show 0 + 0 ≤ 310 from by omega, show 0 + 0 ≤ 29600 from by omega⟩ (fun v9 H locs hp9 hz9 hk9 hS => ?_)
  obtain ⟨z_7, rfl, h0z_7, h1z_7⟩ := hp9
  have hk9 := fun (x : Nat) (h : x < _) => hk9 x h (fun h => h)
  have hC := zgrowP hC hk9
  have hL := zSL.keep hL (fun x _ h2 => hk9 x (Nat.lt_of_lt_of_le h2 hU))
  have hT := zT.kept hT (fun x h1 _ => hk9 x h1)
  have hU : s9.heap.size ≤ H.size := hS.1
  refine W.eq (g2 := F0 m9 39 ls [.int (zI z_7)]) rfl ?_
  obtain ⟨d5, hnm_d5⟩ : ∃ d5 : Int, d5 = z_7 := ⟨_, rfl⟩; rw [← hnm_d5]
  refine lv_istore (lv' := [(5, .int (zI d5)), (4, .int (zI p4)), (3, .int (zI (n : Int))), (0, .ref (q 0)), (1, .ref a), (2, .int x)]) hx hb dL_act_39 hl (by decide) rfl (fun ls hl => ?_)
  refine zr_bipush hx hb dL_act_41 (by decide) ?_
  refine lv_istore (lv' := [(6, .int (zI (-9))), (5, .int (zI d5)), (4, .int (zI p4)), (3, .int (zI (n : Int))), (0, .ref (q 0)), (1, .ref a), (2, .int x)]) hx hb dL_act_43 hl (by decide) rfl (fun ls hl => ?_)
  refine lv_iload_n hx hb dL_act_45 rfl (lv_at hl 3 rfl) ?_
  refine zr_if_ne (tgt := 53) hx hb dL_act_46 (by decide) ⟨by omega, by omega⟩ (fun c_8 => ?_) (fun c_8 => by exfalso; omega)
  refine lv_iload_n hx hb dL_act_53 rfl (lv_at hl 6 rfl) ?_
  refine zr_bipush hx hb dL_act_54 (by decide) ?_
  refine zcallGS (As := [.int x, .int (zI 18)]) (rest := []) ⟨hx, hb, hml, hown, hts⟩ hK hQ (kL_below l D cI cZ c1 c2 H.size x 18 (by omega)) (va_cwS 2 hts gL_act_L_below rfl rfl rfl (by decide +kernel) ⟨by first | exact Nat.le_of_ble_eq_true rfl | (show _ ≤ _; omega), Nat.le_of_ble_eq_true rfl⟩) (trivial) hS (fun _ h => h.elim) rfl hl.1 rfl (Nat.le_of_ble_eq_true rfl) dL_act_56 ⟨show 0 + 0 ≤ 310 from by omega, show 0 + 0 ≤ 29600 from by omega⟩ (fun v9 H locs hp9 hz9 hk9 hS => ?_)
  obtain ⟨z_9, rfl, h0z_9, h1z_9⟩ := hp9
  have hk9 := fun (x : Nat) (h : x < _) => hk9 x h (fun h => h)
  have hC := zgrowP hC hk9
  have hL := zSL.keep hL (fun x _ h2 => hk9 x (Nat.lt_of_lt_of_le h2 hU))
  have hT := zT.kept hT (fun x h1 _ => hk9 x h1)
  have hU : s9.heap.size ≤ H.size := hS.1
  refine W.eq (g2 := F0 m9 59 ls [.int (zI z_9)]) rfl ?_
  have kT120 : W p0 l e9 (({ frames := 9, cells := 310, slots := 29600, locals := 158 } : Room)) s9 m9 ag9 below meth c9 H locs 0 0 Q0 (F0 m9 120 ls []) := by
    refine lv_iload_n hx hb dL_act_120 rfl (lv_at hl 3 rfl) ?_
    refine zr_bipush hx hb dL_act_121 (by decide) ?_
    refine zr_icmp_ge (tgt := 155) hx hb dL_act_123 (by decide) ⟨by omega, by omega⟩ ⟨by decide, by decide⟩ (fun c_10 => ?_) (fun c_10 => ?_)
    · have c_10 := c_10
      refine lv_aload_n hx hb dL_act_155 rfl (lv_at hl 4 rfl) ?_
      refine zcallXV (ci := 2) (q0 := 0) (cq := (RX2, TX2, 9)) (As := []) (rest := []) ⟨hx, hb, hml, hown, hts⟩ hK (kX2_addPersonx1 l D hl0 cI cZ q hN pa sp al dg co da mb dd ah wl lo n td wn hn (by omega)) (cwV 0 hts gL_act_X2_addPerson rfl rfl rfl (by decide +kernel) ⟨Nat.le_of_ble_eq_true rfl, Nat.le_of_ble_eq_true rfl⟩) hC (zT.narrow hT (fun _ h => Or.inl h)) hS (fun x h => Or.inl h) rfl rfl rfl hl.1 rfl (Nat.le_of_ble_eq_true rfl) dL_act_156 ⟨show 0 + 1 ≤ 310 from by omega, show 0 + 6 ≤ 29600 from by omega⟩ (fun ce q9 H locs hC hS hz9 hk9 hce hcv hcl => ?_)
      have hkq := fun (x : Nat) (h1 : x < _) (h2 : s0 ≤ x) => hk9 x h1 (fun h => absurd (hq0 x h) (Nat.not_lt.mpr h2))
      have hL := zSL.keep hL (fun x h1 h2 => hkq x (Nat.lt_of_lt_of_le h2 hU) h1)
      have hT := zT.kept hT (fun x h1 h2 => hk9 x h1 (fun h => h2 (Or.inl h)))
      have hU : s9.heap.size ≤ H.size := hS.1
      refine vx_catch (E := "java/lang/IllegalStateException") (name := "java/lang/IllegalStateException") hown [] ⟨155, 161, 164, 31⟩ [⟨232, 240, 243, 31⟩, ⟨309, 319, 322, 31⟩, ⟨497, 505, 508, 31⟩, ⟨554, 564, 567, 31⟩] (by rw [htab]; rfl) (fun z hz => nomatch hz) (by decide) (by decide) (hts (.classLink RL 31 "java/lang/IllegalStateException") (by decide +kernel)) (zB.at (Vm.Alike.refl _) hEx.2.2.2 _ _ (List.mem_of_getElem? (i := 4) rfl)) hce hcv hcl ?_
      refine lv_astore (lv' := [(8, .ref q9), (6, .int (zI (-9))), (5, .int (zI d5)), (4, .int (zI p4)), (3, .int (zI (n : Int))), (0, .ref (q 0)), (1, .ref a), (2, .int x)]) hx hb dL_act_164 hl (by decide) rfl (fun ls hl => ?_)
      refine zr_bipush hx hb dL_act_166 (by decide) ?_
      refine lv_istore (lv' := [(7, .int (zI (-9))), (8, .ref q9), (6, .int (zI (-9))), (5, .int (zI d5)), (4, .int (zI p4)), (3, .int (zI (n : Int))), (0, .ref (q 0)), (1, .ref a), (2, .int x)]) hx hb dL_act_168 hl (by decide) rfl (fun ls hl => ?_)
      refine lv_iload hx hb dL_act_170 (lv_at hl 0 rfl) ?_
      refine lv_iload hx hb dL_act_172 (lv_at hl 2 rfl) ?_
      refine zr_icmp_neF (tgt := 181) hx hb (by omega) dL_act_174 (by decide) ?_
      refine zr_iconst hx hb dL_act_177 ?_
      refine lv_goto (tgt := 182) hx hb dL_act_178 (by decide) ?_
      rw [hQ0]
      exact vx_ret (zgret_z (z := 1) hx hb hr hlocks (zn_bool ⟨by omega, by omega⟩) (rfl) (⟨rfl, n, pa, sp, al, co, da, mb, dd, td, wn, M, mo, hI, by omega, by omega, ⟨_, _, _, _, hC⟩, hL.toW hU⟩) hS dL_act_182 (by omega) (by omega))
    · have c_10 := c_10
      refine lv_aload_n hx hb dL_act_126 rfl (lv_at hl 5 rfl) ?_
      refine lv_aload_n hx hb dL_act_127 rfl (lv_at hl 5 rfl) ?_
      refine va_get (D := D) (ci := 3) (v := .ref ap) (C := RX3) (T := TX3) (N := 5) hx hb hts hin3 hown hK hL.obj 0 rfl rfl 2 (by decide) (hts (.fieldLink RL 9 "MourningRibbonsLaw$Sim" "people" "[[I") (by decide +kernel)) (fun _ h9 => h9) rfl dL_act_128 ?_
      refine zr_iconst hx hb dL_act_131 ?_
      refine zs_newI (N' := 3) hx hb hQ (hts (.arrayClass .int) (by decide +kernel)) hS (z := 3) (by omega) (by omega) (show 0 + 1 ≤ 310 from by omega) (show 0 + 3 ≤ 29600 from by omega) dL_act_132 (fun H w1 hq_w1 hi_w1 hz9 hk9 hS => ?_)
      have hC := zgrowP hC hk9
      have hL := zSL.keep hL (fun x _ h2 => hk9 x (Nat.lt_of_lt_of_le h2 hU))
      have hT := zT.kept hT (fun x h1 _ => hk9 x h1)
      have hge_w1 : s9.heap.size ≤ w1 := by omega
      have hU : s9.heap.size ≤ H.size := hS.1
      refine lv_dup hx hb dL_act_134 rfl ?_
      refine zr_iconst hx hb dL_act_135 ?_
      refine zr_iconst hx hb dL_act_136 ?_
      refine zs_ist (i := 0) (x := (-1)) hx hb hQ hi_w1 hS (Or.inr (by omega)) (by decide) (by decide) (by decide) dL_act_137 (fun H locs hv9 hz9 hk9 hS => ?_)
      have hC := zkeepW hC rfl hk9 (fun h => by have := hq0 _ h; omega)
      have hL := zSL.keep hL (fun x _ h2 => hk9 x (by omega))
      have hT := zT.kept hT (fun x h1 h2 => hk9 x (fun h => h2 (by rw [h]; exact Or.inr (by omega))))
      have hi_w1 := hv9
      have hU : s9.heap.size ≤ H.size := hS.1
      refine lv_dup hx hb dL_act_138 rfl ?_
      refine zr_iconst hx hb dL_act_139 ?_
      refine zr_iconst hx hb dL_act_140 ?_
      refine zs_ist (i := 1) (x := (-1)) hx hb hQ hi_w1 hS (Or.inr (by omega)) (by decide) (by decide) (by decide) dL_act_141 (fun H locs hv9 hz9 hk9 hS => ?_)
      have hC := zkeepW hC rfl hk9 (fun h => by have := hq0 _ h; omega)
      have hL := zSL.keep hL (fun x _ h2 => hk9 x (by omega))
      have hT := zT.kept hT (fun x h1 h2 => hk9 x (fun h => h2 (by rw [h]; exact Or.inr (by omega))))
      have hi_w1 := hv9
      have hU : s9.heap.size ≤ H.size := hS.1
      refine lv_dup hx hb dL_act_142 rfl ?_
      refine zr_iconst hx hb dL_act_143 ?_
      refine zr_iconst hx hb dL_act_144 ?_
      refine zs_ist (i := 2) (x := 1) hx hb hQ hi_w1 hS (Or.inr (by omega)) (by decide) (by decide) (by decide) dL_act_145 (fun H locs hv9 hz9 hk9 hS => ?_)
      have hC := zkeepW hC rfl hk9 (fun h => by have := hq0 _ h; omega)
      have hL := zSL.keep hL (fun x _ h2 => hk9 x (by omega))
      have hT := zT.kept hT (fun x h1 h2 => hk9 x (fun h => h2 (by rw [h]; exact Or.inr (by omega))))
      have hi_w1 := hv9
      have hU : s9.heap.size ≤ H.size := hS.1
      refine zcallGS (As := [.ref ap, .ref w1]) (rest := [.ref a]) ⟨hx, hb, hml, hown, hts⟩ hK hQ (kX3_more l D cI cZ c1 c2 H.size ap w1 n ra (by omega)) (va_cwS 2 hts gL_act_X3_more rfl rfl rfl (by decide +kernel) ⟨by first | exact Nat.le_of_ble_eq_true rfl | (show _ ≤ _; omega), Nat.le_of_ble_eq_true rfl⟩) (⟨hL.ppl, fun i h0 h1 => ⟨3, _, hL.row i h0 h1⟩, 3, _, hi_w1⟩) hS (fun x h => Or.inr (Nat.le_trans hs0 (Nat.le_trans hU h))) rfl hl.1 rfl (Nat.le_of_ble_eq_true rfl) dL_act_146 ⟨show 0 + 1 + 1 ≤ 310 from by omega, show 0 + 3 + (n + 1) ≤ 29600 from by omega⟩ (fun v9 H locs hp9 hz9 hk9 hS => ?_)
      obtain ⟨bm, rfl, hgm_bm, hr9⟩ := hp9
      have hk9 := fun (x : Nat) (h : x < _) => hk9 x h (Nat.not_le.mpr h)
      have hC := zgrowP hC hk9
      have hL := zSL.keep hL (fun x _ h2 => hk9 x (Nat.lt_of_lt_of_le h2 hU))
      have hT := zT.kept hT (fun x h1 _ => hk9 x h1)
      have hi_w1 := vA.grow hi_w1 hk9
      have hU : s9.heap.size ≤ H.size := hS.1
      refine W.eq (g2 := F0 m9 149 ls [.ref bm, .ref a]) rfl ?_
      refine zs_put (v := .ref bm) (ty := (.array (.array .int))) hx hb hts hin3 hown hK hL.obj hS (Or.inr (hL.out (by rw [hL.2.2.2.2.2.1.1]; decide)).1) 2 (by decide) (hts (.fieldLink RL 9 "MourningRibbonsLaw$Sim" "people" "[[I") (by decide +kernel)) rfl rfl (by decide +kernel) rfl rfl (Nat.le_of_ble_eq_true rfl) dL_act_149 (fun H locs hO9 hz9 hk9 hS => ?_)
      obtain ⟨kd_11, ra_11, hL⟩ := zSL_addP (f := (-1)) hL hU hz9 hO9 hk9 (by omega) hi_w1 (zrowNew _ _ _ _ _) (by omega) hr9 (by have := hi_w1.lt; omega)
      have hC := zkeepW hC rfl hk9 (fun h => absurd (hq0 _ h) (Nat.not_lt.mpr haub.1))
      have hT := zT.kept hT (fun x h1 h2 => hk9 x (fun h => h2 (Or.inr (by rw [h]; exact haub.1))))
      obtain ⟨ub_12, hub, hL⟩ : ∃ ub_12 : Nat, ub_12 ≤ H.size ∧ zSL D cI c1 c2 s0 ub_12 H a kd_11 bm ac am ra_11 rc rr rm (n + 1) (up pa (n : Int) (-1)) (up sp (n : Int) (-1)) (up al (n : Int) 1) co da M mo td wn := ⟨H.size, Nat.le_refl _, hL⟩
      have hU : s9.heap.size ≤ H.size := hS.1
      have hub : ub_12 ≤ H.size := by omega
      refine lv_iload_n hx hb dL_act_152 rfl (lv_at hl 3 rfl) ?_
      refine lv_istore (lv' := [(6, .int (zI (n : Int))), (5, .int (zI d5)), (4, .int (zI p4)), (3, .int (zI (n : Int))), (0, .ref (q 0)), (1, .ref a), (2, .int x)]) hx hb dL_act_153 hl (by decide) rfl (fun ls hl => ?_)
      refine lv_aload_n hx hb dL_act_155 rfl (lv_at hl 4 rfl) ?_
      refine zcallV (ci := 2) (q0 := 0) (cq := (RX2, TX2, 9)) (As := []) (rest := []) ⟨hx, hb, hml, hown, hts⟩ hK (kX2_addPersonok l D cI cZ q hN pa sp al dg co da mb dd ah wl lo n td wn hn (by omega)) (cwV 0 hts gL_act_X2_addPerson rfl rfl rfl (by decide +kernel) ⟨Nat.le_of_ble_eq_true rfl, Nat.le_of_ble_eq_true rfl⟩) hC hS (fun x h => Or.inl h) rfl rfl rfl hl.1 rfl (Nat.le_of_ble_eq_true rfl) dL_act_156 ⟨show 0 + 1 + 1 ≤ 310 from by omega, show 0 + 3 + (n + 1) ≤ 29600 from by omega⟩ (fun H locs hC hS hz9 hk9 => ?_)
      have hkq := fun (x : Nat) (h1 : x < _) (h2 : s0 ≤ x) => hk9 x h1 (fun h => absurd (hq0 x h) (Nat.not_lt.mpr h2))
      have hL := zSL.keep hL (fun x h1 h2 => hkq x (Nat.lt_of_lt_of_le h2 hub) h1)
      have hT := zT.kept hT (fun x h1 h2 => hk9 x h1 (fun h => h2 (Or.inl h)))
      have hU : s9.heap.size ≤ H.size := hS.1
      have hub : ub_12 ≤ H.size := by omega
      refine W.eq (g2 := F0 m9 159 ls [.int (zI (n : Int))]) rfl ?_
      refine lv_istore (lv' := [(7, .int (zI (n : Int))), (6, .int (zI (n : Int))), (5, .int (zI d5)), (4, .int (zI p4)), (3, .int (zI (n : Int))), (0, .ref (q 0)), (1, .ref a), (2, .int x)]) hx hb dL_act_159 hl (by decide) rfl (fun ls hl => ?_)
      refine lv_goto (tgt := 170) hx hb dL_act_161 (by decide) ?_
      refine lv_iload hx hb dL_act_170 (lv_at hl 0 rfl) ?_
      refine lv_iload hx hb dL_act_172 (lv_at hl 1 rfl) ?_
      refine zr_icmp_neF (tgt := 181) hx hb (by omega) dL_act_174 (by decide) ?_
      refine zr_iconst hx hb dL_act_177 ?_
      refine lv_goto (tgt := 182) hx hb dL_act_178 (by decide) ?_
      rw [hQ0]
      exact vx_ret (zgret_z (z := 1) hx hb hr hlocks (zn_bool ⟨by omega, by omega⟩) (rfl) (⟨rfl, n + 1, up pa (n : Int) (-1), up sp (n : Int) (-1), up al (n : Int) 1, co, da, mb, dd, td, wn, M, mo, hI.add (by omega) (f := (-1)) ⟨by omega, by omega⟩, by omega, by omega, ⟨_, _, _, _, hC⟩, hL.toW hub⟩) hS dL_act_182 (by omega) (by omega))
  have kT183 : W p0 l e9 (({ frames := 9, cells := 310, slots := 29600, locals := 158 } : Room)) s9 m9 ag9 below meth c9 H locs 0 0 Q0 (F0 m9 183 ls []) := by
    refine lv_iload_n hx hb dL_act_183 rfl (lv_at hl 3 rfl) ?_
    refine zr_bipush hx hb dL_act_184 (by decide) ?_
    refine zr_icmp_ge (tgt := 232) hx hb dL_act_186 (by decide) ⟨by omega, by omega⟩ ⟨by decide, by decide⟩ (fun c_13 => ?_) (fun c_13 => ?_)
    · have c_13 := c_13
      refine lv_aload_n hx hb dL_act_232 rfl (lv_at hl 4 rfl) ?_
      refine lv_iload hx hb dL_act_233 (lv_at hl 2 rfl) ?_
      by_cases hcs : al p4 = 0
      · have hcs := hcs
        refine zcallXV (ci := 2) (q0 := 0) (cq := (RX2, TX2, 9)) (As := [.int (zI p4)]) (rest := []) ⟨hx, hb, hml, hown, hts⟩ hK (kX2_addChildx2 l D hl0 cI cZ q hN pa sp al dg co da mb dd ah wl lo n td wn hn hal p4 (by omega) (by omega)) (cwV 1 hts gL_act_X2_addChild rfl rfl rfl (by decide +kernel) ⟨Nat.le_of_ble_eq_true rfl, Nat.le_of_ble_eq_true rfl⟩) hC (zT.narrow hT (fun _ h => Or.inl h)) hS (fun x h => Or.inl h) rfl rfl rfl hl.1 rfl (Nat.le_of_ble_eq_true rfl) dL_act_235 ⟨show 0 + 1 ≤ 310 from by omega, show 0 + 6 ≤ 29600 from by omega⟩ (fun ce q9 H locs hC hS hz9 hk9 hce hcv hcl => ?_)
        have hkq := fun (x : Nat) (h1 : x < _) (h2 : s0 ≤ x) => hk9 x h1 (fun h => absurd (hq0 x h) (Nat.not_lt.mpr h2))
        have hL := zSL.keep hL (fun x h1 h2 => hkq x (Nat.lt_of_lt_of_le h2 hU) h1)
        have hT := zT.kept hT (fun x h1 h2 => hk9 x h1 (fun h => h2 (Or.inl h)))
        have hU : s9.heap.size ≤ H.size := hS.1
        refine vx_catch (E := "java/lang/IllegalStateException") (name := "java/lang/IllegalStateException") hown [⟨155, 161, 164, 31⟩] ⟨232, 240, 243, 31⟩ [⟨309, 319, 322, 31⟩, ⟨497, 505, 508, 31⟩, ⟨554, 564, 567, 31⟩] (by rw [htab]; rfl) (fun z hz => Or.inl (by simp only [List.mem_cons, List.not_mem_nil, or_false] at hz; subst hz; decide)) (by decide) (by decide) (hts (.classLink RL 31 "java/lang/IllegalStateException") (by decide +kernel)) (zB.at (Vm.Alike.refl _) hEx.2.2.2 _ _ (List.mem_of_getElem? (i := 4) rfl)) hce hcv hcl ?_
        refine lv_astore (lv' := [(8, .ref q9), (6, .int (zI (-9))), (5, .int (zI d5)), (4, .int (zI p4)), (3, .int (zI (n : Int))), (0, .ref (q 0)), (1, .ref a), (2, .int x)]) hx hb dL_act_243 hl (by decide) rfl (fun ls hl => ?_)
        refine zr_bipush hx hb dL_act_245 (by decide) ?_
        refine lv_istore (lv' := [(7, .int (zI (-9))), (8, .ref q9), (6, .int (zI (-9))), (5, .int (zI d5)), (4, .int (zI p4)), (3, .int (zI (n : Int))), (0, .ref (q 0)), (1, .ref a), (2, .int x)]) hx hb dL_act_247 hl (by decide) rfl (fun ls hl => ?_)
        refine lv_iload hx hb dL_act_249 (lv_at hl 0 rfl) ?_
        refine lv_iload hx hb dL_act_251 (lv_at hl 2 rfl) ?_
        refine zr_icmp_neF (tgt := 260) hx hb (by omega) dL_act_253 (by decide) ?_
        refine zr_iconst hx hb dL_act_256 ?_
        refine lv_goto (tgt := 261) hx hb dL_act_257 (by decide) ?_
        rw [hQ0]
        exact vx_ret (zgret_z (z := 1) hx hb hr hlocks (zn_bool ⟨by omega, by omega⟩) (rfl) (⟨rfl, n, pa, sp, al, co, da, mb, dd, td, wn, M, mo, hI, by omega, by omega, ⟨_, _, _, _, hC⟩, hL.toW hU⟩) hS dL_act_261 (by omega) (by omega))
      · have hcs := hcs
        refine zcallXV (ci := 2) (q0 := 0) (cq := (RX2, TX2, 9)) (As := [.int (zI p4)]) (rest := []) ⟨hx, hb, hml, hown, hts⟩ hK (kX2_addChildx3 l D hl0 cI cZ q hN pa sp al dg co da mb dd ah wl lo n td wn hn hal p4 (by omega) (by omega) (by omega)) (cwV 1 hts gL_act_X2_addChild rfl rfl rfl (by decide +kernel) ⟨Nat.le_of_ble_eq_true rfl, Nat.le_of_ble_eq_true rfl⟩) hC (zT.narrow hT (fun _ h => Or.inl h)) hS (fun x h => Or.inl h) rfl rfl rfl hl.1 rfl (Nat.le_of_ble_eq_true rfl) dL_act_235 ⟨show 0 + 1 ≤ 310 from by omega, show 0 + 6 ≤ 29600 from by omega⟩ (fun ce q9 H locs hC hS hz9 hk9 hce hcv hcl => ?_)
        have hkq := fun (x : Nat) (h1 : x < _) (h2 : s0 ≤ x) => hk9 x h1 (fun h => absurd (hq0 x h) (Nat.not_lt.mpr h2))
        have hL := zSL.keep hL (fun x h1 h2 => hkq x (Nat.lt_of_lt_of_le h2 hU) h1)
        have hT := zT.kept hT (fun x h1 h2 => hk9 x h1 (fun h => h2 (Or.inl h)))
        have hU : s9.heap.size ≤ H.size := hS.1
        refine vx_catch (E := "java/lang/IllegalStateException") (name := "java/lang/IllegalStateException") hown [⟨155, 161, 164, 31⟩] ⟨232, 240, 243, 31⟩ [⟨309, 319, 322, 31⟩, ⟨497, 505, 508, 31⟩, ⟨554, 564, 567, 31⟩] (by rw [htab]; rfl) (fun z hz => Or.inl (by simp only [List.mem_cons, List.not_mem_nil, or_false] at hz; subst hz; decide)) (by decide) (by decide) (hts (.classLink RL 31 "java/lang/IllegalStateException") (by decide +kernel)) (zB.at (Vm.Alike.refl _) hEx.2.2.2 _ _ (List.mem_of_getElem? (i := 4) rfl)) hce hcv hcl ?_
        refine lv_astore (lv' := [(8, .ref q9), (6, .int (zI (-9))), (5, .int (zI d5)), (4, .int (zI p4)), (3, .int (zI (n : Int))), (0, .ref (q 0)), (1, .ref a), (2, .int x)]) hx hb dL_act_243 hl (by decide) rfl (fun ls hl => ?_)
        refine zr_bipush hx hb dL_act_245 (by decide) ?_
        refine lv_istore (lv' := [(7, .int (zI (-9))), (8, .ref q9), (6, .int (zI (-9))), (5, .int (zI d5)), (4, .int (zI p4)), (3, .int (zI (n : Int))), (0, .ref (q 0)), (1, .ref a), (2, .int x)]) hx hb dL_act_247 hl (by decide) rfl (fun ls hl => ?_)
        refine lv_iload hx hb dL_act_249 (lv_at hl 0 rfl) ?_
        refine lv_iload hx hb dL_act_251 (lv_at hl 2 rfl) ?_
        refine zr_icmp_neF (tgt := 260) hx hb (by omega) dL_act_253 (by decide) ?_
        refine zr_iconst hx hb dL_act_256 ?_
        refine lv_goto (tgt := 261) hx hb dL_act_257 (by decide) ?_
        rw [hQ0]
        exact vx_ret (zgret_z (z := 1) hx hb hr hlocks (zn_bool ⟨by omega, by omega⟩) (rfl) (⟨rfl, n, pa, sp, al, co, da, mb, dd, td, wn, M, mo, hI, by omega, by omega, ⟨_, _, _, _, hC⟩, hL.toW hU⟩) hS dL_act_261 (by omega) (by omega))
    · have c_13 := c_13
      refine lv_aload_n hx hb dL_act_189 rfl (lv_at hl 5 rfl) ?_
      refine va_get (D := D) (ci := 3) (v := .ref ap) (C := RX3) (T := TX3) (N := 5) hx hb hts hin3 hown hK hL.obj 0 rfl rfl 2 (by decide) (hts (.fieldLink RL 9 "MourningRibbonsLaw$Sim" "people" "[[I") (by decide +kernel)) (fun _ h9 => h9) rfl dL_act_190 ?_
      refine lv_iload hx hb dL_act_193 (lv_at hl 2 rfl) ?_
      refine zs_ald1 (v := .ref (ra p4)) (i := p4) hx hb hQ hL.ppl (by omega) (by omega) (by have := hL.n16; omega) rfl dL_act_195 ?_
      refine zr_iconst hx hb dL_act_196 ?_
      refine zs_ild (v := al p4) (i := 2) hx hb hQ (hL.row p4 (by omega) (by omega)) (by decide) (by decide) (by decide) rfl dL_act_197 ?_
      have b_14 := hal p4
      refine zr_iconst hx hb dL_act_198 ?_
      refine zr_icmp_ne (tgt := 232) hx hb dL_act_199 (by decide) ⟨by omega, by omega⟩ ⟨by decide, by decide⟩ (fun c_15 => ?_) (fun c_15 => ?_)
      · have c_15 := c_15
        refine lv_aload_n hx hb dL_act_232 rfl (lv_at hl 4 rfl) ?_
        refine lv_iload hx hb dL_act_233 (lv_at hl 2 rfl) ?_
        by_cases hcs : al p4 = 0
        · have hcs := hcs
          refine zcallXV (ci := 2) (q0 := 0) (cq := (RX2, TX2, 9)) (As := [.int (zI p4)]) (rest := []) ⟨hx, hb, hml, hown, hts⟩ hK (kX2_addChildx2 l D hl0 cI cZ q hN pa sp al dg co da mb dd ah wl lo n td wn hn hal p4 (by omega) (by omega)) (cwV 1 hts gL_act_X2_addChild rfl rfl rfl (by decide +kernel) ⟨Nat.le_of_ble_eq_true rfl, Nat.le_of_ble_eq_true rfl⟩) hC (zT.narrow hT (fun _ h => Or.inl h)) hS (fun x h => Or.inl h) rfl rfl rfl hl.1 rfl (Nat.le_of_ble_eq_true rfl) dL_act_235 ⟨show 0 + 1 ≤ 310 from by omega, show 0 + 6 ≤ 29600 from by omega⟩ (fun ce q9 H locs hC hS hz9 hk9 hce hcv hcl => ?_)
          have hkq := fun (x : Nat) (h1 : x < _) (h2 : s0 ≤ x) => hk9 x h1 (fun h => absurd (hq0 x h) (Nat.not_lt.mpr h2))
          have hL := zSL.keep hL (fun x h1 h2 => hkq x (Nat.lt_of_lt_of_le h2 hU) h1)
          have hT := zT.kept hT (fun x h1 h2 => hk9 x h1 (fun h => h2 (Or.inl h)))
          have hU : s9.heap.size ≤ H.size := hS.1
          refine vx_catch (E := "java/lang/IllegalStateException") (name := "java/lang/IllegalStateException") hown [⟨155, 161, 164, 31⟩] ⟨232, 240, 243, 31⟩ [⟨309, 319, 322, 31⟩, ⟨497, 505, 508, 31⟩, ⟨554, 564, 567, 31⟩] (by rw [htab]; rfl) (fun z hz => Or.inl (by simp only [List.mem_cons, List.not_mem_nil, or_false] at hz; subst hz; decide)) (by decide) (by decide) (hts (.classLink RL 31 "java/lang/IllegalStateException") (by decide +kernel)) (zB.at (Vm.Alike.refl _) hEx.2.2.2 _ _ (List.mem_of_getElem? (i := 4) rfl)) hce hcv hcl ?_
          refine lv_astore (lv' := [(8, .ref q9), (6, .int (zI (-9))), (5, .int (zI d5)), (4, .int (zI p4)), (3, .int (zI (n : Int))), (0, .ref (q 0)), (1, .ref a), (2, .int x)]) hx hb dL_act_243 hl (by decide) rfl (fun ls hl => ?_)
          refine zr_bipush hx hb dL_act_245 (by decide) ?_
          refine lv_istore (lv' := [(7, .int (zI (-9))), (8, .ref q9), (6, .int (zI (-9))), (5, .int (zI d5)), (4, .int (zI p4)), (3, .int (zI (n : Int))), (0, .ref (q 0)), (1, .ref a), (2, .int x)]) hx hb dL_act_247 hl (by decide) rfl (fun ls hl => ?_)
          refine lv_iload hx hb dL_act_249 (lv_at hl 0 rfl) ?_
          refine lv_iload hx hb dL_act_251 (lv_at hl 2 rfl) ?_
          refine zr_icmp_neF (tgt := 260) hx hb (by omega) dL_act_253 (by decide) ?_
          refine zr_iconst hx hb dL_act_256 ?_
          refine lv_goto (tgt := 261) hx hb dL_act_257 (by decide) ?_
          rw [hQ0]
          exact vx_ret (zgret_z (z := 1) hx hb hr hlocks (zn_bool ⟨by omega, by omega⟩) (rfl) (⟨rfl, n, pa, sp, al, co, da, mb, dd, td, wn, M, mo, hI, by omega, by omega, ⟨_, _, _, _, hC⟩, hL.toW hU⟩) hS dL_act_261 (by omega) (by omega))
        · have hcs := hcs
          refine zcallXV (ci := 2) (q0 := 0) (cq := (RX2, TX2, 9)) (As := [.int (zI p4)]) (rest := []) ⟨hx, hb, hml, hown, hts⟩ hK (kX2_addChildx3 l D hl0 cI cZ q hN pa sp al dg co da mb dd ah wl lo n td wn hn hal p4 (by omega) (by omega) (by omega)) (cwV 1 hts gL_act_X2_addChild rfl rfl rfl (by decide +kernel) ⟨Nat.le_of_ble_eq_true rfl, Nat.le_of_ble_eq_true rfl⟩) hC (zT.narrow hT (fun _ h => Or.inl h)) hS (fun x h => Or.inl h) rfl rfl rfl hl.1 rfl (Nat.le_of_ble_eq_true rfl) dL_act_235 ⟨show 0 + 1 ≤ 310 from by omega, show 0 + 6 ≤ 29600 from by omega⟩ (fun ce q9 H locs hC hS hz9 hk9 hce hcv hcl => ?_)
          have hkq := fun (x : Nat) (h1 : x < _) (h2 : s0 ≤ x) => hk9 x h1 (fun h => absurd (hq0 x h) (Nat.not_lt.mpr h2))
          have hL := zSL.keep hL (fun x h1 h2 => hkq x (Nat.lt_of_lt_of_le h2 hU) h1)
          have hT := zT.kept hT (fun x h1 h2 => hk9 x h1 (fun h => h2 (Or.inl h)))
          have hU : s9.heap.size ≤ H.size := hS.1
          refine vx_catch (E := "java/lang/IllegalStateException") (name := "java/lang/IllegalStateException") hown [⟨155, 161, 164, 31⟩] ⟨232, 240, 243, 31⟩ [⟨309, 319, 322, 31⟩, ⟨497, 505, 508, 31⟩, ⟨554, 564, 567, 31⟩] (by rw [htab]; rfl) (fun z hz => Or.inl (by simp only [List.mem_cons, List.not_mem_nil, or_false] at hz; subst hz; decide)) (by decide) (by decide) (hts (.classLink RL 31 "java/lang/IllegalStateException") (by decide +kernel)) (zB.at (Vm.Alike.refl _) hEx.2.2.2 _ _ (List.mem_of_getElem? (i := 4) rfl)) hce hcv hcl ?_
          refine lv_astore (lv' := [(8, .ref q9), (6, .int (zI (-9))), (5, .int (zI d5)), (4, .int (zI p4)), (3, .int (zI (n : Int))), (0, .ref (q 0)), (1, .ref a), (2, .int x)]) hx hb dL_act_243 hl (by decide) rfl (fun ls hl => ?_)
          refine zr_bipush hx hb dL_act_245 (by decide) ?_
          refine lv_istore (lv' := [(7, .int (zI (-9))), (8, .ref q9), (6, .int (zI (-9))), (5, .int (zI d5)), (4, .int (zI p4)), (3, .int (zI (n : Int))), (0, .ref (q 0)), (1, .ref a), (2, .int x)]) hx hb dL_act_247 hl (by decide) rfl (fun ls hl => ?_)
          refine lv_iload hx hb dL_act_249 (lv_at hl 0 rfl) ?_
          refine lv_iload hx hb dL_act_251 (lv_at hl 2 rfl) ?_
          refine zr_icmp_neF (tgt := 260) hx hb (by omega) dL_act_253 (by decide) ?_
          refine zr_iconst hx hb dL_act_256 ?_
          refine lv_goto (tgt := 261) hx hb dL_act_257 (by decide) ?_
          rw [hQ0]
          exact vx_ret (zgret_z (z := 1) hx hb hr hlocks (zn_bool ⟨by omega, by omega⟩) (rfl) (⟨rfl, n, pa, sp, al, co, da, mb, dd, td, wn, M, mo, hI, by omega, by omega, ⟨_, _, _, _, hC⟩, hL.toW hU⟩) hS dL_act_261 (by omega) (by omega))
      · have c_15 := c_15
        refine lv_aload_n hx hb dL_act_202 rfl (lv_at hl 5 rfl) ?_
        refine lv_aload_n hx hb dL_act_203 rfl (lv_at hl 5 rfl) ?_
        refine va_get (D := D) (ci := 3) (v := .ref ap) (C := RX3) (T := TX3) (N := 5) hx hb hts hin3 hown hK hL.obj 0 rfl rfl 2 (by decide) (hts (.fieldLink RL 9 "MourningRibbonsLaw$Sim" "people" "[[I") (by decide +kernel)) (fun _ h9 => h9) rfl dL_act_204 ?_
        refine zr_iconst hx hb dL_act_207 ?_
        refine zs_newI (N' := 3) hx hb hQ (hts (.arrayClass .int) (by decide +kernel)) hS (z := 3) (by omega) (by omega) (show 0 + 1 ≤ 310 from by omega) (show 0 + 3 ≤ 29600 from by omega) dL_act_208 (fun H w1 hq_w1 hi_w1 hz9 hk9 hS => ?_)
        have hC := zgrowP hC hk9
        have hL := zSL.keep hL (fun x _ h2 => hk9 x (Nat.lt_of_lt_of_le h2 hU))
        have hT := zT.kept hT (fun x h1 _ => hk9 x h1)
        have hge_w1 : s9.heap.size ≤ w1 := by omega
        have hU : s9.heap.size ≤ H.size := hS.1
        refine lv_dup hx hb dL_act_210 rfl ?_
        refine zr_iconst hx hb dL_act_211 ?_
        refine lv_iload hx hb dL_act_212 (lv_at hl 2 rfl) ?_
        refine zs_ist (i := 0) (x := p4) hx hb hQ hi_w1 hS (Or.inr (by omega)) (by decide) (by decide) (by decide) dL_act_214 (fun H locs hv9 hz9 hk9 hS => ?_)
        have hC := zkeepW hC rfl hk9 (fun h => by have := hq0 _ h; omega)
        have hL := zSL.keep hL (fun x _ h2 => hk9 x (by omega))
        have hT := zT.kept hT (fun x h1 h2 => hk9 x (fun h => h2 (by rw [h]; exact Or.inr (by omega))))
        have hi_w1 := hv9
        have hU : s9.heap.size ≤ H.size := hS.1
        refine lv_dup hx hb dL_act_215 rfl ?_
        refine zr_iconst hx hb dL_act_216 ?_
        refine zr_iconst hx hb dL_act_217 ?_
        refine zs_ist (i := 1) (x := (-1)) hx hb hQ hi_w1 hS (Or.inr (by omega)) (by decide) (by decide) (by decide) dL_act_218 (fun H locs hv9 hz9 hk9 hS => ?_)
        have hC := zkeepW hC rfl hk9 (fun h => by have := hq0 _ h; omega)
        have hL := zSL.keep hL (fun x _ h2 => hk9 x (by omega))
        have hT := zT.kept hT (fun x h1 h2 => hk9 x (fun h => h2 (by rw [h]; exact Or.inr (by omega))))
        have hi_w1 := hv9
        have hU : s9.heap.size ≤ H.size := hS.1
        refine lv_dup hx hb dL_act_219 rfl ?_
        refine zr_iconst hx hb dL_act_220 ?_
        refine zr_iconst hx hb dL_act_221 ?_
        refine zs_ist (i := 2) (x := 1) hx hb hQ hi_w1 hS (Or.inr (by omega)) (by decide) (by decide) (by decide) dL_act_222 (fun H locs hv9 hz9 hk9 hS => ?_)
        have hC := zkeepW hC rfl hk9 (fun h => by have := hq0 _ h; omega)
        have hL := zSL.keep hL (fun x _ h2 => hk9 x (by omega))
        have hT := zT.kept hT (fun x h1 h2 => hk9 x (fun h => h2 (by rw [h]; exact Or.inr (by omega))))
        have hi_w1 := hv9
        have hU : s9.heap.size ≤ H.size := hS.1
        refine zcallGS (As := [.ref ap, .ref w1]) (rest := [.ref a]) ⟨hx, hb, hml, hown, hts⟩ hK hQ (kX3_more l D cI cZ c1 c2 H.size ap w1 n ra (by omega)) (va_cwS 2 hts gL_act_X3_more rfl rfl rfl (by decide +kernel) ⟨by first | exact Nat.le_of_ble_eq_true rfl | (show _ ≤ _; omega), Nat.le_of_ble_eq_true rfl⟩) (⟨hL.ppl, fun i h0 h1 => ⟨3, _, hL.row i h0 h1⟩, 3, _, hi_w1⟩) hS (fun x h => Or.inr (Nat.le_trans hs0 (Nat.le_trans hU h))) rfl hl.1 rfl (Nat.le_of_ble_eq_true rfl) dL_act_223 ⟨show 0 + 1 + 1 ≤ 310 from by omega, show 0 + 3 + (n + 1) ≤ 29600 from by omega⟩ (fun v9 H locs hp9 hz9 hk9 hS => ?_)
        obtain ⟨bm, rfl, hgm_bm, hr9⟩ := hp9
        have hk9 := fun (x : Nat) (h : x < _) => hk9 x h (Nat.not_le.mpr h)
        have hC := zgrowP hC hk9
        have hL := zSL.keep hL (fun x _ h2 => hk9 x (Nat.lt_of_lt_of_le h2 hU))
        have hT := zT.kept hT (fun x h1 _ => hk9 x h1)
        have hi_w1 := vA.grow hi_w1 hk9
        have hU : s9.heap.size ≤ H.size := hS.1
        refine W.eq (g2 := F0 m9 226 ls [.ref bm, .ref a]) rfl ?_
        refine zs_put (v := .ref bm) (ty := (.array (.array .int))) hx hb hts hin3 hown hK hL.obj hS (Or.inr (hL.out (by rw [hL.2.2.2.2.2.1.1]; decide)).1) 2 (by decide) (hts (.fieldLink RL 9 "MourningRibbonsLaw$Sim" "people" "[[I") (by decide +kernel)) rfl rfl (by decide +kernel) rfl rfl (Nat.le_of_ble_eq_true rfl) dL_act_226 (fun H locs hO9 hz9 hk9 hS => ?_)
        obtain ⟨kd_16, ra_16, hL⟩ := zSL_addP (f := p4) hL hU hz9 hO9 hk9 (by omega) hi_w1 (zrowNew _ _ _ _ _) (by omega) hr9 (by have := hi_w1.lt; omega)
        have hC := zkeepW hC rfl hk9 (fun h => absurd (hq0 _ h) (Nat.not_lt.mpr haub.1))
        have hT := zT.kept hT (fun x h1 h2 => hk9 x (fun h => h2 (Or.inr (by rw [h]; exact haub.1))))
        obtain ⟨ub_17, hub, hL⟩ : ∃ ub_17 : Nat, ub_17 ≤ H.size ∧ zSL D cI c1 c2 s0 ub_17 H a kd_16 bm ac am ra_16 rc rr rm (n + 1) (up pa (n : Int) p4) (up sp (n : Int) (-1)) (up al (n : Int) 1) co da M mo td wn := ⟨H.size, Nat.le_refl _, hL⟩
        have hU : s9.heap.size ≤ H.size := hS.1
        have hub : ub_17 ≤ H.size := by omega
        refine lv_iload_n hx hb dL_act_229 rfl (lv_at hl 3 rfl) ?_
        refine lv_istore (lv' := [(6, .int (zI (n : Int))), (5, .int (zI d5)), (4, .int (zI p4)), (3, .int (zI (n : Int))), (0, .ref (q 0)), (1, .ref a), (2, .int x)]) hx hb dL_act_230 hl (by decide) rfl (fun ls hl => ?_)
        refine lv_aload_n hx hb dL_act_232 rfl (lv_at hl 4 rfl) ?_
        refine lv_iload hx hb dL_act_233 (lv_at hl 2 rfl) ?_
        refine zcallV (ci := 2) (q0 := 0) (cq := (RX2, TX2, 9)) (As := [.int (zI p4)]) (rest := []) ⟨hx, hb, hml, hown, hts⟩ hK (kX2_addChildok l D cI cZ q hN pa sp al dg co da mb dd ah wl lo n td wn hn hal p4 (by omega) (by omega) (by omega)) (cwV 1 hts gL_act_X2_addChild rfl rfl rfl (by decide +kernel) ⟨Nat.le_of_ble_eq_true rfl, Nat.le_of_ble_eq_true rfl⟩) hC hS (fun x h => Or.inl h) rfl rfl rfl hl.1 rfl (Nat.le_of_ble_eq_true rfl) dL_act_235 ⟨show 0 + 1 + 1 ≤ 310 from by omega, show 0 + 3 + (n + 1) ≤ 29600 from by omega⟩ (fun H locs hC hS hz9 hk9 => ?_)
        have hkq := fun (x : Nat) (h1 : x < _) (h2 : s0 ≤ x) => hk9 x h1 (fun h => absurd (hq0 x h) (Nat.not_lt.mpr h2))
        have hL := zSL.keep hL (fun x h1 h2 => hkq x (Nat.lt_of_lt_of_le h2 hub) h1)
        have hT := zT.kept hT (fun x h1 h2 => hk9 x h1 (fun h => h2 (Or.inl h)))
        have hU : s9.heap.size ≤ H.size := hS.1
        have hub : ub_17 ≤ H.size := by omega
        refine W.eq (g2 := F0 m9 238 ls [.int (zI (n : Int))]) rfl ?_
        refine lv_istore (lv' := [(7, .int (zI (n : Int))), (6, .int (zI (n : Int))), (5, .int (zI d5)), (4, .int (zI p4)), (3, .int (zI (n : Int))), (0, .ref (q 0)), (1, .ref a), (2, .int x)]) hx hb dL_act_238 hl (by decide) rfl (fun ls hl => ?_)
        refine lv_goto (tgt := 249) hx hb dL_act_240 (by decide) ?_
        refine lv_iload hx hb dL_act_249 (lv_at hl 0 rfl) ?_
        refine lv_iload hx hb dL_act_251 (lv_at hl 1 rfl) ?_
        refine zr_icmp_neF (tgt := 260) hx hb (by omega) dL_act_253 (by decide) ?_
        refine zr_iconst hx hb dL_act_256 ?_
        refine lv_goto (tgt := 261) hx hb dL_act_257 (by decide) ?_
        rw [hQ0]
        exact vx_ret (zgret_z (z := 1) hx hb hr hlocks (zn_bool ⟨by omega, by omega⟩) (rfl) (⟨rfl, n + 1, up pa (n : Int) p4, up sp (n : Int) (-1), up al (n : Int) 1, co, da, mb, dd, td, wn, M, mo, hI.add (by omega) (f := p4) ⟨by omega, by omega⟩, by omega, by omega, ⟨_, _, _, _, hC⟩, hL.toW hub⟩) hS dL_act_261 (by omega) (by omega))
  have kT262 : W p0 l e9 (({ frames := 9, cells := 310, slots := 29600, locals := 158 } : Room)) s9 m9 ag9 below meth c9 H locs 0 0 Q0 (F0 m9 262 ls []) := by
    refine lv_iload hx hb dL_act_262 (lv_at hl 2 rfl) ?_
    refine lv_iload hx hb dL_act_264 (lv_at hl 1 rfl) ?_
    refine zr_icmp_ne (tgt := 271) hx hb dL_act_266 (by decide) ⟨by omega, by omega⟩ ⟨by omega, by omega⟩ (fun c_18 => ?_) (fun c_18 => ?_)
    · have c_18 := c_18
      have hq1 := hal p4
      have hq2 := hal d5
      have hq3 := hsp p4
      have hq4 := hsp d5
      have hq5 := hal (sp p4)
      have hq6 := hal (sp d5)
      refine lv_aload_n hx hb dL_act_271 rfl (lv_at hl 5 rfl) ?_
      refine lv_iload hx hb dL_act_272 (lv_at hl 2 rfl) ?_
      refine zcallGV (ci := 3) (cq := (RX3, TX3, 5)) (As := [.int (zI p4)]) (rest := []) ⟨hx, hb, hml, hown, hts⟩ hK hQ (kX3_canMarry l D cI cZ c1 c2 H.size s0 a n pa sp al co da M mo td wn p4 hsp hal (by omega) (hsn p4 (by omega) (by omega))) (cwV 1 hts gL_act_X3_canMarry rfl rfl rfl (by decide +kernel) ⟨by first | exact Nat.le_of_ble_eq_true rfl | (show _ ≤ _; omega), Nat.le_of_ble_eq_true rfl⟩) (hL.toW hU) hL.obj hS (fun x h => Or.inr (Nat.le_trans hs0 (Nat.le_trans hU h))) rfl rfl hl.1 rfl (Nat.le_of_ble_eq_true rfl) dL_act_274 ⟨show 0 + 0 ≤ 310 from by omega, show 0 + 0 ≤ 29600 from by omega⟩ (fun v9 H locs hp9 hz9 hk9 hS => ?_)
      subst hp9
      have hk9 := fun (x : Nat) (h : x < _) => hk9 x h (Nat.not_le.mpr h)
      have hC := zgrowP hC hk9
      have hL := zSL.keep hL (fun x _ h2 => hk9 x (Nat.lt_of_lt_of_le h2 hU))
      have hT := zT.kept hT (fun x h1 _ => hk9 x h1)
      have hU : s9.heap.size ≤ H.size := hS.1
      refine W.eq (g2 := F0 m9 277 ls [.int (zI (cmF sp al p4))]) rfl ?_
      have hcb1 := cmF_01 sp al p4
      refine zr_if_eq (tgt := 309) hx hb dL_act_277 (by decide) ⟨by omega, by omega⟩ (fun c_19 => ?_) (fun c_19 => ?_)
      · have c_19 := c_19
        have hcmp := cmF_0 (sp := sp) (al := al) (p := p4) (by omega)
        refine lv_aload_n hx hb dL_act_309 rfl (lv_at hl 4 rfl) ?_
        refine lv_iload hx hb dL_act_310 (lv_at hl 2 rfl) ?_
        refine lv_iload hx hb dL_act_312 (lv_at hl 1 rfl) ?_
        by_cases hcs : al p4 = 0
        · have hcs := hcs
          refine zcallXV (ci := 2) (q0 := 0) (cq := (RX2, TX2, 9)) (As := [.int (zI p4), .int (zI d5)]) (rest := []) ⟨hx, hb, hml, hown, hts⟩ hK (kX2_marryx4 l D hl0 cI cZ q hN pa sp al dg co da mb dd ah wl lo n td wn hn hal p4 d5 (by omega) (by omega) (by omega) (by omega)) (cwV 2 hts gL_act_X2_marry rfl rfl rfl (by decide +kernel) ⟨Nat.le_of_ble_eq_true rfl, Nat.le_of_ble_eq_true rfl⟩) hC (zT.narrow hT (fun _ h => Or.inl h)) hS (fun x h => Or.inl h) rfl rfl rfl hl.1 rfl (Nat.le_of_ble_eq_true rfl) dL_act_314 ⟨show 0 + 1 ≤ 310 from by omega, show 0 + 6 ≤ 29600 from by omega⟩ (fun ce q9 H locs hC hS hz9 hk9 hce hcv hcl => ?_)
          have hkq := fun (x : Nat) (h1 : x < _) (h2 : s0 ≤ x) => hk9 x h1 (fun h => absurd (hq0 x h) (Nat.not_lt.mpr h2))
          have hL := zSL.keep hL (fun x h1 h2 => hkq x (Nat.lt_of_lt_of_le h2 hU) h1)
          have hT := zT.kept hT (fun x h1 h2 => hk9 x h1 (fun h => h2 (Or.inl h)))
          have hU : s9.heap.size ≤ H.size := hS.1
          refine vx_catch (E := "java/lang/IllegalStateException") (name := "java/lang/IllegalStateException") hown [⟨155, 161, 164, 31⟩, ⟨232, 240, 243, 31⟩] ⟨309, 319, 322, 31⟩ [⟨497, 505, 508, 31⟩, ⟨554, 564, 567, 31⟩] (by rw [htab]; rfl) (fun z hz => Or.inl (by simp only [List.mem_cons, List.not_mem_nil, or_false] at hz; rcases hz with rfl | rfl <;> decide)) (by decide) (by decide) (hts (.classLink RL 31 "java/lang/IllegalStateException") (by decide +kernel)) (zB.at (Vm.Alike.refl _) hEx.2.2.2 _ _ (List.mem_of_getElem? (i := 4) rfl)) hce hcv hcl ?_
          refine lv_astore (lv' := [(8, .ref q9), (6, .int (zI (-9))), (5, .int (zI d5)), (4, .int (zI p4)), (3, .int (zI (n : Int))), (0, .ref (q 0)), (1, .ref a), (2, .int x)]) hx hb dL_act_322 hl (by decide) rfl (fun ls hl => ?_)
          refine zr_bipush hx hb dL_act_324 (by decide) ?_
          refine lv_istore (lv' := [(7, .int (zI (-9))), (8, .ref q9), (6, .int (zI (-9))), (5, .int (zI d5)), (4, .int (zI p4)), (3, .int (zI (n : Int))), (0, .ref (q 0)), (1, .ref a), (2, .int x)]) hx hb dL_act_326 hl (by decide) rfl (fun ls hl => ?_)
          refine lv_iload hx hb dL_act_328 (lv_at hl 0 rfl) ?_
          refine lv_iload hx hb dL_act_330 (lv_at hl 2 rfl) ?_
          refine zr_icmp_neF (tgt := 339) hx hb rfl dL_act_332 (by decide) ?_
          refine zr_iconst hx hb dL_act_335 ?_
          refine lv_goto (tgt := 340) hx hb dL_act_336 (by decide) ?_
          rw [hQ0]
          exact vx_ret (zgret_z (z := 1) hx hb hr hlocks (zn_bool ⟨by omega, by omega⟩) (rfl) (⟨rfl, n, pa, sp, al, co, da, mb, dd, td, wn, M, mo, hI, by omega, by omega, ⟨_, _, _, _, hC⟩, hL.toW hU⟩) hS dL_act_340 (by omega) (by omega))
        · have hcs := hcs
          by_cases hcs : al d5 = 0
          · have hcs := hcs
            refine zcallXV (ci := 2) (q0 := 0) (cq := (RX2, TX2, 9)) (As := [.int (zI p4), .int (zI d5)]) (rest := []) ⟨hx, hb, hml, hown, hts⟩ hK (kX2_marryx5 l D hl0 cI cZ q hN pa sp al dg co da mb dd ah wl lo n td wn hn hal p4 d5 (by omega) (by omega) (by omega) (by omega) (by omega)) (cwV 2 hts gL_act_X2_marry rfl rfl rfl (by decide +kernel) ⟨Nat.le_of_ble_eq_true rfl, Nat.le_of_ble_eq_true rfl⟩) hC (zT.narrow hT (fun _ h => Or.inl h)) hS (fun x h => Or.inl h) rfl rfl rfl hl.1 rfl (Nat.le_of_ble_eq_true rfl) dL_act_314 ⟨show 0 + 1 ≤ 310 from by omega, show 0 + 6 ≤ 29600 from by omega⟩ (fun ce q9 H locs hC hS hz9 hk9 hce hcv hcl => ?_)
            have hkq := fun (x : Nat) (h1 : x < _) (h2 : s0 ≤ x) => hk9 x h1 (fun h => absurd (hq0 x h) (Nat.not_lt.mpr h2))
            have hL := zSL.keep hL (fun x h1 h2 => hkq x (Nat.lt_of_lt_of_le h2 hU) h1)
            have hT := zT.kept hT (fun x h1 h2 => hk9 x h1 (fun h => h2 (Or.inl h)))
            have hU : s9.heap.size ≤ H.size := hS.1
            refine vx_catch (E := "java/lang/IllegalStateException") (name := "java/lang/IllegalStateException") hown [⟨155, 161, 164, 31⟩, ⟨232, 240, 243, 31⟩] ⟨309, 319, 322, 31⟩ [⟨497, 505, 508, 31⟩, ⟨554, 564, 567, 31⟩] (by rw [htab]; rfl) (fun z hz => Or.inl (by simp only [List.mem_cons, List.not_mem_nil, or_false] at hz; rcases hz with rfl | rfl <;> decide)) (by decide) (by decide) (hts (.classLink RL 31 "java/lang/IllegalStateException") (by decide +kernel)) (zB.at (Vm.Alike.refl _) hEx.2.2.2 _ _ (List.mem_of_getElem? (i := 4) rfl)) hce hcv hcl ?_
            refine lv_astore (lv' := [(8, .ref q9), (6, .int (zI (-9))), (5, .int (zI d5)), (4, .int (zI p4)), (3, .int (zI (n : Int))), (0, .ref (q 0)), (1, .ref a), (2, .int x)]) hx hb dL_act_322 hl (by decide) rfl (fun ls hl => ?_)
            refine zr_bipush hx hb dL_act_324 (by decide) ?_
            refine lv_istore (lv' := [(7, .int (zI (-9))), (8, .ref q9), (6, .int (zI (-9))), (5, .int (zI d5)), (4, .int (zI p4)), (3, .int (zI (n : Int))), (0, .ref (q 0)), (1, .ref a), (2, .int x)]) hx hb dL_act_326 hl (by decide) rfl (fun ls hl => ?_)
            refine lv_iload hx hb dL_act_328 (lv_at hl 0 rfl) ?_
            refine lv_iload hx hb dL_act_330 (lv_at hl 2 rfl) ?_
            refine zr_icmp_neF (tgt := 339) hx hb rfl dL_act_332 (by decide) ?_
            refine zr_iconst hx hb dL_act_335 ?_
            refine lv_goto (tgt := 340) hx hb dL_act_336 (by decide) ?_
            rw [hQ0]
            exact vx_ret (zgret_z (z := 1) hx hb hr hlocks (zn_bool ⟨by omega, by omega⟩) (rfl) (⟨rfl, n, pa, sp, al, co, da, mb, dd, td, wn, M, mo, hI, by omega, by omega, ⟨_, _, _, _, hC⟩, hL.toW hU⟩) hS dL_act_340 (by omega) (by omega))
          · have hcs := hcs
            refine zcallXV (ci := 2) (q0 := 0) (cq := (RX2, TX2, 9)) (As := [.int (zI p4), .int (zI d5)]) (rest := []) ⟨hx, hb, hml, hown, hts⟩ hK (kX2_marryx6 l D hl0 cI cZ q hN pa sp al dg co da mb dd ah wl lo n td wn hn hsp hal hpa p4 d5 (by omega) (by omega) (by omega) (by omega) (by omega) (by omega)) (cwV 2 hts gL_act_X2_marry rfl rfl rfl (by decide +kernel) ⟨Nat.le_of_ble_eq_true rfl, Nat.le_of_ble_eq_true rfl⟩) hC (zT.narrow hT (fun _ h => Or.inl h)) hS (fun x h => Or.inl h) rfl rfl rfl hl.1 rfl (Nat.le_of_ble_eq_true rfl) dL_act_314 ⟨show 0 + 1 ≤ 310 from by omega, show 0 + 6 ≤ 29600 from by omega⟩ (fun ce q9 H locs hC hS hz9 hk9 hce hcv hcl => ?_)
            have hkq := fun (x : Nat) (h1 : x < _) (h2 : s0 ≤ x) => hk9 x h1 (fun h => absurd (hq0 x h) (Nat.not_lt.mpr h2))
            have hL := zSL.keep hL (fun x h1 h2 => hkq x (Nat.lt_of_lt_of_le h2 hU) h1)
            have hT := zT.kept hT (fun x h1 h2 => hk9 x h1 (fun h => h2 (Or.inl h)))
            have hU : s9.heap.size ≤ H.size := hS.1
            refine vx_catch (E := "java/lang/IllegalStateException") (name := "java/lang/IllegalStateException") hown [⟨155, 161, 164, 31⟩, ⟨232, 240, 243, 31⟩] ⟨309, 319, 322, 31⟩ [⟨497, 505, 508, 31⟩, ⟨554, 564, 567, 31⟩] (by rw [htab]; rfl) (fun z hz => Or.inl (by simp only [List.mem_cons, List.not_mem_nil, or_false] at hz; rcases hz with rfl | rfl <;> decide)) (by decide) (by decide) (hts (.classLink RL 31 "java/lang/IllegalStateException") (by decide +kernel)) (zB.at (Vm.Alike.refl _) hEx.2.2.2 _ _ (List.mem_of_getElem? (i := 4) rfl)) hce hcv hcl ?_
            refine lv_astore (lv' := [(8, .ref q9), (6, .int (zI (-9))), (5, .int (zI d5)), (4, .int (zI p4)), (3, .int (zI (n : Int))), (0, .ref (q 0)), (1, .ref a), (2, .int x)]) hx hb dL_act_322 hl (by decide) rfl (fun ls hl => ?_)
            refine zr_bipush hx hb dL_act_324 (by decide) ?_
            refine lv_istore (lv' := [(7, .int (zI (-9))), (8, .ref q9), (6, .int (zI (-9))), (5, .int (zI d5)), (4, .int (zI p4)), (3, .int (zI (n : Int))), (0, .ref (q 0)), (1, .ref a), (2, .int x)]) hx hb dL_act_326 hl (by decide) rfl (fun ls hl => ?_)
            refine lv_iload hx hb dL_act_328 (lv_at hl 0 rfl) ?_
            refine lv_iload hx hb dL_act_330 (lv_at hl 2 rfl) ?_
            refine zr_icmp_neF (tgt := 339) hx hb rfl dL_act_332 (by decide) ?_
            refine zr_iconst hx hb dL_act_335 ?_
            refine lv_goto (tgt := 340) hx hb dL_act_336 (by decide) ?_
            rw [hQ0]
            exact vx_ret (zgret_z (z := 1) hx hb hr hlocks (zn_bool ⟨by omega, by omega⟩) (rfl) (⟨rfl, n, pa, sp, al, co, da, mb, dd, td, wn, M, mo, hI, by omega, by omega, ⟨_, _, _, _, hC⟩, hL.toW hU⟩) hS dL_act_340 (by omega) (by omega))
      · have c_19 := c_19
        have hcmp := cmF_1 (sp := sp) (al := al) (p := p4) (by omega)
        refine lv_aload_n hx hb dL_act_280 rfl (lv_at hl 5 rfl) ?_
        refine lv_iload hx hb dL_act_281 (lv_at hl 1 rfl) ?_
        refine zcallGV (ci := 3) (cq := (RX3, TX3, 5)) (As := [.int (zI d5)]) (rest := []) ⟨hx, hb, hml, hown, hts⟩ hK hQ (kX3_canMarry l D cI cZ c1 c2 H.size s0 a n pa sp al co da M mo td wn d5 hsp hal (by omega) (hsn d5 (by omega) (by omega))) (cwV 1 hts gL_act_X3_canMarry rfl rfl rfl (by decide +kernel) ⟨by first | exact Nat.le_of_ble_eq_true rfl | (show _ ≤ _; omega), Nat.le_of_ble_eq_true rfl⟩) (hL.toW hU) hL.obj hS (fun x h => Or.inr (Nat.le_trans hs0 (Nat.le_trans hU h))) rfl rfl hl.1 rfl (Nat.le_of_ble_eq_true rfl) dL_act_283 ⟨show 0 + 0 ≤ 310 from by omega, show 0 + 0 ≤ 29600 from by omega⟩ (fun v9 H locs hp9 hz9 hk9 hS => ?_)
        subst hp9
        have hk9 := fun (x : Nat) (h : x < _) => hk9 x h (Nat.not_le.mpr h)
        have hC := zgrowP hC hk9
        have hL := zSL.keep hL (fun x _ h2 => hk9 x (Nat.lt_of_lt_of_le h2 hU))
        have hT := zT.kept hT (fun x h1 _ => hk9 x h1)
        have hU : s9.heap.size ≤ H.size := hS.1
        refine W.eq (g2 := F0 m9 286 ls [.int (zI (cmF sp al d5))]) rfl ?_
        have hcb2 := cmF_01 sp al d5
        refine zr_if_eq (tgt := 309) hx hb dL_act_286 (by decide) ⟨by omega, by omega⟩ (fun c_20 => ?_) (fun c_20 => ?_)
        · have c_20 := c_20
          have hcmd := cmF_0 (sp := sp) (al := al) (p := d5) (by omega)
          refine lv_aload_n hx hb dL_act_309 rfl (lv_at hl 4 rfl) ?_
          refine lv_iload hx hb dL_act_310 (lv_at hl 2 rfl) ?_
          refine lv_iload hx hb dL_act_312 (lv_at hl 1 rfl) ?_
          by_cases hcs : al p4 = 0
          · have hcs := hcs
            refine zcallXV (ci := 2) (q0 := 0) (cq := (RX2, TX2, 9)) (As := [.int (zI p4), .int (zI d5)]) (rest := []) ⟨hx, hb, hml, hown, hts⟩ hK (kX2_marryx4 l D hl0 cI cZ q hN pa sp al dg co da mb dd ah wl lo n td wn hn hal p4 d5 (by omega) (by omega) (by omega) (by omega)) (cwV 2 hts gL_act_X2_marry rfl rfl rfl (by decide +kernel) ⟨Nat.le_of_ble_eq_true rfl, Nat.le_of_ble_eq_true rfl⟩) hC (zT.narrow hT (fun _ h => Or.inl h)) hS (fun x h => Or.inl h) rfl rfl rfl hl.1 rfl (Nat.le_of_ble_eq_true rfl) dL_act_314 ⟨show 0 + 1 ≤ 310 from by omega, show 0 + 6 ≤ 29600 from by omega⟩ (fun ce q9 H locs hC hS hz9 hk9 hce hcv hcl => ?_)
            have hkq := fun (x : Nat) (h1 : x < _) (h2 : s0 ≤ x) => hk9 x h1 (fun h => absurd (hq0 x h) (Nat.not_lt.mpr h2))
            have hL := zSL.keep hL (fun x h1 h2 => hkq x (Nat.lt_of_lt_of_le h2 hU) h1)
            have hT := zT.kept hT (fun x h1 h2 => hk9 x h1 (fun h => h2 (Or.inl h)))
            have hU : s9.heap.size ≤ H.size := hS.1
            refine vx_catch (E := "java/lang/IllegalStateException") (name := "java/lang/IllegalStateException") hown [⟨155, 161, 164, 31⟩, ⟨232, 240, 243, 31⟩] ⟨309, 319, 322, 31⟩ [⟨497, 505, 508, 31⟩, ⟨554, 564, 567, 31⟩] (by rw [htab]; rfl) (fun z hz => Or.inl (by simp only [List.mem_cons, List.not_mem_nil, or_false] at hz; rcases hz with rfl | rfl <;> decide)) (by decide) (by decide) (hts (.classLink RL 31 "java/lang/IllegalStateException") (by decide +kernel)) (zB.at (Vm.Alike.refl _) hEx.2.2.2 _ _ (List.mem_of_getElem? (i := 4) rfl)) hce hcv hcl ?_
            refine lv_astore (lv' := [(8, .ref q9), (6, .int (zI (-9))), (5, .int (zI d5)), (4, .int (zI p4)), (3, .int (zI (n : Int))), (0, .ref (q 0)), (1, .ref a), (2, .int x)]) hx hb dL_act_322 hl (by decide) rfl (fun ls hl => ?_)
            refine zr_bipush hx hb dL_act_324 (by decide) ?_
            refine lv_istore (lv' := [(7, .int (zI (-9))), (8, .ref q9), (6, .int (zI (-9))), (5, .int (zI d5)), (4, .int (zI p4)), (3, .int (zI (n : Int))), (0, .ref (q 0)), (1, .ref a), (2, .int x)]) hx hb dL_act_326 hl (by decide) rfl (fun ls hl => ?_)
            refine lv_iload hx hb dL_act_328 (lv_at hl 0 rfl) ?_
            refine lv_iload hx hb dL_act_330 (lv_at hl 2 rfl) ?_
            refine zr_icmp_neF (tgt := 339) hx hb rfl dL_act_332 (by decide) ?_
            refine zr_iconst hx hb dL_act_335 ?_
            refine lv_goto (tgt := 340) hx hb dL_act_336 (by decide) ?_
            rw [hQ0]
            exact vx_ret (zgret_z (z := 1) hx hb hr hlocks (zn_bool ⟨by omega, by omega⟩) (rfl) (⟨rfl, n, pa, sp, al, co, da, mb, dd, td, wn, M, mo, hI, by omega, by omega, ⟨_, _, _, _, hC⟩, hL.toW hU⟩) hS dL_act_340 (by omega) (by omega))
          · have hcs := hcs
            by_cases hcs : al d5 = 0
            · have hcs := hcs
              refine zcallXV (ci := 2) (q0 := 0) (cq := (RX2, TX2, 9)) (As := [.int (zI p4), .int (zI d5)]) (rest := []) ⟨hx, hb, hml, hown, hts⟩ hK (kX2_marryx5 l D hl0 cI cZ q hN pa sp al dg co da mb dd ah wl lo n td wn hn hal p4 d5 (by omega) (by omega) (by omega) (by omega) (by omega)) (cwV 2 hts gL_act_X2_marry rfl rfl rfl (by decide +kernel) ⟨Nat.le_of_ble_eq_true rfl, Nat.le_of_ble_eq_true rfl⟩) hC (zT.narrow hT (fun _ h => Or.inl h)) hS (fun x h => Or.inl h) rfl rfl rfl hl.1 rfl (Nat.le_of_ble_eq_true rfl) dL_act_314 ⟨show 0 + 1 ≤ 310 from by omega, show 0 + 6 ≤ 29600 from by omega⟩ (fun ce q9 H locs hC hS hz9 hk9 hce hcv hcl => ?_)
              have hkq := fun (x : Nat) (h1 : x < _) (h2 : s0 ≤ x) => hk9 x h1 (fun h => absurd (hq0 x h) (Nat.not_lt.mpr h2))
              have hL := zSL.keep hL (fun x h1 h2 => hkq x (Nat.lt_of_lt_of_le h2 hU) h1)
              have hT := zT.kept hT (fun x h1 h2 => hk9 x h1 (fun h => h2 (Or.inl h)))
              have hU : s9.heap.size ≤ H.size := hS.1
              refine vx_catch (E := "java/lang/IllegalStateException") (name := "java/lang/IllegalStateException") hown [⟨155, 161, 164, 31⟩, ⟨232, 240, 243, 31⟩] ⟨309, 319, 322, 31⟩ [⟨497, 505, 508, 31⟩, ⟨554, 564, 567, 31⟩] (by rw [htab]; rfl) (fun z hz => Or.inl (by simp only [List.mem_cons, List.not_mem_nil, or_false] at hz; rcases hz with rfl | rfl <;> decide)) (by decide) (by decide) (hts (.classLink RL 31 "java/lang/IllegalStateException") (by decide +kernel)) (zB.at (Vm.Alike.refl _) hEx.2.2.2 _ _ (List.mem_of_getElem? (i := 4) rfl)) hce hcv hcl ?_
              refine lv_astore (lv' := [(8, .ref q9), (6, .int (zI (-9))), (5, .int (zI d5)), (4, .int (zI p4)), (3, .int (zI (n : Int))), (0, .ref (q 0)), (1, .ref a), (2, .int x)]) hx hb dL_act_322 hl (by decide) rfl (fun ls hl => ?_)
              refine zr_bipush hx hb dL_act_324 (by decide) ?_
              refine lv_istore (lv' := [(7, .int (zI (-9))), (8, .ref q9), (6, .int (zI (-9))), (5, .int (zI d5)), (4, .int (zI p4)), (3, .int (zI (n : Int))), (0, .ref (q 0)), (1, .ref a), (2, .int x)]) hx hb dL_act_326 hl (by decide) rfl (fun ls hl => ?_)
              refine lv_iload hx hb dL_act_328 (lv_at hl 0 rfl) ?_
              refine lv_iload hx hb dL_act_330 (lv_at hl 2 rfl) ?_
              refine zr_icmp_neF (tgt := 339) hx hb rfl dL_act_332 (by decide) ?_
              refine zr_iconst hx hb dL_act_335 ?_
              refine lv_goto (tgt := 340) hx hb dL_act_336 (by decide) ?_
              rw [hQ0]
              exact vx_ret (zgret_z (z := 1) hx hb hr hlocks (zn_bool ⟨by omega, by omega⟩) (rfl) (⟨rfl, n, pa, sp, al, co, da, mb, dd, td, wn, M, mo, hI, by omega, by omega, ⟨_, _, _, _, hC⟩, hL.toW hU⟩) hS dL_act_340 (by omega) (by omega))
            · have hcs := hcs
              refine zcallXV (ci := 2) (q0 := 0) (cq := (RX2, TX2, 9)) (As := [.int (zI p4), .int (zI d5)]) (rest := []) ⟨hx, hb, hml, hown, hts⟩ hK (kX2_marryx6 l D hl0 cI cZ q hN pa sp al dg co da mb dd ah wl lo n td wn hn hsp hal hpa p4 d5 (by omega) (by omega) (by omega) (by omega) (by omega) (by omega)) (cwV 2 hts gL_act_X2_marry rfl rfl rfl (by decide +kernel) ⟨Nat.le_of_ble_eq_true rfl, Nat.le_of_ble_eq_true rfl⟩) hC (zT.narrow hT (fun _ h => Or.inl h)) hS (fun x h => Or.inl h) rfl rfl rfl hl.1 rfl (Nat.le_of_ble_eq_true rfl) dL_act_314 ⟨show 0 + 1 ≤ 310 from by omega, show 0 + 6 ≤ 29600 from by omega⟩ (fun ce q9 H locs hC hS hz9 hk9 hce hcv hcl => ?_)
              have hkq := fun (x : Nat) (h1 : x < _) (h2 : s0 ≤ x) => hk9 x h1 (fun h => absurd (hq0 x h) (Nat.not_lt.mpr h2))
              have hL := zSL.keep hL (fun x h1 h2 => hkq x (Nat.lt_of_lt_of_le h2 hU) h1)
              have hT := zT.kept hT (fun x h1 h2 => hk9 x h1 (fun h => h2 (Or.inl h)))
              have hU : s9.heap.size ≤ H.size := hS.1
              refine vx_catch (E := "java/lang/IllegalStateException") (name := "java/lang/IllegalStateException") hown [⟨155, 161, 164, 31⟩, ⟨232, 240, 243, 31⟩] ⟨309, 319, 322, 31⟩ [⟨497, 505, 508, 31⟩, ⟨554, 564, 567, 31⟩] (by rw [htab]; rfl) (fun z hz => Or.inl (by simp only [List.mem_cons, List.not_mem_nil, or_false] at hz; rcases hz with rfl | rfl <;> decide)) (by decide) (by decide) (hts (.classLink RL 31 "java/lang/IllegalStateException") (by decide +kernel)) (zB.at (Vm.Alike.refl _) hEx.2.2.2 _ _ (List.mem_of_getElem? (i := 4) rfl)) hce hcv hcl ?_
              refine lv_astore (lv' := [(8, .ref q9), (6, .int (zI (-9))), (5, .int (zI d5)), (4, .int (zI p4)), (3, .int (zI (n : Int))), (0, .ref (q 0)), (1, .ref a), (2, .int x)]) hx hb dL_act_322 hl (by decide) rfl (fun ls hl => ?_)
              refine zr_bipush hx hb dL_act_324 (by decide) ?_
              refine lv_istore (lv' := [(7, .int (zI (-9))), (8, .ref q9), (6, .int (zI (-9))), (5, .int (zI d5)), (4, .int (zI p4)), (3, .int (zI (n : Int))), (0, .ref (q 0)), (1, .ref a), (2, .int x)]) hx hb dL_act_326 hl (by decide) rfl (fun ls hl => ?_)
              refine lv_iload hx hb dL_act_328 (lv_at hl 0 rfl) ?_
              refine lv_iload hx hb dL_act_330 (lv_at hl 2 rfl) ?_
              refine zr_icmp_neF (tgt := 339) hx hb rfl dL_act_332 (by decide) ?_
              refine zr_iconst hx hb dL_act_335 ?_
              refine lv_goto (tgt := 340) hx hb dL_act_336 (by decide) ?_
              rw [hQ0]
              exact vx_ret (zgret_z (z := 1) hx hb hr hlocks (zn_bool ⟨by omega, by omega⟩) (rfl) (⟨rfl, n, pa, sp, al, co, da, mb, dd, td, wn, M, mo, hI, by omega, by omega, ⟨_, _, _, _, hC⟩, hL.toW hU⟩) hS dL_act_340 (by omega) (by omega))
        · have c_20 := c_20
          have hcmd := cmF_1 (sp := sp) (al := al) (p := d5) (by omega)
          refine lv_aload_n hx hb dL_act_289 rfl (lv_at hl 5 rfl) ?_
          refine zcallGV (ci := 3) (cq := (RX3, TX3, 5)) (As := []) (rest := []) ⟨hx, hb, hml, hown, hts⟩ hK hQ (kX3_degrees l D cI cZ c1 c2 H.size s0 a n pa sp al co da M mo td wn hpa hsp) (cwV 0 hts gL_act_X3_degrees rfl rfl rfl (by decide +kernel) ⟨by first | exact Nat.le_of_ble_eq_true rfl | (show _ ≤ _; omega), Nat.le_of_ble_eq_true rfl⟩) (hL.toW hU) hL.obj hS (fun x h => Or.inr (Nat.le_trans hs0 (Nat.le_trans hU h))) rfl rfl hl.1 rfl (Nat.le_of_ble_eq_true rfl) dL_act_290 ⟨show 0 + 17 ≤ 310 from by omega, show 0 + 272 ≤ 29600 from by omega⟩ (fun v9 H locs hp9 hz9 hk9 hS => ?_)
          obtain ⟨mx, rfl, hge_mx, hM⟩ := hp9
          have hk9 := fun (x : Nat) (h : x < _) => hk9 x h (Nat.not_le.mpr h)
          have hge_mx := Nat.le_trans hU hge_mx
          have hC := zgrowP hC hk9
          have hL := zSL.keep hL (fun x _ h2 => hk9 x (Nat.lt_of_lt_of_le h2 hU))
          have hT := zT.kept hT (fun x h1 _ => hk9 x h1)
          have hU : s9.heap.size ≤ H.size := hS.1
          refine W.eq (g2 := F0 m9 293 ls [.ref mx]) rfl ?_
          refine lv_iload hx hb dL_act_293 (lv_at hl 2 rfl) ?_
          refine zs_ald1 (v := .ref (rd mx p4)) (i := p4) hx hb hQ hM.1 (by omega) (by omega) (by have := hL.n16; omega) rfl dL_act_295 ?_
          refine lv_iload hx hb dL_act_296 (lv_at hl 1 rfl) ?_
          refine zs_ild (v := dgF pa sp n p4 d5) (i := d5) hx hb hQ (hM.2 p4 (by omega) (by omega)) (by omega) (by omega) (by have := hL.n16; omega) rfl dL_act_298 ?_
          have b_21 := dgF_bd pa sp n p4 d5
          refine lv_istore (lv' := [(6, .int (zI (dgF pa sp n p4 d5))), (5, .int (zI d5)), (4, .int (zI p4)), (3, .int (zI (n : Int))), (0, .ref (q 0)), (1, .ref a), (2, .int x)]) hx hb dL_act_299 hl (by decide) rfl (fun ls hl => ?_)
          refine lv_aload_n hx hb dL_act_301 rfl (lv_at hl 5 rfl) ?_
          refine lv_iload hx hb dL_act_302 (lv_at hl 2 rfl) ?_
          refine lv_iload hx hb dL_act_304 (lv_at hl 1 rfl) ?_
          refine zcallGV (ci := 3) (cq := (RX3, TX3, 5)) (As := [.int (zI p4), .int (zI d5)]) (rest := []) ⟨hx, hb, hml, hown, hts⟩ hK hQ (kX3_marry l D cI cZ c1 c2 H.size s0 a n pa sp al co da M mo td wn p4 d5 hsp (by omega) (by omega) (by omega) hsn) (cwV 2 hts gL_act_X3_marry rfl rfl rfl (by decide +kernel) ⟨by first | exact Nat.le_of_ble_eq_true rfl | (show _ ≤ _; omega), Nat.le_of_ble_eq_true rfl⟩) (hL.toW hU) hL.obj hS (fun x h => Or.inr h) rfl rfl hl.1 rfl (Nat.le_of_ble_eq_true rfl) dL_act_306 ⟨show 0 + 17 + 0 ≤ 310 from by omega, show 0 + 272 + 0 ≤ 29600 from by omega⟩ (fun v9 H locs hp9 hz9 hk9 hS => ?_)
          obtain ⟨rfl, kd_22, ap_22, ac_22, am_22, ra_22, rc_22, rr_22, rm_22, hL⟩ := hp9
          have hC := zkeepL hC rfl hq0 hk9
          have hT := zT.kept hT (fun x h1 h2 => hk9 x h1 (fun h => h2 (Or.inr h)))
          obtain ⟨ub_23, hub, hL⟩ : ∃ ub_23 : Nat, ub_23 ≤ H.size ∧ zSL D cI c1 c2 s0 ub_23 H a kd_22 ap_22 ac_22 am_22 ra_22 rc_22 rr_22 rm_22 n pa (up (up (lvS (lvS sp p4) d5) p4 d5) d5 p4) al co da M mo td wn := ⟨H.size, Nat.le_refl _, hL⟩
          have hU : s9.heap.size ≤ H.size := hS.1
          have hub : ub_23 ≤ H.size := by omega
          refine W.eq (g2 := F0 m9 309 ls []) rfl ?_
          refine lv_aload_n hx hb dL_act_309 rfl (lv_at hl 4 rfl) ?_
          refine lv_iload hx hb dL_act_310 (lv_at hl 2 rfl) ?_
          refine lv_iload hx hb dL_act_312 (lv_at hl 1 rfl) ?_
          refine zcallV (ci := 2) (q0 := 0) (cq := (RX2, TX2, 9)) (As := [.int (zI p4), .int (zI d5)]) (rest := []) ⟨hx, hb, hml, hown, hts⟩ hK (kX2_marryok l D cI cZ q hN pa sp al dg co da mb dd ah wl lo n td wn hn hpa hsp hal p4 d5 (by omega) (by omega) (by omega) (by omega) (by omega) (by omega) (by omega)) (cwV 2 hts gL_act_X2_marry rfl rfl rfl (by decide +kernel) ⟨Nat.le_of_ble_eq_true rfl, Nat.le_of_ble_eq_true rfl⟩) hC hS (fun x h => Or.inl h) rfl rfl rfl hl.1 rfl (Nat.le_of_ble_eq_true rfl) dL_act_314 ⟨show 0 + 17 ≤ 310 from by omega, show 0 + 272 ≤ 29600 from by omega⟩ (fun H locs hC hS hz9 hk9 => ?_)
          have hkq := fun (x : Nat) (h1 : x < _) (h2 : s0 ≤ x) => hk9 x h1 (fun h => absurd (hq0 x h) (Nat.not_lt.mpr h2))
          have hL := zSL.keep hL (fun x h1 h2 => hkq x (Nat.lt_of_lt_of_le h2 hub) h1)
          have hT := zT.kept hT (fun x h1 h2 => hk9 x h1 (fun h => h2 (Or.inl h)))
          have hU : s9.heap.size ≤ H.size := hS.1
          have hub : ub_23 ≤ H.size := by omega
          refine W.eq (g2 := F0 m9 317 ls [.int (zI (dgF pa sp n p4 d5))]) rfl ?_
          refine lv_istore (lv' := [(7, .int (zI (dgF pa sp n p4 d5))), (6, .int (zI (dgF pa sp n p4 d5))), (5, .int (zI d5)), (4, .int (zI p4)), (3, .int (zI (n : Int))), (0, .ref (q 0)), (1, .ref a), (2, .int x)]) hx hb dL_act_317 hl (by decide) rfl (fun ls hl => ?_)
          refine lv_goto (tgt := 328) hx hb dL_act_319 (by decide) ?_
          refine lv_iload hx hb dL_act_328 (lv_at hl 0 rfl) ?_
          refine lv_iload hx hb dL_act_330 (lv_at hl 1 rfl) ?_
          refine zr_icmp_neF (tgt := 339) hx hb rfl dL_act_332 (by decide) ?_
          refine zr_iconst hx hb dL_act_335 ?_
          refine lv_goto (tgt := 340) hx hb dL_act_336 (by decide) ?_
          rw [hQ0]
          exact vx_ret (zgret_z (z := 1) hx hb hr hlocks (zn_bool ⟨by omega, by omega⟩) (rfl) (⟨rfl, n, pa, up (up (lvS (lvS sp p4) d5) p4 d5) d5 p4, al, co, da, mb, dd, td, wn, M, mo, hI.wed (a := p4) (b := d5) (by omega) (by omega) (by omega) (by omega) (by omega), by omega, by omega, ⟨_, _, _, _, hC⟩, hL.toW hub⟩) hS dL_act_340 (by omega) (by omega))
    · have c_18 := c_18
      refine zr_iconst hx hb dL_act_269 ?_
      rw [hQ0]
      exact vx_ret (zgret_z (z := 1) hx hb hr hlocks (zn_bool ⟨by omega, by omega⟩) (rfl) (⟨rfl, n, pa, sp, al, co, da, mb, dd, td, wn, M, mo, hI, by omega, by omega, ⟨_, _, _, _, hC⟩, hL.toW hU⟩) hS dL_act_270 (by omega) (by omega))
  have kT341 : W p0 l e9 (({ frames := 9, cells := 310, slots := 29600, locals := 158 } : Room)) s9 m9 ag9 below meth c9 H locs 0 0 Q0 (F0 m9 341 ls []) := by
    refine zr_iconst hx hb dL_act_341 ?_
    refine lv_iload_n hx hb dL_act_342 rfl (lv_at hl 6 rfl) ?_
    refine zr_iconst hx hb dL_act_343 ?_
    refine zx_ishr hx hb dL_act_344 (fun x_24 => ?_)
    refine zr_iconst hx hb dL_act_345 ?_
    refine zcallGS (As := [.int x_24, .int (zI 4)]) (rest := [.int (zI 1)]) ⟨hx, hb, hml, hown, hts⟩ hK hQ (kL_below l D cI cZ c1 c2 H.size x_24 4 (by omega)) (va_cwS 2 hts gL_act_L_below rfl rfl rfl (by decide +kernel) ⟨by first | exact Nat.le_of_ble_eq_true rfl | (show _ ≤ _; omega), Nat.le_of_ble_eq_true rfl⟩) (trivial) hS (fun _ h => h.elim) rfl hl.1 rfl (Nat.le_of_ble_eq_true rfl) dL_act_346 ⟨show 0 + 0 ≤ 310 from by omega, show 0 + 0 ≤ 29600 from by omega⟩ (fun v9 H locs hp9 hz9 hk9 hS => ?_)
    obtain ⟨z_25, rfl, h0z_25, h1z_25⟩ := hp9
    have hk9 := fun (x : Nat) (h : x < _) => hk9 x h (fun h => h)
    have hC := zgrowP hC hk9
    have hL := zSL.keep hL (fun x _ h2 => hk9 x (Nat.lt_of_lt_of_le h2 hU))
    have hT := zT.kept hT (fun x h1 _ => hk9 x h1)
    have hU : s9.heap.size ≤ H.size := hS.1
    refine W.eq (g2 := F0 m9 349 ls [.int (zI z_25), .int (zI 1)]) rfl ?_
    refine zr_iadd (v := 1 + z_25) hx hb rfl dL_act_349 ?_
    obtain ⟨d8, hnm_d8⟩ : ∃ d8 : Int, d8 = 1 + z_25 := ⟨_, rfl⟩; rw [← hnm_d8]
    refine lv_istore (lv' := [(8, .int (zI d8)), (6, .int (zI (-9))), (5, .int (zI d5)), (4, .int (zI p4)), (3, .int (zI (n : Int))), (0, .ref (q 0)), (1, .ref a), (2, .int x)]) hx hb dL_act_350 hl (by decide) rfl (fun ls hl => ?_)
    refine lv_iload_n hx hb dL_act_352 rfl (lv_at hl 7 rfl) ?_
    refine zr_bipush hx hb dL_act_353 (by decide) ?_
    refine zx_ishr hx hb dL_act_355 (fun x_26 => ?_)
    refine zr_iconst hx hb dL_act_356 ?_
    refine zcallGS (As := [.int x_26, .int (zI 3)]) (rest := []) ⟨hx, hb, hml, hown, hts⟩ hK hQ (kL_below l D cI cZ c1 c2 H.size x_26 3 (by omega)) (va_cwS 2 hts gL_act_L_below rfl rfl rfl (by decide +kernel) ⟨by first | exact Nat.le_of_ble_eq_true rfl | (show _ ≤ _; omega), Nat.le_of_ble_eq_true rfl⟩) (trivial) hS (fun _ h => h.elim) rfl hl.1 rfl (Nat.le_of_ble_eq_true rfl) dL_act_357 ⟨show 0 + 0 ≤ 310 from by omega, show 0 + 0 ≤ 29600 from by omega⟩ (fun v9 H locs hp9 hz9 hk9 hS => ?_)
    obtain ⟨z_27, rfl, h0z_27, h1z_27⟩ := hp9
    have hk9 := fun (x : Nat) (h : x < _) => hk9 x h (fun h => h)
    have hC := zgrowP hC hk9
    have hL := zSL.keep hL (fun x _ h2 => hk9 x (Nat.lt_of_lt_of_le h2 hU))
    have hT := zT.kept hT (fun x h1 _ => hk9 x h1)
    have hU : s9.heap.size ≤ H.size := hS.1
    refine W.eq (g2 := F0 m9 360 ls [.int (zI z_27)]) rfl ?_
    obtain ⟨t9, hnm_t9⟩ : ∃ t9 : Int, t9 = z_27 := ⟨_, rfl⟩; rw [← hnm_t9]
    refine lv_istore (lv' := [(9, .int (zI t9)), (8, .int (zI d8)), (6, .int (zI (-9))), (5, .int (zI d5)), (4, .int (zI p4)), (3, .int (zI (n : Int))), (0, .ref (q 0)), (1, .ref a), (2, .int x)]) hx hb dL_act_360 hl (by decide) rfl (fun ls hl => ?_)
    refine lv_aload_n hx hb dL_act_362 rfl (lv_at hl 7 rfl) ?_
    refine va_get (D := D) (ci := 3) (v := .ref ac) (C := RX3) (T := TX3) (N := 5) hx hb hts hin3 hown hK hL.obj 0 rfl rfl 3 (by decide) (hts (.fieldLink RL 51 "MourningRibbonsLaw$Sim" "code" "[[[I") (by decide +kernel)) (fun _ h9 => h9) rfl dL_act_363 ?_
    refine lv_iload hx hb dL_act_366 (lv_at hl 1 rfl) ?_
    refine zs_ald2 (v := .ref (rc d8)) (i := d8) hx hb hQ hL.cod (by omega) (by omega) (by decide) rfl dL_act_368 ?_
    refine lv_iload hx hb dL_act_369 (lv_at hl 0 rfl) ?_
    refine zr_iconst hx hb dL_act_371 ?_
    refine zs_newI (N' := 2) hx hb hQ (hts (.arrayClass .int) (by decide +kernel)) hS (z := 2) (by omega) (by omega) (show 0 + 1 ≤ 310 from by omega) (show 0 + 2 ≤ 29600 from by omega) dL_act_372 (fun H w1 hq_w1 hi_w1 hz9 hk9 hS => ?_)
    have hC := zgrowP hC hk9
    have hL := zSL.keep hL (fun x _ h2 => hk9 x (Nat.lt_of_lt_of_le h2 hU))
    have hT := zT.kept hT (fun x h1 _ => hk9 x h1)
    have hge_w1 : s9.heap.size ≤ w1 := by omega
    have hU : s9.heap.size ≤ H.size := hS.1
    refine lv_dup hx hb dL_act_374 rfl ?_
    refine zr_iconst hx hb dL_act_375 ?_
    refine lv_iload_n hx hb dL_act_376 rfl (lv_at hl 8 rfl) ?_
    refine zr_bipush hx hb dL_act_377 (by decide) ?_
    refine zx_ishr hx hb dL_act_379 (fun x_28 => ?_)
    refine zr_bipush hx hb dL_act_380 (by decide) ?_
    refine zcallGS (As := [.int x_28, .int (zI 6)]) (rest := [.int (zI 0), .ref w1, .ref w1, .int (zI t9), .ref (rc d8)]) ⟨hx, hb, hml, hown, hts⟩ hK hQ (kL_below l D cI cZ c1 c2 H.size x_28 6 (by omega)) (va_cwS 2 hts gL_act_L_below rfl rfl rfl (by decide +kernel) ⟨by first | exact Nat.le_of_ble_eq_true rfl | (show _ ≤ _; omega), Nat.le_of_ble_eq_true rfl⟩) (trivial) hS (fun _ h => h.elim) rfl hl.1 rfl (Nat.le_of_ble_eq_true rfl) dL_act_382 ⟨show 0 + 1 + 0 ≤ 310 from by omega, show 0 + 2 + 0 ≤ 29600 from by omega⟩ (fun v9 H locs hp9 hz9 hk9 hS => ?_)
    obtain ⟨z_29, rfl, h0z_29, h1z_29⟩ := hp9
    have hk9 := fun (x : Nat) (h : x < _) => hk9 x h (fun h => h)
    have hC := zgrowP hC hk9
    have hL := zSL.keep hL (fun x _ h2 => hk9 x (Nat.lt_of_lt_of_le h2 hU))
    have hT := zT.kept hT (fun x h1 _ => hk9 x h1)
    have hi_w1 := vA.grow hi_w1 hk9
    have hU : s9.heap.size ≤ H.size := hS.1
    refine W.eq (g2 := F0 m9 385 ls [.int (zI z_29), .int (zI 0), .ref w1, .ref w1, .int (zI t9), .ref (rc d8)]) rfl ?_
    refine zs_ist (i := 0) (x := z_29) hx hb hQ hi_w1 hS (Or.inr (by omega)) (by decide) (by decide) (by decide) dL_act_385 (fun H locs hv9 hz9 hk9 hS => ?_)
    have hC := zkeepW hC rfl hk9 (fun h => by have := hq0 _ h; omega)
    have hL := zSL.keep hL (fun x _ h2 => hk9 x (by omega))
    have hT := zT.kept hT (fun x h1 h2 => hk9 x (fun h => h2 (by rw [h]; exact Or.inr (by omega))))
    have hi_w1 := hv9
    have hU : s9.heap.size ≤ H.size := hS.1
    refine lv_dup hx hb dL_act_386 rfl ?_
    refine zr_iconst hx hb dL_act_387 ?_
    refine lv_iload_n hx hb dL_act_388 rfl (lv_at hl 8 rfl) ?_
    refine zr_bipush hx hb dL_act_389 (by decide) ?_
    refine zx_ishr hx hb dL_act_391 (fun x_30 => ?_)
    refine zr_iconst hx hb dL_act_392 ?_
    refine zcallGS (As := [.int x_30, .int (zI 3)]) (rest := [.int (zI 1), .ref w1, .ref w1, .int (zI t9), .ref (rc d8)]) ⟨hx, hb, hml, hown, hts⟩ hK hQ (kL_below l D cI cZ c1 c2 H.size x_30 3 (by omega)) (va_cwS 2 hts gL_act_L_below rfl rfl rfl (by decide +kernel) ⟨by first | exact Nat.le_of_ble_eq_true rfl | (show _ ≤ _; omega), Nat.le_of_ble_eq_true rfl⟩) (trivial) hS (fun _ h => h.elim) rfl hl.1 rfl (Nat.le_of_ble_eq_true rfl) dL_act_393 ⟨show 0 + 1 + 0 ≤ 310 from by omega, show 0 + 2 + 0 ≤ 29600 from by omega⟩ (fun v9 H locs hp9 hz9 hk9 hS => ?_)
    obtain ⟨z_31, rfl, h0z_31, h1z_31⟩ := hp9
    have hk9 := fun (x : Nat) (h : x < _) => hk9 x h (fun h => h)
    have hC := zgrowP hC hk9
    have hL := zSL.keep hL (fun x _ h2 => hk9 x (Nat.lt_of_lt_of_le h2 hU))
    have hT := zT.kept hT (fun x h1 _ => hk9 x h1)
    have hi_w1 := vA.grow hi_w1 hk9
    have hU : s9.heap.size ≤ H.size := hS.1
    refine W.eq (g2 := F0 m9 396 ls [.int (zI z_31), .int (zI 1), .ref w1, .ref w1, .int (zI t9), .ref (rc d8)]) rfl ?_
    refine zr_if_ne (tgt := 403) hx hb dL_act_396 (by decide) ⟨by omega, by omega⟩ (fun c_32 => ?_) (fun c_32 => ?_)
    · have c_32 := c_32
      refine lv_iload_n hx hb dL_act_403 rfl (lv_at hl 8 rfl) ?_
      refine zr_iconst hx hb dL_act_404 ?_
      refine zx_ishr hx hb dL_act_405 (fun x_33 => ?_)
      refine lv_iload_n hx hb dL_act_406 rfl (lv_at hl 8 rfl) ?_
      refine zr_bipush hx hb dL_act_407 (by decide) ?_
      refine zx_ishr hx hb dL_act_409 (fun x_34 => ?_)
      refine zr_iconst hx hb dL_act_410 ?_
      refine zcallGS (As := [.int x_34, .int (zI 3)]) (rest := [.int x_33, .int (zI 1), .ref w1, .ref w1, .int (zI t9), .ref (rc d8)]) ⟨hx, hb, hml, hown, hts⟩ hK hQ (kL_below l D cI cZ c1 c2 H.size x_34 3 (by omega)) (va_cwS 2 hts gL_act_L_below rfl rfl rfl (by decide +kernel) ⟨by first | exact Nat.le_of_ble_eq_true rfl | (show _ ≤ _; omega), Nat.le_of_ble_eq_true rfl⟩) (trivial) hS (fun _ h => h.elim) rfl hl.1 rfl (Nat.le_of_ble_eq_true rfl) dL_act_411 ⟨show 0 + 1 + 0 ≤ 310 from by omega, show 0 + 2 + 0 ≤ 29600 from by omega⟩ (fun v9 H locs hp9 hz9 hk9 hS => ?_)
      obtain ⟨z_35, rfl, h0z_35, h1z_35⟩ := hp9
      have hk9 := fun (x : Nat) (h : x < _) => hk9 x h (fun h => h)
      have hC := zgrowP hC hk9
      have hL := zSL.keep hL (fun x _ h2 => hk9 x (Nat.lt_of_lt_of_le h2 hU))
      have hT := zT.kept hT (fun x h1 _ => hk9 x h1)
      have hi_w1 := vA.grow hi_w1 hk9
      have hU : s9.heap.size ≤ H.size := hS.1
      refine W.eq (g2 := F0 m9 414 ls [.int (zI z_35), .int x_33, .int (zI 1), .ref w1, .ref w1, .int (zI t9), .ref (rc d8)]) rfl ?_
      refine zr_if_ne (tgt := 422) hx hb dL_act_414 (by decide) ⟨by omega, by omega⟩ (fun c_36 => ?_) (fun c_36 => ?_)
      · have c_36 := c_36
        refine zr_bipush hx hb dL_act_422 (by decide) ?_
        refine zcallGS (As := [.int x_33, .int (zI 15)]) (rest := [.int (zI 1), .ref w1, .ref w1, .int (zI t9), .ref (rc d8)]) ⟨hx, hb, hml, hown, hts⟩ hK hQ (kL_below l D cI cZ c1 c2 H.size x_33 15 (by omega)) (va_cwS 2 hts gL_act_L_below rfl rfl rfl (by decide +kernel) ⟨by first | exact Nat.le_of_ble_eq_true rfl | (show _ ≤ _; omega), Nat.le_of_ble_eq_true rfl⟩) (trivial) hS (fun _ h => h.elim) rfl hl.1 rfl (Nat.le_of_ble_eq_true rfl) dL_act_424 ⟨show 0 + 1 + 0 ≤ 310 from by omega, show 0 + 2 + 0 ≤ 29600 from by omega⟩ (fun v9 H locs hp9 hz9 hk9 hS => ?_)
        obtain ⟨z_37, rfl, h0z_37, h1z_37⟩ := hp9
        have hk9 := fun (x : Nat) (h : x < _) => hk9 x h (fun h => h)
        have hC := zgrowP hC hk9
        have hL := zSL.keep hL (fun x _ h2 => hk9 x (Nat.lt_of_lt_of_le h2 hU))
        have hT := zT.kept hT (fun x h1 _ => hk9 x h1)
        have hi_w1 := vA.grow hi_w1 hk9
        have hU : s9.heap.size ≤ H.size := hS.1
        refine W.eq (g2 := F0 m9 427 ls [.int (zI z_37), .int (zI 1), .ref w1, .ref w1, .int (zI t9), .ref (rc d8)]) rfl ?_
        refine zs_ist (i := 1) (x := z_37) hx hb hQ hi_w1 hS (Or.inr (by omega)) (by decide) (by decide) (by decide) dL_act_427 (fun H locs hv9 hz9 hk9 hS => ?_)
        have hC := zkeepW hC rfl hk9 (fun h => by have := hq0 _ h; omega)
        have hL := zSL.keep hL (fun x _ h2 => hk9 x (by omega))
        have hT := zT.kept hT (fun x h1 h2 => hk9 x (fun h => h2 (by rw [h]; exact Or.inr (by omega))))
        have hi_w1 := hv9
        have hU : s9.heap.size ≤ H.size := hS.1
        refine zs_ast1 (i := t9) (v := w1) hx hb hQ (hL.cds d8 (by omega) (by omega)) hi_w1 hS (Or.inr (hL.out (by rw [(hL.2.2.1 _ (by omega) (by omega)).2]; omega)).1) (by omega) (by omega) (by decide) dL_act_428 (fun H locs hv9 hz9 hk9 hS => ?_)
        have hrcd := hL.out (x := rc d8) (by rw [(hL.2.2.1 d8 (by omega) (by omega)).2]; omega)
        obtain ⟨kd_38, rr_38, hL⟩ := zSL_setC (c := z_29) (k9 := z_37) hL hU hz9 (by omega) (by omega) (by omega) (by omega) hi_w1 (zrowStg _ _) (by omega) hv9 hk9
        have hC := zkeepW hC rfl hk9 (fun h => absurd (hq0 _ h) (Nat.not_lt.mpr hrcd.1))
        have hT := zT.kept hT (fun x h1 h2 => hk9 x (fun h => h2 (Or.inr (by rw [h]; exact hrcd.1))))
        obtain ⟨ub_39, hub, hL⟩ : ∃ ub_39 : Nat, ub_39 ≤ H.size ∧ zSL D cI c1 c2 s0 ub_39 H a kd_38 ap ac am ra rc rr_38 rm n pa sp al (up co (192 + ((d8 - 1) * 3 + t9)) z_29) (up da (192 + ((d8 - 1) * 3 + t9)) z_37) M mo td wn := ⟨H.size, Nat.le_refl _, hL⟩
        have hU : s9.heap.size ≤ H.size := hS.1
        have hub : ub_39 ≤ H.size := by omega
        refine lv_aload_n hx hb dL_act_429 rfl (lv_at hl 6 rfl) ?_
        refine lv_iload hx hb dL_act_430 (lv_at hl 1 rfl) ?_
        refine lv_iload hx hb dL_act_432 (lv_at hl 0 rfl) ?_
        refine lv_aload_n hx hb dL_act_434 rfl (lv_at hl 7 rfl) ?_
        refine va_get (D := D) (ci := 3) (v := .ref ac) (C := RX3) (T := TX3) (N := 5) hx hb hts hin3 hown hK hL.obj 0 rfl rfl 3 (by decide) (hts (.fieldLink RL 51 "MourningRibbonsLaw$Sim" "code" "[[[I") (by decide +kernel)) (fun _ h9 => h9) rfl dL_act_435 ?_
        refine lv_iload hx hb dL_act_438 (lv_at hl 1 rfl) ?_
        refine zs_ald2 (v := .ref (rc d8)) (i := d8) hx hb hQ hL.cod (by omega) (by omega) (by decide) rfl dL_act_440 ?_
        refine lv_iload hx hb dL_act_441 (lv_at hl 0 rfl) ?_
        refine zs_ald1 (v := .ref (rr_38 d8 t9)) (i := t9) hx hb hQ (hL.cds d8 (by omega) (by omega)) (by omega) (by omega) (by decide) rfl dL_act_443 ?_
        refine zr_iconst hx hb dL_act_444 ?_
        refine zs_ild (v := z_29) (i := 0) hx hb hQ (hL.stg d8 t9 (by omega) (by omega) (by omega) (by omega)) (by decide) (by decide) (by decide) ((if_pos rfl).trans (if_pos rfl)) dL_act_445 ?_
        refine lv_aload_n hx hb dL_act_446 rfl (lv_at hl 7 rfl) ?_
        refine va_get (D := D) (ci := 3) (v := .ref ac) (C := RX3) (T := TX3) (N := 5) hx hb hts hin3 hown hK hL.obj 0 rfl rfl 3 (by decide) (hts (.fieldLink RL 51 "MourningRibbonsLaw$Sim" "code" "[[[I") (by decide +kernel)) (fun _ h9 => h9) rfl dL_act_447 ?_
        refine lv_iload hx hb dL_act_450 (lv_at hl 1 rfl) ?_
        refine zs_ald2 (v := .ref (rc d8)) (i := d8) hx hb hQ hL.cod (by omega) (by omega) (by decide) rfl dL_act_452 ?_
        refine lv_iload hx hb dL_act_453 (lv_at hl 0 rfl) ?_
        refine zs_ald1 (v := .ref (rr_38 d8 t9)) (i := t9) hx hb hQ (hL.cds d8 (by omega) (by omega)) (by omega) (by omega) (by decide) rfl dL_act_455 ?_
        refine zr_iconst hx hb dL_act_456 ?_
        refine zs_ild (v := z_37) (i := 1) hx hb hQ (hL.stg d8 t9 (by omega) (by omega) (by omega) (by omega)) (by decide) (by decide) (by decide) ((if_neg (by decide)).trans (if_pos rfl)) dL_act_457 ?_
        refine zcallV (ci := 2) (q0 := 0) (cq := (RX2, TX2, 9)) (As := [.int (zI d8), .int (zI t9), .int (zI z_29), .int (zI z_37)]) (rest := []) ⟨hx, hb, hml, hown, hts⟩ hK (kX2_setStageok l D cI cZ q hN pa sp al dg co da mb dd ah wl lo n td wn hda d8 t9 z_29 z_37 (by omega) (by omega) (by omega) (by omega)) (cwV 4 hts gL_act_X2_setStage rfl rfl rfl (by decide +kernel) ⟨Nat.le_of_ble_eq_true rfl, Nat.le_of_ble_eq_true rfl⟩) hC hS (fun x h => Or.inl h) rfl rfl rfl hl.1 rfl (Nat.le_of_ble_eq_true rfl) dL_act_458 ⟨show 0 + 1 ≤ 310 from by omega, show 0 + 2 ≤ 29600 from by omega⟩ (fun H locs hC hS hz9 hk9 => ?_)
        have hkq := fun (x : Nat) (h1 : x < _) (h2 : s0 ≤ x) => hk9 x h1 (fun h => absurd (hq0 x h) (Nat.not_lt.mpr h2))
        have hL := zSL.keep hL (fun x h1 h2 => hkq x (Nat.lt_of_lt_of_le h2 hub) h1)
        have hT := zT.kept hT (fun x h1 h2 => hk9 x h1 (fun h => h2 (Or.inl h)))
        have hU : s9.heap.size ≤ H.size := hS.1
        have hub : ub_39 ≤ H.size := by omega
        refine W.eq (g2 := F0 m9 461 ls [.int (zI (dAll (up da (16 * 12 + (d8 - 1) * 3 + t9) z_37) 16 d8))]) rfl ?_
        rw [show 16 * 12 + (d8 - 1) * 3 + t9 = 192 + ((d8 - 1) * 3 + t9) by omega] at hC ⊢; have hda2 : ∀ j : Int, 0 ≤ (up da (192 + ((d8 - 1) * 3 + t9)) z_37) j ∧ (up da (192 + ((d8 - 1) * 3 + t9)) z_37) j ≤ 60 := up_bd hda ⟨by omega, by omega⟩
        refine lv_aload_n hx hb dL_act_461 rfl (lv_at hl 7 rfl) ?_
        refine lv_iload hx hb dL_act_462 (lv_at hl 1 rfl) ?_
        refine zcallGV (ci := 3) (cq := (RX3, TX3, 5)) (As := [.int (zI d8)]) (rest := [.int (zI (dAll (up da (192 + ((d8 - 1) * 3 + t9)) z_37) 16 d8))]) ⟨hx, hb, hml, hown, hts⟩ hK hQ (kX3_length l D cI cZ c1 c2 H.size s0 a n pa sp al (up co (192 + ((d8 - 1) * 3 + t9)) z_29) (up da (192 + ((d8 - 1) * 3 + t9)) z_37) M mo td wn d8 hda2 (by omega)) (cwV 1 hts gL_act_X3_length rfl rfl rfl (by decide +kernel) ⟨by first | exact Nat.le_of_ble_eq_true rfl | (show _ ≤ _; omega), Nat.le_of_ble_eq_true rfl⟩) (hL.toW hub) hL.obj hS (fun x h => Or.inr (Nat.le_trans hs0 (Nat.le_trans hU h))) rfl rfl hl.1 rfl (Nat.le_of_ble_eq_true rfl) dL_act_464 ⟨show 0 + 1 + 0 ≤ 310 from by omega, show 0 + 2 + 0 ≤ 29600 from by omega⟩ (fun v9 H locs hp9 hz9 hk9 hS => ?_)
        subst hp9
        have hk9 := fun (x : Nat) (h : x < _) => hk9 x h (Nat.not_le.mpr h)
        have hC := zgrowP hC hk9
        have hL := zSL.keep hL (fun x _ h2 => hk9 x (Nat.lt_of_lt_of_le h2 hub))
        have hT := zT.kept hT (fun x h1 _ => hk9 x h1)
        have b_40 := dAll_bd hda2 16 d8
        have hU : s9.heap.size ≤ H.size := hS.1
        have hub : ub_39 ≤ H.size := by omega
        refine W.eq (g2 := F0 m9 467 ls [.int (zI (dAll (up da (192 + ((d8 - 1) * 3 + t9)) z_37) 16 d8)), .int (zI (dAll (up da (192 + ((d8 - 1) * 3 + t9)) z_37) 16 d8))]) rfl ?_
        refine zr_icmp_neF (tgt := 474) hx hb rfl dL_act_467 (by decide) ?_
        refine zr_iconst hx hb dL_act_470 ?_
        refine lv_goto (tgt := 475) hx hb dL_act_471 (by decide) ?_
        rw [hQ0]
        exact vx_ret (zgret_z (z := 1) hx hb hr hlocks (zn_bool ⟨by omega, by omega⟩) (rfl) (⟨rfl, n, pa, sp, al, up co (192 + ((d8 - 1) * 3 + t9)) z_29, up da (192 + ((d8 - 1) * 3 + t9)) z_37, mb, dd, td, wn, M, mo, hI.stg (k := 192 + ((d8 - 1) * 3 + t9)) (c := z_29) (v := z_37) (by omega) ⟨by omega, by omega⟩ ⟨by omega, by omega⟩, by omega, by omega, ⟨_, _, _, _, hC⟩, hL.toW hub⟩) hS dL_act_475 (by omega) (by omega))
      · have c_36 := c_36
        refine zr_bipush hx hb dL_act_417 (by decide) ?_
        refine lv_goto (tgt := 424) hx hb dL_act_419 (by decide) ?_
        refine zcallGS (As := [.int x_33, .int (zI 61)]) (rest := [.int (zI 1), .ref w1, .ref w1, .int (zI t9), .ref (rc d8)]) ⟨hx, hb, hml, hown, hts⟩ hK hQ (kL_below l D cI cZ c1 c2 H.size x_33 61 (by omega)) (va_cwS 2 hts gL_act_L_below rfl rfl rfl (by decide +kernel) ⟨by first | exact Nat.le_of_ble_eq_true rfl | (show _ ≤ _; omega), Nat.le_of_ble_eq_true rfl⟩) (trivial) hS (fun _ h => h.elim) rfl hl.1 rfl (Nat.le_of_ble_eq_true rfl) dL_act_424 ⟨show 0 + 1 + 0 ≤ 310 from by omega, show 0 + 2 + 0 ≤ 29600 from by omega⟩ (fun v9 H locs hp9 hz9 hk9 hS => ?_)
        obtain ⟨z_41, rfl, h0z_41, h1z_41⟩ := hp9
        have hk9 := fun (x : Nat) (h : x < _) => hk9 x h (fun h => h)
        have hC := zgrowP hC hk9
        have hL := zSL.keep hL (fun x _ h2 => hk9 x (Nat.lt_of_lt_of_le h2 hU))
        have hT := zT.kept hT (fun x h1 _ => hk9 x h1)
        have hi_w1 := vA.grow hi_w1 hk9
        have hU : s9.heap.size ≤ H.size := hS.1
        refine W.eq (g2 := F0 m9 427 ls [.int (zI z_41), .int (zI 1), .ref w1, .ref w1, .int (zI t9), .ref (rc d8)]) rfl ?_
        refine zs_ist (i := 1) (x := z_41) hx hb hQ hi_w1 hS (Or.inr (by omega)) (by decide) (by decide) (by decide) dL_act_427 (fun H locs hv9 hz9 hk9 hS => ?_)
        have hC := zkeepW hC rfl hk9 (fun h => by have := hq0 _ h; omega)
        have hL := zSL.keep hL (fun x _ h2 => hk9 x (by omega))
        have hT := zT.kept hT (fun x h1 h2 => hk9 x (fun h => h2 (by rw [h]; exact Or.inr (by omega))))
        have hi_w1 := hv9
        have hU : s9.heap.size ≤ H.size := hS.1
        refine zs_ast1 (i := t9) (v := w1) hx hb hQ (hL.cds d8 (by omega) (by omega)) hi_w1 hS (Or.inr (hL.out (by rw [(hL.2.2.1 _ (by omega) (by omega)).2]; omega)).1) (by omega) (by omega) (by decide) dL_act_428 (fun H locs hv9 hz9 hk9 hS => ?_)
        have hrcd := hL.out (x := rc d8) (by rw [(hL.2.2.1 d8 (by omega) (by omega)).2]; omega)
        obtain ⟨kd_42, rr_42, hL⟩ := zSL_setC (c := z_29) (k9 := z_41) hL hU hz9 (by omega) (by omega) (by omega) (by omega) hi_w1 (zrowStg _ _) (by omega) hv9 hk9
        have hC := zkeepW hC rfl hk9 (fun h => absurd (hq0 _ h) (Nat.not_lt.mpr hrcd.1))
        have hT := zT.kept hT (fun x h1 h2 => hk9 x (fun h => h2 (Or.inr (by rw [h]; exact hrcd.1))))
        obtain ⟨ub_43, hub, hL⟩ : ∃ ub_43 : Nat, ub_43 ≤ H.size ∧ zSL D cI c1 c2 s0 ub_43 H a kd_42 ap ac am ra rc rr_42 rm n pa sp al (up co (192 + ((d8 - 1) * 3 + t9)) z_29) (up da (192 + ((d8 - 1) * 3 + t9)) z_41) M mo td wn := ⟨H.size, Nat.le_refl _, hL⟩
        have hU : s9.heap.size ≤ H.size := hS.1
        have hub : ub_43 ≤ H.size := by omega
        refine lv_aload_n hx hb dL_act_429 rfl (lv_at hl 6 rfl) ?_
        refine lv_iload hx hb dL_act_430 (lv_at hl 1 rfl) ?_
        refine lv_iload hx hb dL_act_432 (lv_at hl 0 rfl) ?_
        refine lv_aload_n hx hb dL_act_434 rfl (lv_at hl 7 rfl) ?_
        refine va_get (D := D) (ci := 3) (v := .ref ac) (C := RX3) (T := TX3) (N := 5) hx hb hts hin3 hown hK hL.obj 0 rfl rfl 3 (by decide) (hts (.fieldLink RL 51 "MourningRibbonsLaw$Sim" "code" "[[[I") (by decide +kernel)) (fun _ h9 => h9) rfl dL_act_435 ?_
        refine lv_iload hx hb dL_act_438 (lv_at hl 1 rfl) ?_
        refine zs_ald2 (v := .ref (rc d8)) (i := d8) hx hb hQ hL.cod (by omega) (by omega) (by decide) rfl dL_act_440 ?_
        refine lv_iload hx hb dL_act_441 (lv_at hl 0 rfl) ?_
        refine zs_ald1 (v := .ref (rr_42 d8 t9)) (i := t9) hx hb hQ (hL.cds d8 (by omega) (by omega)) (by omega) (by omega) (by decide) rfl dL_act_443 ?_
        refine zr_iconst hx hb dL_act_444 ?_
        refine zs_ild (v := z_29) (i := 0) hx hb hQ (hL.stg d8 t9 (by omega) (by omega) (by omega) (by omega)) (by decide) (by decide) (by decide) ((if_pos rfl).trans (if_pos rfl)) dL_act_445 ?_
        refine lv_aload_n hx hb dL_act_446 rfl (lv_at hl 7 rfl) ?_
        refine va_get (D := D) (ci := 3) (v := .ref ac) (C := RX3) (T := TX3) (N := 5) hx hb hts hin3 hown hK hL.obj 0 rfl rfl 3 (by decide) (hts (.fieldLink RL 51 "MourningRibbonsLaw$Sim" "code" "[[[I") (by decide +kernel)) (fun _ h9 => h9) rfl dL_act_447 ?_
        refine lv_iload hx hb dL_act_450 (lv_at hl 1 rfl) ?_
        refine zs_ald2 (v := .ref (rc d8)) (i := d8) hx hb hQ hL.cod (by omega) (by omega) (by decide) rfl dL_act_452 ?_
        refine lv_iload hx hb dL_act_453 (lv_at hl 0 rfl) ?_
        refine zs_ald1 (v := .ref (rr_42 d8 t9)) (i := t9) hx hb hQ (hL.cds d8 (by omega) (by omega)) (by omega) (by omega) (by decide) rfl dL_act_455 ?_
        refine zr_iconst hx hb dL_act_456 ?_
        refine zs_ild (v := z_41) (i := 1) hx hb hQ (hL.stg d8 t9 (by omega) (by omega) (by omega) (by omega)) (by decide) (by decide) (by decide) ((if_neg (by decide)).trans (if_pos rfl)) dL_act_457 ?_
        refine zcallV (ci := 2) (q0 := 0) (cq := (RX2, TX2, 9)) (As := [.int (zI d8), .int (zI t9), .int (zI z_29), .int (zI z_41)]) (rest := []) ⟨hx, hb, hml, hown, hts⟩ hK (kX2_setStageok l D cI cZ q hN pa sp al dg co da mb dd ah wl lo n td wn hda d8 t9 z_29 z_41 (by omega) (by omega) (by omega) (by omega)) (cwV 4 hts gL_act_X2_setStage rfl rfl rfl (by decide +kernel) ⟨Nat.le_of_ble_eq_true rfl, Nat.le_of_ble_eq_true rfl⟩) hC hS (fun x h => Or.inl h) rfl rfl rfl hl.1 rfl (Nat.le_of_ble_eq_true rfl) dL_act_458 ⟨show 0 + 1 ≤ 310 from by omega, show 0 + 2 ≤ 29600 from by omega⟩ (fun H locs hC hS hz9 hk9 => ?_)
        have hkq := fun (x : Nat) (h1 : x < _) (h2 : s0 ≤ x) => hk9 x h1 (fun h => absurd (hq0 x h) (Nat.not_lt.mpr h2))
        have hL := zSL.keep hL (fun x h1 h2 => hkq x (Nat.lt_of_lt_of_le h2 hub) h1)
        have hT := zT.kept hT (fun x h1 h2 => hk9 x h1 (fun h => h2 (Or.inl h)))
        have hU : s9.heap.size ≤ H.size := hS.1
        have hub : ub_43 ≤ H.size := by omega
        refine W.eq (g2 := F0 m9 461 ls [.int (zI (dAll (up da (16 * 12 + (d8 - 1) * 3 + t9) z_41) 16 d8))]) rfl ?_
        rw [show 16 * 12 + (d8 - 1) * 3 + t9 = 192 + ((d8 - 1) * 3 + t9) by omega] at hC ⊢; have hda2 : ∀ j : Int, 0 ≤ (up da (192 + ((d8 - 1) * 3 + t9)) z_41) j ∧ (up da (192 + ((d8 - 1) * 3 + t9)) z_41) j ≤ 60 := up_bd hda ⟨by omega, by omega⟩
        refine lv_aload_n hx hb dL_act_461 rfl (lv_at hl 7 rfl) ?_
        refine lv_iload hx hb dL_act_462 (lv_at hl 1 rfl) ?_
        refine zcallGV (ci := 3) (cq := (RX3, TX3, 5)) (As := [.int (zI d8)]) (rest := [.int (zI (dAll (up da (192 + ((d8 - 1) * 3 + t9)) z_41) 16 d8))]) ⟨hx, hb, hml, hown, hts⟩ hK hQ (kX3_length l D cI cZ c1 c2 H.size s0 a n pa sp al (up co (192 + ((d8 - 1) * 3 + t9)) z_29) (up da (192 + ((d8 - 1) * 3 + t9)) z_41) M mo td wn d8 hda2 (by omega)) (cwV 1 hts gL_act_X3_length rfl rfl rfl (by decide +kernel) ⟨by first | exact Nat.le_of_ble_eq_true rfl | (show _ ≤ _; omega), Nat.le_of_ble_eq_true rfl⟩) (hL.toW hub) hL.obj hS (fun x h => Or.inr (Nat.le_trans hs0 (Nat.le_trans hU h))) rfl rfl hl.1 rfl (Nat.le_of_ble_eq_true rfl) dL_act_464 ⟨show 0 + 1 + 0 ≤ 310 from by omega, show 0 + 2 + 0 ≤ 29600 from by omega⟩ (fun v9 H locs hp9 hz9 hk9 hS => ?_)
        subst hp9
        have hk9 := fun (x : Nat) (h : x < _) => hk9 x h (Nat.not_le.mpr h)
        have hC := zgrowP hC hk9
        have hL := zSL.keep hL (fun x _ h2 => hk9 x (Nat.lt_of_lt_of_le h2 hub))
        have hT := zT.kept hT (fun x h1 _ => hk9 x h1)
        have b_44 := dAll_bd hda2 16 d8
        have hU : s9.heap.size ≤ H.size := hS.1
        have hub : ub_43 ≤ H.size := by omega
        refine W.eq (g2 := F0 m9 467 ls [.int (zI (dAll (up da (192 + ((d8 - 1) * 3 + t9)) z_41) 16 d8)), .int (zI (dAll (up da (192 + ((d8 - 1) * 3 + t9)) z_41) 16 d8))]) rfl ?_
        refine zr_icmp_neF (tgt := 474) hx hb rfl dL_act_467 (by decide) ?_
        refine zr_iconst hx hb dL_act_470 ?_
        refine lv_goto (tgt := 475) hx hb dL_act_471 (by decide) ?_
        rw [hQ0]
        exact vx_ret (zgret_z (z := 1) hx hb hr hlocks (zn_bool ⟨by omega, by omega⟩) (rfl) (⟨rfl, n, pa, sp, al, up co (192 + ((d8 - 1) * 3 + t9)) z_29, up da (192 + ((d8 - 1) * 3 + t9)) z_41, mb, dd, td, wn, M, mo, hI.stg (k := 192 + ((d8 - 1) * 3 + t9)) (c := z_29) (v := z_41) (by omega) ⟨by omega, by omega⟩ ⟨by omega, by omega⟩, by omega, by omega, ⟨_, _, _, _, hC⟩, hL.toW hub⟩) hS dL_act_475 (by omega) (by omega))
    · have c_32 := c_32
      refine zr_iconst hx hb dL_act_399 ?_
      refine lv_goto (tgt := 427) hx hb dL_act_400 (by decide) ?_
      refine zs_ist (i := 1) (x := 0) hx hb hQ hi_w1 hS (Or.inr (by omega)) (by decide) (by decide) (by decide) dL_act_427 (fun H locs hv9 hz9 hk9 hS => ?_)
      have hC := zkeepW hC rfl hk9 (fun h => by have := hq0 _ h; omega)
      have hL := zSL.keep hL (fun x _ h2 => hk9 x (by omega))
      have hT := zT.kept hT (fun x h1 h2 => hk9 x (fun h => h2 (by rw [h]; exact Or.inr (by omega))))
      have hi_w1 := hv9
      have hU : s9.heap.size ≤ H.size := hS.1
      refine zs_ast1 (i := t9) (v := w1) hx hb hQ (hL.cds d8 (by omega) (by omega)) hi_w1 hS (Or.inr (hL.out (by rw [(hL.2.2.1 _ (by omega) (by omega)).2]; omega)).1) (by omega) (by omega) (by decide) dL_act_428 (fun H locs hv9 hz9 hk9 hS => ?_)
      have hrcd := hL.out (x := rc d8) (by rw [(hL.2.2.1 d8 (by omega) (by omega)).2]; omega)
      obtain ⟨kd_45, rr_45, hL⟩ := zSL_setC (c := z_29) (k9 := 0) hL hU hz9 (by omega) (by omega) (by omega) (by omega) hi_w1 (zrowStg _ _) (by omega) hv9 hk9
      have hC := zkeepW hC rfl hk9 (fun h => absurd (hq0 _ h) (Nat.not_lt.mpr hrcd.1))
      have hT := zT.kept hT (fun x h1 h2 => hk9 x (fun h => h2 (Or.inr (by rw [h]; exact hrcd.1))))
      obtain ⟨ub_46, hub, hL⟩ : ∃ ub_46 : Nat, ub_46 ≤ H.size ∧ zSL D cI c1 c2 s0 ub_46 H a kd_45 ap ac am ra rc rr_45 rm n pa sp al (up co (192 + ((d8 - 1) * 3 + t9)) z_29) (up da (192 + ((d8 - 1) * 3 + t9)) 0) M mo td wn := ⟨H.size, Nat.le_refl _, hL⟩
      have hU : s9.heap.size ≤ H.size := hS.1
      have hub : ub_46 ≤ H.size := by omega
      refine lv_aload_n hx hb dL_act_429 rfl (lv_at hl 6 rfl) ?_
      refine lv_iload hx hb dL_act_430 (lv_at hl 1 rfl) ?_
      refine lv_iload hx hb dL_act_432 (lv_at hl 0 rfl) ?_
      refine lv_aload_n hx hb dL_act_434 rfl (lv_at hl 7 rfl) ?_
      refine va_get (D := D) (ci := 3) (v := .ref ac) (C := RX3) (T := TX3) (N := 5) hx hb hts hin3 hown hK hL.obj 0 rfl rfl 3 (by decide) (hts (.fieldLink RL 51 "MourningRibbonsLaw$Sim" "code" "[[[I") (by decide +kernel)) (fun _ h9 => h9) rfl dL_act_435 ?_
      refine lv_iload hx hb dL_act_438 (lv_at hl 1 rfl) ?_
      refine zs_ald2 (v := .ref (rc d8)) (i := d8) hx hb hQ hL.cod (by omega) (by omega) (by decide) rfl dL_act_440 ?_
      refine lv_iload hx hb dL_act_441 (lv_at hl 0 rfl) ?_
      refine zs_ald1 (v := .ref (rr_45 d8 t9)) (i := t9) hx hb hQ (hL.cds d8 (by omega) (by omega)) (by omega) (by omega) (by decide) rfl dL_act_443 ?_
      refine zr_iconst hx hb dL_act_444 ?_
      refine zs_ild (v := z_29) (i := 0) hx hb hQ (hL.stg d8 t9 (by omega) (by omega) (by omega) (by omega)) (by decide) (by decide) (by decide) ((if_pos rfl).trans (if_pos rfl)) dL_act_445 ?_
      refine lv_aload_n hx hb dL_act_446 rfl (lv_at hl 7 rfl) ?_
      refine va_get (D := D) (ci := 3) (v := .ref ac) (C := RX3) (T := TX3) (N := 5) hx hb hts hin3 hown hK hL.obj 0 rfl rfl 3 (by decide) (hts (.fieldLink RL 51 "MourningRibbonsLaw$Sim" "code" "[[[I") (by decide +kernel)) (fun _ h9 => h9) rfl dL_act_447 ?_
      refine lv_iload hx hb dL_act_450 (lv_at hl 1 rfl) ?_
      refine zs_ald2 (v := .ref (rc d8)) (i := d8) hx hb hQ hL.cod (by omega) (by omega) (by decide) rfl dL_act_452 ?_
      refine lv_iload hx hb dL_act_453 (lv_at hl 0 rfl) ?_
      refine zs_ald1 (v := .ref (rr_45 d8 t9)) (i := t9) hx hb hQ (hL.cds d8 (by omega) (by omega)) (by omega) (by omega) (by decide) rfl dL_act_455 ?_
      refine zr_iconst hx hb dL_act_456 ?_
      refine zs_ild (v := 0) (i := 1) hx hb hQ (hL.stg d8 t9 (by omega) (by omega) (by omega) (by omega)) (by decide) (by decide) (by decide) ((if_neg (by decide)).trans (if_pos rfl)) dL_act_457 ?_
      refine zcallV (ci := 2) (q0 := 0) (cq := (RX2, TX2, 9)) (As := [.int (zI d8), .int (zI t9), .int (zI z_29), .int (zI 0)]) (rest := []) ⟨hx, hb, hml, hown, hts⟩ hK (kX2_setStageok l D cI cZ q hN pa sp al dg co da mb dd ah wl lo n td wn hda d8 t9 z_29 0 (by omega) (by omega) (by omega) (by omega)) (cwV 4 hts gL_act_X2_setStage rfl rfl rfl (by decide +kernel) ⟨Nat.le_of_ble_eq_true rfl, Nat.le_of_ble_eq_true rfl⟩) hC hS (fun x h => Or.inl h) rfl rfl rfl hl.1 rfl (Nat.le_of_ble_eq_true rfl) dL_act_458 ⟨show 0 + 1 ≤ 310 from by omega, show 0 + 2 ≤ 29600 from by omega⟩ (fun H locs hC hS hz9 hk9 => ?_)
      have hkq := fun (x : Nat) (h1 : x < _) (h2 : s0 ≤ x) => hk9 x h1 (fun h => absurd (hq0 x h) (Nat.not_lt.mpr h2))
      have hL := zSL.keep hL (fun x h1 h2 => hkq x (Nat.lt_of_lt_of_le h2 hub) h1)
      have hT := zT.kept hT (fun x h1 h2 => hk9 x h1 (fun h => h2 (Or.inl h)))
      have hU : s9.heap.size ≤ H.size := hS.1
      have hub : ub_46 ≤ H.size := by omega
      refine W.eq (g2 := F0 m9 461 ls [.int (zI (dAll (up da (16 * 12 + (d8 - 1) * 3 + t9) 0) 16 d8))]) rfl ?_
      rw [show 16 * 12 + (d8 - 1) * 3 + t9 = 192 + ((d8 - 1) * 3 + t9) by omega] at hC ⊢; have hda2 : ∀ j : Int, 0 ≤ (up da (192 + ((d8 - 1) * 3 + t9)) 0) j ∧ (up da (192 + ((d8 - 1) * 3 + t9)) 0) j ≤ 60 := up_bd hda ⟨by omega, by omega⟩
      refine lv_aload_n hx hb dL_act_461 rfl (lv_at hl 7 rfl) ?_
      refine lv_iload hx hb dL_act_462 (lv_at hl 1 rfl) ?_
      refine zcallGV (ci := 3) (cq := (RX3, TX3, 5)) (As := [.int (zI d8)]) (rest := [.int (zI (dAll (up da (192 + ((d8 - 1) * 3 + t9)) 0) 16 d8))]) ⟨hx, hb, hml, hown, hts⟩ hK hQ (kX3_length l D cI cZ c1 c2 H.size s0 a n pa sp al (up co (192 + ((d8 - 1) * 3 + t9)) z_29) (up da (192 + ((d8 - 1) * 3 + t9)) 0) M mo td wn d8 hda2 (by omega)) (cwV 1 hts gL_act_X3_length rfl rfl rfl (by decide +kernel) ⟨by first | exact Nat.le_of_ble_eq_true rfl | (show _ ≤ _; omega), Nat.le_of_ble_eq_true rfl⟩) (hL.toW hub) hL.obj hS (fun x h => Or.inr (Nat.le_trans hs0 (Nat.le_trans hU h))) rfl rfl hl.1 rfl (Nat.le_of_ble_eq_true rfl) dL_act_464 ⟨show 0 + 1 + 0 ≤ 310 from by omega, show 0 + 2 + 0 ≤ 29600 from by omega⟩ (fun v9 H locs hp9 hz9 hk9 hS => ?_)
      subst hp9
      have hk9 := fun (x : Nat) (h : x < _) => hk9 x h (Nat.not_le.mpr h)
      have hC := zgrowP hC hk9
      have hL := zSL.keep hL (fun x _ h2 => hk9 x (Nat.lt_of_lt_of_le h2 hub))
      have hT := zT.kept hT (fun x h1 _ => hk9 x h1)
      have b_47 := dAll_bd hda2 16 d8
      have hU : s9.heap.size ≤ H.size := hS.1
      have hub : ub_46 ≤ H.size := by omega
      refine W.eq (g2 := F0 m9 467 ls [.int (zI (dAll (up da (192 + ((d8 - 1) * 3 + t9)) 0) 16 d8)), .int (zI (dAll (up da (192 + ((d8 - 1) * 3 + t9)) 0) 16 d8))]) rfl ?_
      refine zr_icmp_neF (tgt := 474) hx hb rfl dL_act_467 (by decide) ?_
      refine zr_iconst hx hb dL_act_470 ?_
      refine lv_goto (tgt := 475) hx hb dL_act_471 (by decide) ?_
      rw [hQ0]
      exact vx_ret (zgret_z (z := 1) hx hb hr hlocks (zn_bool ⟨by omega, by omega⟩) (rfl) (⟨rfl, n, pa, sp, al, up co (192 + ((d8 - 1) * 3 + t9)) z_29, up da (192 + ((d8 - 1) * 3 + t9)) 0, mb, dd, td, wn, M, mo, hI.stg (k := 192 + ((d8 - 1) * 3 + t9)) (c := z_29) (v := 0) (by omega) ⟨by omega, by omega⟩ ⟨by omega, by omega⟩, by omega, by omega, ⟨_, _, _, _, hC⟩, hL.toW hub⟩) hS dL_act_475 (by omega) (by omega))
  have kT476 : W p0 l e9 (({ frames := 9, cells := 310, slots := 29600, locals := 158 } : Room)) s9 m9 ag9 below meth c9 H locs 0 0 Q0 (F0 m9 476 ls []) := by
    refine lv_aload_n hx hb dL_act_476 rfl (lv_at hl 5 rfl) ?_
    refine va_get (D := D) (ci := 3) (v := .ref ap) (C := RX3) (T := TX3) (N := 5) hx hb hts hin3 hown hK hL.obj 0 rfl rfl 2 (by decide) (hts (.fieldLink RL 9 "MourningRibbonsLaw$Sim" "people" "[[I") (by decide +kernel)) (fun _ h9 => h9) rfl dL_act_477 ?_
    refine lv_iload hx hb dL_act_480 (lv_at hl 2 rfl) ?_
    refine zs_ald1 (v := .ref (ra p4)) (i := p4) hx hb hQ hL.ppl (by omega) (by omega) (by have := hL.n16; omega) rfl dL_act_482 ?_
    refine zr_iconst hx hb dL_act_483 ?_
    refine zs_ild (v := al p4) (i := 2) hx hb hQ (hL.row p4 (by omega) (by omega)) (by decide) (by decide) (by decide) rfl dL_act_484 ?_
    have b_48 := hal p4
    refine zr_iconst hx hb dL_act_485 ?_
    refine zr_icmp_ne (tgt := 497) hx hb dL_act_486 (by decide) ⟨by omega, by omega⟩ ⟨by decide, by decide⟩ (fun c_49 => ?_) (fun c_49 => ?_)
    · have c_49 := c_49
      refine lv_aload_n hx hb dL_act_497 rfl (lv_at hl 4 rfl) ?_
      refine lv_iload hx hb dL_act_498 (lv_at hl 2 rfl) ?_
      refine zcallXV (ci := 2) (q0 := 0) (cq := (RX2, TX2, 9)) (As := [.int (zI p4)]) (rest := []) ⟨hx, hb, hml, hown, hts⟩ hK (kX2_diex2 l D hl0 cI cZ q hN pa sp al dg co da mb dd ah wl lo n td wn hn hal p4 (by omega) (by omega)) (cwV 1 hts gL_act_X2_die rfl rfl rfl (by decide +kernel) ⟨Nat.le_of_ble_eq_true rfl, Nat.le_of_ble_eq_true rfl⟩) hC (zT.narrow hT (fun _ h => Or.inl h)) hS (fun x h => Or.inl h) rfl rfl rfl hl.1 rfl (Nat.le_of_ble_eq_true rfl) dL_act_500 ⟨show 0 + 1 ≤ 310 from by omega, show 0 + 6 ≤ 29600 from by omega⟩ (fun ce q9 H locs hC hS hz9 hk9 hce hcv hcl => ?_)
      have hkq := fun (x : Nat) (h1 : x < _) (h2 : s0 ≤ x) => hk9 x h1 (fun h => absurd (hq0 x h) (Nat.not_lt.mpr h2))
      have hL := zSL.keep hL (fun x h1 h2 => hkq x (Nat.lt_of_lt_of_le h2 hU) h1)
      have hT := zT.kept hT (fun x h1 h2 => hk9 x h1 (fun h => h2 (Or.inl h)))
      have hU : s9.heap.size ≤ H.size := hS.1
      refine vx_catch (E := "java/lang/IllegalStateException") (name := "java/lang/IllegalStateException") hown [⟨155, 161, 164, 31⟩, ⟨232, 240, 243, 31⟩, ⟨309, 319, 322, 31⟩] ⟨497, 505, 508, 31⟩ [⟨554, 564, 567, 31⟩] (by rw [htab]; rfl) (fun z hz => Or.inl (by simp only [List.mem_cons, List.not_mem_nil, or_false] at hz; rcases hz with rfl | rfl | rfl <;> decide)) (by decide) (by decide) (hts (.classLink RL 31 "java/lang/IllegalStateException") (by decide +kernel)) (zB.at (Vm.Alike.refl _) hEx.2.2.2 _ _ (List.mem_of_getElem? (i := 4) rfl)) hce hcv hcl ?_
      refine lv_astore (lv' := [(8, .ref q9), (6, .int (zI (-9))), (5, .int (zI d5)), (4, .int (zI p4)), (3, .int (zI (n : Int))), (0, .ref (q 0)), (1, .ref a), (2, .int x)]) hx hb dL_act_508 hl (by decide) rfl (fun ls hl => ?_)
      refine zr_bipush hx hb dL_act_510 (by decide) ?_
      refine lv_istore (lv' := [(7, .int (zI (-9))), (8, .ref q9), (6, .int (zI (-9))), (5, .int (zI d5)), (4, .int (zI p4)), (3, .int (zI (n : Int))), (0, .ref (q 0)), (1, .ref a), (2, .int x)]) hx hb dL_act_512 hl (by decide) rfl (fun ls hl => ?_)
      refine lv_iload hx hb dL_act_514 (lv_at hl 0 rfl) ?_
      refine lv_iload hx hb dL_act_516 (lv_at hl 2 rfl) ?_
      refine zr_icmp_neF (tgt := 525) hx hb rfl dL_act_518 (by decide) ?_
      refine zr_iconst hx hb dL_act_521 ?_
      refine lv_goto (tgt := 526) hx hb dL_act_522 (by decide) ?_
      rw [hQ0]
      exact vx_ret (zgret_z (z := 1) hx hb hr hlocks (zn_bool ⟨by omega, by omega⟩) (rfl) (⟨rfl, n, pa, sp, al, co, da, mb, dd, td, wn, M, mo, hI, by omega, by omega, ⟨_, _, _, _, hC⟩, hL.toW hU⟩) hS dL_act_526 (by omega) (by omega))
    · have c_49 := c_49
      have hal9 : al p4 = 1 := by omega
      refine lv_aload_n hx hb dL_act_489 rfl (lv_at hl 5 rfl) ?_
      refine lv_iload hx hb dL_act_490 (lv_at hl 2 rfl) ?_
      refine zcallGV (ci := 3) (cq := (RX3, TX3, 5)) (As := [.int (zI p4)]) (rest := []) ⟨hx, hb, hml, hown, hts⟩ hK hQ (kX3_die l D cI cZ c1 c2 H.size s0 a n pa sp al co da M mo td wn p4 hpa hsp hco hda hal hmo (by omega) (hI.dieM240 (p := p4) (by omega) (by omega) hal9)) (cwV 1 hts gL_act_X3_die rfl rfl rfl (by decide +kernel) ⟨by first | exact Nat.le_of_ble_eq_true rfl | (show _ ≤ _; omega), Nat.le_of_ble_eq_true rfl⟩) (hL.toW hU) hL.obj hS (fun x h => Or.inr h) rfl rfl hl.1 rfl (Nat.le_of_ble_eq_true rfl) dL_act_492 ⟨show 0 + 291 ≤ 310 from by omega, show 0 + 29472 ≤ 29600 from by omega⟩ (fun v9 H locs hp9 hz9 hk9 hS => ?_)
      obtain ⟨rfl, kd_50, ap_50, ac_50, am_50, ra_50, rc_50, rr_50, rm_50, hL⟩ := hp9
      have hC := zkeepL hC rfl hq0 hk9
      have hT := zT.kept hT (fun x h1 h2 => hk9 x h1 (fun h => h2 (Or.inr h)))
      obtain ⟨ub_51, hub, hL⟩ : ∃ ub_51 : Nat, ub_51 ≤ H.size ∧ zSL D cI c1 c2 s0 ub_51 H a kd_50 ap_50 ac_50 am_50 ra_50 rc_50 rr_50 rm_50 n pa sp (up al p4 0) co da (fC (dP mo p4) M + fC (bP al da (dgF pa sp n p4)) n) (dieM mo M p4 (fun j => (bM co da (dgF pa sp n p4) td p4) (fI (bP al da (dgF pa sp n p4)) n j))) td wn := ⟨H.size, Nat.le_refl _, hL⟩
      have hU : s9.heap.size ≤ H.size := hS.1
      have hub : ub_51 ≤ H.size := by omega
      refine W.eq (g2 := F0 m9 495 ls [.int (zI (fC (bP al da (dgF pa sp n p4)) n : Int))]) rfl ?_
      refine lv_istore (lv' := [(6, .int (zI (fC (bP al da (dgF pa sp n p4)) n : Int))), (5, .int (zI d5)), (4, .int (zI p4)), (3, .int (zI (n : Int))), (0, .ref (q 0)), (1, .ref a), (2, .int x)]) hx hb dL_act_495 hl (by decide) rfl (fun ls hl => ?_)
      refine lv_aload_n hx hb dL_act_497 rfl (lv_at hl 4 rfl) ?_
      refine lv_iload hx hb dL_act_498 (lv_at hl 2 rfl) ?_
      refine zcallV (ci := 2) (q0 := 0) (cq := (RX2, TX2, 9)) (As := [.int (zI p4)]) (rest := []) ⟨hx, hb, hml, hown, hts⟩ hK (kX2_dieok l D cI cZ q hN pa sp al dg co da mb dd ah wl lo n td wn hn hpa hsp hal hco hda p4 (by omega) (by omega)) (cwV 1 hts gL_act_X2_die rfl rfl rfl (by decide +kernel) ⟨Nat.le_of_ble_eq_true rfl, Nat.le_of_ble_eq_true rfl⟩) hC hS (fun x h => Or.inl h) rfl rfl rfl hl.1 rfl (Nat.le_of_ble_eq_true rfl) dL_act_500 ⟨show 0 + 291 ≤ 310 from by omega, show 0 + 29472 ≤ 29600 from by omega⟩ (fun H locs hC hS hz9 hk9 => ?_)
      have hkq := fun (x : Nat) (h1 : x < _) (h2 : s0 ≤ x) => hk9 x h1 (fun h => absurd (hq0 x h) (Nat.not_lt.mpr h2))
      have hL := zSL.keep hL (fun x h1 h2 => hkq x (Nat.lt_of_lt_of_le h2 hub) h1)
      have hT := zT.kept hT (fun x h1 h2 => hk9 x h1 (fun h => h2 (Or.inl h)))
      have hU : s9.heap.size ≤ H.size := hS.1
      have hub : ub_51 ≤ H.size := by omega
      refine W.eq (g2 := F0 m9 503 ls [.int (zI (smF (wbF (up al p4 0) (cpZ da da (16 * 12 + (1 - 1) * 3 + 0) (p4 * 12 + (1 - 1) * 3 + 0) 12) (dgF pa sp n p4)) n))]) rfl ?_
      have hL := zSL_cgC hL (co' := kpF co p4) (da' := kpF da p4) (fun d t d1 d4 t0 t2 => ⟨kpF_192 co (by omega) d1 d4 t0 t2, kpF_192 da (by omega) d1 d4 t0 t2⟩)
      refine lv_istore (lv' := [(7, .int (zI (smF (wbF (up al p4 0) (cpZ da da (16 * 12 + (1 - 1) * 3 + 0) (p4 * 12 + (1 - 1) * 3 + 0) 12) (dgF pa sp n p4)) n))), (6, .int (zI (fC (bP al da (dgF pa sp n p4)) n : Int))), (5, .int (zI d5)), (4, .int (zI p4)), (3, .int (zI (n : Int))), (0, .ref (q 0)), (1, .ref a), (2, .int x)]) hx hb dL_act_503 hl (by decide) rfl (fun ls hl => ?_)
      refine lv_goto (tgt := 514) hx hb dL_act_505 (by decide) ?_
      refine lv_iload hx hb dL_act_514 (lv_at hl 0 rfl) ?_
      refine lv_iload hx hb dL_act_516 (lv_at hl 1 rfl) ?_
      refine zr_icmp_neF (tgt := 525) hx hb (hI.dieN (p := p4) (by omega) (by omega)) dL_act_518 (by decide) ?_
      refine zr_iconst hx hb dL_act_521 ?_
      refine lv_goto (tgt := 526) hx hb dL_act_522 (by decide) ?_
      rw [hQ0]
      exact vx_ret (zgret_z (z := 1) hx hb hr hlocks (zn_bool ⟨by omega, by omega⟩) (rfl) (⟨rfl, n, pa, sp, up al p4 0, cpZ co co (16 * 12 + (1 - 1) * 3 + 0) (p4 * 12 + (1 - 1) * 3 + 0) 12, cpZ da da (16 * 12 + (1 - 1) * 3 + 0) (p4 * 12 + (1 - 1) * 3 + 0) 12, bgC (up al p4 0) (cpZ da da (16 * 12 + (1 - 1) * 3 + 0) (p4 * 12 + (1 - 1) * 3 + 0) 12) (dgF pa sp n p4) (enC mb p4 16) p4 n, up dd p4 td, td, wn, fC (dP mo p4) M + fC (bP al da (dgF pa sp n p4)) n, (dieM mo M p4 (fun j => (bM co da (dgF pa sp n p4) td p4) (fI (bP al da (dgF pa sp n p4)) n j))), hI.die (p := p4) (by omega) (by omega) hal9 (by omega), by omega, by omega, ⟨_, _, _, _, hC⟩, hL.toW hub⟩) hS dL_act_526 (by omega) (by omega))
  have kT527 : W p0 l e9 (({ frames := 9, cells := 310, slots := 29600, locals := 158 } : Room)) s9 m9 ag9 below meth c9 H locs 0 0 Q0 (F0 m9 527 ls []) := by
    refine lv_aload_n hx hb dL_act_527 rfl (lv_at hl 5 rfl) ?_
    refine lv_iload hx hb dL_act_528 (lv_at hl 2 rfl) ?_
    refine lv_iload hx hb dL_act_530 (lv_at hl 1 rfl) ?_
    refine zcallGV (ci := 3) (cq := (RX3, TX3, 5)) (As := [.int (zI p4), .int (zI d5)]) (rest := []) ⟨hx, hb, hml, hown, hts⟩ hK hQ (kX3_left l D cI cZ c1 c2 H.size s0 a n pa sp al co da M mo td wn p4 d5 htd hmo (by omega) (by omega)) (cwV 2 hts gL_act_X3_left rfl rfl rfl (by decide +kernel) ⟨by first | exact Nat.le_of_ble_eq_true rfl | (show _ ≤ _; omega), Nat.le_of_ble_eq_true rfl⟩) (hL.toW hU) hL.obj hS (fun x h => Or.inr (Nat.le_trans hs0 (Nat.le_trans hU h))) rfl rfl hl.1 rfl (Nat.le_of_ble_eq_true rfl) dL_act_532 ⟨show 0 + 0 ≤ 310 from by omega, show 0 + 0 ≤ 29600 from by omega⟩ (fun v9 H locs hp9 hz9 hk9 hS => ?_)
    subst hp9
    have hk9 := fun (x : Nat) (h : x < _) => hk9 x h (Nat.not_le.mpr h)
    have hC := zgrowP hC hk9
    have hL := zSL.keep hL (fun x _ h2 => hk9 x (Nat.lt_of_lt_of_le h2 hU))
    have hT := zT.kept hT (fun x h1 _ => hk9 x h1)
    have b_52 := (show 0 ≤ lfS mo M td p4 d5 ∧ lfS mo M td p4 d5 ≤ 4000000 from lfT_bd hmo htd p4 d5 (Nat.le_refl M))
    have hU : s9.heap.size ≤ H.size := hS.1
    refine W.eq (g2 := F0 m9 535 ls [.int (zI (lfS mo M td p4 d5))]) rfl ?_
    rw [hI.left (p := p4) (d := d5) (by omega) (by omega) (by omega) (by omega)]
    have hlb := (hI.lf180 p4 d5)
    refine lv_istore (lv' := [(8, .int (zI (lf da mb dd td p4 d5))), (6, .int (zI (-9))), (5, .int (zI d5)), (4, .int (zI p4)), (3, .int (zI (n : Int))), (0, .ref (q 0)), (1, .ref a), (2, .int x)]) hx hb dL_act_535 hl (by decide) rfl (fun ls hl => ?_)
    refine lv_iload hx hb dL_act_537 (lv_at hl 0 rfl) ?_
    refine zr_if_le (tgt := 554) hx hb dL_act_539 (by decide) ⟨by omega, by omega⟩ (fun c_53 => ?_) (fun c_53 => ?_)
    · have c_53 := c_53
      refine lv_aload_n hx hb dL_act_554 rfl (lv_at hl 5 rfl) ?_
      refine lv_iload hx hb dL_act_555 (lv_at hl 3 rfl) ?_
      refine lv_iload hx hb dL_act_557 (lv_at hl 2 rfl) ?_
      refine zcallXV (ci := 2) (q0 := 0) (cq := (RX2, TX2, 9)) (As := [.int (zI p4), .int (zI d5)]) (rest := []) ⟨hx, hb, hml, hown, hts⟩ hK (kX2_releasex3 l D hl0 cI cZ q hN pa sp al dg co da mb dd ah wl lo n td wn hn hda hmb hdd htd p4 d5 (by omega) (by omega) (by omega)) (cwV 2 hts gL_act_X2_release rfl rfl rfl (by decide +kernel) ⟨Nat.le_of_ble_eq_true rfl, Nat.le_of_ble_eq_true rfl⟩) hC (zT.narrow hT (fun _ h => Or.inl h)) hS (fun x h => Or.inl h) rfl rfl rfl hl.1 rfl (Nat.le_of_ble_eq_true rfl) dL_act_559 ⟨show 0 + 1 ≤ 310 from by omega, show 0 + 6 ≤ 29600 from by omega⟩ (fun ce q9 H locs hC hS hz9 hk9 hce hcv hcl => ?_)
      have hkq := fun (x : Nat) (h1 : x < _) (h2 : s0 ≤ x) => hk9 x h1 (fun h => absurd (hq0 x h) (Nat.not_lt.mpr h2))
      have hL := zSL.keep hL (fun x h1 h2 => hkq x (Nat.lt_of_lt_of_le h2 hU) h1)
      have hT := zT.kept hT (fun x h1 h2 => hk9 x h1 (fun h => h2 (Or.inl h)))
      have hU : s9.heap.size ≤ H.size := hS.1
      refine vx_catch (E := "java/lang/IllegalStateException") (name := "java/lang/IllegalStateException") hown [⟨155, 161, 164, 31⟩, ⟨232, 240, 243, 31⟩, ⟨309, 319, 322, 31⟩, ⟨497, 505, 508, 31⟩] ⟨554, 564, 567, 31⟩ [] (by rw [htab]; rfl) (fun z hz => Or.inl (by simp only [List.mem_cons, List.not_mem_nil, or_false] at hz; rcases hz with rfl | rfl | rfl | rfl <;> decide)) (by decide) (by decide) (hts (.classLink RL 31 "java/lang/IllegalStateException") (by decide +kernel)) (zB.at (Vm.Alike.refl _) hEx.2.2.2 _ _ (List.mem_of_getElem? (i := 4) rfl)) hce hcv hcl ?_
      refine lv_astore (lv' := [(9, .ref q9), (8, .int (zI (lf da mb dd td p4 d5))), (6, .int (zI (-9))), (5, .int (zI d5)), (4, .int (zI p4)), (3, .int (zI (n : Int))), (0, .ref (q 0)), (1, .ref a), (2, .int x)]) hx hb dL_act_567 hl (by decide) rfl (fun ls hl => ?_)
      refine zr_bipush hx hb dL_act_569 (by decide) ?_
      refine lv_istore (lv' := [(7, .int (zI (-9))), (9, .ref q9), (8, .int (zI (lf da mb dd td p4 d5))), (6, .int (zI (-9))), (5, .int (zI d5)), (4, .int (zI p4)), (3, .int (zI (n : Int))), (0, .ref (q 0)), (1, .ref a), (2, .int x)]) hx hb dL_act_571 hl (by decide) rfl (fun ls hl => ?_)
      refine lv_iload hx hb dL_act_573 (lv_at hl 0 rfl) ?_
      refine lv_iload hx hb dL_act_575 (lv_at hl 3 rfl) ?_
      refine zr_icmp_neF (tgt := 584) hx hb rfl dL_act_577 (by decide) ?_
      refine zr_iconst hx hb dL_act_580 ?_
      refine lv_goto (tgt := 585) hx hb dL_act_581 (by decide) ?_
      rw [hQ0]
      exact vx_ret (zgret_z (z := 1) hx hb hr hlocks (zn_bool ⟨by omega, by omega⟩) (rfl) (⟨rfl, n, pa, sp, al, co, da, mb, dd, td, wn, M, mo, hI, by omega, by omega, ⟨_, _, _, _, hC⟩, hL.toW hU⟩) hS dL_act_585 (by omega) (by omega))
    · have c_53 := c_53
      refine lv_iload hx hb dL_act_542 (lv_at hl 0 rfl) ?_
      refine lv_istore (lv' := [(6, .int (zI (lf da mb dd td p4 d5))), (8, .int (zI (lf da mb dd td p4 d5))), (5, .int (zI d5)), (4, .int (zI p4)), (3, .int (zI (n : Int))), (0, .ref (q 0)), (1, .ref a), (2, .int x)]) hx hb dL_act_544 hl (by decide) rfl (fun ls hl => ?_)
      refine lv_aload_n hx hb dL_act_546 rfl (lv_at hl 6 rfl) ?_
      refine lv_iload hx hb dL_act_547 (lv_at hl 3 rfl) ?_
      refine lv_iload hx hb dL_act_549 (lv_at hl 2 rfl) ?_
      refine zcallGV (ci := 3) (cq := (RX3, TX3, 5)) (As := [.int (zI p4), .int (zI d5)]) (rest := []) ⟨hx, hb, hml, hown, hts⟩ hK hQ (kX3_drop l D cI cZ c1 c2 H.size s0 a n pa sp al co da M mo td wn p4 d5 hmo (⟨by omega, by omega⟩) (⟨by omega, by omega⟩)) (cwV 2 hts gL_act_X3_drop rfl rfl rfl (by decide +kernel) ⟨by first | exact Nat.le_of_ble_eq_true rfl | (show _ ≤ _; omega), Nat.le_of_ble_eq_true rfl⟩) (hL.toW hU) hL.obj hS (fun x h => Or.inr h) rfl rfl hl.1 rfl (Nat.le_of_ble_eq_true rfl) dL_act_551 ⟨show 0 + 241 ≤ 310 from by omega, show 0 + 28920 ≤ 29600 from by omega⟩ (fun v9 H locs hp9 hz9 hk9 hS => ?_)
      obtain ⟨rfl, kd_54, ap_54, ac_54, am_54, ra_54, rc_54, rr_54, rm_54, hL⟩ := hp9
      have hC := zkeepL hC rfl hq0 hk9
      have hT := zT.kept hT (fun x h1 h2 => hk9 x h1 (fun h => h2 (Or.inr h)))
      obtain ⟨ub_55, hub, hL⟩ : ∃ ub_55 : Nat, ub_55 ≤ H.size ∧ zSL D cI c1 c2 s0 ub_55 H a kd_54 ap_54 ac_54 am_54 ra_54 rc_54 rr_54 rm_54 n pa sp al co da (fC (rP mo p4 d5) M) (fun j => mo (fI (rP mo p4 d5) M j)) td wn := ⟨H.size, Nat.le_refl _, hL⟩
      have hU : s9.heap.size ≤ H.size := hS.1
      have hub : ub_55 ≤ H.size := by omega
      refine W.eq (g2 := F0 m9 554 ls []) rfl ?_
      refine lv_aload_n hx hb dL_act_554 rfl (lv_at hl 5 rfl) ?_
      refine lv_iload hx hb dL_act_555 (lv_at hl 3 rfl) ?_
      refine lv_iload hx hb dL_act_557 (lv_at hl 2 rfl) ?_
      refine zcallV (ci := 2) (q0 := 0) (cq := (RX2, TX2, 9)) (As := [.int (zI p4), .int (zI d5)]) (rest := []) ⟨hx, hb, hml, hown, hts⟩ hK (kX2_releaseok l D cI cZ q hN pa sp al dg co da mb dd ah wl lo n td wn hn hda hmb hdd htd p4 d5 (by omega) (by omega) (by omega)) (cwV 2 hts gL_act_X2_release rfl rfl rfl (by decide +kernel) ⟨Nat.le_of_ble_eq_true rfl, Nat.le_of_ble_eq_true rfl⟩) hC hS (fun x h => Or.inl h) rfl rfl rfl hl.1 rfl (Nat.le_of_ble_eq_true rfl) dL_act_559 ⟨show 0 + 241 ≤ 310 from by omega, show 0 + 28920 ≤ 29600 from by omega⟩ (fun H locs hC hS hz9 hk9 => ?_)
      have hkq := fun (x : Nat) (h1 : x < _) (h2 : s0 ≤ x) => hk9 x h1 (fun h => absurd (hq0 x h) (Nat.not_lt.mpr h2))
      have hL := zSL.keep hL (fun x h1 h2 => hkq x (Nat.lt_of_lt_of_le h2 hub) h1)
      have hT := zT.kept hT (fun x h1 h2 => hk9 x h1 (fun h => h2 (Or.inl h)))
      have hU : s9.heap.size ≤ H.size := hS.1
      have hub : ub_55 ≤ H.size := by omega
      refine W.eq (g2 := F0 m9 562 ls [.int (zI (lf da mb dd td p4 d5))]) rfl ?_
      refine lv_istore (lv' := [(7, .int (zI (lf da mb dd td p4 d5))), (6, .int (zI (lf da mb dd td p4 d5))), (8, .int (zI (lf da mb dd td p4 d5))), (5, .int (zI d5)), (4, .int (zI p4)), (3, .int (zI (n : Int))), (0, .ref (q 0)), (1, .ref a), (2, .int x)]) hx hb dL_act_562 hl (by decide) rfl (fun ls hl => ?_)
      refine lv_goto (tgt := 573) hx hb dL_act_564 (by decide) ?_
      refine lv_iload hx hb dL_act_573 (lv_at hl 0 rfl) ?_
      refine lv_iload hx hb dL_act_575 (lv_at hl 1 rfl) ?_
      refine zr_icmp_neF (tgt := 584) hx hb rfl dL_act_577 (by decide) ?_
      refine zr_iconst hx hb dL_act_580 ?_
      refine lv_goto (tgt := 585) hx hb dL_act_581 (by decide) ?_
      rw [hQ0]
      exact vx_ret (zgret_z (z := 1) hx hb hr hlocks (zn_bool ⟨by omega, by omega⟩) (rfl) (⟨rfl, n, pa, sp, al, co, da, up mb (p4 * 16 + d5) 0, dd, td, wn, fC (rP mo p4 d5) M, fun j => mo (fI (rP mo p4 d5) M j), hI.rel (p := p4) (d := d5) (by omega) (by omega) (by omega) (by omega), by omega, by omega, ⟨_, _, _, _, hC⟩, hL.toW hub⟩) hS dL_act_585 (by omega) (by omega))
  have kT586 : W p0 l e9 (({ frames := 9, cells := 310, slots := 29600, locals := 158 } : Room)) s9 m9 ag9 below meth c9 H locs 0 0 Q0 (F0 m9 586 ls []) := by
    refine zr_iconst hx hb dL_act_586 ?_
    refine lv_iload_n hx hb dL_act_587 rfl (lv_at hl 6 rfl) ?_
    refine zr_iconst hx hb dL_act_588 ?_
    refine zx_ishr hx hb dL_act_589 (fun x_56 => ?_)
    refine lv_iload_n hx hb dL_act_590 rfl (lv_at hl 6 rfl) ?_
    refine zr_bipush hx hb dL_act_591 (by decide) ?_
    refine zx_ishr hx hb dL_act_593 (fun x_57 => ?_)
    refine zr_bipush hx hb dL_act_594 (by decide) ?_
    refine zcallGS (As := [.int x_57, .int (zI 6)]) (rest := [.int x_56, .int (zI 1)]) ⟨hx, hb, hml, hown, hts⟩ hK hQ (kL_below l D cI cZ c1 c2 H.size x_57 6 (by omega)) (va_cwS 2 hts gL_act_L_below rfl rfl rfl (by decide +kernel) ⟨by first | exact Nat.le_of_ble_eq_true rfl | (show _ ≤ _; omega), Nat.le_of_ble_eq_true rfl⟩) (trivial) hS (fun _ h => h.elim) rfl hl.1 rfl (Nat.le_of_ble_eq_true rfl) dL_act_596 ⟨show 0 + 0 ≤ 310 from by omega, show 0 + 0 ≤ 29600 from by omega⟩ (fun v9 H locs hp9 hz9 hk9 hS => ?_)
    obtain ⟨z_58, rfl, h0z_58, h1z_58⟩ := hp9
    have hk9 := fun (x : Nat) (h : x < _) => hk9 x h (fun h => h)
    have hC := zgrowP hC hk9
    have hL := zSL.keep hL (fun x _ h2 => hk9 x (Nat.lt_of_lt_of_le h2 hU))
    have hT := zT.kept hT (fun x h1 _ => hk9 x h1)
    have hU : s9.heap.size ≤ H.size := hS.1
    refine W.eq (g2 := F0 m9 599 ls [.int (zI z_58), .int x_56, .int (zI 1)]) rfl ?_
    refine zr_if_ne (tgt := 607) hx hb dL_act_599 (by decide) ⟨by omega, by omega⟩ (fun c_59 => ?_) (fun c_59 => ?_)
    · have c_59 := c_59
      refine zr_bipush hx hb dL_act_607 (by decide) ?_
      refine zcallGS (As := [.int x_56, .int (zI 7)]) (rest := [.int (zI 1)]) ⟨hx, hb, hml, hown, hts⟩ hK hQ (kL_below l D cI cZ c1 c2 H.size x_56 7 (by omega)) (va_cwS 2 hts gL_act_L_below rfl rfl rfl (by decide +kernel) ⟨by first | exact Nat.le_of_ble_eq_true rfl | (show _ ≤ _; omega), Nat.le_of_ble_eq_true rfl⟩) (trivial) hS (fun _ h => h.elim) rfl hl.1 rfl (Nat.le_of_ble_eq_true rfl) dL_act_609 ⟨show 0 + 0 ≤ 310 from by omega, show 0 + 0 ≤ 29600 from by omega⟩ (fun v9 H locs hp9 hz9 hk9 hS => ?_)
      obtain ⟨z_60, rfl, h0z_60, h1z_60⟩ := hp9
      have hk9 := fun (x : Nat) (h : x < _) => hk9 x h (fun h => h)
      have hC := zgrowP hC hk9
      have hL := zSL.keep hL (fun x _ h2 => hk9 x (Nat.lt_of_lt_of_le h2 hU))
      have hT := zT.kept hT (fun x h1 _ => hk9 x h1)
      have hU : s9.heap.size ≤ H.size := hS.1
      refine W.eq (g2 := F0 m9 612 ls [.int (zI z_60), .int (zI 1)]) rfl ?_
      refine zr_iadd (v := 1 + z_60) hx hb rfl dL_act_612 ?_
      obtain ⟨dn, hdn⟩ : ∃ dn : Nat, (dn : Int) = 1 + z_60 := ⟨(1 + z_60).toNat, by omega⟩; rw [← hdn]
      refine lv_istore (lv' := [(8, .int (zI (dn : Int))), (6, .int (zI (-9))), (5, .int (zI d5)), (4, .int (zI p4)), (3, .int (zI (n : Int))), (0, .ref (q 0)), (1, .ref a), (2, .int x)]) hx hb dL_act_613 hl (by decide) rfl (fun ls hl => ?_)
      refine lv_aload_n hx hb dL_act_615 rfl (lv_at hl 5 rfl) ?_
      refine lv_iload hx hb dL_act_616 (lv_at hl 0 rfl) ?_
      refine zcallV (ci := 2) (q0 := 0) (cq := (RX2, TX2, 9)) (As := [.int (zI (dn : Int))]) (rest := []) ⟨hx, hb, hml, hown, hts⟩ hK (kX2_passok l D cI cZ q hN pa sp al dg co da mb dd ah wl lo n td wn hn hal hco hda hmb hdd htd (dn : Int) (by omega) (by omega)) (cwV 1 hts gL_act_X2_pass rfl rfl rfl (by decide +kernel) ⟨Nat.le_of_ble_eq_true rfl, Nat.le_of_ble_eq_true rfl⟩) hC hS (fun x h => Or.inl h) rfl rfl rfl hl.1 rfl (Nat.le_of_ble_eq_true rfl) dL_act_618 ⟨show 0 ≤ 310 from by omega, show 0 ≤ 29600 from by omega⟩ (fun H locs hC hS hz9 hk9 => ?_)
      have hkq := fun (x : Nat) (h1 : x < _) (h2 : s0 ≤ x) => hk9 x h1 (fun h => absurd (hq0 x h) (Nat.not_lt.mpr h2))
      have hL := zSL.keep hL (fun x h1 h2 => hkq x (Nat.lt_of_lt_of_le h2 hU) h1)
      have hT := zT.kept hT (fun x h1 h2 => hk9 x h1 (fun h => h2 (Or.inl h)))
      have hU : s9.heap.size ≤ H.size := hS.1
      refine W.eq (g2 := F0 m9 621 ls [.int (zI (smF al n - smF (cwF al co da mb dd (td + (dn : Int)) n 0) n))]) rfl ?_
      rw [hI.worn (k := dn) (by omega)] at hC
      refine lv_aload_n hx hb dL_act_621 rfl (lv_at hl 6 rfl) ?_
      refine lv_iload hx hb dL_act_622 (lv_at hl 0 rfl) ?_
      refine zcallGV (ci := 3) (cq := (RX3, TX3, 5)) (As := [.int (zI (dn : Int))]) (rest := [.int (zI (smF al n - smF (cwF al co da mb dd (td + (dn : Int)) n 0) n))]) ⟨hx, hb, hml, hown, hts⟩ hK hQ (kX3_pass l D cI cZ c1 c2 H.size s0 a n pa sp al co da M mo td wn dn htd hmo (by omega)) (cwV 1 hts gL_act_X3_pass rfl rfl rfl (by decide +kernel) ⟨by first | exact Nat.le_of_ble_eq_true rfl | (show _ ≤ _; omega), Nat.le_of_ble_eq_true rfl⟩) (hL.toW hU) hL.obj hS (fun x h => Or.inr h) rfl rfl hl.1 rfl (Nat.le_of_ble_eq_true rfl) dL_act_624 ⟨show 0 + 241 ≤ 310 from by omega, show 0 + 28920 ≤ 29600 from by omega⟩ (fun v9 H locs hp9 hz9 hk9 hS => ?_)
      obtain ⟨rfl, kd_61, ap_61, ac_61, am_61, ra_61, rc_61, rr_61, rm_61, hL⟩ := hp9
      have hC := zkeepL hC rfl hq0 hk9
      have hT := zT.kept hT (fun x h1 h2 => hk9 x h1 (fun h => h2 (Or.inr h)))
      obtain ⟨ub_62, hub, hL⟩ : ∃ ub_62 : Nat, ub_62 ≤ H.size ∧ zSL D cI c1 c2 s0 ub_62 H a kd_61 ap_61 ac_61 am_61 ra_61 rc_61 rr_61 rm_61 n pa sp al co da (fC (eP mo (td + (dn : Int))) M) (fun j => mo (fI (eP mo (td + (dn : Int))) M j)) (td + (dn : Int)) (wn + smF (icS mo M n td) dn) := ⟨H.size, Nat.le_refl _, hL⟩
      have hU : s9.heap.size ≤ H.size := hS.1
      have hub : ub_62 ≤ H.size := by omega
      refine W.eq (g2 := F0 m9 627 ls [.int (zI (icF (fun j => mo (fI (eP mo (td + (dn : Int))) M j)) (fC (eP mo (td + (dn : Int))) M) n (td + (dn : Int)))), .int (zI (smF al n - smF (cwF al co da mb dd (td + (dn : Int)) n 0) n))]) rfl ?_
      refine zr_icmp_neF (tgt := 634) hx hb (((hI.pass dn).inCol).symm) dL_act_627 (by decide) ?_
      refine zr_iconst hx hb dL_act_630 ?_
      refine lv_goto (tgt := 635) hx hb dL_act_631 (by decide) ?_
      rw [hQ0]
      exact vx_ret (zgret_z (z := 1) hx hb hr hlocks (zn_bool ⟨by omega, by omega⟩) (rfl) (⟨rfl, n, pa, sp, al, co, da, mb, dd, td + (dn : Int), wn + smF (icS mo M n td) dn, fC (eP mo (td + (dn : Int))) M, fun j => mo (fI (eP mo (td + (dn : Int))) M j), hI.pass dn, by omega, by omega, ⟨_, _, _, _, hC⟩, hL.toW hub⟩) hS dL_act_635 (by omega) (by omega))
    · have c_59 := c_59
      refine zr_bipush hx hb dL_act_602 (by decide) ?_
      refine lv_goto (tgt := 609) hx hb dL_act_604 (by decide) ?_
      refine zcallGS (As := [.int x_56, .int (zI 60)]) (rest := [.int (zI 1)]) ⟨hx, hb, hml, hown, hts⟩ hK hQ (kL_below l D cI cZ c1 c2 H.size x_56 60 (by omega)) (va_cwS 2 hts gL_act_L_below rfl rfl rfl (by decide +kernel) ⟨by first | exact Nat.le_of_ble_eq_true rfl | (show _ ≤ _; omega), Nat.le_of_ble_eq_true rfl⟩) (trivial) hS (fun _ h => h.elim) rfl hl.1 rfl (Nat.le_of_ble_eq_true rfl) dL_act_609 ⟨show 0 + 0 ≤ 310 from by omega, show 0 + 0 ≤ 29600 from by omega⟩ (fun v9 H locs hp9 hz9 hk9 hS => ?_)
      obtain ⟨z_63, rfl, h0z_63, h1z_63⟩ := hp9
      have hk9 := fun (x : Nat) (h : x < _) => hk9 x h (fun h => h)
      have hC := zgrowP hC hk9
      have hL := zSL.keep hL (fun x _ h2 => hk9 x (Nat.lt_of_lt_of_le h2 hU))
      have hT := zT.kept hT (fun x h1 _ => hk9 x h1)
      have hU : s9.heap.size ≤ H.size := hS.1
      refine W.eq (g2 := F0 m9 612 ls [.int (zI z_63), .int (zI 1)]) rfl ?_
      refine zr_iadd (v := 1 + z_63) hx hb rfl dL_act_612 ?_
      obtain ⟨dn, hdn⟩ : ∃ dn : Nat, (dn : Int) = 1 + z_63 := ⟨(1 + z_63).toNat, by omega⟩; rw [← hdn]
      refine lv_istore (lv' := [(8, .int (zI (dn : Int))), (6, .int (zI (-9))), (5, .int (zI d5)), (4, .int (zI p4)), (3, .int (zI (n : Int))), (0, .ref (q 0)), (1, .ref a), (2, .int x)]) hx hb dL_act_613 hl (by decide) rfl (fun ls hl => ?_)
      refine lv_aload_n hx hb dL_act_615 rfl (lv_at hl 5 rfl) ?_
      refine lv_iload hx hb dL_act_616 (lv_at hl 0 rfl) ?_
      refine zcallV (ci := 2) (q0 := 0) (cq := (RX2, TX2, 9)) (As := [.int (zI (dn : Int))]) (rest := []) ⟨hx, hb, hml, hown, hts⟩ hK (kX2_passok l D cI cZ q hN pa sp al dg co da mb dd ah wl lo n td wn hn hal hco hda hmb hdd htd (dn : Int) (by omega) (by omega)) (cwV 1 hts gL_act_X2_pass rfl rfl rfl (by decide +kernel) ⟨Nat.le_of_ble_eq_true rfl, Nat.le_of_ble_eq_true rfl⟩) hC hS (fun x h => Or.inl h) rfl rfl rfl hl.1 rfl (Nat.le_of_ble_eq_true rfl) dL_act_618 ⟨show 0 ≤ 310 from by omega, show 0 ≤ 29600 from by omega⟩ (fun H locs hC hS hz9 hk9 => ?_)
      have hkq := fun (x : Nat) (h1 : x < _) (h2 : s0 ≤ x) => hk9 x h1 (fun h => absurd (hq0 x h) (Nat.not_lt.mpr h2))
      have hL := zSL.keep hL (fun x h1 h2 => hkq x (Nat.lt_of_lt_of_le h2 hU) h1)
      have hT := zT.kept hT (fun x h1 h2 => hk9 x h1 (fun h => h2 (Or.inl h)))
      have hU : s9.heap.size ≤ H.size := hS.1
      refine W.eq (g2 := F0 m9 621 ls [.int (zI (smF al n - smF (cwF al co da mb dd (td + (dn : Int)) n 0) n))]) rfl ?_
      rw [hI.worn (k := dn) (by omega)] at hC
      refine lv_aload_n hx hb dL_act_621 rfl (lv_at hl 6 rfl) ?_
      refine lv_iload hx hb dL_act_622 (lv_at hl 0 rfl) ?_
      refine zcallGV (ci := 3) (cq := (RX3, TX3, 5)) (As := [.int (zI (dn : Int))]) (rest := [.int (zI (smF al n - smF (cwF al co da mb dd (td + (dn : Int)) n 0) n))]) ⟨hx, hb, hml, hown, hts⟩ hK hQ (kX3_pass l D cI cZ c1 c2 H.size s0 a n pa sp al co da M mo td wn dn htd hmo (by omega)) (cwV 1 hts gL_act_X3_pass rfl rfl rfl (by decide +kernel) ⟨by first | exact Nat.le_of_ble_eq_true rfl | (show _ ≤ _; omega), Nat.le_of_ble_eq_true rfl⟩) (hL.toW hU) hL.obj hS (fun x h => Or.inr h) rfl rfl hl.1 rfl (Nat.le_of_ble_eq_true rfl) dL_act_624 ⟨show 0 + 241 ≤ 310 from by omega, show 0 + 28920 ≤ 29600 from by omega⟩ (fun v9 H locs hp9 hz9 hk9 hS => ?_)
      obtain ⟨rfl, kd_64, ap_64, ac_64, am_64, ra_64, rc_64, rr_64, rm_64, hL⟩ := hp9
      have hC := zkeepL hC rfl hq0 hk9
      have hT := zT.kept hT (fun x h1 h2 => hk9 x h1 (fun h => h2 (Or.inr h)))
      obtain ⟨ub_65, hub, hL⟩ : ∃ ub_65 : Nat, ub_65 ≤ H.size ∧ zSL D cI c1 c2 s0 ub_65 H a kd_64 ap_64 ac_64 am_64 ra_64 rc_64 rr_64 rm_64 n pa sp al co da (fC (eP mo (td + (dn : Int))) M) (fun j => mo (fI (eP mo (td + (dn : Int))) M j)) (td + (dn : Int)) (wn + smF (icS mo M n td) dn) := ⟨H.size, Nat.le_refl _, hL⟩
      have hU : s9.heap.size ≤ H.size := hS.1
      have hub : ub_65 ≤ H.size := by omega
      refine W.eq (g2 := F0 m9 627 ls [.int (zI (icF (fun j => mo (fI (eP mo (td + (dn : Int))) M j)) (fC (eP mo (td + (dn : Int))) M) n (td + (dn : Int)))), .int (zI (smF al n - smF (cwF al co da mb dd (td + (dn : Int)) n 0) n))]) rfl ?_
      refine zr_icmp_neF (tgt := 634) hx hb (((hI.pass dn).inCol).symm) dL_act_627 (by decide) ?_
      refine zr_iconst hx hb dL_act_630 ?_
      refine lv_goto (tgt := 635) hx hb dL_act_631 (by decide) ?_
      rw [hQ0]
      exact vx_ret (zgret_z (z := 1) hx hb hr hlocks (zn_bool ⟨by omega, by omega⟩) (rfl) (⟨rfl, n, pa, sp, al, co, da, mb, dd, td + (dn : Int), wn + smF (icS mo M n td) dn, fC (eP mo (td + (dn : Int))) M, fun j => mo (fI (eP mo (td + (dn : Int))) M j), hI.pass dn, by omega, by omega, ⟨_, _, _, _, hC⟩, hL.toW hub⟩) hS dL_act_635 (by omega) (by omega))
  rcases (show z_9 = 0 ∨ z_9 = 1 ∨ z_9 = 2 ∨ z_9 = 3 ∨ z_9 = 4 ∨ z_9 = 5 ∨ z_9 = 6 ∨ z_9 = 7 ∨ z_9 = 8 ∨ z_9 = 9 ∨ z_9 = 10 ∨ z_9 = 11 ∨ 11 < z_9 by omega) with rfl | rfl | rfl | rfl | rfl | rfl | rfl | rfl | rfl | rfl | rfl | rfl | hzo
  · exact lv_tableIn (off := 61) (tgt := 120) hx hb dL_act_59 (by decide) (by decide) (by decide) (by decide) kT120
  · exact lv_tableIn (off := 124) (tgt := 183) hx hb dL_act_59 (by decide) (by decide) (by decide) (by decide) kT183
  · exact lv_tableIn (off := 124) (tgt := 183) hx hb dL_act_59 (by decide) (by decide) (by decide) (by decide) kT183
  · exact lv_tableIn (off := 124) (tgt := 183) hx hb dL_act_59 (by decide) (by decide) (by decide) (by decide) kT183
  · exact lv_tableIn (off := 203) (tgt := 262) hx hb dL_act_59 (by decide) (by decide) (by decide) (by decide) kT262
  · exact lv_tableIn (off := 203) (tgt := 262) hx hb dL_act_59 (by decide) (by decide) (by decide) (by decide) kT262
  · exact lv_tableIn (off := 282) (tgt := 341) hx hb dL_act_59 (by decide) (by decide) (by decide) (by decide) kT341
  · exact lv_tableIn (off := 282) (tgt := 341) hx hb dL_act_59 (by decide) (by decide) (by decide) (by decide) kT341
  · exact lv_tableIn (off := 282) (tgt := 341) hx hb dL_act_59 (by decide) (by decide) (by decide) (by decide) kT341
  · exact lv_tableIn (off := 417) (tgt := 476) hx hb dL_act_59 (by decide) (by decide) (by decide) (by decide) kT476
  · exact lv_tableIn (off := 417) (tgt := 476) hx hb dL_act_59 (by decide) (by decide) (by decide) (by decide) kT476
  · exact lv_tableIn (off := 468) (tgt := 527) hx hb dL_act_59 (by decide) (by decide) (by decide) (by decide) kT527
  · exact lv_tableOut (tgt := 586) hx hb dL_act_59 (Or.inr (by rw [zI_toInt ⟨by omega, by omega⟩]; omega)) (by decide) kT586
