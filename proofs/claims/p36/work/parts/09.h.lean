/-- the first k places are made, the others 0 -/
def pI (F : Int → Int) (k : Nat) : Int → Int := fun j => if j < (k : Int) then F j else 0
theorem pI_s (F : Int → Int) (k : Nat) : up (pI F k) (k : Int) (F (k : Int)) = pI F (k + 1) := by
  funext j
  unfold up pI
  by_cases e : j = (k : Int)
  · rw [if_pos e, if_pos (by omega), e]
  · rw [if_neg e]
    by_cases h : j < (k : Int)
    · exact (if_pos h).trans (if_pos (by omega)).symm
    · exact (if_neg h).trans (if_neg (by omega)).symm
theorem waW_bd {co : Int → Int} (h : ∀ j : Int, 0 ≤ co j ∧ co j ≤ 5) (pa sp al da mb dd : Int → Int) (td : Int) (n : Nat) (w j : Int) : 0 ≤ waW pa sp al co da mb dd td n w j ∧ waW pa sp al co da mb dd td n w j ≤ 5 := by
  have h1 := ca_bd h da mb dd td n j 0
  have h2 := cOn_bd h da 16 (dgF pa sp n w j) 0
  unfold waW
  split <;> omega
theorem naW_bd (da mb dd : Int → Int) (td : Int) (n : Nat) (w j : Int) : 0 ≤ naW da mb dd td n w j ∧ naW da mb dd td n w j ≤ (n : Int) := by
  have h1 := smF_bd (f := gtF (lf da mb dd td j)) (k := n) (B := 1) (gtF_01 (lf da mb dd td j))
  unfold naW
  split <;> omega
set_option maxHeartbeats 4000000 in
set_option maxRecDepth 100000 in
theorem kX3_dieW (l : Launch) (D : va_G) (cI cZ c1 c2 : ClassId) (sz : Nat) (ub0 : Nat) (hub0 : ub0 ≤ sz) (s0 : Nat) (a : Nat) (n : Nat) (pa : Int → Int) (sp : Int → Int) (al : Int → Int) (co : Int → Int) (da : Int → Int) (M : Nat) (mo : Int → Int → Int) (td : Int) (wn : Int) (d : Int) (hpa : ∀ j : Int, -1 ≤ pa j ∧ pa j ≤ 15) (hsp : ∀ j : Int, -1 ≤ sp j ∧ sp j ≤ 15) (hco : ∀ j : Int, 0 ≤ co j ∧ co j ≤ 5) (hda : ∀ j : Int, 0 ≤ da j ∧ da j ≤ 60) (hal : ∀ j : Int, 0 ≤ al j ∧ al j ≤ 1) (hmo : ∀ i j : Int, 0 ≤ i → i < (M : Int) → 0 ≤ j → j ≤ 8 → -1 ≤ mo i j ∧ mo i j ≤ 1000000) (hd : 0 ≤ d ∧ d < (n : Int)) (hM2 : fC (dP mo d) M + fC (bP al da (dgF pa sp n d)) n ≤ 240) : zG l yX3_die wsX3_die ({ frames := 2, cells := 291, slots := 29472, locals := 52 } : Room) D cI cZ c1 c2 [.ref a, .int (zI d)] sz (fun H => ∃ (kd : Nat → Int) (ap ac am : Nat) (ra rc : Int → Nat) (rr : Int → Int → Nat) (rm : Int → Nat), zSL D cI c1 c2 s0 ub0 H a kd ap ac am ra rc rr rm n pa sp al co da M mo td wn) (fun v H => v = some (.int (zI (fC (bP al da (dgF pa sp n d)) n : Int))) ∧ zSW D cI c1 c2 s0 a n pa sp (up al d 0) co da (fC (dP mo d) M + fC (bP al da (dgF pa sp n d)) n) (dieM mo M d (fun j => (bM co da (dgF pa sp n d) td d) (fI (bP al da (dgF pa sp n d)) n j))) td wn H) (fun q : Nat => (s0 ≤ q ∧ q < ub0) ∨ sz ≤ q) (291) (29472) := by
  refine Met.ofW (cc := cX3_die) (maxL := 8) (ret := (some .int)) (by decide) rfl ?_
  intro p0 e9 s9 m9 ag9 below meth c9 s₁ B hml hv
  obtain ⟨hav, hsz, hPre, hK, hQ⟩ := hv
  subst hsz
  have hx := B.exec
  have hb := B.bytes
  have hr := B.returns
  have hts := atoms_spec (ws := wsX3_die) B.pre
  have hown : s9.vm.findClass RX3 = some m9.cls := findClass_of_methodNamed B.named
  have hlocks := B.notSynchronized
  have hin3 : ∀ w ∈ u_ws RX3 TX3 5, w ∈ wsX3_die := by decide +kernel
  have hl := lv_entry ([.ref a, .int (zI d)]) (n := 8) (Nat.le_of_ble_eq_true rfl)
  have hE : entryFrame m9 ag9 8 = F0 m9 0 ((lg_sl ([.ref a, .int (zI d)]) ++ List.replicate (8 - (lg_sl ([.ref a, .int (zI d)])).length) Slot.unset).toArray) [] := by rw [hav]; exact lg_entry_eq m9 _ _
  obtain ⟨Q0, hQ0⟩ : ∃ Q0, Q0 = MQ below (zGQ (fun v H => v = some (.int (zI (fC (bP al da (dgF pa sp n d)) n : Int))) ∧ zSW D cI c1 c2 s0 a n pa sp (up al d 0) co da (fC (dP mo d) M + fC (bP al da (dgF pa sp n d)) n) (dieM mo M d (fun j => (bM co da (dgF pa sp n d) td d) (fI (bP al da (dgF pa sp n d)) n j))) td wn H) (fun q : Nat => (s0 ≤ q ∧ q < ub0) ∨ s9.heap.size ≤ q)) ag9 s9 (291) (29472) (fun q : Nat => (s0 ≤ q ∧ q < ub0) ∨ s9.heap.size ≤ q) := ⟨_, rfl⟩
  show W p0 l e9 ({ frames := 2, cells := 291, slots := 29472, locals := 52 } : Room) s9 m9 ag9 below meth c9 s9.heap [] 0 0 (MQ below (zGQ (fun v H => v = some (.int (zI (fC (bP al da (dgF pa sp n d)) n : Int))) ∧ zSW D cI c1 c2 s0 a n pa sp (up al d 0) co da (fC (dP mo d) M + fC (bP al da (dgF pa sp n d)) n) (dieM mo M d (fun j => (bM co da (dgF pa sp n d) td d) (fI (bP al da (dgF pa sp n d)) n j))) td wn H) (fun q : Nat => (s0 ≤ q ∧ q < ub0) ∨ s9.heap.size ≤ q)) ag9 s9 (291) (29472) (fun q : Nat => (s0 ≤ q ∧ q < ub0) ∨ s9.heap.size ≤ q)) _
  rw [hE, ← hQ0]
  have hS : va_S (fun q : Nat => (s0 ≤ q ∧ q < ub0) ∨ s9.heap.size ≤ q) s9.heap s9.heap [] := va_S.rf
  have hU : s9.heap.size ≤ s9.heap.size := Nat.le_refl _
  generalize (lg_sl ([.ref a, .int (zI d)]) ++ List.replicate (8 - (lg_sl ([.ref a, .int (zI d)])).length) Slot.unset).toArray = ls at hl ⊢
  have hl : lv_has ls 8 [(0, .ref a), (1, .int (zI d))] := hl
  obtain ⟨kd0, ap, ac, am, ra, rc, rr, rm, hL00⟩ := hPre
  have haub0 := hL00.aub
  have hrau0 := hL00.rau d (by omega) (by omega)
  obtain ⟨kd, hL⟩ : ∃ kd : Nat → Int, zSL D cI c1 c2 s0 s9.heap.size s9.heap a kd ap ac am ra rc rr rm n pa sp al co da M mo td wn := ⟨_, hL00.up hub0 hL00.s0u⟩
  have hs0 := hL.s0u
  have haub := hL.aub
  have hn9 := hL.n16
  have hM9 := hL.M240
  have hub := Nat.le_refl s9.heap.size
  have hrau := hL.rau d (by omega) (by omega)
  refine lv_aload_n hx hb dX3_die_0 rfl (lv_at hl 0 rfl) ?_
  refine lv_iload_n hx hb dX3_die_1 rfl (lv_at hl 1 rfl) ?_
  refine zcallGV (ci := 3) (cq := (RX3, TX3, 5)) (As := [.int (zI d)]) (rest := []) ⟨hx, hb, hml, hown, hts⟩ hK hQ (kX3_brought l D cI cZ c1 c2 s9.heap.size s0 a n pa sp al co da M mo td wn d hpa hsp hco hda hal (by omega)) (cwV 1 hts gX3_die_X3_brought rfl rfl rfl (by decide +kernel) ⟨by first | exact Nat.le_of_ble_eq_true rfl | (show _ ≤ _; omega), Nat.le_of_ble_eq_true rfl⟩) (hL.toW hU) hL.obj hS (fun q h => Or.inr (Nat.le_trans hU h)) rfl rfl hl.1 rfl (Nat.le_of_ble_eq_true rfl) dX3_die_2 ⟨show 0 + 50 ≤ 291 from by omega, show 0 + 552 ≤ 29472 from by omega⟩ (fun v9 H locs hp9 hz9 hk9 hS => ?_)
  obtain ⟨b1, rm1, rfl, hge_b1, hB1, hgr1⟩ := hp9
  have hk9 := fun (x : Nat) (h : x < _) => hk9 x h (Nat.not_le.mpr h)
  have hge_b1 := Nat.le_trans hU hge_b1
  have hgr1 := fun j h0 h1 => Nat.le_trans hU (hgr1 j h0 h1)
  have hL := zSL.keep hL (fun x _ h2 => hk9 x (Nat.lt_of_lt_of_le h2 hU))
  have hU : s9.heap.size ≤ H.size := hS.1
  refine W.eq (g2 := F0 m9 5 ls [.ref b1]) rfl ?_
  refine lv_astore_n (lv' := [(2, .ref b1), (0, .ref a), (1, .int (zI d))]) hx hb dX3_die_5 rfl hl (by decide) rfl (fun ls hl => ?_)
  refine zr_iconst hx hb dX3_die_6 ?_
  refine zs_newA (N' := 0) hx hb hQ hown (hts (.classLink RX3 7 "[I") (by decide +kernel)) hS (z := 0) (by omega) (by omega) (show 0 + 50 + 1 ≤ 291 from by omega) (show 0 + 552 + 0 ≤ 29472 from by omega) dX3_die_7 (fun H b0 hq_b0 hi_b0 hz9 hk9 hS => ?_)
  have hL := zSL.keep hL (fun x _ h2 => hk9 x (Nat.lt_of_lt_of_le h2 hU))
  have hB1 := zML.grow hB1 hk9
  have hge_b0 : s9.heap.size ≤ b0 := by omega
  have hU : s9.heap.size ≤ H.size := hS.1
  refine lv_astore_n (lv' := [(3, .ref b0), (2, .ref b1), (0, .ref a), (1, .int (zI d))]) hx hb dX3_die_10 rfl hl (by decide) rfl (fun ls hl => ?_)
  refine lv_aload_n hx hb dX3_die_11 rfl (lv_at hl 2 rfl) ?_
  refine va_get (D := D) (ci := 3) (v := .ref am) (C := RX3) (T := TX3) (N := 5) hx hb hts hin3 hown hK hL.obj 0 rfl rfl 4 (by decide) (hts (.fieldLink RX3 20 "MourningRibbonsLaw$Sim" "mournings" "[[I") (by decide +kernel)) (fun _ h9 => h9) rfl dX3_die_12 ?_
  refine lv_astore (lv' := [(4, .ref am), (3, .ref b0), (2, .ref b1), (0, .ref a), (1, .int (zI d))]) hx hb dX3_die_15 hl (by decide) rfl (fun ls hl => ?_)
  refine lv_aload hx hb dX3_die_17 (lv_at hl 0 rfl) ?_
  refine zs_len1 hx hb hQ hL.mou dX3_die_19 ?_
  have b_1 := hL.M240
  refine lv_istore (lv' := [(5, .int (zI (M : Int))), (4, .ref am), (3, .ref b0), (2, .ref b1), (0, .ref a), (1, .int (zI d))]) hx hb dX3_die_20 hl (by decide) rfl (fun ls hl => ?_)
  refine zr_iconst hx hb dX3_die_22 ?_
  refine lv_istore (lv' := [(6, .int (zI 0)), (5, .int (zI (M : Int))), (4, .ref am), (3, .ref b0), (2, .ref b1), (0, .ref a), (1, .int (zI d))]) hx hb dX3_die_23 hl (by decide) rfl (fun ls hl => ?_)
  have L25_2 : ∀ (kf i : Nat), i ≤ M → M - i < kf → ∀ (H : Heap) (locs : List Loc) (ls : Array Slot) (b : Nat) (rmb : Int → Nat) (cc ss : Nat), (zSL D cI c1 c2 s0 s9.heap.size H a kd ap ac am ra rc rr rm n pa sp al co da M mo td wn) → (zML cI c1 H b1 (fC (bP al da (dgF pa sp n d)) n) rm1 (fun j => (bM co da (dgF pa sp n d) td d) (fI (bP al da (dgF pa sp n d)) n j))) → (zML cI c1 H b (fC (dP mo d) i) rmb (fun j => mo (fI (dP mo d) i j))) → va_S (fun q : Nat => (s0 ≤ q ∧ q < ub0) ∨ s9.heap.size ≤ q) s9.heap H locs → lv_has ls 8 [(6, .int (zI (i : Int))), (5, .int (zI (M : Int))), (4, .ref am), (3, .ref b), (2, .ref b1), (0, .ref a), (1, .int (zI d))] → (s9.heap.size ≤ b) → (∀ j : Int, 0 ≤ j → j < ((fC (dP mo d) i : Nat) : Int) → okA kd s9.heap.size (rmb j)) → cc ≤ 51 + fC (dP mo d) i → ss ≤ 552 + tri (fC (dP mo d) i) → W p0 l e9 (({ frames := 2, cells := 291, slots := 29472, locals := 52 } : Room)) s9 m9 ag9 below meth c9 H locs cc ss Q0 (F0 m9 25 ls []) := by
    intro kf
    induction kf with
    | zero => intro i h1 h2; omega
    | succ kf ih =>
      intro i hi_i hk_i H locs ls b rmb cc ss hL hB1 hB hS hl hgb hko hcc hss
      have ih_i := ih
      clear ih
      have hU : s9.heap.size ≤ H.size := hS.1
      refine lv_iload hx hb dX3_die_25 (lv_at hl 0 rfl) ?_
      refine lv_iload hx hb dX3_die_27 (lv_at hl 1 rfl) ?_
      refine zr_icmp_ge (tgt := 60) hx hb dX3_die_29 (by decide) ⟨by omega, by omega⟩ ⟨by omega, by omega⟩ (fun c_3 => ?_) (fun c_3 => ?_)
      · have c_3 := c_3
        have x_4 : i = M := by omega
        try rw [x_4] at hl
        try rw [x_4] at hL
        try rw [x_4] at hB1
        try rw [x_4] at hB
        try rw [x_4] at hgb
        try rw [x_4] at hko
        try rw [x_4] at hcc
        try rw [x_4] at hss
        have hL := hL
        refine lv_aload_n hx hb dX3_die_60 rfl (lv_at hl 4 rfl) ?_
        refine lv_astore (lv' := [(4, .ref b1), (6, .int (zI (M : Int))), (5, .int (zI (M : Int))), (3, .ref b), (2, .ref b1), (0, .ref a), (1, .int (zI d))]) hx hb dX3_die_61 hl (by decide) rfl (fun ls hl => ?_)
        refine lv_aload hx hb dX3_die_63 (lv_at hl 0 rfl) ?_
        refine zs_len1 hx hb hQ hB1.1 dX3_die_65 ?_
        refine lv_istore (lv' := [(5, .int (zI (fC (bP al da (dgF pa sp n d)) n : Int))), (4, .ref b1), (6, .int (zI (M : Int))), (3, .ref b), (2, .ref b1), (0, .ref a), (1, .int (zI d))]) hx hb dX3_die_66 hl (by decide) rfl (fun ls hl => ?_)
        refine zr_iconst hx hb dX3_die_68 ?_
        refine lv_istore (lv' := [(6, .int (zI 0)), (5, .int (zI (fC (bP al da (dgF pa sp n d)) n : Int))), (4, .ref b1), (3, .ref b), (2, .ref b1), (0, .ref a), (1, .int (zI d))]) hx hb dX3_die_69 hl (by decide) rfl (fun ls hl => ?_)
        have L71_5 : ∀ (kf i : Nat), i ≤ (fC (bP al da (dgF pa sp n d)) n) → (fC (bP al da (dgF pa sp n d)) n) - i < kf → ∀ (H : Heap) (locs : List Loc) (ls : Array Slot) (b : Nat) (rmb : Int → Nat) (cc ss : Nat), (zSL D cI c1 c2 s0 s9.heap.size H a kd ap ac am ra rc rr rm n pa sp al co da M mo td wn) → (zML cI c1 H b1 (fC (bP al da (dgF pa sp n d)) n) rm1 (fun j => (bM co da (dgF pa sp n d) td d) (fI (bP al da (dgF pa sp n d)) n j))) → (zML cI c1 H b (fC (dP mo d) M + i) rmb ((dieM mo M d (fun j => (bM co da (dgF pa sp n d) td d) (fI (bP al da (dgF pa sp n d)) n j))))) → va_S (fun q : Nat => (s0 ≤ q ∧ q < ub0) ∨ s9.heap.size ≤ q) s9.heap H locs → lv_has ls 8 [(6, .int (zI (i : Int))), (5, .int (zI (fC (bP al da (dgF pa sp n d)) n : Int))), (4, .ref b1), (3, .ref b), (2, .ref b1), (0, .ref a), (1, .int (zI d))] → (s9.heap.size ≤ b) → (∀ j : Int, 0 ≤ j → j < ((fC (dP mo d) M + i : Nat) : Int) → okA kd s9.heap.size (rmb j)) → cc ≤ 51 + (fC (dP mo d) M + i) → ss ≤ 552 + tri (fC (dP mo d) M + i) → W p0 l e9 (({ frames := 2, cells := 291, slots := 29472, locals := 52 } : Room)) s9 m9 ag9 below meth c9 H locs cc ss Q0 (F0 m9 71 ls []) := by
          intro kf
          induction kf with
          | zero => intro i h1 h2; omega
          | succ kf ih =>
            intro i hi_i hk_i H locs ls b rmb cc ss hL hB1 hB hS hl hgb hko hcc hss
            have ih_i := ih
            clear ih
            have hU : s9.heap.size ≤ H.size := hS.1
            refine lv_iload hx hb dX3_die_71 (lv_at hl 0 rfl) ?_
            refine lv_iload hx hb dX3_die_73 (lv_at hl 1 rfl) ?_
            refine zr_icmp_ge (tgt := 98) hx hb dX3_die_75 (by decide) ⟨by omega, by omega⟩ ⟨by omega, by omega⟩ (fun c_6 => ?_) (fun c_6 => ?_)
            · have c_6 := c_6
              have x_7 : i = (fC (bP al da (dgF pa sp n d)) n) := by omega
              try rw [x_7] at hl
              try rw [x_7] at hL
              try rw [x_7] at hB1
              try rw [x_7] at hB
              try rw [x_7] at hgb
              try rw [x_7] at hko
              try rw [x_7] at hcc
              try rw [x_7] at hss
              have htr2 := tri_240 (a := fC (dP mo d) M + fC (bP al da (dgF pa sp n d)) n) (by omega)
              refine lv_aload_n hx hb dX3_die_98 rfl (lv_at hl 5 rfl) ?_
              refine lv_aload_n hx hb dX3_die_99 rfl (lv_at hl 3 rfl) ?_
              refine zs_put (v := .ref b) (ty := (.array (.array .int))) hx hb hts hin3 hown hK hL.obj hS (Or.inl haub0) 4 (by decide) (hts (.fieldLink RX3 20 "MourningRibbonsLaw$Sim" "mournings" "[[I") (by decide +kernel)) rfl rfl (by decide +kernel) rfl rfl (Nat.le_of_ble_eq_true rfl) dX3_die_100 (fun H locs hO9 hz9 hk9 hS => ?_)
              have hb1 := hB1.1
              obtain ⟨kd2, hL⟩ := hL.mrsU hU hO9 hk9 (M' := fC (dP mo d) M + fC (bP al da (dgF pa sp n d)) n) (mo' := (dieM mo M d (fun j => (bM co da (dgF pa sp n d) td d) (fI (bP al da (dgF pa sp n d)) n j)))) (by omega) hB hgb hko
              rw [← hz9] at hL
              have hb1 := vA.kept hb1 (hk9 _ (by omega))
              obtain ⟨ub2, hub, hL⟩ : ∃ ub2 : Nat, ub2 ≤ H.size ∧ zSL D cI c1 c2 s0 ub2 H a kd2 ap ac b ra rc rr rmb n pa sp al co da (fC (dP mo d) M + fC (bP al da (dgF pa sp n d)) n) (dieM mo M d (fun j => (bM co da (dgF pa sp n d) td d) (fI (bP al da (dgF pa sp n d)) n j))) td wn := ⟨H.size, Nat.le_refl _, hL⟩
              have hU : s9.heap.size ≤ H.size := hS.1
              have hub : ub2 ≤ H.size := by omega
              refine lv_aload_n hx hb dX3_die_103 rfl (lv_at hl 5 rfl) ?_
              refine va_get (D := D) (ci := 3) (v := .ref ap) (C := RX3) (T := TX3) (N := 5) hx hb hts hin3 hown hK hL.obj 0 rfl rfl 2 (by decide) (hts (.fieldLink RX3 9 "MourningRibbonsLaw$Sim" "people" "[[I") (by decide +kernel)) (fun _ h9 => h9) rfl dX3_die_104 ?_
              refine lv_iload_n hx hb dX3_die_107 rfl (lv_at hl 6 rfl) ?_
              refine zs_ald1 (v := .ref (ra d)) (i := d) hx hb hQ hL.ppl (by omega) (by omega) (by have := hL.n16; omega) rfl dX3_die_108 ?_
              refine zr_iconst hx hb dX3_die_109 ?_
              refine zr_iconst hx hb dX3_die_110 ?_
              refine zs_ist (i := 2) (x := 0) hx hb hQ (hL.row d (by omega) (by omega)) hS (Or.inl hrau0) (by decide) (by decide) (by decide) dX3_die_111 (fun H locs hv9 hz9 hk9 hS => ?_)
              have hb1 := vA.kept hb1 (hk9 _ (by omega))
              have hL := zSL.prs (pa' := pa) (sp' := sp) (al' := up al d 0) (i0 := d) hL (by omega) (by omega) hv9 hk9 (fun j h0 h1 => rowP_al _ _ _ _ _ h0 h1) (fun z _ _ hz => ⟨rfl, rfl, up_n _ hz⟩)
              have hU : s9.heap.size ≤ H.size := hS.1
              have hub : ub2 ≤ H.size := by omega
              refine lv_aload_n hx hb dX3_die_112 rfl (lv_at hl 4 rfl) ?_
              refine zs_len1 hx hb hQ hb1 dX3_die_113 ?_
              rw [hQ0]
              exact zgret_i (z := (fC (bP al da (dgF pa sp n d)) n : Int)) hx hb hr hlocks (rfl) (⟨rfl, hL.toW hub⟩) hS dX3_die_114 (by omega) (by omega)
            · have c_6 := c_6
              have htr := tri_240 (a := fC (dP mo d) M + i + 1) (by omega)
              rw [tri_s] at htr
              refine lv_aload hx hb dX3_die_78 (lv_at hl 2 rfl) ?_
              refine lv_iload hx hb dX3_die_80 (lv_at hl 0 rfl) ?_
              refine zs_ald1 (v := .ref (rm1 (i : Int))) (i := (i : Int)) hx hb hQ hB1.1 (by omega) (by omega) (by omega) rfl dX3_die_82 ?_
              refine lv_astore (lv' := [(7, .ref (rm1 (i : Int))), (6, .int (zI (i : Int))), (5, .int (zI (fC (bP al da (dgF pa sp n d)) n : Int))), (4, .ref b1), (3, .ref b), (2, .ref b1), (0, .ref a), (1, .int (zI d))]) hx hb dX3_die_83 hl (by decide) rfl (fun ls hl => ?_)
              refine lv_aload_n hx hb dX3_die_85 rfl (lv_at hl 4 rfl) ?_
              refine lv_aload hx hb dX3_die_86 (lv_at hl 0 rfl) ?_
              refine zcallGS (As := [.ref b, .ref (rm1 (i : Int))]) (rest := []) ⟨hx, hb, hml, hown, hts⟩ hK hQ (kX3_more l D cI cZ c1 c2 H.size b (rm1 (i : Int)) (fC (dP mo d) M + i) rmb (by omega)) (va_cwS 2 hts gX3_die_X3_more rfl rfl rfl (by decide +kernel) ⟨by first | exact Nat.le_of_ble_eq_true rfl | (show _ ≤ _; omega), Nat.le_of_ble_eq_true rfl⟩) (⟨hB.1, fun j h0 h1 => ⟨_, _, hB.2 j h0 h1⟩, ⟨_, _, hB1.2 (i : Int) (by omega) (by omega)⟩⟩) hS (fun q h => Or.inr (Nat.le_trans hU h)) rfl hl.1 rfl (Nat.le_of_ble_eq_true rfl) dX3_die_88 ⟨show cc + 1 ≤ 291 from by omega, show ss + ((fC (dP mo d) M + i) + 1) ≤ 29472 from by omega⟩ (fun v9 H locs hp9 hz9 hk9 hS => ?_)
              obtain ⟨bn, rfl, hge_bn, hr9⟩ := hp9
              have hk9 := fun (x : Nat) (h : x < _) => hk9 x h (Nat.not_le.mpr h)
              have hge_bn := Nat.le_trans hU hge_bn
              have hL := zSL.keep hL (fun x _ h2 => hk9 x (Nat.lt_of_lt_of_le h2 hU))
              have hB1 := zML.grow hB1 hk9
              have hB := zML.grow hB hk9
              have hU : s9.heap.size ≤ H.size := hS.1
              refine W.eq (g2 := F0 m9 91 ls [.ref bn]) rfl ?_
              have hB := zML.die hB.2 (hB1.2 (i : Int) (by omega) (by omega)) hr9
              have hko := okA.cons hko (Or.inr (hgr1 (i : Int) (by omega) (by omega)))
              refine lv_astore_n (lv' := [(3, .ref bn), (7, .ref (rm1 (i : Int))), (6, .int (zI (i : Int))), (5, .int (zI (fC (bP al da (dgF pa sp n d)) n : Int))), (4, .ref b1), (2, .ref b1), (0, .ref a), (1, .int (zI d))]) hx hb dX3_die_91 rfl hl (by decide) rfl (fun ls hl => ?_)
              refine zr_iinc (v := (i : Int) + 1) (lv' := [(6, .int (zI ((i : Int) + 1))), (3, .ref bn), (7, .ref (rm1 (i : Int))), (5, .int (zI (fC (bP al da (dgF pa sp n d)) n : Int))), (4, .ref b1), (2, .ref b1), (0, .ref a), (1, .int (zI d))]) hx hb dX3_die_92 hl (k := 2) rfl rfl (by decide) rfl (fun ls hl => ?_)
              refine lv_goto (tgt := 71) hx hb dX3_die_95 (by decide) ?_
              have hl := lv_sub hl (l' := [(6, .int (zI ((i : Int) + 1))), (5, .int (zI (fC (bP al da (dgF pa sp n d)) n : Int))), (4, .ref b1), (3, .ref bn), (2, .ref b1), (0, .ref a), (1, .int (zI d))]) [0, 3, 4, 1, 5, 6, 7] rfl
              have e_8 : ((((i + 1) : Nat) : Int) : Int) = (i : Int) + 1 := by omega
              have hl : lv_has ls 8 [(6, .int (zI (((i + 1) : Nat) : Int))), (5, .int (zI (fC (bP al da (dgF pa sp n d)) n : Int))), (4, .ref b1), (3, .ref bn), (2, .ref b1), (0, .ref a), (1, .int (zI d))] := by rw [e_8]; exact hl
              exact ih_i (i + 1) (by omega) (by omega) _ _ _ bn (fun j => if j = ((fC (dP mo d) M + i : Nat) : Int) then rm1 (i : Int) else rmb j) _ _ hL hB1 hB hS hl hge_bn hko (by omega) (by rw [show fC (dP mo d) M + (i + 1) = fC (dP mo d) M + i + 1 from rfl, tri_s]; omega)
        have hl := lv_sub hl (l' := [(6, .int (zI 0)), (5, .int (zI (fC (bP al da (dgF pa sp n d)) n : Int))), (4, .ref b1), (3, .ref b), (2, .ref b1), (0, .ref a), (1, .int (zI d))]) [0, 1, 2, 3, 4, 5, 6] rfl
        exact L71_5 ((fC (bP al da (dgF pa sp n d)) n) + 1) 0 (Nat.zero_le _) (by omega) _ _ _ b rmb _ _ hL hB1 (zML.cg hB rfl (fun j _ h1 => (dieM_lo h1).symm)) hS hl hgb hko (by omega) (by exact hss)
      · have c_3 := c_3
        have hcl := fC_le (dP mo d) i
        have htr := tri_240 (a := fC (dP mo d) i + 1) (by omega)
        rw [tri_s] at htr
        refine lv_aload hx hb dX3_die_32 (lv_at hl 2 rfl) ?_
        refine lv_iload hx hb dX3_die_34 (lv_at hl 0 rfl) ?_
        refine zs_ald1 (v := .ref (rm (i : Int))) (i := (i : Int)) hx hb hQ hL.mou (by omega) (by omega) (by have := hL.M240; omega) rfl dX3_die_36 ?_
        refine lv_astore (lv' := [(7, .ref (rm (i : Int))), (6, .int (zI (i : Int))), (5, .int (zI (M : Int))), (4, .ref am), (3, .ref b), (2, .ref b1), (0, .ref a), (1, .int (zI d))]) hx hb dX3_die_37 hl (by decide) rfl (fun ls hl => ?_)
        refine lv_aload hx hb dX3_die_39 (lv_at hl 0 rfl) ?_
        refine zr_iconst hx hb dX3_die_41 ?_
        refine zs_ild (v := mo (i : Int) 0) (i := 0) hx hb hQ (hL.mrn (i : Int) (by omega) (by omega)) (by decide) (by decide) (by decide) rfl dX3_die_42 ?_
        have b_9 := hmo (i : Int) 0 (by omega) (by omega) (by decide) (by decide)
        refine lv_iload_n hx hb dX3_die_43 rfl (lv_at hl 7 rfl) ?_
        refine zr_icmp_eq (tgt := 54) hx hb dX3_die_44 (by decide) ⟨by omega, by omega⟩ ⟨by omega, by omega⟩ (fun c_10 => ?_) (fun c_10 => ?_)
        · have c_10 := c_10
          have hno : ¬ (dP mo d) (i : Int) = true := fun q => (of_decide_eq_true q) (by omega)
          refine zr_iinc (v := (i : Int) + 1) (lv' := [(6, .int (zI ((i : Int) + 1))), (7, .ref (rm (i : Int))), (5, .int (zI (M : Int))), (4, .ref am), (3, .ref b), (2, .ref b1), (0, .ref a), (1, .int (zI d))]) hx hb dX3_die_54 hl (k := 1) rfl rfl (by decide) rfl (fun ls hl => ?_)
          refine lv_goto (tgt := 25) hx hb dX3_die_57 (by decide) ?_
          have hl := lv_sub hl (l' := [(6, .int (zI ((i : Int) + 1))), (5, .int (zI (M : Int))), (4, .ref am), (3, .ref b), (2, .ref b1), (0, .ref a), (1, .int (zI d))]) [0, 2, 3, 4, 5, 6, 7] rfl
          have e_11 : ((((i + 1) : Nat) : Int) : Int) = (i : Int) + 1 := by omega
          have hl : lv_has ls 8 [(6, .int (zI (((i + 1) : Nat) : Int))), (5, .int (zI (M : Int))), (4, .ref am), (3, .ref b), (2, .ref b1), (0, .ref a), (1, .int (zI d))] := by rw [e_11]; exact hl
          exact ih_i (i + 1) (by omega) (by omega) _ _ _ b rmb _ _ hL hB1 (zML.skip hno hB) hS hl hgb (by rw [fC_n hno]; exact hko) (by rw [fC_n hno]; omega) (by rw [fC_n hno]; omega)
        · have c_10 := c_10
          have hyes : (dP mo d) (i : Int) = true := decide_eq_true (by omega)
          refine lv_aload_n hx hb dX3_die_47 rfl (lv_at hl 4 rfl) ?_
          refine lv_aload hx hb dX3_die_48 (lv_at hl 0 rfl) ?_
          refine zcallGS (As := [.ref b, .ref (rm (i : Int))]) (rest := []) ⟨hx, hb, hml, hown, hts⟩ hK hQ (kX3_more l D cI cZ c1 c2 H.size b (rm (i : Int)) (fC (dP mo d) i) rmb (by omega)) (va_cwS 2 hts gX3_die_X3_more rfl rfl rfl (by decide +kernel) ⟨by first | exact Nat.le_of_ble_eq_true rfl | (show _ ≤ _; omega), Nat.le_of_ble_eq_true rfl⟩) (⟨hB.1, fun j h0 h1 => ⟨_, _, hB.2 j h0 h1⟩, ⟨_, _, hL.mrn (i : Int) (by omega) (by omega)⟩⟩) hS (fun q h => Or.inr (Nat.le_trans hU h)) rfl hl.1 rfl (Nat.le_of_ble_eq_true rfl) dX3_die_50 ⟨show cc + 1 ≤ 291 from by omega, show ss + ((fC (dP mo d) i) + 1) ≤ 29472 from by omega⟩ (fun v9 H locs hp9 hz9 hk9 hS => ?_)
          obtain ⟨bn, rfl, hge_bn, hr9⟩ := hp9
          have hk9 := fun (x : Nat) (h : x < _) => hk9 x h (Nat.not_le.mpr h)
          have hge_bn := Nat.le_trans hU hge_bn
          have hL := zSL.keep hL (fun x _ h2 => hk9 x (Nat.lt_of_lt_of_le h2 hU))
          have hB1 := zML.grow hB1 hk9
          have hB := zML.grow hB hk9
          have hU : s9.heap.size ≤ H.size := hS.1
          refine W.eq (g2 := F0 m9 53 ls [.ref bn]) rfl ?_
          have hB := zML.cons hyes hB.2 (hL.mrn (i : Int) (by omega) (by omega)) hr9
          have hko := okA.cons hko (Or.inl (hL.2.2.2.2.1 (i : Int) (by omega) (by omega)).2)
          refine lv_astore_n (lv' := [(3, .ref bn), (7, .ref (rm (i : Int))), (6, .int (zI (i : Int))), (5, .int (zI (M : Int))), (4, .ref am), (2, .ref b1), (0, .ref a), (1, .int (zI d))]) hx hb dX3_die_53 rfl hl (by decide) rfl (fun ls hl => ?_)
          refine zr_iinc (v := (i : Int) + 1) (lv' := [(6, .int (zI ((i : Int) + 1))), (3, .ref bn), (7, .ref (rm (i : Int))), (5, .int (zI (M : Int))), (4, .ref am), (2, .ref b1), (0, .ref a), (1, .int (zI d))]) hx hb dX3_die_54 hl (k := 2) rfl rfl (by decide) rfl (fun ls hl => ?_)
          refine lv_goto (tgt := 25) hx hb dX3_die_57 (by decide) ?_
          have hl := lv_sub hl (l' := [(6, .int (zI ((i : Int) + 1))), (5, .int (zI (M : Int))), (4, .ref am), (3, .ref bn), (2, .ref b1), (0, .ref a), (1, .int (zI d))]) [0, 3, 4, 1, 5, 6, 7] rfl
          have e_12 : ((((i + 1) : Nat) : Int) : Int) = (i : Int) + 1 := by omega
          have hl : lv_has ls 8 [(6, .int (zI (((i + 1) : Nat) : Int))), (5, .int (zI (M : Int))), (4, .ref am), (3, .ref bn), (2, .ref b1), (0, .ref a), (1, .int (zI d))] := by rw [e_12]; exact hl
          exact ih_i (i + 1) (by omega) (by omega) _ _ _ bn (fun j => if j = (fC (dP mo d) i : Int) then rm (i : Int) else rmb j) _ _ hL hB1 hB hS hl hge_bn (by rw [fC_y hyes]; exact hko) (by rw [fC_y hyes]; omega) (by rw [fC_y hyes, tri_s]; omega)
  have hl := lv_sub hl (l' := [(6, .int (zI 0)), (5, .int (zI (M : Int))), (4, .ref am), (3, .ref b0), (2, .ref b1), (0, .ref a), (1, .int (zI d))]) [0, 1, 2, 3, 4, 5, 6] rfl
  exact L25_2 (M + 1) 0 (Nat.zero_le _) (by omega) _ _ _ b0 (fun _ => 0) _ _ hL hB1 (zML.nil hi_b0) hS hl hge_b0 (fun j h0 h1 => by have h1 : j < ((0 : Nat) : Int) := h1; omega) (by show _ ≤ 51 + 0; omega) (by show _ ≤ 552 + 0; omega)
set_option maxHeartbeats 4000000 in
set_option maxRecDepth 100000 in
theorem law_C {p0 : Program} {l : Launch} {e9 : Env} {s9 : State} {m9 : MethodId} {below : List Frame} {meth : Method} {c9 : Code} {b N : Nat} {xs : Nat → Int32} {D : va_G} {cI cZ c1 c2 : ClassId} {q : Nat → Nat} {s0 : Nat} {Q0 : State → Prop} (C : zCtx p0 l s9 m9 meth c9 b N xs D cI cZ c1 c2 q s0) {n : Nat} {pa sp al co da mb dd : Int → Int} {td wn : Int} {M : Nat} {mo : Int → Int → Int} (hI : zInv n pa sp al co da mb dd td M mo) (h1n : 1 ≤ n) (htd9 : td ≤ 800000) {k9 : Int} {x : Int32} {T : Int} (hT9 : td ≤ T) {H : Heap} {locs : List Loc} {ls : Array Slot} {cc ss : Nat} (hcc : cc ≤ 1190000) (hss : ss ≤ 5400000) (K : ∀ (H1 : Heap) (locs1 : List Loc) (ls1 : Array Slot), zJ D cI cZ c1 c2 q s0 s0 T H1 → va_S (fun x => s9.heap.size ≤ x) s9.heap H1 locs1 → lv_has ls1 20 [(0, .ref b), (1, .ref (q 0)), (2, .ref s0), (3, .int (zI k9)), (4, .int x)] → W p0 l e9 room_1 s9 m9 #[Value.ref b] below meth c9 H1 locs1 (cc + 293) (ss + 29504) Q0 (F0 m9 1107 ls1 [])) (hC : zJC D cI cZ q pa sp al co da mb dd n td wn H) (hL : zSW D cI c1 c2 s0 s0 n pa sp al co da M mo td wn H) (hS : va_S (fun x => s9.heap.size ≤ x) s9.heap H locs) (hl : lv_has ls 20 [(0, .ref b), (1, .ref (q 0)), (2, .ref s0), (3, .int (zI k9)), (4, .int x), (5, .long (dgC pa sp al co da mb dd n td wn)), (7, .int (zI (n : Int)))]) : W p0 l e9 room_1 s9 m9 #[Value.ref b] below meth c9 H locs cc ss Q0 (F0 m9 818 ls []) := by
  have C0 := C
  obtain ⟨⟨hx, hb, hr, hml, hlocks, hown, hl0⟩, ⟨hts, hK, hQ⟩, ⟨hX, hbl, hN260⟩, ⟨hN, hq0, hqS, hsS⟩, hT0⟩ := C
  have hbA : ¬ (fun x => s9.heap.size ≤ x) b := Nat.not_le.mpr hbl
  have hU : s9.heap.size ≤ H.size := hS.1
  obtain ⟨dg, ah, wl, lo, hC⟩ := hC
  obtain ⟨kd_1, ap_1, ac_1, am_1, ra_1, rc_1, rr_1, rm_1, hL⟩ := hL
  obtain ⟨ub_1, hub, hL⟩ : ∃ ub_1 : Nat, ub_1 ≤ H.size ∧ zSL D cI c1 c2 s0 ub_1 H s0 kd_1 ap_1 ac_1 am_1 ra_1 rc_1 rr_1 rm_1 n pa sp al co da M mo td wn := ⟨H.size, Nat.le_refl _, hL⟩
  have hs0 := hL.s0u
  have hn9 := hI.n16
  have htd9x : td ≤ 900000 := by omega
  have hpa := hI.1.1
  have hsp := hI.1.2.1
  have hal := hI.1.2.2.1
  have hco := hI.1.2.2.2.1
  have hda := hI.1.2.2.2.2.1
  have hmb := hI.1.2.2.2.2.2.1
  have hdd := hI.1.2.2.2.2.2.2.1
  have hn := hI.1.2.2.2.2.2.2.2.1
  have htd : 0 ≤ td ∧ td ≤ 1000000 := ⟨hI.1.2.2.2.2.2.2.2.2, by omega⟩
  have hco0 := hco
  refine lv_iload hx hb dL_law_818 (lv_at hl 4 rfl) ?_
  refine zr_iconst hx hb dL_law_820 ?_
  refine zx_ishr hx hb dL_law_821 (fun x_2 => ?_)
  refine lv_iload hx hb dL_law_822 (lv_at hl 6 rfl) ?_
  refine zcallGS (As := [.int x_2, .int (zI (n : Int))]) (rest := []) ⟨hx, hb, hml, hown, hts⟩ hK hQ (kL_below l D cI cZ c1 c2 H.size x_2 (n : Int) (by omega)) (va_cwS 2 hts gL_law_L_below rfl rfl rfl (by decide +kernel) ⟨by first | exact Nat.le_of_ble_eq_true rfl | (show _ ≤ _; omega), Nat.le_of_ble_eq_true rfl⟩) (trivial) hS (fun _ h => h.elim) rfl hl.1 rfl (Nat.le_of_ble_eq_true rfl) dL_law_824 ⟨show cc + 0 ≤ 1200104 from by omega, show ss + 0 ≤ 5501314 from by omega⟩ (fun v9 H locs hp9 hz9 hk9 hS => ?_)
  obtain ⟨z_3, rfl, h0z_3, h1z_3⟩ := hp9
  have hk9 := fun (x : Nat) (h : x < _) => hk9 x h (fun h => h)
  have hC := zgrowP hC hk9
  have hL := zSL.keep hL (fun x _ h2 => hk9 x (Nat.lt_of_lt_of_le h2 hub))
  have hU : s9.heap.size ≤ H.size := hS.1
  have hub : ub_1 ≤ H.size := by omega
  refine W.eq (g2 := F0 m9 827 ls [.int (zI z_3)]) rfl ?_
  obtain ⟨ww, hnm_ww⟩ : ∃ ww : Int, ww = z_3 := ⟨_, rfl⟩; rw [← hnm_ww]
  refine lv_istore (lv' := [(14, .int (zI ww)), (0, .ref b), (1, .ref (q 0)), (2, .ref s0), (3, .int (zI k9)), (4, .int x), (5, .long (dgC pa sp al co da mb dd n td wn)), (7, .int (zI (n : Int)))]) hx hb dL_law_827 hl (by decide) rfl (fun ls hl => ?_)
  have haw := hal ww
  refine lv_aload_n hx hb dL_law_829 rfl (lv_at hl 2 rfl) ?_
  refine lv_iload hx hb dL_law_830 (lv_at hl 0 rfl) ?_
  refine zcallV (ci := 2) (q0 := 0) (cq := (RX2, TX2, 9)) (As := [.int (zI ww)]) (rest := []) ⟨hx, hb, hml, hown, hts⟩ hK (kX2_isAliveok l D cI cZ q hN pa sp al dg co da mb dd ah wl lo n td wn hn hal ww (by omega)) (cwV 1 hts gL_law_X2_isAlive rfl rfl rfl (by decide +kernel) ⟨Nat.le_of_ble_eq_true rfl, Nat.le_of_ble_eq_true rfl⟩) hC hS (fun x h => hqS x h) rfl rfl rfl hl.1 rfl (Nat.le_of_ble_eq_true rfl) dL_law_832 ⟨show cc ≤ 1200104 from by omega, show ss ≤ 5501314 from by omega⟩ (fun H locs hC hS hz9 hk9 => ?_)
  have hkq := fun (x : Nat) (h1 : x < _) (h2 : s0 ≤ x) => hk9 x h1 (fun h => absurd (hq0 x h) (Nat.not_lt.mpr h2))
  have hL := zSL.keep hL (fun x h1 h2 => hkq x (Nat.lt_of_lt_of_le h2 hub) h1)
  have hU : s9.heap.size ≤ H.size := hS.1
  have hub : ub_1 ≤ H.size := by omega
  refine W.eq (g2 := F0 m9 835 ls [.int (zI (al ww))]) rfl ?_
  refine zr_if_eq (tgt := 1107) hx hb dL_law_835 (by decide) ⟨by omega, by omega⟩ (fun c_4 => ?_) (fun c_4 => ?_)
  · have c_4 := c_4
    refine W.widen (k := cc + 293) (n := ss + 29504) (by omega) (by omega) ?_
    have hl := lv_sub hl (l' := [(0, .ref b), (1, .ref (q 0)), (2, .ref s0), (3, .int (zI k9)), (4, .int x)]) [1, 2, 3, 4, 5] rfl
    exact K _ _ _ ⟨n, pa, sp, al, co, da, mb, dd, td, wn, M, mo, hI, h1n, hT9, ⟨_, _, _, _, hC⟩, hL.toW hub⟩ hS hl
  · have c_4 := c_4
    refine lv_iload hx hb dL_law_838 (lv_at hl 5 rfl) ?_
    refine zr_bipush hx hb dL_law_840 (by decide) ?_
    refine zx_ishr hx hb dL_law_842 (fun x_5 => ?_)
    refine zr_iconst hx hb dL_law_843 ?_
    refine zcallGS (As := [.int x_5, .int (zI 3)]) (rest := []) ⟨hx, hb, hml, hown, hts⟩ hK hQ (kL_below l D cI cZ c1 c2 H.size x_5 3 (by omega)) (va_cwS 2 hts gL_law_L_below rfl rfl rfl (by decide +kernel) ⟨by first | exact Nat.le_of_ble_eq_true rfl | (show _ ≤ _; omega), Nat.le_of_ble_eq_true rfl⟩) (trivial) hS (fun _ h => h.elim) rfl hl.1 rfl (Nat.le_of_ble_eq_true rfl) dL_law_844 ⟨show cc + 0 ≤ 1200104 from by omega, show ss + 0 ≤ 5501314 from by omega⟩ (fun v9 H locs hp9 hz9 hk9 hS => ?_)
    obtain ⟨z_6, rfl, h0z_6, h1z_6⟩ := hp9
    have hk9 := fun (x : Nat) (h : x < _) => hk9 x h (fun h => h)
    have hC := zgrowP hC hk9
    have hL := zSL.keep hL (fun x _ h2 => hk9 x (Nat.lt_of_lt_of_le h2 hub))
    have hU : s9.heap.size ≤ H.size := hS.1
    have hub : ub_1 ≤ H.size := by omega
    refine W.eq (g2 := F0 m9 847 ls [.int (zI z_6)]) rfl ?_
    refine zr_if_ne (tgt := 1107) hx hb dL_law_847 (by decide) ⟨by omega, by omega⟩ (fun c_7 => ?_) (fun c_7 => ?_)
    · have c_7 := c_7
      refine W.widen (k := cc + 293) (n := ss + 29504) (by omega) (by omega) ?_
      have hl := lv_sub hl (l' := [(0, .ref b), (1, .ref (q 0)), (2, .ref s0), (3, .int (zI k9)), (4, .int x)]) [1, 2, 3, 4, 5] rfl
      exact K _ _ _ ⟨n, pa, sp, al, co, da, mb, dd, td, wn, M, mo, hI, h1n, hT9, ⟨_, _, _, _, hC⟩, hL.toW hub⟩ hS hl
    · have c_7 := c_7
      have halw : al ww = 1 := by omega
      refine lv_aload_n hx hb dL_law_850 rfl (lv_at hl 2 rfl) ?_
      refine lv_iload hx hb dL_law_851 (lv_at hl 0 rfl) ?_
      refine zcallV (ci := 2) (q0 := 0) (cq := (RX2, TX2, 9)) (As := [.int (zI ww)]) (rest := []) ⟨hx, hb, hml, hown, hts⟩ hK (kX2_wouldMournok l D cI cZ q hN pa sp al dg co da mb dd ah wl lo n td wn hn hpa hsp hal hda ww (by omega) (by omega)) (cwV 1 hts gL_law_X2_wouldMourn rfl rfl rfl (by decide +kernel) ⟨Nat.le_of_ble_eq_true rfl, Nat.le_of_ble_eq_true rfl⟩) hC hS (fun x h => hqS x h) rfl rfl rfl hl.1 rfl (Nat.le_of_ble_eq_true rfl) dL_law_853 ⟨show cc ≤ 1200104 from by omega, show ss ≤ 5501314 from by omega⟩ (fun H locs hC hS hz9 hk9 => ?_)
      have hkq := fun (x : Nat) (h1 : x < _) (h2 : s0 ≤ x) => hk9 x h1 (fun h => absurd (hq0 x h) (Nat.not_lt.mpr h2))
      have hL := zSL.keep hL (fun x h1 h2 => hkq x (Nat.lt_of_lt_of_le h2 hub) h1)
      have hU : s9.heap.size ≤ H.size := hS.1
      have hub : ub_1 ≤ H.size := by omega
      refine W.eq (g2 := F0 m9 856 ls [.int (zI (smF (wbF al da (dgF pa sp n ww)) n))]) rfl ?_
      obtain ⟨dg, ah, wl, lo, hC⟩ : zJC D cI cZ q pa sp al co da mb dd n td wn H := ⟨_, _, _, _, hC⟩
      refine lv_istore (lv' := [(15, .int (zI (smF (wbF al da (dgF pa sp n ww)) n))), (14, .int (zI ww)), (0, .ref b), (1, .ref (q 0)), (2, .ref s0), (3, .int (zI k9)), (4, .int x), (5, .long (dgC pa sp al co da mb dd n td wn)), (7, .int (zI (n : Int)))]) hx hb dL_law_856 hl (by decide) rfl (fun ls hl => ?_)
      refine lv_iload hx hb dL_law_858 (lv_at hl 8 rfl) ?_
      refine zs_newI (N' := n) hx hb hQ (hts (.arrayClass .int) (by decide +kernel)) hS (z := (n : Int)) (by omega) (by omega) (show cc + 1 ≤ 1200104 from by omega) (show ss + n ≤ 5501314 from by omega) dL_law_860 (fun H wa hq_wa hi_wa hz9 hk9 hS => ?_)
      have hC := zgrowP hC hk9
      have hL := zSL.keep hL (fun x _ h2 => hk9 x (Nat.lt_of_lt_of_le h2 hub))
      have hge_wa : s9.heap.size ≤ wa := by omega
      have hU : s9.heap.size ≤ H.size := hS.1
      have hub : ub_1 ≤ H.size := by omega
      have hsw : s0 ≤ wa := by omega
      have hubw : ub_1 ≤ wa := by omega
      refine lv_astore (lv' := [(16, .ref wa), (15, .int (zI (smF (wbF al da (dgF pa sp n ww)) n))), (14, .int (zI ww)), (0, .ref b), (1, .ref (q 0)), (2, .ref s0), (3, .int (zI k9)), (4, .int x), (5, .long (dgC pa sp al co da mb dd n td wn)), (7, .int (zI (n : Int)))]) hx hb dL_law_862 hl (by decide) rfl (fun ls hl => ?_)
      refine lv_iload hx hb dL_law_864 (lv_at hl 9 rfl) ?_
      refine zs_newI (N' := n) hx hb hQ (hts (.arrayClass .int) (by decide +kernel)) hS (z := (n : Int)) (by omega) (by omega) (show cc + 1 + 1 ≤ 1200104 from by omega) (show ss + n + n ≤ 5501314 from by omega) dL_law_866 (fun H na hq_na hi_na hz9 hk9 hS => ?_)
      have hC := zgrowP hC hk9
      have hL := zSL.keep hL (fun x _ h2 => hk9 x (Nat.lt_of_lt_of_le h2 hub))
      have hi_wa := vA.grow hi_wa hk9
      have hge_na : s9.heap.size ≤ na := by omega
      have hU : s9.heap.size ≤ H.size := hS.1
      have hub : ub_1 ≤ H.size := by omega
      have hwn9 : wa < na := by omega
      refine lv_astore (lv' := [(17, .ref na), (16, .ref wa), (15, .int (zI (smF (wbF al da (dgF pa sp n ww)) n))), (14, .int (zI ww)), (0, .ref b), (1, .ref (q 0)), (2, .ref s0), (3, .int (zI k9)), (4, .int x), (5, .long (dgC pa sp al co da mb dd n td wn)), (7, .int (zI (n : Int)))]) hx hb dL_law_868 hl (by decide) rfl (fun ls hl => ?_)
      refine zr_iconst hx hb dL_law_870 ?_
      refine lv_istore (lv' := [(18, .int (zI 0)), (17, .ref na), (16, .ref wa), (15, .int (zI (smF (wbF al da (dgF pa sp n ww)) n))), (14, .int (zI ww)), (0, .ref b), (1, .ref (q 0)), (2, .ref s0), (3, .int (zI k9)), (4, .int x), (5, .long (dgC pa sp al co da mb dd n td wn)), (7, .int (zI (n : Int)))]) hx hb dL_law_871 hl (by decide) rfl (fun ls hl => ?_)
      have L873_8 : ∀ (kf i : Nat), i ≤ n → n - i < kf → ∀ (H : Heap) (locs : List Loc) (ls : Array Slot), (zJC D cI cZ q pa sp al co da mb dd n td wn H) → (zSL D cI c1 c2 s0 ub_1 H s0 kd_1 ap_1 ac_1 am_1 ra_1 rc_1 rr_1 rm_1 n pa sp al co da M mo td wn) → (iA cI H wa n (pI (waW pa sp al co da mb dd td n ww) i)) → (iA cI H na n (pI (naW da mb dd td n ww) i)) → va_S (fun x => s9.heap.size ≤ x) s9.heap H locs → lv_has ls 20 [(18, .int (zI (i : Int))), (17, .ref na), (16, .ref wa), (15, .int (zI (smF (wbF al da (dgF pa sp n ww)) n))), (14, .int (zI ww)), (0, .ref b), (1, .ref (q 0)), (2, .ref s0), (3, .int (zI k9)), (4, .int x), (5, .long (dgC pa sp al co da mb dd n td wn)), (7, .int (zI (n : Int)))] → W p0 l e9 room_1 s9 m9 #[Value.ref b] below meth c9 H locs (cc + 1 + 1) (ss + n + n) Q0 (F0 m9 873 ls []) := by
        intro kf
        induction kf with
        | zero => intro i h1 h2; omega
        | succ kf ih =>
          intro i hi_i hk_i H locs ls  hC hL hi_wa hi_na hS hl 
          have ih_i := ih
          clear ih
          have hU : s9.heap.size ≤ H.size := hS.1
          obtain ⟨dg, ah, wl, lo, hC⟩ := hC
          have hub : ub_1 ≤ H.size := by have := hi_wa.lt; omega
          refine lv_iload hx hb dL_law_873 (lv_at hl 0 rfl) ?_
          refine lv_iload hx hb dL_law_875 (lv_at hl 11 rfl) ?_
          refine zr_icmp_ge (tgt := 973) hx hb dL_law_877 (by decide) ⟨by omega, by omega⟩ ⟨by omega, by omega⟩ (fun c_9 => ?_) (fun c_9 => ?_)
          · have c_9 := c_9
            have x_10 : i = n := by omega
            try rw [x_10] at hl
            try rw [x_10] at hC
            try rw [x_10] at hL
            try rw [x_10] at hi_wa
            try rw [x_10] at hi_na
            refine lv_aload_n hx hb dL_law_973 rfl (lv_at hl 6 rfl) ?_
            refine zcallV (ci := 2) (q0 := 0) (cq := (RX2, TX2, 9)) (As := []) (rest := []) ⟨hx, hb, hml, hown, hts⟩ hK (kX2_digest l D cI cZ q hN pa sp al dg co da mb dd ah wl lo n td wn hn hco hda hmb hdd htd hpa hsp hal) (cwV 0 hts gL_law_X2_digest rfl rfl rfl (by decide +kernel) ⟨Nat.le_of_ble_eq_true rfl, Nat.le_of_ble_eq_true rfl⟩) hC hS (fun x h => hqS x h) rfl rfl rfl hl.1 rfl (Nat.le_of_ble_eq_true rfl) dL_law_974 ⟨show cc + 1 + 1 ≤ 1200104 from by omega, show ss + n + n ≤ 5501314 from by omega⟩ (fun H locs hC hS hz9 hk9 => ?_)
            have hkq := fun (x : Nat) (h1 : x < _) (h2 : s0 ≤ x) => hk9 x h1 (fun h => absurd (hq0 x h) (Nat.not_lt.mpr h2))
            have hL := zSL.keep hL (fun x h1 h2 => hkq x (Nat.lt_of_lt_of_le h2 hub) h1)
            have hi_wa := vA.kept hi_wa (hkq _ (vA.lt hi_wa) (by omega))
            have hi_na := vA.kept hi_na (hkq _ (vA.lt hi_na) (by omega))
            have hU : s9.heap.size ≤ H.size := hS.1
            have hub : ub_1 ≤ H.size := by omega
            refine W.eq (g2 := F0 m9 977 ls [.long (dgC pa sp al co da mb dd n td wn)]) rfl ?_
            obtain ⟨dg, ah, wl, lo, hC⟩ : zJC D cI cZ q pa sp al co da mb dd n td wn H := ⟨_, _, _, _, hC⟩
            refine lv_lload hx hb dL_law_977 (lv_at hl 10 rfl) ?_
            refine zr_lcmp_neF (tgt := 1005) hx hb rfl dL_law_979 dL_law_980 (by decide) ?_
            refine lv_aload_n hx hb dL_law_983 rfl (lv_at hl 6 rfl) ?_
            refine lv_iload hx hb dL_law_984 (lv_at hl 4 rfl) ?_
            refine zcallV (ci := 2) (q0 := 0) (cq := (RX2, TX2, 9)) (As := [.int (zI ww)]) (rest := []) ⟨hx, hb, hml, hown, hts⟩ hK (kX2_dieok l D cI cZ q hN pa sp al dg co da mb dd ah wl lo n td wn hn hpa hsp hal hco hda ww (by omega) (by omega)) (cwV 1 hts gL_law_X2_die rfl rfl rfl (by decide +kernel) ⟨Nat.le_of_ble_eq_true rfl, Nat.le_of_ble_eq_true rfl⟩) hC hS (fun x h => hqS x h) rfl rfl rfl hl.1 rfl (Nat.le_of_ble_eq_true rfl) dL_law_986 ⟨show cc + 1 + 1 ≤ 1200104 from by omega, show ss + n + n ≤ 5501314 from by omega⟩ (fun H locs hC hS hz9 hk9 => ?_)
            have hkq := fun (x : Nat) (h1 : x < _) (h2 : s0 ≤ x) => hk9 x h1 (fun h => absurd (hq0 x h) (Nat.not_lt.mpr h2))
            have hL := zSL.keep hL (fun x h1 h2 => hkq x (Nat.lt_of_lt_of_le h2 hub) h1)
            have hi_wa := vA.kept hi_wa (hkq _ (vA.lt hi_wa) (by omega))
            have hi_na := vA.kept hi_na (hkq _ (vA.lt hi_na) (by omega))
            have hU : s9.heap.size ≤ H.size := hS.1
            have hub : ub_1 ≤ H.size := by omega
            refine W.eq (g2 := F0 m9 989 ls [.int (zI (smF (wbF (up al ww 0) (cpZ da da (16 * 12 + (1 - 1) * 3 + 0) (ww * 12 + (1 - 1) * 3 + 0) 12) (dgF pa sp n ww)) n))]) rfl ?_
            obtain ⟨dg, ah, wl, lo, hC⟩ : zJC D cI cZ q pa sp (up al ww 0) (cpZ co co (16 * 12 + (1 - 1) * 3 + 0) (ww * 12 + (1 - 1) * 3 + 0) 12) (cpZ da da (16 * 12 + (1 - 1) * 3 + 0) (ww * 12 + (1 - 1) * 3 + 0) 12) (bgC (up al ww 0) (cpZ da da (16 * 12 + (1 - 1) * 3 + 0) (ww * 12 + (1 - 1) * 3 + 0) 12) (dgF pa sp n ww) (enC mb ww 16) ww n) (up dd ww td) n td wn H := ⟨_, _, _, _, hC⟩
            refine lv_iload hx hb dL_law_989 (lv_at hl 3 rfl) ?_
            refine zr_icmp_neF (tgt := 1005) hx hb ((hI.dieN (p := ww) (by omega) (by omega)).trans (hI.wouldN (p := ww) halw).symm) dL_law_991 (by decide) ?_
            refine lv_aload_n hx hb dL_law_994 rfl (lv_at hl 7 rfl) ?_
            refine lv_iload hx hb dL_law_995 (lv_at hl 4 rfl) ?_
            refine zcallGV (ci := 3) (cq := (RX3, TX3, 5)) (As := [.int (zI ww)]) (rest := []) ⟨hx, hb, hml, hown, hts⟩ hK hQ (kX3_dieW l D cI cZ c1 c2 H.size ub_1 hub s0 s0 n pa sp al co da M mo td wn ww hpa hsp hco hda hal (hI.moB htd9x) (by omega) (hI.dieM240 (p := ww) (by omega) (by omega) halw)) (cwV 1 hts gL_law_X3_die rfl rfl rfl (by decide +kernel) ⟨by first | exact Nat.le_of_ble_eq_true rfl | (show _ ≤ _; omega), Nat.le_of_ble_eq_true rfl⟩) (⟨_, _, _, _, _, _, _, _, hL⟩) hL.obj hS (fun x h => h.elim (fun h => Nat.le_trans hsS h.1) (fun h => Nat.le_trans hU h)) rfl rfl hl.1 rfl (Nat.le_of_ble_eq_true rfl) dL_law_997 ⟨show cc + 1 + 1 + 291 ≤ 1200104 from by omega, show ss + n + n + 29472 ≤ 5501314 from by omega⟩ (fun v9 H locs hp9 hz9 hk9 hS => ?_)
            obtain ⟨rfl, kd_11, ap_11, ac_11, am_11, ra_11, rc_11, rr_11, rm_11, hL⟩ := hp9
            have hC := zkeepL hC rfl hq0 (fun x h1 h2 => hk9 x h1 (fun h => h.elim (fun h => h2 h.1) (fun h => absurd h1 (Nat.not_lt.mpr h))))
            have hi_wa := vA.kept hi_wa (hk9 _ hi_wa.lt (fun h => by have := hi_wa.lt; omega))
            have hi_na := vA.kept hi_na (hk9 _ hi_na.lt (fun h => by have := hi_na.lt; omega))
            obtain ⟨ub_12, hub, hL⟩ : ∃ ub_12 : Nat, ub_12 ≤ H.size ∧ zSL D cI c1 c2 s0 ub_12 H s0 kd_11 ap_11 ac_11 am_11 ra_11 rc_11 rr_11 rm_11 n pa sp (up al ww 0) co da (fC (dP mo ww) M + fC (bP al da (dgF pa sp n ww)) n) (dieM mo M ww (fun j => (bM co da (dgF pa sp n ww) td ww) (fI (bP al da (dgF pa sp n ww)) n j))) td wn := ⟨H.size, Nat.le_refl _, hL⟩
            have hU : s9.heap.size ≤ H.size := hS.1
            have hub : ub_12 ≤ H.size := by omega
            refine W.eq (g2 := F0 m9 1000 ls [.int (zI (fC (bP al da (dgF pa sp n ww)) n : Int))]) rfl ?_
            refine lv_iload hx hb dL_law_1000 (lv_at hl 3 rfl) ?_
            refine zr_icmp_eqT (tgt := 1007) hx hb ((hI.wouldN (p := ww) halw).symm) dL_law_1002 (by decide) ?_
            have hL := zSL_cgC hL (co' := kpF co ww) (da' := kpF da ww) (fun d t d1 d4 t0 t2 => ⟨kpF_192 co (by omega) d1 d4 t0 t2, kpF_192 da (by omega) d1 d4 t0 t2⟩)
            have hco0 := hco
            obtain ⟨al2, co2, da2, mb2, dd2, M2, mo2, hI2, hwd, hnd, haw2, hC, hL⟩ : ∃ (al2 co2 da2 mb2 dd2 : Int → Int) (M2 : Nat) (mo2 : Int → Int → Int), zInv n pa sp al2 co2 da2 mb2 dd2 td M2 mo2 ∧ (∀ i : Int, 0 ≤ i → i < (n : Int) → ca co2 da2 mb2 dd2 td n i 0 = waW pa sp al co da mb dd td n ww i) ∧ (∀ i : Int, 0 ≤ i → i < (n : Int) → smF (gtF (lf da2 mb2 dd2 td i)) n = naW da mb dd td n ww i + nwF al da (dgF pa sp n ww) i) ∧ al2 ww = 0 ∧ zJC D cI cZ q pa sp al2 co2 da2 mb2 dd2 n td wn H ∧ zSL D cI c1 c2 s0 ub_12 H s0 kd_11 ap_11 ac_11 am_11 ra_11 rc_11 rr_11 rm_11 n pa sp al2 co2 da2 M2 mo2 td wn := ⟨_, _, _, _, _, _, _, hI.die (p := ww) (by omega) (by omega) halw (by omega), fun i h0 h1 => hI.wearD (p := ww) (by omega) (by omega) halw (by omega) h0 h1, fun i h0 h1 => hI.numD (p := ww) (by omega) (by omega) halw (by omega) h0 h1, if_pos rfl, ⟨_, _, _, _, hC⟩, hL⟩
            obtain ⟨dg, ah, wl, lo, hC⟩ := hC
            have hal2 := hI2.1.2.2.1
            have hco2 := hI2.1.2.2.2.1
            have hda2 := hI2.1.2.2.2.2.1
            have hmb2 := hI2.1.2.2.2.2.2.1
            have hdd2 := hI2.1.2.2.2.2.2.2.1
            refine zr_iconst hx hb dL_law_1007 ?_
            refine lv_istore (lv' := [(18, .int (zI 0)), (17, .ref na), (16, .ref wa), (15, .int (zI (smF (wbF al da (dgF pa sp n ww)) n))), (14, .int (zI ww)), (0, .ref b), (1, .ref (q 0)), (2, .ref s0), (3, .int (zI k9)), (4, .int x), (5, .long (dgC pa sp al co da mb dd n td wn)), (7, .int (zI (n : Int)))]) hx hb dL_law_1008 hl (by decide) rfl (fun ls hl => ?_)
            refine zr_iconst hx hb dL_law_1010 ?_
            refine lv_istore (lv' := [(19, .int (zI 0)), (18, .int (zI 0)), (17, .ref na), (16, .ref wa), (15, .int (zI (smF (wbF al da (dgF pa sp n ww)) n))), (14, .int (zI ww)), (0, .ref b), (1, .ref (q 0)), (2, .ref s0), (3, .int (zI k9)), (4, .int x), (5, .long (dgC pa sp al co da mb dd n td wn)), (7, .int (zI (n : Int)))]) hx hb dL_law_1011 hl (by decide) rfl (fun ls hl => ?_)
            have L1013_13 : ∀ (kf i : Nat), i ≤ n → n - i < kf → ∀ (H : Heap) (locs : List Loc) (ls : Array Slot), (zJC D cI cZ q pa sp al2 co2 da2 mb2 dd2 n td wn H) → (zSW D cI c1 c2 s0 s0 n pa sp al2 co2 da2 M2 mo2 td wn H) → (iA cI H wa n (pI (waW pa sp al co da mb dd td n ww) n)) → (iA cI H na n (pI (naW da mb dd td n ww) n)) → va_S (fun x => s9.heap.size ≤ x) s9.heap H locs → lv_has ls 20 [(19, .int (zI (i : Int))), (18, .int (zI (smF (nwF al da (dgF pa sp n ww)) i))), (17, .ref na), (16, .ref wa), (15, .int (zI (smF (wbF al da (dgF pa sp n ww)) n))), (14, .int (zI ww)), (0, .ref b), (1, .ref (q 0)), (2, .ref s0), (3, .int (zI k9)), (4, .int x), (5, .long (dgC pa sp al co da mb dd n td wn)), (7, .int (zI (n : Int)))] → W p0 l e9 room_1 s9 m9 #[Value.ref b] below meth c9 H locs (cc + 1 + 1 + 291) (ss + n + n + 29472) Q0 (F0 m9 1013 ls []) := by
              intro kf
              induction kf with
              | zero => intro i h1 h2; omega
              | succ kf ih =>
                intro i hi_i hk_i H locs ls  hC hL hi_wa hi_na hS hl 
                have ih_i := ih
                clear ih
                have hU : s9.heap.size ≤ H.size := hS.1
                obtain ⟨dg, ah, wl, lo, hC⟩ := hC
                obtain ⟨kd_14, ap_14, ac_14, am_14, ra_14, rc_14, rr_14, rm_14, hL⟩ := hL
                obtain ⟨ub_14, hub, hL⟩ : ∃ ub_14 : Nat, ub_14 ≤ H.size ∧ zSL D cI c1 c2 s0 ub_14 H s0 kd_14 ap_14 ac_14 am_14 ra_14 rc_14 rr_14 rm_14 n pa sp al2 co2 da2 M2 mo2 td wn := ⟨H.size, Nat.le_refl _, hL⟩
                have hs0 := hL.s0u
                refine lv_iload hx hb dL_law_1013 (lv_at hl 0 rfl) ?_
                refine lv_iload hx hb dL_law_1015 (lv_at hl 12 rfl) ?_
                refine zr_icmp_ge (tgt := 1089) hx hb dL_law_1017 (by decide) ⟨by omega, by omega⟩ ⟨by omega, by omega⟩ (fun c_15 => ?_) (fun c_15 => ?_)
                · have c_15 := c_15
                  have x_16 : i = n := by omega
                  try rw [x_16] at hl
                  try rw [x_16] at hC
                  try rw [x_16] at hL
                  try rw [x_16] at hi_wa
                  try rw [x_16] at hi_na
                  refine lv_iload hx hb dL_law_1089 (lv_at hl 1 rfl) ?_
                  refine lv_iload hx hb dL_law_1091 (lv_at hl 4 rfl) ?_
                  refine zr_icmp_neF (tgt := 1105) hx hb ((nwF_sum al da (dgF pa sp n ww) n).trans (hI.wouldN (p := ww) halw).symm) dL_law_1093 (by decide) ?_
                  refine lv_aload_n hx hb dL_law_1096 rfl (lv_at hl 7 rfl) ?_
                  refine lv_iload hx hb dL_law_1097 (lv_at hl 5 rfl) ?_
                  refine zcallV (ci := 2) (q0 := 0) (cq := (RX2, TX2, 9)) (As := [.int (zI ww)]) (rest := []) ⟨hx, hb, hml, hown, hts⟩ hK (kX2_isAliveok l D cI cZ q hN pa sp al2 dg co2 da2 mb2 dd2 ah wl lo n td wn hn hal2 ww (by omega)) (cwV 1 hts gL_law_X2_isAlive rfl rfl rfl (by decide +kernel) ⟨Nat.le_of_ble_eq_true rfl, Nat.le_of_ble_eq_true rfl⟩) hC hS (fun x h => hqS x h) rfl rfl rfl hl.1 rfl (Nat.le_of_ble_eq_true rfl) dL_law_1099 ⟨show cc + 1 + 1 + 291 ≤ 1200104 from by omega, show ss + n + n + 29472 ≤ 5501314 from by omega⟩ (fun H locs hC hS hz9 hk9 => ?_)
                  have hkq := fun (x : Nat) (h1 : x < _) (h2 : s0 ≤ x) => hk9 x h1 (fun h => absurd (hq0 x h) (Nat.not_lt.mpr h2))
                  have hL := zSL.keep hL (fun x h1 h2 => hkq x (Nat.lt_of_lt_of_le h2 hub) h1)
                  have hi_wa := vA.kept hi_wa (hkq _ (vA.lt hi_wa) (by omega))
                  have hi_na := vA.kept hi_na (hkq _ (vA.lt hi_na) (by omega))
                  have hU : s9.heap.size ≤ H.size := hS.1
                  have hub : ub_14 ≤ H.size := by omega
                  refine W.eq (g2 := F0 m9 1102 ls [.int (zI (al2 ww))]) rfl ?_
                  refine zr_if_eq (tgt := 1107) hx hb dL_law_1102 (by decide) ⟨by omega, by omega⟩ (fun c_17 => ?_) (fun c_17 => by exfalso; omega)
                  refine W.widen (k := cc + 293) (n := ss + 29504) (by omega) (by omega) ?_
                  have hl := lv_sub hl (l' := [(0, .ref b), (1, .ref (q 0)), (2, .ref s0), (3, .int (zI k9)), (4, .int x)]) [6, 7, 8, 9, 10] rfl
                  exact K _ _ _ ⟨n, pa, sp, al2, co2, da2, mb2, dd2, td, wn, M2, mo2, hI2, h1n, hT9, ⟨_, _, _, _, hC⟩, hL.toW hub⟩ hS hl
                · have c_15 := c_15
                  have hwd1 := hwd (i : Int) (by omega) (by omega)
                  have hnd1 := hnd (i : Int) (by omega) (by omega)
                  have hnw := nwF_01 al da (dgF pa sp n ww) (i : Int)
                  have hnb := naW_bd da mb dd td n ww (i : Int)
                  refine lv_aload_n hx hb dL_law_1020 rfl (lv_at hl 7 rfl) ?_
                  refine lv_iload hx hb dL_law_1021 (lv_at hl 0 rfl) ?_
                  refine zcallV (ci := 2) (q0 := 0) (cq := (RX2, TX2, 9)) (As := [.int (zI (i : Int))]) (rest := []) ⟨hx, hb, hml, hown, hts⟩ hK (kX2_colourOfok l D cI cZ q hN pa sp al2 dg co2 da2 mb2 dd2 ah wl lo n td wn hn hco2 hda2 hmb2 hdd2 htd (i : Int) (by omega)) (cwV 1 hts gL_law_X2_colourOf rfl rfl rfl (by decide +kernel) ⟨Nat.le_of_ble_eq_true rfl, Nat.le_of_ble_eq_true rfl⟩) hC hS (fun x h => hqS x h) rfl rfl rfl hl.1 rfl (Nat.le_of_ble_eq_true rfl) dL_law_1023 ⟨show cc + 1 + 1 + 291 ≤ 1200104 from by omega, show ss + n + n + 29472 ≤ 5501314 from by omega⟩ (fun H locs hC hS hz9 hk9 => ?_)
                  have hkq := fun (x : Nat) (h1 : x < _) (h2 : s0 ≤ x) => hk9 x h1 (fun h => absurd (hq0 x h) (Nat.not_lt.mpr h2))
                  have hL := zSL.keep hL (fun x h1 h2 => hkq x (Nat.lt_of_lt_of_le h2 hub) h1)
                  have hi_wa := vA.kept hi_wa (hkq _ (vA.lt hi_wa) (by omega))
                  have hi_na := vA.kept hi_na (hkq _ (vA.lt hi_na) (by omega))
                  have hU : s9.heap.size ≤ H.size := hS.1
                  have hub : ub_14 ≤ H.size := by omega
                  refine W.eq (g2 := F0 m9 1026 ls [.int (zI (ca co2 da2 mb2 dd2 td n (i : Int) 0))]) rfl ?_
                  refine lv_aload hx hb dL_law_1026 (lv_at hl 3 rfl) ?_
                  refine lv_iload hx hb dL_law_1028 (lv_at hl 0 rfl) ?_
                  refine zs_ild (v := waW pa sp al co da mb dd td n ww (i : Int)) (i := (i : Int)) hx hb hQ hi_wa (by omega) (by omega) (by omega) (if_pos (by omega)) dL_law_1030 ?_
                  have b_18 := waW_bd hco0 pa sp al da mb dd td n ww (i : Int)
                  refine zr_icmp_neF (tgt := 1064) hx hb hwd1 dL_law_1031 (by decide) ?_
                  refine lv_aload_n hx hb dL_law_1034 rfl (lv_at hl 7 rfl) ?_
                  refine lv_iload hx hb dL_law_1035 (lv_at hl 0 rfl) ?_
                  refine zcallV (ci := 2) (q0 := 0) (cq := (RX2, TX2, 9)) (As := [.int (zI (i : Int))]) (rest := []) ⟨hx, hb, hml, hown, hts⟩ hK (kX2_mourningsOfok l D cI cZ q hN pa sp al2 dg co2 da2 mb2 dd2 ah wl lo n td wn hn hda2 hmb2 hdd2 htd (i : Int) (by omega)) (cwV 1 hts gL_law_X2_mourningsOf rfl rfl rfl (by decide +kernel) ⟨Nat.le_of_ble_eq_true rfl, Nat.le_of_ble_eq_true rfl⟩) hC hS (fun x h => hqS x h) rfl rfl rfl hl.1 rfl (Nat.le_of_ble_eq_true rfl) dL_law_1037 ⟨show cc + 1 + 1 + 291 ≤ 1200104 from by omega, show ss + n + n + 29472 ≤ 5501314 from by omega⟩ (fun H locs hC hS hz9 hk9 => ?_)
                  have hkq := fun (x : Nat) (h1 : x < _) (h2 : s0 ≤ x) => hk9 x h1 (fun h => absurd (hq0 x h) (Nat.not_lt.mpr h2))
                  have hL := zSL.keep hL (fun x h1 h2 => hkq x (Nat.lt_of_lt_of_le h2 hub) h1)
                  have hi_wa := vA.kept hi_wa (hkq _ (vA.lt hi_wa) (by omega))
                  have hi_na := vA.kept hi_na (hkq _ (vA.lt hi_na) (by omega))
                  have hU : s9.heap.size ≤ H.size := hS.1
                  have hub : ub_14 ≤ H.size := by omega
                  refine W.eq (g2 := F0 m9 1040 ls [.int (zI (smF (gtF (lf da2 mb2 dd2 td (i : Int))) n))]) rfl ?_
                  refine lv_aload hx hb dL_law_1040 (lv_at hl 2 rfl) ?_
                  refine lv_iload hx hb dL_law_1042 (lv_at hl 0 rfl) ?_
                  refine zs_ild (v := naW da mb dd td n ww (i : Int)) (i := (i : Int)) hx hb hQ hi_na (by omega) (by omega) (by omega) (if_pos (by omega)) dL_law_1044 ?_
                  have b_19 := naW_bd da mb dd td n ww (i : Int)
                  refine zr_icmp_lt (tgt := 1064) hx hb dL_law_1045 (by decide) ⟨by omega, by omega⟩ ⟨by omega, by omega⟩ (fun c_20 => by exfalso; omega) (fun c_20 => ?_)
                  refine lv_aload_n hx hb dL_law_1048 rfl (lv_at hl 7 rfl) ?_
                  refine lv_iload hx hb dL_law_1049 (lv_at hl 0 rfl) ?_
                  refine zcallV (ci := 2) (q0 := 0) (cq := (RX2, TX2, 9)) (As := [.int (zI (i : Int))]) (rest := []) ⟨hx, hb, hml, hown, hts⟩ hK (kX2_mourningsOfok l D cI cZ q hN pa sp al2 dg co2 da2 mb2 dd2 ah wl lo n td wn hn hda2 hmb2 hdd2 htd (i : Int) (by omega)) (cwV 1 hts gL_law_X2_mourningsOf rfl rfl rfl (by decide +kernel) ⟨Nat.le_of_ble_eq_true rfl, Nat.le_of_ble_eq_true rfl⟩) hC hS (fun x h => hqS x h) rfl rfl rfl hl.1 rfl (Nat.le_of_ble_eq_true rfl) dL_law_1051 ⟨show cc + 1 + 1 + 291 ≤ 1200104 from by omega, show ss + n + n + 29472 ≤ 5501314 from by omega⟩ (fun H locs hC hS hz9 hk9 => ?_)
                  have hkq := fun (x : Nat) (h1 : x < _) (h2 : s0 ≤ x) => hk9 x h1 (fun h => absurd (hq0 x h) (Nat.not_lt.mpr h2))
                  have hL := zSL.keep hL (fun x h1 h2 => hkq x (Nat.lt_of_lt_of_le h2 hub) h1)
                  have hi_wa := vA.kept hi_wa (hkq _ (vA.lt hi_wa) (by omega))
                  have hi_na := vA.kept hi_na (hkq _ (vA.lt hi_na) (by omega))
                  have hU : s9.heap.size ≤ H.size := hS.1
                  have hub : ub_14 ≤ H.size := by omega
                  refine W.eq (g2 := F0 m9 1054 ls [.int (zI (smF (gtF (lf da2 mb2 dd2 td (i : Int))) n))]) rfl ?_
                  refine lv_aload hx hb dL_law_1054 (lv_at hl 2 rfl) ?_
                  refine lv_iload hx hb dL_law_1056 (lv_at hl 0 rfl) ?_
                  refine zs_ild (v := naW da mb dd td n ww (i : Int)) (i := (i : Int)) hx hb hQ hi_na (by omega) (by omega) (by omega) (if_pos (by omega)) dL_law_1058 ?_
                  have b_21 := naW_bd da mb dd td n ww (i : Int)
                  refine zr_iconst hx hb dL_law_1059 ?_
                  refine zr_iadd (v := (naW da mb dd td n ww (i : Int)) + 1) hx hb rfl dL_law_1060 ?_
                  refine zr_icmp_le (tgt := 1066) hx hb dL_law_1061 (by decide) ⟨by omega, by omega⟩ ⟨by omega, by omega⟩ (fun c_22 => ?_) (fun c_22 => by exfalso; omega)
                  refine lv_iload hx hb dL_law_1066 (lv_at hl 1 rfl) ?_
                  refine lv_aload_n hx hb dL_law_1068 rfl (lv_at hl 7 rfl) ?_
                  refine lv_iload hx hb dL_law_1069 (lv_at hl 0 rfl) ?_
                  refine zcallV (ci := 2) (q0 := 0) (cq := (RX2, TX2, 9)) (As := [.int (zI (i : Int))]) (rest := [.int (zI (smF (nwF al da (dgF pa sp n ww)) i))]) ⟨hx, hb, hml, hown, hts⟩ hK (kX2_mourningsOfok l D cI cZ q hN pa sp al2 dg co2 da2 mb2 dd2 ah wl lo n td wn hn hda2 hmb2 hdd2 htd (i : Int) (by omega)) (cwV 1 hts gL_law_X2_mourningsOf rfl rfl rfl (by decide +kernel) ⟨Nat.le_of_ble_eq_true rfl, Nat.le_of_ble_eq_true rfl⟩) hC hS (fun x h => hqS x h) rfl rfl rfl hl.1 rfl (Nat.le_of_ble_eq_true rfl) dL_law_1071 ⟨show cc + 1 + 1 + 291 ≤ 1200104 from by omega, show ss + n + n + 29472 ≤ 5501314 from by omega⟩ (fun H locs hC hS hz9 hk9 => ?_)
                  have hkq := fun (x : Nat) (h1 : x < _) (h2 : s0 ≤ x) => hk9 x h1 (fun h => absurd (hq0 x h) (Nat.not_lt.mpr h2))
                  have hL := zSL.keep hL (fun x h1 h2 => hkq x (Nat.lt_of_lt_of_le h2 hub) h1)
                  have hi_wa := vA.kept hi_wa (hkq _ (vA.lt hi_wa) (by omega))
                  have hi_na := vA.kept hi_na (hkq _ (vA.lt hi_na) (by omega))
                  have hU : s9.heap.size ≤ H.size := hS.1
                  have hub : ub_14 ≤ H.size := by omega
                  refine W.eq (g2 := F0 m9 1074 ls [.int (zI (smF (gtF (lf da2 mb2 dd2 td (i : Int))) n)), .int (zI (smF (nwF al da (dgF pa sp n ww)) i))]) rfl ?_
                  refine lv_aload hx hb dL_law_1074 (lv_at hl 2 rfl) ?_
                  refine lv_iload hx hb dL_law_1076 (lv_at hl 0 rfl) ?_
                  refine zs_ild (v := naW da mb dd td n ww (i : Int)) (i := (i : Int)) hx hb hQ hi_na (by omega) (by omega) (by omega) (if_pos (by omega)) dL_law_1078 ?_
                  have b_23 := naW_bd da mb dd td n ww (i : Int)
                  refine zr_isub (v := (smF (gtF (lf da2 mb2 dd2 td (i : Int))) n) - (naW da mb dd td n ww (i : Int))) hx hb rfl dL_law_1079 ?_
                  refine zr_iadd (v := (smF (nwF al da (dgF pa sp n ww)) i) + ((smF (gtF (lf da2 mb2 dd2 td (i : Int))) n) - (naW da mb dd td n ww (i : Int)))) hx hb rfl dL_law_1080 ?_
                  refine lv_istore (lv' := [(18, .int (zI ((smF (nwF al da (dgF pa sp n ww)) i) + ((smF (gtF (lf da2 mb2 dd2 td (i : Int))) n) - (naW da mb dd td n ww (i : Int)))))), (19, .int (zI (i : Int))), (17, .ref na), (16, .ref wa), (15, .int (zI (smF (wbF al da (dgF pa sp n ww)) n))), (14, .int (zI ww)), (0, .ref b), (1, .ref (q 0)), (2, .ref s0), (3, .int (zI k9)), (4, .int x), (5, .long (dgC pa sp al co da mb dd n td wn)), (7, .int (zI (n : Int)))]) hx hb dL_law_1081 hl (by decide) rfl (fun ls hl => ?_)
                  refine zr_iinc (v := (i : Int) + 1) (lv' := [(19, .int (zI ((i : Int) + 1))), (18, .int (zI ((smF (nwF al da (dgF pa sp n ww)) i) + ((smF (gtF (lf da2 mb2 dd2 td (i : Int))) n) - (naW da mb dd td n ww (i : Int)))))), (17, .ref na), (16, .ref wa), (15, .int (zI (smF (wbF al da (dgF pa sp n ww)) n))), (14, .int (zI ww)), (0, .ref b), (1, .ref (q 0)), (2, .ref s0), (3, .int (zI k9)), (4, .int x), (5, .long (dgC pa sp al co da mb dd n td wn)), (7, .int (zI (n : Int)))]) hx hb dL_law_1083 hl (k := 1) rfl rfl (by decide) rfl (fun ls hl => ?_)
                  refine lv_goto (tgt := 1013) hx hb dL_law_1086 (by decide) ?_
                  have hl := lv_sub hl (l' := [(19, .int (zI ((i : Int) + 1))), (18, .int (zI ((smF (nwF al da (dgF pa sp n ww)) i) + ((smF (gtF (lf da2 mb2 dd2 td (i : Int))) n) - (naW da mb dd td n ww (i : Int)))))), (17, .ref na), (16, .ref wa), (15, .int (zI (smF (wbF al da (dgF pa sp n ww)) n))), (14, .int (zI ww)), (0, .ref b), (1, .ref (q 0)), (2, .ref s0), (3, .int (zI k9)), (4, .int x), (5, .long (dgC pa sp al co da mb dd n td wn)), (7, .int (zI (n : Int)))]) [0, 1, 2, 3, 4, 5, 6, 7, 8, 9, 10, 11, 12] rfl
                  have e_24 : ((((i + 1) : Nat) : Int) : Int) = (i : Int) + 1 := by omega
                  have e_25 : (smF (nwF al da (dgF pa sp n ww)) (i + 1) : Int) = (smF (nwF al da (dgF pa sp n ww)) i) + ((smF (gtF (lf da2 mb2 dd2 td (i : Int))) n) - (naW da mb dd td n ww (i : Int))) := by rw [smF_s]; omega
                  have hl : lv_has ls 20 [(19, .int (zI (((i + 1) : Nat) : Int))), (18, .int (zI (smF (nwF al da (dgF pa sp n ww)) (i + 1)))), (17, .ref na), (16, .ref wa), (15, .int (zI (smF (wbF al da (dgF pa sp n ww)) n))), (14, .int (zI ww)), (0, .ref b), (1, .ref (q 0)), (2, .ref s0), (3, .int (zI k9)), (4, .int x), (5, .long (dgC pa sp al co da mb dd n td wn)), (7, .int (zI (n : Int)))] := by rw [e_24, e_25]; exact hl
                  exact ih_i (i + 1) (by omega) (by omega) _ _ _ (⟨_, _, _, _, hC⟩) (hL.toW hub) hi_wa hi_na hS hl 
            have hl := lv_sub hl (l' := [(19, .int (zI 0)), (18, .int (zI 0)), (17, .ref na), (16, .ref wa), (15, .int (zI (smF (wbF al da (dgF pa sp n ww)) n))), (14, .int (zI ww)), (0, .ref b), (1, .ref (q 0)), (2, .ref s0), (3, .int (zI k9)), (4, .int x), (5, .long (dgC pa sp al co da mb dd n td wn)), (7, .int (zI (n : Int)))]) [0, 1, 2, 3, 4, 5, 6, 7, 8, 9, 10, 11, 12] rfl
            have e_26 : (smF (nwF al da (dgF pa sp n ww)) 0 : Int) = 0 := rfl
            have hl : lv_has ls 20 [(19, .int (zI 0)), (18, .int (zI (smF (nwF al da (dgF pa sp n ww)) 0))), (17, .ref na), (16, .ref wa), (15, .int (zI (smF (wbF al da (dgF pa sp n ww)) n))), (14, .int (zI ww)), (0, .ref b), (1, .ref (q 0)), (2, .ref s0), (3, .int (zI k9)), (4, .int x), (5, .long (dgC pa sp al co da mb dd n td wn)), (7, .int (zI (n : Int)))] := by rw [e_26]; exact hl
            exact L1013_13 (n + 1) 0 (Nat.zero_le _) (by omega) _ _ _ (⟨_, _, _, _, hC⟩) (hL.toW hub) hi_wa hi_na hS hl 
          · have c_9 := c_9
            have hai := hal (i : Int)
            refine lv_aload hx hb dL_law_880 (lv_at hl 2 rfl) ?_
            refine lv_iload hx hb dL_law_882 (lv_at hl 0 rfl) ?_
            have J912_27 : ∀ (H : Heap) (locs : List Loc) (z : Int), zJC D cI cZ q pa sp al co da mb dd n td wn H → zSL D cI c1 c2 s0 ub_1 H s0 kd_1 ap_1 ac_1 am_1 ra_1 rc_1 rr_1 rm_1 n pa sp al co da M mo td wn → ub_1 ≤ H.size → (iA cI H wa n (pI (waW pa sp al co da mb dd td n ww) i)) → (iA cI H na n (pI (naW da mb dd td n ww) i)) → va_S (fun x => s9.heap.size ≤ x) s9.heap H locs → z = waW pa sp al co da mb dd td n ww (i : Int) → W p0 l e9 room_1 s9 m9 #[Value.ref b] below meth c9 H locs (cc + 1 + 1) (ss + n + n) Q0 (F0 m9 912 ls [(.int (zI z)), .int (zI (i : Int)), .ref wa]) := by
              intro H locs z hC hL hub hi_wa hi_na hS hz
              subst hz
              obtain ⟨dg, ah, wl, lo, hC⟩ := hC
              have hU : s9.heap.size ≤ H.size := hS.1
              refine zs_ist (i := (i : Int)) (x := waW pa sp al co da mb dd td n ww (i : Int)) hx hb hQ hi_wa hS (hge_wa) (by omega) (by omega) (by omega) dL_law_912 (fun H locs hv9 hz9 hk9 hS => ?_)
              have hC := zkeepW hC rfl hk9 (fun h => by have := hq0 _ h; omega)
              have hL := zSL.keep hL (fun x _ h2 => hk9 x (by omega))
              have hi_na := vA.kept hi_na (hk9 _ (by omega))
              have hi_wa : iA cI H wa n (pI (waW pa sp al co da mb dd td n ww) (i + 1)) := by rw [← pI_s]; exact hv9
              have hU : s9.heap.size ≤ H.size := hS.1
              have hub : ub_1 ≤ H.size := by omega
              refine lv_aload hx hb dL_law_913 (lv_at hl 1 rfl) ?_
              refine lv_iload hx hb dL_law_915 (lv_at hl 0 rfl) ?_
              have J934_28 : ∀ (H : Heap) (locs : List Loc) (z : Int), zJC D cI cZ q pa sp al co da mb dd n td wn H → zSL D cI c1 c2 s0 ub_1 H s0 kd_1 ap_1 ac_1 am_1 ra_1 rc_1 rr_1 rm_1 n pa sp al co da M mo td wn → ub_1 ≤ H.size → (iA cI H wa n (pI (waW pa sp al co da mb dd td n ww) (i + 1))) → (iA cI H na n (pI (naW da mb dd td n ww) i)) → va_S (fun x => s9.heap.size ≤ x) s9.heap H locs → z = naW da mb dd td n ww (i : Int) → W p0 l e9 room_1 s9 m9 #[Value.ref b] below meth c9 H locs (cc + 1 + 1) (ss + n + n) Q0 (F0 m9 934 ls [(.int (zI z)), .int (zI (i : Int)), .ref na]) := by
                intro H locs z hC hL hub hi_wa hi_na hS hz
                subst hz
                obtain ⟨dg, ah, wl, lo, hC⟩ := hC
                have hU : s9.heap.size ≤ H.size := hS.1
                refine zs_ist (i := (i : Int)) (x := naW da mb dd td n ww (i : Int)) hx hb hQ hi_na hS (hge_na) (by omega) (by omega) (by omega) dL_law_934 (fun H locs hv9 hz9 hk9 hS => ?_)
                have hC := zkeepW hC rfl hk9 (fun h => by have := hq0 _ h; omega)
                have hL := zSL.keep hL (fun x _ h2 => hk9 x (by omega))
                have hi_wa := vA.kept hi_wa (hk9 _ (by omega))
                have hi_na : iA cI H na n (pI (naW da mb dd td n ww) (i + 1)) := by rw [← pI_s]; exact hv9
                have hU : s9.heap.size ≤ H.size := hS.1
                have hub : ub_1 ≤ H.size := by omega
                have J967_29 : ∀ (H : Heap) (locs : List Loc), zJC D cI cZ q pa sp al co da mb dd n td wn H → zSL D cI c1 c2 s0 ub_1 H s0 kd_1 ap_1 ac_1 am_1 ra_1 rc_1 rr_1 rm_1 n pa sp al co da M mo td wn → ub_1 ≤ H.size → (iA cI H wa n (pI (waW pa sp al co da mb dd td n ww) (i + 1))) → (iA cI H na n (pI (naW da mb dd td n ww) (i + 1))) → va_S (fun x => s9.heap.size ≤ x) s9.heap H locs → W p0 l e9 room_1 s9 m9 #[Value.ref b] below meth c9 H locs (cc + 1 + 1) (ss + n + n) Q0 (F0 m9 967 ls []) := by
                  intro H locs hC hL hub hi_wa hi_na hS
                  obtain ⟨dg, ah, wl, lo, hC⟩ := hC
                  have hU : s9.heap.size ≤ H.size := hS.1
                  refine zr_iinc (v := (i : Int) + 1) (lv' := [(18, .int (zI ((i : Int) + 1))), (17, .ref na), (16, .ref wa), (15, .int (zI (smF (wbF al da (dgF pa sp n ww)) n))), (14, .int (zI ww)), (0, .ref b), (1, .ref (q 0)), (2, .ref s0), (3, .int (zI k9)), (4, .int x), (5, .long (dgC pa sp al co da mb dd n td wn)), (7, .int (zI (n : Int)))]) hx hb dL_law_967 hl (k := 0) rfl rfl (by decide) rfl (fun ls hl => ?_)
                  refine lv_goto (tgt := 873) hx hb dL_law_970 (by decide) ?_
                  have hl := lv_sub hl (l' := [(18, .int (zI ((i : Int) + 1))), (17, .ref na), (16, .ref wa), (15, .int (zI (smF (wbF al da (dgF pa sp n ww)) n))), (14, .int (zI ww)), (0, .ref b), (1, .ref (q 0)), (2, .ref s0), (3, .int (zI k9)), (4, .int x), (5, .long (dgC pa sp al co da mb dd n td wn)), (7, .int (zI (n : Int)))]) [0, 1, 2, 3, 4, 5, 6, 7, 8, 9, 10, 11] rfl
                  have e_30 : ((((i + 1) : Nat) : Int) : Int) = (i : Int) + 1 := by omega
                  have hl : lv_has ls 20 [(18, .int (zI (((i + 1) : Nat) : Int))), (17, .ref na), (16, .ref wa), (15, .int (zI (smF (wbF al da (dgF pa sp n ww)) n))), (14, .int (zI ww)), (0, .ref b), (1, .ref (q 0)), (2, .ref s0), (3, .int (zI k9)), (4, .int x), (5, .long (dgC pa sp al co da mb dd n td wn)), (7, .int (zI (n : Int)))] := by rw [e_30]; exact hl
                  exact ih_i (i + 1) (by omega) (by omega) _ _ _ (⟨_, _, _, _, hC⟩) hL hi_wa hi_na hS hl 
                refine lv_aload_n hx hb dL_law_935 rfl (lv_at hl 6 rfl) ?_
                refine lv_iload hx hb dL_law_936 (lv_at hl 0 rfl) ?_
                refine zcallV (ci := 2) (q0 := 0) (cq := (RX2, TX2, 9)) (As := [.int (zI (i : Int))]) (rest := []) ⟨hx, hb, hml, hown, hts⟩ hK (kX2_isAliveok l D cI cZ q hN pa sp al dg co da mb dd ah wl lo n td wn hn hal (i : Int) (by omega)) (cwV 1 hts gL_law_X2_isAlive rfl rfl rfl (by decide +kernel) ⟨Nat.le_of_ble_eq_true rfl, Nat.le_of_ble_eq_true rfl⟩) hC hS (fun x h => hqS x h) rfl rfl rfl hl.1 rfl (Nat.le_of_ble_eq_true rfl) dL_law_938 ⟨show cc + 1 + 1 ≤ 1200104 from by omega, show ss + n + n ≤ 5501314 from by omega⟩ (fun H locs hC hS hz9 hk9 => ?_)
                have hkq := fun (x : Nat) (h1 : x < _) (h2 : s0 ≤ x) => hk9 x h1 (fun h => absurd (hq0 x h) (Nat.not_lt.mpr h2))
                have hL := zSL.keep hL (fun x h1 h2 => hkq x (Nat.lt_of_lt_of_le h2 hub) h1)
                have hi_wa := vA.kept hi_wa (hkq _ (vA.lt hi_wa) (by omega))
                have hi_na := vA.kept hi_na (hkq _ (vA.lt hi_na) (by omega))
                have hU : s9.heap.size ≤ H.size := hS.1
                have hub : ub_1 ≤ H.size := by omega
                refine W.eq (g2 := F0 m9 941 ls [.int (zI (al (i : Int)))]) rfl ?_
                refine zr_if_eq (tgt := 967) hx hb dL_law_941 (by decide) ⟨by omega, by omega⟩ (fun c_31 => ?_) (fun c_31 => ?_)
                · have c_31 := c_31
                  exact J967_29 _ _ ⟨_, _, _, _, hC⟩ hL hub hi_wa hi_na hS
                · have c_31 := c_31
                  refine lv_iload hx hb dL_law_944 (lv_at hl 0 rfl) ?_
                  refine lv_iload hx hb dL_law_946 (lv_at hl 4 rfl) ?_
                  refine zr_icmp_eq (tgt := 967) hx hb dL_law_948 (by decide) ⟨by omega, by omega⟩ ⟨by omega, by omega⟩ (fun c_32 => ?_) (fun c_32 => ?_)
                  · have c_32 := c_32
                    exact J967_29 _ _ ⟨_, _, _, _, hC⟩ hL hub hi_wa hi_na hS
                  · have c_32 := c_32
                    have hwv : waW pa sp al co da mb dd td n ww (i : Int) = max (ca co da mb dd td n (i : Int) 0) (cOn co da 16 (dgF pa sp n ww (i : Int)) 0) := if_neg (by omega)
                    have hcab := ca_bd hco da mb dd td n (i : Int) 0
                    refine lv_aload hx hb dL_law_951 (lv_at hl 2 rfl) ?_
                    refine lv_iload hx hb dL_law_953 (lv_at hl 0 rfl) ?_
                    refine zs_ild (v := waW pa sp al co da mb dd td n ww (i : Int)) (i := (i : Int)) hx hb hQ hi_wa (by omega) (by omega) (by omega) (if_pos (by omega)) dL_law_955 ?_
                    have b_33 := waW_bd hco0 pa sp al da mb dd td n ww (i : Int)
                    refine lv_aload_n hx hb dL_law_956 rfl (lv_at hl 6 rfl) ?_
                    refine lv_iload hx hb dL_law_957 (lv_at hl 0 rfl) ?_
                    refine zcallV (ci := 2) (q0 := 0) (cq := (RX2, TX2, 9)) (As := [.int (zI (i : Int))]) (rest := [.int (zI (waW pa sp al co da mb dd td n ww (i : Int)))]) ⟨hx, hb, hml, hown, hts⟩ hK (kX2_colourOfok l D cI cZ q hN pa sp al dg co da mb dd ah wl lo n td wn hn hco hda hmb hdd htd (i : Int) (by omega)) (cwV 1 hts gL_law_X2_colourOf rfl rfl rfl (by decide +kernel) ⟨Nat.le_of_ble_eq_true rfl, Nat.le_of_ble_eq_true rfl⟩) hC hS (fun x h => hqS x h) rfl rfl rfl hl.1 rfl (Nat.le_of_ble_eq_true rfl) dL_law_959 ⟨show cc + 1 + 1 ≤ 1200104 from by omega, show ss + n + n ≤ 5501314 from by omega⟩ (fun H locs hC hS hz9 hk9 => ?_)
                    have hkq := fun (x : Nat) (h1 : x < _) (h2 : s0 ≤ x) => hk9 x h1 (fun h => absurd (hq0 x h) (Nat.not_lt.mpr h2))
                    have hL := zSL.keep hL (fun x h1 h2 => hkq x (Nat.lt_of_lt_of_le h2 hub) h1)
                    have hi_wa := vA.kept hi_wa (hkq _ (vA.lt hi_wa) (by omega))
                    have hi_na := vA.kept hi_na (hkq _ (vA.lt hi_na) (by omega))
                    have hU : s9.heap.size ≤ H.size := hS.1
                    have hub : ub_1 ≤ H.size := by omega
                    refine W.eq (g2 := F0 m9 962 ls [.int (zI (ca co da mb dd td n (i : Int) 0)), .int (zI (waW pa sp al co da mb dd td n ww (i : Int)))]) rfl ?_
                    refine zr_icmp_ge (tgt := 967) hx hb dL_law_962 (by decide) ⟨by omega, by omega⟩ ⟨by omega, by omega⟩ (fun c_34 => ?_) (fun c_34 => by exfalso; omega)
                    exact J967_29 _ _ ⟨_, _, _, _, hC⟩ hL hub hi_wa hi_na hS
              refine lv_iload hx hb dL_law_917 (lv_at hl 0 rfl) ?_
              refine lv_iload hx hb dL_law_919 (lv_at hl 4 rfl) ?_
              refine zr_icmp_ne (tgt := 928) hx hb dL_law_921 (by decide) ⟨by omega, by omega⟩ ⟨by omega, by omega⟩ (fun c_35 => ?_) (fun c_35 => ?_)
              · have c_35 := c_35
                refine lv_aload_n hx hb dL_law_928 rfl (lv_at hl 6 rfl) ?_
                refine lv_iload hx hb dL_law_929 (lv_at hl 0 rfl) ?_
                refine zcallV (ci := 2) (q0 := 0) (cq := (RX2, TX2, 9)) (As := [.int (zI (i : Int))]) (rest := [.int (zI (i : Int)), .ref na]) ⟨hx, hb, hml, hown, hts⟩ hK (kX2_mourningsOfok l D cI cZ q hN pa sp al dg co da mb dd ah wl lo n td wn hn hda hmb hdd htd (i : Int) (by omega)) (cwV 1 hts gL_law_X2_mourningsOf rfl rfl rfl (by decide +kernel) ⟨Nat.le_of_ble_eq_true rfl, Nat.le_of_ble_eq_true rfl⟩) hC hS (fun x h => hqS x h) rfl rfl rfl hl.1 rfl (Nat.le_of_ble_eq_true rfl) dL_law_931 ⟨show cc + 1 + 1 ≤ 1200104 from by omega, show ss + n + n ≤ 5501314 from by omega⟩ (fun H locs hC hS hz9 hk9 => ?_)
                have hkq := fun (x : Nat) (h1 : x < _) (h2 : s0 ≤ x) => hk9 x h1 (fun h => absurd (hq0 x h) (Nat.not_lt.mpr h2))
                have hL := zSL.keep hL (fun x h1 h2 => hkq x (Nat.lt_of_lt_of_le h2 hub) h1)
                have hi_wa := vA.kept hi_wa (hkq _ (vA.lt hi_wa) (by omega))
                have hi_na := vA.kept hi_na (hkq _ (vA.lt hi_na) (by omega))
                have hU : s9.heap.size ≤ H.size := hS.1
                have hub : ub_1 ≤ H.size := by omega
                refine W.eq (g2 := F0 m9 934 ls [.int (zI (smF (gtF (lf da mb dd td (i : Int))) n)), .int (zI (i : Int)), .ref na]) rfl ?_
                exact J934_28 _ _ _ ⟨_, _, _, _, hC⟩ hL hub hi_wa hi_na hS ((if_neg (by omega)).symm)
              · have c_35 := c_35
                refine zr_iconst hx hb dL_law_924 ?_
                refine lv_goto (tgt := 934) hx hb dL_law_925 (by decide) ?_
                exact J934_28 _ _ _ ⟨_, _, _, _, hC⟩ hL hub hi_wa hi_na hS ((if_pos (by omega)).symm)
            refine lv_iload hx hb dL_law_884 (lv_at hl 0 rfl) ?_
            refine lv_iload hx hb dL_law_886 (lv_at hl 4 rfl) ?_
            refine zr_icmp_eq (tgt := 900) hx hb dL_law_888 (by decide) ⟨by omega, by omega⟩ ⟨by omega, by omega⟩ (fun c_36 => ?_) (fun c_36 => ?_)
            · have c_36 := c_36
              refine zr_iconst hx hb dL_law_900 ?_
              refine lv_goto (tgt := 912) hx hb dL_law_901 (by decide) ?_
              exact J912_27 _ _ _ ⟨_, _, _, _, hC⟩ hL hub hi_wa hi_na hS ((if_pos (by omega)).symm)
            · have c_36 := c_36
              refine lv_aload_n hx hb dL_law_891 rfl (lv_at hl 6 rfl) ?_
              refine lv_iload hx hb dL_law_892 (lv_at hl 0 rfl) ?_
              refine zcallV (ci := 2) (q0 := 0) (cq := (RX2, TX2, 9)) (As := [.int (zI (i : Int))]) (rest := [.int (zI (i : Int)), .ref wa]) ⟨hx, hb, hml, hown, hts⟩ hK (kX2_isAliveok l D cI cZ q hN pa sp al dg co da mb dd ah wl lo n td wn hn hal (i : Int) (by omega)) (cwV 1 hts gL_law_X2_isAlive rfl rfl rfl (by decide +kernel) ⟨Nat.le_of_ble_eq_true rfl, Nat.le_of_ble_eq_true rfl⟩) hC hS (fun x h => hqS x h) rfl rfl rfl hl.1 rfl (Nat.le_of_ble_eq_true rfl) dL_law_894 ⟨show cc + 1 + 1 ≤ 1200104 from by omega, show ss + n + n ≤ 5501314 from by omega⟩ (fun H locs hC hS hz9 hk9 => ?_)
              have hkq := fun (x : Nat) (h1 : x < _) (h2 : s0 ≤ x) => hk9 x h1 (fun h => absurd (hq0 x h) (Nat.not_lt.mpr h2))
              have hL := zSL.keep hL (fun x h1 h2 => hkq x (Nat.lt_of_lt_of_le h2 hub) h1)
              have hi_wa := vA.kept hi_wa (hkq _ (vA.lt hi_wa) (by omega))
              have hi_na := vA.kept hi_na (hkq _ (vA.lt hi_na) (by omega))
              have hU : s9.heap.size ≤ H.size := hS.1
              have hub : ub_1 ≤ H.size := by omega
              refine W.eq (g2 := F0 m9 897 ls [.int (zI (al (i : Int))), .int (zI (i : Int)), .ref wa]) rfl ?_
              refine zr_if_ne (tgt := 904) hx hb dL_law_897 (by decide) ⟨by omega, by omega⟩ (fun c_37 => ?_) (fun c_37 => ?_)
              · have c_37 := c_37
                refine lv_aload_n hx hb dL_law_904 rfl (lv_at hl 6 rfl) ?_
                refine lv_iload hx hb dL_law_905 (lv_at hl 0 rfl) ?_
                refine lv_iload hx hb dL_law_907 (lv_at hl 4 rfl) ?_
                refine zcallV (ci := 2) (q0 := 0) (cq := (RX2, TX2, 9)) (As := [.int (zI (i : Int)), .int (zI ww)]) (rest := [.int (zI (i : Int)), .ref wa]) ⟨hx, hb, hml, hown, hts⟩ hK (kX2_wouldWearok l D cI cZ q hN pa sp al dg co da mb dd ah wl lo n td wn hn hco hda hmb hdd htd hpa hsp hal (i : Int) ww (by omega) (by omega) (by omega) (by omega) (by omega)) (cwV 2 hts gL_law_X2_wouldWear rfl rfl rfl (by decide +kernel) ⟨Nat.le_of_ble_eq_true rfl, Nat.le_of_ble_eq_true rfl⟩) hC hS (fun x h => hqS x h) rfl rfl rfl hl.1 rfl (Nat.le_of_ble_eq_true rfl) dL_law_909 ⟨show cc + 1 + 1 ≤ 1200104 from by omega, show ss + n + n ≤ 5501314 from by omega⟩ (fun H locs hC hS hz9 hk9 => ?_)
                have hkq := fun (x : Nat) (h1 : x < _) (h2 : s0 ≤ x) => hk9 x h1 (fun h => absurd (hq0 x h) (Nat.not_lt.mpr h2))
                have hL := zSL.keep hL (fun x h1 h2 => hkq x (Nat.lt_of_lt_of_le h2 hub) h1)
                have hi_wa := vA.kept hi_wa (hkq _ (vA.lt hi_wa) (by omega))
                have hi_na := vA.kept hi_na (hkq _ (vA.lt hi_na) (by omega))
                have hU : s9.heap.size ≤ H.size := hS.1
                have hub : ub_1 ≤ H.size := by omega
                refine W.eq (g2 := F0 m9 912 ls [.int (zI (max (ca co da mb dd td n (i : Int) 0) (cOn co da 16 (dgF pa sp n ww (i : Int)) 0))), .int (zI (i : Int)), .ref wa]) rfl ?_
                obtain ⟨dg, ah, wl, lo, hC⟩ : zJC D cI cZ q pa sp al co da mb dd n td wn H := ⟨_, _, _, _, hC⟩
                exact J912_27 _ _ _ ⟨_, _, _, _, hC⟩ hL hub hi_wa hi_na hS ((if_neg (by omega)).symm)
              · have c_37 := c_37
                refine zr_iconst hx hb dL_law_900 ?_
                refine lv_goto (tgt := 912) hx hb dL_law_901 (by decide) ?_
                exact J912_27 _ _ _ ⟨_, _, _, _, hC⟩ hL hub hi_wa hi_na hS ((if_pos (by omega)).symm)
      have hl := lv_sub hl (l' := [(18, .int (zI 0)), (17, .ref na), (16, .ref wa), (15, .int (zI (smF (wbF al da (dgF pa sp n ww)) n))), (14, .int (zI ww)), (0, .ref b), (1, .ref (q 0)), (2, .ref s0), (3, .int (zI k9)), (4, .int x), (5, .long (dgC pa sp al co da mb dd n td wn)), (7, .int (zI (n : Int)))]) [0, 1, 2, 3, 4, 5, 6, 7, 8, 9, 10, 11] rfl
      exact L873_8 (n + 1) 0 (Nat.zero_le _) (by omega) _ _ _ (⟨_, _, _, _, hC⟩) hL (iA.cgI hi_wa (fun j h0 h1 => (if_neg (by omega)).symm)) (iA.cgI hi_na (fun j h0 h1 => (if_neg (by omega)).symm)) hS hl 
