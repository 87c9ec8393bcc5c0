/-- what Sim's constructor needs beyond its own words -/
def zN15 (U : State) : Prop := va_Nw (.classLink RX3 15 "[[[I") U
theorem zBl.n15 : zBl zN15 := fun _ U _ _ h => va_Nw.same (u := U) rfl rfl h
theorem zN15.warm {s U : State} (hW : s.WarmedH U.vm) (h : zN15 s) : zN15 U := word_at (args := #[]) hW (Or.inl rfl) h
def kd3 (a b z : Nat) (x : Nat) : Int := if x = a then 0 else if b + 5 ≤ x ∧ x ≤ b + 17 ∧ (x - b - 1) % 4 = 0 then 100 + (((x - b - 1) / 4 : Nat) : Int) else if a ≤ x ∧ x < z then -1 else -2
def zR31 (cI c1 : ClassId) (H : Heap) (b : Nat) : Prop := ∀ d : Int, 0 ≤ d → d ≤ 4 → rA c1 H (rc3 b d) 3 (rr3 b d) ∧ ∀ t : Int, 0 ≤ t → t ≤ 2 → iA cI H (rr3 b d t) 2 (cst 0)
theorem zR31.grow {cI c1 : ClassId} {H H1 : Heap} {b : Nat} (h : zR31 cI c1 H b) (hk : ∀ x : Nat, x < H.size → H1[x]? = H[x]?) : zR31 cI c1 H1 b := fun d d0 d4 => ⟨(h d d0 d4).1.grow hk, fun t t0 t2 => ((h d d0 d4).2 t t0 t2).grow hk⟩
theorem zR31.kept {cI c1 : ClassId} {H H1 : Heap} {a b : Nat} (h : zR31 cI c1 H b) (hab : a ≤ b) (hk : ∀ x : Nat, x ≠ a → H1[x]? = H[x]?) : zR31 cI c1 H1 b := fun d d0 d4 => ⟨vA.kept (h d d0 d4).1 (hk _ (by unfold rc3; omega)), fun t t0 t2 => vA.kept ((h d d0 d4).2 t t0 t2) (hk _ (by unfold rr3; omega))⟩
theorem zSL_new {D : va_G} {cI c1 c2 : ClassId} {H : Heap} {a ap b am : Nat} (ho : va_P D vwCl [(a, obS 0 0 ap b am)] H) (h1 : vA c1 H ap 0 (fun _ => .null)) (h2 : rA c2 H b 5 (rc3 b)) (h3 : zR31 cI c1 H b) (h4 : vA c1 H am 0 (fun _ => .null)) (q1 : a < ap) (q2 : ap < b) (q3 : b + 21 ≤ am) (pa sp al : Int → Int) (mo : Int → Int → Int) :
    zSL D cI c1 c2 a H.size H a (kd3 a b H.size) ap b am (fun _ => 0) (rc3 b) (rr3 b) (fun _ => 0) 0 pa sp al (cst 0) (cst 0) 0 mo 0 0 := by
  have z4 := h4.lt
  refine ⟨⟨ho, vA.cg h1 (fun j h0 h1 => by omega), h2, vA.cg h4 (fun j h0 h1 => by omega)⟩, fun i h0 h1 => by omega, fun d d1 d4 => ⟨(h3 d (by omega) d4).1, ?_⟩, fun d t d1 d4 t0 t2 => ⟨iA.cgI ((h3 d (by omega) d4).2 t t0 t2) (fun j _ _ => ?_), ?_⟩, fun i h0 h1 => by omega, ⟨?_, ?_, ?_, ?_, by decide, by decide⟩, fun x hx => ?_⟩
  · unfold kd3 rc3
    rw [if_neg (by omega), if_pos (by omega)]
    omega
  · unfold rowC cst
    split <;> rfl
  · unfold kd3 rr3
    rw [if_neg (by omega), if_neg (by omega), if_pos (by omega)]
  · unfold kd3
    rw [if_pos rfl]
  · unfold kd3
    rw [if_neg (by omega), if_neg (by omega), if_pos (by omega)]
  · unfold kd3
    rw [if_neg (by omega), if_neg (by omega), if_pos (by omega)]
  · unfold kd3
    rw [if_neg (by omega), if_neg (by omega), if_pos (by omega)]
  · have := ho 0 _ rfl
    have hal : a < H.size := this.lt
    unfold kd3
    rw [if_neg (by omega), if_neg (by omega), if_neg (by omega)]
section ZSL9
variable {D : va_G} {cI c1 c2 : ClassId} {s0 ub : Nat} {H H1 : Heap} {a : Nat} {kd : Nat → Int} {ap ac am : Nat} {ra rc : Int → Nat} {rr : Int → Int → Nat} {rm : Int → Nat} {n : Nat} {pa sp al co da : Int → Int} {M : Nat} {mo : Int → Int → Int} {td wn : Int}
/-- one person more -/
theorem zSL_addP {ap' v : Nat} {f : Int} {g : Int → Int} (h : zSL D cI c1 c2 s0 ub H a kd ap ac am ra rc rr rm n pa sp al co da M mo td wn) (hu : ub ≤ H.size) (hz : H1.size = H.size) (ho : va_P D vwCl [(a, obS td wn ap' ac am)] H1) (hk : ∀ x : Nat, x ≠ a → H1[x]? = H[x]?) (hn : n < 16)
    (hv : iA cI H v 3 g) (hg : ∀ j : Int, 0 ≤ j → j < 3 → g j = rowP (up pa (n : Int) f) (up sp (n : Int) (-1)) (up al (n : Int) 1) (n : Int) j) (hvu : ub ≤ v) (hb : rA c1 H ap' (n + 1) (fun j => if j = (n : Int) then v else ra j)) (hbv : v < ap') :
    ∃ (kd2 : Nat → Int) (ra2 : Int → Nat), zSL D cI c1 c2 s0 H1.size H1 a kd2 ap' ac am ra2 rc rr rm (n + 1) (up pa (n : Int) f) (up sp (n : Int) (-1)) (up al (n : Int) 1) co da M mo td wn := by
  have hs := h.s0u
  have zv := hv.lt
  have zb := hb.lt
  have e : ∀ x : Nat, kd x ≠ -2 → (if x = v then 10 + (n : Int) else if ub ≤ x ∧ x < H.size then (-1 : Int) else kd x) = kd x := fun x hx => by
    have := h.out hx
    rw [if_neg (by omega), if_neg (by omega)]
  have ev : (if v = v then 10 + (n : Int) else if ub ≤ v ∧ v < H.size then (-1 : Int) else kd v) = 10 + (n : Int) := if_pos rfl
  obtain ⟨⟨h1, h2, h3, h4⟩, h5, h6, h7, h8, ⟨g1, g2, g3, g4, g5, g6⟩, h9⟩ := h
  have k : ∀ x : Nat, kd x ≠ 0 → H1[x]? = H[x]? := fun x hx => hk x (fun q => hx (by rw [q]; exact g1))
  have ha : a < ub := (by
    have : ¬ (a < s0 ∨ ub ≤ a) := fun q => by have := h9 a q; omega
    omega)
  refine ⟨fun x => if x = v then 10 + (n : Int) else if ub ≤ x ∧ x < H.size then (-1 : Int) else kd x, fun j => if j = (n : Int) then v else ra j, ⟨ho, hb.kept (hk _ (by omega)), h3.kept (k _ (by omega)), h4.kept (k _ (by omega))⟩, fun i q0 q1 => ?_, fun d q0 q1 => ?_, fun d t q0 q1 q2 q3 => ?_, fun i q0 q1 => ?_, ⟨(e _ (by omega)).trans g1, ?_, (e _ (by omega)).trans g3, (e _ (by omega)).trans g4, by omega, g6⟩, fun x hx => ?_⟩
  · by_cases ei : i = (n : Int)
    · subst ei
      have er : (if (n : Int) = (n : Int) then v else ra (n : Int)) = v := if_pos rfl
      show iA cI H1 (if (n : Int) = (n : Int) then v else ra (n : Int)) 3 _ ∧ (if (if (n : Int) = (n : Int) then v else ra (n : Int)) = v then 10 + (n : Int) else if ub ≤ (if (n : Int) = (n : Int) then v else ra (n : Int)) ∧ (if (n : Int) = (n : Int) then v else ra (n : Int)) < H.size then (-1 : Int) else kd (if (n : Int) = (n : Int) then v else ra (n : Int))) = _
      rw [er]
      exact ⟨iA.cgI (vA.kept hv (hk _ (by omega))) (fun j j0 j1 => hg j j0 j1), ev⟩
    · show iA cI H1 (if i = (n : Int) then v else ra i) 3 _ ∧ (if (if i = (n : Int) then v else ra i) = v then 10 + (n : Int) else if ub ≤ (if i = (n : Int) then v else ra i) ∧ (if i = (n : Int) then v else ra i) < H.size then (-1 : Int) else kd (if i = (n : Int) then v else ra i)) = _
      rw [if_neg ei]
      have h := h5 i q0 (by omega)
      refine ⟨iA.cgI (vA.kept h.1 (k _ (by omega))) (fun j _ _ => ?_), (e _ (by omega)).trans h.2⟩
      unfold rowP up
      rw [if_neg ei, if_neg ei, if_neg ei]
  · have h := h6 d q0 q1
    exact ⟨h.1.kept (k _ (by omega)), (e _ (by omega)).trans h.2⟩
  · have h := h7 d t q0 q1 q2 q3
    exact ⟨h.1.kept (k _ (by omega)), (e _ (by omega)).trans h.2⟩
  · have h := h8 i q0 q1
    exact ⟨h.1.kept (k _ (by omega)), (e _ (by omega)).trans h.2⟩
  · show (if ap' = v then 10 + (n : Int) else if ub ≤ ap' ∧ ap' < H.size then (-1 : Int) else kd ap') = -1
    rw [if_neg (by omega), if_pos (by omega)]
  · show (if x = v then 10 + (n : Int) else if ub ≤ x ∧ x < H.size then (-1 : Int) else kd x) = -2
    rw [if_neg (by omega), if_neg (by omega)]
    exact h9 x (by omega)
/-- another stage -/
theorem zSL_setC {v : Nat} {d t c k9 : Int} {g : Int → Int} (h : zSL D cI c1 c2 s0 ub H a kd ap ac am ra rc rr rm n pa sp al co da M mo td wn) (hu : ub ≤ H.size) (hz : H1.size = H.size) (d0 : 1 ≤ d) (d4 : d ≤ 4) (t0 : 0 ≤ t) (t2 : t ≤ 2) (hv : iA cI H v 2 g) (hg : ∀ j : Int, 0 ≤ j → j < 2 → g j = if j = 0 then c else k9) (hvu : ub ≤ v)
    (hr : vA c1 H1 (rc d) 3 (upV (rV (rr d)) t (.ref v))) (hk : ∀ x : Nat, x ≠ rc d → H1[x]? = H[x]?) :
    ∃ (kd2 : Nat → Int) (rr2 : Int → Int → Nat), zSL D cI c1 c2 s0 H1.size H1 a kd2 ap ac am ra rc rr2 rm n pa sp al (up co (192 + ((d - 1) * 3 + t)) c) (up da (192 + ((d - 1) * 3 + t)) k9) M mo td wn := by
  have hs := h.s0u
  have zv := hv.lt
  have e : ∀ x : Nat, kd x ≠ -2 → (if ub ≤ x ∧ x < H.size then (-1 : Int) else kd x) = kd x := fun x hx => by
    have := h.out hx
    rw [if_neg (by omega)]
  obtain ⟨⟨h1, h2, h3, h4⟩, h5, h6, h7, h8, ⟨g1, g2, g3, g4, g5, g6⟩, h9⟩ := h
  have gd := (h6 d d0 d4).2
  have k : ∀ x : Nat, kd x ≠ 100 + d → H1[x]? = H[x]? := fun x hx => hk x (fun q => hx (by rw [q]; exact gd))
  have hrd : rc d < ub := (by
    have : ¬ (rc d < s0 ∨ ub ≤ rc d) := fun q => by have := h9 (rc d) q; omega
    omega)
  have hn16 : (n : Int) ≤ 16 := by omega
  refine ⟨fun x => if ub ≤ x ∧ x < H.size then (-1 : Int) else kd x, fun e u => if e = d ∧ u = t then v else rr e u, ⟨va1k h1 (k _ (by omega)), h2.kept (k _ (by omega)), h3.kept (k _ (by omega)), h4.kept (k _ (by omega))⟩, fun i q0 q1 => ?_, fun e' q0 q1 => ?_, fun e' u q0 q1 q2 q3 => ?_, fun i q0 q1 => ?_, ⟨(e _ (by omega)).trans g1, (e _ (by omega)).trans g2, (e _ (by omega)).trans g3, (e _ (by omega)).trans g4, g5, g6⟩, fun x hx => ?_⟩
  · have h := h5 i q0 q1
    exact ⟨h.1.kept (k _ (by omega)), (e _ (by omega)).trans h.2⟩
  · have h := h6 e' q0 q1
    refine ⟨?_, (e _ (by omega)).trans h.2⟩
    by_cases ee : e' = d
    · subst ee
      refine vA.cg hr (fun j _ _ => ?_)
      show (if j = t then Value.ref v else .ref (rr e' j)) = Value.ref (if e' = e' ∧ j = t then v else rr e' j)
      by_cases ej : j = t
      · rw [if_pos ej, if_pos ⟨rfl, ej⟩]
      · rw [if_neg ej, if_neg (fun q => ej q.2)]
    · refine vA.cg (h.1.kept (k _ (by omega))) (fun j _ _ => ?_)
      show Value.ref (rr e' j) = Value.ref (if e' = d ∧ j = t then v else rr e' j)
      rw [if_neg (fun q => ee q.1)]
  · by_cases ee : e' = d ∧ u = t
    · obtain ⟨rfl, rfl⟩ := ee
      show iA cI H1 (if e' = e' ∧ u = u then v else rr e' u) 2 _ ∧ (if ub ≤ (if e' = e' ∧ u = u then v else rr e' u) ∧ (if e' = e' ∧ u = u then v else rr e' u) < H.size then (-1 : Int) else kd (if e' = e' ∧ u = u then v else rr e' u)) = -1
      rw [if_pos ⟨rfl, rfl⟩]
      refine ⟨iA.cgI (vA.kept hv (hk _ (by omega))) (fun j j0 j1 => ?_), if_pos ⟨hvu, zv⟩⟩
      rw [hg j j0 (by omega)]
      unfold rowC up
      rw [if_pos rfl, if_pos rfl]
    · show iA cI H1 (if e' = d ∧ u = t then v else rr e' u) 2 _ ∧ (if ub ≤ (if e' = d ∧ u = t then v else rr e' u) ∧ (if e' = d ∧ u = t then v else rr e' u) < H.size then (-1 : Int) else kd (if e' = d ∧ u = t then v else rr e' u)) = -1
      rw [if_neg ee]
      have h := h7 e' u q0 q1 q2 q3
      refine ⟨iA.cgI (h.1.kept (k _ (by omega))) (fun j _ _ => ?_), (e _ (by omega)).trans h.2⟩
      unfold rowC up
      by_cases j9 : j = 0
      · rw [if_pos j9, if_pos j9, if_neg (by omega)]
      · rw [if_neg j9, if_neg j9, if_neg (by omega)]
  · have h := h8 i q0 q1
    exact ⟨h.1.kept (k _ (by omega)), (e _ (by omega)).trans h.2⟩
  · show (if ub ≤ x ∧ x < H.size then (-1 : Int) else kd x) = -2
    rw [if_neg (by omega)]
    exact h9 x (by omega)
end ZSL9
set_option maxHeartbeats 4000000 in
set_option maxRecDepth 100000 in
theorem kX3_init (l : Launch) (D : va_G) (cI cZ c1 c2 : ClassId) (sz : Nat) (a : Nat) : zGE l yX3_init wsX3_init ({ frames := 1, cells := 23, slots := 50, locals := 20 } : Room) D cI cZ c1 c2 [.ref a] sz (zN15) (fun H => va_P D vwCl [(a, .inr (3, [.int (zI 0), .int (zI 0), .null, .null, .null]))] H) (fun v H => v = none ∧ zSW D cI c1 c2 a a 0 (cst 0) (cst 0) (cst 0) (cst 0) (cst 0) 0 (fun _ => cst 0) 0 0 H) (fun q : Nat => q = a ∨ sz ≤ q) (23) (50) := by
  refine Met.ofW (cc := cX3_init) (maxL := 1) (ret := none) (by decide) rfl ?_
  intro p0 e9 s9 m9 ag9 below meth c9 s₁ B hml hv
  obtain ⟨hav, hsz, hPre, hK, hQ, hEx⟩ := hv
  subst hsz
  have hx := B.exec
  have hb := B.bytes
  have hr := B.returns
  have hts := atoms_spec (ws := wsX3_init) B.pre
  have hown : s9.vm.findClass RX3 = some m9.cls := findClass_of_methodNamed B.named
  have hlocks := B.notSynchronized
  have hin3 : ∀ w ∈ u_ws RX3 TX3 5, w ∈ wsX3_init := by decide +kernel
  have hl := lv_entry ([.ref a]) (n := 1) (Nat.le_of_ble_eq_true rfl)
  have hE : entryFrame m9 ag9 1 = F0 m9 0 ((lg_sl ([.ref a]) ++ List.replicate (1 - (lg_sl ([.ref a])).length) Slot.unset).toArray) [] := by rw [hav]; exact lg_entry_eq m9 _ _
  obtain ⟨Q0, hQ0⟩ : ∃ Q0, Q0 = MQ below (zGQ (fun v H => v = none ∧ zSW D cI c1 c2 a a 0 (cst 0) (cst 0) (cst 0) (cst 0) (cst 0) 0 (fun _ => cst 0) 0 0 H) (fun q : Nat => q = a ∨ s9.heap.size ≤ q)) ag9 s9 (23) (50) (fun q : Nat => q = a ∨ s9.heap.size ≤ q) := ⟨_, rfl⟩
  show W p0 l e9 ({ frames := 1, cells := 23, slots := 50, locals := 20 } : Room) s9 m9 ag9 below meth c9 s9.heap [] 0 0 (MQ below (zGQ (fun v H => v = none ∧ zSW D cI c1 c2 a a 0 (cst 0) (cst 0) (cst 0) (cst 0) (cst 0) 0 (fun _ => cst 0) 0 0 H) (fun q : Nat => q = a ∨ s9.heap.size ≤ q)) ag9 s9 (23) (50) (fun q : Nat => q = a ∨ s9.heap.size ≤ q)) _
  rw [hE, ← hQ0]
  have hS : va_S (fun q : Nat => q = a ∨ s9.heap.size ≤ q) s9.heap s9.heap [] := va_S.rf
  have hU : s9.heap.size ≤ s9.heap.size := Nat.le_refl _
  generalize (lg_sl ([.ref a]) ++ List.replicate (1 - (lg_sl ([.ref a])).length) Slot.unset).toArray = ls at hl ⊢
  have hl : lv_has ls 1 [(0, .ref a)] := hl
  have hO := hPre
  have haz : a < s9.heap.size := (hO 0 _ rfl).lt
  refine lv_aload_n hx hb dX3_init_0 rfl (lv_at hl 0 rfl) ?_
  refine W.objInit hx hb hown (hts (.methodLink RX3 1 objectInit) (by decide +kernel)) (hts (.instanceMethod objectInit) (by decide +kernel)) (hts (.code objectInit ⟨#[0xb1]⟩ 1 none) (by decide +kernel)) rfl (by rw [hml]; exact hl.1) rfl dX3_init_1 (Nat.le_of_ble_eq_true rfl) (Nat.le_of_ble_eq_true rfl) ?_
  refine W.eq (g2 := F0 m9 4 ls []) rfl ?_
  refine lv_aload_n hx hb dX3_init_4 rfl (lv_at hl 0 rfl) ?_
  refine zr_iconst hx hb dX3_init_5 ?_
  refine zs_newA (N' := 0) hx hb hQ hown (hts (.classLink RX3 7 "[I") (by decide +kernel)) hS (z := 0) (by omega) (by omega) (show 0 + 1 ≤ 23 from by omega) (show 0 + 0 ≤ 50 from by omega) dX3_init_6 (fun H q1 hq_q1 hi_q1 hz9 hk9 hS => ?_)
  have hO := zgrowP hO hk9
  have hU : s9.heap.size ≤ H.size := hS.1
  refine zs_put (v := .ref q1) (ty := (.array (.array .int))) hx hb hts hin3 hown hK hO hS (Or.inl rfl) 2 (by decide) (hts (.fieldLink RX3 9 "MourningRibbonsLaw$Sim" "people" "[[I") (by decide +kernel)) rfl rfl (by decide +kernel) rfl rfl (Nat.le_of_ble_eq_true rfl) dX3_init_9 (fun H locs hO hz9 hk9 hS => ?_)
  have hi_q1 := vA.kept hi_q1 (hk9 _ (by omega))
  have hU : s9.heap.size ≤ H.size := hS.1
  refine lv_aload_n hx hb dX3_init_12 rfl (lv_at hl 0 rfl) ?_
  refine zr_iconst hx hb dX3_init_13 ?_
  refine zr_iconst hx hb dX3_init_14 ?_
  refine zr_iconst hx hb dX3_init_15 ?_
  refine zs_mna3 hx hb hQ hown (va_Nw.use rfl hEx) hS (fun q h => Or.inr h) (show 0 + 1 + 21 ≤ 23 from by omega) (show 0 + 0 + 50 ≤ 50 from by omega) dX3_init_16 (fun H locs b hq_b hR3 hR31 hz9 hk9 hS => ?_)
  have hO := zgrowP hO hk9
  have hi_q1 := vA.grow hi_q1 hk9
  have hU : s9.heap.size ≤ H.size := hS.1
  refine zs_put (v := .ref b) (ty := (.array (.array (.array .int)))) hx hb hts hin3 hown hK hO hS (Or.inl rfl) 3 (by decide) (hts (.fieldLink RX3 17 "MourningRibbonsLaw$Sim" "code" "[[[I") (by decide +kernel)) rfl rfl (by decide +kernel) rfl rfl (Nat.le_of_ble_eq_true rfl) dX3_init_20 (fun H locs hO hz9 hk9 hS => ?_)
  have hi_q1 := vA.kept hi_q1 (hk9 _ (by omega))
  have hR3 := vA.kept hR3 (hk9 _ (by omega))
  have hR31 := zR31.kept hR31 (by omega) hk9
  have hU : s9.heap.size ≤ H.size := hS.1
  refine lv_aload_n hx hb dX3_init_23 rfl (lv_at hl 0 rfl) ?_
  refine zr_iconst hx hb dX3_init_24 ?_
  refine zs_newA (N' := 0) hx hb hQ hown (hts (.classLink RX3 7 "[I") (by decide +kernel)) hS (z := 0) (by omega) (by omega) (show 0 + 1 + 21 + 1 ≤ 23 from by omega) (show 0 + 0 + 50 + 0 ≤ 50 from by omega) dX3_init_25 (fun H q2 hq_q2 hi_q2 hz9 hk9 hS => ?_)
  have hO := zgrowP hO hk9
  have hi_q1 := vA.grow hi_q1 hk9
  have hR3 := vA.grow hR3 hk9
  have hR31 := zR31.grow hR31 hk9
  have hU : s9.heap.size ≤ H.size := hS.1
  refine zs_put (v := .ref q2) (ty := (.array (.array .int))) hx hb hts hin3 hown hK hO hS (Or.inl rfl) 4 (by decide) (hts (.fieldLink RX3 20 "MourningRibbonsLaw$Sim" "mournings" "[[I") (by decide +kernel)) rfl rfl (by decide +kernel) rfl rfl (Nat.le_of_ble_eq_true rfl) dX3_init_28 (fun H locs hO hz9 hk9 hS => ?_)
  have hi_q1 := vA.kept hi_q1 (hk9 _ (by omega))
  have hR3 := vA.kept hR3 (hk9 _ (by omega))
  have hR31 := zR31.kept hR31 (by omega) hk9
  have hi_q2 := vA.kept hi_q2 (hk9 _ (by omega))
  have hU : s9.heap.size ≤ H.size := hS.1
  rw [hQ0]
  exact zgret_v hx hb hr hlocks (⟨rfl, _, _, _, _, _, _, _, _, zSL_new hO hi_q1 hR3 hR31 hi_q2 (by omega) (by omega) (by omega) (cst 0) (cst 0) (cst 0) (fun _ => cst 0)⟩) hS dX3_init_31 (by omega) (by omega)
