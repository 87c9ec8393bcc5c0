/-! what a death brings; filtered rows; the Sim with other mournings -/
def bR (co da : Int → Int) (td d g p : Int) : Int → Int :=
  up (up (up (up (up (up (up (up (up (cst 0) 0 p) 1 d) 2 td) 3 (co (192 + ((g - 1) * 3 + 0)))) 4 (da (192 + ((g - 1) * 3 + 0)))) 5 (co (192 + ((g - 1) * 3 + 1)))) 6 (da (192 + ((g - 1) * 3 + 1)))) 7 (co (192 + ((g - 1) * 3 + 2)))) 8 (da (192 + ((g - 1) * 3 + 2)))
def bP (al da dg : Int → Int) (p : Int) : Bool := decide (al p ≠ 0 ∧ dg p ≠ 0 ∧ dAll da 16 (dg p) ≠ 0)
def bM (co da dg : Int → Int) (td d : Int) (p : Int) : Int → Int := bR co da td d (dg p) p
theorem bP_y {al da dg : Int → Int} {p : Int} (h : al p ≠ 0 ∧ dg p ≠ 0 ∧ dAll da 16 (dg p) ≠ 0) : bP al da dg p = true := decide_eq_true h
theorem bP_n {al da dg : Int → Int} {p : Int} (h : ¬ (al p ≠ 0 ∧ dg p ≠ 0 ∧ dAll da 16 (dg p) ≠ 0)) : ¬ bP al da dg p = true := fun q => h (of_decide_eq_true q)
/-- one more, in the terms of the filter -/
theorem zML.cons {cI c1 : ClassId} {H : Heap} {b' v : Nat} {P : Int → Bool} {i : Nat} {rm : Int → Nat} {mo : Int → Int → Int} (hP : P (i : Int) = true) (h2 : ∀ j : Int, 0 ≤ j → j < (fC P i : Int) → iA cI H (rm j) 9 (mo (fI P i j))) (hv : iA cI H v 9 (mo (i : Int))) (hb : rA c1 H b' (fC P i + 1) (fun j => if j = (fC P i : Int) then v else rm j)) : zML cI c1 H b' (fC P (i + 1)) (fun j => if j = (fC P i : Int) then v else rm j) (fun j => mo (fI P (i + 1) j)) := by
  refine (zML.push (mo := fun j => mo (fI P i j)) h2 hv hb).cg (fC_y hP).symm (fun j _ _ => ?_)
  rw [fI_y hP]
  show (if j = (fC P i : Int) then mo (i : Int) else mo (fI P i j)) = mo (if j = (fC P i : Int) then (i : Int) else fI P i j)
  by_cases e : j = (fC P i : Int)
  · rw [if_pos e, if_pos e]
  · rw [if_neg e, if_neg e]
theorem zML.skip {cI c1 : ClassId} {H : Heap} {b : Nat} {P : Int → Bool} {i : Nat} {rm : Int → Nat} {mo : Int → Int → Int} (hP : ¬ P (i : Int) = true) (h : zML cI c1 H b (fC P i) rm (fun j => mo (fI P i j))) : zML cI c1 H b (fC P (i + 1)) rm (fun j => mo (fI P (i + 1) j)) := by
  rw [fC_n hP, fI_n hP]
  exact h
theorem zML.nil {cI c1 : ClassId} {H : Heap} {b : Nat} {rm : Int → Nat} {mo : Int → Int → Int} (h : vA c1 H b 0 (fun _ => .null)) : zML cI c1 H b 0 rm mo := ⟨vA.cg h (fun j h0 h1 => by omega), fun i h0 h1 => by omega⟩
def okA (kd : Nat → Int) (ub x : Nat) : Prop := kd x = -1 ∨ ub ≤ x
theorem okA.cons {kd : Nat → Int} {ub v K : Nat} {rm : Int → Nat} (h : ∀ j : Int, 0 ≤ j → j < (K : Int) → okA kd ub (rm j)) (hv : okA kd ub v) (j : Int) (h0 : 0 ≤ j) (h1 : j < ((K + 1 : Nat) : Int)) : okA kd ub (if j = (K : Int) then v else rm j) := by
  split
  · exact hv
  · exact h j h0 (by omega)
theorem geA.cons {ub v K : Nat} {rm : Int → Nat} (h : ∀ j : Int, 0 ≤ j → j < (K : Int) → ub ≤ rm j) (hv : ub ≤ v) (j : Int) (h0 : 0 ≤ j) (h1 : j < ((K + 1 : Nat) : Int)) : ub ≤ (if j = (K : Int) then v else rm j) := by
  split
  · exact hv
  · exact h j h0 (by omega)
/-- the filter's places -/
theorem fI_in {P : Int → Bool} {k : Nat} {j : Int} (h0 : 0 ≤ j) (h1 : j < (fC P k : Int)) : 0 ≤ fI P k j ∧ fI P k j < (k : Int) ∧ P (fI P k j) = true := by
  induction k with
  | zero => exact absurd h1 (by show ¬ j < ((0 : Nat) : Int); omega)
  | succ k ih =>
    by_cases h : P (k : Int) = true
    · rw [fI_y h]
      rw [fC_y h] at h1
      by_cases e : j = (fC P k : Int)
      · show 0 ≤ (if j = (fC P k : Int) then (k : Int) else fI P k j) ∧ (if j = (fC P k : Int) then (k : Int) else fI P k j) < ((k + 1 : Nat) : Int) ∧ P (if j = (fC P k : Int) then (k : Int) else fI P k j) = true
        rw [if_pos e]
        exact ⟨by omega, by omega, h⟩
      · show 0 ≤ (if j = (fC P k : Int) then (k : Int) else fI P k j) ∧ (if j = (fC P k : Int) then (k : Int) else fI P k j) < ((k + 1 : Nat) : Int) ∧ P (if j = (fC P k : Int) then (k : Int) else fI P k j) = true
        rw [if_neg e]
        have := ih (by omega)
        exact ⟨this.1, by omega, this.2.2⟩
    · rw [fI_n h]
      rw [fC_n h] at h1
      have := ih h1
      exact ⟨this.1, by omega, this.2.2⟩
theorem fI_on {P : Int → Bool} {k : Nat} {i : Int} (h0 : 0 ≤ i) (h1 : i < (k : Int)) (hP : P i = true) : ∃ j : Int, 0 ≤ j ∧ j < (fC P k : Int) ∧ fI P k j = i := by
  induction k with
  | zero => omega
  | succ k ih =>
    by_cases e : i = (k : Int)
    · subst e
      refine ⟨(fC P k : Int), by omega, by rw [fC_y hP]; omega, ?_⟩
      rw [fI_y hP]
      exact if_pos rfl
    · obtain ⟨j, j0, j1, j2⟩ := ih (by omega)
      by_cases h : P (k : Int) = true
      · refine ⟨j, j0, by rw [fC_y h]; omega, ?_⟩
        rw [fI_y h]
        exact (if_neg (by omega)).trans j2
      · exact ⟨j, j0, by rw [fC_n h]; exact j1, by rw [fI_n h]; exact j2⟩
section ZMU
variable {D : va_G} {cI c1 c2 : ClassId} {s0 ub : Nat} {H H1 : Heap} {a : Nat} {kd : Nat → Int} {ap ac am : Nat} {ra rc : Int → Nat} {rr : Int → Int → Nat} {rm : Int → Nat} {n : Nat} {pa sp al co da : Int → Int} {M : Nat} {mo : Int → Int → Int} {td wn : Int}
theorem zSL.mrsU {am' : Nat} {rm' : Int → Nat} {M' : Nat} {mo' : Int → Int → Int} (h : zSL D cI c1 c2 s0 ub H a kd ap ac am ra rc rr rm n pa sp al co da M mo td wn) (hu : ub ≤ H.size) (ho : va_P D vwCl [(a, obS td wn ap ac am')] H1) (hk : ∀ x : Nat, x ≠ a → H1[x]? = H[x]?) (hM : M' ≤ 240) (h1 : zML cI c1 H am' M' rm' mo') (hb : ub ≤ am') (h2 : ∀ i : Int, 0 ≤ i → i < (M' : Int) → okA kd ub (rm' i)) :
    ∃ kd2 : Nat → Int, zSL D cI c1 c2 s0 H.size H1 a kd2 ap ac am' ra rc rr rm' n pa sp al co da M' mo' td wn := by
  refine ⟨_, (h.up hu h.s0u).mrs ho hk hM ⟨h1.1, if_pos ⟨hb, h1.1.lt⟩⟩ (fun i h0 hi => ⟨h1.2 i h0 hi, ?_⟩)⟩
  have hlt := (h1.2 i h0 hi).lt
  rcases h2 i h0 hi with q | q
  · by_cases g : ub ≤ rm' i ∧ rm' i < H.size
    · exact if_pos g
    · exact (if_neg g).trans q
  · exact if_pos ⟨q, hlt⟩
end ZMU
theorem rowP_sp (pa sp al : Int → Int) (i x : Int) (j : Int) : up (rowP pa sp al i) 1 x j = rowP pa (up sp i x) al i j := by
  unfold up rowP
  by_cases h1 : j = 1
  · subst h1
    rw [if_pos rfl, if_neg (by decide), if_pos rfl]
    exact (if_pos rfl).symm
  · rw [if_neg h1, if_neg h1, if_neg h1]
theorem rowP_al (pa sp al : Int → Int) (i x : Int) {j : Int} (h0 : 0 ≤ j) (h3 : j < 3) : up (rowP pa sp al i) 2 x j = rowP pa sp (up al i x) i j := by
  unfold up rowP
  by_cases h2 : j = 2
  · subst h2
    rw [if_pos rfl, if_neg (by decide), if_neg (by decide)]
    exact (if_pos rfl).symm
  · rw [if_neg h2]
    by_cases e0 : j = 0
    · rw [if_pos e0, if_pos e0]
    · rw [if_neg e0, if_neg e0, if_pos (by omega), if_pos (by omega)]
def dP (mo : Int → Int → Int) (d : Int) (i : Int) : Bool := decide (mo i 0 ≠ d)
def rP (mo : Int → Int → Int) (p d : Int) (i : Int) : Bool := decide (¬ (mo i 0 = p ∧ mo i 1 = d))
def eP (mo : Int → Int → Int) (t : Int) (i : Int) : Bool := decide (t < enF (mo i))
/-- the kept ones, then those that are brought -/
def dieM (mo : Int → Int → Int) (M : Nat) (d : Int) (br : Int → Int → Int) : Int → Int → Int := fun j => if j < (fC (dP mo d) M : Int) then mo (fI (dP mo d) M j) else br (j - (fC (dP mo d) M : Int))
def icS (mo : Int → Int → Int) (M n : Nat) (td : Int) (k : Int) : Int := icF mo M n (td + k)
theorem dieM_lo {mo : Int → Int → Int} {M : Nat} {d : Int} {br : Int → Int → Int} {j : Int} (h : j < (fC (dP mo d) M : Int)) : dieM mo M d br j = mo (fI (dP mo d) M j) := if_pos h
theorem dieM_hi {mo : Int → Int → Int} {M : Nat} {d : Int} {br : Int → Int → Int} {i : Nat} : dieM mo M d br ((fC (dP mo d) M + i : Nat) : Int) = br (i : Int) := by
  unfold dieM
  rw [if_neg (by omega), show ((fC (dP mo d) M + i : Nat) : Int) - (fC (dP mo d) M : Int) = (i : Int) by omega]
theorem zML.die {cI c1 : ClassId} {H : Heap} {b' v : Nat} {rm : Int → Nat} {mo : Int → Int → Int} {M : Nat} {d : Int} {br : Int → Int → Int} {i : Nat} (h2 : ∀ j : Int, 0 ≤ j → j < ((fC (dP mo d) M + i : Nat) : Int) → iA cI H (rm j) 9 (dieM mo M d br j)) (hv : iA cI H v 9 (br (i : Int))) (hb : rA c1 H b' (fC (dP mo d) M + i + 1) (fun j => if j = ((fC (dP mo d) M + i : Nat) : Int) then v else rm j)) : zML cI c1 H b' (fC (dP mo d) M + (i + 1)) (fun j => if j = ((fC (dP mo d) M + i : Nat) : Int) then v else rm j) (dieM mo M d br) := by
  refine (zML.push (K := fC (dP mo d) M + i) h2 hv hb).cg rfl (fun j _ _ => ?_)
  by_cases e : j = ((fC (dP mo d) M + i : Nat) : Int)
  · rw [if_pos e, e]
    exact dieM_hi.symm
  · rw [if_neg e]
theorem lvS_lt {sp : Int → Int} {n : Nat} (h : ∀ j : Int, 0 ≤ j → j < (n : Int) → sp j < (n : Int)) (p : Int) {j : Int} (h0 : 0 ≤ j) (h1 : j < (n : Int)) : lvS sp p j < (n : Int) := by
  unfold lvS
  split
  · unfold up
    split
    · omega
    · exact h j h0 h1
  · exact h j h0 h1
set_option maxHeartbeats 4000000 in
set_option maxRecDepth 100000 in
theorem kX3_brought (l : Launch) (D : va_G) (cI cZ c1 c2 : ClassId) (sz : Nat) (s0 : Nat) (a : Nat) (n : Nat) (pa : Int → Int) (sp : Int → Int) (al : Int → Int) (co : Int → Int) (da : Int → Int) (M : Nat) (mo : Int → Int → Int) (td : Int) (wn : Int) (d : Int) (hpa : ∀ j : Int, -1 ≤ pa j ∧ pa j ≤ 15) (hsp : ∀ j : Int, -1 ≤ sp j ∧ sp j ≤ 15) (hco : ∀ j : Int, 0 ≤ co j ∧ co j ≤ 5) (hda : ∀ j : Int, 0 ≤ da j ∧ da j ≤ 60) (hal : ∀ j : Int, 0 ≤ al j ∧ al j ≤ 1) (hd : 0 ≤ d ∧ d < (n : Int)) : zG l yX3_brought wsX3_brought ({ frames := 1, cells := 50, slots := 552, locals := 26 } : Room) D cI cZ c1 c2 [.ref a, .int (zI d)] sz (fun H => zSW D cI c1 c2 s0 a n pa sp al co da M mo td wn H) (fun v H => ∃ (b : Nat) (rmb : Int → Nat), v = some (.ref b) ∧ sz ≤ b ∧ zML cI c1 H b (fC (bP al da (dgF pa sp n d)) n) rmb (fun j => (bM co da (dgF pa sp n d) td d) (fI (bP al da (dgF pa sp n d)) n j)) ∧ ∀ j : Int, 0 ≤ j → j < (fC (bP al da (dgF pa sp n d)) n : Int) → sz ≤ rmb j) (fun q : Nat => sz ≤ q) (50) (552) := by
  refine Met.ofW (cc := cX3_brought) (maxL := 7) (ret := (some (.array (.array .int)))) (by decide) rfl ?_
  intro p0 e9 s9 m9 ag9 below meth c9 s₁ B hml hv
  obtain ⟨hav, hsz, hPre, hK, hQ⟩ := hv
  subst hsz
  have hx := B.exec
  have hb := B.bytes
  have hr := B.returns
  have hts := atoms_spec (ws := wsX3_brought) B.pre
  have hown : s9.vm.findClass RX3 = some m9.cls := findClass_of_methodNamed B.named
  have hlocks := B.notSynchronized
  have hin3 : ∀ w ∈ u_ws RX3 TX3 5, w ∈ wsX3_brought := by decide +kernel
  have hl := lv_entry ([.ref a, .int (zI d)]) (n := 7) (Nat.le_of_ble_eq_true rfl)
  have hE : entryFrame m9 ag9 7 = F0 m9 0 ((lg_sl ([.ref a, .int (zI d)]) ++ List.replicate (7 - (lg_sl ([.ref a, .int (zI d)])).length) Slot.unset).toArray) [] := by rw [hav]; exact lg_entry_eq m9 _ _
  obtain ⟨Q0, hQ0⟩ : ∃ Q0, Q0 = MQ below (zGQ (fun v H => ∃ (b : Nat) (rmb : Int → Nat), v = some (.ref b) ∧ s9.heap.size ≤ b ∧ zML cI c1 H b (fC (bP al da (dgF pa sp n d)) n) rmb (fun j => (bM co da (dgF pa sp n d) td d) (fI (bP al da (dgF pa sp n d)) n j)) ∧ ∀ j : Int, 0 ≤ j → j < (fC (bP al da (dgF pa sp n d)) n : Int) → s9.heap.size ≤ rmb j) (fun q : Nat => s9.heap.size ≤ q)) ag9 s9 (50) (552) (fun q : Nat => s9.heap.size ≤ q) := ⟨_, rfl⟩
  show W p0 l e9 ({ frames := 1, cells := 50, slots := 552, locals := 26 } : Room) s9 m9 ag9 below meth c9 s9.heap [] 0 0 (MQ below (zGQ (fun v H => ∃ (b : Nat) (rmb : Int → Nat), v = some (.ref b) ∧ s9.heap.size ≤ b ∧ zML cI c1 H b (fC (bP al da (dgF pa sp n d)) n) rmb (fun j => (bM co da (dgF pa sp n d) td d) (fI (bP al da (dgF pa sp n d)) n j)) ∧ ∀ j : Int, 0 ≤ j → j < (fC (bP al da (dgF pa sp n d)) n : Int) → s9.heap.size ≤ rmb j) (fun q : Nat => s9.heap.size ≤ q)) ag9 s9 (50) (552) (fun q : Nat => s9.heap.size ≤ q)) _
  rw [hE, ← hQ0]
  have hS : va_S (fun q : Nat => s9.heap.size ≤ q) s9.heap s9.heap [] := va_S.rf
  have hU : s9.heap.size ≤ s9.heap.size := Nat.le_refl _
  generalize (lg_sl ([.ref a, .int (zI d)]) ++ List.replicate (7 - (lg_sl ([.ref a, .int (zI d)])).length) Slot.unset).toArray = ls at hl ⊢
  have hl : lv_has ls 7 [(0, .ref a), (1, .int (zI d))] := hl
  obtain ⟨kd, ap, ac, am, ra, rc, rr, rm, hL0⟩ := hPre
  have hL := hL0
  refine lv_aload_n hx hb dX3_brought_0 rfl (lv_at hl 0 rfl) ?_
  refine zcallGV (ci := 3) (cq := (RX3, TX3, 5)) (As := []) (rest := []) ⟨hx, hb, hml, hown, hts⟩ hK hQ (kX3_degrees l D cI cZ c1 c2 s9.heap.size s0 a n pa sp al co da M mo td wn hpa hsp) (cwV 0 hts gX3_brought_X3_degrees rfl rfl rfl (by decide +kernel) ⟨by first | exact Nat.le_of_ble_eq_true rfl | (show _ ≤ _; omega), Nat.le_of_ble_eq_true rfl⟩) (hL.toW hU) hL.obj hS (fun q h => Nat.le_trans hU h) rfl rfl hl.1 rfl (Nat.le_of_ble_eq_true rfl) dX3_brought_1 ⟨show 0 + 17 ≤ 50 from by omega, show 0 + 272 ≤ 552 from by omega⟩ (fun v9 H locs hp9 hz9 hk9 hS => ?_)
  obtain ⟨mx, rfl, hge_mx, hM⟩ := hp9
  have hk9 := fun (x : Nat) (h : x < _) => hk9 x h (Nat.not_le.mpr h)
  have hge_mx := Nat.le_trans hU hge_mx
  have hkp : ∀ x : Nat, x < s9.heap.size → H[x]? = s9.heap[x]? := fun x h => hS.2.1 x h (Nat.not_le.mpr h)
  have hL := hL0.keep (fun x _ h => hkp x h)
  have hU : s9.heap.size ≤ H.size := hS.1
  refine W.eq (g2 := F0 m9 4 ls [.ref mx]) rfl ?_
  refine lv_astore_n (lv' := [(2, .ref mx), (0, .ref a), (1, .int (zI d))]) hx hb dX3_brought_4 rfl hl (by decide) rfl (fun ls hl => ?_)
  refine zr_iconst hx hb dX3_brought_5 ?_
  refine zs_newA (N' := 0) hx hb hQ hown (hts (.classLink RX3 7 "[I") (by decide +kernel)) hS (z := 0) (by omega) (by omega) (show 0 + 17 + 1 ≤ 50 from by omega) (show 0 + 272 + 0 ≤ 552 from by omega) dX3_brought_6 (fun H b0 hq_b0 hi_b0 hz9 hk9 hS => ?_)
  have hM := mA.grow hM hk9
  have hge_b0 : s9.heap.size ≤ b0 := by omega
  have hU : s9.heap.size ≤ H.size := hS.1
  have hkp : ∀ x : Nat, x < s9.heap.size → H[x]? = s9.heap[x]? := fun x h => hS.2.1 x h (Nat.not_le.mpr h)
  have hL := hL0.keep (fun x _ h => hkp x h)
  refine lv_astore_n (lv' := [(3, .ref b0), (2, .ref mx), (0, .ref a), (1, .int (zI d))]) hx hb dX3_brought_9 rfl hl (by decide) rfl (fun ls hl => ?_)
  refine zr_iconst hx hb dX3_brought_10 ?_
  refine lv_istore (lv' := [(4, .int (zI 0)), (3, .ref b0), (2, .ref mx), (0, .ref a), (1, .int (zI d))]) hx hb dX3_brought_11 hl (by decide) rfl (fun ls hl => ?_)
  have L13_1 : ∀ (kf p : Nat), p ≤ n → n - p < kf → ∀ (H : Heap) (locs : List Loc) (ls : Array Slot) (b : Nat) (rmb : Int → Nat) (cc ss : Nat), (mA cI c1 H mx n (dgF pa sp n)) → (zML cI c1 H b (fC (bP al da (dgF pa sp n d)) p) rmb (fun j => (bM co da (dgF pa sp n d) td d) (fI (bP al da (dgF pa sp n d)) p j))) → va_S (fun q : Nat => s9.heap.size ≤ q) s9.heap H locs → lv_has ls 7 [(4, .int (zI (p : Int))), (3, .ref b), (2, .ref mx), (0, .ref a), (1, .int (zI d))] → (s9.heap.size ≤ b) → (∀ j : Int, 0 ≤ j → j < (fC (bP al da (dgF pa sp n d)) p : Int) → s9.heap.size ≤ rmb j) → cc ≤ 18 + 2 * p → ss ≤ 272 + 9 * p + tri (fC (bP al da (dgF pa sp n d)) p) → W p0 l e9 (({ frames := 1, cells := 50, slots := 552, locals := 26 } : Room)) s9 m9 ag9 below meth c9 H locs cc ss Q0 (F0 m9 13 ls []) := by
    intro kf
    induction kf with
    | zero => intro p h1 h2; omega
    | succ kf ih =>
      intro p hi_p hk_p H locs ls b rmb cc ss hM hB hS hl hgb hgr hcc hss
      have ih_p := ih
      clear ih
      have hkp : ∀ x : Nat, x < s9.heap.size → H[x]? = s9.heap[x]? := fun x h => hS.2.1 x h (Nat.not_le.mpr h)
      have hL := hL0.keep (fun x _ h => hkp x h)
      have hU : s9.heap.size ≤ H.size := hS.1
      have hn9 := hL.n16
      refine lv_iload hx hb dX3_brought_13 (lv_at hl 0 rfl) ?_
      refine lv_aload_n hx hb dX3_brought_15 rfl (lv_at hl 3 rfl) ?_
      refine va_get (D := D) (ci := 3) (v := .ref ap) (C := RX3) (T := TX3) (N := 5) hx hb hts hin3 hown hK hL.obj 0 rfl rfl 2 (by decide) (hts (.fieldLink RX3 9 "MourningRibbonsLaw$Sim" "people" "[[I") (by decide +kernel)) (fun _ h9 => h9) rfl dX3_brought_16 ?_
      refine zs_len1 hx hb hQ hL.ppl dX3_brought_19 ?_
      have b_2 := hL.n16
      refine zr_icmp_ge (tgt := 157) hx hb dX3_brought_20 (by decide) ⟨by omega, by omega⟩ ⟨by omega, by omega⟩ (fun c_3 => ?_) (fun c_3 => ?_)
      · have c_3 := c_3
        have x_4 : p = n := by omega
        try rw [x_4] at hl
        try rw [x_4] at hM
        try rw [x_4] at hB
        try rw [x_4] at hgb
        try rw [x_4] at hgr
        try rw [x_4] at hcc
        try rw [x_4] at hss
        refine lv_aload_n hx hb dX3_brought_157 rfl (lv_at hl 1 rfl) ?_
        have htr2 := tri_16 (a := fC (bP al da (dgF pa sp n d)) n) (by have := fC_le (bP al da (dgF pa sp n d)) n; have := hL.n16; omega)
        have hn9 := hL.n16
        rw [hQ0]
        exact zgret_a hx hb hr hlocks (⟨b, rmb, rfl, hgb, hB, hgr⟩) hS dX3_brought_158 (by omega) (by omega)
      · have c_3 := c_3
        have hcl := fC_le (bP al da (dgF pa sp n d)) p
        have htr := tri_16 (a := fC (bP al da (dgF pa sp n d)) p + 1) (by omega)
        rw [tri_s] at htr
        refine lv_aload_n hx hb dX3_brought_23 rfl (lv_at hl 2 rfl) ?_
        refine lv_iload_n hx hb dX3_brought_24 rfl (lv_at hl 4 rfl) ?_
        refine zs_ald1 (v := .ref (rd mx d)) (i := d) hx hb hQ hM.1 (by omega) (by omega) (by have := hL.n16; omega) rfl dX3_brought_25 ?_
        refine lv_iload hx hb dX3_brought_26 (lv_at hl 0 rfl) ?_
        refine zs_ild (v := dgF pa sp n d (p : Int)) (i := (p : Int)) hx hb hQ (hM.2 d (by omega) (by omega)) (by omega) (by omega) (by have := hL.n16; omega) rfl dX3_brought_28 ?_
        have b_5 := dgF_bd pa sp n d (p : Int)
        refine lv_istore (lv' := [(5, .int (zI (dgF pa sp n d (p : Int)))), (4, .int (zI (p : Int))), (3, .ref b), (2, .ref mx), (0, .ref a), (1, .int (zI d))]) hx hb dX3_brought_29 hl (by decide) rfl (fun ls hl => ?_)
        refine lv_aload_n hx hb dX3_brought_31 rfl (lv_at hl 4 rfl) ?_
        refine va_get (D := D) (ci := 3) (v := .ref ap) (C := RX3) (T := TX3) (N := 5) hx hb hts hin3 hown hK hL.obj 0 rfl rfl 2 (by decide) (hts (.fieldLink RX3 9 "MourningRibbonsLaw$Sim" "people" "[[I") (by decide +kernel)) (fun _ h9 => h9) rfl dX3_brought_32 ?_
        refine lv_iload hx hb dX3_brought_35 (lv_at hl 1 rfl) ?_
        refine zs_ald1 (v := .ref (ra (p : Int))) (i := (p : Int)) hx hb hQ hL.ppl (by omega) (by omega) (by have := hL.n16; omega) rfl dX3_brought_37 ?_
        refine zr_iconst hx hb dX3_brought_38 ?_
        refine zs_ild (v := al (p : Int)) (i := 2) hx hb hQ (hL.row (p : Int) (by omega) (by omega)) (by decide) (by decide) (by decide) rfl dX3_brought_39 ?_
        have b_6 := hal (p : Int)
        refine zr_if_eq (tgt := 151) hx hb dX3_brought_40 (by decide) ⟨by omega, by omega⟩ (fun c_7 => ?_) (fun c_7 => ?_)
        · have c_7 := c_7
          have hno : ¬ (bP al da (dgF pa sp n d)) (p : Int) = true := bP_n (by omega)
          refine zr_iinc (v := (p : Int) + 1) (lv' := [(4, .int (zI ((p : Int) + 1))), (5, .int (zI (dgF pa sp n d (p : Int)))), (3, .ref b), (2, .ref mx), (0, .ref a), (1, .int (zI d))]) hx hb dX3_brought_151 hl (k := 1) rfl rfl (by decide) rfl (fun ls hl => ?_)
          refine lv_goto (tgt := 13) hx hb dX3_brought_154 (by decide) ?_
          have hl := lv_sub hl (l' := [(4, .int (zI ((p : Int) + 1))), (3, .ref b), (2, .ref mx), (0, .ref a), (1, .int (zI d))]) [0, 2, 3, 4, 5] rfl
          have e_8 : ((((p + 1) : Nat) : Int) : Int) = (p : Int) + 1 := by omega
          have hl : lv_has ls 7 [(4, .int (zI (((p + 1) : Nat) : Int))), (3, .ref b), (2, .ref mx), (0, .ref a), (1, .int (zI d))] := by rw [e_8]; exact hl
          exact ih_p (p + 1) (by omega) (by omega) _ _ _ b rmb _ _ hM (zML.skip hno hB) hS hl hgb (by rw [fC_n hno]; exact hgr) (by omega) (by rw [fC_n hno]; omega)
        · have c_7 := c_7
          refine lv_iload hx hb dX3_brought_43 (lv_at hl 0 rfl) ?_
          refine zr_if_eq (tgt := 151) hx hb dX3_brought_45 (by decide) ⟨by omega, by omega⟩ (fun c_9 => ?_) (fun c_9 => ?_)
          · have c_9 := c_9
            have hno : ¬ (bP al da (dgF pa sp n d)) (p : Int) = true := bP_n (by omega)
            refine zr_iinc (v := (p : Int) + 1) (lv' := [(4, .int (zI ((p : Int) + 1))), (5, .int (zI (dgF pa sp n d (p : Int)))), (3, .ref b), (2, .ref mx), (0, .ref a), (1, .int (zI d))]) hx hb dX3_brought_151 hl (k := 1) rfl rfl (by decide) rfl (fun ls hl => ?_)
            refine lv_goto (tgt := 13) hx hb dX3_brought_154 (by decide) ?_
            have hl := lv_sub hl (l' := [(4, .int (zI ((p : Int) + 1))), (3, .ref b), (2, .ref mx), (0, .ref a), (1, .int (zI d))]) [0, 2, 3, 4, 5] rfl
            have e_10 : ((((p + 1) : Nat) : Int) : Int) = (p : Int) + 1 := by omega
            have hl : lv_has ls 7 [(4, .int (zI (((p + 1) : Nat) : Int))), (3, .ref b), (2, .ref mx), (0, .ref a), (1, .int (zI d))] := by rw [e_10]; exact hl
            exact ih_p (p + 1) (by omega) (by omega) _ _ _ b rmb _ _ hM (zML.skip hno hB) hS hl hgb (by rw [fC_n hno]; exact hgr) (by omega) (by rw [fC_n hno]; omega)
          · have c_9 := c_9
            refine lv_aload_n hx hb dX3_brought_48 rfl (lv_at hl 4 rfl) ?_
            refine lv_iload hx hb dX3_brought_49 (lv_at hl 0 rfl) ?_
            refine zcallGV (ci := 3) (cq := (RX3, TX3, 5)) (As := [.int (zI (dgF pa sp n d (p : Int)))]) (rest := []) ⟨hx, hb, hml, hown, hts⟩ hK hQ (kX3_length l D cI cZ c1 c2 H.size s0 a n pa sp al co da M mo td wn (dgF pa sp n d (p : Int)) hda (by omega)) (cwV 1 hts gX3_brought_X3_length rfl rfl rfl (by decide +kernel) ⟨by first | exact Nat.le_of_ble_eq_true rfl | (show _ ≤ _; omega), Nat.le_of_ble_eq_true rfl⟩) (hL.toW hU) hL.obj hS (fun q h => Nat.le_trans hU h) rfl rfl hl.1 rfl (Nat.le_of_ble_eq_true rfl) dX3_brought_51 ⟨show cc + 0 ≤ 50 from by omega, show ss + 0 ≤ 552 from by omega⟩ (fun v9 H locs hp9 hz9 hk9 hS => ?_)
            subst hp9
            have hk9 := fun (x : Nat) (h : x < _) => hk9 x h (Nat.not_le.mpr h)
            have hM := mA.grow hM hk9
            have hB := zML.grow hB hk9
            have hkp : ∀ x : Nat, x < s9.heap.size → H[x]? = s9.heap[x]? := fun x h => hS.2.1 x h (Nat.not_le.mpr h)
            have hL := hL0.keep (fun x _ h => hkp x h)
            have b_11 := dAll_bd hda 16 (dgF pa sp n d (p : Int))
            have hU : s9.heap.size ≤ H.size := hS.1
            refine W.eq (g2 := F0 m9 54 ls [.int (zI (dAll da 16 (dgF pa sp n d (p : Int))))]) rfl ?_
            refine zr_if_ne (tgt := 60) hx hb dX3_brought_54 (by decide) ⟨by omega, by omega⟩ (fun c_12 => ?_) (fun c_12 => ?_)
            · have c_12 := c_12
              have hyes : (bP al da (dgF pa sp n d)) (p : Int) = true := bP_y (by omega)
              refine lv_aload_n hx hb dX3_brought_60 rfl (lv_at hl 4 rfl) ?_
              refine va_get (D := D) (ci := 3) (v := .ref ac) (C := RX3) (T := TX3) (N := 5) hx hb hts hin3 hown hK hL.obj 0 rfl rfl 3 (by decide) (hts (.fieldLink RX3 17 "MourningRibbonsLaw$Sim" "code" "[[[I") (by decide +kernel)) (fun _ h9 => h9) rfl dX3_brought_61 ?_
              refine lv_iload hx hb dX3_brought_64 (lv_at hl 0 rfl) ?_
              refine zs_ald2 (v := .ref (rc (dgF pa sp n d (p : Int)))) (i := dgF pa sp n d (p : Int)) hx hb hQ hL.cod (by omega) (by omega) (by decide) rfl dX3_brought_66 ?_
              refine lv_astore (lv' := [(6, .ref (rc (dgF pa sp n d (p : Int)))), (5, .int (zI (dgF pa sp n d (p : Int)))), (4, .int (zI (p : Int))), (3, .ref b), (2, .ref mx), (0, .ref a), (1, .int (zI d))]) hx hb dX3_brought_67 hl (by decide) rfl (fun ls hl => ?_)
              refine lv_aload_n hx hb dX3_brought_69 rfl (lv_at hl 3 rfl) ?_
              refine zr_bipush hx hb dX3_brought_70 (by decide) ?_
              refine zs_newI (N' := 9) hx hb hQ (hts (.arrayClass .int) (by decide +kernel)) hS (z := 9) (by omega) (by omega) (show cc + 1 ≤ 50 from by omega) (show ss + 9 ≤ 552 from by omega) dX3_brought_72 (fun H w hq_w hi_w hz9 hk9 hS => ?_)
              have hkA := fun (x : Nat) (hx : x < w) => hk9 x (by omega)
              have hge_w : s9.heap.size ≤ w := by omega
              have hU : s9.heap.size ≤ H.size := hS.1
              have hkp : ∀ x : Nat, x < s9.heap.size → H[x]? = s9.heap[x]? := fun x h => hS.2.1 x h (Nat.not_le.mpr h)
              have hL := hL0.keep (fun x _ h => hkp x h)
              refine lv_dup hx hb dX3_brought_74 rfl ?_
              refine zr_iconst hx hb dX3_brought_75 ?_
              refine lv_iload hx hb dX3_brought_76 (lv_at hl 2 rfl) ?_
              refine zs_ist (i := 0) (x := (p : Int)) hx hb hQ hi_w hS (hge_w) (by decide) (by decide) (by decide) dX3_brought_78 (fun H locs hv9 hz9 hk9 hS => ?_)
              have hkA := fun (x : Nat) (hx : x < w) => (hk9 x (Nat.ne_of_lt hx)).trans (hkA x hx)
              have hi_w := hv9
              have hU : s9.heap.size ≤ H.size := hS.1
              have hkp : ∀ x : Nat, x < s9.heap.size → H[x]? = s9.heap[x]? := fun x h => hS.2.1 x h (Nat.not_le.mpr h)
              have hL := hL0.keep (fun x _ h => hkp x h)
              refine lv_dup hx hb dX3_brought_79 rfl ?_
              refine zr_iconst hx hb dX3_brought_80 ?_
              refine lv_iload_n hx hb dX3_brought_81 rfl (lv_at hl 6 rfl) ?_
              refine zs_ist (i := 1) (x := d) hx hb hQ hi_w hS (hge_w) (by decide) (by decide) (by decide) dX3_brought_82 (fun H locs hv9 hz9 hk9 hS => ?_)
              have hkA := fun (x : Nat) (hx : x < w) => (hk9 x (Nat.ne_of_lt hx)).trans (hkA x hx)
              have hi_w := hv9
              have hU : s9.heap.size ≤ H.size := hS.1
              have hkp : ∀ x : Nat, x < s9.heap.size → H[x]? = s9.heap[x]? := fun x h => hS.2.1 x h (Nat.not_le.mpr h)
              have hL := hL0.keep (fun x _ h => hkp x h)
              refine lv_dup hx hb dX3_brought_83 rfl ?_
              refine zr_iconst hx hb dX3_brought_84 ?_
              refine lv_aload_n hx hb dX3_brought_85 rfl (lv_at hl 5 rfl) ?_
              refine va_get (D := D) (ci := 3) (v := .int (zI td)) (C := RX3) (T := TX3) (N := 5) hx hb hts hin3 hown hK hL.obj 0 rfl rfl 0 (by decide) (hts (.fieldLink RX3 38 "MourningRibbonsLaw$Sim" "day" "I") (by decide +kernel)) (fun _ h9 => h9) rfl dX3_brought_86 ?_
              refine zs_ist (i := 2) (x := td) hx hb hQ hi_w hS (hge_w) (by decide) (by decide) (by decide) dX3_brought_89 (fun H locs hv9 hz9 hk9 hS => ?_)
              have hkA := fun (x : Nat) (hx : x < w) => (hk9 x (Nat.ne_of_lt hx)).trans (hkA x hx)
              have hi_w := hv9
              have hU : s9.heap.size ≤ H.size := hS.1
              have hkp : ∀ x : Nat, x < s9.heap.size → H[x]? = s9.heap[x]? := fun x h => hS.2.1 x h (Nat.not_le.mpr h)
              have hL := hL0.keep (fun x _ h => hkp x h)
              refine lv_dup hx hb dX3_brought_90 rfl ?_
              refine zr_iconst hx hb dX3_brought_91 ?_
              refine lv_aload hx hb dX3_brought_92 (lv_at hl 0 rfl) ?_
              refine zr_iconst hx hb dX3_brought_94 ?_
              refine zs_ald1 (v := .ref (rr (dgF pa sp n d (p : Int)) 0)) (i := 0) hx hb hQ (hL.cds (dgF pa sp n d (p : Int)) (by omega) (by omega)) (by decide) (by decide) (by decide) rfl dX3_brought_95 ?_
              refine zr_iconst hx hb dX3_brought_96 ?_
              refine zs_ild (v := co (192 + (((dgF pa sp n d (p : Int)) - 1) * 3 + 0))) (i := 0) hx hb hQ (hL.stg (dgF pa sp n d (p : Int)) 0 (by omega) (by omega) (by omega) (by omega)) (by decide) (by decide) (by decide) rfl dX3_brought_97 ?_
              have b_13 := hco (192 + (((dgF pa sp n d (p : Int)) - 1) * 3 + 0))
              refine zs_ist (i := 3) (x := co (192 + (((dgF pa sp n d (p : Int)) - 1) * 3 + 0))) hx hb hQ hi_w hS (hge_w) (by decide) (by decide) (by decide) dX3_brought_98 (fun H locs hv9 hz9 hk9 hS => ?_)
              have hkA := fun (x : Nat) (hx : x < w) => (hk9 x (Nat.ne_of_lt hx)).trans (hkA x hx)
              have hi_w := hv9
              have hU : s9.heap.size ≤ H.size := hS.1
              have hkp : ∀ x : Nat, x < s9.heap.size → H[x]? = s9.heap[x]? := fun x h => hS.2.1 x h (Nat.not_le.mpr h)
              have hL := hL0.keep (fun x _ h => hkp x h)
              refine lv_dup hx hb dX3_brought_99 rfl ?_
              refine zr_iconst hx hb dX3_brought_100 ?_
              refine lv_aload hx hb dX3_brought_101 (lv_at hl 0 rfl) ?_
              refine zr_iconst hx hb dX3_brought_103 ?_
              refine zs_ald1 (v := .ref (rr (dgF pa sp n d (p : Int)) 0)) (i := 0) hx hb hQ (hL.cds (dgF pa sp n d (p : Int)) (by omega) (by omega)) (by decide) (by decide) (by decide) rfl dX3_brought_104 ?_
              refine zr_iconst hx hb dX3_brought_105 ?_
              refine zs_ild (v := da (192 + (((dgF pa sp n d (p : Int)) - 1) * 3 + 0))) (i := 1) hx hb hQ (hL.stg (dgF pa sp n d (p : Int)) 0 (by omega) (by omega) (by omega) (by omega)) (by decide) (by decide) (by decide) rfl dX3_brought_106 ?_
              have b_14 := hda (192 + (((dgF pa sp n d (p : Int)) - 1) * 3 + 0))
              refine zs_ist (i := 4) (x := da (192 + (((dgF pa sp n d (p : Int)) - 1) * 3 + 0))) hx hb hQ hi_w hS (hge_w) (by decide) (by decide) (by decide) dX3_brought_107 (fun H locs hv9 hz9 hk9 hS => ?_)
              have hkA := fun (x : Nat) (hx : x < w) => (hk9 x (Nat.ne_of_lt hx)).trans (hkA x hx)
              have hi_w := hv9
              have hU : s9.heap.size ≤ H.size := hS.1
              have hkp : ∀ x : Nat, x < s9.heap.size → H[x]? = s9.heap[x]? := fun x h => hS.2.1 x h (Nat.not_le.mpr h)
              have hL := hL0.keep (fun x _ h => hkp x h)
              refine lv_dup hx hb dX3_brought_108 rfl ?_
              refine zr_iconst hx hb dX3_brought_109 ?_
              refine lv_aload hx hb dX3_brought_110 (lv_at hl 0 rfl) ?_
              refine zr_iconst hx hb dX3_brought_112 ?_
              refine zs_ald1 (v := .ref (rr (dgF pa sp n d (p : Int)) 1)) (i := 1) hx hb hQ (hL.cds (dgF pa sp n d (p : Int)) (by omega) (by omega)) (by decide) (by decide) (by decide) rfl dX3_brought_113 ?_
              refine zr_iconst hx hb dX3_brought_114 ?_
              refine zs_ild (v := co (192 + (((dgF pa sp n d (p : Int)) - 1) * 3 + 1))) (i := 0) hx hb hQ (hL.stg (dgF pa sp n d (p : Int)) 1 (by omega) (by omega) (by omega) (by omega)) (by decide) (by decide) (by decide) rfl dX3_brought_115 ?_
              have b_15 := hco (192 + (((dgF pa sp n d (p : Int)) - 1) * 3 + 1))
              refine zs_ist (i := 5) (x := co (192 + (((dgF pa sp n d (p : Int)) - 1) * 3 + 1))) hx hb hQ hi_w hS (hge_w) (by decide) (by decide) (by decide) dX3_brought_116 (fun H locs hv9 hz9 hk9 hS => ?_)
              have hkA := fun (x : Nat) (hx : x < w) => (hk9 x (Nat.ne_of_lt hx)).trans (hkA x hx)
              have hi_w := hv9
              have hU : s9.heap.size ≤ H.size := hS.1
              have hkp : ∀ x : Nat, x < s9.heap.size → H[x]? = s9.heap[x]? := fun x h => hS.2.1 x h (Nat.not_le.mpr h)
              have hL := hL0.keep (fun x _ h => hkp x h)
              refine lv_dup hx hb dX3_brought_117 rfl ?_
              refine zr_bipush hx hb dX3_brought_118 (by decide) ?_
              refine lv_aload hx hb dX3_brought_120 (lv_at hl 0 rfl) ?_
              refine zr_iconst hx hb dX3_brought_122 ?_
              refine zs_ald1 (v := .ref (rr (dgF pa sp n d (p : Int)) 1)) (i := 1) hx hb hQ (hL.cds (dgF pa sp n d (p : Int)) (by omega) (by omega)) (by decide) (by decide) (by decide) rfl dX3_brought_123 ?_
              refine zr_iconst hx hb dX3_brought_124 ?_
              refine zs_ild (v := da (192 + (((dgF pa sp n d (p : Int)) - 1) * 3 + 1))) (i := 1) hx hb hQ (hL.stg (dgF pa sp n d (p : Int)) 1 (by omega) (by omega) (by omega) (by omega)) (by decide) (by decide) (by decide) rfl dX3_brought_125 ?_
              have b_16 := hda (192 + (((dgF pa sp n d (p : Int)) - 1) * 3 + 1))
              refine zs_ist (i := 6) (x := da (192 + (((dgF pa sp n d (p : Int)) - 1) * 3 + 1))) hx hb hQ hi_w hS (hge_w) (by decide) (by decide) (by decide) dX3_brought_126 (fun H locs hv9 hz9 hk9 hS => ?_)
              have hkA := fun (x : Nat) (hx : x < w) => (hk9 x (Nat.ne_of_lt hx)).trans (hkA x hx)
              have hi_w := hv9
              have hU : s9.heap.size ≤ H.size := hS.1
              have hkp : ∀ x : Nat, x < s9.heap.size → H[x]? = s9.heap[x]? := fun x h => hS.2.1 x h (Nat.not_le.mpr h)
              have hL := hL0.keep (fun x _ h => hkp x h)
              refine lv_dup hx hb dX3_brought_127 rfl ?_
              refine zr_bipush hx hb dX3_brought_128 (by decide) ?_
              refine lv_aload hx hb dX3_brought_130 (lv_at hl 0 rfl) ?_
              refine zr_iconst hx hb dX3_brought_132 ?_
              refine zs_ald1 (v := .ref (rr (dgF pa sp n d (p : Int)) 2)) (i := 2) hx hb hQ (hL.cds (dgF pa sp n d (p : Int)) (by omega) (by omega)) (by decide) (by decide) (by decide) rfl dX3_brought_133 ?_
              refine zr_iconst hx hb dX3_brought_134 ?_
              refine zs_ild (v := co (192 + (((dgF pa sp n d (p : Int)) - 1) * 3 + 2))) (i := 0) hx hb hQ (hL.stg (dgF pa sp n d (p : Int)) 2 (by omega) (by omega) (by omega) (by omega)) (by decide) (by decide) (by decide) rfl dX3_brought_135 ?_
              have b_17 := hco (192 + (((dgF pa sp n d (p : Int)) - 1) * 3 + 2))
              refine zs_ist (i := 7) (x := co (192 + (((dgF pa sp n d (p : Int)) - 1) * 3 + 2))) hx hb hQ hi_w hS (hge_w) (by decide) (by decide) (by decide) dX3_brought_136 (fun H locs hv9 hz9 hk9 hS => ?_)
              have hkA := fun (x : Nat) (hx : x < w) => (hk9 x (Nat.ne_of_lt hx)).trans (hkA x hx)
              have hi_w := hv9
              have hU : s9.heap.size ≤ H.size := hS.1
              have hkp : ∀ x : Nat, x < s9.heap.size → H[x]? = s9.heap[x]? := fun x h => hS.2.1 x h (Nat.not_le.mpr h)
              have hL := hL0.keep (fun x _ h => hkp x h)
              refine lv_dup hx hb dX3_brought_137 rfl ?_
              refine zr_bipush hx hb dX3_brought_138 (by decide) ?_
              refine lv_aload hx hb dX3_brought_140 (lv_at hl 0 rfl) ?_
              refine zr_iconst hx hb dX3_brought_142 ?_
              refine zs_ald1 (v := .ref (rr (dgF pa sp n d (p : Int)) 2)) (i := 2) hx hb hQ (hL.cds (dgF pa sp n d (p : Int)) (by omega) (by omega)) (by decide) (by decide) (by decide) rfl dX3_brought_143 ?_
              refine zr_iconst hx hb dX3_brought_144 ?_
              refine zs_ild (v := da (192 + (((dgF pa sp n d (p : Int)) - 1) * 3 + 2))) (i := 1) hx hb hQ (hL.stg (dgF pa sp n d (p : Int)) 2 (by omega) (by omega) (by omega) (by omega)) (by decide) (by decide) (by decide) rfl dX3_brought_145 ?_
              have b_18 := hda (192 + (((dgF pa sp n d (p : Int)) - 1) * 3 + 2))
              refine zs_ist (i := 8) (x := da (192 + (((dgF pa sp n d (p : Int)) - 1) * 3 + 2))) hx hb hQ hi_w hS (hge_w) (by decide) (by decide) (by decide) dX3_brought_146 (fun H locs hv9 hz9 hk9 hS => ?_)
              have hkA := fun (x : Nat) (hx : x < w) => (hk9 x (Nat.ne_of_lt hx)).trans (hkA x hx)
              have hi_w := hv9
              have hU : s9.heap.size ≤ H.size := hS.1
              have hkp : ∀ x : Nat, x < s9.heap.size → H[x]? = s9.heap[x]? := fun x h => hS.2.1 x h (Nat.not_le.mpr h)
              have hL := hL0.keep (fun x _ h => hkp x h)
              have hM := mA.grow hM (fun x hx => hkA x (by omega))
              have hB := zML.grow hB (fun x hx => hkA x (by omega))
              refine zcallGS (As := [.ref b, .ref w]) (rest := []) ⟨hx, hb, hml, hown, hts⟩ hK hQ (kX3_more l D cI cZ c1 c2 H.size b w (fC (bP al da (dgF pa sp n d)) p) rmb (by omega)) (va_cwS 2 hts gX3_brought_X3_more rfl rfl rfl (by decide +kernel) ⟨by first | exact Nat.le_of_ble_eq_true rfl | (show _ ≤ _; omega), Nat.le_of_ble_eq_true rfl⟩) (⟨hB.1, fun j h0 h1 => ⟨_, _, hB.2 j h0 h1⟩, ⟨_, _, hi_w⟩⟩) hS (fun q h => Nat.le_trans hU h) rfl hl.1 rfl (Nat.le_of_ble_eq_true rfl) dX3_brought_147 ⟨show cc + 1 + 1 ≤ 50 from by omega, show ss + 9 + ((fC (bP al da (dgF pa sp n d)) p) + 1) ≤ 552 from by omega⟩ (fun v9 H locs hp9 hz9 hk9 hS => ?_)
              obtain ⟨bn, rfl, hge_bn, hr9⟩ := hp9
              have hk9 := fun (x : Nat) (h : x < _) => hk9 x h (Nat.not_le.mpr h)
              have hge_bn := Nat.le_trans hU hge_bn
              have hM := mA.grow hM hk9
              have hB := zML.grow hB hk9
              have hi_w := vA.grow hi_w hk9
              have hkp : ∀ x : Nat, x < s9.heap.size → H[x]? = s9.heap[x]? := fun x h => hS.2.1 x h (Nat.not_le.mpr h)
              have hL := hL0.keep (fun x _ h => hkp x h)
              have hU : s9.heap.size ≤ H.size := hS.1
              refine W.eq (g2 := F0 m9 150 ls [.ref bn]) rfl ?_
              have hB := zML.cons (mo := (bM co da (dgF pa sp n d) td d)) hyes hB.2 (show iA cI H w 9 ((bM co da (dgF pa sp n d) td d) (p : Int)) from hi_w) hr9
              have hgr := geA.cons hgr hge_w
              refine lv_astore_n (lv' := [(3, .ref bn), (6, .ref (rc (dgF pa sp n d (p : Int)))), (5, .int (zI (dgF pa sp n d (p : Int)))), (4, .int (zI (p : Int))), (2, .ref mx), (0, .ref a), (1, .int (zI d))]) hx hb dX3_brought_150 rfl hl (by decide) rfl (fun ls hl => ?_)
              refine zr_iinc (v := (p : Int) + 1) (lv' := [(4, .int (zI ((p : Int) + 1))), (3, .ref bn), (6, .ref (rc (dgF pa sp n d (p : Int)))), (5, .int (zI (dgF pa sp n d (p : Int)))), (2, .ref mx), (0, .ref a), (1, .int (zI d))]) hx hb dX3_brought_151 hl (k := 3) rfl rfl (by decide) rfl (fun ls hl => ?_)
              refine lv_goto (tgt := 13) hx hb dX3_brought_154 (by decide) ?_
              have hl := lv_sub hl (l' := [(4, .int (zI ((p : Int) + 1))), (3, .ref bn), (2, .ref mx), (0, .ref a), (1, .int (zI d))]) [0, 1, 4, 5, 6] rfl
              have e_19 : ((((p + 1) : Nat) : Int) : Int) = (p : Int) + 1 := by omega
              have hl : lv_has ls 7 [(4, .int (zI (((p + 1) : Nat) : Int))), (3, .ref bn), (2, .ref mx), (0, .ref a), (1, .int (zI d))] := by rw [e_19]; exact hl
              exact ih_p (p + 1) (by omega) (by omega) _ _ _ bn (fun j => if j = (fC (bP al da (dgF pa sp n d)) p : Int) then w else rmb j) _ _ hM hB hS hl hge_bn (by rw [fC_y hyes]; exact hgr) (by omega) (by rw [fC_y hyes, tri_s]; omega)
            · have c_12 := c_12
              have hno : ¬ (bP al da (dgF pa sp n d)) (p : Int) = true := bP_n (by omega)
              refine lv_goto (tgt := 151) hx hb dX3_brought_57 (by decide) ?_
              refine zr_iinc (v := (p : Int) + 1) (lv' := [(4, .int (zI ((p : Int) + 1))), (5, .int (zI (dgF pa sp n d (p : Int)))), (3, .ref b), (2, .ref mx), (0, .ref a), (1, .int (zI d))]) hx hb dX3_brought_151 hl (k := 1) rfl rfl (by decide) rfl (fun ls hl => ?_)
              refine lv_goto (tgt := 13) hx hb dX3_brought_154 (by decide) ?_
              have hl := lv_sub hl (l' := [(4, .int (zI ((p : Int) + 1))), (3, .ref b), (2, .ref mx), (0, .ref a), (1, .int (zI d))]) [0, 2, 3, 4, 5] rfl
              have e_20 : ((((p + 1) : Nat) : Int) : Int) = (p : Int) + 1 := by omega
              have hl : lv_has ls 7 [(4, .int (zI (((p + 1) : Nat) : Int))), (3, .ref b), (2, .ref mx), (0, .ref a), (1, .int (zI d))] := by rw [e_20]; exact hl
              exact ih_p (p + 1) (by omega) (by omega) _ _ _ b rmb _ _ hM (zML.skip hno hB) hS hl hgb (by rw [fC_n hno]; exact hgr) (by omega) (by rw [fC_n hno]; omega)
  have hl := lv_sub hl (l' := [(4, .int (zI 0)), (3, .ref b0), (2, .ref mx), (0, .ref a), (1, .int (zI d))]) [0, 1, 2, 3, 4] rfl
  exact L13_1 (n + 1) 0 (Nat.zero_le _) (by omega) _ _ _ b0 (fun _ => 0) _ _ hM (zML.nil hi_b0) hS hl hge_b0 (fun j h0 h1 => by have h1 : j < ((0 : Nat) : Int) := h1; omega) (by omega) (by show _ ≤ 272 + 9 * 0 + 0; omega)
set_option maxHeartbeats 4000000 in
set_option maxRecDepth 100000 in
theorem kX3_die (l : Launch) (D : va_G) (cI cZ c1 c2 : ClassId) (sz : Nat) (s0 : Nat) (a : Nat) (n : Nat) (pa : Int → Int) (sp : Int → Int) (al : Int → Int) (co : Int → Int) (da : Int → Int) (M : Nat) (mo : Int → Int → Int) (td : Int) (wn : Int) (d : Int) (hpa : ∀ j : Int, -1 ≤ pa j ∧ pa j ≤ 15) (hsp : ∀ j : Int, -1 ≤ sp j ∧ sp j ≤ 15) (hco : ∀ j : Int, 0 ≤ co j ∧ co j ≤ 5) (hda : ∀ j : Int, 0 ≤ da j ∧ da j ≤ 60) (hal : ∀ j : Int, 0 ≤ al j ∧ al j ≤ 1) (hmo : ∀ i j : Int, 0 ≤ i → i < (M : Int) → 0 ≤ j → j ≤ 8 → -1 ≤ mo i j ∧ mo i j ≤ 1000000) (hd : 0 ≤ d ∧ d < (n : Int)) (hM2 : fC (dP mo d) M + fC (bP al da (dgF pa sp n d)) n ≤ 240) : zG l yX3_die wsX3_die ({ frames := 2, cells := 291, slots := 29472, locals := 52 } : Room) D cI cZ c1 c2 [.ref a, .int (zI d)] sz (fun H => zSW D cI c1 c2 s0 a n pa sp al co da M mo td wn H) (fun v H => v = some (.int (zI (fC (bP al da (dgF pa sp n d)) n : Int))) ∧ zSW D cI c1 c2 s0 a n pa sp (up al d 0) co da (fC (dP mo d) M + fC (bP al da (dgF pa sp n d)) n) (dieM mo M d (fun j => (bM co da (dgF pa sp n d) td d) (fI (bP al da (dgF pa sp n d)) n j))) td wn H) (fun q : Nat => s0 ≤ q) (291) (29472) := by
  refine Met.ofW (cc := cX3_die) (maxL := 8) (ret := (some .int)) (by decide) rfl ?_
  intro p0 e9 s9 m9 ag9 below meth c9 s₁ B hml hv
  obtain ⟨hav, hsz, hPre, hK, hQ⟩ := hv
  subst hsz
  have hx := B.exec
  have hb := B.bytes
  have hr := B.returns
  have hts := atoms_spec (ws := wsX3_die) B.pre
  have hown : s9.vm.findClass RX3 = some m9.cls := findClass_of_methodNamed B.named
  have hlocks := B.notSynchronized
  have hin3 : ∀ w ∈ u_ws RX3 TX3 5, w ∈ wsX3_die := by decide +kernel
  have hl := lv_entry ([.ref a, .int (zI d)]) (n := 8) (Nat.le_of_ble_eq_true rfl)
  have hE : entryFrame m9 ag9 8 = F0 m9 0 ((lg_sl ([.ref a, .int (zI d)]) ++ List.replicate (8 - (lg_sl ([.ref a, .int (zI d)])).length) Slot.unset).toArray) [] := by rw [hav]; exact lg_entry_eq m9 _ _
  obtain ⟨Q0, hQ0⟩ : ∃ Q0, Q0 = MQ below (zGQ (fun v H => v = some (.int (zI (fC (bP al da (dgF pa sp n d)) n : Int))) ∧ zSW D cI c1 c2 s0 a n pa sp (up al d 0) co da (fC (dP mo d) M + fC (bP al da (dgF pa sp n d)) n) (dieM mo M d (fun j => (bM co da (dgF pa sp n d) td d) (fI (bP al da (dgF pa sp n d)) n j))) td wn H) (fun q : Nat => s0 ≤ q)) ag9 s9 (291) (29472) (fun q : Nat => s0 ≤ q) := ⟨_, rfl⟩
  show W p0 l e9 ({ frames := 2, cells := 291, slots := 29472, locals := 52 } : Room) s9 m9 ag9 below meth c9 s9.heap [] 0 0 (MQ below (zGQ (fun v H => v = some (.int (zI (fC (bP al da (dgF pa sp n d)) n : Int))) ∧ zSW D cI c1 c2 s0 a n pa sp (up al d 0) co da (fC (dP mo d) M + fC (bP al da (dgF pa sp n d)) n) (dieM mo M d (fun j => (bM co da (dgF pa sp n d) td d) (fI (bP al da (dgF pa sp n d)) n j))) td wn H) (fun q : Nat => s0 ≤ q)) ag9 s9 (291) (29472) (fun q : Nat => s0 ≤ q)) _
  rw [hE, ← hQ0]
  have hS : va_S (fun q : Nat => s0 ≤ q) s9.heap s9.heap [] := va_S.rf
  have hU : s9.heap.size ≤ s9.heap.size := Nat.le_refl _
  generalize (lg_sl ([.ref a, .int (zI d)]) ++ List.replicate (8 - (lg_sl ([.ref a, .int (zI d)])).length) Slot.unset).toArray = ls at hl ⊢
  have hl : lv_has ls 8 [(0, .ref a), (1, .int (zI d))] := hl
  obtain ⟨kd, ap, ac, am, ra, rc, rr, rm, hL⟩ := hPre
  have hs0 := hL.s0u
  have haub := hL.aub
  have hn9 := hL.n16
  have hM9 := hL.M240
  have hub := Nat.le_refl s9.heap.size
  have hrau := hL.rau d (by omega) (by omega)
  refine lv_aload_n hx hb dX3_die_0 rfl (lv_at hl 0 rfl) ?_
  refine lv_iload_n hx hb dX3_die_1 rfl (lv_at hl 1 rfl) ?_
  refine zcallGV (ci := 3) (cq := (RX3, TX3, 5)) (As := [.int (zI d)]) (rest := []) ⟨hx, hb, hml, hown, hts⟩ hK hQ (kX3_brought l D cI cZ c1 c2 s9.heap.size s0 a n pa sp al co da M mo td wn d hpa hsp hco hda hal (by omega)) (cwV 1 hts gX3_die_X3_brought rfl rfl rfl (by decide +kernel) ⟨by first | exact Nat.le_of_ble_eq_true rfl | (show _ ≤ _; omega), Nat.le_of_ble_eq_true rfl⟩) (hL.toW hU) hL.obj hS (fun q h => Nat.le_trans hs0 (Nat.le_trans hU h)) rfl rfl hl.1 rfl (Nat.le_of_ble_eq_true rfl) dX3_die_2 ⟨show 0 + 50 ≤ 291 from by omega, show 0 + 552 ≤ 29472 from by omega⟩ (fun v9 H locs hp9 hz9 hk9 hS => ?_)
  obtain ⟨b1, rm1, rfl, hge_b1, hB1, hgr1⟩ := hp9
  have hk9 := fun (x : Nat) (h : x < _) => hk9 x h (Nat.not_le.mpr h)
  have hge_b1 := Nat.le_trans hU hge_b1
  have hgr1 := fun j h0 h1 => Nat.le_trans hU (hgr1 j h0 h1)
  have hL := zSL.keep hL (fun x _ h2 => hk9 x (Nat.lt_of_lt_of_le h2 hU))
  have hU : s9.heap.size ≤ H.size := hS.1
  refine W.eq (g2 := F0 m9 5 ls [.ref b1]) rfl ?_
  refine lv_astore_n (lv' := [(2, .ref b1), (0, .ref a), (1, .int (zI d))]) hx hb dX3_die_5 rfl hl (by decide) rfl (fun ls hl => ?_)
  refine zr_iconst hx hb dX3_die_6 ?_
  refine zs_newA (N' := 0) hx hb hQ hown (hts (.classLink RX3 7 "[I") (by decide +kernel)) hS (z := 0) (by omega) (by omega) (show 0 + 50 + 1 ≤ 291 from by omega) (show 0 + 552 + 0 ≤ 29472 from by omega) dX3_die_7 (fun H b0 hq_b0 hi_b0 hz9 hk9 hS => ?_)
  have hL := zSL.keep hL (fun x _ h2 => hk9 x (Nat.lt_of_lt_of_le h2 hU))
  have hB1 := zML.grow hB1 hk9
  have hge_b0 : s9.heap.size ≤ b0 := by omega
  have hU : s9.heap.size ≤ H.size := hS.1
  refine lv_astore_n (lv' := [(3, .ref b0), (2, .ref b1), (0, .ref a), (1, .int (zI d))]) hx hb dX3_die_10 rfl hl (by decide) rfl (fun ls hl => ?_)
  refine lv_aload_n hx hb dX3_die_11 rfl (lv_at hl 2 rfl) ?_
  refine va_get (D := D) (ci := 3) (v := .ref am) (C := RX3) (T := TX3) (N := 5) hx hb hts hin3 hown hK hL.obj 0 rfl rfl 4 (by decide) (hts (.fieldLink RX3 20 "MourningRibbonsLaw$Sim" "mournings" "[[I") (by decide +kernel)) (fun _ h9 => h9) rfl dX3_die_12 ?_
  refine lv_astore (lv' := [(4, .ref am), (3, .ref b0), (2, .ref b1), (0, .ref a), (1, .int (zI d))]) hx hb dX3_die_15 hl (by decide) rfl (fun ls hl => ?_)
  refine lv_aload hx hb dX3_die_17 (lv_at hl 0 rfl) ?_
  refine zs_len1 hx hb hQ hL.mou dX3_die_19 ?_
  have b_1 := hL.M240
  refine lv_istore (lv' := [(5, .int (zI (M : Int))), (4, .ref am), (3, .ref b0), (2, .ref b1), (0, .ref a), (1, .int (zI d))]) hx hb dX3_die_20 hl (by decide) rfl (fun ls hl => ?_)
  refine zr_iconst hx hb dX3_die_22 ?_
  refine lv_istore (lv' := [(6, .int (zI 0)), (5, .int (zI (M : Int))), (4, .ref am), (3, .ref b0), (2, .ref b1), (0, .ref a), (1, .int (zI d))]) hx hb dX3_die_23 hl (by decide) rfl (fun ls hl => ?_)
  have L25_2 : ∀ (kf i : Nat), i ≤ M → M - i < kf → ∀ (H : Heap) (locs : List Loc) (ls : Array Slot) (b : Nat) (rmb : Int → Nat) (cc ss : Nat), (zSL D cI c1 c2 s0 s9.heap.size H a kd ap ac am ra rc rr rm n pa sp al co da M mo td wn) → (zML cI c1 H b1 (fC (bP al da (dgF pa sp n d)) n) rm1 (fun j => (bM co da (dgF pa sp n d) td d) (fI (bP al da (dgF pa sp n d)) n j))) → (zML cI c1 H b (fC (dP mo d) i) rmb (fun j => mo (fI (dP mo d) i j))) → va_S (fun q : Nat => s0 ≤ q) s9.heap H locs → lv_has ls 8 [(6, .int (zI (i : Int))), (5, .int (zI (M : Int))), (4, .ref am), (3, .ref b), (2, .ref b1), (0, .ref a), (1, .int (zI d))] → (s9.heap.size ≤ b) → (∀ j : Int, 0 ≤ j → j < ((fC (dP mo d) i : Nat) : Int) → okA kd s9.heap.size (rmb j)) → cc ≤ 51 + fC (dP mo d) i → ss ≤ 552 + tri (fC (dP mo d) i) → W p0 l e9 (({ frames := 2, cells := 291, slots := 29472, locals := 52 } : Room)) s9 m9 ag9 below meth c9 H locs cc ss Q0 (F0 m9 25 ls []) := by
    intro kf
    induction kf with
    | zero => intro i h1 h2; omega
    | succ kf ih =>
      intro i hi_i hk_i H locs ls b rmb cc ss hL hB1 hB hS hl hgb hko hcc hss
      have ih_i := ih
      clear ih
      have hU : s9.heap.size ≤ H.size := hS.1
      refine lv_iload hx hb dX3_die_25 (lv_at hl 0 rfl) ?_
      refine lv_iload hx hb dX3_die_27 (lv_at hl 1 rfl) ?_
      refine zr_icmp_ge (tgt := 60) hx hb dX3_die_29 (by decide) ⟨by omega, by omega⟩ ⟨by omega, by omega⟩ (fun c_3 => ?_) (fun c_3 => ?_)
      · have c_3 := c_3
        have x_4 : i = M := by omega
        try rw [x_4] at hl
        try rw [x_4] at hL
        try rw [x_4] at hB1
        try rw [x_4] at hB
        try rw [x_4] at hgb
        try rw [x_4] at hko
        try rw [x_4] at hcc
        try rw [x_4] at hss
        have hL := hL
        refine lv_aload_n hx hb dX3_die_60 rfl (lv_at hl 4 rfl) ?_
        refine lv_astore (lv' := [(4, .ref b1), (6, .int (zI (M : Int))), (5, .int (zI (M : Int))), (3, .ref b), (2, .ref b1), (0, .ref a), (1, .int (zI d))]) hx hb dX3_die_61 hl (by decide) rfl (fun ls hl => ?_)
        refine lv_aload hx hb dX3_die_63 (lv_at hl 0 rfl) ?_
        refine zs_len1 hx hb hQ hB1.1 dX3_die_65 ?_
        refine lv_istore (lv' := [(5, .int (zI (fC (bP al da (dgF pa sp n d)) n : Int))), (4, .ref b1), (6, .int (zI (M : Int))), (3, .ref b), (2, .ref b1), (0, .ref a), (1, .int (zI d))]) hx hb dX3_die_66 hl (by decide) rfl (fun ls hl => ?_)
        refine zr_iconst hx hb dX3_die_68 ?_
        refine lv_istore (lv' := [(6, .int (zI 0)), (5, .int (zI (fC (bP al da (dgF pa sp n d)) n : Int))), (4, .ref b1), (3, .ref b), (2, .ref b1), (0, .ref a), (1, .int (zI d))]) hx hb dX3_die_69 hl (by decide) rfl (fun ls hl => ?_)
        have L71_5 : ∀ (kf i : Nat), i ≤ (fC (bP al da (dgF pa sp n d)) n) → (fC (bP al da (dgF pa sp n d)) n) - i < kf → ∀ (H : Heap) (locs : List Loc) (ls : Array Slot) (b : Nat) (rmb : Int → Nat) (cc ss : Nat), (zSL D cI c1 c2 s0 s9.heap.size H a kd ap ac am ra rc rr rm n pa sp al co da M mo td wn) → (zML cI c1 H b1 (fC (bP al da (dgF pa sp n d)) n) rm1 (fun j => (bM co da (dgF pa sp n d) td d) (fI (bP al da (dgF pa sp n d)) n j))) → (zML cI c1 H b (fC (dP mo d) M + i) rmb ((dieM mo M d (fun j => (bM co da (dgF pa sp n d) td d) (fI (bP al da (dgF pa sp n d)) n j))))) → va_S (fun q : Nat => s0 ≤ q) s9.heap H locs → lv_has ls 8 [(6, .int (zI (i : Int))), (5, .int (zI (fC (bP al da (dgF pa sp n d)) n : Int))), (4, .ref b1), (3, .ref b), (2, .ref b1), (0, .ref a), (1, .int (zI d))] → (s9.heap.size ≤ b) → (∀ j : Int, 0 ≤ j → j < ((fC (dP mo d) M + i : Nat) : Int) → okA kd s9.heap.size (rmb j)) → cc ≤ 51 + (fC (dP mo d) M + i) → ss ≤ 552 + tri (fC (dP mo d) M + i) → W p0 l e9 (({ frames := 2, cells := 291, slots := 29472, locals := 52 } : Room)) s9 m9 ag9 below meth c9 H locs cc ss Q0 (F0 m9 71 ls []) := by
          intro kf
          induction kf with
          | zero => intro i h1 h2; omega
          | succ kf ih =>
            intro i hi_i hk_i H locs ls b rmb cc ss hL hB1 hB hS hl hgb hko hcc hss
            have ih_i := ih
            clear ih
            have hU : s9.heap.size ≤ H.size := hS.1
            refine lv_iload hx hb dX3_die_71 (lv_at hl 0 rfl) ?_
            refine lv_iload hx hb dX3_die_73 (lv_at hl 1 rfl) ?_
            refine zr_icmp_ge (tgt := 98) hx hb dX3_die_75 (by decide) ⟨by omega, by omega⟩ ⟨by omega, by omega⟩ (fun c_6 => ?_) (fun c_6 => ?_)
            · have c_6 := c_6
              have x_7 : i = (fC (bP al da (dgF pa sp n d)) n) := by omega
              try rw [x_7] at hl
              try rw [x_7] at hL
              try rw [x_7] at hB1
              try rw [x_7] at hB
              try rw [x_7] at hgb
              try rw [x_7] at hko
              try rw [x_7] at hcc
              try rw [x_7] at hss
              have htr2 := tri_240 (a := fC (dP mo d) M + fC (bP al da (dgF pa sp n d)) n) (by omega)
              refine lv_aload_n hx hb dX3_die_98 rfl (lv_at hl 5 rfl) ?_
              refine lv_aload_n hx hb dX3_die_99 rfl (lv_at hl 3 rfl) ?_
              refine zs_put (v := .ref b) (ty := (.array (.array .int))) hx hb hts hin3 hown hK hL.obj hS ((hL.out (by rw [hL.2.2.2.2.2.1.1]; decide)).1) 4 (by decide) (hts (.fieldLink RX3 20 "MourningRibbonsLaw$Sim" "mournings" "[[I") (by decide +kernel)) rfl rfl (by decide +kernel) rfl rfl (Nat.le_of_ble_eq_true rfl) dX3_die_100 (fun H locs hO9 hz9 hk9 hS => ?_)
              have hb1 := hB1.1
              obtain ⟨kd2, hL⟩ := hL.mrsU hU hO9 hk9 (M' := fC (dP mo d) M + fC (bP al da (dgF pa sp n d)) n) (mo' := (dieM mo M d (fun j => (bM co da (dgF pa sp n d) td d) (fI (bP al da (dgF pa sp n d)) n j)))) (by omega) hB hgb hko
              rw [← hz9] at hL
              have hb1 := vA.kept hb1 (hk9 _ (by omega))
              obtain ⟨ub2, hub, hL⟩ : ∃ ub2 : Nat, ub2 ≤ H.size ∧ zSL D cI c1 c2 s0 ub2 H a kd2 ap ac b ra rc rr rmb n pa sp al co da (fC (dP mo d) M + fC (bP al da (dgF pa sp n d)) n) (dieM mo M d (fun j => (bM co da (dgF pa sp n d) td d) (fI (bP al da (dgF pa sp n d)) n j))) td wn := ⟨H.size, Nat.le_refl _, hL⟩
              have hU : s9.heap.size ≤ H.size := hS.1
              have hub : ub2 ≤ H.size := by omega
              refine lv_aload_n hx hb dX3_die_103 rfl (lv_at hl 5 rfl) ?_
              refine va_get (D := D) (ci := 3) (v := .ref ap) (C := RX3) (T := TX3) (N := 5) hx hb hts hin3 hown hK hL.obj 0 rfl rfl 2 (by decide) (hts (.fieldLink RX3 9 "MourningRibbonsLaw$Sim" "people" "[[I") (by decide +kernel)) (fun _ h9 => h9) rfl dX3_die_104 ?_
              refine lv_iload_n hx hb dX3_die_107 rfl (lv_at hl 6 rfl) ?_
              refine zs_ald1 (v := .ref (ra d)) (i := d) hx hb hQ hL.ppl (by omega) (by omega) (by have := hL.n16; omega) rfl dX3_die_108 ?_
              refine zr_iconst hx hb dX3_die_109 ?_
              refine zr_iconst hx hb dX3_die_110 ?_
              refine zs_ist (i := 2) (x := 0) hx hb hQ (hL.row d (by omega) (by omega)) hS (hrau.1) (by decide) (by decide) (by decide) dX3_die_111 (fun H locs hv9 hz9 hk9 hS => ?_)
              have hb1 := vA.kept hb1 (hk9 _ (by omega))
              have hL := zSL.prs (pa' := pa) (sp' := sp) (al' := up al d 0) (i0 := d) hL (by omega) (by omega) hv9 hk9 (fun j h0 h1 => rowP_al _ _ _ _ _ h0 h1) (fun z _ _ hz => ⟨rfl, rfl, up_n _ hz⟩)
              have hU : s9.heap.size ≤ H.size := hS.1
              have hub : ub2 ≤ H.size := by omega
              refine lv_aload_n hx hb dX3_die_112 rfl (lv_at hl 4 rfl) ?_
              refine zs_len1 hx hb hQ hb1 dX3_die_113 ?_
              rw [hQ0]
              exact zgret_i (z := (fC (bP al da (dgF pa sp n d)) n : Int)) hx hb hr hlocks (rfl) (⟨rfl, hL.toW hub⟩) hS dX3_die_114 (by omega) (by omega)
            · have c_6 := c_6
              have htr := tri_240 (a := fC (dP mo d) M + i + 1) (by omega)
              rw [tri_s] at htr
              refine lv_aload hx hb dX3_die_78 (lv_at hl 2 rfl) ?_
              refine lv_iload hx hb dX3_die_80 (lv_at hl 0 rfl) ?_
              refine zs_ald1 (v := .ref (rm1 (i : Int))) (i := (i : Int)) hx hb hQ hB1.1 (by omega) (by omega) (by omega) rfl dX3_die_82 ?_
              refine lv_astore (lv' := [(7, .ref (rm1 (i : Int))), (6, .int (zI (i : Int))), (5, .int (zI (fC (bP al da (dgF pa sp n d)) n : Int))), (4, .ref b1), (3, .ref b), (2, .ref b1), (0, .ref a), (1, .int (zI d))]) hx hb dX3_die_83 hl (by decide) rfl (fun ls hl => ?_)
              refine lv_aload_n hx hb dX3_die_85 rfl (lv_at hl 4 rfl) ?_
              refine lv_aload hx hb dX3_die_86 (lv_at hl 0 rfl) ?_
              refine zcallGS (As := [.ref b, .ref (rm1 (i : Int))]) (rest := []) ⟨hx, hb, hml, hown, hts⟩ hK hQ (kX3_more l D cI cZ c1 c2 H.size b (rm1 (i : Int)) (fC (dP mo d) M + i) rmb (by omega)) (va_cwS 2 hts gX3_die_X3_more rfl rfl rfl (by decide +kernel) ⟨by first | exact Nat.le_of_ble_eq_true rfl | (show _ ≤ _; omega), Nat.le_of_ble_eq_true rfl⟩) (⟨hB.1, fun j h0 h1 => ⟨_, _, hB.2 j h0 h1⟩, ⟨_, _, hB1.2 (i : Int) (by omega) (by omega)⟩⟩) hS (fun q h => Nat.le_trans hs0 (Nat.le_trans hU h)) rfl hl.1 rfl (Nat.le_of_ble_eq_true rfl) dX3_die_88 ⟨show cc + 1 ≤ 291 from by omega, show ss + ((fC (dP mo d) M + i) + 1) ≤ 29472 from by omega⟩ (fun v9 H locs hp9 hz9 hk9 hS => ?_)
              obtain ⟨bn, rfl, hge_bn, hr9⟩ := hp9
              have hk9 := fun (x : Nat) (h : x < _) => hk9 x h (Nat.not_le.mpr h)
              have hge_bn := Nat.le_trans hU hge_bn
              have hL := zSL.keep hL (fun x _ h2 => hk9 x (Nat.lt_of_lt_of_le h2 hU))
              have hB1 := zML.grow hB1 hk9
              have hB := zML.grow hB hk9
              have hU : s9.heap.size ≤ H.size := hS.1
              refine W.eq (g2 := F0 m9 91 ls [.ref bn]) rfl ?_
              have hB := zML.die hB.2 (hB1.2 (i : Int) (by omega) (by omega)) hr9
              have hko := okA.cons hko (Or.inr (hgr1 (i : Int) (by omega) (by omega)))
              refine lv_astore_n (lv' := [(3, .ref bn), (7, .ref (rm1 (i : Int))), (6, .int (zI (i : Int))), (5, .int (zI (fC (bP al da (dgF pa sp n d)) n : Int))), (4, .ref b1), (2, .ref b1), (0, .ref a), (1, .int (zI d))]) hx hb dX3_die_91 rfl hl (by decide) rfl (fun ls hl => ?_)
              refine zr_iinc (v := (i : Int) + 1) (lv' := [(6, .int (zI ((i : Int) + 1))), (3, .ref bn), (7, .ref (rm1 (i : Int))), (5, .int (zI (fC (bP al da (dgF pa sp n d)) n : Int))), (4, .ref b1), (2, .ref b1), (0, .ref a), (1, .int (zI d))]) hx hb dX3_die_92 hl (k := 2) rfl rfl (by decide) rfl (fun ls hl => ?_)
              refine lv_goto (tgt := 71) hx hb dX3_die_95 (by decide) ?_
              have hl := lv_sub hl (l' := [(6, .int (zI ((i : Int) + 1))), (5, .int (zI (fC (bP al da (dgF pa sp n d)) n : Int))), (4, .ref b1), (3, .ref bn), (2, .ref b1), (0, .ref a), (1, .int (zI d))]) [0, 3, 4, 1, 5, 6, 7] rfl
              have e_8 : ((((i + 1) : Nat) : Int) : Int) = (i : Int) + 1 := by omega
              have hl : lv_has ls 8 [(6, .int (zI (((i + 1) : Nat) : Int))), (5, .int (zI (fC (bP al da (dgF pa sp n d)) n : Int))), (4, .ref b1), (3, .ref bn), (2, .ref b1), (0, .ref a), (1, .int (zI d))] := by rw [e_8]; exact hl
              exact ih_i (i + 1) (by omega) (by omega) _ _ _ bn (fun j => if j = ((fC (dP mo d) M + i : Nat) : Int) then rm1 (i : Int) else rmb j) _ _ hL hB1 hB hS hl hge_bn hko (by omega) (by rw [show fC (dP mo d) M + (i + 1) = fC (dP mo d) M + i + 1 from rfl, tri_s]; omega)
        have hl := lv_sub hl (l' := [(6, .int (zI 0)), (5, .int (zI (fC (bP al da (dgF pa sp n d)) n : Int))), (4, .ref b1), (3, .ref b), (2, .ref b1), (0, .ref a), (1, .int (zI d))]) [0, 1, 2, 3, 4, 5, 6] rfl
        exact L71_5 ((fC (bP al da (dgF pa sp n d)) n) + 1) 0 (Nat.zero_le _) (by omega) _ _ _ b rmb _ _ hL hB1 (zML.cg hB rfl (fun j _ h1 => (dieM_lo h1).symm)) hS hl hgb hko (by omega) (by exact hss)
      · have c_3 := c_3
        have hcl := fC_le (dP mo d) i
        have htr := tri_240 (a := fC (dP mo d) i + 1) (by omega)
        rw [tri_s] at htr
        refine lv_aload hx hb dX3_die_32 (lv_at hl 2 rfl) ?_
        refine lv_iload hx hb dX3_die_34 (lv_at hl 0 rfl) ?_
        refine zs_ald1 (v := .ref (rm (i : Int))) (i := (i : Int)) hx hb hQ hL.mou (by omega) (by omega) (by have := hL.M240; omega) rfl dX3_die_36 ?_
        refine lv_astore (lv' := [(7, .ref (rm (i : Int))), (6, .int (zI (i : Int))), (5, .int (zI (M : Int))), (4, .ref am), (3, .ref b), (2, .ref b1), (0, .ref a), (1, .int (zI d))]) hx hb dX3_die_37 hl (by decide) rfl (fun ls hl => ?_)
        refine lv_aload hx hb dX3_die_39 (lv_at hl 0 rfl) ?_
        refine zr_iconst hx hb dX3_die_41 ?_
        refine zs_ild (v := mo (i : Int) 0) (i := 0) hx hb hQ (hL.mrn (i : Int) (by omega) (by omega)) (by decide) (by decide) (by decide) rfl dX3_die_42 ?_
        have b_9 := hmo (i : Int) 0 (by omega) (by omega) (by decide) (by decide)
        refine lv_iload_n hx hb dX3_die_43 rfl (lv_at hl 7 rfl) ?_
        refine zr_icmp_eq (tgt := 54) hx hb dX3_die_44 (by decide) ⟨by omega, by omega⟩ ⟨by omega, by omega⟩ (fun c_10 => ?_) (fun c_10 => ?_)
        · have c_10 := c_10
          have hno : ¬ (dP mo d) (i : Int) = true := fun q => (of_decide_eq_true q) (by omega)
          refine zr_iinc (v := (i : Int) + 1) (lv' := [(6, .int (zI ((i : Int) + 1))), (7, .ref (rm (i : Int))), (5, .int (zI (M : Int))), (4, .ref am), (3, .ref b), (2, .ref b1), (0, .ref a), (1, .int (zI d))]) hx hb dX3_die_54 hl (k := 1) rfl rfl (by decide) rfl (fun ls hl => ?_)
          refine lv_goto (tgt := 25) hx hb dX3_die_57 (by decide) ?_
          have hl := lv_sub hl (l' := [(6, .int (zI ((i : Int) + 1))), (5, .int (zI (M : Int))), (4, .ref am), (3, .ref b), (2, .ref b1), (0, .ref a), (1, .int (zI d))]) [0, 2, 3, 4, 5, 6, 7] rfl
          have e_11 : ((((i + 1) : Nat) : Int) : Int) = (i : Int) + 1 := by omega
          have hl : lv_has ls 8 [(6, .int (zI (((i + 1) : Nat) : Int))), (5, .int (zI (M : Int))), (4, .ref am), (3, .ref b), (2, .ref b1), (0, .ref a), (1, .int (zI d))] := by rw [e_11]; exact hl
          exact ih_i (i + 1) (by omega) (by omega) _ _ _ b rmb _ _ hL hB1 (zML.skip hno hB) hS hl hgb (by rw [fC_n hno]; exact hko) (by rw [fC_n hno]; omega) (by rw [fC_n hno]; omega)
        · have c_10 := c_10
          have hyes : (dP mo d) (i : Int) = true := decide_eq_true (by omega)
          refine lv_aload_n hx hb dX3_die_47 rfl (lv_at hl 4 rfl) ?_
          refine lv_aload hx hb dX3_die_48 (lv_at hl 0 rfl) ?_
          refine zcallGS (As := [.ref b, .ref (rm (i : Int))]) (rest := []) ⟨hx, hb, hml, hown, hts⟩ hK hQ (kX3_more l D cI cZ c1 c2 H.size b (rm (i : Int)) (fC (dP mo d) i) rmb (by omega)) (va_cwS 2 hts gX3_die_X3_more rfl rfl rfl (by decide +kernel) ⟨by first | exact Nat.le_of_ble_eq_true rfl | (show _ ≤ _; omega), Nat.le_of_ble_eq_true rfl⟩) (⟨hB.1, fun j h0 h1 => ⟨_, _, hB.2 j h0 h1⟩, ⟨_, _, hL.mrn (i : Int) (by omega) (by omega)⟩⟩) hS (fun q h => Nat.le_trans hs0 (Nat.le_trans hU h)) rfl hl.1 rfl (Nat.le_of_ble_eq_true rfl) dX3_die_50 ⟨show cc + 1 ≤ 291 from by omega, show ss + ((fC (dP mo d) i) + 1) ≤ 29472 from by omega⟩ (fun v9 H locs hp9 hz9 hk9 hS => ?_)
          obtain ⟨bn, rfl, hge_bn, hr9⟩ := hp9
          have hk9 := fun (x : Nat) (h : x < _) => hk9 x h (Nat.not_le.mpr h)
          have hge_bn := Nat.le_trans hU hge_bn
          have hL := zSL.keep hL (fun x _ h2 => hk9 x (Nat.lt_of_lt_of_le h2 hU))
          have hB1 := zML.grow hB1 hk9
          have hB := zML.grow hB hk9
          have hU : s9.heap.size ≤ H.size := hS.1
          refine W.eq (g2 := F0 m9 53 ls [.ref bn]) rfl ?_
          have hB := zML.cons hyes hB.2 (hL.mrn (i : Int) (by omega) (by omega)) hr9
          have hko := okA.cons hko (Or.inl (hL.2.2.2.2.1 (i : Int) (by omega) (by omega)).2)
          refine lv_astore_n (lv' := [(3, .ref bn), (7, .ref (rm (i : Int))), (6, .int (zI (i : Int))), (5, .int (zI (M : Int))), (4, .ref am), (2, .ref b1), (0, .ref a), (1, .int (zI d))]) hx hb dX3_die_53 rfl hl (by decide) rfl (fun ls hl => ?_)
          refine zr_iinc (v := (i : Int) + 1) (lv' := [(6, .int (zI ((i : Int) + 1))), (3, .ref bn), (7, .ref (rm (i : Int))), (5, .int (zI (M : Int))), (4, .ref am), (2, .ref b1), (0, .ref a), (1, .int (zI d))]) hx hb dX3_die_54 hl (k := 2) rfl rfl (by decide) rfl (fun ls hl => ?_)
          refine lv_goto (tgt := 25) hx hb dX3_die_57 (by decide) ?_
          have hl := lv_sub hl (l' := [(6, .int (zI ((i : Int) + 1))), (5, .int (zI (M : Int))), (4, .ref am), (3, .ref bn), (2, .ref b1), (0, .ref a), (1, .int (zI d))]) [0, 3, 4, 1, 5, 6, 7] rfl
          have e_12 : ((((i + 1) : Nat) : Int) : Int) = (i : Int) + 1 := by omega
          have hl : lv_has ls 8 [(6, .int (zI (((i + 1) : Nat) : Int))), (5, .int (zI (M : Int))), (4, .ref am), (3, .ref bn), (2, .ref b1), (0, .ref a), (1, .int (zI d))] := by rw [e_12]; exact hl
          exact ih_i (i + 1) (by omega) (by omega) _ _ _ bn (fun j => if j = (fC (dP mo d) i : Int) then rm (i : Int) else rmb j) _ _ hL hB1 hB hS hl hge_bn (by rw [fC_y hyes]; exact hko) (by rw [fC_y hyes]; omega) (by rw [fC_y hyes, tri_s]; omega)
  have hl := lv_sub hl (l' := [(6, .int (zI 0)), (5, .int (zI (M : Int))), (4, .ref am), (3, .ref b0), (2, .ref b1), (0, .ref a), (1, .int (zI d))]) [0, 1, 2, 3, 4, 5, 6] rfl
  exact L25_2 (M + 1) 0 (Nat.zero_le _) (by omega) _ _ _ b0 (fun _ => 0) _ _ hL hB1 (zML.nil hi_b0) hS hl hge_b0 (fun j h0 h1 => by have h1 : j < ((0 : Nat) : Int) := h1; omega) (by show _ ≤ 51 + 0; omega) (by show _ ≤ 552 + 0; omega)
set_option maxHeartbeats 4000000 in
set_option maxRecDepth 100000 in
theorem kX3_drop (l : Launch) (D : va_G) (cI cZ c1 c2 : ClassId) (sz : Nat) (s0 : Nat) (a : Nat) (n : Nat) (pa : Int → Int) (sp : Int → Int) (al : Int → Int) (co : Int → Int) (da : Int → Int) (M : Nat) (mo : Int → Int → Int) (td : Int) (wn : Int) (p : Int) (d : Int) (hmo : ∀ i j : Int, 0 ≤ i → i < (M : Int) → 0 ≤ j → j ≤ 8 → -1 ≤ mo i j ∧ mo i j ≤ 1000000) (hp : -2147483648 ≤ p ∧ p ≤ 2147483647) (hd : -2147483648 ≤ d ∧ d ≤ 2147483647) : zG l yX3_drop wsX3_drop ({ frames := 1, cells := 241, slots := 28920, locals := 23 } : Room) D cI cZ c1 c2 [.ref a, .int (zI p), .int (zI d)] sz (fun H => zSW D cI c1 c2 s0 a n pa sp al co da M mo td wn H) (fun v H => v = none ∧ zSW D cI c1 c2 s0 a n pa sp al co da (fC (rP mo p d) M) (fun j => mo (fI (rP mo p d) M j)) td wn H) (fun q : Nat => s0 ≤ q) (241) (28920) := by
  refine Met.ofW (cc := cX3_drop) (maxL := 8) (ret := none) (by decide) rfl ?_
  intro p0 e9 s9 m9 ag9 below meth c9 s₁ B hml hv
  obtain ⟨hav, hsz, hPre, hK, hQ⟩ := hv
  subst hsz
  have hx := B.exec
  have hb := B.bytes
  have hr := B.returns
  have hts := atoms_spec (ws := wsX3_drop) B.pre
  have hown : s9.vm.findClass RX3 = some m9.cls := findClass_of_methodNamed B.named
  have hlocks := B.notSynchronized
  have hin3 : ∀ w ∈ u_ws RX3 TX3 5, w ∈ wsX3_drop := by decide +kernel
  have hl := lv_entry ([.ref a, .int (zI p), .int (zI d)]) (n := 8) (Nat.le_of_ble_eq_true rfl)
  have hE : entryFrame m9 ag9 8 = F0 m9 0 ((lg_sl ([.ref a, .int (zI p), .int (zI d)]) ++ List.replicate (8 - (lg_sl ([.ref a, .int (zI p), .int (zI d)])).length) Slot.unset).toArray) [] := by rw [hav]; exact lg_entry_eq m9 _ _
  obtain ⟨Q0, hQ0⟩ : ∃ Q0, Q0 = MQ below (zGQ (fun v H => v = none ∧ zSW D cI c1 c2 s0 a n pa sp al co da (fC (rP mo p d) M) (fun j => mo (fI (rP mo p d) M j)) td wn H) (fun q : Nat => s0 ≤ q)) ag9 s9 (241) (28920) (fun q : Nat => s0 ≤ q) := ⟨_, rfl⟩
  show W p0 l e9 ({ frames := 1, cells := 241, slots := 28920, locals := 23 } : Room) s9 m9 ag9 below meth c9 s9.heap [] 0 0 (MQ below (zGQ (fun v H => v = none ∧ zSW D cI c1 c2 s0 a n pa sp al co da (fC (rP mo p d) M) (fun j => mo (fI (rP mo p d) M j)) td wn H) (fun q : Nat => s0 ≤ q)) ag9 s9 (241) (28920) (fun q : Nat => s0 ≤ q)) _
  rw [hE, ← hQ0]
  have hS : va_S (fun q : Nat => s0 ≤ q) s9.heap s9.heap [] := va_S.rf
  have hU : s9.heap.size ≤ s9.heap.size := Nat.le_refl _
  generalize (lg_sl ([.ref a, .int (zI p), .int (zI d)]) ++ List.replicate (8 - (lg_sl ([.ref a, .int (zI p), .int (zI d)])).length) Slot.unset).toArray = ls at hl ⊢
  have hl : lv_has ls 8 [(0, .ref a), (1, .int (zI p)), (2, .int (zI d))] := hl
  obtain ⟨kd, ap, ac, am, ra, rc, rr, rm, hL⟩ := hPre
  have hs0 := hL.s0u
  have haub := hL.aub
  have hn9 := hL.n16
  have hM9 := hL.M240
  have hub := Nat.le_refl s9.heap.size
  refine zr_iconst hx hb dX3_drop_0 ?_
  refine zs_newA (N' := 0) hx hb hQ hown (hts (.classLink RX3 7 "[I") (by decide +kernel)) hS (z := 0) (by omega) (by omega) (show 0 + 1 ≤ 241 from by omega) (show 0 + 0 ≤ 28920 from by omega) dX3_drop_1 (fun H b0 hq_b0 hi_b0 hz9 hk9 hS => ?_)
  have hL := zSL.keep hL (fun x _ h2 => hk9 x (Nat.lt_of_lt_of_le h2 hU))
  have hge_b0 : s9.heap.size ≤ b0 := by omega
  have hU : s9.heap.size ≤ H.size := hS.1
  refine lv_astore_n (lv' := [(3, .ref b0), (0, .ref a), (1, .int (zI p)), (2, .int (zI d))]) hx hb dX3_drop_4 rfl hl (by decide) rfl (fun ls hl => ?_)
  refine lv_aload_n hx hb dX3_drop_5 rfl (lv_at hl 1 rfl) ?_
  refine va_get (D := D) (ci := 3) (v := .ref am) (C := RX3) (T := TX3) (N := 5) hx hb hts hin3 hown hK hL.obj 0 rfl rfl 4 (by decide) (hts (.fieldLink RX3 20 "MourningRibbonsLaw$Sim" "mournings" "[[I") (by decide +kernel)) (fun _ h9 => h9) rfl dX3_drop_6 ?_
  refine lv_astore (lv' := [(4, .ref am), (3, .ref b0), (0, .ref a), (1, .int (zI p)), (2, .int (zI d))]) hx hb dX3_drop_9 hl (by decide) rfl (fun ls hl => ?_)
  refine lv_aload hx hb dX3_drop_11 (lv_at hl 0 rfl) ?_
  refine zs_len1 hx hb hQ hL.mou dX3_drop_13 ?_
  have b_1 := hL.M240
  refine lv_istore (lv' := [(5, .int (zI (M : Int))), (4, .ref am), (3, .ref b0), (0, .ref a), (1, .int (zI p)), (2, .int (zI d))]) hx hb dX3_drop_14 hl (by decide) rfl (fun ls hl => ?_)
  refine zr_iconst hx hb dX3_drop_16 ?_
  refine lv_istore (lv' := [(6, .int (zI 0)), (5, .int (zI (M : Int))), (4, .ref am), (3, .ref b0), (0, .ref a), (1, .int (zI p)), (2, .int (zI d))]) hx hb dX3_drop_17 hl (by decide) rfl (fun ls hl => ?_)
  have L19_2 : ∀ (kf i : Nat), i ≤ M → M - i < kf → ∀ (H : Heap) (locs : List Loc) (ls : Array Slot) (b : Nat) (rmb : Int → Nat) (cc ss : Nat), (zSL D cI c1 c2 s0 s9.heap.size H a kd ap ac am ra rc rr rm n pa sp al co da M mo td wn) → (zML cI c1 H b (fC (rP mo p d) i) rmb (fun j => mo (fI (rP mo p d) i j))) → va_S (fun q : Nat => s0 ≤ q) s9.heap H locs → lv_has ls 8 [(6, .int (zI (i : Int))), (5, .int (zI (M : Int))), (4, .ref am), (3, .ref b), (0, .ref a), (1, .int (zI p)), (2, .int (zI d))] → (s9.heap.size ≤ b) → (∀ j : Int, 0 ≤ j → j < ((fC (rP mo p d) i : Nat) : Int) → okA kd s9.heap.size (rmb j)) → cc ≤ 1 + fC (rP mo p d) i → ss ≤ 0 + tri (fC (rP mo p d) i) → W p0 l e9 (({ frames := 1, cells := 241, slots := 28920, locals := 23 } : Room)) s9 m9 ag9 below meth c9 H locs cc ss Q0 (F0 m9 19 ls []) := by
    intro kf
    induction kf with
    | zero => intro i h1 h2; omega
    | succ kf ih =>
      intro i hi_i hk_i H locs ls b rmb cc ss hL hB hS hl hgb hko hcc hss
      have ih_i := ih
      clear ih
      have hU : s9.heap.size ≤ H.size := hS.1
      refine lv_iload hx hb dX3_drop_19 (lv_at hl 0 rfl) ?_
      refine lv_iload hx hb dX3_drop_21 (lv_at hl 1 rfl) ?_
      refine zr_icmp_ge (tgt := 62) hx hb dX3_drop_23 (by decide) ⟨by omega, by omega⟩ ⟨by omega, by omega⟩ (fun c_3 => ?_) (fun c_3 => ?_)
      · have c_3 := c_3
        have x_4 : i = M := by omega
        try rw [x_4] at hl
        try rw [x_4] at hL
        try rw [x_4] at hB
        try rw [x_4] at hgb
        try rw [x_4] at hko
        try rw [x_4] at hcc
        try rw [x_4] at hss
        have hcl2 := fC_le (rP mo p d) M
        have htr2 := tri_240 (a := fC (rP mo p d) M) (by omega)
        refine lv_aload_n hx hb dX3_drop_62 rfl (lv_at hl 4 rfl) ?_
        refine lv_aload_n hx hb dX3_drop_63 rfl (lv_at hl 3 rfl) ?_
        refine zs_put (v := .ref b) (ty := (.array (.array .int))) hx hb hts hin3 hown hK hL.obj hS ((hL.out (by rw [hL.2.2.2.2.2.1.1]; decide)).1) 4 (by decide) (hts (.fieldLink RX3 20 "MourningRibbonsLaw$Sim" "mournings" "[[I") (by decide +kernel)) rfl rfl (by decide +kernel) rfl rfl (Nat.le_of_ble_eq_true rfl) dX3_drop_64 (fun H locs hO9 hz9 hk9 hS => ?_)
        obtain ⟨kd2, hL⟩ := hL.mrsU hU hO9 hk9 (M' := fC (rP mo p d) M) (mo' := fun j => mo (fI (rP mo p d) M j)) (by omega) hB hgb hko
        rw [← hz9] at hL
        obtain ⟨ub2, hub, hL⟩ : ∃ ub2 : Nat, ub2 ≤ H.size ∧ zSL D cI c1 c2 s0 ub2 H a kd2 ap ac b ra rc rr rmb n pa sp al co da (fC (rP mo p d) M) (fun j => mo (fI (rP mo p d) M j)) td wn := ⟨H.size, Nat.le_refl _, hL⟩
        have hU : s9.heap.size ≤ H.size := hS.1
        have hub : ub2 ≤ H.size := by omega
        rw [hQ0]
        exact zgret_v hx hb hr hlocks (⟨rfl, hL.toW hub⟩) hS dX3_drop_67 (by omega) (by omega)
      · have c_3 := c_3
        have hcl := fC_le (rP mo p d) i
        have htr := tri_240 (a := fC (rP mo p d) i + 1) (by omega)
        rw [tri_s] at htr
        refine lv_aload hx hb dX3_drop_26 (lv_at hl 2 rfl) ?_
        refine lv_iload hx hb dX3_drop_28 (lv_at hl 0 rfl) ?_
        refine zs_ald1 (v := .ref (rm (i : Int))) (i := (i : Int)) hx hb hQ hL.mou (by omega) (by omega) (by have := hL.M240; omega) rfl dX3_drop_30 ?_
        refine lv_astore (lv' := [(7, .ref (rm (i : Int))), (6, .int (zI (i : Int))), (5, .int (zI (M : Int))), (4, .ref am), (3, .ref b), (0, .ref a), (1, .int (zI p)), (2, .int (zI d))]) hx hb dX3_drop_31 hl (by decide) rfl (fun ls hl => ?_)
        refine lv_aload hx hb dX3_drop_33 (lv_at hl 0 rfl) ?_
        refine zr_iconst hx hb dX3_drop_35 ?_
        refine zs_ild (v := mo (i : Int) 0) (i := 0) hx hb hQ (hL.mrn (i : Int) (by omega) (by omega)) (by decide) (by decide) (by decide) rfl dX3_drop_36 ?_
        have b_5 := hmo (i : Int) 0 (by omega) (by omega) (by decide) (by decide)
        refine lv_iload_n hx hb dX3_drop_37 rfl (lv_at hl 6 rfl) ?_
        refine zr_icmp_ne (tgt := 49) hx hb dX3_drop_38 (by decide) ⟨by omega, by omega⟩ ⟨by omega, by omega⟩ (fun c_6 => ?_) (fun c_6 => ?_)
        · have c_6 := c_6
          have hyes : (rP mo p d) (i : Int) = true := decide_eq_true (by omega)
          refine lv_aload_n hx hb dX3_drop_49 rfl (lv_at hl 4 rfl) ?_
          refine lv_aload hx hb dX3_drop_50 (lv_at hl 0 rfl) ?_
          refine zcallGS (As := [.ref b, .ref (rm (i : Int))]) (rest := []) ⟨hx, hb, hml, hown, hts⟩ hK hQ (kX3_more l D cI cZ c1 c2 H.size b (rm (i : Int)) (fC (rP mo p d) i) rmb (by omega)) (va_cwS 2 hts gX3_drop_X3_more rfl rfl rfl (by decide +kernel) ⟨by first | exact Nat.le_of_ble_eq_true rfl | (show _ ≤ _; omega), Nat.le_of_ble_eq_true rfl⟩) (⟨hB.1, fun j h0 h1 => ⟨_, _, hB.2 j h0 h1⟩, ⟨_, _, hL.mrn (i : Int) (by omega) (by omega)⟩⟩) hS (fun q h => Nat.le_trans hs0 (Nat.le_trans hU h)) rfl hl.1 rfl (Nat.le_of_ble_eq_true rfl) dX3_drop_52 ⟨show cc + 1 ≤ 241 from by omega, show ss + ((fC (rP mo p d) i) + 1) ≤ 28920 from by omega⟩ (fun v9 H locs hp9 hz9 hk9 hS => ?_)
          obtain ⟨bn, rfl, hge_bn, hr9⟩ := hp9
          have hk9 := fun (x : Nat) (h : x < _) => hk9 x h (Nat.not_le.mpr h)
          have hge_bn := Nat.le_trans hU hge_bn
          have hL := zSL.keep hL (fun x _ h2 => hk9 x (Nat.lt_of_lt_of_le h2 hU))
          have hB := zML.grow hB hk9
          have hU : s9.heap.size ≤ H.size := hS.1
          refine W.eq (g2 := F0 m9 55 ls [.ref bn]) rfl ?_
          have hB := zML.cons hyes hB.2 (hL.mrn (i : Int) (by omega) (by omega)) hr9
          have hko := okA.cons hko (Or.inl (hL.2.2.2.2.1 (i : Int) (by omega) (by omega)).2)
          refine lv_astore_n (lv' := [(3, .ref bn), (7, .ref (rm (i : Int))), (6, .int (zI (i : Int))), (5, .int (zI (M : Int))), (4, .ref am), (0, .ref a), (1, .int (zI p)), (2, .int (zI d))]) hx hb dX3_drop_55 rfl hl (by decide) rfl (fun ls hl => ?_)
          refine zr_iinc (v := (i : Int) + 1) (lv' := [(6, .int (zI ((i : Int) + 1))), (3, .ref bn), (7, .ref (rm (i : Int))), (5, .int (zI (M : Int))), (4, .ref am), (0, .ref a), (1, .int (zI p)), (2, .int (zI d))]) hx hb dX3_drop_56 hl (k := 2) rfl rfl (by decide) rfl (fun ls hl => ?_)
          refine lv_goto (tgt := 19) hx hb dX3_drop_59 (by decide) ?_
          have hl := lv_sub hl (l' := [(6, .int (zI ((i : Int) + 1))), (5, .int (zI (M : Int))), (4, .ref am), (3, .ref bn), (0, .ref a), (1, .int (zI p)), (2, .int (zI d))]) [0, 3, 4, 1, 5, 6, 7] rfl
          have e_7 : ((((i + 1) : Nat) : Int) : Int) = (i : Int) + 1 := by omega
          have hl : lv_has ls 8 [(6, .int (zI (((i + 1) : Nat) : Int))), (5, .int (zI (M : Int))), (4, .ref am), (3, .ref bn), (0, .ref a), (1, .int (zI p)), (2, .int (zI d))] := by rw [e_7]; exact hl
          exact ih_i (i + 1) (by omega) (by omega) _ _ _ bn (fun j => if j = (fC (rP mo p d) i : Int) then rm (i : Int) else rmb j) _ _ hL hB hS hl hge_bn (by rw [fC_y hyes]; exact hko) (by rw [fC_y hyes]; omega) (by rw [fC_y hyes, tri_s]; omega)
        · have c_6 := c_6
          refine lv_aload hx hb dX3_drop_41 (lv_at hl 0 rfl) ?_
          refine zr_iconst hx hb dX3_drop_43 ?_
          refine zs_ild (v := mo (i : Int) 1) (i := 1) hx hb hQ (hL.mrn (i : Int) (by omega) (by omega)) (by decide) (by decide) (by decide) rfl dX3_drop_44 ?_
          have b_8 := hmo (i : Int) 1 (by omega) (by omega) (by decide) (by decide)
          refine lv_iload_n hx hb dX3_drop_45 rfl (lv_at hl 7 rfl) ?_
          refine zr_icmp_eq (tgt := 56) hx hb dX3_drop_46 (by decide) ⟨by omega, by omega⟩ ⟨by omega, by omega⟩ (fun c_9 => ?_) (fun c_9 => ?_)
          · have c_9 := c_9
            have hno : ¬ (rP mo p d) (i : Int) = true := fun q => (of_decide_eq_true q) (by omega)
            refine zr_iinc (v := (i : Int) + 1) (lv' := [(6, .int (zI ((i : Int) + 1))), (7, .ref (rm (i : Int))), (5, .int (zI (M : Int))), (4, .ref am), (3, .ref b), (0, .ref a), (1, .int (zI p)), (2, .int (zI d))]) hx hb dX3_drop_56 hl (k := 1) rfl rfl (by decide) rfl (fun ls hl => ?_)
            refine lv_goto (tgt := 19) hx hb dX3_drop_59 (by decide) ?_
            have hl := lv_sub hl (l' := [(6, .int (zI ((i : Int) + 1))), (5, .int (zI (M : Int))), (4, .ref am), (3, .ref b), (0, .ref a), (1, .int (zI p)), (2, .int (zI d))]) [0, 2, 3, 4, 5, 6, 7] rfl
            have e_10 : ((((i + 1) : Nat) : Int) : Int) = (i : Int) + 1 := by omega
            have hl : lv_has ls 8 [(6, .int (zI (((i + 1) : Nat) : Int))), (5, .int (zI (M : Int))), (4, .ref am), (3, .ref b), (0, .ref a), (1, .int (zI p)), (2, .int (zI d))] := by rw [e_10]; exact hl
            exact ih_i (i + 1) (by omega) (by omega) _ _ _ b rmb _ _ hL (zML.skip hno hB) hS hl hgb (by rw [fC_n hno]; exact hko) (by rw [fC_n hno]; omega) (by rw [fC_n hno]; omega)
          · have c_9 := c_9
            have hyes : (rP mo p d) (i : Int) = true := decide_eq_true (by omega)
            refine lv_aload_n hx hb dX3_drop_49 rfl (lv_at hl 4 rfl) ?_
            refine lv_aload hx hb dX3_drop_50 (lv_at hl 0 rfl) ?_
            refine zcallGS (As := [.ref b, .ref (rm (i : Int))]) (rest := []) ⟨hx, hb, hml, hown, hts⟩ hK hQ (kX3_more l D cI cZ c1 c2 H.size b (rm (i : Int)) (fC (rP mo p d) i) rmb (by omega)) (va_cwS 2 hts gX3_drop_X3_more rfl rfl rfl (by decide +kernel) ⟨by first | exact Nat.le_of_ble_eq_true rfl | (show _ ≤ _; omega), Nat.le_of_ble_eq_true rfl⟩) (⟨hB.1, fun j h0 h1 => ⟨_, _, hB.2 j h0 h1⟩, ⟨_, _, hL.mrn (i : Int) (by omega) (by omega)⟩⟩) hS (fun q h => Nat.le_trans hs0 (Nat.le_trans hU h)) rfl hl.1 rfl (Nat.le_of_ble_eq_true rfl) dX3_drop_52 ⟨show cc + 1 ≤ 241 from by omega, show ss + ((fC (rP mo p d) i) + 1) ≤ 28920 from by omega⟩ (fun v9 H locs hp9 hz9 hk9 hS => ?_)
            obtain ⟨bn, rfl, hge_bn, hr9⟩ := hp9
            have hk9 := fun (x : Nat) (h : x < _) => hk9 x h (Nat.not_le.mpr h)
            have hge_bn := Nat.le_trans hU hge_bn
            have hL := zSL.keep hL (fun x _ h2 => hk9 x (Nat.lt_of_lt_of_le h2 hU))
            have hB := zML.grow hB hk9
            have hU : s9.heap.size ≤ H.size := hS.1
            refine W.eq (g2 := F0 m9 55 ls [.ref bn]) rfl ?_
            have hB := zML.cons hyes hB.2 (hL.mrn (i : Int) (by omega) (by omega)) hr9
            have hko := okA.cons hko (Or.inl (hL.2.2.2.2.1 (i : Int) (by omega) (by omega)).2)
            refine lv_astore_n (lv' := [(3, .ref bn), (7, .ref (rm (i : Int))), (6, .int (zI (i : Int))), (5, .int (zI (M : Int))), (4, .ref am), (0, .ref a), (1, .int (zI p)), (2, .int (zI d))]) hx hb dX3_drop_55 rfl hl (by decide) rfl (fun ls hl => ?_)
            refine zr_iinc (v := (i : Int) + 1) (lv' := [(6, .int (zI ((i : Int) + 1))), (3, .ref bn), (7, .ref (rm (i : Int))), (5, .int (zI (M : Int))), (4, .ref am), (0, .ref a), (1, .int (zI p)), (2, .int (zI d))]) hx hb dX3_drop_56 hl (k := 2) rfl rfl (by decide) rfl (fun ls hl => ?_)
            refine lv_goto (tgt := 19) hx hb dX3_drop_59 (by decide) ?_
            have hl := lv_sub hl (l' := [(6, .int (zI ((i : Int) + 1))), (5, .int (zI (M : Int))), (4, .ref am), (3, .ref bn), (0, .ref a), (1, .int (zI p)), (2, .int (zI d))]) [0, 3, 4, 1, 5, 6, 7] rfl
            have e_11 : ((((i + 1) : Nat) : Int) : Int) = (i : Int) + 1 := by omega
            have hl : lv_has ls 8 [(6, .int (zI (((i + 1) : Nat) : Int))), (5, .int (zI (M : Int))), (4, .ref am), (3, .ref bn), (0, .ref a), (1, .int (zI p)), (2, .int (zI d))] := by rw [e_11]; exact hl
            exact ih_i (i + 1) (by omega) (by omega) _ _ _ bn (fun j => if j = (fC (rP mo p d) i : Int) then rm (i : Int) else rmb j) _ _ hL hB hS hl hge_bn (by rw [fC_y hyes]; exact hko) (by rw [fC_y hyes]; omega) (by rw [fC_y hyes, tri_s]; omega)
  have hl := lv_sub hl (l' := [(6, .int (zI 0)), (5, .int (zI (M : Int))), (4, .ref am), (3, .ref b0), (0, .ref a), (1, .int (zI p)), (2, .int (zI d))]) [0, 1, 2, 3, 4, 5, 6] rfl
  exact L19_2 (M + 1) 0 (Nat.zero_le _) (by omega) _ _ _ b0 (fun _ => 0) _ _ hL (zML.nil hi_b0) hS hl hge_b0 (fun j h0 h1 => by have h1 : j < ((0 : Nat) : Int) := h1; omega) (by show _ ≤ 1 + 0; omega) (by show _ ≤ 0 + 0; omega)
set_option maxHeartbeats 4000000 in
set_option maxRecDepth 100000 in
theorem kX3_pass (l : Launch) (D : va_G) (cI cZ c1 c2 : ClassId) (sz : Nat) (s0 : Nat) (a : Nat) (n : Nat) (pa : Int → Int) (sp : Int → Int) (al : Int → Int) (co : Int → Int) (da : Int → Int) (M : Nat) (mo : Int → Int → Int) (td : Int) (wn : Int) (dn : Nat) (htd : 0 ≤ td ∧ td ≤ 1000000) (hmo : ∀ i j : Int, 0 ≤ i → i < (M : Int) → 0 ≤ j → j ≤ 8 → -1 ≤ mo i j ∧ mo i j ≤ 1000000) (hdn : dn ≤ 200 ∧ td ≤ 900000) : zG l yX3_pass wsX3_pass ({ frames := 3, cells := 241, slots := 28920, locals := 79 } : Room) D cI cZ c1 c2 [.ref a, .int (zI (dn : Int))] sz (fun H => zSW D cI c1 c2 s0 a n pa sp al co da M mo td wn H) (fun v H => v = some (.int (zI (icF (fun j => mo (fI (eP mo (td + (dn : Int))) M j)) (fC (eP mo (td + (dn : Int))) M) n (td + (dn : Int))))) ∧ zSW D cI c1 c2 s0 a n pa sp al co da (fC (eP mo (td + (dn : Int))) M) (fun j => mo (fI (eP mo (td + (dn : Int))) M j)) (td + (dn : Int)) (wn + smF (icS mo M n td) dn) H) (fun q : Nat => s0 ≤ q) (241) (28920) := by
  refine Met.ofW (cc := cX3_pass) (maxL := 7) (ret := (some .int)) (by decide) rfl ?_
  intro p0 e9 s9 m9 ag9 below meth c9 s₁ B hml hv
  obtain ⟨hav, hsz, hPre, hK, hQ⟩ := hv
  subst hsz
  have hx := B.exec
  have hb := B.bytes
  have hr := B.returns
  have hts := atoms_spec (ws := wsX3_pass) B.pre
  have hown : s9.vm.findClass RX3 = some m9.cls := findClass_of_methodNamed B.named
  have hlocks := B.notSynchronized
  have hin3 : ∀ w ∈ u_ws RX3 TX3 5, w ∈ wsX3_pass := by decide +kernel
  have hl := lv_entry ([.ref a, .int (zI (dn : Int))]) (n := 7) (Nat.le_of_ble_eq_true rfl)
  have hE : entryFrame m9 ag9 7 = F0 m9 0 ((lg_sl ([.ref a, .int (zI (dn : Int))]) ++ List.replicate (7 - (lg_sl ([.ref a, .int (zI (dn : Int))])).length) Slot.unset).toArray) [] := by rw [hav]; exact lg_entry_eq m9 _ _
  obtain ⟨Q0, hQ0⟩ : ∃ Q0, Q0 = MQ below (zGQ (fun v H => v = some (.int (zI (icF (fun j => mo (fI (eP mo (td + (dn : Int))) M j)) (fC (eP mo (td + (dn : Int))) M) n (td + (dn : Int))))) ∧ zSW D cI c1 c2 s0 a n pa sp al co da (fC (eP mo (td + (dn : Int))) M) (fun j => mo (fI (eP mo (td + (dn : Int))) M j)) (td + (dn : Int)) (wn + smF (icS mo M n td) dn) H) (fun q : Nat => s0 ≤ q)) ag9 s9 (241) (28920) (fun q : Nat => s0 ≤ q) := ⟨_, rfl⟩
  show W p0 l e9 ({ frames := 3, cells := 241, slots := 28920, locals := 79 } : Room) s9 m9 ag9 below meth c9 s9.heap [] 0 0 (MQ below (zGQ (fun v H => v = some (.int (zI (icF (fun j => mo (fI (eP mo (td + (dn : Int))) M j)) (fC (eP mo (td + (dn : Int))) M) n (td + (dn : Int))))) ∧ zSW D cI c1 c2 s0 a n pa sp al co da (fC (eP mo (td + (dn : Int))) M) (fun j => mo (fI (eP mo (td + (dn : Int))) M j)) (td + (dn : Int)) (wn + smF (icS mo M n td) dn) H) (fun q : Nat => s0 ≤ q)) ag9 s9 (241) (28920) (fun q : Nat => s0 ≤ q)) _
  rw [hE, ← hQ0]
  have hS : va_S (fun q : Nat => s0 ≤ q) s9.heap s9.heap [] := va_S.rf
  have hU : s9.heap.size ≤ s9.heap.size := Nat.le_refl _
  generalize (lg_sl ([.ref a, .int (zI (dn : Int))]) ++ List.replicate (7 - (lg_sl ([.ref a, .int (zI (dn : Int))])).length) Slot.unset).toArray = ls at hl ⊢
  have hl : lv_has ls 7 [(0, .ref a), (1, .int (zI (dn : Int)))] := hl
  obtain ⟨kd, ap, ac, am, ra, rc, rr, rm, hL⟩ := hPre
  have hs0 := hL.s0u
  have haub := hL.aub
  have hn9 := hL.n16
  have hM9 := hL.M240
  have hub := Nat.le_refl s9.heap.size
  refine zr_iconst hx hb dX3_pass_0 ?_
  refine lv_istore_n (lv' := [(2, .int (zI 0)), (0, .ref a), (1, .int (zI (dn : Int)))]) hx hb dX3_pass_1 rfl hl (by decide) rfl (fun ls hl => ?_)
  have L2_1 : ∀ (kf k : Nat), k ≤ dn → dn - k < kf → ∀ (H : Heap) (locs : List Loc) (ls : Array Slot), (zSL D cI c1 c2 s0 s9.heap.size H a kd ap ac am ra rc rr rm n pa sp al co da M mo (td + (k : Int)) (wn + smF (icS mo M n td) k)) → va_S (fun q : Nat => s0 ≤ q) s9.heap H locs → lv_has ls 7 [(2, .int (zI (k : Int))), (0, .ref a), (1, .int (zI (dn : Int)))] → W p0 l e9 (({ frames := 3, cells := 241, slots := 28920, locals := 79 } : Room)) s9 m9 ag9 below meth c9 H locs 0 0 Q0 (F0 m9 2 ls []) := by
    intro kf
    induction kf with
    | zero => intro k h1 h2; omega
    | succ kf ih =>
      intro k hi_k hk_k H locs ls  hL hS hl 
      have ih_k := ih
      clear ih
      have hU : s9.heap.size ≤ H.size := hS.1
      refine lv_iload_n hx hb dX3_pass_2 rfl (lv_at hl 0 rfl) ?_
      refine lv_iload_n hx hb dX3_pass_3 rfl (lv_at hl 2 rfl) ?_
      refine zr_icmp_ge (tgt := 36) hx hb dX3_pass_4 (by decide) ⟨by omega, by omega⟩ ⟨by omega, by omega⟩ (fun c_2 => ?_) (fun c_2 => ?_)
      · have c_2 := c_2
        have x_3 : k = dn := by omega
        try rw [x_3] at hl
        try rw [x_3] at hL
        refine zr_iconst hx hb dX3_pass_36 ?_
        refine zs_newA (N' := 0) hx hb hQ hown (hts (.classLink RX3 7 "[I") (by decide +kernel)) hS (z := 0) (by omega) (by omega) (show 0 + 1 ≤ 241 from by omega) (show 0 + 0 ≤ 28920 from by omega) dX3_pass_37 (fun H b0 hq_b0 hi_b0 hz9 hk9 hS => ?_)
        have hL := zSL.keep hL (fun x _ h2 => hk9 x (Nat.lt_of_lt_of_le h2 hU))
        have hge_b0 : s9.heap.size ≤ b0 := by omega
        have hU : s9.heap.size ≤ H.size := hS.1
        refine lv_astore_n (lv' := [(2, .ref b0), (0, .ref a), (1, .int (zI (dn : Int)))]) hx hb dX3_pass_40 rfl hl (by decide) rfl (fun ls hl => ?_)
        refine lv_aload_n hx hb dX3_pass_41 rfl (lv_at hl 1 rfl) ?_
        refine va_get (D := D) (ci := 3) (v := .ref am) (C := RX3) (T := TX3) (N := 5) hx hb hts hin3 hown hK hL.obj 0 rfl rfl 4 (by decide) (hts (.fieldLink RX3 20 "MourningRibbonsLaw$Sim" "mournings" "[[I") (by decide +kernel)) (fun _ h9 => h9) rfl dX3_pass_42 ?_
        refine lv_astore_n (lv' := [(3, .ref am), (2, .ref b0), (0, .ref a), (1, .int (zI (dn : Int)))]) hx hb dX3_pass_45 rfl hl (by decide) rfl (fun ls hl => ?_)
        refine lv_aload_n hx hb dX3_pass_46 rfl (lv_at hl 0 rfl) ?_
        refine zs_len1 hx hb hQ hL.mou dX3_pass_47 ?_
        have b_4 := hL.M240
        refine lv_istore (lv' := [(4, .int (zI (M : Int))), (3, .ref am), (2, .ref b0), (0, .ref a), (1, .int (zI (dn : Int)))]) hx hb dX3_pass_48 hl (by decide) rfl (fun ls hl => ?_)
        refine zr_iconst hx hb dX3_pass_50 ?_
        refine lv_istore (lv' := [(5, .int (zI 0)), (4, .int (zI (M : Int))), (3, .ref am), (2, .ref b0), (0, .ref a), (1, .int (zI (dn : Int)))]) hx hb dX3_pass_51 hl (by decide) rfl (fun ls hl => ?_)
        have L53_5 : ∀ (kf i : Nat), i ≤ M → M - i < kf → ∀ (H : Heap) (locs : List Loc) (ls : Array Slot) (b : Nat) (rmb : Int → Nat) (cc ss : Nat), (zSL D cI c1 c2 s0 s9.heap.size H a kd ap ac am ra rc rr rm n pa sp al co da M mo (td + (dn : Int)) (wn + smF (icS mo M n td) dn)) → (zML cI c1 H b (fC (eP mo (td + (dn : Int))) i) rmb (fun j => mo (fI (eP mo (td + (dn : Int))) i j))) → va_S (fun q : Nat => s0 ≤ q) s9.heap H locs → lv_has ls 7 [(5, .int (zI (i : Int))), (4, .int (zI (M : Int))), (3, .ref am), (2, .ref b), (0, .ref a), (1, .int (zI (dn : Int)))] → (s9.heap.size ≤ b) → (∀ j : Int, 0 ≤ j → j < ((fC (eP mo (td + (dn : Int))) i : Nat) : Int) → okA kd s9.heap.size (rmb j)) → cc ≤ 1 + fC (eP mo (td + (dn : Int))) i → ss ≤ 0 + tri (fC (eP mo (td + (dn : Int))) i) → W p0 l e9 (({ frames := 3, cells := 241, slots := 28920, locals := 79 } : Room)) s9 m9 ag9 below meth c9 H locs cc ss Q0 (F0 m9 53 ls []) := by
          intro kf
          induction kf with
          | zero => intro i h1 h2; omega
          | succ kf ih =>
            intro i hi_i hk_i H locs ls b rmb cc ss hL hB hS hl hgb hko hcc hss
            have ih_i := ih
            clear ih
            have hU : s9.heap.size ≤ H.size := hS.1
            refine lv_iload hx hb dX3_pass_53 (lv_at hl 0 rfl) ?_
            refine lv_iload hx hb dX3_pass_55 (lv_at hl 1 rfl) ?_
            refine zr_icmp_ge (tgt := 91) hx hb dX3_pass_57 (by decide) ⟨by omega, by omega⟩ ⟨by omega, by omega⟩ (fun c_6 => ?_) (fun c_6 => ?_)
            · have c_6 := c_6
              have x_7 : i = M := by omega
              try rw [x_7] at hl
              try rw [x_7] at hL
              try rw [x_7] at hB
              try rw [x_7] at hgb
              try rw [x_7] at hko
              try rw [x_7] at hcc
              try rw [x_7] at hss
              have hcl2 := fC_le (eP mo (td + (dn : Int))) M
              have htr2 := tri_240 (a := fC (eP mo (td + (dn : Int))) M) (by omega)
              refine lv_aload_n hx hb dX3_pass_91 rfl (lv_at hl 4 rfl) ?_
              refine lv_aload_n hx hb dX3_pass_92 rfl (lv_at hl 3 rfl) ?_
              refine zs_put (v := .ref b) (ty := (.array (.array .int))) hx hb hts hin3 hown hK hL.obj hS ((hL.out (by rw [hL.2.2.2.2.2.1.1]; decide)).1) 4 (by decide) (hts (.fieldLink RX3 20 "MourningRibbonsLaw$Sim" "mournings" "[[I") (by decide +kernel)) rfl rfl (by decide +kernel) rfl rfl (Nat.le_of_ble_eq_true rfl) dX3_pass_93 (fun H locs hO9 hz9 hk9 hS => ?_)
              obtain ⟨kd2, hL⟩ := hL.mrsU hU hO9 hk9 (M' := fC (eP mo (td + (dn : Int))) M) (mo' := fun j => mo (fI (eP mo (td + (dn : Int))) M j)) (by omega) hB hgb hko
              rw [← hz9] at hL
              obtain ⟨ub2, hub, hL⟩ : ∃ ub2 : Nat, ub2 ≤ H.size ∧ zSL D cI c1 c2 s0 ub2 H a kd2 ap ac b ra rc rr rmb n pa sp al co da (fC (eP mo (td + (dn : Int))) M) (fun j => mo (fI (eP mo (td + (dn : Int))) M j)) (td + (dn : Int)) (wn + smF (icS mo M n td) dn) := ⟨H.size, Nat.le_refl _, hL⟩
              have hU : s9.heap.size ≤ H.size := hS.1
              have hub : ub2 ≤ H.size := by omega
              refine lv_aload_n hx hb dX3_pass_96 rfl (lv_at hl 4 rfl) ?_
              refine zcallGV (ci := 3) (cq := (RX3, TX3, 5)) (As := []) (rest := []) ⟨hx, hb, hml, hown, hts⟩ hK hQ (kX3_inColour l D cI cZ c1 c2 H.size s0 a n pa sp al co da (fC (eP mo (td + (dn : Int))) M) (fun j => mo (fI (eP mo (td + (dn : Int))) M j)) (td + (dn : Int)) (wn + smF (icS mo M n td) dn) (⟨by omega, by omega⟩) (fun i j h0 h1 j0 j8 => hmo _ j (fI_in h0 h1).1 (fI_in h0 h1).2.1 j0 j8)) (cwV 0 hts gX3_pass_X3_inColour rfl rfl rfl (by decide +kernel) ⟨by first | exact Nat.le_of_ble_eq_true rfl | (show _ ≤ _; omega), Nat.le_of_ble_eq_true rfl⟩) (hL.toW hub) hL.obj hS (fun q h => Nat.le_trans hs0 (Nat.le_trans hU h)) rfl rfl hl.1 rfl (Nat.le_of_ble_eq_true rfl) dX3_pass_97 ⟨show cc + 0 ≤ 241 from by omega, show ss + 0 ≤ 28920 from by omega⟩ (fun v9 H locs hp9 hz9 hk9 hS => ?_)
              subst hp9
              have hk9 := fun (x : Nat) (h : x < _) => hk9 x h (Nat.not_le.mpr h)
              have hL := zSL.keep hL (fun x _ h2 => hk9 x (Nat.lt_of_lt_of_le h2 hub))
              have b_8 := (show 0 ≤ icF (fun j => mo (fI (eP mo (td + (dn : Int))) M j)) (fC (eP mo (td + (dn : Int))) M) n (td + (dn : Int)) ∧ icF (fun j => mo (fI (eP mo (td + (dn : Int))) M j)) (fC (eP mo (td + (dn : Int))) M) n (td + (dn : Int)) ≤ 1 * (n : Int) from @smF_bd _ n 1 (fun j => icT_01 (fun j => mo (fI (eP mo (td + (dn : Int))) M j)) (fC (eP mo (td + (dn : Int))) M) (td + (dn : Int)) j))
              have hU : s9.heap.size ≤ H.size := hS.1
              have hub : ub2 ≤ H.size := by omega
              refine W.eq (g2 := F0 m9 100 ls [.int (zI (icF (fun j => mo (fI (eP mo (td + (dn : Int))) M j)) (fC (eP mo (td + (dn : Int))) M) n (td + (dn : Int))))]) rfl ?_
              rw [hQ0]
              exact zgret_i (z := icF (fun j => mo (fI (eP mo (td + (dn : Int))) M j)) (fC (eP mo (td + (dn : Int))) M) n (td + (dn : Int))) hx hb hr hlocks (rfl) (⟨rfl, hL.toW hub⟩) hS dX3_pass_100 (by omega) (by omega)
            · have c_6 := c_6
              have hcl := fC_le (eP mo (td + (dn : Int))) i
              have htr := tri_240 (a := fC (eP mo (td + (dn : Int))) i + 1) (by omega)
              rw [tri_s] at htr
              refine lv_aload_n hx hb dX3_pass_60 rfl (lv_at hl 2 rfl) ?_
              refine lv_iload hx hb dX3_pass_61 (lv_at hl 0 rfl) ?_
              refine zs_ald1 (v := .ref (rm (i : Int))) (i := (i : Int)) hx hb hQ hL.mou (by omega) (by omega) (by have := hL.M240; omega) rfl dX3_pass_63 ?_
              refine lv_astore (lv' := [(6, .ref (rm (i : Int))), (5, .int (zI (i : Int))), (4, .int (zI (M : Int))), (3, .ref am), (2, .ref b), (0, .ref a), (1, .int (zI (dn : Int)))]) hx hb dX3_pass_64 hl (by decide) rfl (fun ls hl => ?_)
              refine lv_aload hx hb dX3_pass_66 (lv_at hl 0 rfl) ?_
              refine zcallGS (As := [.ref (rm (i : Int))]) (rest := []) ⟨hx, hb, hml, hown, hts⟩ hK hQ (kX3_end l D cI cZ c1 c2 H.size (rm (i : Int)) (mo (i : Int)) (fun j j0 j8 => hmo i j (by omega) (by omega) j0 j8)) (va_cwS 1 hts gX3_pass_X3_end rfl rfl rfl (by decide +kernel) ⟨by first | exact Nat.le_of_ble_eq_true rfl | (show _ ≤ _; omega), Nat.le_of_ble_eq_true rfl⟩) (hL.mrn (i : Int) (by omega) (by omega)) hS (fun q h => Nat.le_trans hs0 (Nat.le_trans hU h)) rfl hl.1 rfl (Nat.le_of_ble_eq_true rfl) dX3_pass_68 ⟨show cc + 0 ≤ 241 from by omega, show ss + 0 ≤ 28920 from by omega⟩ (fun v9 H locs hp9 hz9 hk9 hS => ?_)
              subst hp9
              have hk9 := fun (x : Nat) (h : x < _) => hk9 x h (Nat.not_le.mpr h)
              have hL := zSL.keep hL (fun x _ h2 => hk9 x (Nat.lt_of_lt_of_le h2 hU))
              have hB := zML.grow hB hk9
              have b_9 := @enF_bd (mo (i : Int)) 1000000 (fun j j0 j8 => hmo i j (by omega) (by omega) j0 j8)
              have hU : s9.heap.size ≤ H.size := hS.1
              refine W.eq (g2 := F0 m9 71 ls [.int (zI (enF (mo (i : Int))))]) rfl ?_
              refine lv_aload_n hx hb dX3_pass_71 rfl (lv_at hl 5 rfl) ?_
              refine va_get (D := D) (ci := 3) (v := .int (zI (td + (dn : Int)))) (C := RX3) (T := TX3) (N := 5) hx hb hts hin3 hown hK hL.obj 0 rfl rfl 0 (by decide) (hts (.fieldLink RX3 38 "MourningRibbonsLaw$Sim" "day" "I") (by decide +kernel)) (fun _ h9 => h9) rfl dX3_pass_72 ?_
              refine zr_icmp_le (tgt := 85) hx hb dX3_pass_75 (by decide) ⟨by omega, by omega⟩ ⟨by omega, by omega⟩ (fun c_10 => ?_) (fun c_10 => ?_)
              · have c_10 := c_10
                have hno : ¬ (eP mo (td + (dn : Int))) (i : Int) = true := fun q => by have := of_decide_eq_true q; omega
                refine zr_iinc (v := (i : Int) + 1) (lv' := [(5, .int (zI ((i : Int) + 1))), (6, .ref (rm (i : Int))), (4, .int (zI (M : Int))), (3, .ref am), (2, .ref b), (0, .ref a), (1, .int (zI (dn : Int)))]) hx hb dX3_pass_85 hl (k := 1) rfl rfl (by decide) rfl (fun ls hl => ?_)
                refine lv_goto (tgt := 53) hx hb dX3_pass_88 (by decide) ?_
                have hl := lv_sub hl (l' := [(5, .int (zI ((i : Int) + 1))), (4, .int (zI (M : Int))), (3, .ref am), (2, .ref b), (0, .ref a), (1, .int (zI (dn : Int)))]) [0, 2, 3, 4, 5, 6] rfl
                have e_11 : ((((i + 1) : Nat) : Int) : Int) = (i : Int) + 1 := by omega
                have hl : lv_has ls 7 [(5, .int (zI (((i + 1) : Nat) : Int))), (4, .int (zI (M : Int))), (3, .ref am), (2, .ref b), (0, .ref a), (1, .int (zI (dn : Int)))] := by rw [e_11]; exact hl
                exact ih_i (i + 1) (by omega) (by omega) _ _ _ b rmb _ _ hL (zML.skip hno hB) hS hl hgb (by rw [fC_n hno]; exact hko) (by rw [fC_n hno]; omega) (by rw [fC_n hno]; omega)
              · have c_10 := c_10
                have hyes : (eP mo (td + (dn : Int))) (i : Int) = true := decide_eq_true (by omega)
                refine lv_aload_n hx hb dX3_pass_78 rfl (lv_at hl 4 rfl) ?_
                refine lv_aload hx hb dX3_pass_79 (lv_at hl 0 rfl) ?_
                refine zcallGS (As := [.ref b, .ref (rm (i : Int))]) (rest := []) ⟨hx, hb, hml, hown, hts⟩ hK hQ (kX3_more l D cI cZ c1 c2 H.size b (rm (i : Int)) (fC (eP mo (td + (dn : Int))) i) rmb (by omega)) (va_cwS 2 hts gX3_pass_X3_more rfl rfl rfl (by decide +kernel) ⟨by first | exact Nat.le_of_ble_eq_true rfl | (show _ ≤ _; omega), Nat.le_of_ble_eq_true rfl⟩) (⟨hB.1, fun j h0 h1 => ⟨_, _, hB.2 j h0 h1⟩, ⟨_, _, hL.mrn (i : Int) (by omega) (by omega)⟩⟩) hS (fun q h => Nat.le_trans hs0 (Nat.le_trans hU h)) rfl hl.1 rfl (Nat.le_of_ble_eq_true rfl) dX3_pass_81 ⟨show cc + 1 ≤ 241 from by omega, show ss + ((fC (eP mo (td + (dn : Int))) i) + 1) ≤ 28920 from by omega⟩ (fun v9 H locs hp9 hz9 hk9 hS => ?_)
                obtain ⟨bn, rfl, hge_bn, hr9⟩ := hp9
                have hk9 := fun (x : Nat) (h : x < _) => hk9 x h (Nat.not_le.mpr h)
                have hge_bn := Nat.le_trans hU hge_bn
                have hL := zSL.keep hL (fun x _ h2 => hk9 x (Nat.lt_of_lt_of_le h2 hU))
                have hB := zML.grow hB hk9
                have hU : s9.heap.size ≤ H.size := hS.1
                refine W.eq (g2 := F0 m9 84 ls [.ref bn]) rfl ?_
                have hB := zML.cons hyes hB.2 (hL.mrn (i : Int) (by omega) (by omega)) hr9
                have hko := okA.cons hko (Or.inl (hL.2.2.2.2.1 (i : Int) (by omega) (by omega)).2)
                refine lv_astore_n (lv' := [(2, .ref bn), (6, .ref (rm (i : Int))), (5, .int (zI (i : Int))), (4, .int (zI (M : Int))), (3, .ref am), (0, .ref a), (1, .int (zI (dn : Int)))]) hx hb dX3_pass_84 rfl hl (by decide) rfl (fun ls hl => ?_)
                refine zr_iinc (v := (i : Int) + 1) (lv' := [(5, .int (zI ((i : Int) + 1))), (2, .ref bn), (6, .ref (rm (i : Int))), (4, .int (zI (M : Int))), (3, .ref am), (0, .ref a), (1, .int (zI (dn : Int)))]) hx hb dX3_pass_85 hl (k := 2) rfl rfl (by decide) rfl (fun ls hl => ?_)
                refine lv_goto (tgt := 53) hx hb dX3_pass_88 (by decide) ?_
                have hl := lv_sub hl (l' := [(5, .int (zI ((i : Int) + 1))), (4, .int (zI (M : Int))), (3, .ref am), (2, .ref bn), (0, .ref a), (1, .int (zI (dn : Int)))]) [0, 3, 4, 1, 5, 6] rfl
                have e_12 : ((((i + 1) : Nat) : Int) : Int) = (i : Int) + 1 := by omega
                have hl : lv_has ls 7 [(5, .int (zI (((i + 1) : Nat) : Int))), (4, .int (zI (M : Int))), (3, .ref am), (2, .ref bn), (0, .ref a), (1, .int (zI (dn : Int)))] := by rw [e_12]; exact hl
                exact ih_i (i + 1) (by omega) (by omega) _ _ _ bn (fun j => if j = (fC (eP mo (td + (dn : Int))) i : Int) then rm (i : Int) else rmb j) _ _ hL hB hS hl hge_bn (by rw [fC_y hyes]; exact hko) (by rw [fC_y hyes]; omega) (by rw [fC_y hyes, tri_s]; omega)
        have hl := lv_sub hl (l' := [(5, .int (zI 0)), (4, .int (zI (M : Int))), (3, .ref am), (2, .ref b0), (0, .ref a), (1, .int (zI (dn : Int)))]) [0, 1, 2, 3, 4, 5] rfl
        exact L53_5 (M + 1) 0 (Nat.zero_le _) (by omega) _ _ _ b0 (fun _ => 0) _ _ hL (zML.nil hi_b0) hS hl hge_b0 (fun j h0 h1 => by have h1 : j < ((0 : Nat) : Int) := h1; omega) (by show _ ≤ 1 + 0; omega) (by show _ ≤ 0 + 0; omega)
      · have c_2 := c_2
        refine lv_aload_n hx hb dX3_pass_7 rfl (lv_at hl 1 rfl) ?_
        refine lv_dup hx hb dX3_pass_8 rfl ?_
        refine va_get (D := D) (ci := 3) (v := .int (zI (wn + smF (icS mo M n td) k))) (C := RX3) (T := TX3) (N := 5) hx hb hts hin3 hown hK hL.obj 0 rfl rfl 1 (by decide) (hts (.fieldLink RX3 61 "MourningRibbonsLaw$Sim" "worn" "I") (by decide +kernel)) (fun _ h9 => h9) rfl dX3_pass_9 ?_
        refine lv_aload_n hx hb dX3_pass_12 rfl (lv_at hl 1 rfl) ?_
        refine zcallGV (ci := 3) (cq := (RX3, TX3, 5)) (As := []) (rest := [.int (zI (wn + smF (icS mo M n td) k)), .ref a]) ⟨hx, hb, hml, hown, hts⟩ hK hQ (kX3_inColour l D cI cZ c1 c2 H.size s0 a n pa sp al co da M mo (td + (k : Int)) (wn + smF (icS mo M n td) k) (⟨by omega, by omega⟩) hmo) (cwV 0 hts gX3_pass_X3_inColour rfl rfl rfl (by decide +kernel) ⟨by first | exact Nat.le_of_ble_eq_true rfl | (show _ ≤ _; omega), Nat.le_of_ble_eq_true rfl⟩) (hL.toW hU) hL.obj hS (fun q h => Nat.le_trans hs0 (Nat.le_trans hU h)) rfl rfl hl.1 rfl (Nat.le_of_ble_eq_true rfl) dX3_pass_13 ⟨show 0 + 0 ≤ 241 from by omega, show 0 + 0 ≤ 28920 from by omega⟩ (fun v9 H locs hp9 hz9 hk9 hS => ?_)
        subst hp9
        have hk9 := fun (x : Nat) (h : x < _) => hk9 x h (Nat.not_le.mpr h)
        have hL := zSL.keep hL (fun x _ h2 => hk9 x (Nat.lt_of_lt_of_le h2 hU))
        have b_13 := (show 0 ≤ icF mo M n (td + (k : Int)) ∧ icF mo M n (td + (k : Int)) ≤ 1 * (n : Int) from @smF_bd _ n 1 (fun j => icT_01 mo M (td + (k : Int)) j))
        have hU : s9.heap.size ≤ H.size := hS.1
        refine W.eq (g2 := F0 m9 16 ls [.int (zI (icF mo M n (td + (k : Int)))), .int (zI (wn + smF (icS mo M n td) k)), .ref a]) rfl ?_
        refine zr_iadd (v := (wn + smF (icS mo M n td) k) + (icF mo M n (td + (k : Int)))) hx hb rfl dX3_pass_16 ?_
        refine zs_put (v := .int (zI ((wn + smF (icS mo M n td) k) + (icF mo M n (td + (k : Int)))))) (ty := .int) hx hb hts hin3 hown hK hL.obj hS ((hL.out (by rw [hL.2.2.2.2.2.1.1]; decide)).1) 1 (by decide) (hts (.fieldLink RX3 61 "MourningRibbonsLaw$Sim" "worn" "I") (by decide +kernel)) rfl rfl (by decide +kernel) rfl rfl (Nat.le_of_ble_eq_true rfl) dX3_pass_17 (fun H locs hO9 hz9 hk9 hS => ?_)
        have hL := zSL.num hL hO9 hk9
        have hU : s9.heap.size ≤ H.size := hS.1
        refine lv_aload_n hx hb dX3_pass_20 rfl (lv_at hl 1 rfl) ?_
        refine lv_dup hx hb dX3_pass_21 rfl ?_
        refine va_get (D := D) (ci := 3) (v := .int (zI (td + (k : Int)))) (C := RX3) (T := TX3) (N := 5) hx hb hts hin3 hown hK hL.obj 0 rfl rfl 0 (by decide) (hts (.fieldLink RX3 38 "MourningRibbonsLaw$Sim" "day" "I") (by decide +kernel)) (fun _ h9 => h9) rfl dX3_pass_22 ?_
        refine zr_iconst hx hb dX3_pass_25 ?_
        refine zr_iadd (v := (td + (k : Int)) + 1) hx hb rfl dX3_pass_26 ?_
        refine zs_put (v := .int (zI ((td + (k : Int)) + 1))) (ty := .int) hx hb hts hin3 hown hK hL.obj hS ((hL.out (by rw [hL.2.2.2.2.2.1.1]; decide)).1) 0 (by decide) (hts (.fieldLink RX3 38 "MourningRibbonsLaw$Sim" "day" "I") (by decide +kernel)) rfl rfl (by decide +kernel) rfl rfl (Nat.le_of_ble_eq_true rfl) dX3_pass_27 (fun H locs hO9 hz9 hk9 hS => ?_)
        have hL := zSL.num hL hO9 hk9
        have hU : s9.heap.size ≤ H.size := hS.1
        refine zr_iinc (v := (k : Int) + 1) (lv' := [(2, .int (zI ((k : Int) + 1))), (0, .ref a), (1, .int (zI (dn : Int)))]) hx hb dX3_pass_30 hl (k := 0) rfl rfl (by decide) rfl (fun ls hl => ?_)
        refine lv_goto (tgt := 2) hx hb dX3_pass_33 (by decide) ?_
        have hl := lv_sub hl (l' := [(2, .int (zI ((k : Int) + 1))), (0, .ref a), (1, .int (zI (dn : Int)))]) [0, 1, 2] rfl
        have e_14 : ((((k + 1) : Nat) : Int) : Int) = (k : Int) + 1 := by omega
        have hl : lv_has ls 7 [(2, .int (zI (((k + 1) : Nat) : Int))), (0, .ref a), (1, .int (zI (dn : Int)))] := by rw [e_14]; exact hl
        exact ih_k (k + 1) (by omega) (by omega) _ _ _ (by rw [show td + (((k + 1) : Nat) : Int) = td + (k : Int) + 1 by omega, show wn + smF (icS mo M n td) (k + 1) = wn + smF (icS mo M n td) k + icF mo M n (td + (k : Int)) from (Int.add_assoc _ _ _).symm]; exact hL) hS hl 
  have hl := lv_sub hl (l' := [(2, .int (zI 0)), (0, .ref a), (1, .int (zI (dn : Int)))]) [0, 1, 2] rfl
  exact L2_1 (dn + 1) 0 (Nat.zero_le _) (by omega) _ _ _ (by rw [show td + ((0 : Nat) : Int) = td from Int.add_zero td, show wn + smF (icS mo M n td) 0 = wn from Int.add_zero wn]; exact hL) hS hl 
set_option maxHeartbeats 4000000 in
set_option maxRecDepth 100000 in
theorem kX3_marry (l : Launch) (D : va_G) (cI cZ c1 c2 : ClassId) (sz : Nat) (s0 : Nat) (a : Nat) (n : Nat) (pa : Int → Int) (sp : Int → Int) (al : Int → Int) (co : Int → Int) (da : Int → Int) (M : Nat) (mo : Int → Int → Int) (td : Int) (wn : Int) (p : Int) (d : Int) (hsp : ∀ j : Int, -1 ≤ sp j ∧ sp j ≤ 15) (hp : 0 ≤ p ∧ p < (n : Int)) (hd : 0 ≤ d ∧ d < (n : Int)) (hpd : p ≠ d) (hsn : ∀ j : Int, 0 ≤ j → j < (n : Int) → sp j < (n : Int)) : zG l yX3_marry wsX3_marry ({ frames := 0, cells := 0, slots := 0, locals := 0 } : Room) D cI cZ c1 c2 [.ref a, .int (zI p), .int (zI d)] sz (fun H => zSW D cI c1 c2 s0 a n pa sp al co da M mo td wn H) (fun v H => v = none ∧ zSW D cI c1 c2 s0 a n pa (up (up (lvS (lvS sp p) d) p d) d p) al co da M mo td wn H) (fun q : Nat => s0 ≤ q) (0) (0) := by
  refine Met.ofW (cc := cX3_marry) (maxL := 3) (ret := none) (by decide) rfl ?_
  intro p0 e9 s9 m9 ag9 below meth c9 s₁ B hml hv
  obtain ⟨hav, hsz, hPre, hK, hQ⟩ := hv
  subst hsz
  have hx := B.exec
  have hb := B.bytes
  have hr := B.returns
  have hts := atoms_spec (ws := wsX3_marry) B.pre
  have hown : s9.vm.findClass RX3 = some m9.cls := findClass_of_methodNamed B.named
  have hlocks := B.notSynchronized
  have hin3 : ∀ w ∈ u_ws RX3 TX3 5, w ∈ wsX3_marry := by decide +kernel
  have hl := lv_entry ([.ref a, .int (zI p), .int (zI d)]) (n := 3) (Nat.le_of_ble_eq_true rfl)
  have hE : entryFrame m9 ag9 3 = F0 m9 0 ((lg_sl ([.ref a, .int (zI p), .int (zI d)]) ++ List.replicate (3 - (lg_sl ([.ref a, .int (zI p), .int (zI d)])).length) Slot.unset).toArray) [] := by rw [hav]; exact lg_entry_eq m9 _ _
  obtain ⟨Q0, hQ0⟩ : ∃ Q0, Q0 = MQ below (zGQ (fun v H => v = none ∧ zSW D cI c1 c2 s0 a n pa (up (up (lvS (lvS sp p) d) p d) d p) al co da M mo td wn H) (fun q : Nat => s0 ≤ q)) ag9 s9 (0) (0) (fun q : Nat => s0 ≤ q) := ⟨_, rfl⟩
  show W p0 l e9 ({ frames := 0, cells := 0, slots := 0, locals := 0 } : Room) s9 m9 ag9 below meth c9 s9.heap [] 0 0 (MQ below (zGQ (fun v H => v = none ∧ zSW D cI c1 c2 s0 a n pa (up (up (lvS (lvS sp p) d) p d) d p) al co da M mo td wn H) (fun q : Nat => s0 ≤ q)) ag9 s9 (0) (0) (fun q : Nat => s0 ≤ q)) _
  rw [hE, ← hQ0]
  have hS : va_S (fun q : Nat => s0 ≤ q) s9.heap s9.heap [] := va_S.rf
  have hU : s9.heap.size ≤ s9.heap.size := Nat.le_refl _
  generalize (lg_sl ([.ref a, .int (zI p), .int (zI d)]) ++ List.replicate (3 - (lg_sl ([.ref a, .int (zI p), .int (zI d)])).length) Slot.unset).toArray = ls at hl ⊢
  have hl : lv_has ls 3 [(0, .ref a), (1, .int (zI p)), (2, .int (zI d))] := hl
  obtain ⟨kd, ap, ac, am, ra, rc, rr, rm, hL⟩ := hPre
  have hs0 := hL.s0u
  have haub := hL.aub
  have hn9 := hL.n16
  have hM9 := hL.M240
  have hub := Nat.le_refl s9.heap.size
  have hb1 := hsp p
  have hb2 := hsn p (by omega) (by omega)
  refine lv_aload_n hx hb dX3_marry_0 rfl (lv_at hl 0 rfl) ?_
  refine va_get (D := D) (ci := 3) (v := .ref ap) (C := RX3) (T := TX3) (N := 5) hx hb hts hin3 hown hK hL.obj 0 rfl rfl 2 (by decide) (hts (.fieldLink RX3 9 "MourningRibbonsLaw$Sim" "people" "[[I") (by decide +kernel)) (fun _ h9 => h9) rfl dX3_marry_1 ?_
  refine lv_iload_n hx hb dX3_marry_4 rfl (lv_at hl 1 rfl) ?_
  refine zs_ald1 (v := .ref (ra p)) (i := p) hx hb hQ hL.ppl (by omega) (by omega) (by have := hL.n16; omega) rfl dX3_marry_5 ?_
  refine zr_iconst hx hb dX3_marry_6 ?_
  refine zs_ild (v := sp p) (i := 1) hx hb hQ (hL.row p (by omega) (by omega)) (by decide) (by decide) (by decide) rfl dX3_marry_7 ?_
  have b_1 := hsp p
  refine zr_if_lt (tgt := 27) hx hb dX3_marry_8 (by decide) ⟨by omega, by omega⟩ (fun c_2 => ?_) (fun c_2 => ?_)
  · have c_2 := c_2
    have hL : zSL D cI c1 c2 s0 s9.heap.size s9.heap a kd ap ac am ra rc rr rm n pa (lvS sp p) al co da M mo td wn := by rw [show lvS sp p = sp from if_neg (by omega)]; exact hL
    have hsp1 := lvS_bd hsp p
    have hsn1 : ∀ j : Int, 0 ≤ j → j < (n : Int) → lvS sp p j < (n : Int) := fun j h0 h1 => lvS_lt hsn p h0 h1
    have hb3 := hsp1 d
    have hb4 := hsn1 d (by omega) (by omega)
    refine lv_aload_n hx hb dX3_marry_27 rfl (lv_at hl 0 rfl) ?_
    refine va_get (D := D) (ci := 3) (v := .ref ap) (C := RX3) (T := TX3) (N := 5) hx hb hts hin3 hown hK hL.obj 0 rfl rfl 2 (by decide) (hts (.fieldLink RX3 9 "MourningRibbonsLaw$Sim" "people" "[[I") (by decide +kernel)) (fun _ h9 => h9) rfl dX3_marry_28 ?_
    refine lv_iload_n hx hb dX3_marry_31 rfl (lv_at hl 2 rfl) ?_
    refine zs_ald1 (v := .ref (ra d)) (i := d) hx hb hQ hL.ppl (by omega) (by omega) (by have := hL.n16; omega) rfl dX3_marry_32 ?_
    refine zr_iconst hx hb dX3_marry_33 ?_
    refine zs_ild (v := (lvS sp p) d) (i := 1) hx hb hQ (hL.row d (by omega) (by omega)) (by decide) (by decide) (by decide) rfl dX3_marry_34 ?_
    have b_3 := hsp1 d
    refine zr_if_lt (tgt := 54) hx hb dX3_marry_35 (by decide) ⟨by omega, by omega⟩ (fun c_4 => ?_) (fun c_4 => ?_)
    · have c_4 := c_4
      have hL : zSL D cI c1 c2 s0 s9.heap.size s9.heap a kd ap ac am ra rc rr rm n pa (lvS (lvS sp p) d) al co da M mo td wn := by rw [show lvS (lvS sp p) d = lvS sp p from if_neg (by omega)]; exact hL
      refine lv_aload_n hx hb dX3_marry_54 rfl (lv_at hl 0 rfl) ?_
      refine va_get (D := D) (ci := 3) (v := .ref ap) (C := RX3) (T := TX3) (N := 5) hx hb hts hin3 hown hK hL.obj 0 rfl rfl 2 (by decide) (hts (.fieldLink RX3 9 "MourningRibbonsLaw$Sim" "people" "[[I") (by decide +kernel)) (fun _ h9 => h9) rfl dX3_marry_55 ?_
      refine lv_iload_n hx hb dX3_marry_58 rfl (lv_at hl 1 rfl) ?_
      refine zs_ald1 (v := .ref (ra p)) (i := p) hx hb hQ hL.ppl (by omega) (by omega) (by have := hL.n16; omega) rfl dX3_marry_59 ?_
      refine zr_iconst hx hb dX3_marry_60 ?_
      refine lv_iload_n hx hb dX3_marry_61 rfl (lv_at hl 2 rfl) ?_
      refine zs_ist (i := 1) (x := d) hx hb hQ (hL.row p (by omega) (by omega)) hS ((hL.rau p (by omega) (by omega)).1) (by decide) (by decide) (by decide) dX3_marry_62 (fun H locs hv9 hz9 hk9 hS => ?_)
      have hL := zSL.prs (pa' := pa) (sp' := up (lvS (lvS sp p) d) p d) (al' := al) (i0 := p) hL (by omega) (by omega) hv9 hk9 (fun j _ _ => rowP_sp _ _ _ _ _ j) (fun z _ _ hz => ⟨rfl, up_n _ hz, rfl⟩)
      have hU : s9.heap.size ≤ H.size := hS.1
      refine lv_aload_n hx hb dX3_marry_63 rfl (lv_at hl 0 rfl) ?_
      refine va_get (D := D) (ci := 3) (v := .ref ap) (C := RX3) (T := TX3) (N := 5) hx hb hts hin3 hown hK hL.obj 0 rfl rfl 2 (by decide) (hts (.fieldLink RX3 9 "MourningRibbonsLaw$Sim" "people" "[[I") (by decide +kernel)) (fun _ h9 => h9) rfl dX3_marry_64 ?_
      refine lv_iload_n hx hb dX3_marry_67 rfl (lv_at hl 2 rfl) ?_
      refine zs_ald1 (v := .ref (ra d)) (i := d) hx hb hQ hL.ppl (by omega) (by omega) (by have := hL.n16; omega) rfl dX3_marry_68 ?_
      refine zr_iconst hx hb dX3_marry_69 ?_
      refine lv_iload_n hx hb dX3_marry_70 rfl (lv_at hl 1 rfl) ?_
      refine zs_ist (i := 1) (x := p) hx hb hQ (hL.row d (by omega) (by omega)) hS ((hL.rau d (by omega) (by omega)).1) (by decide) (by decide) (by decide) dX3_marry_71 (fun H locs hv9 hz9 hk9 hS => ?_)
      have hL := zSL.prs (pa' := pa) (sp' := up (up (lvS (lvS sp p) d) p d) d p) (al' := al) (i0 := d) hL (by omega) (by omega) hv9 hk9 (fun j _ _ => rowP_sp _ _ _ _ _ j) (fun z _ _ hz => ⟨rfl, up_n _ hz, rfl⟩)
      have hU : s9.heap.size ≤ H.size := hS.1
      rw [hQ0]
      exact zgret_v hx hb hr hlocks (⟨rfl, hL.toW hU⟩) hS dX3_marry_72 (by omega) (by omega)
    · have c_4 := c_4
      refine lv_aload_n hx hb dX3_marry_38 rfl (lv_at hl 0 rfl) ?_
      refine va_get (D := D) (ci := 3) (v := .ref ap) (C := RX3) (T := TX3) (N := 5) hx hb hts hin3 hown hK hL.obj 0 rfl rfl 2 (by decide) (hts (.fieldLink RX3 9 "MourningRibbonsLaw$Sim" "people" "[[I") (by decide +kernel)) (fun _ h9 => h9) rfl dX3_marry_39 ?_
      refine lv_aload_n hx hb dX3_marry_42 rfl (lv_at hl 0 rfl) ?_
      refine va_get (D := D) (ci := 3) (v := .ref ap) (C := RX3) (T := TX3) (N := 5) hx hb hts hin3 hown hK hL.obj 0 rfl rfl 2 (by decide) (hts (.fieldLink RX3 9 "MourningRibbonsLaw$Sim" "people" "[[I") (by decide +kernel)) (fun _ h9 => h9) rfl dX3_marry_43 ?_
      refine lv_iload_n hx hb dX3_marry_46 rfl (lv_at hl 2 rfl) ?_
      refine zs_ald1 (v := .ref (ra d)) (i := d) hx hb hQ hL.ppl (by omega) (by omega) (by have := hL.n16; omega) rfl dX3_marry_47 ?_
      refine zr_iconst hx hb dX3_marry_48 ?_
      refine zs_ild (v := (lvS sp p) d) (i := 1) hx hb hQ (hL.row d (by omega) (by omega)) (by decide) (by decide) (by decide) rfl dX3_marry_49 ?_
      have b_5 := hsp1 d
      refine zs_ald1 (v := .ref (ra ((lvS sp p) d))) (i := (lvS sp p) d) hx hb hQ hL.ppl (by omega) (by omega) (by have := hL.n16; omega) rfl dX3_marry_50 ?_
      refine zr_iconst hx hb dX3_marry_51 ?_
      refine zr_iconst hx hb dX3_marry_52 ?_
      refine zs_ist (i := 1) (x := (-1)) hx hb hQ (hL.row ((lvS sp p) d) (by omega) (by omega)) hS ((hL.rau (lvS sp p d) (by omega) (by omega)).1) (by decide) (by decide) (by decide) dX3_marry_53 (fun H locs hv9 hz9 hk9 hS => ?_)
      have hL := zSL.prs (pa' := pa) (sp' := up (lvS sp p) ((lvS sp p) d) (-1)) (al' := al) (i0 := ((lvS sp p) d)) hL (by omega) (by omega) hv9 hk9 (fun j _ _ => rowP_sp _ _ _ _ _ j) (fun z _ _ hz => ⟨rfl, up_n _ hz, rfl⟩)
      have hL : zSL D cI c1 c2 s0 s9.heap.size H a kd ap ac am ra rc rr rm n pa (lvS (lvS sp p) d) al co da M mo td wn := by rw [show lvS (lvS sp p) d = up (lvS sp p) ((lvS sp p) d) (-1) from if_pos (by omega)]; exact hL
      have hU : s9.heap.size ≤ H.size := hS.1
      refine lv_aload_n hx hb dX3_marry_54 rfl (lv_at hl 0 rfl) ?_
      refine va_get (D := D) (ci := 3) (v := .ref ap) (C := RX3) (T := TX3) (N := 5) hx hb hts hin3 hown hK hL.obj 0 rfl rfl 2 (by decide) (hts (.fieldLink RX3 9 "MourningRibbonsLaw$Sim" "people" "[[I") (by decide +kernel)) (fun _ h9 => h9) rfl dX3_marry_55 ?_
      refine lv_iload_n hx hb dX3_marry_58 rfl (lv_at hl 1 rfl) ?_
      refine zs_ald1 (v := .ref (ra p)) (i := p) hx hb hQ hL.ppl (by omega) (by omega) (by have := hL.n16; omega) rfl dX3_marry_59 ?_
      refine zr_iconst hx hb dX3_marry_60 ?_
      refine lv_iload_n hx hb dX3_marry_61 rfl (lv_at hl 2 rfl) ?_
      refine zs_ist (i := 1) (x := d) hx hb hQ (hL.row p (by omega) (by omega)) hS ((hL.rau p (by omega) (by omega)).1) (by decide) (by decide) (by decide) dX3_marry_62 (fun H locs hv9 hz9 hk9 hS => ?_)
      have hL := zSL.prs (pa' := pa) (sp' := up (lvS (lvS sp p) d) p d) (al' := al) (i0 := p) hL (by omega) (by omega) hv9 hk9 (fun j _ _ => rowP_sp _ _ _ _ _ j) (fun z _ _ hz => ⟨rfl, up_n _ hz, rfl⟩)
      have hU : s9.heap.size ≤ H.size := hS.1
      refine lv_aload_n hx hb dX3_marry_63 rfl (lv_at hl 0 rfl) ?_
      refine va_get (D := D) (ci := 3) (v := .ref ap) (C := RX3) (T := TX3) (N := 5) hx hb hts hin3 hown hK hL.obj 0 rfl rfl 2 (by decide) (hts (.fieldLink RX3 9 "MourningRibbonsLaw$Sim" "people" "[[I") (by decide +kernel)) (fun _ h9 => h9) rfl dX3_marry_64 ?_
      refine lv_iload_n hx hb dX3_marry_67 rfl (lv_at hl 2 rfl) ?_
      refine zs_ald1 (v := .ref (ra d)) (i := d) hx hb hQ hL.ppl (by omega) (by omega) (by have := hL.n16; omega) rfl dX3_marry_68 ?_
      refine zr_iconst hx hb dX3_marry_69 ?_
      refine lv_iload_n hx hb dX3_marry_70 rfl (lv_at hl 1 rfl) ?_
      refine zs_ist (i := 1) (x := p) hx hb hQ (hL.row d (by omega) (by omega)) hS ((hL.rau d (by omega) (by omega)).1) (by decide) (by decide) (by decide) dX3_marry_71 (fun H locs hv9 hz9 hk9 hS => ?_)
      have hL := zSL.prs (pa' := pa) (sp' := up (up (lvS (lvS sp p) d) p d) d p) (al' := al) (i0 := d) hL (by omega) (by omega) hv9 hk9 (fun j _ _ => rowP_sp _ _ _ _ _ j) (fun z _ _ hz => ⟨rfl, up_n _ hz, rfl⟩)
      have hU : s9.heap.size ≤ H.size := hS.1
      rw [hQ0]
      exact zgret_v hx hb hr hlocks (⟨rfl, hL.toW hU⟩) hS dX3_marry_72 (by omega) (by omega)
  · have c_2 := c_2
    refine lv_aload_n hx hb dX3_marry_11 rfl (lv_at hl 0 rfl) ?_
    refine va_get (D := D) (ci := 3) (v := .ref ap) (C := RX3) (T := TX3) (N := 5) hx hb hts hin3 hown hK hL.obj 0 rfl rfl 2 (by decide) (hts (.fieldLink RX3 9 "MourningRibbonsLaw$Sim" "people" "[[I") (by decide +kernel)) (fun _ h9 => h9) rfl dX3_marry_12 ?_
    refine lv_aload_n hx hb dX3_marry_15 rfl (lv_at hl 0 rfl) ?_
    refine va_get (D := D) (ci := 3) (v := .ref ap) (C := RX3) (T := TX3) (N := 5) hx hb hts hin3 hown hK hL.obj 0 rfl rfl 2 (by decide) (hts (.fieldLink RX3 9 "MourningRibbonsLaw$Sim" "people" "[[I") (by decide +kernel)) (fun _ h9 => h9) rfl dX3_marry_16 ?_
    refine lv_iload_n hx hb dX3_marry_19 rfl (lv_at hl 1 rfl) ?_
    refine zs_ald1 (v := .ref (ra p)) (i := p) hx hb hQ hL.ppl (by omega) (by omega) (by have := hL.n16; omega) rfl dX3_marry_20 ?_
    refine zr_iconst hx hb dX3_marry_21 ?_
    refine zs_ild (v := sp p) (i := 1) hx hb hQ (hL.row p (by omega) (by omega)) (by decide) (by decide) (by decide) rfl dX3_marry_22 ?_
    have b_6 := hsp p
    refine zs_ald1 (v := .ref (ra (sp p))) (i := sp p) hx hb hQ hL.ppl (by omega) (by omega) (by have := hL.n16; omega) rfl dX3_marry_23 ?_
    refine zr_iconst hx hb dX3_marry_24 ?_
    refine zr_iconst hx hb dX3_marry_25 ?_
    refine zs_ist (i := 1) (x := (-1)) hx hb hQ (hL.row (sp p) (by omega) (by omega)) hS ((hL.rau (sp p) (by omega) (by omega)).1) (by decide) (by decide) (by decide) dX3_marry_26 (fun H locs hv9 hz9 hk9 hS => ?_)
    have hL := zSL.prs (pa' := pa) (sp' := up sp (sp p) (-1)) (al' := al) (i0 := (sp p)) hL (by omega) (by omega) hv9 hk9 (fun j _ _ => rowP_sp _ _ _ _ _ j) (fun z _ _ hz => ⟨rfl, up_n _ hz, rfl⟩)
    have hL : zSL D cI c1 c2 s0 s9.heap.size H a kd ap ac am ra rc rr rm n pa (lvS sp p) al co da M mo td wn := by rw [show lvS sp p = up sp (sp p) (-1) from if_pos (by omega)]; exact hL
    have hU : s9.heap.size ≤ H.size := hS.1
    have hsp1 := lvS_bd hsp p
    have hsn1 : ∀ j : Int, 0 ≤ j → j < (n : Int) → lvS sp p j < (n : Int) := fun j h0 h1 => lvS_lt hsn p h0 h1
    have hb3 := hsp1 d
    have hb4 := hsn1 d (by omega) (by omega)
    refine lv_aload_n hx hb dX3_marry_27 rfl (lv_at hl 0 rfl) ?_
    refine va_get (D := D) (ci := 3) (v := .ref ap) (C := RX3) (T := TX3) (N := 5) hx hb hts hin3 hown hK hL.obj 0 rfl rfl 2 (by decide) (hts (.fieldLink RX3 9 "MourningRibbonsLaw$Sim" "people" "[[I") (by decide +kernel)) (fun _ h9 => h9) rfl dX3_marry_28 ?_
    refine lv_iload_n hx hb dX3_marry_31 rfl (lv_at hl 2 rfl) ?_
    refine zs_ald1 (v := .ref (ra d)) (i := d) hx hb hQ hL.ppl (by omega) (by omega) (by have := hL.n16; omega) rfl dX3_marry_32 ?_
    refine zr_iconst hx hb dX3_marry_33 ?_
    refine zs_ild (v := (lvS sp p) d) (i := 1) hx hb hQ (hL.row d (by omega) (by omega)) (by decide) (by decide) (by decide) rfl dX3_marry_34 ?_
    have b_7 := hsp1 d
    refine zr_if_lt (tgt := 54) hx hb dX3_marry_35 (by decide) ⟨by omega, by omega⟩ (fun c_8 => ?_) (fun c_8 => ?_)
    · have c_8 := c_8
      have hL : zSL D cI c1 c2 s0 s9.heap.size H a kd ap ac am ra rc rr rm n pa (lvS (lvS sp p) d) al co da M mo td wn := by rw [show lvS (lvS sp p) d = lvS sp p from if_neg (by omega)]; exact hL
      refine lv_aload_n hx hb dX3_marry_54 rfl (lv_at hl 0 rfl) ?_
      refine va_get (D := D) (ci := 3) (v := .ref ap) (C := RX3) (T := TX3) (N := 5) hx hb hts hin3 hown hK hL.obj 0 rfl rfl 2 (by decide) (hts (.fieldLink RX3 9 "MourningRibbonsLaw$Sim" "people" "[[I") (by decide +kernel)) (fun _ h9 => h9) rfl dX3_marry_55 ?_
      refine lv_iload_n hx hb dX3_marry_58 rfl (lv_at hl 1 rfl) ?_
      refine zs_ald1 (v := .ref (ra p)) (i := p) hx hb hQ hL.ppl (by omega) (by omega) (by have := hL.n16; omega) rfl dX3_marry_59 ?_
      refine zr_iconst hx hb dX3_marry_60 ?_
      refine lv_iload_n hx hb dX3_marry_61 rfl (lv_at hl 2 rfl) ?_
      refine zs_ist (i := 1) (x := d) hx hb hQ (hL.row p (by omega) (by omega)) hS ((hL.rau p (by omega) (by omega)).1) (by decide) (by decide) (by decide) dX3_marry_62 (fun H locs hv9 hz9 hk9 hS => ?_)
      have hL := zSL.prs (pa' := pa) (sp' := up (lvS (lvS sp p) d) p d) (al' := al) (i0 := p) hL (by omega) (by omega) hv9 hk9 (fun j _ _ => rowP_sp _ _ _ _ _ j) (fun z _ _ hz => ⟨rfl, up_n _ hz, rfl⟩)
      have hU : s9.heap.size ≤ H.size := hS.1
      refine lv_aload_n hx hb dX3_marry_63 rfl (lv_at hl 0 rfl) ?_
      refine va_get (D := D) (ci := 3) (v := .ref ap) (C := RX3) (T := TX3) (N := 5) hx hb hts hin3 hown hK hL.obj 0 rfl rfl 2 (by decide) (hts (.fieldLink RX3 9 "MourningRibbonsLaw$Sim" "people" "[[I") (by decide +kernel)) (fun _ h9 => h9) rfl dX3_marry_64 ?_
      refine lv_iload_n hx hb dX3_marry_67 rfl (lv_at hl 2 rfl) ?_
      refine zs_ald1 (v := .ref (ra d)) (i := d) hx hb hQ hL.ppl (by omega) (by omega) (by have := hL.n16; omega) rfl dX3_marry_68 ?_
      refine zr_iconst hx hb dX3_marry_69 ?_
      refine lv_iload_n hx hb dX3_marry_70 rfl (lv_at hl 1 rfl) ?_
      refine zs_ist (i := 1) (x := p) hx hb hQ (hL.row d (by omega) (by omega)) hS ((hL.rau d (by omega) (by omega)).1) (by decide) (by decide) (by decide) dX3_marry_71 (fun H locs hv9 hz9 hk9 hS => ?_)
      have hL := zSL.prs (pa' := pa) (sp' := up (up (lvS (lvS sp p) d) p d) d p) (al' := al) (i0 := d) hL (by omega) (by omega) hv9 hk9 (fun j _ _ => rowP_sp _ _ _ _ _ j) (fun z _ _ hz => ⟨rfl, up_n _ hz, rfl⟩)
      have hU : s9.heap.size ≤ H.size := hS.1
      rw [hQ0]
      exact zgret_v hx hb hr hlocks (⟨rfl, hL.toW hU⟩) hS dX3_marry_72 (by omega) (by omega)
    · have c_8 := c_8
      refine lv_aload_n hx hb dX3_marry_38 rfl (lv_at hl 0 rfl) ?_
      refine va_get (D := D) (ci := 3) (v := .ref ap) (C := RX3) (T := TX3) (N := 5) hx hb hts hin3 hown hK hL.obj 0 rfl rfl 2 (by decide) (hts (.fieldLink RX3 9 "MourningRibbonsLaw$Sim" "people" "[[I") (by decide +kernel)) (fun _ h9 => h9) rfl dX3_marry_39 ?_
      refine lv_aload_n hx hb dX3_marry_42 rfl (lv_at hl 0 rfl) ?_
      refine va_get (D := D) (ci := 3) (v := .ref ap) (C := RX3) (T := TX3) (N := 5) hx hb hts hin3 hown hK hL.obj 0 rfl rfl 2 (by decide) (hts (.fieldLink RX3 9 "MourningRibbonsLaw$Sim" "people" "[[I") (by decide +kernel)) (fun _ h9 => h9) rfl dX3_marry_43 ?_
      refine lv_iload_n hx hb dX3_marry_46 rfl (lv_at hl 2 rfl) ?_
      refine zs_ald1 (v := .ref (ra d)) (i := d) hx hb hQ hL.ppl (by omega) (by omega) (by have := hL.n16; omega) rfl dX3_marry_47 ?_
      refine zr_iconst hx hb dX3_marry_48 ?_
      refine zs_ild (v := (lvS sp p) d) (i := 1) hx hb hQ (hL.row d (by omega) (by omega)) (by decide) (by decide) (by decide) rfl dX3_marry_49 ?_
      have b_9 := hsp1 d
      refine zs_ald1 (v := .ref (ra ((lvS sp p) d))) (i := (lvS sp p) d) hx hb hQ hL.ppl (by omega) (by omega) (by have := hL.n16; omega) rfl dX3_marry_50 ?_
      refine zr_iconst hx hb dX3_marry_51 ?_
      refine zr_iconst hx hb dX3_marry_52 ?_
      refine zs_ist (i := 1) (x := (-1)) hx hb hQ (hL.row ((lvS sp p) d) (by omega) (by omega)) hS ((hL.rau (lvS sp p d) (by omega) (by omega)).1) (by decide) (by decide) (by decide) dX3_marry_53 (fun H locs hv9 hz9 hk9 hS => ?_)
      have hL := zSL.prs (pa' := pa) (sp' := up (lvS sp p) ((lvS sp p) d) (-1)) (al' := al) (i0 := ((lvS sp p) d)) hL (by omega) (by omega) hv9 hk9 (fun j _ _ => rowP_sp _ _ _ _ _ j) (fun z _ _ hz => ⟨rfl, up_n _ hz, rfl⟩)
      have hL : zSL D cI c1 c2 s0 s9.heap.size H a kd ap ac am ra rc rr rm n pa (lvS (lvS sp p) d) al co da M mo td wn := by rw [show lvS (lvS sp p) d = up (lvS sp p) ((lvS sp p) d) (-1) from if_pos (by omega)]; exact hL
      have hU : s9.heap.size ≤ H.size := hS.1
      refine lv_aload_n hx hb dX3_marry_54 rfl (lv_at hl 0 rfl) ?_
      refine va_get (D := D) (ci := 3) (v := .ref ap) (C := RX3) (T := TX3) (N := 5) hx hb hts hin3 hown hK hL.obj 0 rfl rfl 2 (by decide) (hts (.fieldLink RX3 9 "MourningRibbonsLaw$Sim" "people" "[[I") (by decide +kernel)) (fun _ h9 => h9) rfl dX3_marry_55 ?_
      refine lv_iload_n hx hb dX3_marry_58 rfl (lv_at hl 1 rfl) ?_
      refine zs_ald1 (v := .ref (ra p)) (i := p) hx hb hQ hL.ppl (by omega) (by omega) (by have := hL.n16; omega) rfl dX3_marry_59 ?_
      refine zr_iconst hx hb dX3_marry_60 ?_
      refine lv_iload_n hx hb dX3_marry_61 rfl (lv_at hl 2 rfl) ?_
      refine zs_ist (i := 1) (x := d) hx hb hQ (hL.row p (by omega) (by omega)) hS ((hL.rau p (by omega) (by omega)).1) (by decide) (by decide) (by decide) dX3_marry_62 (fun H locs hv9 hz9 hk9 hS => ?_)
      have hL := zSL.prs (pa' := pa) (sp' := up (lvS (lvS sp p) d) p d) (al' := al) (i0 := p) hL (by omega) (by omega) hv9 hk9 (fun j _ _ => rowP_sp _ _ _ _ _ j) (fun z _ _ hz => ⟨rfl, up_n _ hz, rfl⟩)
      have hU : s9.heap.size ≤ H.size := hS.1
      refine lv_aload_n hx hb dX3_marry_63 rfl (lv_at hl 0 rfl) ?_
      refine va_get (D := D) (ci := 3) (v := .ref ap) (C := RX3) (T := TX3) (N := 5) hx hb hts hin3 hown hK hL.obj 0 rfl rfl 2 (by decide) (hts (.fieldLink RX3 9 "MourningRibbonsLaw$Sim" "people" "[[I") (by decide +kernel)) (fun _ h9 => h9) rfl dX3_marry_64 ?_
      refine lv_iload_n hx hb dX3_marry_67 rfl (lv_at hl 2 rfl) ?_
      refine zs_ald1 (v := .ref (ra d)) (i := d) hx hb hQ hL.ppl (by omega) (by omega) (by have := hL.n16; omega) rfl dX3_marry_68 ?_
      refine zr_iconst hx hb dX3_marry_69 ?_
      refine lv_iload_n hx hb dX3_marry_70 rfl (lv_at hl 1 rfl) ?_
      refine zs_ist (i := 1) (x := p) hx hb hQ (hL.row d (by omega) (by omega)) hS ((hL.rau d (by omega) (by omega)).1) (by decide) (by decide) (by decide) dX3_marry_71 (fun H locs hv9 hz9 hk9 hS => ?_)
      have hL := zSL.prs (pa' := pa) (sp' := up (up (lvS (lvS sp p) d) p d) d p) (al' := al) (i0 := d) hL (by omega) (by omega) hv9 hk9 (fun j _ _ => rowP_sp _ _ _ _ _ j) (fun z _ _ hz => ⟨rfl, up_n _ hz, rfl⟩)
      have hU : s9.heap.size ≤ H.size := hS.1
      rw [hQ0]
      exact zgret_v hx hb hr hlocks (⟨rfl, hL.toW hU⟩) hS dX3_marry_72 (by omega) (by omega)
