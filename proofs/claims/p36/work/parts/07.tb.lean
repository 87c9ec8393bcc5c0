/-! (D) a death -/
theorem enC_at {mb : Int → Int} {p : Int} (k : Nat) (hk : k ≤ 16) {x y : Int} (y0 : 0 ≤ y) (y1 : y < 16) : enC mb p k (x * 16 + y) = if x = p ∧ y < (k : Int) then 0 else mb (x * 16 + y) := by
  induction k with
  | zero => rw [if_neg (by omega)]; rfl
  | succ k ih =>
    show up (enC mb p k) (p * 16 + (k : Int)) 0 (x * 16 + y) = _
    unfold up
    by_cases e : x * 16 + y = p * 16 + (k : Int)
    · rw [if_pos e, if_pos (by omega)]
    · rw [if_neg e, ih (by omega)]
      by_cases c : x = p ∧ y < (k : Int)
      · rw [if_pos c, if_pos (by omega)]
      · rw [if_neg c, if_neg (by omega)]
theorem bgC_at {al da dg mb : Int → Int} {d : Int} (d0 : 0 ≤ d) (d1 : d < 16) (k : Nat) {x y : Int} (y0 : 0 ≤ y) (y1 : y < 16) : bgC al da dg mb d k (x * 16 + y) = if 0 ≤ x ∧ x < (k : Int) ∧ y = d ∧ al x ≠ 0 ∧ 0 < dAll da 16 (dg x) then dg x else mb (x * 16 + y) := by
  induction k with
  | zero => rw [if_neg (by omega)]; rfl
  | succ k ih =>
    by_cases c : al (k : Int) ≠ 0 ∧ 0 < dAll da 16 (dg (k : Int))
    · rw [bgC_y c]
      unfold up
      by_cases e : x * 16 + y = (k : Int) * 16 + d
      · have ex : x = (k : Int) := by omega
        subst ex
        rw [if_pos e, if_pos ⟨by omega, by omega, by omega, c⟩]
      · rw [if_neg e, ih]
        by_cases q : 0 ≤ x ∧ x < (k : Int) ∧ y = d ∧ al x ≠ 0 ∧ 0 < dAll da 16 (dg x)
        · rw [if_pos q, if_pos ⟨q.1, by omega, q.2.2⟩]
        · rw [if_neg q, if_neg]
          rintro ⟨z1, z2, z3, z4⟩
          by_cases ex : x = (k : Int)
          · omega
          · exact q ⟨z1, by omega, z3, z4⟩
    · rw [bgC_n c, ih]
      by_cases q : 0 ≤ x ∧ x < (k : Int) ∧ y = d ∧ al x ≠ 0 ∧ 0 < dAll da 16 (dg x)
      · rw [if_pos q, if_pos ⟨q.1, by omega, q.2.2⟩]
      · rw [if_neg q, if_neg]
        rintro ⟨z1, z2, z3, z4⟩
        by_cases ex : x = (k : Int)
        · rw [ex] at z4
          exact c z4
        · exact q ⟨z1, by omega, z3, z4⟩
/-- the code as a death keeps it -/
abbrev kpF (f : Int → Int) (p : Int) : Int → Int := cpZ f f (16 * 12 + (1 - 1) * 3 + 0) (p * 12 + (1 - 1) * 3 + 0) 12
theorem kpF_o (f : Int → Int) {p d g z : Int} (hd : d ≠ p) (g1 : 1 ≤ g) (g4 : g ≤ 4) (z0 : 0 ≤ z) (z2 : z ≤ 2) : kpF f p (d * 12 + (g - 1) * 3 + z) = f (d * 12 + (g - 1) * 3 + z) := by
  show (if _ ∧ _ then _ else _) = _
  rw [if_neg (by omega)]
theorem kpF_p (f : Int → Int) {p g z : Int} (g1 : 1 ≤ g) (g4 : g ≤ 4) (z0 : 0 ≤ z) (z2 : z ≤ 2) : kpF f p (p * 12 + (g - 1) * 3 + z) = f (192 + ((g - 1) * 3 + z)) := by
  show (if _ ∧ _ then _ else _) = _
  rw [if_pos (by omega)]
  congr 1
  omega
theorem kpF_dA (f : Int → Int) {p d : Int} (hd : d ≠ p) (g : Int) : dAll (kpF f p) d g = dAll f d g := by
  unfold dAll
  split
  · rfl
  · rw [kpF_o f hd (by omega) (by omega) (by decide) (by decide), kpF_o f hd (by omega) (by omega) (by decide) (by decide), kpF_o f hd (by omega) (by omega) (by decide) (by decide)]
theorem kpF_cO (co da : Int → Int) {p d : Int} (hd : d ≠ p) (g t : Int) : cOn (kpF co p) (kpF da p) d g t = cOn co da d g t := by
  unfold cOn
  split
  · rfl
  · have k0 := fun f : Int → Int => kpF_o f (g := g) (z := 0) hd (by omega) (by omega) (by decide) (by decide)
    have k1 := fun f : Int → Int => kpF_o f (g := g) (z := 1) hd (by omega) (by omega) (by decide) (by decide)
    have k2 := fun f : Int → Int => kpF_o f (g := g) (z := 2) hd (by omega) (by omega) (by decide) (by decide)
    rw [k0, k0, k1, k1, k2, k2]
theorem dAll_now (da : Int → Int) {p g : Int} (hg : 1 ≤ g ∧ g ≤ 4) : dAll (kpF da p) p g = dAll da 16 g := by
  unfold dAll
  rw [if_neg (by omega), if_neg (by omega), kpF_p da hg.1 hg.2 (by decide) (by decide), kpF_p da hg.1 hg.2 (by decide) (by decide), kpF_p da hg.1 hg.2 (by decide) (by decide)]
  rw [show (192 : Int) + ((g - 1) * 3 + 0) = 16 * 12 + (g - 1) * 3 + 0 by omega, show (192 : Int) + ((g - 1) * 3 + 1) = 16 * 12 + (g - 1) * 3 + 1 by omega, show (192 : Int) + ((g - 1) * 3 + 2) = 16 * 12 + (g - 1) * 3 + 2 by omega]
theorem fC_lt {P : Int → Bool} {k : Nat} {j : Int} (h0 : 0 ≤ j) (h1 : j < (k : Int)) (hP : ¬ P j = true) : fC P k + 1 ≤ k := by
  induction k with
  | zero => omega
  | succ k ih =>
    by_cases e : j = (k : Int)
    · subst e
      rw [fC_n hP]
      have := fC_le P k
      omega
    · have := ih (by omega)
      by_cases q : P (k : Int) = true
      · rw [fC_y q]; omega
      · rw [fC_n q]; omega
section ZMD
variable {n : Nat} {pa sp al co da mb dd : Int → Int} {td p : Int} {M : Nat} {mo : Int → Int → Int}
abbrev mbD (pa sp al da mb : Int → Int) (n : Nat) (p : Int) : Int → Int := bgC (up al p 0) (kpF da p) (dgF pa sp n p) (enC mb p 16) p n
abbrev brM (pa sp al co da : Int → Int) (n : Nat) (td p : Int) : Int → Int → Int := fun j => bM co da (dgF pa sp n p) td p (fI (bP al da (dgF pa sp n p)) n j)
theorem bP_iff {al da dg : Int → Int} {x : Int} (hda : ∀ j : Int, 0 ≤ da j ∧ da j ≤ 60) : bP al da dg x = true ↔ (al x ≠ 0 ∧ 0 < dAll da 16 (dg x)) := by
  refine ⟨fun q => ?_, fun q => ?_⟩
  · have := of_decide_eq_true q
    have h9 := dAll_bd hda 16 (dg x)
    exact ⟨this.1, by omega⟩
  · refine decide_eq_true ⟨q.1, fun e => ?_, by omega⟩
    rw [e, dAll_0] at q
    omega
theorem bP_self (al da : Int → Int) (pa sp : Int → Int) (n : Nat) (p : Int) : ¬ bP al da (dgF pa sp n p) p = true := fun q => (of_decide_eq_true q).2.1 (dgF_self pa sp n p)
/-- what the new cells hold -/
theorem mbD_at (hda : ∀ j : Int, 0 ≤ da j ∧ da j ≤ 60) (hp : 0 ≤ p ∧ p < 16) {x y : Int} (y0 : 0 ≤ y) (y1 : y < 16) : mbD pa sp al da mb n p (x * 16 + y) = if 0 ≤ x ∧ x < (n : Int) ∧ y = p ∧ bP al da (dgF pa sp n p) x = true then dgF pa sp n p x else if x = p then 0 else mb (x * 16 + y) := by
  have e : (0 ≤ x ∧ x < (n : Int) ∧ y = p ∧ up al p 0 x ≠ 0 ∧ 0 < dAll (kpF da p) 16 (dgF pa sp n p x)) ↔ (0 ≤ x ∧ x < (n : Int) ∧ y = p ∧ bP al da (dgF pa sp n p) x = true) := by
    rw [kpF_dA da (show (16 : Int) ≠ p by omega), bP_iff hda]
    by_cases ex : x = p
    · refine ⟨fun q => ?_, fun q => ?_⟩
      · rw [ex, up_s] at q
        exact absurd rfl q.2.2.2.1
      · rw [ex, dgF_self, dAll_0] at q
        omega
    · rw [up_n al ex]
  show bgC (up al p 0) (kpF da p) (dgF pa sp n p) (enC mb p 16) p n (x * 16 + y) = _
  rw [bgC_at hp.1 hp.2 n y0 y1, enC_at 16 (Nat.le_refl 16) y0 y1]
  by_cases q : 0 ≤ x ∧ x < (n : Int) ∧ y = p ∧ bP al da (dgF pa sp n p) x = true
  · rw [if_pos (e.mpr q), if_pos q]
  · rw [if_neg (fun z => q (e.mp z)), if_neg q]
    by_cases ex : x = p
    · rw [if_pos ⟨ex, by omega⟩, if_pos ex]
    · rw [if_neg (fun z => ex z.1), if_neg ex]
theorem dgF_rg (pa sp : Int → Int) (n : Nat) (p x : Int) : 0 ≤ dgF pa sp n p x ∧ dgF pa sp n p x ≤ 4 := dgF_bd pa sp n p x
theorem bP_dg {al da dg : Int → Int} {x : Int} (h : bP al da dg x = true) : al x ≠ 0 ∧ dg x ≠ 0 := ⟨(of_decide_eq_true h).1, (of_decide_eq_true h).2.1⟩
theorem bR_at (co da : Int → Int) (td d g p : Int) : bR co da td d g p 0 = p ∧ bR co da td d g p 1 = d ∧ bR co da td d g p 2 = td ∧ bR co da td d g p 3 = co (192 + ((g - 1) * 3 + 0)) ∧ bR co da td d g p 4 = da (192 + ((g - 1) * 3 + 0)) ∧ bR co da td d g p 5 = co (192 + ((g - 1) * 3 + 1)) ∧ bR co da td d g p 6 = da (192 + ((g - 1) * 3 + 1)) ∧ bR co da td d g p 7 = co (192 + ((g - 1) * 3 + 2)) ∧ bR co da td d g p 8 = da (192 + ((g - 1) * 3 + 2)) := ⟨rfl, rfl, rfl, rfl, rfl, rfl, rfl, rfl, rfl⟩
/-- the cell of a pair after the death of p -/
theorem mbD_o (hda : ∀ j : Int, 0 ≤ da j ∧ da j ≤ 60) (hp : 0 ≤ p ∧ p < 16) {x y : Int} (y0 : 0 ≤ y) (y1 : y < 16) (hx : x ≠ p) (hy : y ≠ p) : mbD pa sp al da mb n p (x * 16 + y) = mb (x * 16 + y) := by
  rw [mbD_at hda hp y0 y1, if_neg (fun q => hy q.2.2.1), if_neg hx]
theorem zInv.die (h : zInv n pa sp al co da mb dd td M mo) (p0 : 0 ≤ p) (p1 : p < (n : Int)) (hal : al p = 1) (ht : td ≤ 1000000) :
    zInv n pa sp (up al p 0) (kpF co p) (kpF da p) (mbD pa sp al da mb n p) (up dd p td) td (fC (dP mo p) M + fC (bP al da (dgF pa sp n p)) n) (dieM mo M p (brM pa sp al co da n td p)) := by
  obtain ⟨hB, hV, hR⟩ := id h
  have hn := h.n16
  have hda := hB.2.2.2.2.1
  have hp : 0 ≤ p ∧ p < 16 := ⟨p0, by omega⟩
  have hself := bP_self al da pa sp n p
  have hdd : ∀ y : Int, y ≠ p → up dd p td y = dd y := fun y hy => up_n dd hy
  have mbb : ∀ x y : Int, 0 ≤ x → x < 16 → 0 ≤ y → y < 16 → mb (x * 16 + y) ≠ 0 → y ≠ p := fun x y x0 x1 y0 y1 q e => by
    have := (hV.2.2.1 x y x0 x1 y0 y1 q).2.2.2
    rw [e] at this
    omega
  refine ⟨⟨hB.1, hB.2.1, up_bd hB.2.2.1 ⟨by decide, by decide⟩, cpZ_bd hB.2.2.2.1 hB.2.2.2.1 _ _ _, cpZ_bd hda hda _ _ _, bgC_bd (enC_bd hB.2.2.2.2.2.1 p 16) (dgF_bd pa sp n p) n, up_bd hB.2.2.2.2.2.2.1 ⟨hB.2.2.2.2.2.2.2.2, ht⟩, hB.2.2.2.2.2.2.2⟩, ⟨hV.1, hV.2.1, fun x y x0 x1 y0 y1 q => ?_, fun d => ?_⟩, fun i i0 i1 => ?_, fun x y x0 x1 y0 y1 hl => ?_, ?_⟩
  · rw [mbD_at hda hp y0 y1] at q
    by_cases c : 0 ≤ x ∧ x < (n : Int) ∧ y = p ∧ bP al da (dgF pa sp n p) x = true
    · have hx : x ≠ p := fun e => hself (by have q := c.2.2.2; rw [e] at q; exact q)
      have := (bP_dg c.2.2.2).1
      have hax := hB.2.2.1 x
      rw [up_n al hx, c.2.2.1, up_s]
      exact ⟨c.2.1, p1, by omega, rfl⟩
    · rw [if_neg c] at q
      by_cases ex : x = p
      · rw [if_pos ex] at q
        exact absurd rfl q
      · rw [if_neg ex] at q
        have hv := hV.2.2.1 x y x0 x1 y0 y1 q
        rw [up_n al ex, up_n al (mbb x y x0 x1 y0 y1 q)]
        exact hv
  · by_cases e : d = p
    · rw [e, up_s]
      exact Int.le_refl _
    · rw [hdd d e]
      exact hV.2.2.2 d
  · by_cases c : i < (fC (dP mo p) M : Int)
    · show zRow _ _ _ _ _ (dieM mo M p (brM pa sp al co da n td p) i)
      rw [dieM_lo c]
      have hf := fI_in i0 c
      generalize fI (dP mo p) M i = z at hf ⊢
      obtain ⟨a1, a2, a3, a4, a5, a6, a7, a8, a9, a10⟩ := hR.1 z hf.1 hf.2.1
      have hx : mo z 0 ≠ p := of_decide_eq_true hf.2.2
      have hy : mo z 1 ≠ p := mbb _ _ a1.1 (by omega) a2.1 (by omega) (by omega)
      have em := mbD_o (pa := pa) (sp := sp) (al := al) (mb := mb) (n := n) hda hp a2.1 (show mo z 1 < 16 by omega) hx hy
      have ek := fun (f : Int → Int) (w : Int) (w0 : 0 ≤ w) (w2 : w ≤ 2) => kpF_o f (g := mb (mo z 0 * 16 + mo z 1)) (z := w) hy a3.1 a3.2 w0 w2
      unfold zRow
      rw [em, hdd _ hy, ek co 0 (by decide) (by decide), ek da 0 (by decide) (by decide), ek co 1 (by decide) (by decide), ek da 1 (by decide) (by decide), ek co 2 (by decide) (by decide), ek da 2 (by decide) (by decide)]
      exact ⟨a1, a2, a3, a4, a5, a6, a7, a8, a9, a10⟩
    · have ei : i = ((fC (dP mo p) M + (i.toNat - fC (dP mo p) M) : Nat) : Int) := by omega
      have hi2 : ((i.toNat - fC (dP mo p) M : Nat) : Int) < (fC (bP al da (dgF pa sp n p)) n : Int) := by omega
      show zRow _ _ _ _ _ (dieM mo M p (brM pa sp al co da n td p) i)
      rw [ei, dieM_hi]
      generalize i.toNat - fC (dP mo p) M = w at hi2
      have hf := fI_in (P := bP al da (dgF pa sp n p)) (k := n) (j := (w : Int)) (by omega) hi2
      show zRow _ _ _ _ _ (bM co da (dgF pa sp n p) td p (fI (bP al da (dgF pa sp n p)) n (w : Int)))
      generalize fI (bP al da (dgF pa sp n p)) n (w : Int) = z at hf ⊢
      show zRow _ _ _ _ _ (bR co da td p (dgF pa sp n p z) z)
      obtain ⟨b0, b1, b2, b3, b4, b5, b6, b7, b8⟩ := bR_at co da td p (dgF pa sp n p z) z
      have hg := dgF_rg pa sp n p z
      have hg0 := (bP_dg hf.2.2).2
      have em : mbD pa sp al da mb n p (z * 16 + p) = dgF pa sp n p z := by
        rw [mbD_at hda hp p0 hp.2, if_pos ⟨hf.1, hf.2.1, rfl, hf.2.2⟩]
      have ek := fun (f : Int → Int) (w : Int) (w0 : 0 ≤ w) (w2 : w ≤ 2) => kpF_p f (p := p) (g := dgF pa sp n p z) (z := w) (by omega) hg.2 w0 w2
      unfold zRow
      rw [b0, b1, b2, b3, b4, b5, b6, b7, b8, em, up_s, ek co 0 (by decide) (by decide), ek da 0 (by decide) (by decide), ek co 1 (by decide) (by decide), ek da 1 (by decide) (by decide), ek co 2 (by decide) (by decide), ek da 2 (by decide) (by decide)]
      exact ⟨⟨hf.1, hf.2.1⟩, ⟨p0, p1⟩, ⟨by omega, hg.2⟩, rfl, rfl, rfl, rfl, rfl, rfl, rfl⟩
  · have hm : mbD pa sp al da mb n p (x * 16 + y) ≠ 0 := fun e => by
      unfold lf at hl
      rw [e, dAll_0] at hl
      have := hV.2.2.2 y
      by_cases ey : y = p
      · rw [ey, up_s] at hl
        omega
      · rw [hdd y ey] at hl
        omega
    have hm2 := hm
    rw [mbD_at hda hp y0 (by omega)] at hm2
    by_cases c : 0 ≤ x ∧ x < (n : Int) ∧ y = p ∧ bP al da (dgF pa sp n p) x = true
    · obtain ⟨j, j0, j1, j2⟩ := fI_on (P := bP al da (dgF pa sp n p)) (k := n) x0 x1 c.2.2.2
      have ej : dieM mo M p (brM pa sp al co da n td p) ((fC (dP mo p) M + j.toNat : Nat) : Int) = bR co da td p (dgF pa sp n p x) x := by
        rw [dieM_hi]
        show bM co da (dgF pa sp n p) td p (fI (bP al da (dgF pa sp n p)) n ((j.toNat : Nat) : Int)) = _
        rw [Int.toNat_of_nonneg j0, j2]
        rfl
      refine ⟨((fC (dP mo p) M + j.toNat : Nat) : Int), by omega, by omega, ?_, ?_⟩
      · rw [ej]; exact (bR_at co da td p _ x).1
      · rw [ej, c.2.2.1]; exact (bR_at co da td p _ x).2.1
    · rw [if_neg c] at hm2
      by_cases ex : x = p
      · rw [if_pos ex] at hm2
        exact absurd rfl hm2
      · rw [if_neg ex] at hm2
        have hy := mbb x y x0 (by omega) y0 (by omega) hm2
        have hl2 : 0 < lf da mb dd td x y := by
          unfold lf at hl ⊢
          rw [mbD_o hda hp y0 (by omega) ex hy, hdd y hy, kpF_dA da hy] at hl
          exact hl
        obtain ⟨i, i0, i1, e0, e1⟩ := hR.2.1 x y x0 x1 y0 y1 hl2
        obtain ⟨j, j0, j1, j2⟩ := fI_on (P := dP mo p) (k := M) i0 i1 (decide_eq_true (by rw [e0]; exact ex))
        have ej : dieM mo M p (brM pa sp al co da n td p) j = mo i := by rw [dieM_lo j1, j2]
        exact ⟨j, j0, by omega, by rw [ej]; exact e0, by rw [ej]; exact e1⟩
  · rw [smF_up p0 p1, hal]
    have h1 := fC_le (dP mo p) M
    have h2 := fC_lt (P := bP al da (dgF pa sp n p)) p0 p1 hself
    have h3 := hR.2.2
    omega
/-- how many mourn -/
theorem zInv.dieN (h : zInv n pa sp al co da mb dd td M mo) (p0 : 0 ≤ p) (p1 : p < (n : Int)) : smF (wbF (up al p 0) (kpF da p) (dgF pa sp n p)) n = (fC (bP al da (dgF pa sp n p)) n : Int) := by
  have hn := h.n16
  have hda := h.1.2.2.2.2.1
  refine smF_fC (fun j j0 j1 => ?_)
  unfold wbF
  rw [kpF_dA da (show (16 : Int) ≠ p by omega)]
  by_cases e : j = p
  · rw [e, if_neg (fun q => q.1 (up_s _ _ _)), if_neg (bP_self al da pa sp n p)]
  · rw [up_n al e]
    by_cases q : bP al da (dgF pa sp n p) j = true
    · rw [if_pos q, if_pos ((bP_iff hda).mp q)]
    · rw [if_neg q, if_neg (fun z => q ((bP_iff hda).mpr z))]
theorem zInv.wouldN (h : zInv n pa sp al co da mb dd td M mo) {p : Int} (hal : al p = 1) : smF (wbF al da (dgF pa sp n p)) n = (fC (bP al da (dgF pa sp n p)) n : Int) := by
  have hda := h.1.2.2.2.2.1
  refine smF_fC (fun j j0 j1 => ?_)
  unfold wbF
  by_cases q : bP al da (dgF pa sp n p) j = true
  · rw [if_pos q, if_pos ((bP_iff hda).mp q)]
  · rw [if_neg q, if_neg (fun z => q ((bP_iff hda).mpr z))]
theorem zInv.dieM240 (h : zInv n pa sp al co da mb dd td M mo) (p0 : 0 ≤ p) (p1 : p < (n : Int)) (hal : al p = 1) : fC (dP mo p) M + fC (bP al da (dgF pa sp n p)) n ≤ 240 := by
  have h1 := fC_le (dP mo p) M
  have h2 := fC_lt (P := bP al da (dgF pa sp n p)) p0 p1 (bP_self al da pa sp n p)
  have h3 := h.2.2.2.2
  have h4 := h.n16
  have h5 : 1 ≤ smF al n := by
    have := mxF_nn al n
    have h6 : smF (up al p 0) n = smF al n - al p + 0 := smF_up p0 p1
    have h7 := smF_nn (f := up al p 0) (k := n) (fun j _ _ => (up_bd h.1.2.2.1 (k := p) (v := 0) ⟨by decide, by decide⟩ j).1)
    omega
  omega
end ZMD
