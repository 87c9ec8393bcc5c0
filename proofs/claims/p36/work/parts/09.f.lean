/-! what the law asks of the class -/
def adF (pa sp : Int → Int) (i j : Int) : Int := if pa i = j ∨ pa j = i ∨ sp i = j then 1 else 0
def oneF (x : Int) : Int := if x = 1 then 1 else 0
def zrF (x : Int) : Int := if x = 0 then 1 else 0
def ngF (x : Int) : Int := if x < 0 then 1 else 0
def kaF (al dg : Int → Int) (j : Int) : Int := if 0 < dg j ∧ al j ≠ 0 then 1 else 0
theorem oneF_01 (x : Int) : 0 ≤ oneF x ∧ oneF x ≤ 1 := by unfold oneF; split <;> decide
theorem zrF_01 (x : Int) : 0 ≤ zrF x ∧ zrF x ≤ 1 := by unfold zrF; split <;> decide
theorem ngF_01 (x : Int) : 0 ≤ ngF x ∧ ngF x ≤ 1 := by unfold ngF; split <;> decide
theorem adF_01 (pa sp : Int → Int) (i j : Int) : 0 ≤ adF pa sp i j ∧ adF pa sp i j ≤ 1 := by unfold adF; split <;> decide
theorem kaF_01 (al dg : Int → Int) (j : Int) : 0 ≤ kaF al dg j ∧ kaF al dg j ≤ 1 := by unfold kaF; split <;> decide
theorem gtF_01 (f : Int → Int) (j : Int) : 0 ≤ gtF f j ∧ gtF f j ≤ 1 := by unfold gtF; split <;> decide
theorem eqF_01 (f : Int → Int) (c j : Int) : 0 ≤ eqF f c j ∧ eqF f c j ≤ 1 := by unfold eqF; split <;> decide
theorem kinF_01 (al dg : Int → Int) (g j : Int) : 0 ≤ kinF al dg g j ∧ kinF al dg g j ≤ 1 := by unfold kinF; split <;> decide
/-- one of m values -/
theorem smF_pick {m : Nat} {x : Int} (h1 : 1 ≤ x) (h2 : x ≤ (m : Int)) : smF (fun g => if x = g + 1 then 1 else 0) m = 1 := by
  refine (smF_one (j0 := x - 1) (by omega) (by omega) (fun j _ _ hj => if_neg (by omega))).trans ?_
  exact if_pos (by omega)
theorem smF_pick0 {m : Nat} {x : Int} (h : ¬ (1 ≤ x ∧ x ≤ (m : Int))) : smF (fun g => if x = g + 1 then (1 : Int) else 0) m = 0 := smF_zero (fun j h0 h1 => if_neg (by omega))
section ZMB
variable {n : Nat} {pa sp al co da mb dd : Int → Int} {td : Int} {M : Nat} {mo : Int → Int → Int}
theorem zInv.adj (h : zInv n pa sp al co da mb dd td M mo) {i j : Int} (i0 : 0 ≤ i) (i1 : i < (n : Int)) (j0 : 0 ≤ j) (j1 : j < (n : Int)) : oneF (dgF pa sp n i j) = adF pa sp i j := by
  have h9 := h.2.1.dg1 i0 i1 j0 j1
  have hs := h.2.1.sym
  unfold oneF adF
  by_cases e : dgF pa sp n i j = 1
  · rw [if_pos e]
    have := h9.mp e
    unfold stp at this
    exact (if_pos (by omega)).symm
  · rw [if_neg e, if_neg (fun q => e (h9.mpr (by unfold stp; omega)))]
theorem kin_all (al : Int → Int) {dg : Int → Int} (hg : ∀ j : Int, 0 ≤ dg j ∧ dg j ≤ 4) (n : Nat) : smF (fun g => smF (kinF al dg (g + 1)) n) 4 = smF (kaF al dg) n := by
  rw [smF_swap (fun g j => kinF al dg (g + 1) j) 4 n]
  refine smF_cg (fun j _ _ => ?_)
  have h9 := hg j
  unfold kaF
  by_cases ha : al j ≠ 0
  · have e : (fun g => kinF al dg (g + 1) j) = fun g => if dg j = g + 1 then 1 else 0 := by
      funext g
      unfold kinF
      by_cases q : dg j = g + 1
      · rw [if_pos ⟨ha, q⟩, if_pos q]
      · rw [if_neg (fun z => q z.2), if_neg q]
    rw [e]
    by_cases q : 0 < dg j
    · rw [if_pos ⟨q, ha⟩]
      exact smF_pick (m := 4) (by omega) (by omega)
    · rw [if_neg (fun z => q z.1)]
      exact smF_pick0 (m := 4) (by omega)
  · rw [if_neg (fun z => ha z.2)]
    exact smF_zero (fun g _ _ => if_neg (fun z => ha z.1))
theorem smF_cut {f : Int → Int} {L : Int} (hL : 0 ≤ L) (h : ∀ j : Int, 0 ≤ f j ∧ f j ≤ 1) (h0 : ∀ j : Int, L ≤ j → f j = 0) (k : Nat) : smF f k ≤ L := by
  have key : ∀ k : Nat, smF f k ≤ min (k : Int) L := by
    intro k
    induction k with
    | zero => show (0 : Int) ≤ _; omega
    | succ k ih =>
      rw [smF_s]
      have h1 := h (k : Int)
      by_cases c : L ≤ (k : Int)
      · have := h0 _ c; omega
      · omega
  have := key k
  omega
theorem zInv.caOut (h : zInv n pa sp al co da mb dd td M mo) (p : Int) {t : Int} (ht : llS da mb dd td n p ≤ t) : ca co da mb dd td n p t = 0 := by
  have h1 := ca_bd h.1.2.2.2.1 da mb dd td n p t
  have h2 : ca co da mb dd td n p t ≤ 0 := mxF_le (by decide) (fun d d0 d1 => by
    have h3 := mxF_ge (lf da mb dd td p) d0 d1
    have h4 : lf da mb dd td p d ≤ t := Int.le_trans h3 ht
    exact Int.le_of_eq (h.cz h4))
  omega
theorem zInv.cols (h : zInv n pa sp al co da mb dd td M mo) (p : Int) : 0 ≤ smF (fun g => smF (eqF (ca co da mb dd td n p) (g + 1)) 180) 5 ∧ smF (fun g => smF (eqF (ca co da mb dd td n p) (g + 1)) 180) 5 ≤ llS da mb dd td n p := by
  have hb := fun t => ca_bd h.1.2.2.2.1 da mb dd td n p t
  have e : smF (fun g => smF (eqF (ca co da mb dd td n p) (g + 1)) 180) 5 = smF (neF (ca co da mb dd td n p)) 180 := by
    rw [smF_swap (fun g j => eqF (ca co da mb dd td n p) (g + 1) j) 5 180]
    refine smF_cg (fun j _ _ => ?_)
    have h9 := hb j
    unfold neF
    by_cases q : ca co da mb dd td n p j ≠ 0
    · rw [if_pos q]
      exact smF_pick (m := 5) (by omega) (by omega)
    · rw [if_neg q]
      exact smF_pick0 (m := 5) (by omega)
  have h01 : ∀ j : Int, 0 ≤ neF (ca co da mb dd td n p) j ∧ neF (ca co da mb dd td n p) j ≤ 1 := fun j => by unfold neF; split <;> decide
  rw [e]
  refine ⟨smF_nn (fun j _ _ => (h01 j).1), smF_cut (mxF_nn _ _) h01 (fun j hj => ?_) 180⟩
  unfold neF
  exact if_neg (fun q => q (h.caOut p hj))
theorem fst0_sp {f : Int → Int} (m : Nat) : ∀ k : Int, (k ≤ fst0 f m k ∧ fst0 f m k ≤ k + (m : Int)) ∧ (∀ t : Int, k ≤ t → t < fst0 f m k → f 0 ≤ f t) ∧ (fst0 f m k < k + (m : Int) → f (fst0 f m k) < f 0) := by
  induction m with
  | zero =>
    intro k
    show (k ≤ k ∧ k ≤ k + ((0 : Nat) : Int)) ∧ (∀ t : Int, k ≤ t → t < k → f 0 ≤ f t) ∧ (k < k + ((0 : Nat) : Int) → f k < f 0)
    exact ⟨by omega, fun t h1 h2 => by omega, fun h => by omega⟩
  | succ m ih =>
    intro k
    rw [fst0_s]
    by_cases c : f k < f 0
    · rw [if_pos c]
      exact ⟨by omega, fun t h1 h2 => by omega, fun _ => c⟩
    · rw [if_neg c]
      obtain ⟨a1, a2, a3⟩ := ih (k + 1)
      refine ⟨by omega, fun t h1 h2 => ?_, fun h => a3 (by omega)⟩
      by_cases e : t = k
      · rw [e]; omega
      · exact a2 t (by omega) h2
theorem zInv.fl0 {f : Int → Int} (_ : zInv n pa sp al co da mb dd td M mo) : zrF (f 0) = ngF (flD f) := by
  unfold zrF ngF flD
  by_cases e : f 0 = 0
  · rw [if_pos e, if_pos e]
    exact (if_pos (by decide)).symm
  · rw [if_neg e, if_neg e]
    have := (fst0_sp (f := f) 179 1).1
    exact (if_neg (by omega)).symm
theorem flD_rg (f : Int → Int) : -1 ≤ flD f ∧ flD f ≤ 180 := by
  unfold flD
  have := (fst0_sp (f := f) 179 1).1
  split <;> omega
theorem flD_at {f : Int → Int} (h0 : 0 < f 0) (hz : f 180 = 0) : 1 ≤ flD f ∧ f (flD f) < f 0 := by
  unfold flD
  rw [if_neg (by omega)]
  obtain ⟨a1, a2, a3⟩ := fst0_sp (f := f) 179 1
  refine ⟨a1.1, ?_⟩
  by_cases c : fst0 f 179 1 < 1 + ((179 : Nat) : Int)
  · exact a3 c
  · rw [show fst0 f 179 1 = 180 by omega, hz]
    exact h0
theorem flD_bef {f : Int → Int} {t : Int} (h1 : 1 ≤ t) (h2 : t < flD f) : f 0 ≤ f t := by
  unfold flD at h2
  by_cases e : f 0 = 0
  · rw [if_pos e] at h2
    omega
  · rw [if_neg e] at h2
    exact (fst0_sp (f := f) 179 1).2.1 t h1 h2
theorem zInv.wsum (h : zInv n pa sp al co da mb dd td M mo) : smF (cwN al co da mb dd td n) 6 = smF al n := by
  have e : smF (cwN al co da mb dd td n) 6 = smF (fun j => smF (fun c => cwF al co da mb dd td n c j) 6) n := smF_swap (fun c j => cwF al co da mb dd td n c j) 6 n
  rw [e]
  refine smF_cg (fun j _ _ => ?_)
  have ha := h.1.2.2.1 j
  have hc := ca_bd h.1.2.2.2.1 da mb dd td n j 0
  by_cases q : al j ≠ 0
  · refine (smF_one (j0 := ca co da mb dd td n j 0) (by omega) (by omega) (fun c _ _ hc => if_neg (fun z => hc z.2.symm))).trans ?_
    show (if al j ≠ 0 ∧ _ then (1 : Int) else 0) = al j
    rw [if_pos ⟨q, rfl⟩]
    omega
  · have e0 : smF (fun c => cwF al co da mb dd td n c j) 6 = 0 := smF_zero (fun c _ _ => if_neg (fun z => q z.1))
    rw [e0]
    omega
theorem lgF_0 (f : Int → Int) (k : Nat) : ngF (lgF f k) = zrF (mxF f k) := by
  have h0 := mxF_nn f k
  have key : (lgF f k < 0 ↔ mxF f k = 0) := by
    clear h0
    induction k with
    | zero => exact ⟨fun _ => rfl, fun _ => by show (-1 : Int) < 0; decide⟩
    | succ k ih =>
      have h1 := mxF_nn f k
      rw [mxF_s]
      by_cases c : mxF f k < f (k : Int)
      · rw [lgF_y c]
        omega
      · rw [lgF_n (by omega)]
        omega
  unfold ngF zrF
  by_cases c : lgF f k < 0
  · rw [if_pos c, if_pos (key.mp c)]
  · rw [if_neg c, if_neg (fun q => c (key.mpr q))]
theorem lgF_at {f : Int → Int} {k : Nat} (h : ¬ lgF f k < 0) : f (lgF f k) = mxF f k := by
  induction k with
  | zero => exact absurd (show (-1 : Int) < 0 by decide) h
  | succ k ih =>
    rw [mxF_s]
    by_cases c : mxF f k < f (k : Int)
    · rw [lgF_y c]
      omega
    · rw [lgF_n (by omega)] at h ⊢
      have := ih h
      omega
theorem hvF_0 {al : Int → Int} (ha : ∀ j : Int, 0 ≤ al j ∧ al j ≤ 1) (v : Int → Int) (k : Nat) : ngF (hvF al v k) = zrF (smF al k) := by
  have key : (hvF al v k < 0 ↔ smF al k = 0) := by
    induction k with
    | zero => exact ⟨fun _ => rfl, fun _ => by show (-1 : Int) < 0; decide⟩
    | succ k ih =>
      have h1 := smF_nn (f := al) (k := k) (fun j _ _ => (ha j).1)
      have h2 := ha (k : Int)
      have h3 := hvF_rg al v k
      rw [smF_s]
      by_cases c : al (k : Int) ≠ 0 ∧ (hvF al v k = -1 ∨ v (hvF al v k) < v (k : Int))
      · rw [hvF_y c]
        omega
      · rw [hvF_n c]
        by_cases q : al (k : Int) = 0
        · rw [q, Int.add_zero]
          exact ih
        · have : ¬ (hvF al v k = -1 ∨ v (hvF al v k) < v (k : Int)) := fun z => c ⟨q, z⟩
          omega
  unfold ngF zrF
  by_cases c : hvF al v k < 0
  · rw [if_pos c, if_pos (key.mp c)]
  · rw [if_neg c, if_neg (fun q => c (key.mpr q))]
theorem hvF_al {al v : Int → Int} {k : Nat} (h : ¬ hvF al v k < 0) : al (hvF al v k) ≠ 0 := by
  induction k with
  | zero => exact absurd (show (-1 : Int) < 0 by decide) h
  | succ k ih =>
    by_cases c : al (k : Int) ≠ 0 ∧ (hvF al v k = -1 ∨ v (hvF al v k) < v (k : Int))
    · rw [hvF_y c]
      exact c.1
    · rw [hvF_n c] at h ⊢
      exact ih h
/-- who wears some colour today -/
theorem zInv.wornDay (h : zInv n pa sp al co da mb dd td M mo) : smF (fun c => cwN al co da mb dd td n (c + 1)) 5 = smF (waP co da mb dd td n 1) n := by
  have e : smF (fun c => cwN al co da mb dd td n (c + 1)) 5 = smF (fun j => smF (fun c => cwF al co da mb dd td n (c + 1) j) 5) n := smF_swap (fun c j => cwF al co da mb dd td n (c + 1) j) 5 n
  rw [e]
  refine smF_cg (fun j j0 j1 => ?_)
  have hc := ca_bd h.1.2.2.2.1 da mb dd td n j 0
  show _ = (0 : Int) + neF (ca co da mb dd td n j) ((0 : Nat) : Int)
  rw [Int.zero_add]
  show _ = if ca co da mb dd td n j 0 ≠ 0 then (1 : Int) else 0
  by_cases q : ca co da mb dd td n j 0 ≠ 0
  · rw [if_pos q]
    have ha : al j ≠ 0 := fun z => q (h.ca0 j0 j1 (by omega) 0)
    refine (smF_cg (g := fun g => if ca co da mb dd td n j 0 = g + 1 then 1 else 0) (fun c _ _ => ?_)).trans (smF_pick (m := 5) (by omega) (by omega))
    unfold cwF
    by_cases z : ca co da mb dd td n j 0 = c + 1
    · rw [if_pos ⟨ha, z⟩, if_pos z]
    · rw [if_neg (fun y => z y.2), if_neg z]
  · rw [if_neg q]
    exact smF_zero (fun c c0 _ => if_neg (fun z => by have := z.2; omega))
end ZMB
/-! a death, as the law sees it -/
def waW (pa sp al co da mb dd : Int → Int) (td : Int) (n : Nat) (w j : Int) : Int := if j = w ∨ al j = 0 then 0 else max (ca co da mb dd td n j 0) (cOn co da 16 (dgF pa sp n w j) 0)
def naW (da mb dd : Int → Int) (td : Int) (n : Nat) (w j : Int) : Int := if j = w then 0 else smF (gtF (lf da mb dd td j)) n
section ZMD
variable {n : Nat} {pa sp al co da mb dd : Int → Int} {td : Int} {M : Nat} {mo : Int → Int → Int} {p : Int}
theorem cpD (h : zInv n pa sp al co da mb dd td M mo) (p0 : 0 ≤ p) (p1 : p < (n : Int)) (hal : al p = 1) {i : Int} (i0 : 0 ≤ i) (i1 : i < (n : Int)) (hi : i ≠ p) : mb (i * 16 + p) = 0 := Decidable.byContradiction fun q => by
  have hn := h.n16
  have := h.2.1.2.2.1 i p i0 (by omega) p0 (by omega) q
  omega
/-- the days left for others are as before; for the dead they are the new ones -/
theorem lfD (h : zInv n pa sp al co da mb dd td M mo) (p0 : 0 ≤ p) (p1 : p < (n : Int)) (hal : al p = 1) {i d : Int} (i0 : 0 ≤ i) (i1 : i < (n : Int)) (hi : i ≠ p) (d0 : 0 ≤ d) (d1 : d < (n : Int)) :
    lf (kpF da p) (mbD pa sp al da mb n p) (up dd p td) td i d = if d = p then (if bP al da (dgF pa sp n p) i = true then dAll da 16 (dgF pa sp n p i) else 0) else lf da mb dd td i d := by
  have hn := h.n16
  have hda := h.1.2.2.2.2.1
  have hp : 0 ≤ p ∧ p < 16 := ⟨p0, by omega⟩
  by_cases e : d = p
  · subst e
    rw [if_pos rfl]
    unfold lf
    rw [mbD_at (pa := pa) (sp := sp) (al := al) (n := n) (mb := mb) hda hp (x := i) (y := d) p0 (by omega), show up dd d td d = td from if_pos rfl]
    by_cases b : bP al da (dgF pa sp n d) i = true
    · rw [if_pos ⟨i0, i1, rfl, b⟩, if_pos b]
      have hg := bP_dg b
      have hr := dgF_rg pa sp n d i
      rw [dAll_now da (p := d) (g := dgF pa sp n d i) ⟨by omega, by omega⟩]
      have := dAll_bd hda 16 (dgF pa sp n d i)
      omega
    · rw [if_neg (fun q => b q.2.2.2), if_neg hi, if_neg b, cpD h p0 p1 hal i0 i1 hi, dAll_0]
      omega
  · rw [if_neg e]
    unfold lf
    rw [mbD_o (pa := pa) (sp := sp) (al := al) (n := n) (mb := mb) hda hp (x := i) (y := d) d0 (by omega) hi e, kpF_dA da (p := p) (d := d) e, show up dd p td d = dd d from if_neg e]
theorem caD (h : zInv n pa sp al co da mb dd td M mo) (p0 : 0 ≤ p) (p1 : p < (n : Int)) (hal : al p = 1) {i d : Int} (i0 : 0 ≤ i) (i1 : i < (n : Int)) (hi : i ≠ p) (ha : al i ≠ 0) (d0 : 0 ≤ d) (d1 : d < (n : Int)) :
    caT (kpF co p) (kpF da p) (mbD pa sp al da mb n p) (up dd p td) td i 0 d = if d = p then cOn co da 16 (dgF pa sp n p i) 0 else caT co da mb dd td i 0 d := by
  have hn := h.n16
  have hda := h.1.2.2.2.2.1
  have hp : 0 ≤ p ∧ p < 16 := ⟨p0, by omega⟩
  by_cases e : d = p
  · subst e
    rw [if_pos rfl]
    unfold caT
    rw [mbD_at (pa := pa) (sp := sp) (al := al) (n := n) (mb := mb) hda hp (x := i) (y := d) p0 (by omega), show up dd d td d = td from if_pos rfl]
    have hr := dgF_rg pa sp n d i
    by_cases b : bP al da (dgF pa sp n d) i = true
    · rw [if_pos ⟨i0, i1, rfl, b⟩]
      have hg := bP_dg b
      rw [show td - td + 0 = (0 : Int) by omega]
      have g9 : 1 ≤ dgF pa sp n d i ∧ dgF pa sp n d i ≤ 4 := ⟨by omega, by omega⟩
      unfold cOn
      rw [kpF_p da (p := d) (g := dgF pa sp n d i) (z := 0) g9.1 g9.2 (by decide) (by decide), kpF_p da (p := d) (g := dgF pa sp n d i) (z := 1) g9.1 g9.2 (by decide) (by decide), kpF_p da (p := d) (g := dgF pa sp n d i) (z := 2) g9.1 g9.2 (by decide) (by decide),
        kpF_p co (p := d) (g := dgF pa sp n d i) (z := 0) g9.1 g9.2 (by decide) (by decide), kpF_p co (p := d) (g := dgF pa sp n d i) (z := 1) g9.1 g9.2 (by decide) (by decide), kpF_p co (p := d) (g := dgF pa sp n d i) (z := 2) g9.1 g9.2 (by decide) (by decide)]
      rw [show (16 : Int) * 12 + (dgF pa sp n d i - 1) * 3 + 0 = 192 + ((dgF pa sp n d i - 1) * 3 + 0) by omega, show (16 : Int) * 12 + (dgF pa sp n d i - 1) * 3 + 1 = 192 + ((dgF pa sp n d i - 1) * 3 + 1) by omega, show (16 : Int) * 12 + (dgF pa sp n d i - 1) * 3 + 2 = 192 + ((dgF pa sp n d i - 1) * 3 + 2) by omega]
    · rw [if_neg (fun q => b q.2.2.2), if_neg hi, cpD h p0 p1 hal i0 i1 hi, cOn_0]
      have hz : dAll da 16 (dgF pa sp n d i) ≤ 0 := by
        by_cases g0 : dgF pa sp n d i = 0
        · rw [g0, dAll_0]
          decide
        · exact Decidable.byContradiction fun q => b ((bP_iff hda).mpr ⟨ha, by omega⟩)
      exact (cOn_out hz hda).symm
  · rw [if_neg e]
    unfold caT
    rw [mbD_o (pa := pa) (sp := sp) (al := al) (n := n) (mb := mb) hda hp (x := i) (y := d) d0 (by omega) hi e, kpF_cO co da (p := p) (d := d) e, show up dd p td d = dd d from if_neg e]
theorem zInv.wearD (h : zInv n pa sp al co da mb dd td M mo) (p0 : 0 ≤ p) (p1 : p < (n : Int)) (hal : al p = 1) (ht : td ≤ 1000000) {i : Int} (i0 : 0 ≤ i) (i1 : i < (n : Int)) : ca (kpF co p) (kpF da p) (mbD pa sp al da mb n p) (up dd p td) td n i 0 = waW pa sp al co da mb dd td n p i := by
  unfold waW
  by_cases e : i = p ∨ al i = 0
  · rw [if_pos e]
    refine (h.die p0 p1 hal ht).ca0 i0 i1 ?_ 0
    unfold up
    split <;> omega
  · rw [if_neg e]
    have hi : i ≠ p := fun q => e (Or.inl q)
    have ha : al i ≠ 0 := fun q => e (Or.inr q)
    have hc := cOn_bd h.1.2.2.2.1 da 16 (dgF pa sp n p i) 0
    have hcb := ca_bd h.1.2.2.2.1 da mb dd td n i 0
    refine Int.le_antisymm (mxF_le (by omega) (fun d d0 d1 => ?_)) ?_
    · rw [caD h p0 p1 hal i0 i1 hi ha d0 d1]
      by_cases ed : d = p
      · rw [if_pos ed]; omega
      · rw [if_neg ed]
        have h3 : caT co da mb dd td i 0 d ≤ ca co da mb dd td n i 0 := mxF_ge (caT co da mb dd td i 0) d0 d1
        omega
    · have h4 := mxF_ge (caT (kpF co p) (kpF da p) (mbD pa sp al da mb n p) (up dd p td) td i 0) p0 p1
      rw [caD h p0 p1 hal i0 i1 hi ha p0 p1, if_pos rfl] at h4
      have h5 : ca co da mb dd td n i 0 ≤ mxF (caT (kpF co p) (kpF da p) (mbD pa sp al da mb n p) (up dd p td) td i 0) n := mxF_le (mxF_nn _ _) (fun d d0 d1 => by
        by_cases ed : d = p
        · subst ed
          have : caT co da mb dd td i 0 d = 0 := by unfold caT; rw [cpD h p0 p1 hal i0 i1 hi, cOn_0]
          rw [this]
          exact mxF_nn _ _
        · have h6 := mxF_ge (caT (kpF co p) (kpF da p) (mbD pa sp al da mb n p) (up dd p td) td i 0) d0 d1
          rw [caD h p0 p1 hal i0 i1 hi ha d0 d1, if_neg ed] at h6
          exact h6)
      have e9 : ca (kpF co p) (kpF da p) (mbD pa sp al da mb n p) (up dd p td) td n i 0 = mxF (caT (kpF co p) (kpF da p) (mbD pa sp al da mb n p) (up dd p td) td i 0) n := rfl
      omega
def nwF (al da dg : Int → Int) (i : Int) : Int := if bP al da dg i = true then 1 else 0
theorem zInv.numD (h : zInv n pa sp al co da mb dd td M mo) (p0 : 0 ≤ p) (p1 : p < (n : Int)) (hal : al p = 1) (ht : td ≤ 1000000) {i : Int} (i0 : 0 ≤ i) (i1 : i < (n : Int)) :
    smF (gtF (lf (kpF da p) (mbD pa sp al da mb n p) (up dd p td) td i)) n = naW da mb dd td n p i + nwF al da (dgF pa sp n p) i := by
  unfold naW
  by_cases e : i = p
  · rw [if_pos e]
    subst e
    have : ¬ bP al da (dgF pa sp n i) i = true := bP_self al da pa sp n i
    rw [show nwF al da (dgF pa sp n i) i = 0 from if_neg this]
    refine smF_zero (fun d d0 d1 => if_neg (fun q => ?_))
    have := (h.die p0 p1 hal ht).lf0 i0 i1 d0 d1 q
    have h9 : up al i 0 i = 0 := if_pos rfl
    omega
  · rw [if_neg e]
    have hda := h.1.2.2.2.2.1
    have h1 : smF (gtF (lf (kpF da p) (mbD pa sp al da mb n p) (up dd p td) td i)) n = smF (up (gtF (lf da mb dd td i)) p (nwF al da (dgF pa sp n p) i)) n := smF_cg (fun d d0 d1 => by
      show (if 0 < lf (kpF da p) (mbD pa sp al da mb n p) (up dd p td) td i d then (1 : Int) else 0) = if d = p then nwF al da (dgF pa sp n p) i else gtF (lf da mb dd td i) d
      rw [lfD h p0 p1 hal i0 i1 e d0 d1]
      by_cases ed : d = p
      · rw [if_pos ed, if_pos ed]
        unfold nwF
        by_cases b : bP al da (dgF pa sp n p) i = true
        · rw [if_pos b, if_pos b]
          exact if_pos ((bP_iff hda).mp b).2
        · rw [if_neg b, if_neg b]
          exact if_neg (by decide)
      · rw [if_neg ed, if_neg ed]
        rfl)
    have h2 : gtF (lf da mb dd td i) p = 0 := if_neg (by
      rw [h.lfz (p := i) (d := p) (cpD h p0 p1 hal i0 i1 e)]
      decide)
    rw [h1, smF_up p0 p1, h2]
    omega
theorem nwF_01 (al da dg : Int → Int) (i : Int) : 0 ≤ nwF al da dg i ∧ nwF al da dg i ≤ 1 := by unfold nwF; split <;> decide
theorem nwF_sum (al da dg : Int → Int) (n : Nat) : smF (nwF al da dg) n = (fC (bP al da dg) n : Int) := smF_fC (fun j _ _ => rfl)
end ZMD
