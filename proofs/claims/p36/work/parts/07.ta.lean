/-! sums, maxima -/
theorem mxF_nn (f : Int → Int) (k : Nat) : 0 ≤ mxF f k := by
  induction k with
  | zero => exact Int.le_refl 0
  | succ k ih => rw [mxF_s]; omega
theorem mxF_ge (f : Int → Int) {k : Nat} {j : Int} (h0 : 0 ≤ j) (h1 : j < (k : Int)) : f j ≤ mxF f k := by
  induction k with
  | zero => omega
  | succ k ih =>
    rw [mxF_s]
    by_cases e : j = (k : Int)
    · subst e; omega
    · have := ih (by omega); omega
theorem mxF_le {f : Int → Int} {k : Nat} {x : Int} (hx : 0 ≤ x) (h : ∀ j : Int, 0 ≤ j → j < (k : Int) → f j ≤ x) : mxF f k ≤ x := (mxF_bk hx h).2
theorem mxF_at {f : Int → Int} {k : Nat} (h : 0 < mxF f k) : ∃ j : Int, 0 ≤ j ∧ j < (k : Int) ∧ f j = mxF f k := by
  induction k with
  | zero => exact absurd h (by show ¬ (0 : Int) < 0; decide)
  | succ k ih =>
    rw [mxF_s] at h ⊢
    by_cases e : mxF f k < f (k : Int)
    · exact ⟨k, by omega, by omega, by omega⟩
    · obtain ⟨j, j0, j1, j2⟩ := ih (by omega)
      exact ⟨j, j0, by omega, by omega⟩
theorem mxF_eq {f g : Int → Int} {k m : Nat} (h1 : ∀ j : Int, 0 ≤ j → j < (k : Int) → f j ≤ mxF g m) (h2 : ∀ j : Int, 0 ≤ j → j < (m : Int) → g j ≤ mxF f k) : mxF f k = mxF g m :=
  Int.le_antisymm (mxF_le (mxF_nn g m) h1) (mxF_le (mxF_nn f k) h2)
theorem smF_nn {f : Int → Int} {k : Nat} (h : ∀ j : Int, 0 ≤ j → j < (k : Int) → 0 ≤ f j) : 0 ≤ smF f k := by
  induction k with
  | zero => exact Int.le_refl 0
  | succ k ih =>
    rw [smF_s]
    have := h k (by omega) (by omega)
    have := ih (fun j h0 h1 => h j h0 (by omega))
    omega
theorem smF_le {f g : Int → Int} {k : Nat} (h : ∀ j : Int, 0 ≤ j → j < (k : Int) → f j ≤ g j) : smF f k ≤ smF g k := by
  induction k with
  | zero => exact Int.le_refl 0
  | succ k ih =>
    rw [smF_s, smF_s]
    have := h k (by omega) (by omega)
    have := ih (fun j h0 h1 => h j h0 (by omega))
    omega
theorem smF_add (f g : Int → Int) (k : Nat) : smF (fun j => f j + g j) k = smF f k + smF g k := by
  induction k with
  | zero => rfl
  | succ k ih => rw [smF_s, smF_s, smF_s, ih]; omega
theorem smF_sub (f g : Int → Int) (k : Nat) : smF (fun j => f j - g j) k = smF f k - smF g k := by
  induction k with
  | zero => rfl
  | succ k ih => rw [smF_s, smF_s, smF_s, ih]; omega
theorem smF_zero {f : Int → Int} {k : Nat} (h : ∀ j : Int, 0 ≤ j → j < (k : Int) → f j = 0) : smF f k = 0 := by
  induction k with
  | zero => rfl
  | succ k ih => rw [smF_s, ih (fun j h0 h1 => h j h0 (by omega)), h k (by omega) (by omega)]; rfl
theorem smF_swap (F : Int → Int → Int) (m k : Nat) : smF (fun i => smF (fun j => F i j) k) m = smF (fun j => smF (fun i => F i j) m) k := by
  induction m with
  | zero => exact (smF_zero (fun j _ _ => rfl)).symm
  | succ m ih =>
    rw [smF_s, ih, ← smF_add]
    exact smF_cg (fun j _ _ => by rw [smF_s])
theorem smF_one {f : Int → Int} {k : Nat} {j0 : Int} (h0 : 0 ≤ j0) (h1 : j0 < (k : Int)) (h : ∀ j : Int, 0 ≤ j → j < (k : Int) → j ≠ j0 → f j = 0) : smF f k = f j0 := by
  induction k with
  | zero => omega
  | succ k ih =>
    rw [smF_s]
    by_cases e : j0 = (k : Int)
    · subst e
      rw [smF_zero (fun j q0 q1 => h j q0 (by omega) (by omega))]
      omega
    · rw [ih (by omega) (fun j q0 q1 q2 => h j q0 (by omega) q2), h k (by omega) (by omega) (by omega)]
      omega
/-- one place more, one place less -/
theorem smF_up {f : Int → Int} {k : Nat} {i v : Int} (h0 : 0 ≤ i) (h1 : i < (k : Int)) : smF (up f i v) k = smF f k - f i + v := by
  induction k with
  | zero => omega
  | succ k ih =>
    rw [smF_s, smF_s]
    by_cases e : i = (k : Int)
    · subst e
      rw [up_s, smF_cg (g := f) (fun j q0 q1 => up_n f (by omega))]
      omega
    · rw [ih (by omega), up_n f (by omega)]
      omega
theorem smF_fC {P : Int → Bool} {f : Int → Int} {k : Nat} (h : ∀ j : Int, 0 ≤ j → j < (k : Int) → f j = if P j = true then 1 else 0) : smF f k = (fC P k : Int) := by
  induction k with
  | zero => rfl
  | succ k ih =>
    rw [smF_s, ih (fun j h0 h1 => h j h0 (by omega)), h k (by omega) (by omega)]
    by_cases e : P (k : Int) = true
    · rw [if_pos e, fC_y e]; omega
    · rw [if_neg e, fC_n e]; omega
/-! what a mourning's row says -/
theorem onF_c {f co da : Int → Int} {d g t x : Int} (h2 : f 2 = x) (h3 : f 3 = co (d * 12 + (g - 1) * 3 + 0)) (h4 : f 4 = da (d * 12 + (g - 1) * 3 + 0)) (h5 : f 5 = co (d * 12 + (g - 1) * 3 + 1)) (h6 : f 6 = da (d * 12 + (g - 1) * 3 + 1)) (h7 : f 7 = co (d * 12 + (g - 1) * 3 + 2)) (h8 : f 8 = da (d * 12 + (g - 1) * 3 + 2)) (hg : 1 ≤ g ∧ g ≤ 4) (ht : 0 ≤ t - x) :
    onF f t = cOn co da d g (t - x) ∨ (onF f t = -1 ∧ cOn co da d g (t - x) = 0) := by
  unfold onF cOn
  rw [h2, h3, h4, h5, h6, h7, h8, if_neg (show ¬ (g < 1 ∨ 4 < g ∨ t - x < 0) by omega)]
  by_cases c1 : t - x < da (d * 12 + (g - 1) * 3 + 0)
  · rw [if_pos c1, if_pos c1]
    exact Or.inl rfl
  · rw [if_neg c1, if_neg c1]
    by_cases c2 : t - x < da (d * 12 + (g - 1) * 3 + 0) + da (d * 12 + (g - 1) * 3 + 1)
    · rw [if_pos (by omega), if_pos c2]
      exact Or.inl rfl
    · rw [if_neg (by omega), if_neg c2]
      by_cases c3 : t - x < da (d * 12 + (g - 1) * 3 + 0) + da (d * 12 + (g - 1) * 3 + 1) + da (d * 12 + (g - 1) * 3 + 2)
      · rw [if_pos (by omega), if_pos c3]
        exact Or.inl rfl
      · rw [if_neg (by omega), if_neg c3]
        exact Or.inr ⟨rfl, rfl⟩
theorem enF_c {f da : Int → Int} {d g x : Int} (h2 : f 2 = x) (h4 : f 4 = da (d * 12 + (g - 1) * 3 + 0)) (h6 : f 6 = da (d * 12 + (g - 1) * 3 + 1)) (h8 : f 8 = da (d * 12 + (g - 1) * 3 + 2)) (hg : 1 ≤ g ∧ g ≤ 4) : enF f = x + dAll da d g := by
  unfold enF dAll
  rw [h2, h4, h6, h8, if_neg (by omega)]
  omega
/-- a row of the Sim's mournings and the class's cells -/
def zRow (n : Nat) (co da mb dd : Int → Int) (f : Int → Int) : Prop :=
  (0 ≤ f 0 ∧ f 0 < (n : Int)) ∧ (0 ≤ f 1 ∧ f 1 < (n : Int)) ∧ (1 ≤ mb (f 0 * 16 + f 1) ∧ mb (f 0 * 16 + f 1) ≤ 4) ∧ f 2 = dd (f 1) ∧
  f 3 = co (f 1 * 12 + (mb (f 0 * 16 + f 1) - 1) * 3 + 0) ∧ f 4 = da (f 1 * 12 + (mb (f 0 * 16 + f 1) - 1) * 3 + 0) ∧ f 5 = co (f 1 * 12 + (mb (f 0 * 16 + f 1) - 1) * 3 + 1) ∧ f 6 = da (f 1 * 12 + (mb (f 0 * 16 + f 1) - 1) * 3 + 1) ∧ f 7 = co (f 1 * 12 + (mb (f 0 * 16 + f 1) - 1) * 3 + 2) ∧ f 8 = da (f 1 * 12 + (mb (f 0 * 16 + f 1) - 1) * 3 + 2)
theorem zRow.on {n : Nat} {co da mb dd f : Int → Int} (h : zRow n co da mb dd f) {t : Int} (ht : dd (f 1) ≤ t) : onF f t = cOn co da (f 1) (mb (f 0 * 16 + f 1)) (t - dd (f 1)) ∨ (onF f t = -1 ∧ cOn co da (f 1) (mb (f 0 * 16 + f 1)) (t - dd (f 1)) = 0) := by
  obtain ⟨-, -, hg, h2, h3, h4, h5, h6, h7, h8⟩ := h
  exact onF_c h2 h3 h4 h5 h6 h7 h8 hg (by omega)
theorem zRow.en {n : Nat} {co da mb dd f : Int → Int} (h : zRow n co da mb dd f) : enF f = dd (f 1) + dAll da (f 1) (mb (f 0 * 16 + f 1)) := by
  obtain ⟨-, -, hg, h2, h3, h4, h5, h6, h7, h8⟩ := h
  exact enF_c h2 h4 h6 h8 hg
/-- bounds of the class's cells -/
def zBd (n : Nat) (pa sp al co da mb dd : Int → Int) (td : Int) : Prop :=
  (∀ j : Int, -1 ≤ pa j ∧ pa j ≤ 15) ∧ (∀ j : Int, -1 ≤ sp j ∧ sp j ≤ 15) ∧ (∀ j : Int, 0 ≤ al j ∧ al j ≤ 1) ∧ (∀ j : Int, 0 ≤ co j ∧ co j ≤ 5) ∧ (∀ j : Int, 0 ≤ da j ∧ da j ≤ 60) ∧ (∀ j : Int, 0 ≤ mb j ∧ mb j ≤ 4) ∧ (∀ j : Int, 0 ≤ dd j ∧ dd j ≤ 1000000) ∧ n ≤ 16 ∧ 0 ≤ td
/-- who is whose; who mourns lives, and mourns the dead -/
def zIv (n : Nat) (pa sp al mb dd : Int → Int) (td : Int) : Prop :=
  (∀ p : Int, 0 ≤ p → p < (n : Int) → pa p < p) ∧ (∀ p : Int, 0 ≤ p → p < (n : Int) → sp p = -1 ∨ (0 ≤ sp p ∧ sp p < (n : Int) ∧ sp p ≠ p ∧ sp (sp p) = p)) ∧
  (∀ p d : Int, 0 ≤ p → p < 16 → 0 ≤ d → d < 16 → mb (p * 16 + d) ≠ 0 → p < (n : Int) ∧ d < (n : Int) ∧ al p = 1 ∧ al d = 0) ∧ (∀ d : Int, dd d ≤ td)
/-- the Sim's mournings are the class's -/
def zRl (n : Nat) (al co da mb dd : Int → Int) (td : Int) (M : Nat) (mo : Int → Int → Int) : Prop :=
  (∀ i : Int, 0 ≤ i → i < (M : Int) → zRow n co da mb dd (mo i)) ∧ (∀ p d : Int, 0 ≤ p → p < (n : Int) → 0 ≤ d → d < (n : Int) → 0 < lf da mb dd td p d → ∃ i : Int, 0 ≤ i ∧ i < (M : Int) ∧ mo i 0 = p ∧ mo i 1 = d) ∧ (M : Int) ≤ 15 * ((n : Int) - smF al n)
def zInv (n : Nat) (pa sp al co da mb dd : Int → Int) (td : Int) (M : Nat) (mo : Int → Int → Int) : Prop := zBd n pa sp al co da mb dd td ∧ zIv n pa sp al mb dd td ∧ zRl n al co da mb dd td M mo
section ZMA
variable {n : Nat} {pa sp al co da mb dd : Int → Int} {td : Int} {M : Nat} {mo : Int → Int → Int}
theorem lf_nn (da mb dd : Int → Int) (td p d : Int) : 0 ≤ lf da mb dd td p d := by unfold lf; omega
/-- of a dead one's mournings nothing is left -/
theorem zIv.mb0 (h : zIv n pa sp al mb dd td) {p d : Int} (p0 : 0 ≤ p) (p1 : p < 16) (d0 : 0 ≤ d) (d1 : d < 16) (hn : ¬ (al p = 1 ∧ al d = 0)) : mb (p * 16 + d) = 0 :=
  Decidable.byContradiction fun q => hn ⟨(h.2.2.1 p d p0 p1 d0 d1 q).2.2.1, (h.2.2.1 p d p0 p1 d0 d1 q).2.2.2⟩
theorem dAll_0 (da : Int → Int) (k : Int) : dAll da k 0 = 0 := if_pos (by omega)
theorem cOn_0 (co da : Int → Int) (k t : Int) : cOn co da k 0 t = 0 := if_pos (by omega)
theorem zInv.lfz (h : zInv n pa sp al co da mb dd td M mo) {p d : Int} (e : mb (p * 16 + d) = 0) : lf da mb dd td p d = 0 := by
  have := h.2.1.2.2.2 d
  unfold lf
  rw [e, dAll_0]
  omega
theorem zInv.lf0 (h : zInv n pa sp al co da mb dd td M mo) {p d : Int} (p0 : 0 ≤ p) (p1 : p < (n : Int)) (d0 : 0 ≤ d) (d1 : d < (n : Int)) (hl : 0 < lf da mb dd td p d) : al p = 1 ∧ al d = 0 := by
  have hn : n ≤ 16 := h.1.2.2.2.2.2.2.2.1
  by_cases e : mb (p * 16 + d) = 0
  · rw [h.lfz e] at hl
    omega
  · exact ((h.2.1.2.2.1 p d p0 (by omega) d0 (by omega) e)).2.2
theorem zInv.lf180 (h : zInv n pa sp al co da mb dd td M mo) (p d : Int) : 0 ≤ lf da mb dd td p d ∧ lf da mb dd td p d ≤ 180 := by
  have h1 := dAll_bd h.1.2.2.2.2.1 d (mb (p * 16 + d))
  have h2 := h.2.1.2.2.2 d
  unfold lf
  omega
/-- behind its days a mourning has no colour -/
theorem cOn_lf {co da mb dd : Int → Int} {td p d t : Int} (hda : ∀ j : Int, 0 ≤ da j ∧ da j ≤ 60) (ht : lf da mb dd td p d ≤ t) : cOn co da d (mb (p * 16 + d)) (td - dd d + t) = 0 := by
  refine cOn_out ?_ hda
  unfold lf at ht
  omega
theorem zInv.cz (h : zInv n pa sp al co da mb dd td M mo) {p d t : Int} (ht : lf da mb dd td p d ≤ t) : caT co da mb dd td p t d = 0 := cOn_lf h.1.2.2.2.2.1 ht
/-- (A) what is worn -/
theorem zInv.wears (h : zInv n pa sp al co da mb dd td M mo) {p t : Int} (p0 : 0 ≤ p) (p1 : p < (n : Int)) (ht : 0 ≤ t) : wrF mo M (td + t) p = ca co da mb dd td n p t := by
  have hco := h.1.2.2.2.1
  have hdd := h.2.1.2.2.2
  refine mxF_eq (fun i i0 i1 => ?_) (fun d d0 d1 => ?_)
  · by_cases e : mo i 0 = p
    · have hr := h.2.2.1 i i0 i1
      have h9 := hr.on (t := td + t) (by have := hdd (mo i 1); omega)
      have h8 := mxF_ge (caT co da mb dd td p t) (k := n) hr.2.1.1 hr.2.1.2
      have h7 := mxF_nn (caT co da mb dd td p t) n
      have e2 : caT co da mb dd td p t (mo i 1) = cOn co da (mo i 1) (mb (mo i 0 * 16 + mo i 1)) (td + t - dd (mo i 1)) := by
        unfold caT
        rw [e, show td - dd (mo i 1) + t = td + t - dd (mo i 1) by omega]
      rw [wrT_y e]
      rw [e2] at h8
      rcases h9 with q | ⟨q, -⟩
      · rw [q]; exact h8
      · rw [q]; omega
    · rw [wrT_n e]
      exact mxF_nn _ _
  · by_cases e : 0 < lf da mb dd td p d
    · obtain ⟨i, i0, i1, e0, e1⟩ := h.2.2.2.1 p d p0 p1 d0 d1 e
      have hr := h.2.2.1 i i0 i1
      have h9 := hr.on (t := td + t) (by have := hdd (mo i 1); omega)
      have h8 := mxF_ge (wrT mo p (td + t)) (k := M) i0 i1
      have h7 := mxF_nn (wrT mo p (td + t)) M
      rw [wrT_y e0] at h8
      rw [e0, e1] at h9
      have e2 : caT co da mb dd td p t d = cOn co da d (mb (p * 16 + d)) (td + t - dd d) := by
        unfold caT
        rw [show td - dd d + t = td + t - dd d by omega]
      rw [e2]
      rcases h9 with q | ⟨-, q⟩
      · rw [← q]; exact h8
      · rw [q]; exact h7
    · have := lf_nn da mb dd td p d
      rw [h.cz (t := t) (by omega)]
      exact mxF_nn _ _
/-- (B) what is left -/
theorem zInv.left (h : zInv n pa sp al co da mb dd td M mo) {p d : Int} (p0 : 0 ≤ p) (p1 : p < (n : Int)) (d0 : 0 ≤ d) (d1 : d < (n : Int)) : lfS mo M td p d = lf da mb dd td p d := by
  have hnn := lf_nn da mb dd td p d
  refine Int.le_antisymm (mxF_le hnn (fun i i0 i1 => ?_)) ?_
  · by_cases e : mo i 0 = p ∧ (d < 0 ∨ mo i 1 = d)
    · rw [lfT_y e]
      have e1 : mo i 1 = d := by omega
      have hr := (h.2.2.1 i i0 i1).en
      rw [e.1, e1] at hr
      rw [hr]
      unfold lf
      omega
    · rw [lfT_n e]
      exact hnn
  · by_cases e : 0 < lf da mb dd td p d
    · obtain ⟨i, i0, i1, e0, e1⟩ := h.2.2.2.1 p d p0 p1 d0 d1 e
      have h8 := mxF_ge (lfT mo td p d) (k := M) i0 i1
      have hr := (h.2.2.1 i i0 i1).en
      rw [lfT_y ⟨e0, Or.inr e1⟩, hr, e0, e1] at h8
      unfold lf at e ⊢
      unfold lfS
      omega
    · have := mxF_nn (lfT mo td p d) M
      unfold lfS
      omega
theorem zInv.leftAll (h : zInv n pa sp al co da mb dd td M mo) {p : Int} (p0 : 0 ≤ p) (p1 : p < (n : Int)) : lfS mo M td p (-1) = mxF (lf da mb dd td p) n := by
  refine mxF_eq (fun i i0 i1 => ?_) (fun d d0 d1 => ?_)
  · by_cases e : mo i 0 = p ∧ ((-1 : Int) < 0 ∨ mo i 1 = -1)
    · rw [lfT_y e]
      have hr := h.2.2.1 i i0 i1
      have h8 := mxF_ge (lf da mb dd td p) (k := n) hr.2.1.1 hr.2.1.2
      have he := hr.en
      rw [e.1] at he
      rw [he]
      refine Int.le_trans ?_ h8
      unfold lf
      omega
    · rw [lfT_n e]
      exact mxF_nn _ _
  · by_cases e : 0 < lf da mb dd td p d
    · obtain ⟨i, i0, i1, e0, e1⟩ := h.2.2.2.1 p d p0 p1 d0 d1 e
      have h8 := mxF_ge (lfT mo td p (-1)) (k := M) i0 i1
      have hr := (h.2.2.1 i i0 i1).en
      rw [lfT_y ⟨e0, Or.inl (by decide)⟩, hr, e0, e1] at h8
      refine Int.le_trans ?_ h8
      unfold lf at e ⊢
      omega
    · have := lf_nn da mb dd td p d
      have := mxF_nn (lfT mo td p (-1)) M
      omega
/-- who wears a colour lives -/
theorem zInv.ca0 (h : zInv n pa sp al co da mb dd td M mo) {p : Int} (p0 : 0 ≤ p) (p1 : p < (n : Int)) (ha : al p ≠ 1) (t : Int) : ca co da mb dd td n p t = 0 := by
  have hn : n ≤ 16 := h.1.2.2.2.2.2.2.2.1
  refine Int.le_antisymm (mxF_le (Int.le_refl 0) (fun d d0 d1 => ?_)) (mxF_nn _ _)
  unfold caT
  rw [h.2.1.mb0 p0 (by omega) d0 (by omega) (fun q => ha q.1), cOn_0]
  exact Int.le_refl 0
end ZMA
/-! degrees are the same both ways -/
def wk (pa sp : Int → Int) (n : Nat) : Nat → Int → Int → Prop
  | 0 => fun s t => s = t
  | k + 1 => fun s t => ∃ f : Int, 0 ≤ f ∧ f < (n : Int) ∧ wk pa sp n k s f ∧ stp pa sp f t
theorem rdF_cl {pa sp : Int → Int} {n : Nat} {s g : Int} {dg : Int → Int} (hg : 2 ≤ g) (i : Nat) (t : Int) :
    ((dg t ≠ 0 → rdF pa sp n s g dg i t = dg t) ∧ (dg t = 0 → (t ≠ s ∧ 0 ≤ t ∧ t < (n : Int) ∧ ∃ f : Int, 0 ≤ f ∧ f < (i : Int) ∧ dg f = g - 1 ∧ stp pa sp f t) → rdF pa sp n s g dg i t = g) ∧ (dg t = 0 → ¬ (t ≠ s ∧ 0 ≤ t ∧ t < (n : Int) ∧ ∃ f : Int, 0 ≤ f ∧ f < (i : Int) ∧ dg f = g - 1 ∧ stp pa sp f t) → rdF pa sp n s g dg i t = 0)) := by
  induction i generalizing t with
  | zero => exact ⟨fun _ => rfl, fun _ ⟨_, _, _, f, f0, f1, _⟩ => by omega, fun h _ => h⟩
  | succ i ih =>
    have hi := ih (i : Int)
    have hit := ih t
    have key : rdF pa sp n s g dg i (i : Int) = g - 1 ↔ dg (i : Int) = g - 1 := by
      by_cases e : dg (i : Int) = 0
      · by_cases q : ((i : Int) ≠ s ∧ 0 ≤ (i : Int) ∧ (i : Int) < (n : Int) ∧ ∃ f : Int, 0 ≤ f ∧ f < (i : Int) ∧ dg f = g - 1 ∧ stp pa sp f (i : Int))
        · have := hi.2.1 e q
          omega
        · have := hi.2.2 e q
          omega
      · rw [hi.1 e]
    by_cases h : rdF pa sp n s g dg i (i : Int) = g - 1
    · have hd := key.mp h
      rw [rdF_y h]
      refine ⟨fun e => ?_, fun e q => ?_, fun e q => ?_⟩
      · unfold rchF
        rw [if_neg (fun z => by have := hit.1 e; omega)]
        exact hit.1 e
      · obtain ⟨q1, q2, q3, f, f0, f1, f2, f3⟩ := q
        by_cases z : (t ≠ s ∧ 0 ≤ t ∧ t < (n : Int) ∧ ∃ f : Int, 0 ≤ f ∧ f < (i : Int) ∧ dg f = g - 1 ∧ stp pa sp f t)
        · have h9 := hit.2.1 e z
          unfold rchF
          rw [if_neg (fun z => by omega)]
          exact h9
        · have h9 := hit.2.2 e z
          have ef : f = (i : Int) := by
            by_cases ef : f = (i : Int)
            · exact ef
            · exact absurd ⟨q1, q2, q3, f, f0, by omega, f2, f3⟩ z
          unfold rchF
          rw [if_pos ⟨q2, q3, q1, h9, by rw [← ef]; exact f3⟩]
      · have z : ¬ (t ≠ s ∧ 0 ≤ t ∧ t < (n : Int) ∧ ∃ f : Int, 0 ≤ f ∧ f < (i : Int) ∧ dg f = g - 1 ∧ stp pa sp f t) := fun ⟨q1, q2, q3, f, f0, f1, f2, f3⟩ => q ⟨q1, q2, q3, f, f0, by omega, f2, f3⟩
        have h9 := hit.2.2 e z
        unfold rchF
        rw [if_neg (fun y => q ⟨y.2.2.1, y.1, y.2.1, (i : Int), by omega, by omega, hd, y.2.2.2.2⟩)]
        exact h9
    · have hd : dg (i : Int) ≠ g - 1 := fun q => h (key.mpr q)
      rw [rdF_n h]
      refine ⟨hit.1, fun e q => ?_, fun e q => ?_⟩
      · obtain ⟨q1, q2, q3, f, f0, f1, f2, f3⟩ := q
        have ef : f ≠ (i : Int) := fun ef => hd (by rw [← ef]; exact f2)
        exact hit.2.1 e ⟨q1, q2, q3, f, f0, by omega, f2, f3⟩
      · exact hit.2.2 e (fun ⟨q1, q2, q3, f, f0, f1, f2, f3⟩ => q ⟨q1, q2, q3, f, f0, by omega, f2, f3⟩)
/-- how near: L steps at most -/
def nr (pa sp : Int → Int) (n L : Nat) (s t : Int) (d : Int) : Prop := (1 ≤ d ∧ d ≤ (L : Int) ∧ wk pa sp n d.toNat s t ∧ ∀ j : Nat, (j : Int) < d → ¬ wk pa sp n j s t) ∨ (d = 0 ∧ ∀ j : Nat, j ≤ L → ¬ wk pa sp n j s t)
theorem nr_1 {pa sp : Int → Int} {n : Nat} {s t : Int} (hs : 0 ≤ s ∧ s < (n : Int)) (ht : 0 ≤ t ∧ t < (n : Int)) (hst : t ≠ s) : nr pa sp n 1 s t (DR pa sp n 0 s t) := by
  by_cases h : stp pa sp s t
  · refine Or.inl ?_
    rw [(DR_one 0 ht.1 ht.2).mpr ⟨Ne.symm hst, h⟩]
    exact ⟨by decide, by decide, ⟨s, hs.1, hs.2, rfl, h⟩, fun j hj => by
      have : j = 0 := by omega
      subst this
      exact fun q => hst q.symm⟩
  · refine Or.inr ⟨?_, fun j hj => ?_⟩
    · show dg1 pa sp n s t = 0
      unfold dg1 rchF
      rw [if_neg (fun q => h q.2.2.2.2)]
      rfl
    · have : j = 0 ∨ j = 1 := by omega
      rcases this with rfl | rfl
      · exact fun q => hst q.symm
      · rintro ⟨f, -, -, rfl, q⟩
        exact h q
theorem nr_s {pa sp : Int → Int} {n : Nat} {s : Int} {g : Nat} (hs : 0 ≤ s ∧ s < (n : Int)) (ih : ∀ t : Int, 0 ≤ t → t < (n : Int) → t ≠ s → nr pa sp n (g + 1) s t (DR pa sp n g s t)) {t : Int} (ht : 0 ≤ t ∧ t < (n : Int)) (hst : t ≠ s) : nr pa sp n (g + 2) s t (DR pa sp n (g + 1) s t) := by
  have h0 := ih t ht.1 ht.2 hst
  obtain ⟨c1, c2, c3⟩ := rdF_cl (pa := pa) (sp := sp) (n := n) (s := s) (g := (g : Int) + 2) (dg := DR pa sp n g s) (by omega) n t
  have e : DR pa sp n (g + 1) s t = rdF pa sp n s ((g : Int) + 2) (DR pa sp n g s) n t := rfl
  rw [e]
  by_cases z : DR pa sp n g s t = 0
  · have hn : ∀ j : Nat, j ≤ g + 1 → ¬ wk pa sp n j s t := by
      rcases h0 with q | q
      · omega
      · exact q.2
    by_cases q : (t ≠ s ∧ 0 ≤ t ∧ t < (n : Int) ∧ ∃ f : Int, 0 ≤ f ∧ f < (n : Int) ∧ DR pa sp n g s f = (g : Int) + 2 - 1 ∧ stp pa sp f t)
    · rw [c2 z q]
      obtain ⟨-, -, -, f, f0, f1, f2, f3⟩ := q
      have hfs : f ≠ s := fun ef => by
        rw [ef, DR_self] at f2
        omega
      rcases ih f f0 f1 hfs with w | w
      · refine Or.inl ⟨by omega, by omega, ?_, fun j hj => hn j (by omega)⟩
        rw [show ((g : Int) + 2).toNat = (g + 1) + 1 by omega]
        refine ⟨f, f0, f1, ?_, f3⟩
        have := w.2.2.1
        rw [f2, show ((g : Int) + 2 - 1).toNat = g + 1 by omega] at this
        exact this
      · omega
    · rw [c3 z q]
      refine Or.inr ⟨rfl, fun j hj => ?_⟩
      by_cases ej : j = g + 2
      · subst ej
        rintro ⟨f, f0, f1, f2, f3⟩
        have hfs : f ≠ s := fun ef => by
          subst ef
          exact hn 1 (by omega) ⟨f, f0, f1, rfl, f3⟩
        refine q ⟨hst, ht.1, ht.2, f, f0, f1, ?_, f3⟩
        have hno : ∀ j : Nat, j ≤ g → ¬ wk pa sp n j s f := fun j hj w => hn (j + 1) (by omega) ⟨f, f0, f1, w, f3⟩
        rcases ih f f0 f1 hfs with w | w
        · by_cases ed : DR pa sp n g s f = (g : Int) + 1
          · omega
          · exact absurd w.2.2.1 (hno _ (by omega))
        · exact absurd f2 (w.2 (g + 1) (Nat.le_refl _))
      · exact hn j (by omega)
  · rw [c1 z]
    rcases h0 with q | q
    · exact Or.inl ⟨q.1, by omega, q.2.2⟩
    · exact absurd q.1 z
theorem nr_4 {pa sp : Int → Int} {n : Nat} {s t : Int} (hs : 0 ≤ s ∧ s < (n : Int)) (ht : 0 ≤ t ∧ t < (n : Int)) (hst : t ≠ s) : nr pa sp n 4 s t (dgF pa sp n s t) :=
  nr_s (g := 2) hs (fun t t0 t1 h => nr_s (g := 1) hs (fun t t0 t1 h => nr_s (g := 0) hs (fun t t0 t1 h => nr_1 hs ⟨t0, t1⟩ h) ⟨t0, t1⟩ h) ⟨t0, t1⟩ h) ht hst
theorem wk_front {pa sp : Int → Int} {n : Nat} (k : Nat) {s f t : Int} (hs : 0 ≤ s ∧ s < (n : Int)) (hf : 0 ≤ f ∧ f < (n : Int)) (h : stp pa sp s f) (w : wk pa sp n k f t) : wk pa sp n (k + 1) s t := by
  induction k generalizing t with
  | zero =>
    have w : f = t := w
    subst w
    exact ⟨s, hs.1, hs.2, rfl, h⟩
  | succ k ih =>
    obtain ⟨x, x0, x1, x2, x3⟩ := w
    exact ⟨x, x0, x1, ih x2, x3⟩
theorem wk_sym {pa sp : Int → Int} {n : Nat} (hsy : ∀ a b : Int, 0 ≤ a → a < (n : Int) → 0 ≤ b → b < (n : Int) → stp pa sp a b → stp pa sp b a) (k : Nat) {s t : Int} (hs : 0 ≤ s ∧ s < (n : Int)) (ht : 0 ≤ t ∧ t < (n : Int)) (w : wk pa sp n k s t) : wk pa sp n k t s := by
  induction k generalizing t with
  | zero => exact Eq.symm w
  | succ k ih =>
    obtain ⟨f, f0, f1, f2, f3⟩ := w
    exact wk_front k ht ⟨f0, f1⟩ (hsy f t f0 f1 ht.1 ht.2 f3) (ih ⟨f0, f1⟩ f2)
theorem nr_det {pa sp : Int → Int} {n L : Nat} {s t a b : Int} {d e : Int} (hw : ∀ k : Nat, wk pa sp n k s t ↔ wk pa sp n k a b) (h1 : nr pa sp n L s t d) (h2 : nr pa sp n L a b e) : d = e := by
  rcases h1 with q | q <;> rcases h2 with r | r
  · by_cases c1 : d < e
    · exact absurd ((hw _).mp q.2.2.1) (r.2.2.2 d.toNat (by omega))
    · by_cases c2 : e < d
      · exact absurd ((hw _).mpr r.2.2.1) (q.2.2.2 e.toNat (by omega))
      · omega
  · exact absurd ((hw _).mp q.2.2.1) (r.2 d.toNat (by omega))
  · exact absurd ((hw _).mpr r.2.2.1) (q.2 e.toNat (by omega))
  · omega
theorem dgF_sym {pa sp : Int → Int} {n : Nat} (hsy : ∀ a b : Int, 0 ≤ a → a < (n : Int) → 0 ≤ b → b < (n : Int) → stp pa sp a b → stp pa sp b a) {s t : Int} (hs : 0 ≤ s ∧ s < (n : Int)) (ht : 0 ≤ t ∧ t < (n : Int)) : dgF pa sp n s t = dgF pa sp n t s := by
  by_cases e : t = s
  · rw [e]
  · exact nr_det (fun k => ⟨wk_sym hsy k hs ht, wk_sym hsy k ht hs⟩) (nr_4 hs ht e) (nr_4 ht hs (Ne.symm e))
theorem zIv.sym {n : Nat} {pa sp al mb dd : Int → Int} {td : Int} (h : zIv n pa sp al mb dd td) (a b : Int) (a0 : 0 ≤ a) (a1 : a < (n : Int)) (b0 : 0 ≤ b) (b1 : b < (n : Int)) (hs : stp pa sp a b) : stp pa sp b a := by
  rcases hs with q | q | q
  · exact Or.inr (Or.inl q)
  · exact Or.inl q
  · rcases h.2.1 a a0 a1 with r | r
    · omega
    · exact Or.inr (Or.inr (by rw [← q]; exact r.2.2.2))
theorem zIv.nss {n : Nat} {pa sp al mb dd : Int → Int} {td : Int} (h : zIv n pa sp al mb dd td) {a : Int} (a0 : 0 ≤ a) (a1 : a < (n : Int)) : ¬ stp pa sp a a := by
  have h1 := h.1 a a0 a1
  have h2 := h.2.1 a a0 a1
  unfold stp
  omega
theorem zIv.dg1 {n : Nat} {pa sp al mb dd : Int → Int} {td : Int} (h : zIv n pa sp al mb dd td) {a b : Int} (a0 : 0 ≤ a) (a1 : a < (n : Int)) (b0 : 0 ≤ b) (b1 : b < (n : Int)) : dgF pa sp n a b = 1 ↔ stp pa sp a b := by
  refine (DR_one 3 b0 b1).trans ⟨fun q => q.2, fun q => ⟨fun e => ?_, q⟩⟩
  rw [← e] at q
  exact h.nss a0 a1 q
/-! what the acts do to the relation -/
section ZMC
variable {n : Nat} {pa sp al co da mb dd : Int → Int} {td : Int} {M : Nat} {mo : Int → Int → Int}
theorem zInv.n16 (h : zInv n pa sp al co da mb dd td M mo) : n ≤ 16 := h.1.2.2.2.2.2.2.2.1
theorem lf_mono {da mb dd : Int → Int} {td k p d : Int} (hk : 0 ≤ k) (h : 0 < lf da mb dd (td + k) p d) : 0 < lf da mb dd td p d := by
  unfold lf at h ⊢
  omega
/-- (F) days go by -/
theorem zInv.pass (h : zInv n pa sp al co da mb dd td M mo) (k : Nat) : zInv n pa sp al co da mb dd (td + (k : Int)) (fC (eP mo (td + (k : Int))) M) (fun j => mo (fI (eP mo (td + (k : Int))) M j)) := by
  obtain ⟨hB, hV, hR⟩ := id h
  refine ⟨⟨hB.1, hB.2.1, hB.2.2.1, hB.2.2.2.1, hB.2.2.2.2.1, hB.2.2.2.2.2.1, hB.2.2.2.2.2.2.1, hB.2.2.2.2.2.2.2.1, by have := hB.2.2.2.2.2.2.2.2; omega⟩, ⟨hV.1, hV.2.1, hV.2.2.1, fun d => by have := hV.2.2.2 d; omega⟩, fun i i0 i1 => ?_, fun p d p0 p1 d0 d1 hl => ?_, ?_⟩
  · have := fI_in i0 i1
    exact hR.1 _ this.1 this.2.1
  · obtain ⟨i, i0, i1, e0, e1⟩ := hR.2.1 p d p0 p1 d0 d1 (lf_mono (by omega) hl)
    have hr := (hR.1 i i0 i1).en
    obtain ⟨j, j0, j1, j2⟩ := fI_on (P := eP mo (td + (k : Int))) (k := M) i0 i1 (decide_eq_true (by
      rw [hr, e0, e1]
      unfold lf at hl
      omega))
    exact ⟨j, j0, j1, by show mo (fI _ M j) 0 = p; rw [j2]; exact e0, by show mo (fI _ M j) 1 = d; rw [j2]; exact e1⟩
  · have := fC_le (eP mo (td + (k : Int))) M
    have := hR.2.2
    omega
theorem zInv.icTe (h : zInv n pa sp al co da mb dd td M mo) {p t : Int} (p0 : 0 ≤ p) (p1 : p < (n : Int)) (ht : 0 ≤ t) : icT mo M (td + t) p = neF (ca co da mb dd td n p) t := by
  unfold icT neF
  rw [h.wears p0 p1 ht]
  have := mxF_nn (caT co da mb dd td p t) n
  by_cases e : ca co da mb dd td n p t = 0
  · rw [if_neg (by omega), if_neg (by omega)]
  · rw [if_pos (by unfold ca at e ⊢; omega), if_pos e]
theorem zInv.worn (h : zInv n pa sp al co da mb dd td M mo) {k : Nat} (hk : k ≤ 180) : smF (waP co da mb dd td n (k : Int)) n = smF (icS mo M n td) k := by
  have e1 : smF (waP co da mb dd td n (k : Int)) n = smF (fun p => smF (fun t => neF (ca co da mb dd td n p) t) k) n := smF_cg (fun p _ _ => by
    unfold waP
    rw [show (min (k : Int) 180).toNat = k by omega])
  rw [e1, smF_swap]
  refine smF_cg (fun t t0 _ => ?_)
  unfold icS icF
  exact smF_cg (fun p p0 p1 => (h.icTe p0 p1 t0).symm)
theorem zInv.inCol (h : zInv n pa sp al co da mb dd td M mo) : icF mo M n td = smF al n - smF (cwF al co da mb dd td n 0) n := by
  rw [← smF_sub]
  unfold icF
  refine smF_cg (fun p p0 p1 => ?_)
  have h1 := h.icTe p0 p1 (Int.le_refl 0)
  rw [Int.add_zero] at h1
  rw [h1]
  have ha := h.1.2.2.1 p
  unfold neF cwF
  by_cases e : al p = 1
  · by_cases q : ca co da mb dd td n p 0 = 0
    · rw [if_neg (by omega), if_pos ⟨by omega, q⟩]; omega
    · rw [if_pos q, if_neg (fun z => q z.2)]; omega
  · rw [if_neg (by rw [h.ca0 p0 p1 e 0]; decide), if_neg (by omega)]; omega
/-- (E) a release -/
theorem zInv.rel (h : zInv n pa sp al co da mb dd td M mo) {p d : Int} (p0 : 0 ≤ p) (p1 : p < (n : Int)) (d0 : 0 ≤ d) (d1 : d < (n : Int)) : zInv n pa sp al co da (up mb (p * 16 + d) 0) dd td (fC (rP mo p d) M) (fun j => mo (fI (rP mo p d) M j)) := by
  obtain ⟨hB, hV, hR⟩ := id h
  have hn := h.n16
  have ne : ∀ x y : Int, 0 ≤ x → x < 16 → 0 ≤ y → y < 16 → ¬ (x = p ∧ y = d) → up mb (p * 16 + d) 0 (x * 16 + y) = mb (x * 16 + y) := fun x y _ _ _ _ q => up_n _ (by omega)
  refine ⟨⟨hB.1, hB.2.1, hB.2.2.1, hB.2.2.2.1, hB.2.2.2.2.1, up_bd hB.2.2.2.2.2.1 ⟨by decide, by decide⟩, hB.2.2.2.2.2.2⟩, ⟨hV.1, hV.2.1, fun x y x0 x1 y0 y1 q => ?_, hV.2.2.2⟩, fun i i0 i1 => ?_, fun x y x0 x1 y0 y1 hl => ?_, ?_⟩
  · by_cases e : x = p ∧ y = d
    · rw [e.1, e.2, up_s] at q
      exact absurd rfl q
    · rw [ne x y x0 x1 y0 y1 e] at q
      exact hV.2.2.1 x y x0 x1 y0 y1 q
  · have hf := fI_in i0 i1
    have hr := hR.1 _ hf.1 hf.2.1
    have hp : ¬ (mo (fI (rP mo p d) M i) 0 = p ∧ mo (fI (rP mo p d) M i) 1 = d) := of_decide_eq_true hf.2.2
    have e := ne _ _ hr.1.1 (by have := hr.1.2; omega) hr.2.1.1 (by have := hr.2.1.2; omega) hp
    show zRow n co da (up mb (p * 16 + d) 0) dd (mo (fI (rP mo p d) M i))
    unfold zRow
    rw [e]
    exact hr
  · have e : ¬ (x = p ∧ y = d) := fun e => by
      unfold lf at hl
      rw [e.1, e.2, up_s, dAll_0] at hl
      have := hV.2.2.2 d
      omega
    have hl2 : 0 < lf da mb dd td x y := by
      unfold lf at hl ⊢
      rw [ne x y x0 (by omega) y0 (by omega) e] at hl
      exact hl
    obtain ⟨i, i0, i1, e0, e1⟩ := hR.2.1 x y x0 x1 y0 y1 hl2
    obtain ⟨j, j0, j1, j2⟩ := fI_on (P := rP mo p d) (k := M) i0 i1 (decide_eq_true (by rw [e0, e1]; exact e))
    exact ⟨j, j0, j1, by show mo (fI _ M j) 0 = x; rw [j2]; exact e0, by show mo (fI _ M j) 1 = y; rw [j2]; exact e1⟩
  · have := fC_le (rP mo p d) M
    have := hR.2.2
    omega
/-- (I) one more person -/
theorem zInv.add (h : zInv n pa sp al co da mb dd td M mo) (hn : n < 16) {f : Int} (hf : -1 ≤ f ∧ f < (n : Int)) : zInv (n + 1) (up pa (n : Int) f) (up sp (n : Int) (-1)) (up al (n : Int) 1) co da mb dd td M mo := by
  obtain ⟨hB, hV, hR⟩ := id h
  have o : ∀ (g : Int → Int) (v j : Int), j < (n : Int) → up g (n : Int) v j = g j := fun g v j hj => up_n g (by omega)
  refine ⟨⟨up_bd hB.1 ⟨by omega, by omega⟩, up_bd hB.2.1 ⟨by decide, by decide⟩, up_bd hB.2.2.1 ⟨by decide, by decide⟩, hB.2.2.2.1, hB.2.2.2.2.1, hB.2.2.2.2.2.1, hB.2.2.2.2.2.2.1, by omega, hB.2.2.2.2.2.2.2.2⟩, ⟨fun p p0 p1 => ?_, fun p p0 p1 => ?_, fun p d p0 p1 d0 d1 q => ?_, hV.2.2.2⟩, fun i i0 i1 => ?_, fun p d p0 p1 d0 d1 hl => ?_, ?_⟩
  · by_cases e : p = (n : Int)
    · rw [e, up_s]; omega
    · rw [o _ _ _ (by omega)]
      exact hV.1 p p0 (by omega)
  · by_cases e : p = (n : Int)
    · rw [e, up_s]; exact Or.inl rfl
    · rw [o _ _ p (by omega)]
      rcases hV.2.1 p p0 (by omega) with q | ⟨q0, q1, q2, q3⟩
      · exact Or.inl q
      · exact Or.inr ⟨q0, by omega, q2, by rw [o _ _ _ q1]; exact q3⟩
  · have := hV.2.2.1 p d p0 p1 d0 d1 q
    rw [o _ _ p (by omega), o _ _ d (by omega)]
    exact ⟨by omega, by omega, this.2.2⟩
  · have hr := hR.1 i i0 i1
    exact ⟨⟨hr.1.1, by have := hr.1.2; omega⟩, ⟨hr.2.1.1, by have := hr.2.1.2; omega⟩, hr.2.2⟩
  · have hm : mb (p * 16 + d) ≠ 0 := fun e => by
      rw [h.lfz e] at hl
      omega
    have := hV.2.2.1 p d p0 (by omega) d0 (by omega) hm
    exact hR.2.1 p d p0 this.1 d0 this.2.1 hl
  · rw [smF_s, up_s, smF_cg (g := al) (fun j _ h1 => o _ _ _ h1)]
    have := hR.2.2
    omega
/-- (H) a stage of now -/
theorem zInv.stg (h : zInv n pa sp al co da mb dd td M mo) {k c v : Int} (hk : 192 ≤ k) (hc : 0 ≤ c ∧ c ≤ 5) (hv : 0 ≤ v ∧ v ≤ 60) : zInv n pa sp al (up co k c) (up da k v) mb dd td M mo := by
  obtain ⟨hB, hV, hR⟩ := id h
  have hn := h.n16
  have o : ∀ (g : Int → Int) (v x d z : Int), d < 16 → 1 ≤ x → x ≤ 4 → z ≤ 2 → up g k v (d * 12 + (x - 1) * 3 + z) = g (d * 12 + (x - 1) * 3 + z) := fun g v x d z _ _ _ _ => up_n g (by omega)
  have od : ∀ d x : Int, d < 16 → dAll (up da k v) d x = dAll da d x := fun d x hd => by
    unfold dAll
    split
    · rfl
    · rw [o _ _ _ _ _ hd (by omega) (by omega) (by decide), o _ _ _ _ _ hd (by omega) (by omega) (by decide), o _ _ _ _ _ hd (by omega) (by omega) (by decide)]
  refine ⟨⟨hB.1, hB.2.1, hB.2.2.1, up_bd hB.2.2.2.1 hc, up_bd hB.2.2.2.2.1 hv, hB.2.2.2.2.2⟩, hV, fun i i0 i1 => ?_, fun p d p0 p1 d0 d1 hl => ?_, hR.2.2⟩
  · obtain ⟨a1, a2, a3, a4, a5, a6, a7, a8, a9, a10⟩ := hR.1 i i0 i1
    have hd : mo i 1 < 16 := by omega
    exact ⟨a1, a2, a3, a4, by rw [o _ _ _ _ _ hd a3.1 a3.2 (by decide)]; exact a5, by rw [o _ _ _ _ _ hd a3.1 a3.2 (by decide)]; exact a6, by rw [o _ _ _ _ _ hd a3.1 a3.2 (by decide)]; exact a7, by rw [o _ _ _ _ _ hd a3.1 a3.2 (by decide)]; exact a8, by rw [o _ _ _ _ _ hd a3.1 a3.2 (by decide)]; exact a9, by rw [o _ _ _ _ _ hd a3.1 a3.2 (by decide)]; exact a10⟩
  · refine hR.2.1 p d p0 p1 d0 d1 ?_
    unfold lf at hl ⊢
    rw [od _ _ (by omega)] at hl
    exact hl
end ZMC
/-- (G) a wedding -/
theorem wed_cl {n : Nat} {pa sp al mb dd : Int → Int} {td a b : Int} (h : zIv n pa sp al mb dd td) (a0 : 0 ≤ a) (a1 : a < (n : Int)) (b0 : 0 ≤ b) (b1 : b < (n : Int)) (hab : a ≠ b) {x : Int} (x0 : 0 ≤ x) (x1 : x < (n : Int)) (xa : x ≠ a) (xb : x ≠ b) : up (up (lvS (lvS sp a) b) a b) b a x = if x = sp a ∨ x = sp b then -1 else sp x := by
  rw [up_n _ xb, up_n _ xa]
  have ha := h.2.1 a a0 a1
  have hb := h.2.1 b b0 b1
  have e1 : ∀ y : Int, lvS sp a y = if y = sp a ∧ sp a ≠ -1 then -1 else sp y := fun y => by
    unfold lvS
    by_cases q : sp a ≠ -1
    · rw [if_pos q]
      unfold up
      by_cases e : y = sp a
      · rw [if_pos e, if_pos ⟨e, q⟩]
      · rw [if_neg e, if_neg (fun z => e z.1)]
    · rw [if_neg q, if_neg (fun z => q z.2)]
  have e2 : lvS (lvS sp a) b x = if x = lvS sp a b ∧ lvS sp a b ≠ -1 then -1 else lvS sp a x := by
    show (if lvS sp a b ≠ -1 then up (lvS sp a) (lvS sp a b) (-1) else lvS sp a) x = _
    by_cases q : lvS sp a b ≠ -1
    · rw [if_pos q]
      unfold up
      by_cases e : x = lvS sp a b
      · rw [if_pos e, if_pos ⟨e, q⟩]
      · rw [if_neg e, if_neg (fun z => e z.1)]
    · rw [if_neg q, if_neg (fun z => q z.2)]
  rw [e2, e1 b, e1 x]
  by_cases c1 : b = sp a ∧ sp a ≠ -1
  · rw [if_pos c1, if_neg (fun z => z.2 rfl)]
    have e3 : sp b = a := by
      rcases ha with q | q
      · exact absurd q c1.2
      · rw [c1.1]; exact q.2.2.2
    by_cases c2 : x = sp a
    · omega
    · rw [if_neg (fun z => c2 z.1), if_neg (by omega)]
  · rw [if_neg c1]
    by_cases c2 : x = sp b
    · by_cases c3 : sp b = -1
      · omega
      · rw [if_pos ⟨c2, c3⟩, if_pos (Or.inr c2)]
    · rw [if_neg (fun z => c2 z.1)]
      by_cases c3 : x = sp a
      · by_cases c4 : sp a = -1
        · omega
        · rw [if_pos ⟨c3, c4⟩, if_pos (Or.inl c3)]
      · rw [if_neg (fun z => c3 z.1), if_neg (by omega)]
theorem lvS_rg {sp : Int → Int} (h : ∀ j : Int, -1 ≤ sp j ∧ sp j ≤ 15) (p : Int) : ∀ j : Int, -1 ≤ lvS sp p j ∧ lvS sp p j ≤ 15 := lvS_bd h p
theorem zInv.wed {n : Nat} {pa sp al co da mb dd : Int → Int} {td : Int} {M : Nat} {mo : Int → Int → Int} (h : zInv n pa sp al co da mb dd td M mo) {a b : Int} (a0 : 0 ≤ a) (a1 : a < (n : Int)) (b0 : 0 ≤ b) (b1 : b < (n : Int)) (hab : a ≠ b) : zInv n pa (up (up (lvS (lvS sp a) b) a b) b a) al co da mb dd td M mo := by
  obtain ⟨hB, hV, hR⟩ := id h
  have hn := h.n16
  have cl := fun {x : Int} (x0 : 0 ≤ x) (x1 : x < (n : Int)) (xa : x ≠ a) (xb : x ≠ b) => wed_cl hV a0 a1 b0 b1 hab x0 x1 xa xb
  have eb : up (up (lvS (lvS sp a) b) a b) b a b = a := up_s _ _ _
  have ea : up (up (lvS (lvS sp a) b) a b) b a a = b := by rw [up_n _ hab, up_s]
  refine ⟨⟨hB.1, up_bd (up_bd (lvS_rg (lvS_rg hB.2.1 a) b) ⟨by omega, by omega⟩) ⟨by omega, by omega⟩, hB.2.2⟩, ⟨hV.1, fun x x0 x1 => ?_, hV.2.2⟩, hR⟩
  by_cases xa : x = a
  · rw [xa, ea, eb]
    exact Or.inr ⟨b0, b1, Ne.symm hab, rfl⟩
  · by_cases xb : x = b
    · rw [xb, eb, ea]
      exact Or.inr ⟨a0, a1, hab, rfl⟩
    · rw [cl x0 x1 xa xb]
      by_cases c : x = sp a ∨ x = sp b
      · rw [if_pos c]
        exact Or.inl rfl
      · rw [if_neg c]
        rcases hV.2.1 x x0 x1 with q | ⟨q0, q1, q2, q3⟩
        · exact Or.inl q
        · have ya : sp x ≠ a := fun e => c (Or.inl (by rw [← e]; exact q3.symm))
          have yb : sp x ≠ b := fun e => c (Or.inr (by rw [← e]; exact q3.symm))
          refine Or.inr ⟨q0, q1, q2, ?_⟩
          rw [cl q0 q1 ya yb, if_neg, q3]
          intro z
          rcases z with z | z
          · rcases hV.2.1 a a0 a1 with r | r
            · omega
            · exact xa (by rw [← q3, z]; exact r.2.2.2)
          · rcases hV.2.1 b b0 b1 with r | r
            · omega
            · exact xb (by rw [← q3, z]; exact r.2.2.2)
