/-- the code of now is the same -/
def ReK (co da co' da' : Int → Int) : Prop := ∀ j : Int, 0 ≤ j → j < 12 → co (192 + j) = co' j ∧ da (192 + j) = da' j
/-- one mourning, told twice -/
def ReP (co da mb dd mo : Int → Int) (p d : Int) : Prop :=
  (mb (p * 16 + d) = 0 ∧ mo (7 * (16 * p + d)) = -1) ∨
  (1 ≤ mb (p * 16 + d) ∧ mo (7 * (16 * p + d)) = dd d ∧ mo (7 * (16 * p + d) + 1) = co (d * 12 + (mb (p * 16 + d) - 1) * 3 + 0) ∧ mo (7 * (16 * p + d) + 1 + 1) = co (d * 12 + (mb (p * 16 + d) - 1) * 3 + 1) ∧ mo (7 * (16 * p + d) + 1 + 2) = co (d * 12 + (mb (p * 16 + d) - 1) * 3 + 2) ∧
    mo (7 * (16 * p + d) + 4) = da (d * 12 + (mb (p * 16 + d) - 1) * 3 + 0) ∧ mo (7 * (16 * p + d) + 4 + 1) = da (d * 12 + (mb (p * 16 + d) - 1) * 3 + 1) ∧ mo (7 * (16 * p + d) + 4 + 2) = da (d * 12 + (mb (p * 16 + d) - 1) * 3 + 2))
def ReM (co da mb dd mo : Int → Int) : Prop := ∀ p d : Int, 0 ≤ p → p < 16 → 0 ≤ d → d < 16 → ReP co da mb dd mo p d
theorem lf_lM {co da mb dd mo : Int → Int} {td : Int} (hda : ∀ j : Int, 0 ≤ da j ∧ da j ≤ 60) (hmb : ∀ j : Int, 0 ≤ mb j ∧ mb j ≤ 4) (hdd : ∀ j : Int, 0 ≤ dd j ∧ dd j ≤ td) {p d : Int} (h : ReP co da mb dd mo p d) : lf da mb dd td p d = lM mo td p d := by
  have hd := hdd d
  have hm := hmb (p * 16 + d)
  rcases h with ⟨h1, h2⟩ | ⟨g, e0, c0, c1, c2, d0, d1, d2⟩
  · unfold lf lM dAll
    rw [if_pos h2, if_pos (by omega)]
    omega
  · unfold lf lM dAll
    rw [if_neg (by omega), if_neg (by omega), show 7 * (16 * p + d) + 5 = 7 * (16 * p + d) + 4 + 1 by omega, show 7 * (16 * p + d) + 6 = 7 * (16 * p + d) + 4 + 2 by omega, e0, d0, d1, d2]
    omega
theorem cOn_wn {co da mb dd mo : Int → Int} {td : Int} (hco : ∀ j : Int, 0 ≤ co j ∧ co j ≤ 5) (hmb : ∀ j : Int, 0 ≤ mb j ∧ mb j ≤ 4) (hdd : ∀ j : Int, 0 ≤ dd j ∧ dd j ≤ td) {p d t : Int} (ht : 0 ≤ t) (h : ReP co da mb dd mo p d) : caT co da mb dd td p t d = max 0 (wsT mo p (td + t) d) := by
  have hd := hdd d
  have hm := hmb (p * 16 + d)
  unfold caT wsT cOn wnM
  rcases h with ⟨h1, h2⟩ | ⟨g, e0, c0, c1, c2, d0, d1, d2⟩
  · rw [if_pos (Or.inl (by omega)), if_pos h2]
    rfl
  · have k0 := hco (d * 12 + (mb (p * 16 + d) - 1) * 3 + 0)
    have k1 := hco (d * 12 + (mb (p * 16 + d) - 1) * 3 + 1)
    have k2 := hco (d * 12 + (mb (p * 16 + d) - 1) * 3 + 2)
    rw [e0, c0, c1, c2, d0, d1, d2]
    repeat' split
    all_goals omega
theorem ca_ws {co da mb dd mo : Int → Int} {td : Int} (hco : ∀ j : Int, 0 ≤ co j ∧ co j ≤ 5) (hmb : ∀ j : Int, 0 ≤ mb j ∧ mb j ≤ 4) (hdd : ∀ j : Int, 0 ≤ dd j ∧ dd j ≤ td) (h : ReM co da mb dd mo) {p t : Int} (p0 : 0 ≤ p) (p1 : p < 16) (ht : 0 ≤ t) : ∀ n : Nat, n ≤ 16 → ca co da mb dd td n p t = wsM mo n p (td + t) := by
  intro n
  induction n with
  | zero => intro _; rfl
  | succ n ih =>
    intro hn
    have e := ih (by omega)
    have e2 := cOn_wn hco hmb hdd ht (h p n p0 p1 (by omega) (by omega))
    have e3 := mxF_nn (wsT mo p (td + t)) n
    show max (ca co da mb dd td n p t) (caT co da mb dd td p t n) = max (wsM mo n p (td + t)) (wsT mo p (td + t) n)
    rw [e, e2]
    have e4 : wsM mo n p (td + t) = mxF (wsT mo p (td + t)) n := rfl
    omega
theorem ca_z {co da mb dd : Int → Int} {td : Int} (hda : ∀ j : Int, 0 ≤ da j ∧ da j ≤ 60) (hdd : ∀ j : Int, 0 ≤ dd j ∧ dd j ≤ td) (n : Nat) {p t : Int} (ht : 180 ≤ t) : ca co da mb dd td n p t = 0 := by
  refine mxF_z (fun j _ _ => ?_)
  have h1 := hdd j
  have h2 := dAll_bd hda j (mb (p * 16 + j))
  exact cOn_out (by omega) hda
theorem lf_le {da mb dd : Int → Int} {td : Int} (hda : ∀ j : Int, 0 ≤ da j ∧ da j ≤ 60) (hdd : ∀ j : Int, 0 ≤ dd j ∧ dd j ≤ td) (p d : Int) : lf da mb dd td p d ≤ 180 := by
  have h1 := hdd d
  have h2 := dAll_bd hda d (mb (p * 16 + d))
  unfold lf
  omega
theorem ca_most {co da mb dd : Int → Int} {td : Int} (hda : ∀ j : Int, 0 ≤ da j ∧ da j ≤ 60) (n : Nat) {p t : Int} (ht : mxF (lf da mb dd td p) n ≤ t) : ca co da mb dd td n p t = 0 := by
  refine mxF_z (fun j h0 h1 => ?_)
  have h2 := mxF_ge (f := lf da mb dd td p) h0 h1
  unfold lf at h2
  exact cOn_out (by unfold lf at ht; omega) hda
/-- all that is kept between calls: the class's numbers and the reference's -/
def Rel (pa sp al co da mb dd : Int → Int) (n : Nat) (td : Int) (co' da' mo : Int → Int) : Prop :=
  (n ≤ 16 ∧ (0 ≤ td ∧ td ≤ 900000)) ∧
  ((∀ j : Int, -1 ≤ pa j ∧ pa j ≤ 15) ∧ (∀ j : Int, -1 ≤ sp j ∧ sp j ≤ 15) ∧ (∀ j : Int, 0 ≤ al j ∧ al j ≤ 1) ∧ (∀ j : Int, 0 ≤ co j ∧ co j ≤ 5) ∧ (∀ j : Int, 0 ≤ da j ∧ da j ≤ 60) ∧ (∀ j : Int, 0 ≤ mb j ∧ mb j ≤ 4) ∧ (∀ j : Int, 0 ≤ dd j ∧ dd j ≤ td)) ∧
  ((∀ j : Int, 0 ≤ co' j ∧ co' j ≤ 5) ∧ (∀ j : Int, 0 ≤ da' j ∧ da' j ≤ 60) ∧ (∀ j : Int, -1 ≤ mo j ∧ mo j ≤ 1000000)) ∧
  ReK co da co' da' ∧ ReM co da mb dd mo ∧
  (∀ p d : Int, 0 ≤ p → p < 16 → 0 ≤ d → d < 16 → mb (p * 16 + d) ≠ 0 → al p ≠ 0 ∧ al d = 0 ∧ p < (n : Int) ∧ d < (n : Int)) ∧
  (∀ a : Int, 0 ≤ a → a < (n : Int) → sp a < (n : Int)) ∧ (∀ a : Int, 0 ≤ a → a < (n : Int) → 0 ≤ sp a → sp (sp a) = a)
section REL
variable {pa sp al co da mb dd co' da' mo : Int → Int} {n : Nat} {td : Int}
theorem re_dd1 (R : Rel pa sp al co da mb dd n td co' da' mo) : ∀ j : Int, 0 ≤ dd j ∧ dd j ≤ 1000000 := fun j => by
  have h := R.2.1.2.2.2.2.2.2 j
  have h2 := R.1.2
  omega
theorem re_td1 (R : Rel pa sp al co da mb dd n td co' da' mo) : 0 ≤ td ∧ td ≤ 1000000 := by
  have h2 := R.1.2
  omega
theorem re_stp (R : Rel pa sp al co da mb dd n td co' da' mo) : ∀ a b : Int, 0 ≤ a → a < (n : Int) → 0 ≤ b → b < (n : Int) → stp pa sp a b → stp pa sp b a := by
  intro a b a0 a1 b0 b1 h
  rcases h with h | h | h
  · exact Or.inr (Or.inl h)
  · exact Or.inl h
  · refine Or.inr (Or.inr ?_)
    have := R.2.2.2.2.2.2.2 a a0 a1 (by omega)
    rw [← h]
    exact this
theorem re_lf (R : Rel pa sp al co da mb dd n td co' da' mo) {p d : Int} (p0 : 0 ≤ p) (p1 : p < 16) (d0 : 0 ≤ d) (d1 : d < 16) : lf da mb dd td p d = lM mo td p d := lf_lM R.2.1.2.2.2.2.1 R.2.1.2.2.2.2.2.1 R.2.1.2.2.2.2.2.2 (R.2.2.2.2.1 p d p0 p1 d0 d1)
theorem re_ca (R : Rel pa sp al co da mb dd n td co' da' mo) {p t : Int} (p0 : 0 ≤ p) (p1 : p < 16) (ht : 0 ≤ t) : ca co da mb dd td n p t = wsM mo n p (td + t) := ca_ws R.2.1.2.2.2.1 R.2.1.2.2.2.2.2.1 R.2.1.2.2.2.2.2.2 R.2.2.2.2.1 p0 p1 ht n R.1.1
theorem re_ca0 (R : Rel pa sp al co da mb dd n td co' da' mo) {p : Int} (p0 : 0 ≤ p) (p1 : p < 16) : ca co da mb dd td n p 0 = wsM mo n p td := by
  have := re_ca R p0 p1 (Int.le_refl 0)
  rw [Int.add_zero] at this
  exact this
theorem re_z (R : Rel pa sp al co da mb dd n td co' da' mo) {p : Int} (p0 : 0 ≤ p) (p1 : p < 16) : ∀ t : Int, 180 ≤ t → wsM mo n p (td + t) = 0 := fun t ht => by
  rw [← re_ca R p0 p1 (by omega)]
  exact ca_z R.2.1.2.2.2.2.1 R.2.1.2.2.2.2.2.2 n ht
theorem re_most (R : Rel pa sp al co da mb dd n td co' da' mo) {p : Int} (p0 : 0 ≤ p) (p1 : p < 16) : mxF (lf da mb dd td p) n = mxF (lM mo td p) n := mxF_cg (fun j h0 h1 => re_lf R p0 p1 h0 (by have := R.1.1; omega))
theorem re_mourn (R : Rel pa sp al co da mb dd n td co' da' mo) {p : Int} (p0 : 0 ≤ p) (p1 : p < 16) : smF (gtF (lf da mb dd td p)) n = smF (gtF (lM mo td p)) n := smF_cg (fun j h0 h1 => by
  unfold gtF
  rw [re_lf R p0 p1 h0 (by have := R.1.1; omega)])
theorem re_most180 (R : Rel pa sp al co da mb dd n td co' da' mo) {p : Int} (p0 : 0 ≤ p) (p1 : p < 16) : mxF (lM mo td p) n ≤ 180 := by
  rw [← re_most R p0 p1]
  exact mxF_le (by decide) (fun j _ _ => lf_le R.2.1.2.2.2.2.1 R.2.1.2.2.2.2.2.2 p j)
theorem re_until (R : Rel pa sp al co da mb dd n td co' da' mo) {p : Int} (p0 : 0 ≤ p) (p1 : p < 16) : flD (ca co da mb dd td n p) = flD (wT mo n td p) := flD_cg (fun j h0 _ => re_ca R p0 p1 h0)
theorem re_daysIn (R : Rel pa sp al co da mb dd n td co' da' mo) {p c : Int} (p0 : 0 ≤ p) (p1 : p < 16) (hc : 1 ≤ c) : smF (eqF (ca co da mb dd td n p) c) 180 = smF (eqF (wT mo n td p) c) (mxF (lM mo td p) n).toNat := by
  have h1 := re_most180 R p0 p1
  have h2 := mxF_nn (lM mo td p) n
  rw [smF_cut2 (m := (mxF (lM mo td p) n).toNat) (fun j hj => ?_) (by omega)]
  · refine smF_cg (fun j h0 _ => ?_)
    unfold eqF
    rw [re_ca R p0 p1 h0]
    rfl
  · unfold eqF
    rw [ca_most R.2.1.2.2.2.2.1 n (by rw [re_most R p0 p1]; omega), if_neg (by omega)]
theorem re_strict (R : Rel pa sp al co da mb dd n td co' da' mo) : mxF (caZ co da mb dd td n) n = mxF (wsZ mo n td) n := mxF_cg (fun j h0 h1 => re_ca0 R h0 (by have := R.1.1; omega))
theorem lgF_cg {f g : Int → Int} {k : Nat} (h : ∀ j : Int, 0 ≤ j → j < (k : Int) → f j = g j) : lgF f k = lgF g k := by
  induction k with
  | zero => rfl
  | succ k ih =>
    show (if f (k : Int) > mxF f k then (k : Int) else lgF f k) = (if g (k : Int) > mxF g k then (k : Int) else lgF g k)
    rw [ih (fun j h0 h1 => h j h0 (by omega)), h k (by omega) (by omega), mxF_cg (f := f) (g := g) (fun j h0 h1 => h j h0 (by omega))]
theorem re_longest (R : Rel pa sp al co da mb dd n td co' da' mo) : lgF (llS da mb dd td n) n = lgF (moS mo n td) n := lgF_cg (fun j h0 h1 => re_most R h0 (by have := R.1.1; omega))
theorem re_wear (R : Rel pa sp al co da mb dd n td co' da' mo) (c : Int) : smF (cwF al co da mb dd td n c) n = smF (weM al mo n td c) n := smF_cg (fun j h0 h1 => by
  unfold cwF weM
  rw [show ca co da mb dd td n j 0 = wsM mo n j td from re_ca0 R h0 (by have := R.1.1; omega)])
theorem re_kin (R : Rel pa sp al co da mb dd n td co' da' mo) (st : Int → Int) {p g : Int} (p0 : 0 ≤ p) (p1 : p < (n : Int)) (hg : 1 ≤ g) : smF (kinF al (dgF pa sp n p) g) n = smF (kinF al (goF pa sp n st p) g) n := smF_cg (fun j h0 h1 => by
  have := dg_go pa sp st p0 p1 h0 h1
  unfold kinF
  by_cases e : al j ≠ 0 ∧ dgF pa sp n p j = g
  · rw [if_pos e, if_pos ⟨e.1, by omega⟩]
  · rw [if_neg e, if_neg (fun hh => e ⟨hh.1, by omega⟩)])
theorem dAll_len {co da co' da' : Int → Int} (h : ReK co da co' da') {g : Int} (h1 : 1 ≤ g) (h2 : g ≤ 4) : dAll da 16 g = lenM da' g := by
  unfold dAll lenM
  rw [if_neg (by omega), ← (h (3 * (g - 1) + 0) (by omega) (by omega)).2, ← (h (3 * (g - 1) + 1) (by omega) (by omega)).2, ← (h (3 * (g - 1) + 2) (by omega) (by omega)).2,
    show (16 : Int) * 12 + (g - 1) * 3 + 0 = 192 + (3 * (g - 1) + 0) by omega, show (16 : Int) * 12 + (g - 1) * 3 + 1 = 192 + (3 * (g - 1) + 1) by omega, show (16 : Int) * 12 + (g - 1) * 3 + 2 = 192 + (3 * (g - 1) + 2) by omega]
theorem dAll_0 (da : Int → Int) (k : Int) : dAll da k 0 = 0 := if_pos (Or.inl (by decide))
theorem re_im (R : Rel pa sp al co da mb dd n td co' da' mo) {st : Int → Int} (hst : ∀ j : Int, -1 ≤ st j ∧ st j ≤ 4) {p d : Int} (p0 : 0 ≤ p) (p1 : p < (n : Int)) (d0 : 0 ≤ d) (d1 : d < (n : Int)) : (al p ≠ 0 ∧ 0 < dAll da 16 (dgF pa sp n d p)) ↔ imP al (goF pa sp n st d) da' d p := by
  obtain ⟨e1, e2, e3⟩ := dg_go1 pa sp st d0 d1 p0 p1
  have hb := goF_bd hst pa sp n d p
  by_cases e : 0 < goF pa sp n st d p
  · obtain ⟨e4, e5⟩ := e2 e
    rw [e4, dAll_len R.2.2.2.1 (by omega) (by omega)]
    exact ⟨fun ⟨a, b⟩ => ⟨e5, a, e, b⟩, fun ⟨_, a, _, b⟩ => ⟨a, b⟩⟩
  · rw [e3 (by omega), dAll_0]
    exact ⟨fun ⟨_, b⟩ => absurd b (by decide), fun ⟨_, _, b, _⟩ => absurd b e⟩
theorem re_wb (R : Rel pa sp al co da mb dd n td co' da' mo) {st : Int → Int} (hst : ∀ j : Int, -1 ≤ st j ∧ st j ≤ 4) {d : Int} (d0 : 0 ≤ d) (d1 : d < (n : Int)) : smF (wbF al da (dgF pa sp n d)) n = smF (imF al (goF pa sp n st d) da' d) n := smF_cg (fun j h0 h1 => by
  have := re_im R hst h0 h1 d0 d1
  unfold wbF imF
  by_cases e : al j ≠ 0 ∧ 0 < dAll da 16 (dgF pa sp n d j)
  · rw [if_pos e, if_pos (this.mp e)]
  · rw [if_neg e, if_neg (fun hh => e (this.mpr hh))])
end REL
