section REL4
variable {pa sp al co da mb dd co' da' mo : Int → Int} {n : Nat} {td : Int}
theorem cOn_0 (co da : Int → Int) (k t : Int) : cOn co da k 0 t = 0 := if_pos (Or.inl (by decide))
/-- the colours that a death would bring: the class's code of now, and the reference's row beside -/
theorem re_more (R : Rel pa sp al co da mb dd n td co' da' mo) {st mr : Int → Int} (hst : ∀ j : Int, -1 ≤ st j ∧ st j ≤ 4) {p d k : Int} (p0 : 0 ≤ p) (p1 : p < (n : Int)) (d0 : 0 ≤ d) (d1 : d < (n : Int)) (hpd : p ≠ d) (ha : al p ≠ 0) (hk : 0 ≤ k) : cOn co da 16 (dgF pa sp n d p) k = max 0 (wnM (lmM mr (goF pa sp n st d) al co' da' td p d) 0 (td + k)) := by
  obtain ⟨g1, g2, g3⟩ := dg_go1 pa sp st d0 d1 p0 p1
  have hgb := goF_bd hst pa sp n d p
  obtain ⟨⟨h1, h2⟩, ⟨b1, b2, b3, b4, b5, b6, b7⟩, ⟨m1, m2, m3⟩, hK, hR, hL, hs⟩ := R
  unfold lmM
  by_cases hi : imP al (goF pa sp n st d) da' d p
  · rw [if_pos hi]
    have hg := (g2 hi.2.2.1).1
    have hgp := hi.2.2.1
    obtain ⟨w0, w1, w2, w3, w4, w5, w6⟩ := wrM_at (up mr 0 (-1)) 0 td co' da' (goF pa sp n st d p)
    have q0 := hK (3 * (goF pa sp n st d p - 1) + 0) (by omega) (by omega)
    have q1 := hK (3 * (goF pa sp n st d p - 1) + 1) (by omega) (by omega)
    have q2 := hK (3 * (goF pa sp n st d p - 1) + 2) (by omega) (by omega)
    have c0 := m1 (3 * (goF pa sp n st d p - 1) + 0)
    have c1 := m1 (3 * (goF pa sp n st d p - 1) + 1)
    have c2 := m1 (3 * (goF pa sp n st d p - 1) + 2)
    unfold cOn wnM
    rw [w0, w1, w2, w3, w4, w5, w6, hg, show (16 : Int) * 12 + (goF pa sp n st d p - 1) * 3 + 0 = 192 + (3 * (goF pa sp n st d p - 1) + 0) by omega, show (16 : Int) * 12 + (goF pa sp n st d p - 1) * 3 + 1 = 192 + (3 * (goF pa sp n st d p - 1) + 1) by omega, show (16 : Int) * 12 + (goF pa sp n st d p - 1) * 3 + 2 = 192 + (3 * (goF pa sp n st d p - 1) + 2) by omega, q0.1, q0.2, q1.1, q1.2, q2.1, q2.2]
    repeat' split
    all_goals omega
  · rw [if_neg hi]
    have e : wnM (up mr 0 (-1)) 0 (td + k) = -1 := by
      unfold wnM
      rw [up_s, if_pos rfl]
    rw [e]
    show _ = (0 : Int)
    by_cases q : 0 < goF pa sp n st d p
    · rw [(g2 q).1]
      have hl : ¬ 0 < lenM da' (goF pa sp n st d p) := fun hh => hi ⟨hpd, ha, q, hh⟩
      have hl2 := dAll_len hK (g := goF pa sp n st d p) (by omega) (by omega)
      exact cOn_out (by omega) b5
    · rw [g3 (by omega)]
      exact cOn_0 _ _ _ _
theorem re_would (R : Rel pa sp al co da mb dd n td co' da' mo) {st mr : Int → Int} (hst : ∀ j : Int, -1 ≤ st j ∧ st j ≤ 4) {p d : Int} (p0 : 0 ≤ p) (p1 : p < (n : Int)) (d0 : 0 ≤ d) (d1 : d < (n : Int)) (hpd : p ≠ d) (ha : al p ≠ 0) : max (ca co da mb dd td n p 0) (cOn co da 16 (dgF pa sp n d p) 0) = wtM mo (lmM mr (goF pa sp n st d) al co' da' td p d) n p td := by
  have hn := R.1.1
  have e := re_more R (mr := mr) hst p0 p1 d0 d1 hpd ha (Int.le_refl 0)
  rw [Int.add_zero] at e
  rw [e, re_ca0 R p0 (show p < 16 by omega)]
  unfold wtM
  have := mxF_nn (wsT mo p td) n
  have e2 : wsM mo n p td = mxF (wsT mo p td) n := rfl
  omega
theorem re_loss (R : Rel pa sp al co da mb dd n td co' da' mo) {st mr : Int → Int} (hst : ∀ j : Int, -1 ≤ st j ∧ st j ≤ 4) {p d : Int} (p0 : 0 ≤ p) (p1 : p < (n : Int)) (d0 : 0 ≤ d) (d1 : d < (n : Int)) (hpd : p ≠ d) (ha : al p ≠ 0) : wwP co da mb dd td n p (dgF pa sp n p d) = smF (wtF mo (lmM mr (goF pa sp n st d) al co' da' td p d) n td p) 180 := by
  have hn := R.1.1
  rw [dgF_symm (re_stp R) p0 p1 d0 d1]
  refine smF_cg (fun k k0 k1 => ?_)
  have e := re_more R (mr := mr) hst p0 p1 d0 d1 hpd ha k0
  have e1 := re_ca R p0 (show p < 16 by omega) k0
  have e2 := mxF_nn (wsT mo p (td + k)) n
  have e3 : wsM mo n p (td + k) = mxF (wsT mo p (td + k)) n := rfl
  have e4 := cOn_bd R.2.1.2.2.2.1 da 16 (dgF pa sp n d p) k
  have e5 : wtM mo (lmM mr (goF pa sp n st d) al co' da' td p d) n p (td + k) = max (wsM mo n p (td + k)) (wnM (lmM mr (goF pa sp n st d) al co' da' td p d) 0 (td + k)) := rfl
  unfold wwF wtF
  by_cases q : ca co da mb dd td n p k ≠ 0 ∨ cOn co da 16 (dgF pa sp n d p) k ≠ 0
  · rw [if_pos q, if_pos (by omega)]
  · rw [if_neg q, if_neg (by omega)]
/-- what the death of p costs, added up mourner by mourner -/
def loS (pa sp al co da mb dd : Int → Int) (td : Int) (n : Nat) (p m : Int) : Int := if m ≠ p ∧ al m ≠ 0 then wwP co da mb dd td n m (dgF pa sp n m p) else 0
theorem hlF_sum {p : Int} (p0 : 0 ≤ p) (p1 : p < (n : Int)) : ∀ i : Nat, hlF pa sp al co da mb dd td n i p = smF (loS pa sp al co da mb dd td n p) i := by
  intro i
  induction i with
  | zero => rfl
  | succ i ih =>
    rw [smF_s, ← ih]
    unfold loS
    by_cases e : al (i : Int) ≠ 0
    · rw [hlF_y e]
      unfold loF
      by_cases e2 : p = (i : Int)
      · rw [if_neg (fun hh => hh.2.2 e2), if_neg (fun hh => hh.1 e2.symm)]
        omega
      · rw [if_pos ⟨p0, p1, e2⟩, if_pos ⟨fun hh => e2 hh.symm, e⟩]
    · rw [hlF_n (by omega), if_neg (fun hh => e hh.2)]
      omega
theorem adC_sum (R : Rel pa sp al co da mb dd n td co' da' mo) {st mr : Int → Int} (hst : ∀ j : Int, -1 ≤ st j ∧ st j ≤ 4) {p : Int} (p0 : 0 ≤ p) (p1 : p < (n : Int)) : ∀ i : Nat, i ≤ n → adC pa sp al co' da' mo n td p st mr i = smF (loS pa sp al co da mb dd td n p) i := by
  intro i
  induction i with
  | zero => intro _; rfl
  | succ i ih =>
    intro hi
    rw [smF_s]
    unfold loS
    by_cases e : adP al p (i : Int)
    · rw [adC_y e, ih (by omega), if_pos e, re_loss R (st := adS pa sp al n p st i) (mr := adM pa sp al co' da' n td p st mr i) (adS_bd hst i) (by omega) (by omega) p0 p1 e.1 e.2]
      rfl
    · rw [adC_n e, ih (by omega), if_neg e]
      show smF (loS pa sp al co da mb dd td n p) i = smF (loS pa sp al co da mb dd td n p) i + 0
      omega
theorem re_heavy (R : Rel pa sp al co da mb dd n td co' da' mo) {st mr : Int → Int} (hst : ∀ j : Int, -1 ≤ st j ∧ st j ≤ 4) : hvF al (hlF pa sp al co da mb dd td n n) n = hbF (heV pa sp al co' da' mo n td st mr) n := by
  have hv : ∀ i : Nat, i < n → heV pa sp al co' da' mo n td st mr i = if al (i : Int) ≠ 0 then hlF pa sp al co da mb dd td n n (i : Int) else -1 := by
    intro i hi
    by_cases e : al (i : Int) ≠ 0
    · rw [heV_y e, if_pos e, adC_sum R (heS_bd hst i) (by omega) (by omega) n (Nat.le_refl n), hlF_sum (by omega) (by omega) n]
    · rw [heV_n (by omega), if_neg e]
  have main : ∀ k : Nat, k ≤ n → hvF al (hlF pa sp al co da mb dd td n n) k = hbF (heV pa sp al co' da' mo n td st mr) k ∧ (hvF al (hlF pa sp al co da mb dd td n n) k = -1 → hmF (heV pa sp al co' da' mo n td st mr) k = -1) ∧ (hvF al (hlF pa sp al co da mb dd td n n) k ≠ -1 → hmF (heV pa sp al co' da' mo n td st mr) k = hlF pa sp al co da mb dd td n n (hvF al (hlF pa sp al co da mb dd td n n) k)) := by
    intro k
    induction k with
    | zero => intro _; exact ⟨rfl, fun _ => rfl, fun h => absurd rfl h⟩
    | succ k ih =>
      intro hk
      obtain ⟨i1, i2, i3⟩ := ih (by omega)
      have e := hv k (by omega)
      have hb := hlF_bd pa sp al co da mb dd td n n (k : Int)
      by_cases c : al (k : Int) ≠ 0 ∧ (hvF al (hlF pa sp al co da mb dd td n n) k = -1 ∨ hlF pa sp al co da mb dd td n n (hvF al (hlF pa sp al co da mb dd td n n) k) < hlF pa sp al co da mb dd td n n (k : Int))
      · rw [if_pos c.1] at e
        have lt : hmF (heV pa sp al co' da' mo n td st mr) k < heV pa sp al co' da' mo n td st mr k := by
          by_cases q : hvF al (hlF pa sp al co da mb dd td n n) k = -1
          · have := i2 q
            omega
          · have := i3 q
            rcases c.2 with c2 | c2
            · exact absurd c2 q
            · omega
        rw [hvF_y c, hbF_y lt, hmF_y lt]
        exact ⟨rfl, fun h => by omega, fun _ => e⟩
      · have ge : heV pa sp al co' da' mo n td st mr k ≤ hmF (heV pa sp al co' da' mo n td st mr) k := by
          by_cases q : al (k : Int) ≠ 0
          · rw [if_pos q] at e
            have q2 : ¬ (hvF al (hlF pa sp al co da mb dd td n n) k = -1 ∨ hlF pa sp al co da mb dd td n n (hvF al (hlF pa sp al co da mb dd td n n) k) < hlF pa sp al co da mb dd td n n (k : Int)) := fun hh => c ⟨q, hh⟩
            have q3 : hvF al (hlF pa sp al co da mb dd td n n) k ≠ -1 := fun hh => q2 (Or.inl hh)
            have q4 : ¬ hlF pa sp al co da mb dd td n n (hvF al (hlF pa sp al co da mb dd td n n) k) < hlF pa sp al co da mb dd td n n (k : Int) := fun hh => q2 (Or.inr hh)
            have := i3 q3
            omega
          · rw [if_neg q] at e
            have := (hmF_bd (v := heV pa sp al co' da' mo n td st mr) (B := 180 * (n : Int)) (by omega) (fun i => heV_bd pa sp al co' da' mo n td st mr i) k).1
            omega
        rw [hvF_n c, hbF_n ge, hmF_n ge]
        exact ⟨i1, i2, i3⟩
  exact (main n (Nat.le_refl n)).1
theorem re_sumleft (R : Rel pa sp al co da mb dd n td co' da' mo) : smF (llS da mb dd td n) n = smF (moS mo n td) n := smF_cg (fun j h0 h1 => re_most R h0 (by have := R.1.1; omega))
-- the beginning
def miF (k : Nat) : Int → Int := fun j => if 0 ≤ j ∧ j < 7 * (k : Int) ∧ j % 7 = 0 then -1 else 0
theorem miF_0 : miF 0 = cst 0 := by
  funext j
  unfold miF
  rw [if_neg (by omega)]
  rfl
theorem miF_s (k : Nat) : miF (k + 1) = up (miF k) (7 * (k : Int)) (-1) := by
  funext j
  unfold miF up
  by_cases e : j = 7 * (k : Int)
  · rw [if_pos e, if_pos (by omega)]
  · rw [if_neg e]
    by_cases q : 0 ≤ j ∧ j < 7 * (k : Int) ∧ j % 7 = 0
    · exact (if_pos (by omega)).trans (if_pos q).symm
    · exact (if_neg (by omega)).trans (if_neg q).symm
theorem re_init : Rel (cst 0) (cst 0) (cst 0) (cst 0) (cst 0) (cst 0) (cst 0) 0 0 (cst 0) (cst 0) (miF 256) := by
  refine ⟨⟨by decide, by decide⟩, ⟨cst_bd ⟨by decide, by decide⟩, cst_bd ⟨by decide, by decide⟩, cst_bd ⟨by decide, by decide⟩, cst_bd ⟨by decide, by decide⟩, cst_bd ⟨by decide, by decide⟩, cst_bd ⟨by decide, by decide⟩, cst_bd ⟨by decide, by decide⟩⟩, ⟨cst_bd ⟨by decide, by decide⟩, cst_bd ⟨by decide, by decide⟩, fun j => ?_⟩, fun j _ _ => ⟨rfl, rfl⟩, fun p d p0 p1 d0 d1 => Or.inl ⟨rfl, ?_⟩, fun p d _ _ _ _ h => absurd rfl h, fun a a0 a1 => by omega, fun a a0 a1 => by omega⟩
  · unfold miF
    split <;> decide
  · unfold miF
    rw [if_pos ⟨by omega, by omega, by omega⟩]
end REL4
