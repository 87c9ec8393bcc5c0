section REL3
variable {pa sp al co da mb dd co' da' mo : Int → Int} {n : Nat} {td : Int}
-- a new person
theorem re_add (R : Rel pa sp al co da mb dd n td co' da' mo) (hn : n < 16) {f : Int} (hf : -1 ≤ f ∧ f ≤ 15) : Rel (up pa (n : Int) f) (up sp (n : Int) (-1)) (up al (n : Int) 1) co da mb dd (n + 1) td co' da' mo := by
  obtain ⟨⟨h1, h2⟩, ⟨b1, b2, b3, b4, b5, b6, b7⟩, hM, hK, hR, hL, hs1, hs2⟩ := R
  refine ⟨⟨by omega, h2⟩, ⟨up_bd b1 hf, up_bd b2 ⟨by decide, by decide⟩, up_bd b3 ⟨by decide, by decide⟩, b4, b5, b6, b7⟩, hM, hK, hR, ?_, ?_, ?_⟩
  · intro p d p0 p1 d0 d1 h
    obtain ⟨e1, e2, e3, e4⟩ := hL p d p0 p1 d0 d1 h
    rw [up_n al (by omega), up_n al (by omega)]
    exact ⟨e1, e2, by omega, by omega⟩
  · intro a a0 a1
    by_cases e : a = (n : Int)
    · rw [e, up_s]; omega
    · rw [up_n sp e]
      have := hs1 a a0 (by omega)
      omega
  · intro a a0 a1 h
    by_cases e : a = (n : Int)
    · rw [e, up_s] at h; omega
    · rw [up_n sp e] at h ⊢
      have h3 := hs1 a a0 (by omega)
      rw [up_n sp (by omega)]
      exact hs2 a a0 (by omega) h
-- the code
theorem re_set (R : Rel pa sp al co da mb dd n td co' da' mo) {g s c k : Int} (hg : 1 ≤ g ∧ g ≤ 4) (hs : 0 ≤ s ∧ s ≤ 2) (hc : 0 ≤ c ∧ c ≤ 5) (hk : 0 ≤ k ∧ k ≤ 60) : Rel pa sp al (up co (16 * 12 + (g - 1) * 3 + s) c) (up da (16 * 12 + (g - 1) * 3 + s) k) mb dd n td (up co' (3 * (g - 1) + s) c) (up da' (3 * (g - 1) + s) k) mo := by
  obtain ⟨h1, ⟨b1, b2, b3, b4, b5, b6, b7⟩, ⟨m1, m2, m3⟩, hK, hR, hL, hs1, hs2⟩ := R
  refine ⟨h1, ⟨b1, b2, b3, up_bd b4 hc, up_bd b5 hk, b6, b7⟩, ⟨up_bd m1 hc, up_bd m2 hk, m3⟩, ?_, ?_, hL, hs1, hs2⟩
  · intro j j0 j1
    by_cases e : j = 3 * (g - 1) + s
    · have e2 : 192 + j = 16 * 12 + (g - 1) * 3 + s := by omega
      rw [e2, e, up_s, up_s, up_s, up_s]
      exact ⟨rfl, rfl⟩
    · rw [up_n co (by omega), up_n da (by omega), up_n co' e, up_n da' e]
      exact hK j j0 j1
  · intro p d p0 p1 d0 d1
    have hb := b6 (p * 16 + d)
    rcases hR p d p0 p1 d0 d1 with h | ⟨g1, e0, c0, c1, c2, t0, t1, t2⟩
    · exact Or.inl h
    · refine Or.inr ⟨g1, e0, ?_, ?_, ?_, ?_, ?_, ?_⟩
      · rw [up_n co (by omega)]; exact c0
      · rw [up_n co (by omega)]; exact c1
      · rw [up_n co (by omega)]; exact c2
      · rw [up_n da (by omega)]; exact t0
      · rw [up_n da (by omega)]; exact t1
      · rw [up_n da (by omega)]; exact t2
theorem re_setlen (R : Rel pa sp al co da mb dd n td co' da' mo) {g s c k : Int} (hg : 1 ≤ g ∧ g ≤ 4) (hs : 0 ≤ s ∧ s ≤ 2) (hc : 0 ≤ c ∧ c ≤ 5) (hk : 0 ≤ k ∧ k ≤ 60) : dAll (up da (16 * 12 + (g - 1) * 3 + s) k) 16 g = lenM (up da' (3 * (g - 1) + s) k) g :=
  dAll_len (re_set R hg hs hc hk).2.2.2.1 hg.1 hg.2
-- release
theorem re_release (R : Rel pa sp al co da mb dd n td co' da' mo) {p d : Int} (p0 : 0 ≤ p) (p1 : p < 16) (d0 : 0 ≤ d) (d1 : d < 16) : Rel pa sp al co da (up mb (p * 16 + d) 0) dd n td co' da' (up mo (7 * (16 * p + d)) (-1)) := by
  obtain ⟨h1, ⟨b1, b2, b3, b4, b5, b6, b7⟩, ⟨m1, m2, m3⟩, hK, hR, hL, hs1, hs2⟩ := R
  refine ⟨h1, ⟨b1, b2, b3, b4, b5, up_bd b6 ⟨by decide, by decide⟩, b7⟩, ⟨m1, m2, up_bd m3 ⟨by decide, by decide⟩⟩, hK, ?_, ?_, hs1, hs2⟩
  · intro p2 d2 q0 q1 r0 r1
    by_cases e : p2 = p ∧ d2 = d
    · obtain ⟨rfl, rfl⟩ := e
      exact Or.inl ⟨up_s _ _ _, up_s _ _ _⟩
    · have e2 : p2 * 16 + d2 ≠ p * 16 + d := fun hh => e ⟨by omega, by omega⟩
      unfold ReP
      rw [up_n mb e2, up_n mo (by omega), up_n mo (by omega), up_n mo (by omega), up_n mo (by omega), up_n mo (by omega), up_n mo (by omega), up_n mo (by omega)]
      exact hR p2 d2 q0 q1 r0 r1
  · intro p2 d2 q0 q1 r0 r1 h
    by_cases e : p2 = p ∧ d2 = d
    · obtain ⟨rfl, rfl⟩ := e
      exact absurd (up_s _ _ _) h
    · rw [up_n mb (fun hh => e ⟨by omega, by omega⟩)] at h
      exact hL p2 d2 q0 q1 r0 r1 h
-- days go by
theorem re_pass (R : Rel pa sp al co da mb dd n td co' da' mo) {k : Int} (hk : 0 ≤ k) (ht : td + k ≤ 900000) : Rel pa sp al co da mb dd n (td + k) co' da' mo := by
  obtain ⟨⟨h1, h2⟩, ⟨b1, b2, b3, b4, b5, b6, b7⟩, hM, hK, hR, hL, hs⟩ := R
  exact ⟨⟨h1, by omega⟩, ⟨b1, b2, b3, b4, b5, b6, fun j => by have := b7 j; omega⟩, hM, hK, hR, hL, hs⟩
theorem re_dead (R : Rel pa sp al co da mb dd n td co' da' mo) {p t : Int} (p0 : 0 ≤ p) (p1 : p < 16) (h : al p = 0) : wsM mo n p t = 0 := by
  obtain ⟨⟨h1, h2⟩, ⟨b1, b2, b3, b4, b5, b6, b7⟩, hM, hK, hR, hL, hs⟩ := R
  have e : ∀ j : Int, 0 ≤ j → j < (n : Int) → wsT mo p t j = -1 := by
    intro j j0 j1
    unfold wsT wnM
    rcases hR p j p0 p1 j0 (by omega) with q | q
    · exact if_pos q.2
    · exact absurd h (hL p j p0 p1 j0 (by omega) (by omega)).1
  have : ∀ k : Nat, k ≤ n → mxF (wsT mo p t) k = 0 := by
    intro k
    induction k with
    | zero => intro _; rfl
    | succ k ih =>
      intro hk
      rw [mxF_s, ih (by omega), e k (by omega) (by omega)]
      rfl
  exact this n (Nat.le_refl n)
theorem re_worn (R : Rel pa sp al co da mb dd n td co' da' mo) {k : Int} (hk : 0 ≤ k) : smF (waP co da mb dd td n k) n = smF (psF mo n td) k.toNat := by
  have e1 : smF (psF mo n td) k.toNat = smF (fun p => smF (fun j => icF mo n (td + j) p) k.toNat) n := smF_swap (fun p j => icF mo n (td + j) p) n k.toNat
  rw [e1]
  refine smF_cg (fun p p0 p1 => ?_)
  have hn := R.1.1
  show smF (neF (ca co da mb dd td n p)) (min k 180).toNat = smF (fun j => icF mo n (td + j) p) k.toNat
  have hj : ∀ j : Int, 0 ≤ j → icF mo n (td + j) p = neF (ca co da mb dd td n p) j := by
    intro j j0
    have e := re_ca R p0 (show p < 16 by omega) j0
    have e2 := ca_bd R.2.1.2.2.2.1 da mb dd td n p j
    unfold icF neF
    rw [← e]
    by_cases q : ca co da mb dd td n p j = 0
    · rw [if_neg (by omega), if_neg (by omega)]
    · rw [if_pos (by omega), if_pos q]
  rw [smF_cg (f := fun j => icF mo n (td + j) p) (g := neF (ca co da mb dd td n p)) (fun j h0 _ => hj j h0)]
  by_cases q : k ≤ 180
  · rw [Int.min_eq_left q]
  · rw [Int.min_eq_right (by omega)]
    refine (smF_cut2 (m := 180) (fun j h0 => ?_) (by omega)).symm
    unfold neF
    rw [ca_z R.2.1.2.2.2.2.1 R.2.1.2.2.2.2.2.2 n h0]
    rfl
theorem re_inc (R : Rel pa sp al co da mb dd n td co' da' mo) : smF al n - smF (cwF al co da mb dd td n 0) n = smF (icF mo n td) n := by
  refine smF_sub (fun p p0 p1 => ?_)
  have hn := R.1.1
  have e := re_ca0 R p0 (show p < 16 by omega)
  have e2 := ca_bd R.2.1.2.2.2.1 da mb dd td n p 0
  have e3 := R.2.1.2.2.1 p
  unfold cwF icF
  rw [← e]
  by_cases q : al p = 0
  · have e4 := re_dead R (t := td) p0 (show p < 16 by omega) q
    rw [if_neg (by omega), if_neg (by omega)]
    omega
  · by_cases q2 : ca co da mb dd td n p 0 = 0
    · rw [if_pos ⟨q, q2⟩, if_neg (by omega)]
      omega
    · rw [if_neg (by omega), if_pos (by omega)]
      omega
-- marriage
theorem wed_eq (sp : Int → Int) {a b : Int} (h : a ≠ b) : up (up (lvS (lvS sp a) b) a b) b a = up (up (up (lvS (up (lvS sp a) a (-1)) b) b (-1)) a b) b a := by
  funext j
  by_cases e1 : j = b
  · rw [e1, up_s, up_s]
  · rw [up_n _ e1, up_n _ e1]
    by_cases e2 : j = a
    · rw [e2, up_s, up_s]
    · rw [up_n _ e2, up_n _ e2, up_n _ e1]
      unfold lvS
      generalize (if sp a ≠ -1 then up sp (sp a) (-1) else sp) = X
      rw [up_n X (fun hh => h hh.symm)]
      split
      · by_cases e3 : j = X b
        · rw [e3, up_s, up_s]
        · rw [up_n _ e3, up_n _ e3, up_n X e2]
      · rw [up_n X e2]
theorem lvS_at (sp : Int → Int) (p j : Int) : lvS sp p j = if sp p ≠ -1 ∧ j = sp p then -1 else sp j := by
  unfold lvS
  by_cases e : sp p ≠ -1
  · rw [if_pos e]
    by_cases e2 : j = sp p
    · rw [if_pos ⟨e, e2⟩, e2, up_s]
    · rw [if_neg (fun hh => e2 hh.2), up_n _ e2]
  · rw [if_neg e, if_neg (fun hh => e hh.1)]
theorem re_marry (R : Rel pa sp al co da mb dd n td co' da' mo) {a b : Int} (a0 : 0 ≤ a) (a1 : a < (n : Int)) (b0 : 0 ≤ b) (b1 : b < (n : Int)) (hab : a ≠ b) (ha : al a ≠ 0) (hb : al b ≠ 0) (h6 : ¬ (sp a ≠ -1 ∧ al (sp a) ≠ 0)) (h7 : ¬ (sp b ≠ -1 ∧ al (sp b) ≠ 0)) : Rel pa (up (up (lvS (lvS sp a) b) a b) b a) al co da mb dd n td co' da' mo := by
  obtain ⟨⟨h1, h2⟩, ⟨k1, k2, k3, k4, k5, k6, k7⟩, hM, hK, hR, hL, hs1, hs2⟩ := R
  have ea : sp a ≠ a := fun hh => h6 ⟨by omega, by rw [hh]; exact ha⟩
  have eb : sp a ≠ b := fun hh => h6 ⟨by omega, by rw [hh]; exact hb⟩
  have fa : sp b ≠ a := fun hh => h7 ⟨by omega, by rw [hh]; exact ha⟩
  have fb : sp b ≠ b := fun hh => h7 ⟨by omega, by rw [hh]; exact hb⟩
  have bb1 := k2 a
  have bb2 := k2 b
  have val : ∀ j : Int, j ≠ a → j ≠ b → up (up (lvS (lvS sp a) b) a b) b a j = if (sp a ≠ -1 ∧ j = sp a) ∨ (sp b ≠ -1 ∧ j = sp b) then -1 else sp j := by
    intro j j1 j2
    have u1 : lvS sp a b = sp b := by rw [lvS_at, if_neg (fun hh => eb hh.2.symm)]
    rw [up_n _ j2, up_n _ j1, lvS_at (lvS sp a) b j, u1, lvS_at sp a j]
    by_cases q : sp b ≠ -1 ∧ j = sp b
    · rw [if_pos q, if_pos (Or.inr q)]
    · rw [if_neg q]
      by_cases q2 : sp a ≠ -1 ∧ j = sp a
      · rw [if_pos q2, if_pos (Or.inl q2)]
      · rw [if_neg q2, if_neg (fun hh => hh.elim q2 q)]
  have va : up (up (lvS (lvS sp a) b) a b) b a a = b := by rw [up_n _ hab, up_s]
  have vb : up (up (lvS (lvS sp a) b) a b) b a b = a := up_s _ _ _
  refine ⟨⟨h1, h2⟩, ⟨k1, up_bd (up_bd (lvS_bd (lvS_bd k2 a) b) ⟨by omega, by omega⟩) ⟨by omega, by omega⟩, k3, k4, k5, k6, k7⟩, hM, hK, hR, hL, ?_, ?_⟩
  · intro x x0 x1
    by_cases e1 : x = a
    · rw [e1, va]; exact b1
    · by_cases e2 : x = b
      · rw [e2, vb]; exact a1
      · rw [val x e1 e2]
        have := hs1 x x0 x1
        split <;> omega
  · intro x x0 x1 hx
    by_cases e1 : x = a
    · rw [e1, va, vb]
    · by_cases e2 : x = b
      · rw [e2, vb, va]
      · rw [val x e1 e2] at hx ⊢
        by_cases q : (sp a ≠ -1 ∧ x = sp a) ∨ (sp b ≠ -1 ∧ x = sp b)
        · rw [if_pos q] at hx
          omega
        · rw [if_neg q] at hx ⊢
          have y1 := hs1 x x0 x1
          have y2 := hs2 x x0 x1 hx
          have n1 : sp x ≠ a := fun hh => q (Or.inl ⟨by rw [← hh, y2]; omega, by rw [← hh, y2]⟩)
          have n2 : sp x ≠ b := fun hh => q (Or.inr ⟨by rw [← hh, y2]; omega, by rw [← hh, y2]⟩)
          rw [val (sp x) n1 n2]
          rw [if_neg (fun hh => ?_)]
          · exact y2
          · rcases hh with ⟨g1, g2⟩ | ⟨g1, g2⟩
            · have := hs2 a a0 a1 (by omega)
              rw [← g2, y2] at this
              exact e1 this
            · have := hs2 b b0 b1 (by omega)
              rw [← g2, y2] at this
              exact e2 this
-- a death
theorem enC_at (mb : Int → Int) (p : Int) (k : Nat) (j : Int) : enC mb p k j = if p * 16 ≤ j ∧ j < p * 16 + (k : Int) then 0 else mb j := by
  induction k with
  | zero => exact (if_neg (by omega)).symm
  | succ k ih =>
    show up (enC mb p k) (p * 16 + (k : Int)) 0 j = _
    by_cases e : j = p * 16 + (k : Int)
    · rw [e, up_s, if_pos (by omega)]
    · rw [up_n _ e, ih]
      by_cases q : p * 16 ≤ j ∧ j < p * 16 + (k : Int)
      · rw [if_pos q, if_pos (by omega)]
      · rw [if_neg q, if_neg (by omega)]
theorem bgC_at (al da dg mb : Int → Int) {d : Int} (hd0 : 0 ≤ d) (hd1 : d < 16) : ∀ k : Nat, ∀ i d2 : Int, 0 ≤ d2 → d2 < 16 → bgC al da dg mb d k (i * 16 + d2) = if d2 = d ∧ 0 ≤ i ∧ i < (k : Int) ∧ al i ≠ 0 ∧ 0 < dAll da 16 (dg i) then dg i else mb (i * 16 + d2) := by
  intro k
  induction k with
  | zero => intro i d2 _ _; exact (if_neg (by omega)).symm
  | succ k ih =>
    intro i d2 q0 q1
    have e1 := ih i d2 q0 q1
    by_cases c : al (k : Int) ≠ 0 ∧ 0 < dAll da 16 (dg (k : Int))
    · rw [bgC_y c]
      by_cases e : i = (k : Int) ∧ d2 = d
      · obtain ⟨rfl, rfl⟩ := e
        rw [up_s, if_pos ⟨rfl, by omega, by omega, c.1, c.2⟩]
      · rw [up_n _ (fun hh => e ⟨by omega, by omega⟩), e1]
        by_cases q : d2 = d ∧ 0 ≤ i ∧ i < (k : Int) ∧ al i ≠ 0 ∧ 0 < dAll da 16 (dg i)
        · rw [if_pos q, if_pos ⟨q.1, q.2.1, by omega, q.2.2.2⟩]
        · rw [if_neg q, if_neg (fun hh => q ⟨hh.1, hh.2.1, by have := hh.2.2.1; have := hh.1; omega, hh.2.2.2⟩)]
    · rw [bgC_n c, e1]
      by_cases q : d2 = d ∧ 0 ≤ i ∧ i < (k : Int) ∧ al i ≠ 0 ∧ 0 < dAll da 16 (dg i)
      · rw [if_pos q, if_pos ⟨q.1, q.2.1, by omega, q.2.2.2⟩]
      · rw [if_neg q, if_neg (fun hh => q ⟨hh.1, hh.2.1, by
          by_cases ek : i = (k : Int)
          · subst ek
            exact absurd hh.2.2.2 c
          · have := hh.2.2.1
            omega, hh.2.2.2⟩)]
theorem wrM_at (f : Int → Int) (k td : Int) (co da : Int → Int) (g : Int) :
    wrM f k td co da g k = td ∧ wrM f k td co da g (k + 1) = co (3 * (g - 1) + 0) ∧ wrM f k td co da g (k + 1 + 1) = co (3 * (g - 1) + 1) ∧ wrM f k td co da g (k + 1 + 2) = co (3 * (g - 1) + 2) ∧ wrM f k td co da g (k + 4) = da (3 * (g - 1) + 0) ∧ wrM f k td co da g (k + 4 + 1) = da (3 * (g - 1) + 1) ∧ wrM f k td co da g (k + 4 + 2) = da (3 * (g - 1) + 2) := by
  unfold wrM
  refine ⟨?_, ?_, ?_, ?_, ?_, ?_, ?_⟩
  · rw [up_n _ (by omega), up_n _ (by omega), up_n _ (by omega), up_n _ (by omega), up_n _ (by omega), up_n _ (by omega), up_s]
  · rw [up_n _ (by omega), up_n _ (by omega), up_n _ (by omega), up_n _ (by omega), up_n _ (by omega), up_s]
  · rw [up_n _ (by omega), up_n _ (by omega), up_n _ (by omega), up_s]
  · rw [up_n _ (by omega), up_s]
  · rw [up_n _ (by omega), up_n _ (by omega), up_n _ (by omega), up_n _ (by omega), up_s]
  · rw [up_n _ (by omega), up_n _ (by omega), up_s]
  · rw [up_s]
theorem wrM_out (f : Int → Int) (k td : Int) (co da : Int → Int) (g : Int) {j : Int} (h : j < k ∨ k + 6 < j) : wrM f k td co da g j = f j := by
  unfold wrM
  rw [up_n _ (by omega), up_n _ (by omega), up_n _ (by omega), up_n _ (by omega), up_n _ (by omega), up_n _ (by omega), up_n _ (by omega)]
theorem moF_out (al st co da : Int → Int) (td : Int) {d : Int} (hd0 : 0 ≤ d) (hd1 : d < 16) (mo : Int → Int) : ∀ k : Nat, ∀ i d2 s : Int, 0 ≤ d2 → d2 < 16 → 0 ≤ s → s ≤ 6 → (d2 ≠ d ∨ i < 0 ∨ (k : Int) ≤ i ∨ ¬ imP al st da d i) → moF al st co da td d mo k (7 * (16 * i + d2) + s) = mo (7 * (16 * i + d2) + s) := by
  intro k
  induction k with
  | zero => intro i d2 s _ _ _ _ _; rfl
  | succ k ih =>
    intro i d2 s q0 q1 s0 s1 h
    by_cases c : imP al st da d (k : Int)
    · rw [moF_y c, wrM_out]
      · exact ih i d2 s q0 q1 s0 s1 (by
          rcases h with h | h | h | h
          · exact Or.inl h
          · exact Or.inr (Or.inl h)
          · exact Or.inr (Or.inr (Or.inl (by omega)))
          · exact Or.inr (Or.inr (Or.inr h)))
      · rcases h with h | h | h | h
        · omega
        · omega
        · omega
        · by_cases e : i = (k : Int)
          · subst e
            exact absurd c h
          · omega
    · rw [moF_n c]
      by_cases e : i = (k : Int)
      · subst e
        exact ih _ d2 s q0 q1 s0 s1 (Or.inr (Or.inr (Or.inr c)))
      · exact ih i d2 s q0 q1 s0 s1 (by
          rcases h with h | h | h | h
          · exact Or.inl h
          · exact Or.inr (Or.inl h)
          · exact Or.inr (Or.inr (Or.inl (by omega)))
          · exact Or.inr (Or.inr (Or.inr h)))
theorem moF_in (al st co da : Int → Int) (td : Int) {d : Int} (hd0 : 0 ≤ d) (hd1 : d < 16) (mo : Int → Int) : ∀ k : Nat, ∀ i s : Int, 0 ≤ i → i < (k : Int) → imP al st da d i → 0 ≤ s → s ≤ 6 → ∃ f : Int → Int, moF al st co da td d mo k (7 * (16 * i + d) + s) = wrM f (7 * (16 * i + d)) td co da (st i) (7 * (16 * i + d) + s) := by
  intro k
  induction k with
  | zero => intro i s _ h; omega
  | succ k ih =>
    intro i s i0 i1 hi s0 s1
    by_cases e : i = (k : Int)
    · subst e
      rw [moF_y hi]
      exact ⟨_, rfl⟩
    · obtain ⟨f, hf⟩ := ih i s i0 (by omega) hi s0 s1
      refine ⟨f, ?_⟩
      by_cases c : imP al st da d (k : Int)
      · rw [moF_y c, wrM_out _ _ _ _ _ _ (by omega)]
        exact hf
      · rw [moF_n c]
        exact hf
theorem enM_at (mo : Int → Int) {d : Int} : ∀ k : Nat, k ≤ 16 → ∀ i d2 s : Int, 0 ≤ d2 → d2 < 16 → 0 ≤ s → s ≤ 6 → enM mo d k (7 * (16 * i + d2) + s) = if s = 0 ∧ i = d ∧ d2 < (k : Int) then -1 else mo (7 * (16 * i + d2) + s) := by
  intro k
  induction k with
  | zero => intro _ i d2 s _ _ _ _; exact (if_neg (by omega)).symm
  | succ k ih =>
    intro hk i d2 s q0 q1 s0 s1
    show up (enM mo d k) (7 * (16 * d + (k : Int))) (-1) _ = _
    by_cases e : s = 0 ∧ i = d ∧ d2 = (k : Int)
    · obtain ⟨rfl, rfl, rfl⟩ := e
      rw [show 7 * (16 * i + (k : Int)) + 0 = 7 * (16 * i + (k : Int)) by omega, up_s, if_pos ⟨rfl, rfl, by omega⟩]
    · rw [up_n _ (fun hh => e ⟨by omega, by omega, by omega⟩), ih (by omega) i d2 s q0 q1 s0 s1]
      by_cases q : s = 0 ∧ i = d ∧ d2 < (k : Int)
      · rw [if_pos q, if_pos (by omega)]
      · rw [if_neg q, if_neg (by omega)]
theorem enM_bd {mo : Int → Int} (h : ∀ j : Int, -1 ≤ mo j ∧ mo j ≤ 1000000) (d : Int) (k : Nat) : ∀ j : Int, -1 ≤ enM mo d k j ∧ enM mo d k j ≤ 1000000 := by
  induction k with
  | zero => exact h
  | succ k ih => exact up_bd ih ⟨by decide, by decide⟩
theorem dAll_cp (da : Int → Int) {d g : Int} (hd : d < 16) (hd0 : 0 ≤ d) : dAll (cpZ da da (16 * 12 + (1 - 1) * 3 + 0) (d * 12 + (1 - 1) * 3 + 0) 12) 16 g = dAll da 16 g := by
  unfold dAll cpZ
  by_cases e : g < 1 ∨ 4 < g
  · rw [if_pos e, if_pos e]
  · rw [if_neg e, if_neg e, if_neg (by omega), if_neg (by omega), if_neg (by omega)]
theorem re_im2 (R : Rel pa sp al co da mb dd n td co' da' mo) {st : Int → Int} (hst : ∀ j : Int, -1 ≤ st j ∧ st j ≤ 4) {p d : Int} (p0 : 0 ≤ p) (p1 : p < (n : Int)) (d0 : 0 ≤ d) (d1 : d < (n : Int)) : (up al d 0 p ≠ 0 ∧ 0 < dAll (cpZ da da (16 * 12 + (1 - 1) * 3 + 0) (d * 12 + (1 - 1) * 3 + 0) 12) 16 (dgF pa sp n d p)) ↔ imP al (goF pa sp n st d) da' d p := by
  have hn := R.1.1
  rw [dAll_cp da (by omega) d0]
  by_cases e : p = d
  · subst e
    rw [up_s]
    exact ⟨fun h => absurd rfl h.1, fun h => absurd rfl h.1⟩
  · rw [up_n al e]
    exact re_im R hst p0 p1 d0 d1
theorem re_wb2 (R : Rel pa sp al co da mb dd n td co' da' mo) {st : Int → Int} (hst : ∀ j : Int, -1 ≤ st j ∧ st j ≤ 4) {d : Int} (d0 : 0 ≤ d) (d1 : d < (n : Int)) : smF (wbF (up al d 0) (cpZ da da (16 * 12 + (1 - 1) * 3 + 0) (d * 12 + (1 - 1) * 3 + 0) 12) (dgF pa sp n d)) n = smF (imF al (goF pa sp n st d) da' d) n := smF_cg (fun j h0 h1 => by
  have := re_im2 R hst h0 h1 d0 d1
  unfold wbF imF
  by_cases e : up al d 0 j ≠ 0 ∧ 0 < dAll (cpZ da da (16 * 12 + (1 - 1) * 3 + 0) (d * 12 + (1 - 1) * 3 + 0) 12) 16 (dgF pa sp n d j)
  · rw [if_pos e, if_pos (this.mp e)]
  · rw [if_neg e, if_neg (fun hh => e (this.mpr hh))])
theorem re_die (R : Rel pa sp al co da mb dd n td co' da' mo) {st : Int → Int} (hst : ∀ j : Int, -1 ≤ st j ∧ st j ≤ 4) {d : Int} (d0 : 0 ≤ d) (d1 : d < (n : Int)) (ha : al d ≠ 0) :
    Rel pa sp (up al d 0) (cpZ co co (16 * 12 + (1 - 1) * 3 + 0) (d * 12 + (1 - 1) * 3 + 0) 12) (cpZ da da (16 * 12 + (1 - 1) * 3 + 0) (d * 12 + (1 - 1) * 3 + 0) 12) (bgC (up al d 0) (cpZ da da (16 * 12 + (1 - 1) * 3 + 0) (d * 12 + (1 - 1) * 3 + 0) 12) (dgF pa sp n d) (enC mb d 16) d n) (up dd d td) n td co' da' (enM (moF al (goF pa sp n st d) co' da' td d mo n) d 16) := by
  have him := fun p p0 p1 => re_im2 R hst (p := p) p0 p1 d0 d1
  have hgo := fun p p0 p1 => dg_go1 pa sp st d0 d1 (b := p) p0 p1
  obtain ⟨⟨h1, h2⟩, ⟨b1, b2, b3, b4, b5, b6, b7⟩, ⟨m1, m2, m3⟩, hK, hR, hL, hs⟩ := R
  have htd1 : 0 ≤ td ∧ td ≤ 1000000 := by omega
  have hgb := goF_bd hst pa sp n d
  have mbv : ∀ i d2 : Int, 0 ≤ i → i < 16 → 0 ≤ d2 → d2 < 16 → bgC (up al d 0) (cpZ da da (16 * 12 + (1 - 1) * 3 + 0) (d * 12 + (1 - 1) * 3 + 0) 12) (dgF pa sp n d) (enC mb d 16) d n (i * 16 + d2) = if d2 = d ∧ i < (n : Int) ∧ imP al (goF pa sp n st d) da' d i then dgF pa sp n d i else if i = d then 0 else mb (i * 16 + d2) := by
    intro i d2 i0 i1 q0 q1
    rw [bgC_at (up al d 0) _ (dgF pa sp n d) (enC mb d 16) d0 (by omega) n i d2 q0 q1, enC_at]
    by_cases q : d2 = d ∧ i < (n : Int) ∧ imP al (goF pa sp n st d) da' d i
    · rw [if_pos q, if_pos ⟨q.1, i0, q.2.1, (him i i0 q.2.1).mpr q.2.2⟩]
    · rw [if_neg q, if_neg (fun hh => q ⟨hh.1, hh.2.2.1, (him i i0 hh.2.2.1).mp hh.2.2.2⟩)]
      by_cases e : i = d
      · rw [if_pos e, if_pos (by omega)]
      · rw [if_neg e, if_neg (by omega)]
  have zero : ∀ i : Int, 0 ≤ i → i < 16 → mb (i * 16 + d) = 0 := by
    intro i i0 i1
    by_cases e : mb (i * 16 + d) = 0
    · exact e
    · exact absurd (hL i d i0 i1 d0 (by omega) e).2.1 ha
  refine ⟨⟨h1, h2⟩, ⟨b1, b2, up_bd b3 ⟨by decide, by decide⟩, cpZ_bd b4 b4 _ _ _, cpZ_bd b5 b5 _ _ _, bgC_bd (enC_bd b6 d 16) (dgF_bd pa sp n d) n, up_bd b7 ⟨by omega, by omega⟩⟩, ⟨m1, m2, enM_bd (moF_bd m3 htd1 m1 m2 n) d 16⟩, ?_, ?_, ?_, hs⟩
  · intro j j0 j1
    unfold cpZ
    rw [if_neg (by omega), if_neg (by omega)]
    exact hK j j0 j1
  · intro i d2 i0 i1 q0 q1
    have em := enM_at (moF al (goF pa sp n st d) co' da' td d mo n) (d := d) 16 (Nat.le_refl 16) i d2
    unfold ReP
    rw [mbv i d2 i0 i1 q0 q1]
    have e0 := em 0 q0 q1 (by omega) (by omega)
    rw [Int.add_zero] at e0
    by_cases eid : i = d
    · have hni : ¬ imP al (goF pa sp n st d) da' d i := fun hh => hh.1 eid
      refine Or.inl ⟨?_, ?_⟩
      · rw [if_neg (fun hh => hni hh.2.2), if_pos eid]
      · rw [e0, if_pos ⟨rfl, eid, by omega⟩]
    · have ex : ∀ s : Int, 0 ≤ s → s ≤ 6 → enM (moF al (goF pa sp n st d) co' da' td d mo n) d 16 (7 * (16 * i + d2) + s) = moF al (goF pa sp n st d) co' da' td d mo n (7 * (16 * i + d2) + s) := fun s s0 s1 => by
        rw [em s q0 q1 s0 s1, if_neg (fun hh => eid hh.2.1)]
      by_cases q : d2 = d ∧ i < (n : Int) ∧ imP al (goF pa sp n st d) da' d i
      · obtain ⟨rfl, q2, q3⟩ := q
        have hg := (hgo i i0 q2).2.1 q3.2.2.1
        have hgi := hgb i
        have hgp := q3.2.2.1
        rw [if_pos ⟨rfl, q2, q3⟩]
        have wr : ∀ s : Int, 0 ≤ s → s ≤ 6 → ∃ f : Int → Int, enM (moF al (goF pa sp n st d2) co' da' td d2 mo n) d2 16 (7 * (16 * i + d2) + s) = wrM f (7 * (16 * i + d2)) td co' da' (goF pa sp n st d2 i) (7 * (16 * i + d2) + s) := fun s s0 s1 => by
          rw [ex s s0 s1]
          exact moF_in al (goF pa sp n st d2) co' da' td d0 (by omega) mo n i s i0 q2 q3 s0 s1
        have cpv : ∀ (f f' : Int → Int) (_ : ∀ j : Int, 0 ≤ j → j < 12 → f (192 + j) = f' j) (s : Int), 0 ≤ s → s ≤ 2 → cpZ f f (16 * 12 + (1 - 1) * 3 + 0) (d2 * 12 + (1 - 1) * 3 + 0) 12 (d2 * 12 + (dgF pa sp n d2 i - 1) * 3 + s) = f' (3 * (goF pa sp n st d2 i - 1) + s) := by
          intro f f' hf s s0 s1
          unfold cpZ
          rw [if_pos (by omega), ← hf _ (by omega) (by omega)]
          congr 1
          omega
        have cv := cpv co co' (fun j j0 j1 => (hK j j0 j1).1)
        have dv := cpv da da' (fun j j0 j1 => (hK j j0 j1).2)
        refine Or.inr ⟨by omega, ?_, ?_, ?_, ?_, ?_, ?_, ?_⟩
        · obtain ⟨f, hf⟩ := wr 0 (by omega) (by omega)
          rw [Int.add_zero] at hf
          rw [hf, (wrM_at _ _ _ _ _ _).1, up_s]
        · obtain ⟨f, hf⟩ := wr 1 (by omega) (by omega)
          rw [hf, (wrM_at _ _ _ _ _ _).2.1, cv 0 (by omega) (by omega)]
        · obtain ⟨f, hf⟩ := wr 2 (by omega) (by omega)
          rw [show 7 * (16 * i + d2) + 1 + 1 = 7 * (16 * i + d2) + 2 by omega, hf, show 7 * (16 * i + d2) + 2 = 7 * (16 * i + d2) + 1 + 1 by omega, (wrM_at _ _ _ _ _ _).2.2.1, cv 1 (by omega) (by omega)]
        · obtain ⟨f, hf⟩ := wr 3 (by omega) (by omega)
          rw [show 7 * (16 * i + d2) + 1 + 2 = 7 * (16 * i + d2) + 3 by omega, hf, show 7 * (16 * i + d2) + 3 = 7 * (16 * i + d2) + 1 + 2 by omega, (wrM_at _ _ _ _ _ _).2.2.2.1, cv 2 (by omega) (by omega)]
        · obtain ⟨f, hf⟩ := wr 4 (by omega) (by omega)
          rw [hf, (wrM_at _ _ _ _ _ _).2.2.2.2.1, dv 0 (by omega) (by omega)]
        · obtain ⟨f, hf⟩ := wr 5 (by omega) (by omega)
          rw [show 7 * (16 * i + d2) + 4 + 1 = 7 * (16 * i + d2) + 5 by omega, hf, show 7 * (16 * i + d2) + 5 = 7 * (16 * i + d2) + 4 + 1 by omega, (wrM_at _ _ _ _ _ _).2.2.2.2.2.1, dv 1 (by omega) (by omega)]
        · obtain ⟨f, hf⟩ := wr 6 (by omega) (by omega)
          rw [show 7 * (16 * i + d2) + 4 + 2 = 7 * (16 * i + d2) + 6 by omega, hf, show 7 * (16 * i + d2) + 6 = 7 * (16 * i + d2) + 4 + 2 by omega, (wrM_at _ _ _ _ _ _).2.2.2.2.2.2, dv 2 (by omega) (by omega)]
      · rw [if_neg q, if_neg eid]
        have ey : ∀ s : Int, 0 ≤ s → s ≤ 6 → enM (moF al (goF pa sp n st d) co' da' td d mo n) d 16 (7 * (16 * i + d2) + s) = mo (7 * (16 * i + d2) + s) := fun s s0 s1 => by
          rw [ex s s0 s1]
          refine moF_out al (goF pa sp n st d) co' da' td d0 (by omega) mo n i d2 s q0 q1 s0 s1 ?_
          by_cases w1 : d2 = d
          · by_cases w2 : i < (n : Int)
            · exact Or.inr (Or.inr (Or.inr (fun hh => q ⟨w1, w2, hh⟩)))
            · exact Or.inr (Or.inr (Or.inl (by omega)))
          · exact Or.inl w1
        have y0 := ey 0 (by omega) (by omega)
        rw [Int.add_zero] at y0
        rcases hR i d2 i0 i1 q0 q1 with hh | ⟨g1, w0, c0, c1, c2, t0, t1, t2⟩
        · refine Or.inl ⟨hh.1, ?_⟩
          rw [y0]
          exact hh.2
        · have hd2 : d2 ≠ d := fun hh => by
            have := zero i i0 i1
            rw [hh] at g1
            omega
          have hmb := b6 (i * 16 + d2)
          have keep : ∀ (f : Int → Int) (s : Int), 0 ≤ s → s ≤ 2 → cpZ f f (16 * 12 + (1 - 1) * 3 + 0) (d * 12 + (1 - 1) * 3 + 0) 12 (d2 * 12 + (mb (i * 16 + d2) - 1) * 3 + s) = f (d2 * 12 + (mb (i * 16 + d2) - 1) * 3 + s) := fun f s s0 s1 => by
            unfold cpZ
            rw [if_neg (by omega)]
          refine Or.inr ⟨g1, ?_, ?_, ?_, ?_, ?_, ?_, ?_⟩
          · rw [y0, up_n dd hd2]; exact w0
          · rw [ey 1 (by omega) (by omega), keep co 0 (by omega) (by omega)]; exact c0
          · rw [show 7 * (16 * i + d2) + 1 + 1 = 7 * (16 * i + d2) + 2 by omega, ey 2 (by omega) (by omega), keep co 1 (by omega) (by omega), show 7 * (16 * i + d2) + 2 = 7 * (16 * i + d2) + 1 + 1 by omega]; exact c1
          · rw [show 7 * (16 * i + d2) + 1 + 2 = 7 * (16 * i + d2) + 3 by omega, ey 3 (by omega) (by omega), keep co 2 (by omega) (by omega), show 7 * (16 * i + d2) + 3 = 7 * (16 * i + d2) + 1 + 2 by omega]; exact c2
          · rw [ey 4 (by omega) (by omega), keep da 0 (by omega) (by omega)]; exact t0
          · rw [show 7 * (16 * i + d2) + 4 + 1 = 7 * (16 * i + d2) + 5 by omega, ey 5 (by omega) (by omega), keep da 1 (by omega) (by omega), show 7 * (16 * i + d2) + 5 = 7 * (16 * i + d2) + 4 + 1 by omega]; exact t1
          · rw [show 7 * (16 * i + d2) + 4 + 2 = 7 * (16 * i + d2) + 6 by omega, ey 6 (by omega) (by omega), keep da 2 (by omega) (by omega), show 7 * (16 * i + d2) + 6 = 7 * (16 * i + d2) + 4 + 2 by omega]; exact t2
  · intro i d2 i0 i1 q0 q1 hne
    rw [mbv i d2 i0 i1 q0 q1] at hne
    by_cases q : d2 = d ∧ i < (n : Int) ∧ imP al (goF pa sp n st d) da' d i
    · obtain ⟨rfl, q2, q3⟩ := q
      rw [up_n al q3.1, up_s]
      exact ⟨q3.2.1, rfl, q2, d1⟩
    · rw [if_neg q] at hne
      by_cases e : i = d
      · rw [if_pos e] at hne
        exact absurd rfl hne
      · rw [if_neg e] at hne
        obtain ⟨w1, w2, w3, w4⟩ := hL i d2 i0 i1 q0 q1 hne
        have hd2 : d2 ≠ d := fun hh => ha (by rw [← hh]; exact w2)
        rw [up_n al e, up_n al hd2]
        exact ⟨w1, w2, w3, w4⟩
end REL3
