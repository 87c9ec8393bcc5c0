/-! class and reference: the same in whole numbers -/
theorem mxF_nn (f : Int → Int) (k : Nat) : 0 ≤ mxF f k := by
  induction k with
  | zero => exact Int.le_refl 0
  | succ k ih =>
    rw [mxF_s]
    omega
theorem mxF_z {f : Int → Int} {k : Nat} (h : ∀ j : Int, 0 ≤ j → j < (k : Int) → f j = 0) : mxF f k = 0 := by
  induction k with
  | zero => rfl
  | succ k ih =>
    rw [mxF_s, ih (fun j h0 h1 => h j h0 (by omega)), h k (by omega) (by omega)]
    rfl
theorem mxF_ge {f : Int → Int} {k : Nat} {j : Int} (h0 : 0 ≤ j) (h1 : j < (k : Int)) : f j ≤ mxF f k := by
  induction k with
  | zero => omega
  | succ k ih =>
    rw [mxF_s]
    by_cases e : j = (k : Int)
    · subst e
      omega
    · have := ih (by omega)
      omega
theorem mxF_le {f : Int → Int} {k : Nat} {B : Int} (hB : 0 ≤ B) (h : ∀ j : Int, 0 ≤ j → j < (k : Int) → f j ≤ B) : mxF f k ≤ B := by
  induction k with
  | zero => exact hB
  | succ k ih =>
    have h1 := ih (fun j h0 h1 => h j h0 (by omega))
    have h2 := h k (by omega) (by omega)
    rw [mxF_s]
    omega
theorem smF_cut {f : Int → Int} {m : Nat} (h : ∀ j : Int, (m : Int) ≤ j → f j = 0) : ∀ k : Nat, smF f (m + k) = smF f m := by
  intro k
  induction k with
  | zero => rfl
  | succ k ih =>
    show smF f (m + k) + f ((m + k : Nat) : Int) = _
    rw [ih, h _ (by omega)]
    omega
theorem smF_cut2 {f : Int → Int} {m k : Nat} (h : ∀ j : Int, (m : Int) ≤ j → f j = 0) (hk : m ≤ k) : smF f k = smF f m := by
  have := smF_cut h (k - m)
  rw [show m + (k - m) = k by omega] at this
  exact this
theorem smF_zero {f : Int → Int} {k : Nat} (h : ∀ j : Int, 0 ≤ j → j < (k : Int) → f j = 0) : smF f k = 0 := by
  induction k with
  | zero => rfl
  | succ k ih =>
    rw [smF_s, ih (fun j h0 h1 => h j h0 (by omega)), h k (by omega) (by omega)]
    rfl
theorem smF_add (f g : Int → Int) (k : Nat) : smF (fun j => f j + g j) k = smF f k + smF g k := by
  induction k with
  | zero => rfl
  | succ k ih =>
    rw [smF_s, smF_s, smF_s, ih]
    omega
theorem smF_swap (F : Int → Int → Int) (n k : Nat) : smF (fun j => smF (fun p => F p j) n) k = smF (fun p => smF (fun j => F p j) k) n := by
  induction k with
  | zero => exact (smF_zero (fun j _ _ => rfl)).symm
  | succ k ih =>
    rw [smF_s, ih, ← smF_add]
    rfl
theorem smF_sub {f g h : Int → Int} {k : Nat} (e : ∀ j : Int, 0 ≤ j → j < (k : Int) → f j - g j = h j) : smF f k - smF g k = smF h k := by
  induction k with
  | zero => rfl
  | succ k ih =>
    have h1 := ih (fun j h0 h1 => e j h0 (by omega))
    have h2 := e k (by omega) (by omega)
    rw [smF_s, smF_s, smF_s]
    omega
theorem fst0_cg {f g : Int → Int} {B : Int} (h : ∀ j : Int, 0 ≤ j → j < B → f j = g j) (hB : 0 < B) : ∀ (m : Nat) (k : Int), 0 ≤ k → k + (m : Int) ≤ B → fst0 f m k = fst0 g m k := by
  intro m
  induction m with
  | zero => intro k _ _; rfl
  | succ m ih =>
    intro k h0 h1
    rw [fst0_s, fst0_s, h k h0 (by omega), h 0 (by omega) hB, ih (k + 1) (by omega) (by omega)]
theorem flD_cg {f g : Int → Int} (h : ∀ j : Int, 0 ≤ j → j < 180 → f j = g j) : flD f = flD g := by
  unfold flD
  rw [h 0 (by decide) (by decide), fst0_cg h (by decide) 179 1 (by decide) (by decide)]
-- the reference's degrees are the class's
def RD (n : Nat) (s : Int) (dg st : Int → Int) : Prop := ∀ t : Int, 0 ≤ t → t < (n : Int) → (t = s → dg t = 0 ∧ st t = 0) ∧ (t ≠ s → (dg t = 0 ∧ st t = -1) ∨ (1 ≤ dg t ∧ dg t = st t))
theorem RD_0 (n : Nat) (s : Int) (st : Int → Int) : RD n s (cst 0) (stI st s n) := by
  intro t h0 h1
  refine ⟨fun e => ⟨rfl, ?_⟩, fun e => Or.inl ⟨rfl, ?_⟩⟩
  · unfold stI
    rw [if_pos ⟨h0, h1⟩, if_pos e]
  · unfold stI
    rw [if_pos ⟨h0, h1⟩, if_neg e]
theorem RD_step {pa sp : Int → Int} {n : Nat} {s : Int} {dg st : Int → Int} (h : RD n s dg st) (a g : Int) (hg : 1 ≤ g) : RD n s (rchF pa sp dg s a g n) (msB pa sp st a (g - 1) n) := by
  intro t h0 h1
  obtain ⟨e1, e2⟩ := h t h0 h1
  refine ⟨fun e => ?_, fun e => ?_⟩
  · obtain ⟨q1, q2⟩ := e1 e
    unfold rchF msB
    rw [if_neg (fun hh => hh.2.2.1 e), if_neg (fun hh => by have := hh.2.2.1; omega)]
    exact ⟨q1, q2⟩
  · unfold rchF msB
    by_cases hs : stp pa sp a t
    · rcases e2 e with ⟨q1, q2⟩ | ⟨q1, q2⟩
      · rw [if_pos ⟨h0, h1, e, q1, hs⟩, if_pos ⟨h0, h1, q2, hs⟩]
        exact Or.inr ⟨hg, by omega⟩
      · rw [if_neg (fun hh => by have := hh.2.2.2.1; omega), if_neg (fun hh => by have := hh.2.2.1; omega)]
        exact Or.inr ⟨q1, q2⟩
    · rw [if_neg (fun hh => hs hh.2.2.2.2), if_neg (fun hh => hs hh.2.2.2)]
      exact e2 e
theorem RD_round {pa sp : Int → Int} {n : Nat} {s : Int} {dg st : Int → Int} (h : RD n s dg st) (g : Int) (hg : 2 ≤ g) : ∀ i : Nat, i ≤ n → RD n s (rdF pa sp n s g dg i) (mdF pa sp n (g - 1) st i) := by
  intro i
  induction i with
  | zero => exact fun _ => h
  | succ i ih =>
    intro hi
    have h1 := ih (by omega)
    have h2 := h1 (i : Int) (by omega) (by omega)
    by_cases e : rdF pa sp n s g dg i (i : Int) = g - 1
    · have e2 : mdF pa sp n (g - 1) st i (i : Int) = g - 1 := by
        by_cases es : (i : Int) = s
        · have := h2.1 es
          omega
        · rcases h2.2 es with ⟨q1, q2⟩ | ⟨q1, q2⟩ <;> omega
      rw [rdF_y e, mdF_y e2]
      exact RD_step h1 (i : Int) g (by omega)
    · have e2 : mdF pa sp n (g - 1) st i (i : Int) ≠ g - 1 := by
        by_cases es : (i : Int) = s
        · have := h2.1 es
          omega
        · rcases h2.2 es with ⟨q1, q2⟩ | ⟨q1, q2⟩ <;> omega
      rw [rdF_n e, mdF_n e2]
      exact h1
theorem md0_lo {pa sp st : Int → Int} {n : Nat} {s : Int} (hs : 0 ≤ s) : ∀ i : Nat, i ≤ n → (i : Int) ≤ s → mdF pa sp n 0 (stI st s n) i = stI st s n := by
  intro i
  induction i with
  | zero => intro _ _; rfl
  | succ i ih =>
    intro h1 h2
    have e := ih (by omega) (by omega)
    rw [mdF_n, e]
    rw [e]
    unfold stI
    rw [if_pos ⟨by omega, by omega⟩, if_neg (by omega)]
    decide
theorem md0_hi {pa sp st : Int → Int} {n : Nat} {s : Int} (hs : 0 ≤ s) (hn : s < (n : Int)) : ∀ i : Nat, i ≤ n → s < (i : Int) → mdF pa sp n 0 (stI st s n) i = msB pa sp (stI st s n) s 0 n := by
  intro i
  induction i with
  | zero => intro _ h; omega
  | succ i ih =>
    intro h1 h2
    by_cases e : (i : Int) = s
    · have e0 := md0_lo (pa := pa) (sp := sp) (st := st) (n := n) hs i (by omega) (by omega)
      rw [mdF_y, e0, e]
      rw [e0]
      unfold stI
      rw [if_pos ⟨by omega, by omega⟩, if_pos e]
    · have e1 := ih (by omega) (by omega)
      rw [mdF_n, e1]
      rw [e1]
      have key : ∀ (P : Prop) [Decidable P], (if P then (0 + 1 : Int) else stI st s n (i : Int)) ≠ 0 := by
        intro P _
        split
        · exact (by decide : (0 + 1 : Int) ≠ 0)
        · unfold stI
          rw [if_pos ⟨by omega, by omega⟩, if_neg e]
          decide
      exact key _
theorem RD_all (pa sp : Int → Int) {n : Nat} (st : Int → Int) {s : Int} (h0 : 0 ≤ s) (h1 : s < (n : Int)) : RD n s (dgF pa sp n s) (goF pa sp n st s) := by
  have e1 : RD n s (dg1 pa sp n s) (go1 pa sp n st s) := by
    have := RD_step (pa := pa) (sp := sp) (RD_0 n s st) s 1 (by decide)
    unfold go1 go0
    rw [md0_hi h0 h1 n (Nat.le_refl n) h1]
    exact this
  have e2 : RD n s (dg2 pa sp n s) (go2 pa sp n st s) := RD_round e1 2 (by decide) n (Nat.le_refl n)
  have e3 : RD n s (dg3 pa sp n s) (go3 pa sp n st s) := RD_round e2 3 (by decide) n (Nat.le_refl n)
  exact RD_round e3 4 (by decide) n (Nat.le_refl n)
theorem dg_go (pa sp : Int → Int) {n : Nat} (st : Int → Int) {a b : Int} (h0 : 0 ≤ a) (h1 : a < (n : Int)) (h2 : 0 ≤ b) (h3 : b < (n : Int)) : dgF pa sp n a b = max 0 (goF pa sp n st a b) := by
  obtain ⟨e1, e2⟩ := RD_all pa sp st h0 h1 b h2 h3
  by_cases e : b = a
  · have := e1 e
    omega
  · rcases e2 e with q | q <;> omega
theorem dg_go1 (pa sp : Int → Int) {n : Nat} (st : Int → Int) {a b : Int} (h0 : 0 ≤ a) (h1 : a < (n : Int)) (h2 : 0 ≤ b) (h3 : b < (n : Int)) : (b = a → goF pa sp n st a b = 0) ∧ (0 < goF pa sp n st a b → dgF pa sp n a b = goF pa sp n st a b ∧ b ≠ a) ∧ (goF pa sp n st a b ≤ 0 → dgF pa sp n a b = 0) := by
  obtain ⟨e1, e2⟩ := RD_all pa sp st h0 h1 b h2 h3
  by_cases e : b = a
  · have := e1 e
    refine ⟨fun _ => this.2, fun h => by omega, fun _ => this.1⟩
  · refine ⟨fun h => absurd h e, fun h => ⟨?_, e⟩, fun h => ?_⟩ <;> (rcases e2 e with q | q <;> omega)
-- walks
def rN (pa sp : Int → Int) (n : Nat) : Nat → Int → Int → Prop
  | 0, a, b => a = b
  | k + 1, a, b => ∃ c : Int, 0 ≤ c ∧ c < (n : Int) ∧ rN pa sp n k a c ∧ stp pa sp c b
theorem rN_front {pa sp : Int → Int} {n : Nat} : ∀ (k : Nat) {a c b : Int}, 0 ≤ c → c < (n : Int) → 0 ≤ b → b < (n : Int) → 0 ≤ a → a < (n : Int) → stp pa sp a c → rN pa sp n k c b → rN pa sp n (k + 1) a b := by
  intro k
  induction k with
  | zero =>
    intro a c b c0 c1 b0 b1 a0 a1 h1 h2
    have h2 : c = b := h2
    subst h2
    exact ⟨a, a0, a1, rfl, h1⟩
  | succ k ih =>
    intro a c b c0 c1 b0 b1 a0 a1 h1 h2
    obtain ⟨x, x0, x1, x2, x3⟩ := h2
    exact ⟨x, x0, x1, ih c0 c1 x0 x1 a0 a1 h1 x2, x3⟩
theorem rN_symm {pa sp : Int → Int} {n : Nat} (hs : ∀ a b : Int, 0 ≤ a → a < (n : Int) → 0 ≤ b → b < (n : Int) → stp pa sp a b → stp pa sp b a) : ∀ (k : Nat) {a b : Int}, 0 ≤ a → a < (n : Int) → 0 ≤ b → b < (n : Int) → rN pa sp n k a b → rN pa sp n k b a := by
  intro k
  induction k with
  | zero =>
    intro a b _ _ _ _ h
    have h : a = b := h
    exact h.symm
  | succ k ih =>
    intro a b a0 a1 b0 b1 h
    obtain ⟨c, c0, c1, c2, c3⟩ := h
    exact rN_front k c0 c1 a0 a1 b0 b1 (hs c b c0 c1 b0 b1 c3) (ih a0 a1 c0 c1 c2)
/-- what a row of degrees says of walks, after k rounds -/
def WD (pa sp : Int → Int) (n : Nat) (s : Int) (k : Nat) (dg : Int → Int) : Prop := ∀ t : Int, 0 ≤ t → t < (n : Int) → (t = s → dg t = 0) ∧ (t ≠ s → (dg t = 0 ∧ ∀ j : Nat, j ≤ k → ¬ rN pa sp n j s t) ∨ ∃ j : Nat, 1 ≤ j ∧ j ≤ k ∧ dg t = (j : Int) ∧ rN pa sp n j s t ∧ ∀ i : Nat, i < j → ¬ rN pa sp n i s t)
theorem rd_pt {pa sp : Int → Int} {n : Nat} {s g : Int} {dg : Int → Int} (hg : 2 ≤ g) : ∀ i : Nat, i ≤ n → ∀ t : Int, ((∃ f : Nat, f < i ∧ dg (f : Int) = g - 1 ∧ stp pa sp (f : Int) t) ∧ 0 ≤ t ∧ t < (n : Int) ∧ t ≠ s ∧ dg t = 0 → rdF pa sp n s g dg i t = g) ∧ (¬ ((∃ f : Nat, f < i ∧ dg (f : Int) = g - 1 ∧ stp pa sp (f : Int) t) ∧ 0 ≤ t ∧ t < (n : Int) ∧ t ≠ s ∧ dg t = 0) → rdF pa sp n s g dg i t = dg t) := by
  intro i
  induction i with
  | zero =>
    intro _ t
    refine ⟨fun h => ?_, fun _ => rfl⟩
    obtain ⟨⟨f, hf, _⟩, _⟩ := h
    omega
  | succ i ih =>
    intro hi t
    have ihi := ih (by omega)
    have hcond : rdF pa sp n s g dg i (i : Int) = g - 1 ↔ dg (i : Int) = g - 1 := by
      by_cases e : (∃ f : Nat, f < i ∧ dg (f : Int) = g - 1 ∧ stp pa sp (f : Int) (i : Int)) ∧ 0 ≤ (i : Int) ∧ (i : Int) < (n : Int) ∧ (i : Int) ≠ s ∧ dg (i : Int) = 0
      · have h1 := (ihi (i : Int)).1 e
        have h2 := e.2.2.2.2
        omega
      · rw [(ihi (i : Int)).2 e]
    by_cases ec : dg (i : Int) = g - 1
    · rw [rdF_y (hcond.mpr ec)]
      refine ⟨fun h => ?_, fun h => ?_⟩
      · obtain ⟨⟨f, hf, hd, hst⟩, t0, t1, t2, t3⟩ := h
        by_cases e : (∃ f : Nat, f < i ∧ dg (f : Int) = g - 1 ∧ stp pa sp (f : Int) t) ∧ 0 ≤ t ∧ t < (n : Int) ∧ t ≠ s ∧ dg t = 0
        · have h1 := (ihi t).1 e
          unfold rchF
          rw [if_neg (fun hh => by have := hh.2.2.2.1; omega), h1]
        · have h1 := (ihi t).2 e
          have hfi : f = i := by
            rcases Nat.lt_or_ge f i with q | q
            · exact absurd ⟨⟨f, q, hd, hst⟩, t0, t1, t2, t3⟩ e
            · omega
          subst hfi
          unfold rchF
          rw [if_pos ⟨t0, t1, t2, by omega, hst⟩]
      · have e : ¬ ((∃ f : Nat, f < i ∧ dg (f : Int) = g - 1 ∧ stp pa sp (f : Int) t) ∧ 0 ≤ t ∧ t < (n : Int) ∧ t ≠ s ∧ dg t = 0) := fun ⟨⟨f, hf, r⟩, q⟩ => h ⟨⟨f, by omega, r⟩, q⟩
        have h1 := (ihi t).2 e
        unfold rchF
        rw [if_neg (fun hh => h ⟨⟨i, by omega, ec, hh.2.2.2.2⟩, hh.1, hh.2.1, hh.2.2.1, by have := hh.2.2.2.1; omega⟩), h1]
    · rw [rdF_n (fun h => ec (hcond.mp h))]
      refine ⟨fun h => ?_, fun h => ?_⟩
      · obtain ⟨⟨f, hf, hd, hst⟩, q⟩ := h
        have hfi : f < i := by
          rcases Nat.lt_or_ge f i with q | q
          · exact q
          · have : f = i := by omega
            subst this
            exact absurd hd ec
        exact (ihi t).1 ⟨⟨f, hfi, hd, hst⟩, q⟩
      · exact (ihi t).2 (fun ⟨⟨f, hf, r⟩, q⟩ => h ⟨⟨f, by omega, r⟩, q⟩)
theorem WD_1 (pa sp : Int → Int) {n : Nat} {s : Int} (h0 : 0 ≤ s) (h1 : s < (n : Int)) : WD pa sp n s 1 (dg1 pa sp n s) := by
  intro t t0 t1
  refine ⟨fun e => ?_, fun e => ?_⟩
  · unfold dg1 rchF
    rw [if_neg (fun hh => hh.2.2.1 e)]
    rfl
  · unfold dg1 rchF
    by_cases hs : stp pa sp s t
    · rw [if_pos ⟨t0, t1, e, rfl, hs⟩]
      refine Or.inr ⟨1, Nat.le_refl 1, Nat.le_refl 1, rfl, ⟨s, h0, h1, rfl, hs⟩, fun i hi hr => ?_⟩
      have : i = 0 := by omega
      subst this
      have hr : s = t := hr
      exact e hr.symm
    · rw [if_neg (fun hh => hs hh.2.2.2.2)]
      refine Or.inl ⟨rfl, fun j hj hr => ?_⟩
      have : j = 0 ∨ j = 1 := by omega
      rcases this with rfl | rfl
      · have hr : s = t := hr
        exact e hr.symm
      · obtain ⟨c, _, _, hc, hst⟩ := hr
        have hc : s = c := hc
        subst hc
        exact hs hst
theorem WD_s {pa sp : Int → Int} {n : Nat} {s : Int} {k : Nat} {dg : Int → Int} (hk : 1 ≤ k) (h0 : 0 ≤ s) (h1 : s < (n : Int)) (h : WD pa sp n s k dg) : WD pa sp n s (k + 1) (rdF pa sp n s ((k : Int) + 1) dg n) := by
  intro t t0 t1
  have hp := rd_pt (pa := pa) (sp := sp) (s := s) (dg := dg) (show 2 ≤ (k : Int) + 1 by omega) n (Nat.le_refl n) t
  refine ⟨fun e => ?_, fun e => ?_⟩
  · rw [hp.2 (fun hh => hh.2.2.2.1 e)]
    exact (h t t0 t1).1 e
  · rcases (h t t0 t1).2 e with ⟨q1, q2⟩ | ⟨j, j1, j2, j3, j4, j5⟩
    · by_cases hf : ∃ f : Nat, f < n ∧ dg (f : Int) = (k : Int) + 1 - 1 ∧ stp pa sp (f : Int) t
      · rw [hp.1 ⟨hf, t0, t1, e, q1⟩]
        refine Or.inr ⟨k + 1, by omega, Nat.le_refl _, by omega, ?_, fun i hi => q2 i (by omega)⟩
        obtain ⟨f, f1, f2, f3⟩ := hf
        have hfs : (f : Int) ≠ s := fun hh => by
          have := (h (f : Int) (by omega) (by omega)).1 hh
          omega
        rcases (h (f : Int) (by omega) (by omega)).2 hfs with ⟨w1, w2⟩ | ⟨j, j1, j2, j3, j4, j5⟩
        · omega
        · have : j = k := by omega
          subst this
          exact ⟨(f : Int), by omega, by omega, j4, f3⟩
      · rw [hp.2 (fun hh => hf hh.1)]
        refine Or.inl ⟨q1, fun j hj hr => ?_⟩
        rcases Nat.lt_or_ge j (k + 1) with hlt | hge
        · exact q2 j (by omega) hr
        · have : j = k + 1 := by omega
          subst this
          obtain ⟨c, c0, c1, c2, c3⟩ := hr
          apply hf
          refine ⟨c.toNat, by omega, ?_, by rw [Int.toNat_of_nonneg c0]; exact c3⟩
          rw [Int.toNat_of_nonneg c0]
          by_cases ecs : c = s
          · subst ecs
            exact absurd ⟨c, c0, c1, rfl, c3⟩ (q2 1 hk)
          · rcases (h c c0 c1).2 ecs with ⟨w1, w2⟩ | ⟨j, j1, j2, j3, j4, j5⟩
            · exact absurd c2 (w2 k (Nat.le_refl k))
            · rcases Nat.lt_or_ge j k with g1 | g1
              · exact absurd ⟨c, c0, c1, j4, c3⟩ (q2 (j + 1) (by omega))
              · omega
    · rw [hp.2 (fun hh => by have := hh.2.2.2.2; omega)]
      exact Or.inr ⟨j, j1, by omega, j3, j4, j5⟩
theorem WD_all (pa sp : Int → Int) {n : Nat} {s : Int} (h0 : 0 ≤ s) (h1 : s < (n : Int)) : WD pa sp n s 4 (dgF pa sp n s) :=
  WD_s (k := 3) (by decide) h0 h1 (WD_s (k := 2) (by decide) h0 h1 (WD_s (k := 1) (by decide) h0 h1 (WD_1 pa sp h0 h1)))
theorem dgF_symm {pa sp : Int → Int} {n : Nat} (hs : ∀ a b : Int, 0 ≤ a → a < (n : Int) → 0 ≤ b → b < (n : Int) → stp pa sp a b → stp pa sp b a) {a b : Int} (a0 : 0 ≤ a) (a1 : a < (n : Int)) (b0 : 0 ≤ b) (b1 : b < (n : Int)) : dgF pa sp n a b = dgF pa sp n b a := by
  by_cases e : b = a
  · rw [e]
  · have hab : ∀ j : Nat, rN pa sp n j a b → rN pa sp n j b a := fun j h => rN_symm hs j a0 a1 b0 b1 h
    have hba : ∀ j : Nat, rN pa sp n j b a → rN pa sp n j a b := fun j h => rN_symm hs j b0 b1 a0 a1 h
    rcases (WD_all pa sp a0 a1 b b0 b1).2 e with ⟨q1, q2⟩ | ⟨j, j1, j2, j3, j4, j5⟩ <;> rcases (WD_all pa sp b0 b1 a a0 a1).2 (fun h => e h.symm) with ⟨w1, w2⟩ | ⟨i, i1, i2, i3, i4, i5⟩
    · omega
    · exact absurd (hba i i4) (q2 i i2)
    · exact absurd (hab j j4) (w2 j j2)
    · rcases Nat.lt_trichotomy i j with g | g | g
      · exact absurd (hba i i4) (j5 i g)
      · omega
      · exact absurd (hab j j4) (i5 j g)
