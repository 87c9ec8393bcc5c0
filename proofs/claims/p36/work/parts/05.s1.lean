/-! a Sim at a: its object, its rows; kd tells the addresses apart: 0 the object, 10 + i person i's row, 100 + d the stages of degree d, -1 what is never written, -2 nothing of it -/
def rowP (pa sp al : Int → Int) (i : Int) : Int → Int := fun j => if j = 0 then pa i else if j = 1 then sp i else al i
def rowC (co da : Int → Int) (k : Int) : Int → Int := fun j => if j = 0 then co (192 + k) else da (192 + k)
abbrev obS (td wn : Int) (ap ac am : Nat) : va_E := .inr (3, [.int (zI td), .int (zI wn), .ref ap, .ref ac, .ref am])
def zSL (D : va_G) (cI c1 c2 : ClassId) (s0 ub : Nat) (H : Heap) (a : Nat) (kd : Nat → Int) (ap ac am : Nat) (ra rc : Int → Nat) (rr : Int → Int → Nat) (rm : Int → Nat) (n : Nat) (pa sp al co da : Int → Int) (M : Nat) (mo : Int → Int → Int) (td wn : Int) : Prop :=
  (va_P D vwCl [(a, obS td wn ap ac am)] H ∧ rA c1 H ap n ra ∧ rA c2 H ac 5 rc ∧ rA c1 H am M rm) ∧
  (∀ i : Int, 0 ≤ i → i < (n : Int) → iA cI H (ra i) 3 (rowP pa sp al i) ∧ kd (ra i) = 10 + i) ∧
  (∀ d : Int, 1 ≤ d → d ≤ 4 → rA c1 H (rc d) 3 (rr d) ∧ kd (rc d) = 100 + d) ∧
  (∀ d t : Int, 1 ≤ d → d ≤ 4 → 0 ≤ t → t ≤ 2 → iA cI H (rr d t) 2 (rowC co da ((d - 1) * 3 + t)) ∧ kd (rr d t) = -1) ∧
  (∀ i : Int, 0 ≤ i → i < (M : Int) → iA cI H (rm i) 9 (mo i) ∧ kd (rm i) = -1) ∧
  (kd a = 0 ∧ kd ap = -1 ∧ kd ac = -1 ∧ kd am = -1 ∧ n ≤ 16 ∧ M ≤ 240) ∧ (∀ x : Nat, x < s0 ∨ ub ≤ x → kd x = -2)
section ZSL
variable {D : va_G} {cI c1 c2 : ClassId} {s0 ub : Nat} {H H1 : Heap} {a : Nat} {kd : Nat → Int} {ap ac am : Nat} {ra rc : Int → Nat} {rr : Int → Int → Nat} {rm : Int → Nat} {n : Nat} {pa sp al co da : Int → Int} {M : Nat} {mo : Int → Int → Int} {td wn : Int}
abbrev SL0 (D : va_G) (cI c1 c2 : ClassId) (s0 ub : Nat) (a : Nat) (kd : Nat → Int) (ap ac am : Nat) (ra rc : Int → Nat) (rr : Int → Int → Nat) (rm : Int → Nat) (n : Nat) (pa sp al co da : Int → Int) (M : Nat) (mo : Int → Int → Int) (td wn : Int) (H : Heap) : Prop := zSL D cI c1 c2 s0 ub H a kd ap ac am ra rc rr rm n pa sp al co da M mo td wn
theorem zSL.obj (h : zSL D cI c1 c2 s0 ub H a kd ap ac am ra rc rr rm n pa sp al co da M mo td wn) : va_P D vwCl [(a, obS td wn ap ac am)] H := h.1.1
theorem zSL.ppl (h : zSL D cI c1 c2 s0 ub H a kd ap ac am ra rc rr rm n pa sp al co da M mo td wn) : rA c1 H ap n ra := h.1.2.1
theorem zSL.cod (h : zSL D cI c1 c2 s0 ub H a kd ap ac am ra rc rr rm n pa sp al co da M mo td wn) : rA c2 H ac 5 rc := h.1.2.2.1
theorem zSL.mou (h : zSL D cI c1 c2 s0 ub H a kd ap ac am ra rc rr rm n pa sp al co da M mo td wn) : rA c1 H am M rm := h.1.2.2.2
theorem zSL.row (h : zSL D cI c1 c2 s0 ub H a kd ap ac am ra rc rr rm n pa sp al co da M mo td wn) (i : Int) (h0 : 0 ≤ i) (h1 : i < (n : Int)) : iA cI H (ra i) 3 (rowP pa sp al i) := (h.2.1 i h0 h1).1
theorem zSL.cds (h : zSL D cI c1 c2 s0 ub H a kd ap ac am ra rc rr rm n pa sp al co da M mo td wn) (d : Int) (h0 : 1 ≤ d) (h1 : d ≤ 4) : rA c1 H (rc d) 3 (rr d) := (h.2.2.1 d h0 h1).1
theorem zSL.stg (h : zSL D cI c1 c2 s0 ub H a kd ap ac am ra rc rr rm n pa sp al co da M mo td wn) (d t : Int) (h0 : 1 ≤ d) (h1 : d ≤ 4) (h2 : 0 ≤ t) (h3 : t ≤ 2) : iA cI H (rr d t) 2 (rowC co da ((d - 1) * 3 + t)) := (h.2.2.2.1 d t h0 h1 h2 h3).1
theorem zSL.mrn (h : zSL D cI c1 c2 s0 ub H a kd ap ac am ra rc rr rm n pa sp al co da M mo td wn) (i : Int) (h0 : 0 ≤ i) (h1 : i < (M : Int)) : iA cI H (rm i) 9 (mo i) := (h.2.2.2.2.1 i h0 h1).1
theorem zSL.n16 (h : zSL D cI c1 c2 s0 ub H a kd ap ac am ra rc rr rm n pa sp al co da M mo td wn) : n ≤ 16 := h.2.2.2.2.2.1.2.2.2.2.1
theorem zSL.M240 (h : zSL D cI c1 c2 s0 ub H a kd ap ac am ra rc rr rm n pa sp al co da M mo td wn) : M ≤ 240 := h.2.2.2.2.2.1.2.2.2.2.2
theorem zSL.out (h : zSL D cI c1 c2 s0 ub H a kd ap ac am ra rc rr rm n pa sp al co da M mo td wn) {x : Nat} (hx : kd x ≠ -2) : s0 ≤ x ∧ x < ub := by
  have h9 := h.2.2.2.2.2.2 x
  have h1 : ¬ (x < s0 ∨ ub ≤ x) := fun q => hx (h9 q)
  omega
theorem va1k {a : Nat} {e : va_E} (h : va_P D vwCl [(a, e)] H) (hk : H1[a]? = H[a]?) : va_P D vwCl [(a, e)] H1 := va1 ((h 0 _ rfl).kept hk)
/-- what may have changed is none of its cells -/
theorem zSL.keepK (h : zSL D cI c1 c2 s0 ub H a kd ap ac am ra rc rr rm n pa sp al co da M mo td wn) (hk : ∀ x : Nat, kd x ≠ -2 → H1[x]? = H[x]?) : zSL D cI c1 c2 s0 ub H1 a kd ap ac am ra rc rr rm n pa sp al co da M mo td wn := by
  obtain ⟨⟨h1, h2, h3, h4⟩, h5, h6, h7, h8, ⟨g1, g2, g3, g4, g5, g6⟩, h9⟩ := h
  refine ⟨⟨va1k h1 (hk _ (by omega)), h2.kept (hk _ (by omega)), h3.kept (hk _ (by omega)), h4.kept (hk _ (by omega))⟩, fun i q0 q1 => ?_, fun d q0 q1 => ?_, fun d t q0 q1 q2 q3 => ?_, fun i q0 q1 => ?_, ⟨g1, g2, g3, g4, g5, g6⟩, h9⟩
  · have h := h5 i q0 q1
    exact ⟨h.1.kept (hk _ (by omega)), h.2⟩
  · have h := h6 d q0 q1
    exact ⟨h.1.kept (hk _ (by omega)), h.2⟩
  · have h := h7 d t q0 q1 q2 q3
    exact ⟨h.1.kept (hk _ (by omega)), h.2⟩
  · have h := h8 i q0 q1
    exact ⟨h.1.kept (hk _ (by omega)), h.2⟩
theorem zSL.keep (h : zSL D cI c1 c2 s0 ub H a kd ap ac am ra rc rr rm n pa sp al co da M mo td wn) (hk : ∀ x : Nat, s0 ≤ x → x < ub → H1[x]? = H[x]?) : zSL D cI c1 c2 s0 ub H1 a kd ap ac am ra rc rr rm n pa sp al co da M mo td wn :=
  h.keepK (fun x hx => hk x (h.out hx).1 (h.out hx).2)
/-- another upper bound: what lies above the old one is never written -/
theorem zSL.up {ub' : Nat} (h : zSL D cI c1 c2 s0 ub H a kd ap ac am ra rc rr rm n pa sp al co da M mo td wn) (hu : ub ≤ ub') (hs : s0 ≤ ub) : zSL D cI c1 c2 s0 ub' H a (fun x => if ub ≤ x ∧ x < ub' then -1 else kd x) ap ac am ra rc rr rm n pa sp al co da M mo td wn := by
  have e : ∀ x : Nat, kd x ≠ -2 → (if ub ≤ x ∧ x < ub' then (-1 : Int) else kd x) = kd x := fun x hx => by
    have := h.out hx
    rw [if_neg (by omega)]
  obtain ⟨h1, h5, h6, h7, h8, ⟨g1, g2, g3, g4, g5, g6⟩, h9⟩ := h
  refine ⟨h1, fun i q0 q1 => ?_, fun d q0 q1 => ?_, fun d t q0 q1 q2 q3 => ?_, fun i q0 q1 => ?_, ⟨(e _ (by omega)).trans g1, (e _ (by omega)).trans g2, (e _ (by omega)).trans g3, (e _ (by omega)).trans g4, g5, g6⟩, fun x hx => ?_⟩
  · have h := h5 i q0 q1
    exact ⟨h.1, (e _ (by omega)).trans h.2⟩
  · have h := h6 d q0 q1
    exact ⟨h.1, (e _ (by omega)).trans h.2⟩
  · have h := h7 d t q0 q1 q2 q3
    exact ⟨h.1, (e _ (by omega)).trans h.2⟩
  · have h := h8 i q0 q1
    exact ⟨h.1, (e _ (by omega)).trans h.2⟩
  · exact (if_neg (by omega)).trans (h9 x (by omega))
/-- the day and what was worn -/
theorem zSL.num {td' wn' : Int} (h : zSL D cI c1 c2 s0 ub H a kd ap ac am ra rc rr rm n pa sp al co da M mo td wn) (ho : va_P D vwCl [(a, obS td' wn' ap ac am)] H1) (hk : ∀ x : Nat, x ≠ a → H1[x]? = H[x]?) : zSL D cI c1 c2 s0 ub H1 a kd ap ac am ra rc rr rm n pa sp al co da M mo td' wn' := by
  obtain ⟨⟨h1, h2, h3, h4⟩, h5, h6, h7, h8, ⟨g1, g2, g3, g4, g5, g6⟩, h9⟩ := h
  have k : ∀ x : Nat, kd x ≠ 0 → H1[x]? = H[x]? := fun x hx => hk x (fun q => hx (by rw [q]; exact g1))
  refine ⟨⟨ho, h2.kept (k _ (by omega)), h3.kept (k _ (by omega)), h4.kept (k _ (by omega))⟩, fun i q0 q1 => ?_, fun d q0 q1 => ?_, fun d t q0 q1 q2 q3 => ?_, fun i q0 q1 => ?_, ⟨g1, g2, g3, g4, g5, g6⟩, h9⟩
  · have h := h5 i q0 q1
    exact ⟨h.1.kept (k _ (by omega)), h.2⟩
  · have h := h6 d q0 q1
    exact ⟨h.1.kept (k _ (by omega)), h.2⟩
  · have h := h7 d t q0 q1 q2 q3
    exact ⟨h.1.kept (k _ (by omega)), h.2⟩
  · have h := h8 i q0 q1
    exact ⟨h.1.kept (k _ (by omega)), h.2⟩
/-- other mournings -/
theorem zSL.mrs {am' : Nat} {rm' : Int → Nat} {M' : Nat} {mo' : Int → Int → Int} (h : zSL D cI c1 c2 s0 ub H a kd ap ac am ra rc rr rm n pa sp al co da M mo td wn) (ho : va_P D vwCl [(a, obS td wn ap ac am')] H1) (hk : ∀ x : Nat, x ≠ a → H1[x]? = H[x]?)
    (hM : M' ≤ 240) (h1 : rA c1 H am' M' rm' ∧ kd am' = -1) (h2 : ∀ i : Int, 0 ≤ i → i < (M' : Int) → iA cI H (rm' i) 9 (mo' i) ∧ kd (rm' i) = -1) : zSL D cI c1 c2 s0 ub H1 a kd ap ac am' ra rc rr rm' n pa sp al co da M' mo' td wn := by
  have hL : zSL D cI c1 c2 s0 ub H a kd ap ac am' ra rc rr rm' n pa sp al co da M' mo' td wn → True := fun _ => trivial
  obtain ⟨⟨h1a, h2a, h3, h4⟩, h5, h6, h7, h8, ⟨g1, g2, g3, g4, g5, g6⟩, h9⟩ := h
  have k : ∀ x : Nat, kd x ≠ 0 → H1[x]? = H[x]? := fun x hx => hk x (fun q => hx (by rw [q]; exact g1))
  refine ⟨⟨ho, h2a.kept (k _ (by omega)), h3.kept (k _ (by omega)), h1.1.kept (k _ (by omega))⟩, fun i q0 q1 => ?_, fun d q0 q1 => ?_, fun d t q0 q1 q2 q3 => ?_, fun i q0 q1 => ?_, ⟨g1, g2, g3, h1.2, g5, hM⟩, h9⟩
  · have h := h5 i q0 q1
    exact ⟨h.1.kept (k _ (by omega)), h.2⟩
  · have h := h6 d q0 q1
    exact ⟨h.1.kept (k _ (by omega)), h.2⟩
  · have h := h7 d t q0 q1 q2 q3
    exact ⟨h.1.kept (k _ (by omega)), h.2⟩
  · have h := h2 i q0 q1
    exact ⟨h.1.kept (k _ (by omega)), h.2⟩
/-- a person's row -/
theorem zSL.prs {pa' sp' al' : Int → Int} {i0 : Int} (h : zSL D cI c1 c2 s0 ub H a kd ap ac am ra rc rr rm n pa sp al co da M mo td wn) (h0 : 0 ≤ i0) (h1 : i0 < (n : Int)) {f : Int → Int} (hr : iA cI H1 (ra i0) 3 f) (hk : ∀ x : Nat, x ≠ ra i0 → H1[x]? = H[x]?)
    (hf : ∀ j : Int, 0 ≤ j → j < 3 → f j = rowP pa' sp' al' i0 j) (ho : ∀ i : Int, 0 ≤ i → i < (n : Int) → i ≠ i0 → pa' i = pa i ∧ sp' i = sp i ∧ al' i = al i) : zSL D cI c1 c2 s0 ub H1 a kd ap ac am ra rc rr rm n pa' sp' al' co da M mo td wn := by
  obtain ⟨⟨h1a, h2, h3, h4⟩, h5, h6, h7, h8, ⟨g1, g2, g3, g4, g5, g6⟩, h9⟩ := h
  have e0 := (h5 i0 h0 h1).2
  have k : ∀ x : Nat, kd x ≠ 10 + i0 → H1[x]? = H[x]? := fun x hx => hk x (fun q => hx (by rw [q]; exact e0))
  refine ⟨⟨va1k h1a (k _ (by omega)), h2.kept (k _ (by omega)), h3.kept (k _ (by omega)), h4.kept (k _ (by omega))⟩, fun i q0 q1 => ?_, fun d q0 q1 => ?_, fun d t q0 q1 q2 q3 => ?_, fun i q0 q1 => ?_, ⟨g1, g2, g3, g4, g5, g6⟩, h9⟩
  · by_cases e : i = i0
    · subst e
      exact ⟨hr.cgI (fun j j0 j1 => hf j j0 j1), e0⟩
    · have h := h5 i q0 q1
      obtain ⟨e1, e2, e3⟩ := ho i q0 q1 e
      refine ⟨iA.cgI (vA.kept h.1 (k _ (by omega))) (fun j _ _ => ?_), h.2⟩
      unfold rowP
      rw [e1, e2, e3]
  · have h := h6 d q0 q1
    exact ⟨h.1.kept (k _ (by omega)), h.2⟩
  · have h := h7 d t q0 q1 q2 q3
    exact ⟨h.1.kept (k _ (by omega)), h.2⟩
  · have h := h8 i q0 q1
    exact ⟨h.1.kept (k _ (by omega)), h.2⟩
end ZSL
/-- a Sim, its layout anywhere from s0 on -/
def zSW (D : va_G) (cI c1 c2 : ClassId) (s0 a n : Nat) (pa sp al co da : Int → Int) (M : Nat) (mo : Int → Int → Int) (td wn : Int) (H : Heap) : Prop :=
  ∃ (kd : Nat → Int) (ap ac am : Nat) (ra rc : Int → Nat) (rr : Int → Int → Nat) (rm : Int → Nat), zSL D cI c1 c2 s0 H.size H a kd ap ac am ra rc rr rm n pa sp al co da M mo td wn
/-- a list of rows of nine under the making -/
def zML (cI c1 : ClassId) (H : Heap) (b K : Nat) (rm : Int → Nat) (mo : Int → Int → Int) : Prop := rA c1 H b K rm ∧ ∀ i : Int, 0 ≤ i → i < (K : Int) → iA cI H (rm i) 9 (mo i)
theorem zML.grow {cI c1 : ClassId} {H H1 : Heap} {b K : Nat} {rm : Int → Nat} {mo : Int → Int → Int} (h : zML cI c1 H b K rm mo) (hk : ∀ x : Nat, x < H.size → H1[x]? = H[x]?) : zML cI c1 H1 b K rm mo := ⟨h.1.grow hk, fun i h0 h1 => (h.2 i h0 h1).grow hk⟩
theorem zgrowP {D : va_G} {w : va_W} {H H1 : Heap} (h : va_P D vwCl w H) (hk : ∀ x : Nat, x < H.size → H1[x]? = H[x]?) : va_P D vwCl w H1 := h.kept (fun k q hq => hk _ (h k q hq).lt)
/-- what the Sim's methods answer -/
def onF (f : Int → Int) (t : Int) : Int := if t - f 2 < f 4 then f 3 else if t - f 2 - f 4 < f 6 then f 5 else if t - f 2 - f 4 - f 6 < f 8 then f 7 else -1
def enF (f : Int → Int) : Int := f 2 + f 4 + f 6 + f 8
def wrT (mo : Int → Int → Int) (p t : Int) (i : Int) : Int := if mo i 0 = p then onF (mo i) t else 0
def wrF (mo : Int → Int → Int) (M : Nat) (t p : Int) : Int := mxF (wrT mo p t) M
def lfT (mo : Int → Int → Int) (td p d : Int) (i : Int) : Int := if mo i 0 = p ∧ (d < 0 ∨ mo i 1 = d) then enF (mo i) - td else 0
def lfS (mo : Int → Int → Int) (M : Nat) (td p d : Int) : Int := mxF (lfT mo td p d) M
def icT (mo : Int → Int → Int) (M : Nat) (t p : Int) : Int := if 0 < wrF mo M t p then 1 else 0
def icF (mo : Int → Int → Int) (M n : Nat) (t : Int) : Int := smF (icT mo M t) n
def fC (P : Int → Bool) : Nat → Nat
  | 0 => 0
  | k + 1 => if P (k : Int) = true then fC P k + 1 else fC P k
def fI (P : Int → Bool) : Nat → Int → Int
  | 0 => fun _ => 0
  | k + 1 => if P (k : Int) = true then (fun j => if j = (fC P k : Int) then (k : Int) else fI P k j) else fI P k
theorem fC_y {P : Int → Bool} {k : Nat} (h : P (k : Int) = true) : fC P (k + 1) = fC P k + 1 := if_pos h
theorem fC_n {P : Int → Bool} {k : Nat} (h : ¬ P (k : Int) = true) : fC P (k + 1) = fC P k := if_neg h
theorem fI_y {P : Int → Bool} {k : Nat} (h : P (k : Int) = true) : fI P (k + 1) = fun j => if j = (fC P k : Int) then (k : Int) else fI P k j := if_pos h
theorem fI_n {P : Int → Bool} {k : Nat} (h : ¬ P (k : Int) = true) : fI P (k + 1) = fI P k := if_neg h
theorem fC_le (P : Int → Bool) (k : Nat) : fC P k ≤ k := by
  induction k with
  | zero => exact Nat.le_refl 0
  | succ k ih =>
    by_cases h : P (k : Int) = true
    · rw [fC_y h]; omega
    · rw [fC_n h]; omega
def tri : Nat → Nat
  | 0 => 0
  | k + 1 => tri k + (k + 1)
theorem tri_s (k : Nat) : tri (k + 1) = tri k + (k + 1) := rfl
theorem tri_mono {a b : Nat} (h : a ≤ b) : tri a ≤ tri b := by
  induction b with
  | zero => rw [show a = 0 by omega]; exact Nat.le_refl _
  | succ b ih =>
    by_cases e : a = b + 1
    · rw [e]; exact Nat.le_refl _
    · rw [tri_s]
      have := ih (by omega)
      omega
theorem tri_240 {a : Nat} (h : a ≤ 240) : tri a ≤ 28920 := Nat.le_trans (tri_mono h) (by decide +kernel)
theorem tri_16 {a : Nat} (h : a ≤ 16) : tri a ≤ 136 := Nat.le_trans (tri_mono h) (by decide +kernel)
/-- one more row laid behind -/
theorem zML.push {cI c1 : ClassId} {H : Heap} {b' K v : Nat} {rm : Int → Nat} {mo : Int → Int → Int} {f : Int → Int} (h2 : ∀ i : Int, 0 ≤ i → i < (K : Int) → iA cI H (rm i) 9 (mo i)) (hv : iA cI H v 9 f) (hb : rA c1 H b' (K + 1) (fun j => if j = (K : Int) then v else rm j)) : zML cI c1 H b' (K + 1) (fun j => if j = (K : Int) then v else rm j) (fun j => if j = (K : Int) then f else mo j) := by
  refine ⟨hb, fun i h0 h1 => ?_⟩
  by_cases e : i = (K : Int)
  · show iA cI H (if i = (K : Int) then v else rm i) 9 (if i = (K : Int) then f else mo i)
    rw [if_pos e, if_pos e]
    exact hv
  · show iA cI H (if i = (K : Int) then v else rm i) 9 (if i = (K : Int) then f else mo i)
    rw [if_neg e, if_neg e]
    exact h2 i h0 (by omega)
theorem zML.cg {cI c1 : ClassId} {H : Heap} {b K K' : Nat} {rm : Int → Nat} {mo mo' : Int → Int → Int} (h : zML cI c1 H b K rm mo) (hK : K = K') (e : ∀ i : Int, 0 ≤ i → i < (K : Int) → mo i = mo' i) : zML cI c1 H b K' rm mo' := by
  subst hK
  exact ⟨h.1, fun i h0 h1 => by rw [← e i h0 h1]; exact h.2 i h0 h1⟩
section ZSL2
variable {D : va_G} {cI c1 c2 : ClassId} {s0 ub : Nat} {H H1 : Heap} {a : Nat} {kd : Nat → Int} {ap ac am : Nat} {ra rc : Int → Nat} {rr : Int → Int → Nat} {rm : Int → Nat} {n : Nat} {pa sp al co da : Int → Int} {M : Nat} {mo : Int → Int → Int} {td wn : Int}
theorem zSL.aub (h : zSL D cI c1 c2 s0 ub H a kd ap ac am ra rc rr rm n pa sp al co da M mo td wn) : s0 ≤ a ∧ a < ub := h.out (by rw [h.2.2.2.2.2.1.1]; decide)
theorem zSL.s0u (h : zSL D cI c1 c2 s0 ub H a kd ap ac am ra rc rr rm n pa sp al co da M mo td wn) : s0 ≤ ub := by
  have := h.aub
  omega
theorem zSL.rau (h : zSL D cI c1 c2 s0 ub H a kd ap ac am ra rc rr rm n pa sp al co da M mo td wn) (i : Int) (h0 : 0 ≤ i) (h1 : i < (n : Int)) : s0 ≤ ra i ∧ ra i < ub := h.out (by rw [(h.2.1 i h0 h1).2]; omega)
theorem zSL.toW (h : zSL D cI c1 c2 s0 ub H a kd ap ac am ra rc rr rm n pa sp al co da M mo td wn) (hu : ub ≤ H.size) : zSW D cI c1 c2 s0 a n pa sp al co da M mo td wn H := ⟨_, ap, ac, am, ra, rc, rr, rm, h.up hu h.s0u⟩
end ZSL2
