/-! what the reference's methods answer, in whole numbers -/
def lenM (da : Int → Int) (g : Int) : Int := da (3 * (g - 1) + 0) + da (3 * (g - 1) + 1) + da (3 * (g - 1) + 2)
theorem lenM_bd {da : Int → Int} (h : ∀ j : Int, 0 ≤ da j ∧ da j ≤ 60) (g : Int) : 0 ≤ lenM da g ∧ lenM da g ≤ 180 := by
  unfold lenM
  have h0 := h (3 * (g - 1) + 0)
  have h1 := h (3 * (g - 1) + 1)
  have h2 := h (3 * (g - 1) + 2)
  omega
-- steps
theorem lenM_bx (da : Int → Int) (h : ∀ j : Int, 0 ≤ da j ∧ da j ≤ 60) (g : Int) : 0 ≤ lenM da g ∧ lenM da g ≤ 180 := lenM_bd h g
def stI (st : Int → Int) (f : Int) (k : Nat) : Int → Int := fun t => if 0 ≤ t ∧ t < (k : Int) then (if t = f then 0 else -1) else st t
theorem stI_0 (st : Int → Int) (f : Int) : stI st f 0 = st := by
  funext t
  unfold stI
  rw [if_neg (by omega)]
theorem stI_s {st : Int → Int} {f v : Int} {k : Nat} (h : v = if (k : Int) = f then 0 else -1) : stI st f (k + 1) = up (stI st f k) k v := by
  subst h
  funext t
  unfold stI up
  by_cases e : t = (k : Int)
  · subst e
    rw [if_pos ⟨by omega, by omega⟩, if_pos rfl]
  · rw [if_neg e]
    by_cases e2 : 0 ≤ t ∧ t < (k : Int)
    · exact (if_pos ⟨by omega, by omega⟩).trans (if_pos e2).symm
    · exact (if_neg (by omega)).trans (if_neg e2).symm
theorem stI_bd {st : Int → Int} (h : ∀ j : Int, -1 ≤ st j ∧ st j ≤ 4) (f : Int) (k : Nat) : ∀ j : Int, -1 ≤ stI st f k j ∧ stI st f k j ≤ 4 := by
  intro j
  have := h j
  unfold stI
  split
  · split <;> omega
  · omega
def msB (pa sp st : Int → Int) (a r : Int) (k : Nat) : Int → Int := fun t => if 0 ≤ t ∧ t < (k : Int) ∧ st t = -1 ∧ stp pa sp a t then r + 1 else st t
theorem msB_0 (pa sp st : Int → Int) (a r : Int) : msB pa sp st a r 0 = st := by
  funext t
  unfold msB
  rw [if_neg (by omega)]
theorem msB_k (pa sp st : Int → Int) (a r : Int) (k : Nat) : msB pa sp st a r k k = st k := by
  unfold msB
  rw [if_neg (by omega)]
theorem msB_n {pa sp st : Int → Int} {a r : Int} {k : Nat} (h : ¬ (st k = -1 ∧ stp pa sp a k)) : msB pa sp st a r (k + 1) = msB pa sp st a r k := by
  funext t
  unfold msB
  by_cases e : t = (k : Int)
  · subst e
    rw [if_neg (fun h' => h h'.2.2), if_neg (by omega)]
  · have e2 : (0 ≤ t ∧ t < ((k + 1 : Nat) : Int) ∧ st t = -1 ∧ stp pa sp a t) ↔ (0 ≤ t ∧ t < (k : Int) ∧ st t = -1 ∧ stp pa sp a t) :=
      ⟨fun ⟨x, b, r⟩ => ⟨x, by omega, r⟩, fun ⟨x, b, r⟩ => ⟨x, by omega, r⟩⟩
    by_cases e3 : (0 ≤ t ∧ t < (k : Int) ∧ st t = -1 ∧ stp pa sp a t)
    · rw [if_pos (e2.mpr e3), if_pos e3]
    · rw [if_neg (fun h' => e3 (e2.mp h')), if_neg e3]
theorem msB_y {pa sp st : Int → Int} {a r v : Int} {k : Nat} (h1 : st k = -1) (h2 : stp pa sp a k) (hv : v = r + 1) : msB pa sp st a r (k + 1) = up (msB pa sp st a r k) k v := by
  subst hv
  funext t
  unfold msB up
  by_cases e : t = (k : Int)
  · subst e
    rw [if_pos ⟨by omega, by omega, h1, h2⟩, if_pos rfl]
  · rw [if_neg e]
    have e2 : (0 ≤ t ∧ t < ((k + 1 : Nat) : Int) ∧ st t = -1 ∧ stp pa sp a t) ↔ (0 ≤ t ∧ t < (k : Int) ∧ st t = -1 ∧ stp pa sp a t) :=
      ⟨fun ⟨x, b, r⟩ => ⟨x, by omega, r⟩, fun ⟨x, b, r⟩ => ⟨x, by omega, r⟩⟩
    by_cases e3 : (0 ≤ t ∧ t < (k : Int) ∧ st t = -1 ∧ stp pa sp a t)
    · exact (if_pos (e2.mpr e3)).trans (if_pos e3).symm
    · exact (if_neg (fun h' => e3 (e2.mp h'))).trans (if_neg e3).symm
theorem msB_bd {pa sp st : Int → Int} (h : ∀ j : Int, -1 ≤ st j ∧ st j ≤ 4) {a r : Int} (hr : 0 ≤ r ∧ r ≤ 3) (k : Nat) : ∀ j : Int, -1 ≤ msB pa sp st a r k j ∧ msB pa sp st a r k j ≤ 4 := by
  intro j
  have := h j
  unfold msB
  split <;> omega
def mdF (pa sp : Int → Int) (n : Nat) (r : Int) (st : Int → Int) : Nat → Int → Int
  | 0 => st
  | i + 1 => if mdF pa sp n r st i (i : Int) = r then msB pa sp (mdF pa sp n r st i) (i : Int) r n else mdF pa sp n r st i
theorem mdF_y {pa sp : Int → Int} {n : Nat} {r : Int} {st : Int → Int} {i : Nat} (h : mdF pa sp n r st i (i : Int) = r) : mdF pa sp n r st (i + 1) = msB pa sp (mdF pa sp n r st i) (i : Int) r n := if_pos h
theorem mdF_n {pa sp : Int → Int} {n : Nat} {r : Int} {st : Int → Int} {i : Nat} (h : mdF pa sp n r st i (i : Int) ≠ r) : mdF pa sp n r st (i + 1) = mdF pa sp n r st i := if_neg h
theorem mdF_bd {pa sp : Int → Int} {n : Nat} {r : Int} {st : Int → Int} (h : ∀ j : Int, -1 ≤ st j ∧ st j ≤ 4) (hr : 0 ≤ r ∧ r ≤ 3) (i : Nat) : ∀ j : Int, -1 ≤ mdF pa sp n r st i j ∧ mdF pa sp n r st i j ≤ 4 := by
  induction i with
  | zero => exact h
  | succ i ih =>
    by_cases e : mdF pa sp n r st i (i : Int) = r
    · rw [mdF_y e]
      exact msB_bd ih hr n
    · rw [mdF_n e]
      exact ih
def go0 (pa sp : Int → Int) (n : Nat) (st : Int → Int) (f : Int) : Int → Int := stI st f n
def go1 (pa sp : Int → Int) (n : Nat) (st : Int → Int) (f : Int) : Int → Int := mdF pa sp n 0 (go0 pa sp n st f) n
def go2 (pa sp : Int → Int) (n : Nat) (st : Int → Int) (f : Int) : Int → Int := mdF pa sp n 1 (go1 pa sp n st f) n
def go3 (pa sp : Int → Int) (n : Nat) (st : Int → Int) (f : Int) : Int → Int := mdF pa sp n 2 (go2 pa sp n st f) n
def goF (pa sp : Int → Int) (n : Nat) (st : Int → Int) (f : Int) : Int → Int := mdF pa sp n 3 (go3 pa sp n st f) n
theorem go0_bd {st : Int → Int} (h : ∀ j : Int, -1 ≤ st j ∧ st j ≤ 4) (pa sp : Int → Int) (n : Nat) (f : Int) : ∀ j : Int, -1 ≤ go0 pa sp n st f j ∧ go0 pa sp n st f j ≤ 4 := stI_bd h f n
theorem go1_bd {st : Int → Int} (h : ∀ j : Int, -1 ≤ st j ∧ st j ≤ 4) (pa sp : Int → Int) (n : Nat) (f : Int) : ∀ j : Int, -1 ≤ go1 pa sp n st f j ∧ go1 pa sp n st f j ≤ 4 := mdF_bd (go0_bd h pa sp n f) ⟨by decide, by decide⟩ n
theorem go2_bd {st : Int → Int} (h : ∀ j : Int, -1 ≤ st j ∧ st j ≤ 4) (pa sp : Int → Int) (n : Nat) (f : Int) : ∀ j : Int, -1 ≤ go2 pa sp n st f j ∧ go2 pa sp n st f j ≤ 4 := mdF_bd (go1_bd h pa sp n f) ⟨by decide, by decide⟩ n
theorem go3_bd {st : Int → Int} (h : ∀ j : Int, -1 ≤ st j ∧ st j ≤ 4) (pa sp : Int → Int) (n : Nat) (f : Int) : ∀ j : Int, -1 ≤ go3 pa sp n st f j ∧ go3 pa sp n st f j ≤ 4 := mdF_bd (go2_bd h pa sp n f) ⟨by decide, by decide⟩ n
theorem goF_bd {st : Int → Int} (h : ∀ j : Int, -1 ≤ st j ∧ st j ≤ 4) (pa sp : Int → Int) (n : Nat) (f : Int) : ∀ j : Int, -1 ≤ goF pa sp n st f j ∧ goF pa sp n st f j ≤ 4 := mdF_bd (go3_bd h pa sp n f) ⟨by decide, by decide⟩ n
-- mournings
def wnM (f : Int → Int) (k t : Int) : Int := if f k = -1 then -1 else if t - f k < f (k + 4) then f (k + 1) else if t - f k - f (k + 4) < f (k + 4 + 1) then f (k + 1 + 1) else if t - f k - f (k + 4) - f (k + 4 + 1) < f (k + 4 + 2) then f (k + 1 + 2) else -1
theorem wnM_bd {f : Int → Int} (h : ∀ j : Int, -1 ≤ f j ∧ f j ≤ 1000000) (k t : Int) : -1 ≤ wnM f k t ∧ wnM f k t ≤ 1000000 := by
  unfold wnM
  have h1 := h (k + 1)
  have h2 := h (k + 1 + 1)
  have h3 := h (k + 1 + 2)
  split
  · omega
  · split
    · omega
    · split
      · omega
      · split <;> omega
def lM (mo : Int → Int) (td p d : Int) : Int := if mo (7 * (16 * p + d)) = -1 then 0 else max 0 (mo (7 * (16 * p + d)) + mo (7 * (16 * p + d) + 4) + mo (7 * (16 * p + d) + 5) + mo (7 * (16 * p + d) + 6) - td)
theorem lM_bd {mo : Int → Int} (h : ∀ j : Int, -1 ≤ mo j ∧ mo j ≤ 1000000) {td : Int} (htd : 0 ≤ td ∧ td ≤ 1000000) (p d : Int) : 0 ≤ lM mo td p d ∧ lM mo td p d ≤ 4000000 := by
  unfold lM
  have h1 := h (7 * (16 * p + d))
  have h2 := h (7 * (16 * p + d) + 4)
  have h3 := h (7 * (16 * p + d) + 5)
  have h4 := h (7 * (16 * p + d) + 6)
  split <;> omega
def wrM (f : Int → Int) (k td : Int) (co da : Int → Int) (g : Int) : Int → Int := up (up (up (up (up (up (up f k td) (k + 1) (co (3 * (g - 1) + 0))) (k + 4) (da (3 * (g - 1) + 0))) (k + 1 + 1) (co (3 * (g - 1) + 1))) (k + 4 + 1) (da (3 * (g - 1) + 1))) (k + 1 + 2) (co (3 * (g - 1) + 2))) (k + 4 + 2) (da (3 * (g - 1) + 2))
theorem wrM_bd {f co da : Int → Int} {td : Int} (hf : ∀ j : Int, -1 ≤ f j ∧ f j ≤ 1000000) (htd : 0 ≤ td ∧ td ≤ 1000000) (hco : ∀ j : Int, 0 ≤ co j ∧ co j ≤ 5) (hda : ∀ j : Int, 0 ≤ da j ∧ da j ≤ 60) (k g : Int) : ∀ j : Int, -1 ≤ wrM f k td co da g j ∧ wrM f k td co da g j ≤ 1000000 := by
  have c0 := hco (3 * (g - 1) + 0)
  have c1 := hco (3 * (g - 1) + 1)
  have c2 := hco (3 * (g - 1) + 2)
  have d0 := hda (3 * (g - 1) + 0)
  have d1 := hda (3 * (g - 1) + 1)
  have d2 := hda (3 * (g - 1) + 2)
  unfold wrM
  exact up_bd (up_bd (up_bd (up_bd (up_bd (up_bd (up_bd hf (by omega)) (by omega)) (by omega)) (by omega)) (by omega)) (by omega)) (by omega)
def wsT (mo : Int → Int) (p t d : Int) : Int := wnM mo (7 * (16 * p + d)) t
def wsM (mo : Int → Int) (n : Nat) (p t : Int) : Int := mxF (wsT mo p t) n
theorem wsM_bd {mo : Int → Int} (h : ∀ j : Int, -1 ≤ mo j ∧ mo j ≤ 1000000) (n : Nat) (p t : Int) : 0 ≤ wsM mo n p t ∧ wsM mo n p t ≤ 1000000 := mxF_bd (by decide) (fun d => (wnM_bd h (7 * (16 * p + d)) t).2)
abbrev imP (al st da : Int → Int) (d p : Int) : Prop := p ≠ d ∧ al p ≠ 0 ∧ 0 < st p ∧ 0 < lenM da (st p)
def imF (al st da : Int → Int) (d p : Int) : Int := if imP al st da d p then 1 else 0
def moF (al st co da : Int → Int) (td d : Int) (mo : Int → Int) : Nat → Int → Int
  | 0 => mo
  | i + 1 => if imP al st da d (i : Int) then wrM (moF al st co da td d mo i) (7 * (16 * (i : Int) + d)) td co da (st (i : Int)) else moF al st co da td d mo i
theorem moF_y {al st co da : Int → Int} {td d : Int} {mo : Int → Int} {i : Nat} (h : imP al st da d (i : Int)) : moF al st co da td d mo (i + 1) = wrM (moF al st co da td d mo i) (7 * (16 * (i : Int) + d)) td co da (st (i : Int)) := if_pos h
theorem moF_n {al st co da : Int → Int} {td d : Int} {mo : Int → Int} {i : Nat} (h : ¬ imP al st da d (i : Int)) : moF al st co da td d mo (i + 1) = moF al st co da td d mo i := if_neg h
theorem moF_bd {al st co da : Int → Int} {td d : Int} {mo : Int → Int} (hf : ∀ j : Int, -1 ≤ mo j ∧ mo j ≤ 1000000) (htd : 0 ≤ td ∧ td ≤ 1000000) (hco : ∀ j : Int, 0 ≤ co j ∧ co j ≤ 5) (hda : ∀ j : Int, 0 ≤ da j ∧ da j ≤ 60) (i : Nat) : ∀ j : Int, -1 ≤ moF al st co da td d mo i j ∧ moF al st co da td d mo i j ≤ 1000000 := by
  induction i with
  | zero => exact hf
  | succ i ih =>
    by_cases e : imP al st da d (i : Int)
    · rw [moF_y e]
      exact wrM_bd ih htd hco hda _ _
    · rw [moF_n e]
      exact ih
def enM (mo : Int → Int) (d : Int) : Nat → Int → Int
  | 0 => mo
  | k + 1 => up (enM mo d k) (7 * (16 * d + (k : Int))) (-1)
def icF (mo : Int → Int) (n : Nat) (t p : Int) : Int := if 0 < wsM mo n p t then 1 else 0
theorem icF_01 (mo : Int → Int) (n : Nat) (t p : Int) : 0 ≤ icF mo n t p ∧ icF mo n t p ≤ 1 := by
  unfold icF
  split <;> decide
def psF (mo : Int → Int) (n : Nat) (td k : Int) : Int := smF (icF mo n (td + k)) n
def wT (mo : Int → Int) (n : Nat) (td p : Int) : Int → Int := fun t => wsM mo n p (td + t)
def weM (al mo : Int → Int) (n : Nat) (td c p : Int) : Int := if al p ≠ 0 ∧ wsM mo n p td = c then 1 else 0
def wsZ (mo : Int → Int) (n : Nat) (td p : Int) : Int := wsM mo n p td
def lmM (mr st al co da : Int → Int) (td p d : Int) : Int → Int := if imP al st da d p then wrM (up mr 0 (-1)) 0 td co da (st p) else up mr 0 (-1)
theorem lmM_bd {mr st al co da : Int → Int} {td : Int} (hf : ∀ j : Int, -1 ≤ mr j ∧ mr j ≤ 1000000) (htd : 0 ≤ td ∧ td ≤ 1000000) (hco : ∀ j : Int, 0 ≤ co j ∧ co j ≤ 5) (hda : ∀ j : Int, 0 ≤ da j ∧ da j ≤ 60) (p d : Int) : ∀ j : Int, -1 ≤ lmM mr st al co da td p d j ∧ lmM mr st al co da td p d j ≤ 1000000 := by
  unfold lmM
  split
  · exact wrM_bd (up_bd hf ⟨by decide, by decide⟩) htd hco hda _ _
  · exact up_bd hf ⟨by decide, by decide⟩
def wtM (mo mr : Int → Int) (n : Nat) (p t : Int) : Int := max (wsM mo n p t) (wnM mr 0 t)
def wtF (mo mr : Int → Int) (n : Nat) (td p k : Int) : Int := if 0 < wtM mo mr n p (td + k) then 1 else 0
theorem wtF_01 (mo mr : Int → Int) (n : Nat) (td p k : Int) : 0 ≤ wtF mo mr n td p k ∧ wtF mo mr n td p k ≤ 1 := by
  unfold wtF
  split <;> decide
abbrev adP (al : Int → Int) (d p : Int) : Prop := p ≠ d ∧ al p ≠ 0
def adS (pa sp al : Int → Int) (n : Nat) (d : Int) (st : Int → Int) : Nat → Int → Int
  | 0 => st
  | i + 1 => if adP al d (i : Int) then goF pa sp n (adS pa sp al n d st i) d else adS pa sp al n d st i
def adM (pa sp al co da : Int → Int) (n : Nat) (td d : Int) (st mr : Int → Int) : Nat → Int → Int
  | 0 => mr
  | i + 1 => if adP al d (i : Int) then lmM (adM pa sp al co da n td d st mr i) (goF pa sp n (adS pa sp al n d st i) d) al co da td (i : Int) d else adM pa sp al co da n td d st mr i
def adC (pa sp al co da mo : Int → Int) (n : Nat) (td d : Int) (st mr : Int → Int) : Nat → Int
  | 0 => 0
  | i + 1 => if adP al d (i : Int) then adC pa sp al co da mo n td d st mr i + smF (wtF mo (adM pa sp al co da n td d st mr (i + 1)) n td (i : Int)) 180 else adC pa sp al co da mo n td d st mr i
theorem adS_y {pa sp al : Int → Int} {n : Nat} {d : Int} {st : Int → Int} {i : Nat} (h : adP al d (i : Int)) : adS pa sp al n d st (i + 1) = goF pa sp n (adS pa sp al n d st i) d := if_pos h
theorem adS_n {pa sp al : Int → Int} {n : Nat} {d : Int} {st : Int → Int} {i : Nat} (h : ¬ adP al d (i : Int)) : adS pa sp al n d st (i + 1) = adS pa sp al n d st i := if_neg h
theorem adM_y {pa sp al co da : Int → Int} {n : Nat} {td d : Int} {st mr : Int → Int} {i : Nat} (h : adP al d (i : Int)) : adM pa sp al co da n td d st mr (i + 1) = lmM (adM pa sp al co da n td d st mr i) (goF pa sp n (adS pa sp al n d st i) d) al co da td (i : Int) d := if_pos h
theorem adM_n {pa sp al co da : Int → Int} {n : Nat} {td d : Int} {st mr : Int → Int} {i : Nat} (h : ¬ adP al d (i : Int)) : adM pa sp al co da n td d st mr (i + 1) = adM pa sp al co da n td d st mr i := if_neg h
theorem adC_y {pa sp al co da mo : Int → Int} {n : Nat} {td d : Int} {st mr : Int → Int} {i : Nat} (h : adP al d (i : Int)) : adC pa sp al co da mo n td d st mr (i + 1) = adC pa sp al co da mo n td d st mr i + smF (wtF mo (lmM (adM pa sp al co da n td d st mr i) (goF pa sp n (adS pa sp al n d st i) d) al co da td (i : Int) d) n td (i : Int)) 180 := by
  show (if adP al d (i : Int) then _ else _) = _
  rw [if_pos h, adM_y h]
theorem adC_n {pa sp al co da mo : Int → Int} {n : Nat} {td d : Int} {st mr : Int → Int} {i : Nat} (h : ¬ adP al d (i : Int)) : adC pa sp al co da mo n td d st mr (i + 1) = adC pa sp al co da mo n td d st mr i := if_neg h
theorem adS_bd {pa sp al : Int → Int} {n : Nat} {d : Int} {st : Int → Int} (h : ∀ j : Int, -1 ≤ st j ∧ st j ≤ 4) (i : Nat) : ∀ j : Int, -1 ≤ adS pa sp al n d st i j ∧ adS pa sp al n d st i j ≤ 4 := by
  induction i with
  | zero => exact h
  | succ i ih =>
    by_cases e : adP al d (i : Int)
    · rw [adS_y e]
      exact goF_bd ih pa sp n d
    · rw [adS_n e]
      exact ih
theorem adM_bd {pa sp al co da : Int → Int} {n : Nat} {td d : Int} {st mr : Int → Int} (hf : ∀ j : Int, -1 ≤ mr j ∧ mr j ≤ 1000000) (htd : 0 ≤ td ∧ td ≤ 1000000) (hco : ∀ j : Int, 0 ≤ co j ∧ co j ≤ 5) (hda : ∀ j : Int, 0 ≤ da j ∧ da j ≤ 60) (i : Nat) : ∀ j : Int, -1 ≤ adM pa sp al co da n td d st mr i j ∧ adM pa sp al co da n td d st mr i j ≤ 1000000 := by
  induction i with
  | zero => exact hf
  | succ i ih =>
    by_cases e : adP al d (i : Int)
    · rw [adM_y e]
      exact lmM_bd ih htd hco hda _ _
    · rw [adM_n e]
      exact ih
theorem adC_bd (pa sp al co da mo : Int → Int) (n : Nat) (td d : Int) (st mr : Int → Int) (i : Nat) : 0 ≤ adC pa sp al co da mo n td d st mr i ∧ adC pa sp al co da mo n td d st mr i ≤ 180 * (i : Int) := by
  induction i with
  | zero => exact ⟨Int.le_refl 0, Int.le_refl 0⟩
  | succ i ih =>
    by_cases e : adP al d (i : Int)
    · rw [adC_y e]
      have := smF_bd (f := wtF mo (lmM (adM pa sp al co da n td d st mr i) (goF pa sp n (adS pa sp al n d st i) d) al co da td (i : Int) d) n td (i : Int)) (k := 180) (B := 1) (fun j => wtF_01 _ _ _ _ _ _)
      omega
    · rw [adC_n e]
      omega
def heS (pa sp al : Int → Int) (n : Nat) (st : Int → Int) : Nat → Int → Int
  | 0 => st
  | i + 1 => if al (i : Int) ≠ 0 then adS pa sp al n (i : Int) (heS pa sp al n st i) n else heS pa sp al n st i
def heM (pa sp al co da : Int → Int) (n : Nat) (td : Int) (st mr : Int → Int) : Nat → Int → Int
  | 0 => mr
  | i + 1 => if al (i : Int) ≠ 0 then adM pa sp al co da n td (i : Int) (heS pa sp al n st i) (heM pa sp al co da n td st mr i) n else heM pa sp al co da n td st mr i
def heV (pa sp al co da mo : Int → Int) (n : Nat) (td : Int) (st mr : Int → Int) (i : Nat) : Int := if al (i : Int) ≠ 0 then adC pa sp al co da mo n td (i : Int) (heS pa sp al n st i) (heM pa sp al co da n td st mr i) n else -1
/-- the best so far of values v, from -1 on, and whose it is -/
def hmF (v : Nat → Int) : Nat → Int
  | 0 => -1
  | i + 1 => if hmF v i < v i then v i else hmF v i
def hbF (v : Nat → Int) : Nat → Int
  | 0 => -1
  | i + 1 => if hmF v i < v i then (i : Int) else hbF v i
theorem heS_y {pa sp al : Int → Int} {n : Nat} {st : Int → Int} {i : Nat} (h : al (i : Int) ≠ 0) : heS pa sp al n st (i + 1) = adS pa sp al n (i : Int) (heS pa sp al n st i) n := if_pos h
theorem heS_n {pa sp al : Int → Int} {n : Nat} {st : Int → Int} {i : Nat} (h : al (i : Int) = 0) : heS pa sp al n st (i + 1) = heS pa sp al n st i := if_neg (by omega)
theorem heM_y {pa sp al co da : Int → Int} {n : Nat} {td : Int} {st mr : Int → Int} {i : Nat} (h : al (i : Int) ≠ 0) : heM pa sp al co da n td st mr (i + 1) = adM pa sp al co da n td (i : Int) (heS pa sp al n st i) (heM pa sp al co da n td st mr i) n := if_pos h
theorem heM_n {pa sp al co da : Int → Int} {n : Nat} {td : Int} {st mr : Int → Int} {i : Nat} (h : al (i : Int) = 0) : heM pa sp al co da n td st mr (i + 1) = heM pa sp al co da n td st mr i := if_neg (by omega)
theorem heV_y {pa sp al co da mo : Int → Int} {n : Nat} {td : Int} {st mr : Int → Int} {i : Nat} (h : al (i : Int) ≠ 0) : heV pa sp al co da mo n td st mr i = adC pa sp al co da mo n td (i : Int) (heS pa sp al n st i) (heM pa sp al co da n td st mr i) n := if_pos h
theorem heV_n {pa sp al co da mo : Int → Int} {n : Nat} {td : Int} {st mr : Int → Int} {i : Nat} (h : al (i : Int) = 0) : heV pa sp al co da mo n td st mr i = -1 := if_neg (by omega)
theorem heS_bd {pa sp al : Int → Int} {n : Nat} {st : Int → Int} (h : ∀ j : Int, -1 ≤ st j ∧ st j ≤ 4) (i : Nat) : ∀ j : Int, -1 ≤ heS pa sp al n st i j ∧ heS pa sp al n st i j ≤ 4 := by
  induction i with
  | zero => exact h
  | succ i ih =>
    by_cases e : al (i : Int) ≠ 0
    · rw [heS_y e]
      exact adS_bd ih n
    · rw [heS_n (by omega)]
      exact ih
theorem heM_bd {pa sp al co da : Int → Int} {n : Nat} {td : Int} {st mr : Int → Int} (hf : ∀ j : Int, -1 ≤ mr j ∧ mr j ≤ 1000000) (htd : 0 ≤ td ∧ td ≤ 1000000) (hco : ∀ j : Int, 0 ≤ co j ∧ co j ≤ 5) (hda : ∀ j : Int, 0 ≤ da j ∧ da j ≤ 60) (i : Nat) : ∀ j : Int, -1 ≤ heM pa sp al co da n td st mr i j ∧ heM pa sp al co da n td st mr i j ≤ 1000000 := by
  induction i with
  | zero => exact hf
  | succ i ih =>
    by_cases e : al (i : Int) ≠ 0
    · rw [heM_y e]
      exact adM_bd ih htd hco hda n
    · rw [heM_n (by omega)]
      exact ih
theorem heV_bd (pa sp al co da mo : Int → Int) (n : Nat) (td : Int) (st mr : Int → Int) (i : Nat) : -1 ≤ heV pa sp al co da mo n td st mr i ∧ heV pa sp al co da mo n td st mr i ≤ 180 * (n : Int) := by
  unfold heV
  split
  · have := adC_bd pa sp al co da mo n td (i : Int) (heS pa sp al n st i) (heM pa sp al co da n td st mr i) n
    omega
  · omega
theorem hmF_bd {v : Nat → Int} {B : Int} (hB : -1 ≤ B) (h : ∀ i, -1 ≤ v i ∧ v i ≤ B) (i : Nat) : -1 ≤ hmF v i ∧ hmF v i ≤ B := by
  induction i with
  | zero => exact ⟨Int.le_refl (-1), hB⟩
  | succ i ih =>
    have := h i
    show -1 ≤ (if hmF v i < v i then v i else hmF v i) ∧ (if hmF v i < v i then v i else hmF v i) ≤ B
    split <;> omega
theorem hmF_y {v : Nat → Int} {i : Nat} (h : hmF v i < v i) : hmF v (i + 1) = v i := if_pos h
theorem hmF_n {v : Nat → Int} {i : Nat} (h : v i ≤ hmF v i) : hmF v (i + 1) = hmF v i := if_neg (by omega)
theorem hbF_y {v : Nat → Int} {i : Nat} (h : hmF v i < v i) : hbF v (i + 1) = (i : Int) := if_pos h
theorem hbF_n {v : Nat → Int} {i : Nat} (h : v i ≤ hmF v i) : hbF v (i + 1) = hbF v i := if_neg (by omega)
def moS (mo : Int → Int) (n : Nat) (td p : Int) : Int := mxF (lM mo td p) n
theorem wtM_bd {mo mr : Int → Int} (h : ∀ j : Int, -1 ≤ mo j ∧ mo j ≤ 1000000) (h2 : ∀ j : Int, -1 ≤ mr j ∧ mr j ≤ 1000000) (n : Nat) (p t : Int) : 0 ≤ wtM mo mr n p t ∧ wtM mo mr n p t ≤ 1000000 := by
  unfold wtM
  have h3 := wsM_bd h n p t
  have h4 := wnM_bd h2 0 t
  omega
