/-! what the class's methods answer, in whole numbers -/
abbrev stp (pa sp : Int → Int) (a b : Int) : Prop := pa a = b ∨ pa b = a ∨ sp a = b
def dAll (da : Int → Int) (k g : Int) : Int := if g < 1 ∨ 4 < g then 0 else da (k * 12 + (g - 1) * 3 + 0) + da (k * 12 + (g - 1) * 3 + 1) + da (k * 12 + (g - 1) * 3 + 2)
def cOn (co da : Int → Int) (k g t : Int) : Int := if g < 1 ∨ 4 < g ∨ t < 0 then 0 else if t < da (k * 12 + (g - 1) * 3 + 0) then co (k * 12 + (g - 1) * 3 + 0) else if t < da (k * 12 + (g - 1) * 3 + 0) + da (k * 12 + (g - 1) * 3 + 1) then co (k * 12 + (g - 1) * 3 + 1) else if t < da (k * 12 + (g - 1) * 3 + 0) + da (k * 12 + (g - 1) * 3 + 1) + da (k * 12 + (g - 1) * 3 + 2) then co (k * 12 + (g - 1) * 3 + 2) else 0
theorem dAll_bd {da : Int → Int} (h : ∀ j : Int, 0 ≤ da j ∧ da j ≤ 60) (k g : Int) : 0 ≤ dAll da k g ∧ dAll da k g ≤ 180 := by
  unfold dAll
  split
  · decide
  · have h0 := h (k * 12 + (g - 1) * 3 + 0)
    have h1 := h (k * 12 + (g - 1) * 3 + 1)
    have h2 := h (k * 12 + (g - 1) * 3 + 2)
    omega
theorem dAll_bx (da : Int → Int) (h : ∀ j : Int, 0 ≤ da j ∧ da j ≤ 60) (k g : Int) : 0 ≤ dAll da k g ∧ dAll da k g ≤ 180 := dAll_bd h k g
theorem cOn_bd {co : Int → Int} (h : ∀ j : Int, 0 ≤ co j ∧ co j ≤ 5) (da : Int → Int) (k g t : Int) : 0 ≤ cOn co da k g t ∧ cOn co da k g t ≤ 5 := by
  unfold cOn
  split
  · decide
  · split
    · exact h _
    · split
      · exact h _
      · split
        · exact h _
        · decide
theorem cOn_out {co da : Int → Int} {k g t : Int} (h : dAll da k g ≤ t) (hd : ∀ j : Int, 0 ≤ da j ∧ da j ≤ 60) : cOn co da k g t = 0 := by
  unfold cOn
  unfold dAll at h
  split
  · rfl
  · rename_i h1
    rw [if_neg (by omega)] at h
    have h0 := hd (k * 12 + (g - 1) * 3 + 0)
    have h1 := hd (k * 12 + (g - 1) * 3 + 1)
    have h2 := hd (k * 12 + (g - 1) * 3 + 2)
    rw [if_neg (by omega), if_neg (by omega), if_neg (by omega)]
def cpZ (f g : Int → Int) (sp dp k : Int) : Int → Int := fun j => if dp ≤ j ∧ j < dp + k then f (sp + (j - dp)) else g j
theorem cpZ_bd {f g : Int → Int} {lo hi : Int} (hf : ∀ j : Int, lo ≤ f j ∧ f j ≤ hi) (hg : ∀ j : Int, lo ≤ g j ∧ g j ≤ hi) (sp dp k : Int) : ∀ j : Int, lo ≤ cpZ f g sp dp k j ∧ cpZ f g sp dp k j ≤ hi := by
  intro j
  unfold cpZ
  split
  · exact hf _
  · exact hg _
theorem up_bd {f : Int → Int} {lo hi : Int} (hf : ∀ j : Int, lo ≤ f j ∧ f j ≤ hi) {k v : Int} (hv : lo ≤ v ∧ v ≤ hi) : ∀ j : Int, lo ≤ up f k v j ∧ up f k v j ≤ hi := by
  intro j
  unfold up
  split
  · exact hv
  · exact hf _
theorem cst_bd {lo hi v : Int} (hv : lo ≤ v ∧ v ≤ hi) : ∀ j : Int, lo ≤ cst v j ∧ cst v j ≤ hi := fun _ => hv
-- kin
def rchF (pa sp dg : Int → Int) (s f g : Int) (k : Nat) : Int → Int := fun t => if 0 ≤ t ∧ t < (k : Int) ∧ t ≠ s ∧ dg t = 0 ∧ stp pa sp f t then g else dg t
theorem rchF_0 (pa sp dg : Int → Int) (s f g : Int) : rchF pa sp dg s f g 0 = dg := by
  funext t
  unfold rchF
  rw [if_neg (by omega)]
theorem rchF_n {pa sp dg : Int → Int} {s f g : Int} {k : Nat} (h : ¬ ((k : Int) ≠ s ∧ dg k = 0 ∧ stp pa sp f k)) : rchF pa sp dg s f g (k + 1) = rchF pa sp dg s f g k := by
  funext t
  unfold rchF
  by_cases e : t = (k : Int)
  · subst e
    rw [if_neg (fun h' => h h'.2.2), if_neg (by omega)]
  · have e2 : (0 ≤ t ∧ t < ((k + 1 : Nat) : Int) ∧ t ≠ s ∧ dg t = 0 ∧ stp pa sp f t) ↔ (0 ≤ t ∧ t < (k : Int) ∧ t ≠ s ∧ dg t = 0 ∧ stp pa sp f t) :=
      ⟨fun ⟨a, b, r⟩ => ⟨a, by omega, r⟩, fun ⟨a, b, r⟩ => ⟨a, by omega, r⟩⟩
    by_cases e3 : (0 ≤ t ∧ t < (k : Int) ∧ t ≠ s ∧ dg t = 0 ∧ stp pa sp f t)
    · rw [if_pos (e2.mpr e3), if_pos e3]
    · rw [if_neg (fun h' => e3 (e2.mp h')), if_neg e3]
theorem rchF_y {pa sp dg : Int → Int} {s f g : Int} {k : Nat} (h1 : (k : Int) ≠ s) (h2 : dg k = 0) (h3 : stp pa sp f k) : rchF pa sp dg s f g (k + 1) = up (rchF pa sp dg s f g k) k g := by
  funext t
  unfold rchF up
  by_cases e : t = (k : Int)
  · subst e
    rw [if_pos ⟨by omega, by omega, h1, h2, h3⟩, if_pos rfl]
  · rw [if_neg e]
    have e2 : (0 ≤ t ∧ t < ((k + 1 : Nat) : Int) ∧ t ≠ s ∧ dg t = 0 ∧ stp pa sp f t) ↔ (0 ≤ t ∧ t < (k : Int) ∧ t ≠ s ∧ dg t = 0 ∧ stp pa sp f t) :=
      ⟨fun ⟨a, b, r⟩ => ⟨a, by omega, r⟩, fun ⟨a, b, r⟩ => ⟨a, by omega, r⟩⟩
    by_cases e3 : (0 ≤ t ∧ t < (k : Int) ∧ t ≠ s ∧ dg t = 0 ∧ stp pa sp f t)
    · exact (if_pos (e2.mpr e3)).trans (if_pos e3).symm
    · exact (if_neg (fun h' => e3 (e2.mp h'))).trans (if_neg e3).symm
theorem rchF_k {pa sp dg : Int → Int} {s f g : Int} {k : Nat} : rchF pa sp dg s f g k k = dg k := by
  unfold rchF
  rw [if_neg (by omega)]
theorem rchF_bd {pa sp dg : Int → Int} (h : ∀ j : Int, 0 ≤ dg j ∧ dg j ≤ 4) {s f g : Int} (hg : 0 ≤ g ∧ g ≤ 4) {k : Nat} : ∀ j : Int, 0 ≤ rchF pa sp dg s f g k j ∧ rchF pa sp dg s f g k j ≤ 4 := by
  intro j
  unfold rchF
  split
  · exact hg
  · exact h j
def rdF (pa sp : Int → Int) (n : Nat) (s g : Int) (dg : Int → Int) : Nat → Int → Int
  | 0 => dg
  | i + 1 => if rdF pa sp n s g dg i (i : Int) = g - 1 then rchF pa sp (rdF pa sp n s g dg i) s (i : Int) g n else rdF pa sp n s g dg i
theorem rdF_y {pa sp : Int → Int} {n : Nat} {s g : Int} {dg : Int → Int} {i : Nat} (h : rdF pa sp n s g dg i (i : Int) = g - 1) : rdF pa sp n s g dg (i + 1) = rchF pa sp (rdF pa sp n s g dg i) s (i : Int) g n := if_pos h
theorem rdF_n {pa sp : Int → Int} {n : Nat} {s g : Int} {dg : Int → Int} {i : Nat} (h : rdF pa sp n s g dg i (i : Int) ≠ g - 1) : rdF pa sp n s g dg (i + 1) = rdF pa sp n s g dg i := if_neg h
theorem rdF_bd {pa sp : Int → Int} {n : Nat} {s g : Int} {dg : Int → Int} (h : ∀ j : Int, 0 ≤ dg j ∧ dg j ≤ 4) (hg : 0 ≤ g ∧ g ≤ 4) (i : Nat) : ∀ j : Int, 0 ≤ rdF pa sp n s g dg i j ∧ rdF pa sp n s g dg i j ≤ 4 := by
  induction i with
  | zero => exact h
  | succ i ih =>
    show ∀ j : Int, 0 ≤ (if rdF pa sp n s g dg i (i : Int) = g - 1 then rchF pa sp (rdF pa sp n s g dg i) s (i : Int) g n else rdF pa sp n s g dg i) j ∧ (if rdF pa sp n s g dg i (i : Int) = g - 1 then rchF pa sp (rdF pa sp n s g dg i) s (i : Int) g n else rdF pa sp n s g dg i) j ≤ 4
    split
    · exact rchF_bd ih hg
    · exact ih
def dg1 (pa sp : Int → Int) (n : Nat) (s : Int) : Int → Int := rchF pa sp (cst 0) s s 1 n
def dg2 (pa sp : Int → Int) (n : Nat) (s : Int) : Int → Int := rdF pa sp n s 2 (dg1 pa sp n s) n
def dg3 (pa sp : Int → Int) (n : Nat) (s : Int) : Int → Int := rdF pa sp n s 3 (dg2 pa sp n s) n
def dgF (pa sp : Int → Int) (n : Nat) (s : Int) : Int → Int := rdF pa sp n s 4 (dg3 pa sp n s) n
theorem dg1_bd (pa sp : Int → Int) (n : Nat) (s : Int) : ∀ j : Int, 0 ≤ dg1 pa sp n s j ∧ dg1 pa sp n s j ≤ 4 := rchF_bd (cst_bd ⟨by decide, by decide⟩) ⟨by decide, by decide⟩
theorem dg2_bd (pa sp : Int → Int) (n : Nat) (s : Int) : ∀ j : Int, 0 ≤ dg2 pa sp n s j ∧ dg2 pa sp n s j ≤ 4 := rdF_bd (dg1_bd pa sp n s) ⟨by decide, by decide⟩ n
theorem dg3_bd (pa sp : Int → Int) (n : Nat) (s : Int) : ∀ j : Int, 0 ≤ dg3 pa sp n s j ∧ dg3 pa sp n s j ≤ 4 := rdF_bd (dg2_bd pa sp n s) ⟨by decide, by decide⟩ n
theorem dgF_bd (pa sp : Int → Int) (n : Nat) (s : Int) : ∀ j : Int, 0 ≤ dgF pa sp n s j ∧ dgF pa sp n s j ≤ 4 := rdF_bd (dg3_bd pa sp n s) ⟨by decide, by decide⟩ n
def lvS (sp : Int → Int) (p : Int) : Int → Int := if sp p ≠ -1 then up sp (sp p) (-1) else sp
theorem lvS_bd {sp : Int → Int} (h : ∀ j : Int, -1 ≤ sp j ∧ sp j ≤ 15) (p : Int) : ∀ j : Int, -1 ≤ lvS sp p j ∧ lvS sp p j ≤ 15 := by
  unfold lvS
  split
  · exact up_bd h ⟨by decide, by decide⟩
  · exact h
def kinF (al dg : Int → Int) (g j : Int) : Int := if al j ≠ 0 ∧ dg j = g then 1 else 0
-- mourning
def lf (da mb dd : Int → Int) (td p d : Int) : Int := max 0 (dAll da d (mb (p * 16 + d)) - (td - dd d))
theorem lf_bd {da dd : Int → Int} {td : Int} (h : ∀ j : Int, 0 ≤ da j ∧ da j ≤ 60) (mb : Int → Int) (p d : Int) : 0 ≤ lf da mb dd td p d := by
  unfold lf
  omega
def gtF (f : Int → Int) (j : Int) : Int := if 0 < f j then 1 else 0
def caT (co da mb dd : Int → Int) (td p t d : Int) : Int := cOn co da d (mb (p * 16 + d)) (td - dd d + t)
def ca (co da mb dd : Int → Int) (td : Int) (n : Nat) (p t : Int) : Int := mxF (caT co da mb dd td p t) n
theorem ca_bd {co : Int → Int} (h : ∀ j : Int, 0 ≤ co j ∧ co j ≤ 5) (da mb dd : Int → Int) (td : Int) (n : Nat) (p t : Int) : 0 ≤ ca co da mb dd td n p t ∧ ca co da mb dd td n p t ≤ 5 := mxF_bd (by decide) (fun _ => (cOn_bd h _ _ _ _).2)
def cwF (al co da mb dd : Int → Int) (td : Int) (n : Nat) (c p : Int) : Int := if al p ≠ 0 ∧ ca co da mb dd td n p 0 = c then 1 else 0
def pnI (B C : Int → Int) (j : Nat) : Int → Int := fun t => if 0 ≤ t ∧ t < (j : Int) then max (B t) (C t) else B t
theorem pnI_0 (B C : Int → Int) : pnI B C 0 = B := by
  funext t
  unfold pnI
  rw [if_neg (by omega)]
theorem pnI_k (B C : Int → Int) (j : Nat) : pnI B C j j = B j := by
  unfold pnI
  rw [if_neg (by omega)]
theorem pnI_s (B C : Int → Int) (j : Nat) : pnI B C (j + 1) = up (pnI B C j) j (max (pnI B C j j) (C j)) := by
  rw [pnI_k]
  funext t
  unfold pnI up
  by_cases e : t = (j : Int)
  · subst e
    rw [if_pos ⟨by omega, by omega⟩, if_pos rfl]
  · rw [if_neg e]
    by_cases e2 : 0 ≤ t ∧ t < (j : Int)
    · exact (if_pos ⟨by omega, by omega⟩).trans (if_pos e2).symm
    · exact (if_neg (by omega)).trans (if_neg e2).symm
def caC (co da mb dd : Int → Int) (td p d t : Int) : Int := cOn co da d (mb (p * 16 + d)) (td - dd d + t)
theorem pnI_bd {B C : Int → Int} (hB : ∀ j : Int, 0 ≤ B j ∧ B j ≤ 5) (hC : ∀ j : Int, 0 ≤ C j ∧ C j ≤ 5) (k : Nat) : ∀ j : Int, 0 ≤ pnI B C k j ∧ pnI B C k j ≤ 5 := by
  intro j
  unfold pnI
  have h1 := hB j
  have h2 := hC j
  split <;> omega
theorem paint_s {co da mb dd : Int → Int} {td p : Int} {i : Nat} (hco : ∀ j : Int, 0 ≤ co j ∧ co j ≤ 5) (hda : ∀ j : Int, 0 ≤ da j ∧ da j ≤ 60) (t : Int) (h0 : 0 ≤ t) (h1 : t < 180) :
    pnI (ca co da mb dd td i p) (caC co da mb dd td p i) (min (lf da mb dd td p i) 180).toNat t = ca co da mb dd td (i + 1) p t := by
  show _ = max (ca co da mb dd td i p t) (caT co da mb dd td p t i)
  unfold pnI
  by_cases h : t < lf da mb dd td p i
  · rw [if_pos ⟨h0, by omega⟩]
    rfl
  · rw [if_neg (by omega)]
    have e : caT co da mb dd td p t i = 0 := by
      unfold caT
      unfold lf at h
      exact cOn_out (by omega) hda
    have h2 := ca_bd hco da mb dd td i p t
    rw [e]
    omega
def neF (f : Int → Int) (j : Int) : Int := if f j ≠ 0 then 1 else 0
def eqF (f : Int → Int) (c j : Int) : Int := if f j = c then 1 else 0
/-- the first place from k on, among m, that is under the one at 0; behind them the last but one more -/
def fst0 (f : Int → Int) : Nat → Int → Int
  | 0, k => k
  | m + 1, k => if f k < f 0 then k else fst0 f m (k + 1)
theorem fst0_s (f : Int → Int) (m : Nat) (k : Int) : fst0 f (m + 1) k = if f k < f 0 then k else fst0 f m (k + 1) := rfl
def flD (f : Int → Int) : Int := if f 0 = 0 then -1 else fst0 f 179 1
def wwF (co da ah : Int → Int) (g j : Int) : Int := if ah j ≠ 0 ∨ cOn co da 16 g j ≠ 0 then 1 else 0
theorem lf_180 {da dd : Int → Int} {td : Int} (h : ∀ j : Int, 0 ≤ da j ∧ da j ≤ 60) (hdd : ∀ j : Int, 0 ≤ dd j ∧ dd j ≤ 1000000) (htd : 0 ≤ td ∧ td ≤ 1000000) (mb : Int → Int) (p d : Int) : 0 ≤ lf da mb dd td p d ∧ lf da mb dd td p d ≤ 1000180 := by
  unfold lf
  have h1 := dAll_bd h d (mb (p * 16 + d))
  have h2 := hdd d
  omega
theorem wwF_01 (co da ah : Int → Int) (g j : Int) : 0 ≤ wwF co da ah g j ∧ wwF co da ah g j ≤ 1 := by
  unfold wwF
  split <;> decide
def wwA (co da ah : Int → Int) : Int → Int := fun g => smF (wwF co da ah g) 180
def wlI (wl co da ah : Int → Int) (k : Nat) : Int → Int := fun g => if 0 ≤ g ∧ g < (k : Int) then wwA co da ah g else wl g
theorem wlI_0 (wl co da ah : Int → Int) : wlI wl co da ah 0 = wl := by
  funext g
  unfold wlI
  rw [if_neg (by omega)]
theorem wlI_s (wl co da ah : Int → Int) (k : Nat) : wlI wl co da ah (k + 1) = up (wlI wl co da ah k) k (smF (wwF co da ah (k : Int)) 180) := by
  funext g
  unfold wlI up
  by_cases e : g = (k : Int)
  · subst e
    rw [if_pos ⟨by omega, by omega⟩, if_pos rfl]
    rfl
  · rw [if_neg e]
    by_cases e2 : 0 ≤ g ∧ g < (k : Int)
    · exact (if_pos ⟨by omega, by omega⟩).trans (if_pos e2).symm
    · exact (if_neg (by omega)).trans (if_neg e2).symm
theorem wlI_5 (wl co da ah : Int → Int) (j : Int) (h0 : 0 ≤ j) (h1 : j < ((5 : Nat) : Int)) : wlI wl co da ah 5 j = wwA co da ah j := by
  unfold wlI
  rw [if_pos ⟨h0, h1⟩]
def loF (lo : Int → Int) (p : Int) (w dg : Int → Int) (k : Nat) : Int → Int := fun j => if 0 ≤ j ∧ j < (k : Int) ∧ j ≠ p then lo j + w (dg j) else lo j
theorem loF_0 (lo : Int → Int) (p : Int) (w dg : Int → Int) : loF lo p w dg 0 = lo := by
  funext g
  unfold loF
  rw [if_neg (by omega)]
theorem loF_k (lo : Int → Int) (p : Int) (w dg : Int → Int) (k : Nat) : loF lo p w dg k k = lo k := by
  unfold loF
  rw [if_neg (by omega)]
theorem loF_y {lo : Int → Int} {p : Int} {w dg : Int → Int} {k : Nat} (h : (k : Int) ≠ p) : loF lo p w dg (k + 1) = up (loF lo p w dg k) k (loF lo p w dg k k + w (dg k)) := by
  rw [loF_k]
  funext g
  unfold loF up
  by_cases e : g = (k : Int)
  · subst e
    rw [if_pos ⟨by omega, by omega, h⟩, if_pos rfl]
  · rw [if_neg e]
    by_cases e2 : 0 ≤ g ∧ g < (k : Int) ∧ g ≠ p
    · exact (if_pos (by omega)).trans (if_pos e2).symm
    · exact (if_neg (by omega)).trans (if_neg e2).symm
theorem loF_n {lo : Int → Int} {p : Int} {w dg : Int → Int} {k : Nat} (h : (k : Int) = p) : loF lo p w dg (k + 1) = loF lo p w dg k := by
  funext g
  unfold loF
  by_cases e2 : 0 ≤ g ∧ g < (k : Int) ∧ g ≠ p
  · rw [if_pos (by omega), if_pos e2]
  · rw [if_neg (by omega), if_neg e2]
def wbF (al da dg : Int → Int) (j : Int) : Int := if al j ≠ 0 ∧ 0 < dAll da 16 (dg j) then 1 else 0
def enC (mb : Int → Int) (p : Int) : Nat → Int → Int
  | 0 => mb
  | k + 1 => up (enC mb p k) (p * 16 + (k : Int)) 0
theorem enC_bd {mb : Int → Int} (h : ∀ j : Int, 0 ≤ mb j ∧ mb j ≤ 4) (p : Int) (k : Nat) : ∀ j : Int, 0 ≤ enC mb p k j ∧ enC mb p k j ≤ 4 := by
  induction k with
  | zero => exact h
  | succ k ih => exact up_bd ih ⟨by decide, by decide⟩
def bgC (al da dg mb : Int → Int) (d : Int) : Nat → Int → Int
  | 0 => mb
  | i + 1 => if al (i : Int) ≠ 0 ∧ 0 < dAll da 16 (dg (i : Int)) then up (bgC al da dg mb d i) ((i : Int) * 16 + d) (dg (i : Int)) else bgC al da dg mb d i
theorem bgC_y {al da dg mb : Int → Int} {d : Int} {i : Nat} (h : al (i : Int) ≠ 0 ∧ 0 < dAll da 16 (dg (i : Int))) : bgC al da dg mb d (i + 1) = up (bgC al da dg mb d i) ((i : Int) * 16 + d) (dg (i : Int)) := if_pos h
theorem bgC_n {al da dg mb : Int → Int} {d : Int} {i : Nat} (h : ¬ (al (i : Int) ≠ 0 ∧ 0 < dAll da 16 (dg (i : Int)))) : bgC al da dg mb d (i + 1) = bgC al da dg mb d i := if_neg h
theorem bgC_bd {al da dg mb : Int → Int} {d : Int} (h : ∀ j : Int, 0 ≤ mb j ∧ mb j ≤ 4) (hg : ∀ j : Int, 0 ≤ dg j ∧ dg j ≤ 4) (i : Nat) : ∀ j : Int, 0 ≤ bgC al da dg mb d i j ∧ bgC al da dg mb d i j ≤ 4 := by
  induction i with
  | zero => exact h
  | succ i ih =>
    by_cases e : al (i : Int) ≠ 0 ∧ 0 < dAll da 16 (dg (i : Int))
    · rw [bgC_y e]
      exact up_bd ih (hg _)
    · rw [bgC_n e]
      exact ih
/-- what the last of k rounds left -/
def lastF (f : Int → Int) (F : Int → Int → Int) : Nat → Int → Int
  | 0 => f
  | k + 1 => F (k : Int)
def waP (co da mb dd : Int → Int) (td : Int) (n : Nat) (k p : Int) : Int := smF (neF (ca co da mb dd td n p)) (min k 180).toNat
def caZ (co da mb dd : Int → Int) (td : Int) (n : Nat) (p : Int) : Int := ca co da mb dd td n p 0
def llS (da mb dd : Int → Int) (td : Int) (n : Nat) (p : Int) : Int := mxF (lf da mb dd td p) n
/-- what the last living one of k left -/
def lsF (al f : Int → Int) (F : Int → Int → Int) : Nat → Int → Int
  | 0 => f
  | k + 1 => if al (k : Int) ≠ 0 then F (k : Int) else lsF al f F k
theorem lsF_y {al f : Int → Int} {F : Int → Int → Int} {k : Nat} (h : al (k : Int) ≠ 0) : lsF al f F (k + 1) = F (k : Int) := if_pos h
theorem lsF_n {al f : Int → Int} {F : Int → Int → Int} {k : Nat} (h : al (k : Int) = 0) : lsF al f F (k + 1) = lsF al f F k := if_neg (by omega)
def wwP (co da mb dd : Int → Int) (td : Int) (n : Nat) (p : Int) : Int → Int := wwA co da (ca co da mb dd td n p)
def hlF (pa sp al co da mb dd : Int → Int) (td : Int) (n : Nat) : Nat → Int → Int
  | 0 => cst 0
  | i + 1 => if al (i : Int) ≠ 0 then loF (hlF pa sp al co da mb dd td n i) (i : Int) (wwP co da mb dd td n (i : Int)) (dgF pa sp n (i : Int)) n else hlF pa sp al co da mb dd td n i
theorem hlF_y {pa sp al co da mb dd : Int → Int} {td : Int} {n i : Nat} (h : al (i : Int) ≠ 0) : hlF pa sp al co da mb dd td n (i + 1) = loF (hlF pa sp al co da mb dd td n i) (i : Int) (wwP co da mb dd td n (i : Int)) (dgF pa sp n (i : Int)) n := if_pos h
theorem hlF_n {pa sp al co da mb dd : Int → Int} {td : Int} {n i : Nat} (h : al (i : Int) = 0) : hlF pa sp al co da mb dd td n (i + 1) = hlF pa sp al co da mb dd td n i := if_neg (by omega)
theorem wwA_bd (co da ah : Int → Int) (g : Int) : 0 ≤ wwA co da ah g ∧ wwA co da ah g ≤ 180 := by
  have := smF_bd (f := wwF co da ah g) (k := 180) (B := 1) (fun j => wwF_01 co da ah g j)
  unfold wwA
  omega
theorem loF_bd {lo : Int → Int} {B : Int} (h : ∀ j : Int, 0 ≤ lo j ∧ lo j ≤ B) (p : Int) {w : Int → Int} (hw : ∀ g : Int, 0 ≤ w g ∧ w g ≤ 180) (dg : Int → Int) (k : Nat) : ∀ j : Int, 0 ≤ loF lo p w dg k j ∧ loF lo p w dg k j ≤ B + 180 := by
  intro j
  have h1 := h j
  have h2 := hw (dg j)
  unfold loF
  split <;> omega
theorem hlF_bd (pa sp al co da mb dd : Int → Int) (td : Int) (n i : Nat) : ∀ j : Int, 0 ≤ hlF pa sp al co da mb dd td n i j ∧ hlF pa sp al co da mb dd td n i j ≤ 180 * (i : Int) := by
  induction i with
  | zero => exact fun _ => ⟨Int.le_refl 0, Int.le_refl 0⟩
  | succ i ih =>
    intro j
    by_cases e : al (i : Int) ≠ 0
    · rw [hlF_y e]
      have := loF_bd ih (i : Int) (fun g => wwA_bd co da (ca co da mb dd td n (i : Int)) g) (dgF pa sp n (i : Int)) n j
      have e2 : wwP co da mb dd td n (i : Int) = wwA co da (ca co da mb dd td n (i : Int)) := rfl
      rw [e2]
      omega
    · rw [hlF_n (by omega)]
      have := ih j
      omega
/-- the living one whose value is the greatest, of several the first; -1 if there is none -/
def hvF (al v : Int → Int) : Nat → Int
  | 0 => -1
  | k + 1 => if al (k : Int) ≠ 0 ∧ (hvF al v k = -1 ∨ v (k : Int) > v (hvF al v k)) then (k : Int) else hvF al v k
theorem hvF_y {al v : Int → Int} {k : Nat} (h : al (k : Int) ≠ 0 ∧ (hvF al v k = -1 ∨ v (hvF al v k) < v (k : Int))) : hvF al v (k + 1) = (k : Int) := if_pos h
theorem hvF_n {al v : Int → Int} {k : Nat} (h : ¬ (al (k : Int) ≠ 0 ∧ (hvF al v k = -1 ∨ v (hvF al v k) < v (k : Int)))) : hvF al v (k + 1) = hvF al v k := if_neg h
theorem hvF_rg (al v : Int → Int) (k : Nat) : -1 ≤ hvF al v k ∧ hvF al v k < (k : Int) := by
  induction k with
  | zero => exact ⟨Int.le_refl (-1), show (-1 : Int) < 0 by decide⟩
  | succ k ih =>
    by_cases e : al (k : Int) ≠ 0 ∧ (hvF al v k = -1 ∨ v (hvF al v k) < v (k : Int))
    · rw [hvF_y e]
      omega
    · rw [hvF_n e]
      omega
def dcF (co da : Int → Int) (b : Int) (d0 : Int64) : Nat → Int64
  | 0 => d0
  | k + 1 => (dcF co da b d0 k * 31 + (zI (co (b + (k : Int)))).toInt64) * 31 + (zI (da (b + (k : Int)))).toInt64
def h31 (d : Int64) (x : Int) : Int64 := d * 31 + (zI x).toInt64
def dpC (pa sp al co da mb dd : Int → Int) (n : Nat) (td : Int) (d : Int64) (p : Int) : Int64 :=
  h31 (h31 (h31 (h31 (h31 (h31 (h31 (h31 (h31 (h31 (h31 d (al p)) (pa p)) (sp p)) (ca co da mb dd td n p 0)) (smF (gtF (lf da mb dd td p)) n)) (mxF (lf da mb dd td p) n)) (flD (ca co da mb dd td n p)))
    (smF (kinF al (dgF pa sp n p) 1) n)) (smF (kinF al (dgF pa sp n p) 2) n)) (smF (kinF al (dgF pa sp n p) 3) n)) (smF (kinF al (dgF pa sp n p) 4) n)
def dpL (F : Int64 → Int → Int64) (d : Int64) : Nat → Int64
  | 0 => d
  | k + 1 => F (dpL F d k) (k : Int)
/-- who has the most, of several the first; -1 if nobody has any -/
def lgF (f : Int → Int) : Nat → Int
  | 0 => -1
  | k + 1 => if f (k : Int) > mxF f k then (k : Int) else lgF f k
theorem lgF_y {f : Int → Int} {k : Nat} (h : mxF f k < f (k : Int)) : lgF f (k + 1) = (k : Int) := if_pos h
theorem lgF_n {f : Int → Int} {k : Nat} (h : f (k : Int) ≤ mxF f k) : lgF f (k + 1) = lgF f k := if_neg (by omega)
theorem lgF_rg (f : Int → Int) (k : Nat) : -1 ≤ lgF f k ∧ lgF f k < (k : Int) := by
  induction k with
  | zero => exact ⟨Int.le_refl (-1), show (-1 : Int) < 0 by decide⟩
  | succ k ih =>
    by_cases h : mxF f k < f (k : Int)
    · rw [lgF_y h]
      omega
    · rw [lgF_n (by omega)]
      omega
-- what would be
def dgC (pa sp al co da mb dd : Int → Int) (n : Nat) (td wn : Int) : Int64 :=
  dpL (dpC pa sp al co da mb dd n td) (dcF co da 192 (h31 (h31 (h31 (h31 (h31 (h31 1931 n) (smF al n)) td) (mxF (caZ co da mb dd td n) n)) (lgF (llS da mb dd td n) n)) wn) 12) n
theorem dcF_st {co da : Int → Int} {d0 : Int64} {i j : Nat} : dcF co da 192 d0 (3 * i + (j + 1)) = (dcF co da 192 d0 (3 * i + j) * 31 + (zI (co (16 * 12 + ((i : Int) + 1 - 1) * 3 + (j : Int)))).toInt64) * 31 + (zI (da (16 * 12 + ((i : Int) + 1 - 1) * 3 + (j : Int)))).toInt64 := by
  show (dcF co da 192 d0 (3 * i + j) * 31 + (zI (co (192 + ((3 * i + j : Nat) : Int)))).toInt64) * 31 + (zI (da (192 + ((3 * i + j : Nat) : Int)))).toInt64 = _
  rw [show (192 : Int) + ((3 * i + j : Nat) : Int) = 16 * 12 + ((i : Int) + 1 - 1) * 3 + (j : Int) by omega]
