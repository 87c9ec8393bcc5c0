/-! rows for the walks of the Sim's methods -/
theorem mxF_bk {f : Int → Int} {k : Nat} {B : Int} (hB : 0 ≤ B) (h : ∀ j : Int, 0 ≤ j → j < (k : Int) → f j ≤ B) : 0 ≤ mxF f k ∧ mxF f k ≤ B := by
  induction k with
  | zero => exact ⟨Int.le_refl 0, hB⟩
  | succ k ih =>
    have h1 := h k (by omega) (by omega)
    have h2 := ih (fun j h0 h1 => h j h0 (by omega))
    rw [mxF_s]
    omega
theorem onF_bd {f : Int → Int} {B : Int} (h : ∀ j : Int, 0 ≤ j → j ≤ 8 → -1 ≤ f j ∧ f j ≤ B) (hB : 0 ≤ B) (t : Int) : -1 ≤ onF f t ∧ onF f t ≤ B := by
  have h3 := h 3 (by decide) (by decide)
  have h5 := h 5 (by decide) (by decide)
  have h7 := h 7 (by decide) (by decide)
  unfold onF
  split
  · exact h3
  · split
    · exact h5
    · split
      · exact h7
      · omega
theorem wrT_y {mo : Int → Int → Int} {p t i : Int} (h : mo i 0 = p) : wrT mo p t i = onF (mo i) t := if_pos h
theorem wrT_n {mo : Int → Int → Int} {p t i : Int} (h : mo i 0 ≠ p) : wrT mo p t i = 0 := if_neg h
theorem wrT_bd {mo : Int → Int → Int} {M : Nat} (hmo : ∀ i j : Int, 0 ≤ i → i < (M : Int) → 0 ≤ j → j ≤ 8 → -1 ≤ mo i j ∧ mo i j ≤ 1000000) (p t : Int) {k : Nat} (hk : k ≤ M) : 0 ≤ mxF (wrT mo p t) k ∧ mxF (wrT mo p t) k ≤ 1000000 := by
  refine mxF_bk (by decide) (fun j h0 h1 => ?_)
  have h := onF_bd (B := 1000000) (fun z z0 z8 => hmo j z h0 (by omega) z0 z8) (by decide) t
  unfold wrT
  split <;> omega
theorem lfT_y {mo : Int → Int → Int} {td p d i : Int} (h : mo i 0 = p ∧ (d < 0 ∨ mo i 1 = d)) : lfT mo td p d i = enF (mo i) - td := if_pos h
theorem lfT_n {mo : Int → Int → Int} {td p d i : Int} (h : ¬ (mo i 0 = p ∧ (d < 0 ∨ mo i 1 = d))) : lfT mo td p d i = 0 := if_neg h
theorem enF_bd {f : Int → Int} {B : Int} (h : ∀ j : Int, 0 ≤ j → j ≤ 8 → -1 ≤ f j ∧ f j ≤ B) : -4 ≤ enF f ∧ enF f ≤ 4 * B := by
  have h2 := h 2 (by decide) (by decide)
  have h4 := h 4 (by decide) (by decide)
  have h6 := h 6 (by decide) (by decide)
  have h8 := h 8 (by decide) (by decide)
  unfold enF
  omega
theorem lfT_bd {mo : Int → Int → Int} {M : Nat} (hmo : ∀ i j : Int, 0 ≤ i → i < (M : Int) → 0 ≤ j → j ≤ 8 → -1 ≤ mo i j ∧ mo i j ≤ 1000000) {td : Int} (htd : 0 ≤ td ∧ td ≤ 1000000) (p d : Int) {k : Nat} (hk : k ≤ M) : 0 ≤ mxF (lfT mo td p d) k ∧ mxF (lfT mo td p d) k ≤ 4000000 := by
  refine mxF_bk (by decide) (fun j h0 h1 => ?_)
  have h := enF_bd (B := 1000000) (fun z z0 z8 => hmo j z h0 (by omega) z0 z8)
  unfold lfT
  split <;> omega
theorem icT_y {mo : Int → Int → Int} {M : Nat} {t p : Int} (h : 0 < wrF mo M t p) : icT mo M t p = 1 := if_pos h
theorem icT_n {mo : Int → Int → Int} {M : Nat} {t p : Int} (h : ¬ 0 < wrF mo M t p) : icT mo M t p = 0 := if_neg h
theorem icT_01 (mo : Int → Int → Int) (M : Nat) (t p : Int) : 0 ≤ icT mo M t p ∧ icT mo M t p ≤ 1 := by unfold icT; split <;> decide
def mg (r : Int → Nat) (i : Nat) : Int → Value := fun j => if j < (i : Int) then .ref (r j) else .null
theorem mg_s (r : Int → Nat) (i : Nat) : mg r (i + 1) = upV (mg r i) (i : Int) (.ref (r i)) := by
  funext j
  unfold mg upV
  by_cases e : j = (i : Int)
  · subst e
    rw [if_pos (by omega), if_pos rfl]
  · rw [if_neg e]
    by_cases h : j < (i : Int)
    · exact (if_pos (by omega)).trans (if_pos h).symm
    · exact (if_neg (by omega)).trans (if_neg h).symm
theorem mg_end (r : Int → Nat) (y k : Nat) (j : Int) (h0 : 0 ≤ j) (h1 : j < ((k + 1 : Nat) : Int)) : upV (mg r k) (k : Int) (.ref y) j = rV (fun j => if j = (k : Int) then y else r j) j := by
  show (if j = (k : Int) then Value.ref y else if j < (k : Int) then Value.ref (r j) else Value.null) = Value.ref (if j = (k : Int) then y else r j)
  by_cases e : j = (k : Int)
  · rw [if_pos e, if_pos e]
  · rw [if_neg e, if_neg e, if_pos (by omega)]
def cmF (sp al : Int → Int) (p : Int) : Int := if al p = 1 ∧ (sp p < 0 ∨ al (sp p) = 0) then 1 else 0
/-! new int[n][k] -/
def rd (b : Nat) : Int → Nat := fun j => b + 1 + j.toNat
section ZM2
variable {p : Program} {l : Launch} {e : Env} {R : Room} {s : State} {m : MethodId} {args : Array Value} {below : List Frame} {meth : Method} {c : Code} {H : Heap} {locs : List Loc} {cells slots : Nat} {Q : State → Prop}
variable {pc : Nat} {ls : Array Slot} {rest : List Value} {cc : ByteArray} {A : Nat → Prop} {H0 : Heap} {cI c1 c2 : ClassId} {own : String} {index : Nat}
theorem zs_mna2 {N K : Nat} {z w : Int} (hx : p.tables.exec = Jvm.exec) (hb : c.code = cc) (hQ : zKA cI c1 c2 s) (hown : s.vm.findClass own = some m.cls) (hclink : (Cond.classLink own index "[[I").before args s = true) (harr : (Cond.arrayClass .int).before args s = true) (hS : va_S A H0 H locs)
    (hz : z = (N : Int)) (hw : w = (K : Int)) (hN : N ≤ 65536) (hKn : K ≤ 65536) (hcells : cells + (1 + N) ≤ R.cells) (hslots : slots + (N + N * K) ≤ R.slots) (hdg : decode cc pc = .ok (.multianewarray index 2, 4))
    (kk : ∀ (H1 : Heap) (b : Nat), b = H.size → rA c1 H1 b N (rd b) → (∀ i : Int, 0 ≤ i → i < (N : Int) → iA cI H1 (rd b i) K (cst 0)) → H1.size = H.size + 1 + N → (∀ x : Nat, x < H.size → H1[x]? = H[x]?) → va_S A H0 H1 locs → W p l e R s m args below meth c H1 locs (cells + 1 + N) (slots + N + N * K) Q (F0 m (pc + 4) ls (.ref b :: rest))) : W p l e R s m args below meth c H locs cells slots Q (F0 m pc ls (.int (zI w) :: .int (zI z) :: rest)) := by
  subst hz
  subst hw
  have nn : ∀ z : Nat, z ≤ 65536 → ¬ zI (z : Int) < 0 := fun z hz h => by
    have := (zI_lt (a := (z : Int)) (b := 0) ⟨by omega, by omega⟩ ⟨by decide, by decide⟩).mp h
    omega
  have eN : (zI (N : Int)).toNatClampNeg = N := by rw [zI_cl (by omega) (by omega)]; exact Int.toNat_natCast N
  have eK : (zI (K : Int)).toNatClampNeg = K := by rw [zI_cl (by omega) (by omega)]; exact Int.toNat_natCast K
  intro T hT X
  obtain ⟨vm₁, cA, comp, -, fA, fC9, -, -, X', step⟩ := X.multianewarray2F (ty := .int) hx hown hclink (over_moved (Vm.Alike.refl _) hQ.1.1) harr (g := F0 m pc ls (.int (zI (K : Int)) :: .int (zI (N : Int)) :: rest)) rfl (by rw [hb]; exact hdg) rfl (nn N hN) (nn K hKn) (by rw [eN]; omega) (by rw [eK]; show K * 4 ≤ _; omega) (by rw [eK]; omega) rfl rfl (by rw [eN]; exact hcells) (by rw [eN, eK]; exact hslots)
  rw [eN, eK] at X' step
  have e1 : cA = c1 := Option.some.inj ((fA : s.vm.findClass "[[I" = some cA).symm.trans hQ.1.2.2.1)
  have e2 : comp = cI := Option.some.inj ((fC9 : s.vm.findClass "[I" = some comp).symm.trans hQ.1.2.1)
  subst e1
  subst e2
  have hTh : (T.setVm vm₁).heap = H := hT
  generalize hF : Jvm.Free.Multi.fill (T.setVm vm₁) cA comp N K (defaultValue .int) N = F at X' step
  obtain ⟨f1, f2, -, -⟩ := Jvm.Free.Multi.fill_facts (T.setVm vm₁) cA comp N K (defaultValue .int) N
  rw [hF, hTh] at f1 f2
  have hold : ∀ x : Nat, x < H.size → F.heap[x]? = H[x]? := fun x hx => by
    have := Jvm.Free.Multi.fill_old (T.setVm vm₁) cA comp N K (defaultValue .int) (a := x) (by rw [hTh]; exact hx) N
    rw [hF, hTh] at this
    exact this
  have hrow : ∀ j : Nat, j < N → F.heap[H.size + 1 + j]? = some (arrV comp K (fun _ => .int 0)) := fun j hj => by
    have := Jvm.Free.Multi.fill_inner (T.setVm vm₁) cA comp N K (defaultValue .int) N j hj
    rw [hF, hTh] at this
    rw [this, ← arrV_new]
    rfl
  have hout : ∀ i : Nat, Jvm.Free.Multi.outerC cA N H.size i = arrV cA N (fun j => if j < i then .ref (H.size + 1 + j) else .null) := by
    intro i
    induction i with
    | zero =>
      show ({ cls := cA, slots := Array.replicate N .null, vm := .none } : Cell) = _
      rw [arrV_new]
      exact arrV_cg (fun j _ => (if_neg (Nat.not_lt_zero j)).symm)
    | succ i ih =>
      show (Jvm.Free.Multi.outerC cA N H.size i).setSlot i (.ref (H.size + 1 + i)) = _
      rw [ih, arrV_store]
      refine arrV_cg (fun j _ => ?_)
      unfold updV
      by_cases e : j = i
      · subst e
        rw [if_pos rfl, if_pos (Nat.lt_succ_self j)]
      · rw [if_neg e]
        by_cases h : j < i
        · exact (if_pos h).trans (if_pos (by omega)).symm
        · exact (if_neg h).trans (if_neg (by omega)).symm
  rw [hout N] at f2
  obtain ⟨t, a1, b1⟩ := kk F.heap H.size rfl (by
      unfold rA vA
      rw [f2]
      refine congrArg some (arrV_cg (fun j hj => ?_))
      rw [if_pos hj]
      unfold rV rd
      rw [Int.toNat_natCast]) (fun i h0 h1 => by
      unfold iA vA rd
      rw [hrow i.toNat (by omega)]
      rfl) f1 hold ⟨by rw [f1]; have := hS.1; omega, fun x h1 h2 => (hold x (Nat.lt_of_lt_of_le h1 hS.1)).trans (hS.2.1 x h1 h2), hS.2.2⟩ F rfl X'
  refine ⟨t, step t ?_, b1⟩
  have e : T.heap.size = H.size := by rw [hT]
  rw [e]
  exact a1
end ZM2
/-- a matrix made so -/
def mA (cI c1 : ClassId) (H : Heap) (b n : Nat) (G : Int → Int → Int) : Prop := rA c1 H b n (rd b) ∧ ∀ i : Int, 0 ≤ i → i < (n : Int) → iA cI H (rd b i) n (G i)
theorem mA.grow {cI c1 : ClassId} {H H1 : Heap} {b n : Nat} {G : Int → Int → Int} (h : mA cI c1 H b n G) (hk : ∀ x : Nat, x < H.size → H1[x]? = H[x]?) : mA cI c1 H1 b n G := ⟨h.1.grow hk, fun i h0 h1 => (h.2 i h0 h1).grow hk⟩
theorem mA.cg {cI c1 : ClassId} {H : Heap} {b n : Nat} {G G' : Int → Int → Int} (h : mA cI c1 H b n G) (e : ∀ i j : Int, 0 ≤ i → i < (n : Int) → 0 ≤ j → j < (n : Int) → G i j = G' i j) : mA cI c1 H b n G' := ⟨h.1, fun i h0 h1 => (h.2 i h0 h1).cgI (fun j j0 j1 => e i j h0 h1 j0 j1)⟩
theorem mA.put {cI c1 : ClassId} {H H1 : Heap} {b n : Nat} {G G' : Int → Int → Int} {i0 : Int} {f : Int → Int} (h : mA cI c1 H b n G) (h0 : 0 ≤ i0) (hr : iA cI H1 (rd b i0) n f) (hk : ∀ x : Nat, x ≠ rd b i0 → H1[x]? = H[x]?) (e0 : ∀ j : Int, 0 ≤ j → j < (n : Int) → f j = G' i0 j) (e : ∀ i j : Int, 0 ≤ i → i < (n : Int) → i ≠ i0 → 0 ≤ j → j < (n : Int) → G i j = G' i j) : mA cI c1 H1 b n G' := by
  refine ⟨h.1.kept (hk _ (by unfold rd; omega)), fun i q0 q1 => ?_⟩
  by_cases ei : i = i0
  · subst ei
    exact hr.cgI e0
  · exact iA.cgI (vA.kept (h.2 i q0 q1) (hk _ (by unfold rd; omega))) (fun j j0 j1 => e i j q0 q1 ei j0 j1)
/-- degrees of all: the first rows, the first places of one -/
def st1 (pa sp : Int → Int) (i t : Int) : Int := if i ≠ t ∧ stp pa sp i t then 1 else 0
def G1 (pa sp : Int → Int) (a b : Nat) (i t : Int) : Int := if i < (a : Int) ∨ (i = (a : Int) ∧ t < (b : Int)) then st1 pa sp i t else 0
def DR (pa sp : Int → Int) (n : Nat) : Nat → Int → Int → Int
  | 0 => dg1 pa sp n
  | g + 1 => fun i => rdF pa sp n i ((g : Int) + 2) (DR pa sp n g i) n
def G2 (pa sp : Int → Int) (n g a : Nat) (f : Int → Int) (i : Int) : Int → Int := if i < (a : Int) then DR pa sp n (g + 1) i else if i = (a : Int) then f else DR pa sp n g i
theorem DR3 (pa sp : Int → Int) (n : Nat) : DR pa sp n 3 = dgF pa sp n := rfl
theorem rdF_one {pa sp : Int → Int} {n : Nat} {s g : Int} {dg : Int → Int} (hg : 2 ≤ g) (i : Nat) (t : Int) : rdF pa sp n s g dg i t = 1 ↔ dg t = 1 := by
  induction i with
  | zero => exact Iff.rfl
  | succ i ih =>
    by_cases h : rdF pa sp n s g dg i (i : Int) = g - 1
    · rw [rdF_y h]
      unfold rchF
      split
      · rename_i h2
        refine ⟨fun h3 => ?_, fun h3 => ?_⟩
        · omega
        · have := ih.mpr h3
          omega
      · exact ih
    · rw [rdF_n h]
      exact ih
theorem rdF_self {pa sp : Int → Int} {n : Nat} {s g : Int} {dg : Int → Int} (i : Nat) (h0 : dg s = 0) : rdF pa sp n s g dg i s = 0 := by
  induction i with
  | zero => exact h0
  | succ i ih =>
    by_cases h : rdF pa sp n s g dg i (i : Int) = g - 1
    · rw [rdF_y h]
      unfold rchF
      rw [if_neg (fun q => q.2.2.1 rfl)]
      exact ih
    · rw [rdF_n h]
      exact ih
theorem dg1_self (pa sp : Int → Int) (n : Nat) (s : Int) : dg1 pa sp n s s = 0 := by
  unfold dg1 rchF
  rw [if_neg (fun q => q.2.2.1 rfl)]
  rfl
theorem DR_self (pa sp : Int → Int) (n g : Nat) (s : Int) : DR pa sp n g s s = 0 := by
  induction g with
  | zero => exact dg1_self pa sp n s
  | succ g ih => exact rdF_self n ih
theorem dgF_self (pa sp : Int → Int) (n : Nat) (s : Int) : dgF pa sp n s s = 0 := DR_self pa sp n 3 s
theorem DR_one {pa sp : Int → Int} {n : Nat} (g : Nat) {i t : Int} (h0 : 0 ≤ t) (h1 : t < (n : Int)) : DR pa sp n g i t = 1 ↔ (i ≠ t ∧ stp pa sp i t) := by
  induction g with
  | zero =>
    show dg1 pa sp n i t = 1 ↔ _
    unfold dg1 rchF
    by_cases h : i ≠ t ∧ stp pa sp i t
    · rw [if_pos ⟨h0, h1, Ne.symm h.1, rfl, h.2⟩]
      exact ⟨fun _ => h, fun _ => rfl⟩
    · rw [if_neg (fun q => h ⟨Ne.symm q.2.2.1, q.2.2.2.2⟩)]
      exact ⟨fun q => absurd q (show ¬ (0 : Int) = 1 by decide), fun q => absurd q h⟩
  | succ g ih => exact (rdF_one (by omega) n t).trans ih
theorem DR_bd (pa sp : Int → Int) (n : Nat) (g : Nat) (hg : g ≤ 3) (i j : Int) : 0 ≤ DR pa sp n g i j ∧ DR pa sp n g i j ≤ 4 := by
  have h : ∀ g : Nat, g ≤ 2 → ∀ i j : Int, 0 ≤ DR pa sp n g i j ∧ DR pa sp n g i j ≤ 4 := by
    intro g
    induction g with
    | zero => exact fun _ i => dg1_bd pa sp n i
    | succ g ih => exact fun hg i => rdF_bd (ih (by omega) i) ⟨by omega, by omega⟩ n
  by_cases e : g ≤ 2
  · exact h g e i j
  · rw [show g = 3 by omega]
    exact dgF_bd pa sp n i j
theorem st1_dg1 {pa sp : Int → Int} {n : Nat} {i t : Int} (h0 : 0 ≤ t) (h1 : t < (n : Int)) : st1 pa sp i t = dg1 pa sp n i t := by
  unfold st1 dg1 rchF
  by_cases h : i ≠ t ∧ stp pa sp i t
  · rw [if_pos h, if_pos ⟨h0, h1, Ne.symm h.1, rfl, h.2⟩]
  · rw [if_neg h, if_neg (fun q => h ⟨Ne.symm q.2.2.1, q.2.2.2.2⟩)]
    rfl
theorem G2_lt {pa sp : Int → Int} {n g a : Nat} {f : Int → Int} {i : Int} (h : i < (a : Int)) : G2 pa sp n g a f i = DR pa sp n (g + 1) i := if_pos h
theorem G2_eq {pa sp : Int → Int} {n g a : Nat} {f : Int → Int} : G2 pa sp n g a f (a : Int) = f := (if_neg (by omega)).trans (if_pos rfl)
theorem G2_gt {pa sp : Int → Int} {n g a : Nat} {f : Int → Int} {i : Int} (h : (a : Int) < i) : G2 pa sp n g a f i = DR pa sp n g i := (if_neg (by omega)).trans (if_neg (by omega))
theorem G2_ne {pa sp : Int → Int} {n g a : Nat} {f f' : Int → Int} {i : Int} (h : i ≠ (a : Int)) : G2 pa sp n g a f i = G2 pa sp n g a f' i := by
  unfold G2
  rw [if_neg h, if_neg h]
theorem G2_one {pa sp : Int → Int} {n g a : Nat} {f : Int → Int} {i t : Int} (hi : i ≠ (a : Int)) (h0 : 0 ≤ t) (h1 : t < (n : Int)) : G2 pa sp n g a f i t = 1 ↔ (i ≠ t ∧ stp pa sp i t) := by
  by_cases h : i < (a : Int)
  · rw [G2_lt h]
    exact DR_one (g + 1) h0 h1
  · rw [G2_gt (by omega)]
    exact DR_one g h0 h1
theorem G2_bd {pa sp : Int → Int} {n g a : Nat} {f : Int → Int} (hg : g ≤ 2) (hf : ∀ j : Int, 0 ≤ f j ∧ f j ≤ 4) (i j : Int) : 0 ≤ G2 pa sp n g a f i j ∧ G2 pa sp n g a f i j ≤ 4 := by
  unfold G2
  split
  · exact DR_bd pa sp n (g + 1) (by omega) i j
  · split
    · exact hf j
    · exact DR_bd pa sp n g (by omega) i j
theorem G1_put {pa sp : Int → Int} {x y : Nat} {v : Int} (hv : v = st1 pa sp (x : Int) (y : Int)) (j : Int) : up (G1 pa sp x y (x : Int)) (y : Int) v j = G1 pa sp x (y + 1) (x : Int) j := by
  unfold up
  by_cases e : j = (y : Int)
  · subst e
    rw [if_pos rfl, hv]
    unfold G1
    rw [if_pos (Or.inr ⟨rfl, by omega⟩)]
  · rw [if_neg e]
    unfold G1
    by_cases h : j < (y : Int)
    · rw [if_pos (Or.inr ⟨rfl, h⟩), if_pos (Or.inr ⟨rfl, by omega⟩)]
    · rw [if_neg (by omega), if_neg (by omega)]
theorem G1_o {pa sp : Int → Int} {x y : Nat} {i : Int} (hi : i ≠ (x : Int)) (j : Int) : G1 pa sp x y i j = G1 pa sp x (y + 1) i j := by
  unfold G1
  by_cases h : i < (x : Int)
  · rw [if_pos (Or.inl h), if_pos (Or.inl h)]
  · rw [if_neg (by omega), if_neg (by omega)]
theorem G1_n {pa sp : Int → Int} {x n : Nat} {i j : Int} (h0 : 0 ≤ j) (hj : j < (n : Int)) : G1 pa sp x n i j = G1 pa sp (x + 1) 0 i j := by
  unfold G1
  by_cases h : i ≤ (x : Int)
  · rw [if_pos (by omega), if_pos (by omega)]
  · rw [if_neg (by omega), if_neg (by omega)]
theorem G1_D {pa sp : Int → Int} {n : Nat} {i j : Int} (hi : i < (n : Int)) (h0 : 0 ≤ j) (hj : j < (n : Int)) : G1 pa sp n 0 i j = DR pa sp n 0 i j := by
  unfold G1
  rw [if_pos (Or.inl hi)]
  exact st1_dg1 h0 hj
theorem G2_0 {pa sp : Int → Int} {n g : Nat} {i : Int} (h0 : 0 ≤ i) : DR pa sp n g i = G2 pa sp n g 0 (DR pa sp n g ((0 : Nat) : Int)) i := by
  unfold G2
  rw [if_neg (by omega)]
  by_cases e : i = ((0 : Nat) : Int)
  · rw [if_pos e, e]
  · rw [if_neg e]
theorem G2_n {pa sp : Int → Int} {n g x : Nat} {i : Int} : G2 pa sp n g x (rdF pa sp n (x : Int) ((g : Int) + 2) (DR pa sp n g (x : Int)) n) i = G2 pa sp n g (x + 1) (DR pa sp n g ((x + 1 : Nat) : Int)) i := by
  unfold G2
  by_cases h : i < (x : Int)
  · rw [if_pos h, if_pos (by omega)]
  · rw [if_neg h]
    by_cases e : i = (x : Int)
    · subst e
      rw [if_pos rfl, if_pos (by omega)]
      rfl
    · rw [if_neg e, if_neg (by omega)]
      by_cases e2 : i = ((x + 1 : Nat) : Int)
      · rw [if_pos e2, e2]
      · rw [if_neg e2]
theorem rdF_ne {pa sp : Int → Int} {n : Nat} {s g : Int} {dg : Int → Int} {i : Nat} (h : rdF pa sp n s g dg i (i : Int) = g - 1) (h0 : dg s = 0) (hg : 2 ≤ g) : (i : Int) ≠ s := fun e => by
  have := rdF_self (pa := pa) (sp := sp) (n := n) (g := g) i h0
  rw [e] at h
  omega
theorem up_cgr {f f' : Int → Int} {k v : Int} (h : f = f') : up f k v = up f' k v := by rw [h]
set_option maxHeartbeats 4000000 in
set_option maxRecDepth 100000 in
theorem kX3_on (l : Launch) (D : va_G) (cI cZ c1 c2 : ClassId) (sz : Nat) (x : Nat) (f : Int → Int) (t : Int) (hf : ∀ j : Int, 0 ≤ j → j ≤ 8 → -1 ≤ f j ∧ f j ≤ 1000000) (ht : -2000000 ≤ t ∧ t ≤ 2000000) : zG l yX3_on wsX3_on ({ frames := 0, cells := 0, slots := 0, locals := 0 } : Room) D cI cZ c1 c2 [.ref x, .int (zI t)] sz (fun H => iA cI H x 9 f) (fun v H => v = some (.int (zI (onF f t)))) (fun q : Nat => sz ≤ q) (0) (0) := by
  refine Met.ofW (cc := cX3_on) (maxL := 4) (ret := (some .int)) (by decide) rfl ?_
  intro p0 e9 s9 m9 ag9 below meth c9 s₁ B hml hv
  obtain ⟨hav, hsz, hPre, hK, hQ⟩ := hv
  subst hsz
  have hx := B.exec
  have hb := B.bytes
  have hr := B.returns
  have hts := atoms_spec (ws := wsX3_on) B.pre
  have hown : s9.vm.findClass RX3 = some m9.cls := findClass_of_methodNamed B.named
  have hlocks := B.notSynchronized
  have hl := lv_entry ([.ref x, .int (zI t)]) (n := 4) (Nat.le_of_ble_eq_true rfl)
  have hE : entryFrame m9 ag9 4 = F0 m9 0 ((lg_sl ([.ref x, .int (zI t)]) ++ List.replicate (4 - (lg_sl ([.ref x, .int (zI t)])).length) Slot.unset).toArray) [] := by rw [hav]; exact lg_entry_eq m9 _ _
  obtain ⟨Q0, hQ0⟩ : ∃ Q0, Q0 = MQ below (zGQ (fun v H => v = some (.int (zI (onF f t)))) (fun q : Nat => s9.heap.size ≤ q)) ag9 s9 (0) (0) (fun q : Nat => s9.heap.size ≤ q) := ⟨_, rfl⟩
  show W p0 l e9 ({ frames := 0, cells := 0, slots := 0, locals := 0 } : Room) s9 m9 ag9 below meth c9 s9.heap [] 0 0 (MQ below (zGQ (fun v H => v = some (.int (zI (onF f t)))) (fun q : Nat => s9.heap.size ≤ q)) ag9 s9 (0) (0) (fun q : Nat => s9.heap.size ≤ q)) _
  rw [hE, ← hQ0]
  have hS : va_S (fun q : Nat => s9.heap.size ≤ q) s9.heap s9.heap [] := va_S.rf
  have hU : s9.heap.size ≤ s9.heap.size := Nat.le_refl _
  generalize (lg_sl ([.ref x, .int (zI t)]) ++ List.replicate (4 - (lg_sl ([.ref x, .int (zI t)])).length) Slot.unset).toArray = ls at hl ⊢
  have hl : lv_has ls 4 [(0, .ref x), (1, .int (zI t))] := hl
  refine lv_iload_n hx hb dX3_on_0 rfl (lv_at hl 1 rfl) ?_
  refine lv_aload_n hx hb dX3_on_1 rfl (lv_at hl 0 rfl) ?_
  refine zr_iconst hx hb dX3_on_2 ?_
  refine zs_ild (v := f 2) (i := 2) hx hb hQ hPre (by decide) (by decide) (by decide) rfl dX3_on_3 ?_
  have b_1 := hf 2 (by decide) (by decide)
  refine zr_isub (v := t - (f 2)) hx hb rfl dX3_on_4 ?_
  refine lv_istore_n (lv' := [(2, .int (zI (t - (f 2)))), (0, .ref x), (1, .int (zI t))]) hx hb dX3_on_5 rfl hl (by decide) rfl (fun ls hl => ?_)
  refine zr_iconst hx hb dX3_on_6 ?_
  refine lv_istore_n (lv' := [(3, .int (zI 0)), (2, .int (zI (t - (f 2)))), (0, .ref x), (1, .int (zI t))]) hx hb dX3_on_7 rfl hl (by decide) rfl (fun ls hl => ?_)
  refine lv_iload_n hx hb dX3_on_8 rfl (lv_at hl 0 rfl) ?_
  refine zr_iconst hx hb dX3_on_9 ?_
  refine zr_icmp_ge (tgt := 48) hx hb dX3_on_10 (by decide) ⟨by decide, by decide⟩ ⟨by decide, by decide⟩ (fun c_2 => by exfalso; revert c_2; decide) (fun c_2 => ?_)
  refine lv_iload_n hx hb dX3_on_13 rfl (lv_at hl 1 rfl) ?_
  refine lv_aload_n hx hb dX3_on_14 rfl (lv_at hl 2 rfl) ?_
  refine zr_iconst hx hb dX3_on_15 ?_
  refine zr_iconst hx hb dX3_on_16 ?_
  refine lv_iload_n hx hb dX3_on_17 rfl (lv_at hl 0 rfl) ?_
  refine zr_imul (v := 0) hx hb (by decide) dX3_on_18 ?_
  refine zr_iadd (v := 4) hx hb (by decide) dX3_on_19 ?_
  refine zs_ild (v := f 4) (i := 4) hx hb hQ hPre (by decide) (by decide) (by decide) rfl dX3_on_20 ?_
  have b_3 := hf 4 (by decide) (by decide)
  refine zr_icmp_ge (tgt := 32) hx hb dX3_on_21 (by decide) ⟨by omega, by omega⟩ ⟨by omega, by omega⟩ (fun c_4 => ?_) (fun c_4 => ?_)
  · have c_4 := c_4
    refine lv_iload_n hx hb dX3_on_32 rfl (lv_at hl 1 rfl) ?_
    refine lv_aload_n hx hb dX3_on_33 rfl (lv_at hl 2 rfl) ?_
    refine zr_iconst hx hb dX3_on_34 ?_
    refine zr_iconst hx hb dX3_on_35 ?_
    refine lv_iload_n hx hb dX3_on_36 rfl (lv_at hl 0 rfl) ?_
    refine zr_imul (v := 0) hx hb (by decide) dX3_on_37 ?_
    refine zr_iadd (v := 4) hx hb (by decide) dX3_on_38 ?_
    refine zs_ild (v := f 4) (i := 4) hx hb hQ hPre (by decide) (by decide) (by decide) rfl dX3_on_39 ?_
    have b_5 := hf 4 (by decide) (by decide)
    refine zr_isub (v := (t - (f 2)) - (f 4)) hx hb rfl dX3_on_40 ?_
    refine lv_istore_n (lv' := [(2, .int (zI ((t - (f 2)) - (f 4)))), (3, .int (zI 0)), (0, .ref x), (1, .int (zI t))]) hx hb dX3_on_41 rfl hl (by decide) rfl (fun ls hl => ?_)
    refine zr_iinc (v := 1) (lv' := [(3, .int (zI 1)), (2, .int (zI ((t - (f 2)) - (f 4)))), (0, .ref x), (1, .int (zI t))]) hx hb dX3_on_42 hl (k := 1) rfl (by decide) (by decide) rfl (fun ls hl => ?_)
    refine lv_goto (tgt := 8) hx hb dX3_on_45 (by decide) ?_
    refine lv_iload_n hx hb dX3_on_8 rfl (lv_at hl 0 rfl) ?_
    refine zr_iconst hx hb dX3_on_9 ?_
    refine zr_icmp_ge (tgt := 48) hx hb dX3_on_10 (by decide) ⟨by decide, by decide⟩ ⟨by decide, by decide⟩ (fun c_6 => by exfalso; revert c_6; decide) (fun c_6 => ?_)
    refine lv_iload_n hx hb dX3_on_13 rfl (lv_at hl 1 rfl) ?_
    refine lv_aload_n hx hb dX3_on_14 rfl (lv_at hl 2 rfl) ?_
    refine zr_iconst hx hb dX3_on_15 ?_
    refine zr_iconst hx hb dX3_on_16 ?_
    refine lv_iload_n hx hb dX3_on_17 rfl (lv_at hl 0 rfl) ?_
    refine zr_imul (v := 2) hx hb (by decide) dX3_on_18 ?_
    refine zr_iadd (v := 6) hx hb (by decide) dX3_on_19 ?_
    refine zs_ild (v := f 6) (i := 6) hx hb hQ hPre (by decide) (by decide) (by decide) rfl dX3_on_20 ?_
    have b_7 := hf 6 (by decide) (by decide)
    refine zr_icmp_ge (tgt := 32) hx hb dX3_on_21 (by decide) ⟨by omega, by omega⟩ ⟨by omega, by omega⟩ (fun c_8 => ?_) (fun c_8 => ?_)
    · have c_8 := c_8
      refine lv_iload_n hx hb dX3_on_32 rfl (lv_at hl 1 rfl) ?_
      refine lv_aload_n hx hb dX3_on_33 rfl (lv_at hl 2 rfl) ?_
      refine zr_iconst hx hb dX3_on_34 ?_
      refine zr_iconst hx hb dX3_on_35 ?_
      refine lv_iload_n hx hb dX3_on_36 rfl (lv_at hl 0 rfl) ?_
      refine zr_imul (v := 2) hx hb (by decide) dX3_on_37 ?_
      refine zr_iadd (v := 6) hx hb (by decide) dX3_on_38 ?_
      refine zs_ild (v := f 6) (i := 6) hx hb hQ hPre (by decide) (by decide) (by decide) rfl dX3_on_39 ?_
      have b_9 := hf 6 (by decide) (by decide)
      refine zr_isub (v := ((t - (f 2)) - (f 4)) - (f 6)) hx hb rfl dX3_on_40 ?_
      refine lv_istore_n (lv' := [(2, .int (zI (((t - (f 2)) - (f 4)) - (f 6)))), (3, .int (zI 1)), (0, .ref x), (1, .int (zI t))]) hx hb dX3_on_41 rfl hl (by decide) rfl (fun ls hl => ?_)
      refine zr_iinc (v := 2) (lv' := [(3, .int (zI 2)), (2, .int (zI (((t - (f 2)) - (f 4)) - (f 6)))), (0, .ref x), (1, .int (zI t))]) hx hb dX3_on_42 hl (k := 1) rfl (by decide) (by decide) rfl (fun ls hl => ?_)
      refine lv_goto (tgt := 8) hx hb dX3_on_45 (by decide) ?_
      refine lv_iload_n hx hb dX3_on_8 rfl (lv_at hl 0 rfl) ?_
      refine zr_iconst hx hb dX3_on_9 ?_
      refine zr_icmp_ge (tgt := 48) hx hb dX3_on_10 (by decide) ⟨by decide, by decide⟩ ⟨by decide, by decide⟩ (fun c_10 => by exfalso; revert c_10; decide) (fun c_10 => ?_)
      refine lv_iload_n hx hb dX3_on_13 rfl (lv_at hl 1 rfl) ?_
      refine lv_aload_n hx hb dX3_on_14 rfl (lv_at hl 2 rfl) ?_
      refine zr_iconst hx hb dX3_on_15 ?_
      refine zr_iconst hx hb dX3_on_16 ?_
      refine lv_iload_n hx hb dX3_on_17 rfl (lv_at hl 0 rfl) ?_
      refine zr_imul (v := 4) hx hb (by decide) dX3_on_18 ?_
      refine zr_iadd (v := 8) hx hb (by decide) dX3_on_19 ?_
      refine zs_ild (v := f 8) (i := 8) hx hb hQ hPre (by decide) (by decide) (by decide) rfl dX3_on_20 ?_
      have b_11 := hf 8 (by decide) (by decide)
      refine zr_icmp_ge (tgt := 32) hx hb dX3_on_21 (by decide) ⟨by omega, by omega⟩ ⟨by omega, by omega⟩ (fun c_12 => ?_) (fun c_12 => ?_)
      · have c_12 := c_12
        refine lv_iload_n hx hb dX3_on_32 rfl (lv_at hl 1 rfl) ?_
        refine lv_aload_n hx hb dX3_on_33 rfl (lv_at hl 2 rfl) ?_
        refine zr_iconst hx hb dX3_on_34 ?_
        refine zr_iconst hx hb dX3_on_35 ?_
        refine lv_iload_n hx hb dX3_on_36 rfl (lv_at hl 0 rfl) ?_
        refine zr_imul (v := 4) hx hb (by decide) dX3_on_37 ?_
        refine zr_iadd (v := 8) hx hb (by decide) dX3_on_38 ?_
        refine zs_ild (v := f 8) (i := 8) hx hb hQ hPre (by decide) (by decide) (by decide) rfl dX3_on_39 ?_
        have b_13 := hf 8 (by decide) (by decide)
        refine zr_isub (v := (((t - (f 2)) - (f 4)) - (f 6)) - (f 8)) hx hb rfl dX3_on_40 ?_
        refine lv_istore_n (lv' := [(2, .int (zI ((((t - (f 2)) - (f 4)) - (f 6)) - (f 8)))), (3, .int (zI 2)), (0, .ref x), (1, .int (zI t))]) hx hb dX3_on_41 rfl hl (by decide) rfl (fun ls hl => ?_)
        refine zr_iinc (v := 3) (lv' := [(3, .int (zI 3)), (2, .int (zI ((((t - (f 2)) - (f 4)) - (f 6)) - (f 8)))), (0, .ref x), (1, .int (zI t))]) hx hb dX3_on_42 hl (k := 1) rfl (by decide) (by decide) rfl (fun ls hl => ?_)
        refine lv_goto (tgt := 8) hx hb dX3_on_45 (by decide) ?_
        refine lv_iload_n hx hb dX3_on_8 rfl (lv_at hl 0 rfl) ?_
        refine zr_iconst hx hb dX3_on_9 ?_
        refine zr_icmp_ge (tgt := 48) hx hb dX3_on_10 (by decide) ⟨by decide, by decide⟩ ⟨by decide, by decide⟩ (fun c_14 => ?_) (fun c_14 => by exfalso; revert c_14; decide)
        refine zr_iconst hx hb dX3_on_48 ?_
        rw [hQ0]
        exact zgret_i (z := onF f t) hx hb hr hlocks (by unfold onF; (repeat first | rw [if_pos (by omega)] | rw [if_neg (by omega)]) <;> omega) (rfl) hS dX3_on_49 (by omega) (by omega)
      · have c_12 := c_12
        refine lv_aload_n hx hb dX3_on_24 rfl (lv_at hl 2 rfl) ?_
        refine zr_iconst hx hb dX3_on_25 ?_
        refine zr_iconst hx hb dX3_on_26 ?_
        refine lv_iload_n hx hb dX3_on_27 rfl (lv_at hl 0 rfl) ?_
        refine zr_imul (v := 4) hx hb (by decide) dX3_on_28 ?_
        refine zr_iadd (v := 7) hx hb (by decide) dX3_on_29 ?_
        refine zs_ild (v := f 7) (i := 7) hx hb hQ hPre (by decide) (by decide) (by decide) rfl dX3_on_30 ?_
        have b_15 := hf 7 (by decide) (by decide)
        rw [hQ0]
        exact zgret_i (z := onF f t) hx hb hr hlocks (by unfold onF; (repeat first | rw [if_pos (by omega)] | rw [if_neg (by omega)]) <;> omega) (rfl) hS dX3_on_31 (by omega) (by omega)
    · have c_8 := c_8
      refine lv_aload_n hx hb dX3_on_24 rfl (lv_at hl 2 rfl) ?_
      refine zr_iconst hx hb dX3_on_25 ?_
      refine zr_iconst hx hb dX3_on_26 ?_
      refine lv_iload_n hx hb dX3_on_27 rfl (lv_at hl 0 rfl) ?_
      refine zr_imul (v := 2) hx hb (by decide) dX3_on_28 ?_
      refine zr_iadd (v := 5) hx hb (by decide) dX3_on_29 ?_
      refine zs_ild (v := f 5) (i := 5) hx hb hQ hPre (by decide) (by decide) (by decide) rfl dX3_on_30 ?_
      have b_16 := hf 5 (by decide) (by decide)
      rw [hQ0]
      exact zgret_i (z := onF f t) hx hb hr hlocks (by unfold onF; (repeat first | rw [if_pos (by omega)] | rw [if_neg (by omega)]) <;> omega) (rfl) hS dX3_on_31 (by omega) (by omega)
  · have c_4 := c_4
    refine lv_aload_n hx hb dX3_on_24 rfl (lv_at hl 2 rfl) ?_
    refine zr_iconst hx hb dX3_on_25 ?_
    refine zr_iconst hx hb dX3_on_26 ?_
    refine lv_iload_n hx hb dX3_on_27 rfl (lv_at hl 0 rfl) ?_
    refine zr_imul (v := 0) hx hb (by decide) dX3_on_28 ?_
    refine zr_iadd (v := 3) hx hb (by decide) dX3_on_29 ?_
    refine zs_ild (v := f 3) (i := 3) hx hb hQ hPre (by decide) (by decide) (by decide) rfl dX3_on_30 ?_
    have b_17 := hf 3 (by decide) (by decide)
    rw [hQ0]
    exact zgret_i (z := onF f t) hx hb hr hlocks (by unfold onF; (repeat first | rw [if_pos (by omega)] | rw [if_neg (by omega)]) <;> omega) (rfl) hS dX3_on_31 (by omega) (by omega)
set_option maxHeartbeats 4000000 in
set_option maxRecDepth 100000 in
theorem kX3_end (l : Launch) (D : va_G) (cI cZ c1 c2 : ClassId) (sz : Nat) (x : Nat) (f : Int → Int) (hf : ∀ j : Int, 0 ≤ j → j ≤ 8 → -1 ≤ f j ∧ f j ≤ 1000000) : zG l yX3_end wsX3_end ({ frames := 0, cells := 0, slots := 0, locals := 0 } : Room) D cI cZ c1 c2 [.ref x] sz (fun H => iA cI H x 9 f) (fun v H => v = some (.int (zI (enF f)))) (fun q : Nat => sz ≤ q) (0) (0) := by
  refine Met.ofW (cc := cX3_end) (maxL := 1) (ret := (some .int)) (by decide) rfl ?_
  intro p0 e9 s9 m9 ag9 below meth c9 s₁ B hml hv
  obtain ⟨hav, hsz, hPre, hK, hQ⟩ := hv
  subst hsz
  have hx := B.exec
  have hb := B.bytes
  have hr := B.returns
  have hts := atoms_spec (ws := wsX3_end) B.pre
  have hown : s9.vm.findClass RX3 = some m9.cls := findClass_of_methodNamed B.named
  have hlocks := B.notSynchronized
  have hl := lv_entry ([.ref x]) (n := 1) (Nat.le_of_ble_eq_true rfl)
  have hE : entryFrame m9 ag9 1 = F0 m9 0 ((lg_sl ([.ref x]) ++ List.replicate (1 - (lg_sl ([.ref x])).length) Slot.unset).toArray) [] := by rw [hav]; exact lg_entry_eq m9 _ _
  obtain ⟨Q0, hQ0⟩ : ∃ Q0, Q0 = MQ below (zGQ (fun v H => v = some (.int (zI (enF f)))) (fun q : Nat => s9.heap.size ≤ q)) ag9 s9 (0) (0) (fun q : Nat => s9.heap.size ≤ q) := ⟨_, rfl⟩
  show W p0 l e9 ({ frames := 0, cells := 0, slots := 0, locals := 0 } : Room) s9 m9 ag9 below meth c9 s9.heap [] 0 0 (MQ below (zGQ (fun v H => v = some (.int (zI (enF f)))) (fun q : Nat => s9.heap.size ≤ q)) ag9 s9 (0) (0) (fun q : Nat => s9.heap.size ≤ q)) _
  rw [hE, ← hQ0]
  have hS : va_S (fun q : Nat => s9.heap.size ≤ q) s9.heap s9.heap [] := va_S.rf
  have hU : s9.heap.size ≤ s9.heap.size := Nat.le_refl _
  generalize (lg_sl ([.ref x]) ++ List.replicate (1 - (lg_sl ([.ref x])).length) Slot.unset).toArray = ls at hl ⊢
  have hl : lv_has ls 1 [(0, .ref x)] := hl
  refine lv_aload_n hx hb dX3_end_0 rfl (lv_at hl 0 rfl) ?_
  refine zr_iconst hx hb dX3_end_1 ?_
  refine zs_ild (v := f 2) (i := 2) hx hb hQ hPre (by decide) (by decide) (by decide) rfl dX3_end_2 ?_
  have b_1 := hf 2 (by decide) (by decide)
  refine lv_aload_n hx hb dX3_end_3 rfl (lv_at hl 0 rfl) ?_
  refine zr_iconst hx hb dX3_end_4 ?_
  refine zs_ild (v := f 4) (i := 4) hx hb hQ hPre (by decide) (by decide) (by decide) rfl dX3_end_5 ?_
  have b_2 := hf 4 (by decide) (by decide)
  refine zr_iadd (v := (f 2) + (f 4)) hx hb rfl dX3_end_6 ?_
  refine lv_aload_n hx hb dX3_end_7 rfl (lv_at hl 0 rfl) ?_
  refine zr_bipush hx hb dX3_end_8 (by decide) ?_
  refine zs_ild (v := f 6) (i := 6) hx hb hQ hPre (by decide) (by decide) (by decide) rfl dX3_end_10 ?_
  have b_3 := hf 6 (by decide) (by decide)
  refine zr_iadd (v := ((f 2) + (f 4)) + (f 6)) hx hb rfl dX3_end_11 ?_
  refine lv_aload_n hx hb dX3_end_12 rfl (lv_at hl 0 rfl) ?_
  refine zr_bipush hx hb dX3_end_13 (by decide) ?_
  refine zs_ild (v := f 8) (i := 8) hx hb hQ hPre (by decide) (by decide) (by decide) rfl dX3_end_15 ?_
  have b_4 := hf 8 (by decide) (by decide)
  refine zr_iadd (v := (((f 2) + (f 4)) + (f 6)) + (f 8)) hx hb rfl dX3_end_16 ?_
  rw [hQ0]
  exact zgret_i (z := enF f) hx hb hr hlocks (by unfold enF; omega) (rfl) hS dX3_end_17 (by omega) (by omega)
set_option maxHeartbeats 4000000 in
set_option maxRecDepth 100000 in
theorem kX3_wears (l : Launch) (D : va_G) (cI cZ c1 c2 : ClassId) (sz : Nat) (s0 : Nat) (a : Nat) (n : Nat) (pa : Int → Int) (sp : Int → Int) (al : Int → Int) (co : Int → Int) (da : Int → Int) (M : Nat) (mo : Int → Int → Int) (td : Int) (wn : Int) (p : Int) (t : Int) (hmo : ∀ i j : Int, 0 ≤ i → i < (M : Int) → 0 ≤ j → j ≤ 8 → -1 ≤ mo i j ∧ mo i j ≤ 1000000) (hp : -2147483648 ≤ p ∧ p ≤ 2147483647) (ht : -2000000 ≤ t ∧ t ≤ 2000000) : zG l yX3_wears wsX3_wears ({ frames := 1, cells := 0, slots := 0, locals := 30 } : Room) D cI cZ c1 c2 [.ref a, .int (zI p), .int (zI t)] sz (fun H => zSW D cI c1 c2 s0 a n pa sp al co da M mo td wn H) (fun v H => v = some (.int (zI (wrF mo M t p)))) (fun q : Nat => sz ≤ q) (0) (0) := by
  refine Met.ofW (cc := cX3_wears) (maxL := 8) (ret := (some .int)) (by decide) rfl ?_
  intro p0 e9 s9 m9 ag9 below meth c9 s₁ B hml hv
  obtain ⟨hav, hsz, hPre, hK, hQ⟩ := hv
  subst hsz
  have hx := B.exec
  have hb := B.bytes
  have hr := B.returns
  have hts := atoms_spec (ws := wsX3_wears) B.pre
  have hown : s9.vm.findClass RX3 = some m9.cls := findClass_of_methodNamed B.named
  have hlocks := B.notSynchronized
  have hin3 : ∀ w ∈ u_ws RX3 TX3 5, w ∈ wsX3_wears := by decide +kernel
  have hl := lv_entry ([.ref a, .int (zI p), .int (zI t)]) (n := 8) (Nat.le_of_ble_eq_true rfl)
  have hE : entryFrame m9 ag9 8 = F0 m9 0 ((lg_sl ([.ref a, .int (zI p), .int (zI t)]) ++ List.replicate (8 - (lg_sl ([.ref a, .int (zI p), .int (zI t)])).length) Slot.unset).toArray) [] := by rw [hav]; exact lg_entry_eq m9 _ _
  obtain ⟨Q0, hQ0⟩ : ∃ Q0, Q0 = MQ below (zGQ (fun v H => v = some (.int (zI (wrF mo M t p)))) (fun q : Nat => s9.heap.size ≤ q)) ag9 s9 (0) (0) (fun q : Nat => s9.heap.size ≤ q) := ⟨_, rfl⟩
  show W p0 l e9 ({ frames := 1, cells := 0, slots := 0, locals := 30 } : Room) s9 m9 ag9 below meth c9 s9.heap [] 0 0 (MQ below (zGQ (fun v H => v = some (.int (zI (wrF mo M t p)))) (fun q : Nat => s9.heap.size ≤ q)) ag9 s9 (0) (0) (fun q : Nat => s9.heap.size ≤ q)) _
  rw [hE, ← hQ0]
  have hS : va_S (fun q : Nat => s9.heap.size ≤ q) s9.heap s9.heap [] := va_S.rf
  have hU : s9.heap.size ≤ s9.heap.size := Nat.le_refl _
  generalize (lg_sl ([.ref a, .int (zI p), .int (zI t)]) ++ List.replicate (8 - (lg_sl ([.ref a, .int (zI p), .int (zI t)])).length) Slot.unset).toArray = ls at hl ⊢
  have hl : lv_has ls 8 [(0, .ref a), (1, .int (zI p)), (2, .int (zI t))] := hl
  obtain ⟨kd, ap, ac, am, ra, rc, rr, rm, hL0⟩ := hPre
  have hL := hL0
  refine zr_iconst hx hb dX3_wears_0 ?_
  refine lv_istore_n (lv' := [(3, .int (zI 0)), (0, .ref a), (1, .int (zI p)), (2, .int (zI t))]) hx hb dX3_wears_1 rfl hl (by decide) rfl (fun ls hl => ?_)
  refine lv_aload_n hx hb dX3_wears_2 rfl (lv_at hl 1 rfl) ?_
  refine va_get (D := D) (ci := 3) (v := .ref am) (C := RX3) (T := TX3) (N := 5) hx hb hts hin3 hown hK hL.obj 0 rfl rfl 4 (by decide) (hts (.fieldLink RX3 20 "MourningRibbonsLaw$Sim" "mournings" "[[I") (by decide +kernel)) (fun _ h9 => h9) rfl dX3_wears_3 ?_
  refine lv_astore (lv' := [(4, .ref am), (3, .int (zI 0)), (0, .ref a), (1, .int (zI p)), (2, .int (zI t))]) hx hb dX3_wears_6 hl (by decide) rfl (fun ls hl => ?_)
  refine lv_aload hx hb dX3_wears_8 (lv_at hl 0 rfl) ?_
  refine zs_len1 hx hb hQ hL.mou dX3_wears_10 ?_
  have b_1 := hL.M240
  refine lv_istore (lv' := [(5, .int (zI (M : Int))), (4, .ref am), (3, .int (zI 0)), (0, .ref a), (1, .int (zI p)), (2, .int (zI t))]) hx hb dX3_wears_11 hl (by decide) rfl (fun ls hl => ?_)
  refine zr_iconst hx hb dX3_wears_13 ?_
  refine lv_istore (lv' := [(6, .int (zI 0)), (5, .int (zI (M : Int))), (4, .ref am), (3, .int (zI 0)), (0, .ref a), (1, .int (zI p)), (2, .int (zI t))]) hx hb dX3_wears_14 hl (by decide) rfl (fun ls hl => ?_)
  have L16_2 : ∀ (kf i : Nat), i ≤ M → M - i < kf → ∀ (H : Heap) (locs : List Loc) (ls : Array Slot), va_S (fun q : Nat => s9.heap.size ≤ q) s9.heap H locs → lv_has ls 8 [(6, .int (zI (i : Int))), (5, .int (zI (M : Int))), (4, .ref am), (3, .int (zI (mxF (wrT mo p t) i))), (0, .ref a), (1, .int (zI p)), (2, .int (zI t))] → W p0 l e9 (({ frames := 1, cells := 0, slots := 0, locals := 30 } : Room)) s9 m9 ag9 below meth c9 H locs 0 0 Q0 (F0 m9 16 ls []) := by
    intro kf
    induction kf with
    | zero => intro i h1 h2; omega
    | succ kf ih =>
      intro i hi_i hk_i H locs ls   hS hl 
      have ih_i := ih
      clear ih
      have hkp : ∀ x : Nat, x < s9.heap.size → H[x]? = s9.heap[x]? := fun x h => hS.2.1 x h (Nat.not_le.mpr h)
      have hL := hL0.keep (fun x _ h => hkp x h)
      have hU : s9.heap.size ≤ H.size := hS.1
      have hm := wrT_bd hmo p t (k := i) (by omega)
      have hM9 := hL.M240
      refine lv_iload hx hb dX3_wears_16 (lv_at hl 0 rfl) ?_
      refine lv_iload hx hb dX3_wears_18 (lv_at hl 1 rfl) ?_
      refine zr_icmp_ge (tgt := 55) hx hb dX3_wears_20 (by decide) ⟨by omega, by omega⟩ ⟨by omega, by omega⟩ (fun c_3 => ?_) (fun c_3 => ?_)
      · have c_3 := c_3
        have x_4 : i = M := by omega
        try rw [x_4] at hl
        refine lv_iload_n hx hb dX3_wears_55 rfl (lv_at hl 3 rfl) ?_
        rw [hQ0]
        exact zgret_i (z := wrF mo M t p) hx hb hr hlocks (rfl) (rfl) hS dX3_wears_56 (by omega) (by omega)
      · have c_3 := c_3
        refine lv_aload hx hb dX3_wears_23 (lv_at hl 2 rfl) ?_
        refine lv_iload hx hb dX3_wears_25 (lv_at hl 0 rfl) ?_
        refine zs_ald1 (v := .ref (rm (i : Int))) (i := (i : Int)) hx hb hQ hL.mou (by omega) (by omega) (by have := hL.M240; omega) rfl dX3_wears_27 ?_
        refine lv_astore (lv' := [(7, .ref (rm (i : Int))), (6, .int (zI (i : Int))), (5, .int (zI (M : Int))), (4, .ref am), (3, .int (zI (mxF (wrT mo p t) i))), (0, .ref a), (1, .int (zI p)), (2, .int (zI t))]) hx hb dX3_wears_28 hl (by decide) rfl (fun ls hl => ?_)
        refine lv_aload hx hb dX3_wears_30 (lv_at hl 0 rfl) ?_
        refine zr_iconst hx hb dX3_wears_32 ?_
        refine zs_ild (v := mo (i : Int) 0) (i := 0) hx hb hQ (hL.mrn (i : Int) (by omega) (by omega)) (by decide) (by decide) (by decide) rfl dX3_wears_33 ?_
        have b_5 := hmo (i : Int) 0 (by omega) (by omega) (by decide) (by decide)
        refine lv_iload_n hx hb dX3_wears_34 rfl (lv_at hl 6 rfl) ?_
        refine zr_icmp_ne (tgt := 49) hx hb dX3_wears_35 (by decide) ⟨by omega, by omega⟩ ⟨by omega, by omega⟩ (fun c_6 => ?_) (fun c_6 => ?_)
        · have c_6 := c_6
          refine zr_iinc (v := (i : Int) + 1) (lv' := [(6, .int (zI ((i : Int) + 1))), (7, .ref (rm (i : Int))), (5, .int (zI (M : Int))), (4, .ref am), (3, .int (zI (mxF (wrT mo p t) i))), (0, .ref a), (1, .int (zI p)), (2, .int (zI t))]) hx hb dX3_wears_49 hl (k := 1) rfl rfl (by decide) rfl (fun ls hl => ?_)
          refine lv_goto (tgt := 16) hx hb dX3_wears_52 (by decide) ?_
          have hl := lv_sub hl (l' := [(6, .int (zI ((i : Int) + 1))), (5, .int (zI (M : Int))), (4, .ref am), (3, .int (zI (mxF (wrT mo p t) i))), (0, .ref a), (1, .int (zI p)), (2, .int (zI t))]) [0, 2, 3, 4, 5, 6, 7] rfl
          have e_7 : ((((i + 1) : Nat) : Int) : Int) = (i : Int) + 1 := by omega
          have e_8 : (mxF (wrT mo p t) (i + 1) : Int) = mxF (wrT mo p t) i := by first | (rw [mxF_s, wrT_y (by omega)]) | (rw [mxF_s, wrT_n (by omega)]; omega)
          have hl : lv_has ls 8 [(6, .int (zI (((i + 1) : Nat) : Int))), (5, .int (zI (M : Int))), (4, .ref am), (3, .int (zI (mxF (wrT mo p t) (i + 1)))), (0, .ref a), (1, .int (zI p)), (2, .int (zI t))] := by rw [e_7, e_8]; exact hl
          exact ih_i (i + 1) (by omega) (by omega) _ _ _  hS hl 
        · have c_6 := c_6
          refine lv_iload_n hx hb dX3_wears_38 rfl (lv_at hl 4 rfl) ?_
          refine lv_aload hx hb dX3_wears_39 (lv_at hl 0 rfl) ?_
          refine lv_iload_n hx hb dX3_wears_41 rfl (lv_at hl 7 rfl) ?_
          refine zcallGS (As := [.ref (rm (i : Int)), .int (zI t)]) (rest := [.int (zI (mxF (wrT mo p t) i))]) ⟨hx, hb, hml, hown, hts⟩ hK hQ (kX3_on l D cI cZ c1 c2 H.size (rm (i : Int)) (mo (i : Int)) t (fun j j0 j8 => hmo i j (by omega) (by omega) j0 j8) (⟨by omega, by omega⟩)) (va_cwS 2 hts gX3_wears_X3_on rfl rfl rfl (by decide +kernel) ⟨by first | exact Nat.le_of_ble_eq_true rfl | (show _ ≤ _; omega), Nat.le_of_ble_eq_true rfl⟩) (hL.mrn (i : Int) (by omega) (by omega)) hS (fun q h => Nat.le_trans hU h) rfl hl.1 rfl (Nat.le_of_ble_eq_true rfl) dX3_wears_42 ⟨show 0 + 0 ≤ 0 from by omega, show 0 + 0 ≤ 0 from by omega⟩ (fun v9 H locs hp9 hz9 hk9 hS => ?_)
          subst hp9
          have hk9 := fun (x : Nat) (h : x < _) => hk9 x h (Nat.not_le.mpr h)
          have hkp : ∀ x : Nat, x < s9.heap.size → H[x]? = s9.heap[x]? := fun x h => hS.2.1 x h (Nat.not_le.mpr h)
          have hL := hL0.keep (fun x _ h => hkp x h)
          have b_9 := @onF_bd (mo (i : Int)) 1000000 (fun j j0 j8 => hmo i j (by omega) (by omega) j0 j8) (by decide) t
          have hU : s9.heap.size ≤ H.size := hS.1
          refine W.eq (g2 := F0 m9 45 ls [.int (zI (onF (mo (i : Int)) t)), .int (zI (mxF (wrT mo p t) i))]) rfl ?_
          refine zr_mmax hx hb (by rw [hml, hl.1]) hown (hts (.methodLink RX3 28 Lib.Math.max.name) (by decide +kernel)) (hts (.static Lib.Math.max.name) (by decide +kernel)) (hts (.initialized "java/lang/Math") (by decide +kernel)) (hts (.code Lib.Math.max.name Lib.Math.max.code 2 (some .int)) (by decide +kernel)) (Nat.le_of_ble_eq_true rfl) (Nat.le_of_ble_eq_true rfl) (show 0 ≤ 0 from by omega) (show 0 ≤ 0 from by omega) ⟨by omega, by omega⟩ ⟨by omega, by omega⟩ dX3_wears_45 ?_
          refine lv_istore_n (lv' := [(3, .int (zI (max (mxF (wrT mo p t) i) (onF (mo (i : Int)) t)))), (7, .ref (rm (i : Int))), (6, .int (zI (i : Int))), (5, .int (zI (M : Int))), (4, .ref am), (0, .ref a), (1, .int (zI p)), (2, .int (zI t))]) hx hb dX3_wears_48 rfl hl (by decide) rfl (fun ls hl => ?_)
          refine zr_iinc (v := (i : Int) + 1) (lv' := [(6, .int (zI ((i : Int) + 1))), (3, .int (zI (max (mxF (wrT mo p t) i) (onF (mo (i : Int)) t)))), (7, .ref (rm (i : Int))), (5, .int (zI (M : Int))), (4, .ref am), (0, .ref a), (1, .int (zI p)), (2, .int (zI t))]) hx hb dX3_wears_49 hl (k := 2) rfl rfl (by decide) rfl (fun ls hl => ?_)
          refine lv_goto (tgt := 16) hx hb dX3_wears_52 (by decide) ?_
          have hl := lv_sub hl (l' := [(6, .int (zI ((i : Int) + 1))), (5, .int (zI (M : Int))), (4, .ref am), (3, .int (zI (max (mxF (wrT mo p t) i) (onF (mo (i : Int)) t)))), (0, .ref a), (1, .int (zI p)), (2, .int (zI t))]) [0, 3, 4, 1, 5, 6, 7] rfl
          have e_10 : ((((i + 1) : Nat) : Int) : Int) = (i : Int) + 1 := by omega
          have e_11 : (mxF (wrT mo p t) (i + 1) : Int) = max (mxF (wrT mo p t) i) (onF (mo (i : Int)) t) := by first | (rw [mxF_s, wrT_y (by omega)]) | (rw [mxF_s, wrT_n (by omega)]; omega)
          have hl : lv_has ls 8 [(6, .int (zI (((i + 1) : Nat) : Int))), (5, .int (zI (M : Int))), (4, .ref am), (3, .int (zI (mxF (wrT mo p t) (i + 1)))), (0, .ref a), (1, .int (zI p)), (2, .int (zI t))] := by rw [e_10, e_11]; exact hl
          exact ih_i (i + 1) (by omega) (by omega) _ _ _  hS hl 
  have hl := lv_sub hl (l' := [(6, .int (zI 0)), (5, .int (zI (M : Int))), (4, .ref am), (3, .int (zI 0)), (0, .ref a), (1, .int (zI p)), (2, .int (zI t))]) [0, 1, 2, 3, 4, 5, 6] rfl
  have e_12 : (mxF (wrT mo p t) 0 : Int) = 0 := rfl
  have hl : lv_has ls 8 [(6, .int (zI 0)), (5, .int (zI (M : Int))), (4, .ref am), (3, .int (zI (mxF (wrT mo p t) 0))), (0, .ref a), (1, .int (zI p)), (2, .int (zI t))] := by rw [e_12]; exact hl
  exact L16_2 (M + 1) 0 (Nat.zero_le _) (by omega) _ _ _  hS hl 
set_option maxHeartbeats 4000000 in
set_option maxRecDepth 100000 in
theorem kX3_left (l : Launch) (D : va_G) (cI cZ c1 c2 : ClassId) (sz : Nat) (s0 : Nat) (a : Nat) (n : Nat) (pa : Int → Int) (sp : Int → Int) (al : Int → Int) (co : Int → Int) (da : Int → Int) (M : Nat) (mo : Int → Int → Int) (td : Int) (wn : Int) (p : Int) (d : Int) (htd : 0 ≤ td ∧ td ≤ 1000000) (hmo : ∀ i j : Int, 0 ≤ i → i < (M : Int) → 0 ≤ j → j ≤ 8 → -1 ≤ mo i j ∧ mo i j ≤ 1000000) (hp : -2147483648 ≤ p ∧ p ≤ 2147483647) (hd : -2147483648 ≤ d ∧ d ≤ 2147483647) : zG l yX3_left wsX3_left ({ frames := 1, cells := 0, slots := 0, locals := 30 } : Room) D cI cZ c1 c2 [.ref a, .int (zI p), .int (zI d)] sz (fun H => zSW D cI c1 c2 s0 a n pa sp al co da M mo td wn H) (fun v H => v = some (.int (zI (lfS mo M td p d)))) (fun q : Nat => sz ≤ q) (0) (0) := by
  refine Met.ofW (cc := cX3_left) (maxL := 8) (ret := (some .int)) (by decide) rfl ?_
  intro p0 e9 s9 m9 ag9 below meth c9 s₁ B hml hv
  obtain ⟨hav, hsz, hPre, hK, hQ⟩ := hv
  subst hsz
  have hx := B.exec
  have hb := B.bytes
  have hr := B.returns
  have hts := atoms_spec (ws := wsX3_left) B.pre
  have hown : s9.vm.findClass RX3 = some m9.cls := findClass_of_methodNamed B.named
  have hlocks := B.notSynchronized
  have hin3 : ∀ w ∈ u_ws RX3 TX3 5, w ∈ wsX3_left := by decide +kernel
  have hl := lv_entry ([.ref a, .int (zI p), .int (zI d)]) (n := 8) (Nat.le_of_ble_eq_true rfl)
  have hE : entryFrame m9 ag9 8 = F0 m9 0 ((lg_sl ([.ref a, .int (zI p), .int (zI d)]) ++ List.replicate (8 - (lg_sl ([.ref a, .int (zI p), .int (zI d)])).length) Slot.unset).toArray) [] := by rw [hav]; exact lg_entry_eq m9 _ _
  obtain ⟨Q0, hQ0⟩ : ∃ Q0, Q0 = MQ below (zGQ (fun v H => v = some (.int (zI (lfS mo M td p d)))) (fun q : Nat => s9.heap.size ≤ q)) ag9 s9 (0) (0) (fun q : Nat => s9.heap.size ≤ q) := ⟨_, rfl⟩
  show W p0 l e9 ({ frames := 1, cells := 0, slots := 0, locals := 30 } : Room) s9 m9 ag9 below meth c9 s9.heap [] 0 0 (MQ below (zGQ (fun v H => v = some (.int (zI (lfS mo M td p d)))) (fun q : Nat => s9.heap.size ≤ q)) ag9 s9 (0) (0) (fun q : Nat => s9.heap.size ≤ q)) _
  rw [hE, ← hQ0]
  have hS : va_S (fun q : Nat => s9.heap.size ≤ q) s9.heap s9.heap [] := va_S.rf
  have hU : s9.heap.size ≤ s9.heap.size := Nat.le_refl _
  generalize (lg_sl ([.ref a, .int (zI p), .int (zI d)]) ++ List.replicate (8 - (lg_sl ([.ref a, .int (zI p), .int (zI d)])).length) Slot.unset).toArray = ls at hl ⊢
  have hl : lv_has ls 8 [(0, .ref a), (1, .int (zI p)), (2, .int (zI d))] := hl
  obtain ⟨kd, ap, ac, am, ra, rc, rr, rm, hL0⟩ := hPre
  have hL := hL0
  refine zr_iconst hx hb dX3_left_0 ?_
  refine lv_istore_n (lv' := [(3, .int (zI 0)), (0, .ref a), (1, .int (zI p)), (2, .int (zI d))]) hx hb dX3_left_1 rfl hl (by decide) rfl (fun ls hl => ?_)
  refine lv_aload_n hx hb dX3_left_2 rfl (lv_at hl 1 rfl) ?_
  refine va_get (D := D) (ci := 3) (v := .ref am) (C := RX3) (T := TX3) (N := 5) hx hb hts hin3 hown hK hL.obj 0 rfl rfl 4 (by decide) (hts (.fieldLink RX3 20 "MourningRibbonsLaw$Sim" "mournings" "[[I") (by decide +kernel)) (fun _ h9 => h9) rfl dX3_left_3 ?_
  refine lv_astore (lv' := [(4, .ref am), (3, .int (zI 0)), (0, .ref a), (1, .int (zI p)), (2, .int (zI d))]) hx hb dX3_left_6 hl (by decide) rfl (fun ls hl => ?_)
  refine lv_aload hx hb dX3_left_8 (lv_at hl 0 rfl) ?_
  refine zs_len1 hx hb hQ hL.mou dX3_left_10 ?_
  have b_1 := hL.M240
  refine lv_istore (lv' := [(5, .int (zI (M : Int))), (4, .ref am), (3, .int (zI 0)), (0, .ref a), (1, .int (zI p)), (2, .int (zI d))]) hx hb dX3_left_11 hl (by decide) rfl (fun ls hl => ?_)
  refine zr_iconst hx hb dX3_left_13 ?_
  refine lv_istore (lv' := [(6, .int (zI 0)), (5, .int (zI (M : Int))), (4, .ref am), (3, .int (zI 0)), (0, .ref a), (1, .int (zI p)), (2, .int (zI d))]) hx hb dX3_left_14 hl (by decide) rfl (fun ls hl => ?_)
  have L16_2 : ∀ (kf i : Nat), i ≤ M → M - i < kf → ∀ (H : Heap) (locs : List Loc) (ls : Array Slot), va_S (fun q : Nat => s9.heap.size ≤ q) s9.heap H locs → lv_has ls 8 [(6, .int (zI (i : Int))), (5, .int (zI (M : Int))), (4, .ref am), (3, .int (zI (mxF (lfT mo td p d) i))), (0, .ref a), (1, .int (zI p)), (2, .int (zI d))] → W p0 l e9 (({ frames := 1, cells := 0, slots := 0, locals := 30 } : Room)) s9 m9 ag9 below meth c9 H locs 0 0 Q0 (F0 m9 16 ls []) := by
    intro kf
    induction kf with
    | zero => intro i h1 h2; omega
    | succ kf ih =>
      intro i hi_i hk_i H locs ls   hS hl 
      have ih_i := ih
      clear ih
      have hkp : ∀ x : Nat, x < s9.heap.size → H[x]? = s9.heap[x]? := fun x h => hS.2.1 x h (Nat.not_le.mpr h)
      have hL := hL0.keep (fun x _ h => hkp x h)
      have hU : s9.heap.size ≤ H.size := hS.1
      have hm := lfT_bd hmo htd p d (k := i) (by omega)
      have hM9 := hL.M240
      refine lv_iload hx hb dX3_left_16 (lv_at hl 0 rfl) ?_
      refine lv_iload hx hb dX3_left_18 (lv_at hl 1 rfl) ?_
      refine zr_icmp_ge (tgt := 71) hx hb dX3_left_20 (by decide) ⟨by omega, by omega⟩ ⟨by omega, by omega⟩ (fun c_3 => ?_) (fun c_3 => ?_)
      · have c_3 := c_3
        have x_4 : i = M := by omega
        try rw [x_4] at hl
        refine lv_iload_n hx hb dX3_left_71 rfl (lv_at hl 3 rfl) ?_
        rw [hQ0]
        exact zgret_i (z := lfS mo M td p d) hx hb hr hlocks (rfl) (rfl) hS dX3_left_72 (by omega) (by omega)
      · have c_3 := c_3
        refine lv_aload hx hb dX3_left_23 (lv_at hl 2 rfl) ?_
        refine lv_iload hx hb dX3_left_25 (lv_at hl 0 rfl) ?_
        refine zs_ald1 (v := .ref (rm (i : Int))) (i := (i : Int)) hx hb hQ hL.mou (by omega) (by omega) (by have := hL.M240; omega) rfl dX3_left_27 ?_
        refine lv_astore (lv' := [(7, .ref (rm (i : Int))), (6, .int (zI (i : Int))), (5, .int (zI (M : Int))), (4, .ref am), (3, .int (zI (mxF (lfT mo td p d) i))), (0, .ref a), (1, .int (zI p)), (2, .int (zI d))]) hx hb dX3_left_28 hl (by decide) rfl (fun ls hl => ?_)
        refine lv_aload hx hb dX3_left_30 (lv_at hl 0 rfl) ?_
        refine zr_iconst hx hb dX3_left_32 ?_
        refine zs_ild (v := mo (i : Int) 0) (i := 0) hx hb hQ (hL.mrn (i : Int) (by omega) (by omega)) (by decide) (by decide) (by decide) rfl dX3_left_33 ?_
        have b_5 := hmo (i : Int) 0 (by omega) (by omega) (by decide) (by decide)
        refine lv_iload_n hx hb dX3_left_34 rfl (lv_at hl 6 rfl) ?_
        refine zr_icmp_ne (tgt := 65) hx hb dX3_left_35 (by decide) ⟨by omega, by omega⟩ ⟨by omega, by omega⟩ (fun c_6 => ?_) (fun c_6 => ?_)
        · have c_6 := c_6
          refine zr_iinc (v := (i : Int) + 1) (lv' := [(6, .int (zI ((i : Int) + 1))), (7, .ref (rm (i : Int))), (5, .int (zI (M : Int))), (4, .ref am), (3, .int (zI (mxF (lfT mo td p d) i))), (0, .ref a), (1, .int (zI p)), (2, .int (zI d))]) hx hb dX3_left_65 hl (k := 1) rfl rfl (by decide) rfl (fun ls hl => ?_)
          refine lv_goto (tgt := 16) hx hb dX3_left_68 (by decide) ?_
          have hl := lv_sub hl (l' := [(6, .int (zI ((i : Int) + 1))), (5, .int (zI (M : Int))), (4, .ref am), (3, .int (zI (mxF (lfT mo td p d) i))), (0, .ref a), (1, .int (zI p)), (2, .int (zI d))]) [0, 2, 3, 4, 5, 6, 7] rfl
          have e_7 : ((((i + 1) : Nat) : Int) : Int) = (i : Int) + 1 := by omega
          have e_8 : (mxF (lfT mo td p d) (i + 1) : Int) = mxF (lfT mo td p d) i := by first | (rw [mxF_s, lfT_y (by omega)]) | (rw [mxF_s, lfT_n (by omega)]; omega)
          have hl : lv_has ls 8 [(6, .int (zI (((i + 1) : Nat) : Int))), (5, .int (zI (M : Int))), (4, .ref am), (3, .int (zI (mxF (lfT mo td p d) (i + 1)))), (0, .ref a), (1, .int (zI p)), (2, .int (zI d))] := by rw [e_7, e_8]; exact hl
          exact ih_i (i + 1) (by omega) (by omega) _ _ _  hS hl 
        · have c_6 := c_6
          refine lv_iload_n hx hb dX3_left_38 rfl (lv_at hl 7 rfl) ?_
          refine zr_if_lt (tgt := 50) hx hb dX3_left_39 (by decide) ⟨by omega, by omega⟩ (fun c_9 => ?_) (fun c_9 => ?_)
          · have c_9 := c_9
            refine lv_iload_n hx hb dX3_left_50 rfl (lv_at hl 4 rfl) ?_
            refine lv_aload hx hb dX3_left_51 (lv_at hl 0 rfl) ?_
            refine zcallGS (As := [.ref (rm (i : Int))]) (rest := [.int (zI (mxF (lfT mo td p d) i))]) ⟨hx, hb, hml, hown, hts⟩ hK hQ (kX3_end l D cI cZ c1 c2 H.size (rm (i : Int)) (mo (i : Int)) (fun j j0 j8 => hmo i j (by omega) (by omega) j0 j8)) (va_cwS 1 hts gX3_left_X3_end rfl rfl rfl (by decide +kernel) ⟨by first | exact Nat.le_of_ble_eq_true rfl | (show _ ≤ _; omega), Nat.le_of_ble_eq_true rfl⟩) (hL.mrn (i : Int) (by omega) (by omega)) hS (fun q h => Nat.le_trans hU h) rfl hl.1 rfl (Nat.le_of_ble_eq_true rfl) dX3_left_53 ⟨show 0 + 0 ≤ 0 from by omega, show 0 + 0 ≤ 0 from by omega⟩ (fun v9 H locs hp9 hz9 hk9 hS => ?_)
            subst hp9
            have hk9 := fun (x : Nat) (h : x < _) => hk9 x h (Nat.not_le.mpr h)
            have hkp : ∀ x : Nat, x < s9.heap.size → H[x]? = s9.heap[x]? := fun x h => hS.2.1 x h (Nat.not_le.mpr h)
            have hL := hL0.keep (fun x _ h => hkp x h)
            have b_10 := @enF_bd (mo (i : Int)) 1000000 (fun j j0 j8 => hmo i j (by omega) (by omega) j0 j8)
            have hU : s9.heap.size ≤ H.size := hS.1
            refine W.eq (g2 := F0 m9 56 ls [.int (zI (enF (mo (i : Int)))), .int (zI (mxF (lfT mo td p d) i))]) rfl ?_
            refine lv_aload_n hx hb dX3_left_56 rfl (lv_at hl 5 rfl) ?_
            refine va_get (D := D) (ci := 3) (v := .int (zI td)) (C := RX3) (T := TX3) (N := 5) hx hb hts hin3 hown hK hL.obj 0 rfl rfl 0 (by decide) (hts (.fieldLink RX3 38 "MourningRibbonsLaw$Sim" "day" "I") (by decide +kernel)) (fun _ h9 => h9) rfl dX3_left_57 ?_
            refine zr_isub (v := (enF (mo (i : Int))) - td) hx hb rfl dX3_left_60 ?_
            refine zr_mmax hx hb (by rw [hml, hl.1]) hown (hts (.methodLink RX3 28 Lib.Math.max.name) (by decide +kernel)) (hts (.static Lib.Math.max.name) (by decide +kernel)) (hts (.initialized "java/lang/Math") (by decide +kernel)) (hts (.code Lib.Math.max.name Lib.Math.max.code 2 (some .int)) (by decide +kernel)) (Nat.le_of_ble_eq_true rfl) (Nat.le_of_ble_eq_true rfl) (show 0 ≤ 0 from by omega) (show 0 ≤ 0 from by omega) ⟨by omega, by omega⟩ ⟨by omega, by omega⟩ dX3_left_61 ?_
            refine lv_istore_n (lv' := [(3, .int (zI (max (mxF (lfT mo td p d) i) ((enF (mo (i : Int))) - td)))), (7, .ref (rm (i : Int))), (6, .int (zI (i : Int))), (5, .int (zI (M : Int))), (4, .ref am), (0, .ref a), (1, .int (zI p)), (2, .int (zI d))]) hx hb dX3_left_64 rfl hl (by decide) rfl (fun ls hl => ?_)
            refine zr_iinc (v := (i : Int) + 1) (lv' := [(6, .int (zI ((i : Int) + 1))), (3, .int (zI (max (mxF (lfT mo td p d) i) ((enF (mo (i : Int))) - td)))), (7, .ref (rm (i : Int))), (5, .int (zI (M : Int))), (4, .ref am), (0, .ref a), (1, .int (zI p)), (2, .int (zI d))]) hx hb dX3_left_65 hl (k := 2) rfl rfl (by decide) rfl (fun ls hl => ?_)
            refine lv_goto (tgt := 16) hx hb dX3_left_68 (by decide) ?_
            have hl := lv_sub hl (l' := [(6, .int (zI ((i : Int) + 1))), (5, .int (zI (M : Int))), (4, .ref am), (3, .int (zI (max (mxF (lfT mo td p d) i) ((enF (mo (i : Int))) - td)))), (0, .ref a), (1, .int (zI p)), (2, .int (zI d))]) [0, 3, 4, 1, 5, 6, 7] rfl
            have e_11 : ((((i + 1) : Nat) : Int) : Int) = (i : Int) + 1 := by omega
            have e_12 : (mxF (lfT mo td p d) (i + 1) : Int) = max (mxF (lfT mo td p d) i) ((enF (mo (i : Int))) - td) := by first | (rw [mxF_s, lfT_y (by omega)]) | (rw [mxF_s, lfT_n (by omega)]; omega)
            have hl : lv_has ls 8 [(6, .int (zI (((i + 1) : Nat) : Int))), (5, .int (zI (M : Int))), (4, .ref am), (3, .int (zI (mxF (lfT mo td p d) (i + 1)))), (0, .ref a), (1, .int (zI p)), (2, .int (zI d))] := by rw [e_11, e_12]; exact hl
            exact ih_i (i + 1) (by omega) (by omega) _ _ _  hS hl 
          · have c_9 := c_9
            refine lv_aload hx hb dX3_left_42 (lv_at hl 0 rfl) ?_
            refine zr_iconst hx hb dX3_left_44 ?_
            refine zs_ild (v := mo (i : Int) 1) (i := 1) hx hb hQ (hL.mrn (i : Int) (by omega) (by omega)) (by decide) (by decide) (by decide) rfl dX3_left_45 ?_
            have b_13 := hmo (i : Int) 1 (by omega) (by omega) (by decide) (by decide)
            refine lv_iload_n hx hb dX3_left_46 rfl (lv_at hl 7 rfl) ?_
            refine zr_icmp_ne (tgt := 65) hx hb dX3_left_47 (by decide) ⟨by omega, by omega⟩ ⟨by omega, by omega⟩ (fun c_14 => ?_) (fun c_14 => ?_)
            · have c_14 := c_14
              refine zr_iinc (v := (i : Int) + 1) (lv' := [(6, .int (zI ((i : Int) + 1))), (7, .ref (rm (i : Int))), (5, .int (zI (M : Int))), (4, .ref am), (3, .int (zI (mxF (lfT mo td p d) i))), (0, .ref a), (1, .int (zI p)), (2, .int (zI d))]) hx hb dX3_left_65 hl (k := 1) rfl rfl (by decide) rfl (fun ls hl => ?_)
              refine lv_goto (tgt := 16) hx hb dX3_left_68 (by decide) ?_
              have hl := lv_sub hl (l' := [(6, .int (zI ((i : Int) + 1))), (5, .int (zI (M : Int))), (4, .ref am), (3, .int (zI (mxF (lfT mo td p d) i))), (0, .ref a), (1, .int (zI p)), (2, .int (zI d))]) [0, 2, 3, 4, 5, 6, 7] rfl
              have e_15 : ((((i + 1) : Nat) : Int) : Int) = (i : Int) + 1 := by omega
              have e_16 : (mxF (lfT mo td p d) (i + 1) : Int) = mxF (lfT mo td p d) i := by first | (rw [mxF_s, lfT_y (by omega)]) | (rw [mxF_s, lfT_n (by omega)]; omega)
              have hl : lv_has ls 8 [(6, .int (zI (((i + 1) : Nat) : Int))), (5, .int (zI (M : Int))), (4, .ref am), (3, .int (zI (mxF (lfT mo td p d) (i + 1)))), (0, .ref a), (1, .int (zI p)), (2, .int (zI d))] := by rw [e_15, e_16]; exact hl
              exact ih_i (i + 1) (by omega) (by omega) _ _ _  hS hl 
            · have c_14 := c_14
              refine lv_iload_n hx hb dX3_left_50 rfl (lv_at hl 4 rfl) ?_
              refine lv_aload hx hb dX3_left_51 (lv_at hl 0 rfl) ?_
              refine zcallGS (As := [.ref (rm (i : Int))]) (rest := [.int (zI (mxF (lfT mo td p d) i))]) ⟨hx, hb, hml, hown, hts⟩ hK hQ (kX3_end l D cI cZ c1 c2 H.size (rm (i : Int)) (mo (i : Int)) (fun j j0 j8 => hmo i j (by omega) (by omega) j0 j8)) (va_cwS 1 hts gX3_left_X3_end rfl rfl rfl (by decide +kernel) ⟨by first | exact Nat.le_of_ble_eq_true rfl | (show _ ≤ _; omega), Nat.le_of_ble_eq_true rfl⟩) (hL.mrn (i : Int) (by omega) (by omega)) hS (fun q h => Nat.le_trans hU h) rfl hl.1 rfl (Nat.le_of_ble_eq_true rfl) dX3_left_53 ⟨show 0 + 0 ≤ 0 from by omega, show 0 + 0 ≤ 0 from by omega⟩ (fun v9 H locs hp9 hz9 hk9 hS => ?_)
              subst hp9
              have hk9 := fun (x : Nat) (h : x < _) => hk9 x h (Nat.not_le.mpr h)
              have hkp : ∀ x : Nat, x < s9.heap.size → H[x]? = s9.heap[x]? := fun x h => hS.2.1 x h (Nat.not_le.mpr h)
              have hL := hL0.keep (fun x _ h => hkp x h)
              have b_17 := @enF_bd (mo (i : Int)) 1000000 (fun j j0 j8 => hmo i j (by omega) (by omega) j0 j8)
              have hU : s9.heap.size ≤ H.size := hS.1
              refine W.eq (g2 := F0 m9 56 ls [.int (zI (enF (mo (i : Int)))), .int (zI (mxF (lfT mo td p d) i))]) rfl ?_
              refine lv_aload_n hx hb dX3_left_56 rfl (lv_at hl 5 rfl) ?_
              refine va_get (D := D) (ci := 3) (v := .int (zI td)) (C := RX3) (T := TX3) (N := 5) hx hb hts hin3 hown hK hL.obj 0 rfl rfl 0 (by decide) (hts (.fieldLink RX3 38 "MourningRibbonsLaw$Sim" "day" "I") (by decide +kernel)) (fun _ h9 => h9) rfl dX3_left_57 ?_
              refine zr_isub (v := (enF (mo (i : Int))) - td) hx hb rfl dX3_left_60 ?_
              refine zr_mmax hx hb (by rw [hml, hl.1]) hown (hts (.methodLink RX3 28 Lib.Math.max.name) (by decide +kernel)) (hts (.static Lib.Math.max.name) (by decide +kernel)) (hts (.initialized "java/lang/Math") (by decide +kernel)) (hts (.code Lib.Math.max.name Lib.Math.max.code 2 (some .int)) (by decide +kernel)) (Nat.le_of_ble_eq_true rfl) (Nat.le_of_ble_eq_true rfl) (show 0 ≤ 0 from by omega) (show 0 ≤ 0 from by omega) ⟨by omega, by omega⟩ ⟨by omega, by omega⟩ dX3_left_61 ?_
              refine lv_istore_n (lv' := [(3, .int (zI (max (mxF (lfT mo td p d) i) ((enF (mo (i : Int))) - td)))), (7, .ref (rm (i : Int))), (6, .int (zI (i : Int))), (5, .int (zI (M : Int))), (4, .ref am), (0, .ref a), (1, .int (zI p)), (2, .int (zI d))]) hx hb dX3_left_64 rfl hl (by decide) rfl (fun ls hl => ?_)
              refine zr_iinc (v := (i : Int) + 1) (lv' := [(6, .int (zI ((i : Int) + 1))), (3, .int (zI (max (mxF (lfT mo td p d) i) ((enF (mo (i : Int))) - td)))), (7, .ref (rm (i : Int))), (5, .int (zI (M : Int))), (4, .ref am), (0, .ref a), (1, .int (zI p)), (2, .int (zI d))]) hx hb dX3_left_65 hl (k := 2) rfl rfl (by decide) rfl (fun ls hl => ?_)
              refine lv_goto (tgt := 16) hx hb dX3_left_68 (by decide) ?_
              have hl := lv_sub hl (l' := [(6, .int (zI ((i : Int) + 1))), (5, .int (zI (M : Int))), (4, .ref am), (3, .int (zI (max (mxF (lfT mo td p d) i) ((enF (mo (i : Int))) - td)))), (0, .ref a), (1, .int (zI p)), (2, .int (zI d))]) [0, 3, 4, 1, 5, 6, 7] rfl
              have e_18 : ((((i + 1) : Nat) : Int) : Int) = (i : Int) + 1 := by omega
              have e_19 : (mxF (lfT mo td p d) (i + 1) : Int) = max (mxF (lfT mo td p d) i) ((enF (mo (i : Int))) - td) := by first | (rw [mxF_s, lfT_y (by omega)]) | (rw [mxF_s, lfT_n (by omega)]; omega)
              have hl : lv_has ls 8 [(6, .int (zI (((i + 1) : Nat) : Int))), (5, .int (zI (M : Int))), (4, .ref am), (3, .int (zI (mxF (lfT mo td p d) (i + 1)))), (0, .ref a), (1, .int (zI p)), (2, .int (zI d))] := by rw [e_18, e_19]; exact hl
              exact ih_i (i + 1) (by omega) (by omega) _ _ _  hS hl 
  have hl := lv_sub hl (l' := [(6, .int (zI 0)), (5, .int (zI (M : Int))), (4, .ref am), (3, .int (zI 0)), (0, .ref a), (1, .int (zI p)), (2, .int (zI d))]) [0, 1, 2, 3, 4, 5, 6] rfl
  have e_20 : (mxF (lfT mo td p d) 0 : Int) = 0 := rfl
  have hl : lv_has ls 8 [(6, .int (zI 0)), (5, .int (zI (M : Int))), (4, .ref am), (3, .int (zI (mxF (lfT mo td p d) 0))), (0, .ref a), (1, .int (zI p)), (2, .int (zI d))] := by rw [e_20]; exact hl
  exact L16_2 (M + 1) 0 (Nat.zero_le _) (by omega) _ _ _  hS hl 
set_option maxHeartbeats 4000000 in
set_option maxRecDepth 100000 in
theorem kX3_length (l : Launch) (D : va_G) (cI cZ c1 c2 : ClassId) (sz : Nat) (s0 : Nat) (a : Nat) (n : Nat) (pa : Int → Int) (sp : Int → Int) (al : Int → Int) (co : Int → Int) (da : Int → Int) (M : Nat) (mo : Int → Int → Int) (td : Int) (wn : Int) (g : Int) (hda : ∀ j : Int, 0 ≤ da j ∧ da j ≤ 60) (hg : 1 ≤ g ∧ g ≤ 4) : zG l yX3_length wsX3_length ({ frames := 0, cells := 0, slots := 0, locals := 0 } : Room) D cI cZ c1 c2 [.ref a, .int (zI g)] sz (fun H => zSW D cI c1 c2 s0 a n pa sp al co da M mo td wn H) (fun v H => v = some (.int (zI (dAll da 16 g)))) (fun q : Nat => sz ≤ q) (0) (0) := by
  refine Met.ofW (cc := cX3_length) (maxL := 2) (ret := (some .int)) (by decide) rfl ?_
  intro p0 e9 s9 m9 ag9 below meth c9 s₁ B hml hv
  obtain ⟨hav, hsz, hPre, hK, hQ⟩ := hv
  subst hsz
  have hx := B.exec
  have hb := B.bytes
  have hr := B.returns
  have hts := atoms_spec (ws := wsX3_length) B.pre
  have hown : s9.vm.findClass RX3 = some m9.cls := findClass_of_methodNamed B.named
  have hlocks := B.notSynchronized
  have hin3 : ∀ w ∈ u_ws RX3 TX3 5, w ∈ wsX3_length := by decide +kernel
  have hl := lv_entry ([.ref a, .int (zI g)]) (n := 2) (Nat.le_of_ble_eq_true rfl)
  have hE : entryFrame m9 ag9 2 = F0 m9 0 ((lg_sl ([.ref a, .int (zI g)]) ++ List.replicate (2 - (lg_sl ([.ref a, .int (zI g)])).length) Slot.unset).toArray) [] := by rw [hav]; exact lg_entry_eq m9 _ _
  obtain ⟨Q0, hQ0⟩ : ∃ Q0, Q0 = MQ below (zGQ (fun v H => v = some (.int (zI (dAll da 16 g)))) (fun q : Nat => s9.heap.size ≤ q)) ag9 s9 (0) (0) (fun q : Nat => s9.heap.size ≤ q) := ⟨_, rfl⟩
  show W p0 l e9 ({ frames := 0, cells := 0, slots := 0, locals := 0 } : Room) s9 m9 ag9 below meth c9 s9.heap [] 0 0 (MQ below (zGQ (fun v H => v = some (.int (zI (dAll da 16 g)))) (fun q : Nat => s9.heap.size ≤ q)) ag9 s9 (0) (0) (fun q : Nat => s9.heap.size ≤ q)) _
  rw [hE, ← hQ0]
  have hS : va_S (fun q : Nat => s9.heap.size ≤ q) s9.heap s9.heap [] := va_S.rf
  have hU : s9.heap.size ≤ s9.heap.size := Nat.le_refl _
  generalize (lg_sl ([.ref a, .int (zI g)]) ++ List.replicate (2 - (lg_sl ([.ref a, .int (zI g)])).length) Slot.unset).toArray = ls at hl ⊢
  have hl : lv_has ls 2 [(0, .ref a), (1, .int (zI g))] := hl
  obtain ⟨kd, ap, ac, am, ra, rc, rr, rm, hL0⟩ := hPre
  have hL := hL0
  refine lv_aload_n hx hb dX3_length_0 rfl (lv_at hl 0 rfl) ?_
  refine va_get (D := D) (ci := 3) (v := .ref ac) (C := RX3) (T := TX3) (N := 5) hx hb hts hin3 hown hK hL.obj 0 rfl rfl 3 (by decide) (hts (.fieldLink RX3 17 "MourningRibbonsLaw$Sim" "code" "[[[I") (by decide +kernel)) (fun _ h9 => h9) rfl dX3_length_1 ?_
  refine lv_iload_n hx hb dX3_length_4 rfl (lv_at hl 1 rfl) ?_
  refine zs_ald2 (v := .ref (rc g)) (i := g) hx hb hQ hL.cod (by omega) (by omega) (by decide) rfl dX3_length_5 ?_
  refine zr_iconst hx hb dX3_length_6 ?_
  refine zs_ald1 (v := .ref (rr g 0)) (i := 0) hx hb hQ (hL.cds g (by omega) (by omega)) (by decide) (by decide) (by decide) rfl dX3_length_7 ?_
  refine zr_iconst hx hb dX3_length_8 ?_
  refine zs_ild (v := da (192 + ((g - 1) * 3 + 0))) (i := 1) hx hb hQ (hL.stg g 0 (by omega) (by omega) (by omega) (by omega)) (by decide) (by decide) (by decide) rfl dX3_length_9 ?_
  have b_1 := hda (192 + ((g - 1) * 3 + 0))
  refine lv_aload_n hx hb dX3_length_10 rfl (lv_at hl 0 rfl) ?_
  refine va_get (D := D) (ci := 3) (v := .ref ac) (C := RX3) (T := TX3) (N := 5) hx hb hts hin3 hown hK hL.obj 0 rfl rfl 3 (by decide) (hts (.fieldLink RX3 17 "MourningRibbonsLaw$Sim" "code" "[[[I") (by decide +kernel)) (fun _ h9 => h9) rfl dX3_length_11 ?_
  refine lv_iload_n hx hb dX3_length_14 rfl (lv_at hl 1 rfl) ?_
  refine zs_ald2 (v := .ref (rc g)) (i := g) hx hb hQ hL.cod (by omega) (by omega) (by decide) rfl dX3_length_15 ?_
  refine zr_iconst hx hb dX3_length_16 ?_
  refine zs_ald1 (v := .ref (rr g 1)) (i := 1) hx hb hQ (hL.cds g (by omega) (by omega)) (by decide) (by decide) (by decide) rfl dX3_length_17 ?_
  refine zr_iconst hx hb dX3_length_18 ?_
  refine zs_ild (v := da (192 + ((g - 1) * 3 + 1))) (i := 1) hx hb hQ (hL.stg g 1 (by omega) (by omega) (by omega) (by omega)) (by decide) (by decide) (by decide) rfl dX3_length_19 ?_
  have b_2 := hda (192 + ((g - 1) * 3 + 1))
  refine zr_iadd (v := (da (192 + ((g - 1) * 3 + 0))) + (da (192 + ((g - 1) * 3 + 1)))) hx hb rfl dX3_length_20 ?_
  refine lv_aload_n hx hb dX3_length_21 rfl (lv_at hl 0 rfl) ?_
  refine va_get (D := D) (ci := 3) (v := .ref ac) (C := RX3) (T := TX3) (N := 5) hx hb hts hin3 hown hK hL.obj 0 rfl rfl 3 (by decide) (hts (.fieldLink RX3 17 "MourningRibbonsLaw$Sim" "code" "[[[I") (by decide +kernel)) (fun _ h9 => h9) rfl dX3_length_22 ?_
  refine lv_iload_n hx hb dX3_length_25 rfl (lv_at hl 1 rfl) ?_
  refine zs_ald2 (v := .ref (rc g)) (i := g) hx hb hQ hL.cod (by omega) (by omega) (by decide) rfl dX3_length_26 ?_
  refine zr_iconst hx hb dX3_length_27 ?_
  refine zs_ald1 (v := .ref (rr g 2)) (i := 2) hx hb hQ (hL.cds g (by omega) (by omega)) (by decide) (by decide) (by decide) rfl dX3_length_28 ?_
  refine zr_iconst hx hb dX3_length_29 ?_
  refine zs_ild (v := da (192 + ((g - 1) * 3 + 2))) (i := 1) hx hb hQ (hL.stg g 2 (by omega) (by omega) (by omega) (by omega)) (by decide) (by decide) (by decide) rfl dX3_length_30 ?_
  have b_3 := hda (192 + ((g - 1) * 3 + 2))
  refine zr_iadd (v := ((da (192 + ((g - 1) * 3 + 0))) + (da (192 + ((g - 1) * 3 + 1)))) + (da (192 + ((g - 1) * 3 + 2)))) hx hb rfl dX3_length_31 ?_
  rw [hQ0]
  exact zgret_i (z := dAll da 16 g) hx hb hr hlocks (by unfold dAll; rw [if_neg (by omega)]; (repeat rw [show (192 : Int) + ((g - 1) * 3 + 0) = 16 * 12 + (g - 1) * 3 + 0 by omega]); rw [show (192 : Int) + ((g - 1) * 3 + 1) = 16 * 12 + (g - 1) * 3 + 1 by omega, show (192 : Int) + ((g - 1) * 3 + 2) = 16 * 12 + (g - 1) * 3 + 2 by omega]) (rfl) hS dX3_length_32 (by omega) (by omega)
set_option maxHeartbeats 4000000 in
set_option maxRecDepth 100000 in
theorem kX3_inColour (l : Launch) (D : va_G) (cI cZ c1 c2 : ClassId) (sz : Nat) (s0 : Nat) (a : Nat) (n : Nat) (pa : Int → Int) (sp : Int → Int) (al : Int → Int) (co : Int → Int) (da : Int → Int) (M : Nat) (mo : Int → Int → Int) (td : Int) (wn : Int) (htd : 0 ≤ td ∧ td ≤ 1000000) (hmo : ∀ i j : Int, 0 ≤ i → i < (M : Int) → 0 ≤ j → j ≤ 8 → -1 ≤ mo i j ∧ mo i j ≤ 1000000) : zG l yX3_inColour wsX3_inColour ({ frames := 2, cells := 0, slots := 0, locals := 57 } : Room) D cI cZ c1 c2 [.ref a] sz (fun H => zSW D cI c1 c2 s0 a n pa sp al co da M mo td wn H) (fun v H => v = some (.int (zI (icF mo M n td)))) (fun q : Nat => sz ≤ q) (0) (0) := by
  refine Met.ofW (cc := cX3_inColour) (maxL := 3) (ret := (some .int)) (by decide) rfl ?_
  intro p0 e9 s9 m9 ag9 below meth c9 s₁ B hml hv
  obtain ⟨hav, hsz, hPre, hK, hQ⟩ := hv
  subst hsz
  have hx := B.exec
  have hb := B.bytes
  have hr := B.returns
  have hts := atoms_spec (ws := wsX3_inColour) B.pre
  have hown : s9.vm.findClass RX3 = some m9.cls := findClass_of_methodNamed B.named
  have hlocks := B.notSynchronized
  have hin3 : ∀ w ∈ u_ws RX3 TX3 5, w ∈ wsX3_inColour := by decide +kernel
  have hl := lv_entry ([.ref a]) (n := 3) (Nat.le_of_ble_eq_true rfl)
  have hE : entryFrame m9 ag9 3 = F0 m9 0 ((lg_sl ([.ref a]) ++ List.replicate (3 - (lg_sl ([.ref a])).length) Slot.unset).toArray) [] := by rw [hav]; exact lg_entry_eq m9 _ _
  obtain ⟨Q0, hQ0⟩ : ∃ Q0, Q0 = MQ below (zGQ (fun v H => v = some (.int (zI (icF mo M n td)))) (fun q : Nat => s9.heap.size ≤ q)) ag9 s9 (0) (0) (fun q : Nat => s9.heap.size ≤ q) := ⟨_, rfl⟩
  show W p0 l e9 ({ frames := 2, cells := 0, slots := 0, locals := 57 } : Room) s9 m9 ag9 below meth c9 s9.heap [] 0 0 (MQ below (zGQ (fun v H => v = some (.int (zI (icF mo M n td)))) (fun q : Nat => s9.heap.size ≤ q)) ag9 s9 (0) (0) (fun q : Nat => s9.heap.size ≤ q)) _
  rw [hE, ← hQ0]
  have hS : va_S (fun q : Nat => s9.heap.size ≤ q) s9.heap s9.heap [] := va_S.rf
  have hU : s9.heap.size ≤ s9.heap.size := Nat.le_refl _
  generalize (lg_sl ([.ref a]) ++ List.replicate (3 - (lg_sl ([.ref a])).length) Slot.unset).toArray = ls at hl ⊢
  have hl : lv_has ls 3 [(0, .ref a)] := hl
  obtain ⟨kd, ap, ac, am, ra, rc, rr, rm, hL0⟩ := hPre
  have hL := hL0
  refine zr_iconst hx hb dX3_inColour_0 ?_
  refine lv_istore_n (lv' := [(1, .int (zI 0)), (0, .ref a)]) hx hb dX3_inColour_1 rfl hl (by decide) rfl (fun ls hl => ?_)
  refine zr_iconst hx hb dX3_inColour_2 ?_
  refine lv_istore_n (lv' := [(2, .int (zI 0)), (1, .int (zI 0)), (0, .ref a)]) hx hb dX3_inColour_3 rfl hl (by decide) rfl (fun ls hl => ?_)
  have L4_1 : ∀ (kf i : Nat), i ≤ n → n - i < kf → ∀ (H : Heap) (locs : List Loc) (ls : Array Slot), va_S (fun q : Nat => s9.heap.size ≤ q) s9.heap H locs → lv_has ls 3 [(2, .int (zI (i : Int))), (1, .int (zI (smF (icT mo M td) i))), (0, .ref a)] → W p0 l e9 (({ frames := 2, cells := 0, slots := 0, locals := 57 } : Room)) s9 m9 ag9 below meth c9 H locs 0 0 Q0 (F0 m9 4 ls []) := by
    intro kf
    induction kf with
    | zero => intro i h1 h2; omega
    | succ kf ih =>
      intro i hi_i hk_i H locs ls   hS hl 
      have ih_i := ih
      clear ih
      have hkp : ∀ x : Nat, x < s9.heap.size → H[x]? = s9.heap[x]? := fun x h => hS.2.1 x h (Nat.not_le.mpr h)
      have hL := hL0.keep (fun x _ h => hkp x h)
      have hU : s9.heap.size ≤ H.size := hS.1
      have hn9 := hL.n16
      refine lv_iload_n hx hb dX3_inColour_4 rfl (lv_at hl 0 rfl) ?_
      refine lv_aload_n hx hb dX3_inColour_5 rfl (lv_at hl 2 rfl) ?_
      refine va_get (D := D) (ci := 3) (v := .ref ap) (C := RX3) (T := TX3) (N := 5) hx hb hts hin3 hown hK hL.obj 0 rfl rfl 2 (by decide) (hts (.fieldLink RX3 9 "MourningRibbonsLaw$Sim" "people" "[[I") (by decide +kernel)) (fun _ h9 => h9) rfl dX3_inColour_6 ?_
      refine zs_len1 hx hb hQ hL.ppl dX3_inColour_9 ?_
      have b_2 := hL.n16
      refine zr_icmp_ge (tgt := 39) hx hb dX3_inColour_10 (by decide) ⟨by omega, by omega⟩ ⟨by omega, by omega⟩ (fun c_3 => ?_) (fun c_3 => ?_)
      · have c_3 := c_3
        have x_4 : i = n := by omega
        try rw [x_4] at hl
        refine lv_iload_n hx hb dX3_inColour_39 rfl (lv_at hl 1 rfl) ?_
        rw [hQ0]
        exact zgret_i (z := icF mo M n td) hx hb hr hlocks (rfl) (rfl) hS dX3_inColour_40 (by omega) (by omega)
      · have c_3 := c_3
        refine lv_iload_n hx hb dX3_inColour_13 rfl (lv_at hl 1 rfl) ?_
        refine lv_aload_n hx hb dX3_inColour_14 rfl (lv_at hl 2 rfl) ?_
        refine lv_iload_n hx hb dX3_inColour_15 rfl (lv_at hl 0 rfl) ?_
        refine lv_aload_n hx hb dX3_inColour_16 rfl (lv_at hl 2 rfl) ?_
        refine va_get (D := D) (ci := 3) (v := .int (zI td)) (C := RX3) (T := TX3) (N := 5) hx hb hts hin3 hown hK hL.obj 0 rfl rfl 0 (by decide) (hts (.fieldLink RX3 38 "MourningRibbonsLaw$Sim" "day" "I") (by decide +kernel)) (fun _ h9 => h9) rfl dX3_inColour_17 ?_
        refine zcallGV (ci := 3) (cq := (RX3, TX3, 5)) (As := [.int (zI (i : Int)), .int (zI td)]) (rest := [.int (zI (smF (icT mo M td) i))]) ⟨hx, hb, hml, hown, hts⟩ hK hQ (kX3_wears l D cI cZ c1 c2 H.size s0 a n pa sp al co da M mo td wn (i : Int) td hmo (by omega) (by omega)) (cwV 2 hts gX3_inColour_X3_wears rfl rfl rfl (by decide +kernel) ⟨by first | exact Nat.le_of_ble_eq_true rfl | (show _ ≤ _; omega), Nat.le_of_ble_eq_true rfl⟩) (hL.toW hU) hL.obj hS (fun q h => Nat.le_trans hU h) rfl rfl hl.1 rfl (Nat.le_of_ble_eq_true rfl) dX3_inColour_20 ⟨show 0 + 0 ≤ 0 from by omega, show 0 + 0 ≤ 0 from by omega⟩ (fun v9 H locs hp9 hz9 hk9 hS => ?_)
        subst hp9
        have hk9 := fun (x : Nat) (h : x < _) => hk9 x h (Nat.not_le.mpr h)
        have hkp : ∀ x : Nat, x < s9.heap.size → H[x]? = s9.heap[x]? := fun x h => hS.2.1 x h (Nat.not_le.mpr h)
        have hL := hL0.keep (fun x _ h => hkp x h)
        have b_5 := (show 0 ≤ wrF mo M td (i : Int) ∧ wrF mo M td (i : Int) ≤ 1000000 from wrT_bd hmo (i : Int) td (Nat.le_refl M))
        have hU : s9.heap.size ≤ H.size := hS.1
        refine W.eq (g2 := F0 m9 23 ls [.int (zI (wrF mo M td (i : Int))), .int (zI (smF (icT mo M td) i))]) rfl ?_
        refine zr_if_le (tgt := 30) hx hb dX3_inColour_23 (by decide) ⟨by omega, by omega⟩ (fun c_6 => ?_) (fun c_6 => ?_)
        · have c_6 := c_6
          refine zr_iconst hx hb dX3_inColour_30 ?_
          refine zr_iadd (v := smF (icT mo M td) i) hx hb (by omega) dX3_inColour_31 ?_
          refine lv_istore_n (lv' := [(1, .int (zI (smF (icT mo M td) i))), (2, .int (zI (i : Int))), (0, .ref a)]) hx hb dX3_inColour_32 rfl hl (by decide) rfl (fun ls hl => ?_)
          refine zr_iinc (v := (i : Int) + 1) (lv' := [(2, .int (zI ((i : Int) + 1))), (1, .int (zI (smF (icT mo M td) i))), (0, .ref a)]) hx hb dX3_inColour_33 hl (k := 1) rfl rfl (by decide) rfl (fun ls hl => ?_)
          refine lv_goto (tgt := 4) hx hb dX3_inColour_36 (by decide) ?_
          have hl := lv_sub hl (l' := [(2, .int (zI ((i : Int) + 1))), (1, .int (zI (smF (icT mo M td) i))), (0, .ref a)]) [0, 1, 2] rfl
          have e_7 : ((((i + 1) : Nat) : Int) : Int) = (i : Int) + 1 := by omega
          have e_8 : (smF (icT mo M td) (i + 1) : Int) = smF (icT mo M td) i := by first | (rw [smF_s, icT_y (by omega)]) | (rw [smF_s, icT_n (by omega)]; omega)
          have hl : lv_has ls 3 [(2, .int (zI (((i + 1) : Nat) : Int))), (1, .int (zI (smF (icT mo M td) (i + 1)))), (0, .ref a)] := by rw [e_7, e_8]; exact hl
          exact ih_i (i + 1) (by omega) (by omega) _ _ _  hS hl 
        · have c_6 := c_6
          refine zr_iconst hx hb dX3_inColour_26 ?_
          refine lv_goto (tgt := 31) hx hb dX3_inColour_27 (by decide) ?_
          refine zr_iadd (v := (smF (icT mo M td) i) + 1) hx hb rfl dX3_inColour_31 ?_
          refine lv_istore_n (lv' := [(1, .int (zI ((smF (icT mo M td) i) + 1))), (2, .int (zI (i : Int))), (0, .ref a)]) hx hb dX3_inColour_32 rfl hl (by decide) rfl (fun ls hl => ?_)
          refine zr_iinc (v := (i : Int) + 1) (lv' := [(2, .int (zI ((i : Int) + 1))), (1, .int (zI ((smF (icT mo M td) i) + 1))), (0, .ref a)]) hx hb dX3_inColour_33 hl (k := 1) rfl rfl (by decide) rfl (fun ls hl => ?_)
          refine lv_goto (tgt := 4) hx hb dX3_inColour_36 (by decide) ?_
          have hl := lv_sub hl (l' := [(2, .int (zI ((i : Int) + 1))), (1, .int (zI ((smF (icT mo M td) i) + 1))), (0, .ref a)]) [0, 1, 2] rfl
          have e_9 : ((((i + 1) : Nat) : Int) : Int) = (i : Int) + 1 := by omega
          have e_10 : (smF (icT mo M td) (i + 1) : Int) = (smF (icT mo M td) i) + 1 := by first | (rw [smF_s, icT_y (by omega)]) | (rw [smF_s, icT_n (by omega)]; omega)
          have hl : lv_has ls 3 [(2, .int (zI (((i + 1) : Nat) : Int))), (1, .int (zI (smF (icT mo M td) (i + 1)))), (0, .ref a)] := by rw [e_9, e_10]; exact hl
          exact ih_i (i + 1) (by omega) (by omega) _ _ _  hS hl 
  have hl := lv_sub hl (l' := [(2, .int (zI 0)), (1, .int (zI 0)), (0, .ref a)]) [0, 1, 2] rfl
  have e_11 : (smF (icT mo M td) 0 : Int) = 0 := rfl
  have hl : lv_has ls 3 [(2, .int (zI 0)), (1, .int (zI (smF (icT mo M td) 0))), (0, .ref a)] := by rw [e_11]; exact hl
  exact L4_1 (n + 1) 0 (Nat.zero_le _) (by omega) _ _ _  hS hl 
set_option maxHeartbeats 4000000 in
set_option maxRecDepth 100000 in
theorem kX3_canMarry (l : Launch) (D : va_G) (cI cZ c1 c2 : ClassId) (sz : Nat) (s0 : Nat) (a : Nat) (n : Nat) (pa : Int → Int) (sp : Int → Int) (al : Int → Int) (co : Int → Int) (da : Int → Int) (M : Nat) (mo : Int → Int → Int) (td : Int) (wn : Int) (p : Int) (hsp : ∀ j : Int, -1 ≤ sp j ∧ sp j ≤ 15) (hal : ∀ j : Int, 0 ≤ al j ∧ al j ≤ 1) (hp : 0 ≤ p ∧ p < (n : Int)) (hsn : sp p < (n : Int)) : zG l yX3_canMarry wsX3_canMarry ({ frames := 0, cells := 0, slots := 0, locals := 0 } : Room) D cI cZ c1 c2 [.ref a, .int (zI p)] sz (fun H => zSW D cI c1 c2 s0 a n pa sp al co da M mo td wn H) (fun v H => v = some (.int (zI (cmF sp al p)))) (fun q : Nat => sz ≤ q) (0) (0) := by
  refine Met.ofW (cc := cX3_canMarry) (maxL := 2) (ret := (some .boolean)) (by decide) rfl ?_
  intro p0 e9 s9 m9 ag9 below meth c9 s₁ B hml hv
  obtain ⟨hav, hsz, hPre, hK, hQ⟩ := hv
  subst hsz
  have hx := B.exec
  have hb := B.bytes
  have hr := B.returns
  have hts := atoms_spec (ws := wsX3_canMarry) B.pre
  have hown : s9.vm.findClass RX3 = some m9.cls := findClass_of_methodNamed B.named
  have hlocks := B.notSynchronized
  have hin3 : ∀ w ∈ u_ws RX3 TX3 5, w ∈ wsX3_canMarry := by decide +kernel
  have hl := lv_entry ([.ref a, .int (zI p)]) (n := 2) (Nat.le_of_ble_eq_true rfl)
  have hE : entryFrame m9 ag9 2 = F0 m9 0 ((lg_sl ([.ref a, .int (zI p)]) ++ List.replicate (2 - (lg_sl ([.ref a, .int (zI p)])).length) Slot.unset).toArray) [] := by rw [hav]; exact lg_entry_eq m9 _ _
  obtain ⟨Q0, hQ0⟩ : ∃ Q0, Q0 = MQ below (zGQ (fun v H => v = some (.int (zI (cmF sp al p)))) (fun q : Nat => s9.heap.size ≤ q)) ag9 s9 (0) (0) (fun q : Nat => s9.heap.size ≤ q) := ⟨_, rfl⟩
  show W p0 l e9 ({ frames := 0, cells := 0, slots := 0, locals := 0 } : Room) s9 m9 ag9 below meth c9 s9.heap [] 0 0 (MQ below (zGQ (fun v H => v = some (.int (zI (cmF sp al p)))) (fun q : Nat => s9.heap.size ≤ q)) ag9 s9 (0) (0) (fun q : Nat => s9.heap.size ≤ q)) _
  rw [hE, ← hQ0]
  have hS : va_S (fun q : Nat => s9.heap.size ≤ q) s9.heap s9.heap [] := va_S.rf
  have hU : s9.heap.size ≤ s9.heap.size := Nat.le_refl _
  generalize (lg_sl ([.ref a, .int (zI p)]) ++ List.replicate (2 - (lg_sl ([.ref a, .int (zI p)])).length) Slot.unset).toArray = ls at hl ⊢
  have hl : lv_has ls 2 [(0, .ref a), (1, .int (zI p))] := hl
  obtain ⟨kd, ap, ac, am, ra, rc, rr, rm, hL0⟩ := hPre
  have hL := hL0
  refine lv_aload_n hx hb dX3_canMarry_0 rfl (lv_at hl 0 rfl) ?_
  refine va_get (D := D) (ci := 3) (v := .ref ap) (C := RX3) (T := TX3) (N := 5) hx hb hts hin3 hown hK hL.obj 0 rfl rfl 2 (by decide) (hts (.fieldLink RX3 9 "MourningRibbonsLaw$Sim" "people" "[[I") (by decide +kernel)) (fun _ h9 => h9) rfl dX3_canMarry_1 ?_
  refine lv_iload_n hx hb dX3_canMarry_4 rfl (lv_at hl 1 rfl) ?_
  refine zs_ald1 (v := .ref (ra p)) (i := p) hx hb hQ hL.ppl (by omega) (by omega) (by have := hL.n16; omega) rfl dX3_canMarry_5 ?_
  refine zr_iconst hx hb dX3_canMarry_6 ?_
  refine zs_ild (v := al p) (i := 2) hx hb hQ (hL.row p (by omega) (by omega)) (by decide) (by decide) (by decide) rfl dX3_canMarry_7 ?_
  have b_1 := hal p
  refine zr_iconst hx hb dX3_canMarry_8 ?_
  refine zr_icmp_ne (tgt := 45) hx hb dX3_canMarry_9 (by decide) ⟨by omega, by omega⟩ ⟨by decide, by decide⟩ (fun c_2 => ?_) (fun c_2 => ?_)
  · have c_2 := c_2
    refine zr_iconst hx hb dX3_canMarry_45 ?_
    rw [hQ0]
    exact zgret_z (z := cmF sp al p) hx hb hr hlocks (zn_bool ⟨by omega, by omega⟩) (by unfold cmF; first | exact (if_pos (by omega)).symm | exact (if_neg (by omega)).symm) (rfl) hS dX3_canMarry_46 (by omega) (by omega)
  · have c_2 := c_2
    refine lv_aload_n hx hb dX3_canMarry_12 rfl (lv_at hl 0 rfl) ?_
    refine va_get (D := D) (ci := 3) (v := .ref ap) (C := RX3) (T := TX3) (N := 5) hx hb hts hin3 hown hK hL.obj 0 rfl rfl 2 (by decide) (hts (.fieldLink RX3 9 "MourningRibbonsLaw$Sim" "people" "[[I") (by decide +kernel)) (fun _ h9 => h9) rfl dX3_canMarry_13 ?_
    refine lv_iload_n hx hb dX3_canMarry_16 rfl (lv_at hl 1 rfl) ?_
    refine zs_ald1 (v := .ref (ra p)) (i := p) hx hb hQ hL.ppl (by omega) (by omega) (by have := hL.n16; omega) rfl dX3_canMarry_17 ?_
    refine zr_iconst hx hb dX3_canMarry_18 ?_
    refine zs_ild (v := sp p) (i := 1) hx hb hQ (hL.row p (by omega) (by omega)) (by decide) (by decide) (by decide) rfl dX3_canMarry_19 ?_
    have b_3 := hsp p
    refine zr_if_lt (tgt := 41) hx hb dX3_canMarry_20 (by decide) ⟨by omega, by omega⟩ (fun c_4 => ?_) (fun c_4 => ?_)
    · have c_4 := c_4
      refine zr_iconst hx hb dX3_canMarry_41 ?_
      refine lv_goto (tgt := 46) hx hb dX3_canMarry_42 (by decide) ?_
      rw [hQ0]
      exact zgret_z (z := cmF sp al p) hx hb hr hlocks (zn_bool ⟨by omega, by omega⟩) (by unfold cmF; first | exact (if_pos (by omega)).symm | exact (if_neg (by omega)).symm) (rfl) hS dX3_canMarry_46 (by omega) (by omega)
    · have c_4 := c_4
      refine lv_aload_n hx hb dX3_canMarry_23 rfl (lv_at hl 0 rfl) ?_
      refine va_get (D := D) (ci := 3) (v := .ref ap) (C := RX3) (T := TX3) (N := 5) hx hb hts hin3 hown hK hL.obj 0 rfl rfl 2 (by decide) (hts (.fieldLink RX3 9 "MourningRibbonsLaw$Sim" "people" "[[I") (by decide +kernel)) (fun _ h9 => h9) rfl dX3_canMarry_24 ?_
      refine lv_aload_n hx hb dX3_canMarry_27 rfl (lv_at hl 0 rfl) ?_
      refine va_get (D := D) (ci := 3) (v := .ref ap) (C := RX3) (T := TX3) (N := 5) hx hb hts hin3 hown hK hL.obj 0 rfl rfl 2 (by decide) (hts (.fieldLink RX3 9 "MourningRibbonsLaw$Sim" "people" "[[I") (by decide +kernel)) (fun _ h9 => h9) rfl dX3_canMarry_28 ?_
      refine lv_iload_n hx hb dX3_canMarry_31 rfl (lv_at hl 1 rfl) ?_
      refine zs_ald1 (v := .ref (ra p)) (i := p) hx hb hQ hL.ppl (by omega) (by omega) (by have := hL.n16; omega) rfl dX3_canMarry_32 ?_
      refine zr_iconst hx hb dX3_canMarry_33 ?_
      refine zs_ild (v := sp p) (i := 1) hx hb hQ (hL.row p (by omega) (by omega)) (by decide) (by decide) (by decide) rfl dX3_canMarry_34 ?_
      have b_5 := hsp p
      refine zs_ald1 (v := .ref (ra (sp p))) (i := sp p) hx hb hQ hL.ppl (by omega) (by omega) (by have := hL.n16; omega) rfl dX3_canMarry_35 ?_
      refine zr_iconst hx hb dX3_canMarry_36 ?_
      refine zs_ild (v := al (sp p)) (i := 2) hx hb hQ (hL.row (sp p) (by omega) (by omega)) (by decide) (by decide) (by decide) rfl dX3_canMarry_37 ?_
      have b_6 := hal (sp p)
      refine zr_if_ne (tgt := 45) hx hb dX3_canMarry_38 (by decide) ⟨by omega, by omega⟩ (fun c_7 => ?_) (fun c_7 => ?_)
      · have c_7 := c_7
        refine zr_iconst hx hb dX3_canMarry_45 ?_
        rw [hQ0]
        exact zgret_z (z := cmF sp al p) hx hb hr hlocks (zn_bool ⟨by omega, by omega⟩) (by unfold cmF; first | exact (if_pos (by omega)).symm | exact (if_neg (by omega)).symm) (rfl) hS dX3_canMarry_46 (by omega) (by omega)
      · have c_7 := c_7
        refine zr_iconst hx hb dX3_canMarry_41 ?_
        refine lv_goto (tgt := 46) hx hb dX3_canMarry_42 (by decide) ?_
        rw [hQ0]
        exact zgret_z (z := cmF sp al p) hx hb hr hlocks (zn_bool ⟨by omega, by omega⟩) (by unfold cmF; first | exact (if_pos (by omega)).symm | exact (if_neg (by omega)).symm) (rfl) hS dX3_canMarry_46 (by omega) (by omega)
set_option maxHeartbeats 4000000 in
set_option maxRecDepth 100000 in
theorem kX3_more (l : Launch) (D : va_G) (cI cZ c1 c2 : ClassId) (sz : Nat) (x : Nat) (y : Nat) (k : Nat) (r : Int → Nat) (hk : k ≤ 300) : zG l yX3_more wsX3_more ({ frames := 0, cells := 1, slots := k + 1, locals := 0 } : Room) D cI cZ c1 c2 [.ref x, .ref y] sz (fun H => rA c1 H x k r ∧ (∀ i : Int, 0 ≤ i → i < (k : Int) → ∃ m g, vA cI H (r i) m g) ∧ ∃ m g, vA cI H y m g) (fun v H => ∃ b : Nat, v = some (.ref b) ∧ sz ≤ b ∧ rA c1 H b (k + 1) (fun j => if j = (k : Int) then y else r j)) (fun q : Nat => sz ≤ q) (1) (k + 1) := by
  refine Met.ofW (cc := cX3_more) (maxL := 4) (ret := (some (.array (.array .int)))) (by decide) rfl ?_
  intro p0 e9 s9 m9 ag9 below meth c9 s₁ B hml hv
  obtain ⟨hav, hsz, hPre, hK, hQ⟩ := hv
  subst hsz
  have hx := B.exec
  have hb := B.bytes
  have hr := B.returns
  have hts := atoms_spec (ws := wsX3_more) B.pre
  have hown : s9.vm.findClass RX3 = some m9.cls := findClass_of_methodNamed B.named
  have hlocks := B.notSynchronized
  have hl := lv_entry ([.ref x, .ref y]) (n := 4) (Nat.le_of_ble_eq_true rfl)
  have hE : entryFrame m9 ag9 4 = F0 m9 0 ((lg_sl ([.ref x, .ref y]) ++ List.replicate (4 - (lg_sl ([.ref x, .ref y])).length) Slot.unset).toArray) [] := by rw [hav]; exact lg_entry_eq m9 _ _
  obtain ⟨Q0, hQ0⟩ : ∃ Q0, Q0 = MQ below (zGQ (fun v H => ∃ b : Nat, v = some (.ref b) ∧ s9.heap.size ≤ b ∧ rA c1 H b (k + 1) (fun j => if j = (k : Int) then y else r j)) (fun q : Nat => s9.heap.size ≤ q)) ag9 s9 (1) (k + 1) (fun q : Nat => s9.heap.size ≤ q) := ⟨_, rfl⟩
  show W p0 l e9 ({ frames := 0, cells := 1, slots := k + 1, locals := 0 } : Room) s9 m9 ag9 below meth c9 s9.heap [] 0 0 (MQ below (zGQ (fun v H => ∃ b : Nat, v = some (.ref b) ∧ s9.heap.size ≤ b ∧ rA c1 H b (k + 1) (fun j => if j = (k : Int) then y else r j)) (fun q : Nat => s9.heap.size ≤ q)) ag9 s9 (1) (k + 1) (fun q : Nat => s9.heap.size ≤ q)) _
  rw [hE, ← hQ0]
  have hS : va_S (fun q : Nat => s9.heap.size ≤ q) s9.heap s9.heap [] := va_S.rf
  have hU : s9.heap.size ≤ s9.heap.size := Nat.le_refl _
  generalize (lg_sl ([.ref x, .ref y]) ++ List.replicate (4 - (lg_sl ([.ref x, .ref y])).length) Slot.unset).toArray = ls at hl ⊢
  have hl : lv_has ls 4 [(0, .ref x), (1, .ref y)] := hl
  obtain ⟨hX0, hR0, hY0⟩ := hPre
  have hX := hX0
  have hR := hR0
  have hY := hY0
  refine lv_aload_n hx hb dX3_more_0 rfl (lv_at hl 0 rfl) ?_
  refine zs_len1 hx hb hQ hX dX3_more_1 ?_
  refine zr_iconst hx hb dX3_more_2 ?_
  refine zr_iadd (v := (k : Int) + 1) hx hb rfl dX3_more_3 ?_
  refine zs_newA (N' := k + 1) hx hb hQ hown (hts (.classLink RX3 7 "[I") (by decide +kernel)) hS (z := (k : Int) + 1) (by omega) (by omega) (show 0 + 1 ≤ 1 from by omega) (show 0 + (k + 1) ≤ k + 1 from by omega) dX3_more_4 (fun H b hq_b hi_b hz9 hk9 hS => ?_)
  have hge_b : s9.heap.size ≤ b := by omega
  have hU : s9.heap.size ≤ H.size := hS.1
  have hkp : ∀ x : Nat, x < s9.heap.size → H[x]? = s9.heap[x]? := fun x h => hS.2.1 x h (Nat.not_le.mpr h)
  have hX := hX0.grow hkp
  have hR : ∀ i : Int, 0 ≤ i → i < (k : Int) → ∃ m g, vA cI H (r i) m g := fun i h0 h1 => (hR0 i h0 h1).elim fun m q => q.elim fun g q => ⟨m, g, q.grow hkp⟩
  have hY : ∃ m g, vA cI H y m g := hY0.elim fun m q => q.elim fun g q => ⟨m, g, q.grow hkp⟩
  refine lv_astore_n (lv' := [(2, .ref b), (0, .ref x), (1, .ref y)]) hx hb dX3_more_7 rfl hl (by decide) rfl (fun ls hl => ?_)
  refine zr_iconst hx hb dX3_more_8 ?_
  refine lv_istore_n (lv' := [(3, .int (zI 0)), (2, .ref b), (0, .ref x), (1, .ref y)]) hx hb dX3_more_9 rfl hl (by decide) rfl (fun ls hl => ?_)
  have L10_1 : ∀ (kf i : Nat), i ≤ k → k - i < kf → ∀ (H : Heap) (locs : List Loc) (ls : Array Slot), (vA c1 H b (k + 1) (mg r i)) → va_S (fun q : Nat => s9.heap.size ≤ q) s9.heap H locs → lv_has ls 4 [(3, .int (zI (i : Int))), (2, .ref b), (0, .ref x), (1, .ref y)] → W p0 l e9 (({ frames := 0, cells := 1, slots := k + 1, locals := 0 } : Room)) s9 m9 ag9 below meth c9 H locs (0 + 1) (0 + (k + 1)) Q0 (F0 m9 10 ls []) := by
    intro kf
    induction kf with
    | zero => intro i h1 h2; omega
    | succ kf ih =>
      intro i hi_i hk_i H locs ls  hi_b hS hl 
      have ih_i := ih
      clear ih
      have hkp : ∀ x : Nat, x < s9.heap.size → H[x]? = s9.heap[x]? := fun x h => hS.2.1 x h (Nat.not_le.mpr h)
      have hX := hX0.grow hkp
      have hR : ∀ i : Int, 0 ≤ i → i < (k : Int) → ∃ m g, vA cI H (r i) m g := fun i h0 h1 => (hR0 i h0 h1).elim fun m q => q.elim fun g q => ⟨m, g, q.grow hkp⟩
      have hY : ∃ m g, vA cI H y m g := hY0.elim fun m q => q.elim fun g q => ⟨m, g, q.grow hkp⟩
      have hU : s9.heap.size ≤ H.size := hS.1
      refine lv_iload_n hx hb dX3_more_10 rfl (lv_at hl 0 rfl) ?_
      refine lv_aload_n hx hb dX3_more_11 rfl (lv_at hl 2 rfl) ?_
      refine zs_len1 hx hb hQ hX dX3_more_12 ?_
      refine zr_icmp_ge (tgt := 28) hx hb dX3_more_13 (by decide) ⟨by omega, by omega⟩ ⟨by omega, by omega⟩ (fun c_2 => ?_) (fun c_2 => ?_)
      · have c_2 := c_2
        have x_3 : i = k := by omega
        try rw [x_3] at hl
        try rw [x_3] at hi_b
        refine lv_aload_n hx hb dX3_more_28 rfl (lv_at hl 1 rfl) ?_
        refine lv_aload_n hx hb dX3_more_29 rfl (lv_at hl 2 rfl) ?_
        refine zs_len1 hx hb hQ hX dX3_more_30 ?_
        refine lv_aload_n hx hb dX3_more_31 rfl (lv_at hl 3 rfl) ?_
        obtain ⟨m8, g8, hr8⟩ := hY
        refine zs_ast1 (i := (k : Int)) (v := y) hx hb hQ hi_b hr8 hS (hge_b) (by omega) (by omega) (by omega) dX3_more_32 (fun H locs hv9 hz9 hk9 hS => ?_)
        have hi_b := hv9
        have hU : s9.heap.size ≤ H.size := hS.1
        have hkp : ∀ x : Nat, x < s9.heap.size → H[x]? = s9.heap[x]? := fun x h => hS.2.1 x h (Nat.not_le.mpr h)
        have hX := hX0.grow hkp
        have hR : ∀ i : Int, 0 ≤ i → i < (k : Int) → ∃ m g, vA cI H (r i) m g := fun i h0 h1 => (hR0 i h0 h1).elim fun m q => q.elim fun g q => ⟨m, g, q.grow hkp⟩
        have hY : ∃ m g, vA cI H y m g := hY0.elim fun m q => q.elim fun g q => ⟨m, g, q.grow hkp⟩
        refine lv_aload_n hx hb dX3_more_33 rfl (lv_at hl 1 rfl) ?_
        rw [hQ0]
        exact zgret_a hx hb hr hlocks (⟨b, rfl, hge_b, hi_b.cg (mg_end r y k)⟩) hS dX3_more_34 (by omega) (by omega)
      · have c_2 := c_2
        refine lv_aload_n hx hb dX3_more_16 rfl (lv_at hl 1 rfl) ?_
        refine lv_iload_n hx hb dX3_more_17 rfl (lv_at hl 0 rfl) ?_
        refine lv_aload_n hx hb dX3_more_18 rfl (lv_at hl 2 rfl) ?_
        refine lv_iload_n hx hb dX3_more_19 rfl (lv_at hl 0 rfl) ?_
        refine zs_ald1 (v := .ref (r (i : Int))) (i := (i : Int)) hx hb hQ hX (by omega) (by omega) (by omega) rfl dX3_more_20 ?_
        obtain ⟨m8, g8, hr8⟩ := hR (i : Int) (by omega) (by omega)
        refine zs_ast1 (i := (i : Int)) (v := r (i : Int)) hx hb hQ hi_b hr8 hS (hge_b) (by omega) (by omega) (by omega) dX3_more_21 (fun H locs hv9 hz9 hk9 hS => ?_)
        have hi_b := hv9
        have hU : s9.heap.size ≤ H.size := hS.1
        have hkp : ∀ x : Nat, x < s9.heap.size → H[x]? = s9.heap[x]? := fun x h => hS.2.1 x h (Nat.not_le.mpr h)
        have hX := hX0.grow hkp
        have hR : ∀ i : Int, 0 ≤ i → i < (k : Int) → ∃ m g, vA cI H (r i) m g := fun i h0 h1 => (hR0 i h0 h1).elim fun m q => q.elim fun g q => ⟨m, g, q.grow hkp⟩
        have hY : ∃ m g, vA cI H y m g := hY0.elim fun m q => q.elim fun g q => ⟨m, g, q.grow hkp⟩
        refine zr_iinc (v := (i : Int) + 1) (lv' := [(3, .int (zI ((i : Int) + 1))), (2, .ref b), (0, .ref x), (1, .ref y)]) hx hb dX3_more_22 hl (k := 0) rfl rfl (by decide) rfl (fun ls hl => ?_)
        refine lv_goto (tgt := 10) hx hb dX3_more_25 (by decide) ?_
        have hl := lv_sub hl (l' := [(3, .int (zI ((i : Int) + 1))), (2, .ref b), (0, .ref x), (1, .ref y)]) [0, 1, 2, 3] rfl
        have e_4 : ((((i + 1) : Nat) : Int) : Int) = (i : Int) + 1 := by omega
        have hl : lv_has ls 4 [(3, .int (zI (((i + 1) : Nat) : Int))), (2, .ref b), (0, .ref x), (1, .ref y)] := by rw [e_4]; exact hl
        exact ih_i (i + 1) (by omega) (by omega) _ _ _ (by rw [mg_s]; exact hi_b) hS hl 
  have hl := lv_sub hl (l' := [(3, .int (zI 0)), (2, .ref b), (0, .ref x), (1, .ref y)]) [0, 1, 2, 3] rfl
  exact L10_1 (k + 1) 0 (Nat.zero_le _) (by omega) _ _ _ (hi_b.cg (fun j h0 h1 => (if_neg (by omega)).symm)) hS hl 
set_option maxHeartbeats 4000000 in
set_option maxRecDepth 100000 in
theorem kX3_degrees (l : Launch) (D : va_G) (cI cZ c1 c2 : ClassId) (sz : Nat) (s0 : Nat) (a : Nat) (n : Nat) (pa : Int → Int) (sp : Int → Int) (al : Int → Int) (co : Int → Int) (da : Int → Int) (M : Nat) (mo : Int → Int → Int) (td : Int) (wn : Int) (hpa : ∀ j : Int, -1 ≤ pa j ∧ pa j ≤ 15) (hsp : ∀ j : Int, -1 ≤ sp j ∧ sp j ≤ 15) : zG l yX3_degrees wsX3_degrees ({ frames := 0, cells := 17, slots := 272, locals := 0 } : Room) D cI cZ c1 c2 [.ref a] sz (fun H => zSW D cI c1 c2 s0 a n pa sp al co da M mo td wn H) (fun v H => ∃ b : Nat, v = some (.ref b) ∧ sz ≤ b ∧ mA cI c1 H b n (dgF pa sp n)) (fun q : Nat => sz ≤ q) (17) (272) := by
  refine Met.ofW (cc := cX3_degrees) (maxL := 7) (ret := (some (.array (.array .int)))) (by decide) rfl ?_
  intro p0 e9 s9 m9 ag9 below meth c9 s₁ B hml hv
  obtain ⟨hav, hsz, hPre, hK, hQ⟩ := hv
  subst hsz
  have hx := B.exec
  have hb := B.bytes
  have hr := B.returns
  have hts := atoms_spec (ws := wsX3_degrees) B.pre
  have hown : s9.vm.findClass RX3 = some m9.cls := findClass_of_methodNamed B.named
  have hlocks := B.notSynchronized
  have hin3 : ∀ w ∈ u_ws RX3 TX3 5, w ∈ wsX3_degrees := by decide +kernel
  have hl := lv_entry ([.ref a]) (n := 7) (Nat.le_of_ble_eq_true rfl)
  have hE : entryFrame m9 ag9 7 = F0 m9 0 ((lg_sl ([.ref a]) ++ List.replicate (7 - (lg_sl ([.ref a])).length) Slot.unset).toArray) [] := by rw [hav]; exact lg_entry_eq m9 _ _
  obtain ⟨Q0, hQ0⟩ : ∃ Q0, Q0 = MQ below (zGQ (fun v H => ∃ b : Nat, v = some (.ref b) ∧ s9.heap.size ≤ b ∧ mA cI c1 H b n (dgF pa sp n)) (fun q : Nat => s9.heap.size ≤ q)) ag9 s9 (17) (272) (fun q : Nat => s9.heap.size ≤ q) := ⟨_, rfl⟩
  show W p0 l e9 ({ frames := 0, cells := 17, slots := 272, locals := 0 } : Room) s9 m9 ag9 below meth c9 s9.heap [] 0 0 (MQ below (zGQ (fun v H => ∃ b : Nat, v = some (.ref b) ∧ s9.heap.size ≤ b ∧ mA cI c1 H b n (dgF pa sp n)) (fun q : Nat => s9.heap.size ≤ q)) ag9 s9 (17) (272) (fun q : Nat => s9.heap.size ≤ q)) _
  rw [hE, ← hQ0]
  have hS : va_S (fun q : Nat => s9.heap.size ≤ q) s9.heap s9.heap [] := va_S.rf
  have hU : s9.heap.size ≤ s9.heap.size := Nat.le_refl _
  generalize (lg_sl ([.ref a]) ++ List.replicate (7 - (lg_sl ([.ref a])).length) Slot.unset).toArray = ls at hl ⊢
  have hl : lv_has ls 7 [(0, .ref a)] := hl
  obtain ⟨kd, ap, ac, am, ra, rc, rr, rm, hL0⟩ := hPre
  have hL := hL0
  refine lv_aload_n hx hb dX3_degrees_0 rfl (lv_at hl 0 rfl) ?_
  refine va_get (D := D) (ci := 3) (v := .ref ap) (C := RX3) (T := TX3) (N := 5) hx hb hts hin3 hown hK hL.obj 0 rfl rfl 2 (by decide) (hts (.fieldLink RX3 9 "MourningRibbonsLaw$Sim" "people" "[[I") (by decide +kernel)) (fun _ h9 => h9) rfl dX3_degrees_1 ?_
  refine zs_len1 hx hb hQ hL.ppl dX3_degrees_4 ?_
  have b_1 := hL.n16
  refine lv_istore_n (lv' := [(1, .int (zI (n : Int))), (0, .ref a)]) hx hb dX3_degrees_5 rfl hl (by decide) rfl (fun ls hl => ?_)
  refine lv_iload_n hx hb dX3_degrees_6 rfl (lv_at hl 0 rfl) ?_
  refine lv_iload_n hx hb dX3_degrees_7 rfl (lv_at hl 0 rfl) ?_
  have hn9 := hL.n16
  have hnn : n * n ≤ 256 := Nat.mul_le_mul hn9 hn9
  refine zs_mna2 (N := n) (K := n) hx hb hQ hown (hts (.classLink RX3 23 "[[I") (by decide +kernel)) (hts (.arrayClass .int) (by decide +kernel)) hS rfl rfl (by omega) (by omega) (show 0 + (1 + n) ≤ 17 from by omega) (show 0 + (n + n * n) ≤ 272 from by omega) dX3_degrees_8 (fun H mx hq_mx hO9 hR9 hz9 hk9 hS => ?_)
  have hge_mx : s9.heap.size ≤ mx := by omega
  have hU : s9.heap.size ≤ H.size := hS.1
  have hkp : ∀ x : Nat, x < s9.heap.size → H[x]? = s9.heap[x]? := fun x h => hS.2.1 x h (Nat.not_le.mpr h)
  have hL := hL0.keep (fun x _ h => hkp x h)
  have hM : mA cI c1 H mx n (fun _ => cst 0) := ⟨hO9, hR9⟩
  refine lv_astore_n (lv' := [(2, .ref mx), (1, .int (zI (n : Int))), (0, .ref a)]) hx hb dX3_degrees_12 rfl hl (by decide) rfl (fun ls hl => ?_)
  refine zr_iconst hx hb dX3_degrees_13 ?_
  refine lv_istore_n (lv' := [(3, .int (zI 0)), (2, .ref mx), (1, .int (zI (n : Int))), (0, .ref a)]) hx hb dX3_degrees_14 rfl hl (by decide) rfl (fun ls hl => ?_)
  have L15_2 : ∀ (kf x : Nat), x ≤ n → n - x < kf → ∀ (H : Heap) (locs : List Loc) (ls : Array Slot), (mA cI c1 H mx n (G1 pa sp x 0)) → va_S (fun q : Nat => s9.heap.size ≤ q) s9.heap H locs → lv_has ls 7 [(3, .int (zI (x : Int))), (2, .ref mx), (1, .int (zI (n : Int))), (0, .ref a)] → W p0 l e9 (({ frames := 0, cells := 17, slots := 272, locals := 0 } : Room)) s9 m9 ag9 below meth c9 H locs (0 + 1 + n) (0 + n + n * n) Q0 (F0 m9 15 ls []) := by
    intro kf
    induction kf with
    | zero => intro x h1 h2; omega
    | succ kf ih =>
      intro x hi_x hk_x H locs ls  hM hS hl 
      have ih_x := ih
      clear ih
      have hkp : ∀ x : Nat, x < s9.heap.size → H[x]? = s9.heap[x]? := fun x h => hS.2.1 x h (Nat.not_le.mpr h)
      have hL := hL0.keep (fun x _ h => hkp x h)
      have hU : s9.heap.size ≤ H.size := hS.1
      refine lv_iload_n hx hb dX3_degrees_15 rfl (lv_at hl 0 rfl) ?_
      refine lv_iload_n hx hb dX3_degrees_16 rfl (lv_at hl 2 rfl) ?_
      refine zr_icmp_ge (tgt := 97) hx hb dX3_degrees_17 (by decide) ⟨by omega, by omega⟩ ⟨by omega, by omega⟩ (fun c_3 => ?_) (fun c_3 => ?_)
      · have c_3 := c_3
        have x_4 : x = n := by omega
        try rw [x_4] at hl
        try rw [x_4] at hM
        refine zr_iconst hx hb dX3_degrees_97 ?_
        refine lv_istore_n (lv' := [(3, .int (zI 2)), (2, .ref mx), (1, .int (zI (n : Int))), (0, .ref a)]) hx hb dX3_degrees_98 rfl hl (by decide) rfl (fun ls hl => ?_)
        have L99_5 : ∀ (kf g : Nat), g ≤ 3 → 3 - g < kf → ∀ (H : Heap) (locs : List Loc) (ls : Array Slot), (mA cI c1 H mx n (DR pa sp n g)) → va_S (fun q : Nat => s9.heap.size ≤ q) s9.heap H locs → lv_has ls 7 [(3, .int (zI ((g : Int) + 2))), (2, .ref mx), (1, .int (zI (n : Int))), (0, .ref a)] → W p0 l e9 (({ frames := 0, cells := 17, slots := 272, locals := 0 } : Room)) s9 m9 ag9 below meth c9 H locs (0 + 1 + n) (0 + n + n * n) Q0 (F0 m9 99 ls []) := by
          intro kf
          induction kf with
          | zero => intro g h1 h2; omega
          | succ kf ih =>
            intro g hi_g hk_g H locs ls  hM hS hl 
            have ih_g := ih
            clear ih
            have hkp : ∀ x : Nat, x < s9.heap.size → H[x]? = s9.heap[x]? := fun x h => hS.2.1 x h (Nat.not_le.mpr h)
            have hL := hL0.keep (fun x _ h => hkp x h)
            have hU : s9.heap.size ≤ H.size := hS.1
            refine lv_iload_n hx hb dX3_degrees_99 rfl (lv_at hl 0 rfl) ?_
            refine zr_iconst hx hb dX3_degrees_100 ?_
            refine zr_icmp_ge (tgt := 207) hx hb dX3_degrees_101 (by decide) ⟨by omega, by omega⟩ ⟨by decide, by decide⟩ (fun c_6 => ?_) (fun c_6 => ?_)
            · have c_6 := c_6
              have x_7 : g = 3 := by omega
              try rw [x_7] at hl
              try rw [x_7] at hM
              refine lv_aload_n hx hb dX3_degrees_207 rfl (lv_at hl 1 rfl) ?_
              rw [hQ0]
              exact zgret_a hx hb hr hlocks (⟨mx, rfl, hge_mx, hM⟩) hS dX3_degrees_208 (by omega) (by omega)
            · have c_6 := c_6
              refine zr_iconst hx hb dX3_degrees_104 ?_
              refine lv_istore (lv' := [(4, .int (zI 0)), (3, .int (zI ((g : Int) + 2))), (2, .ref mx), (1, .int (zI (n : Int))), (0, .ref a)]) hx hb dX3_degrees_105 hl (by decide) rfl (fun ls hl => ?_)
              have L107_8 : ∀ (kf x : Nat), x ≤ n → n - x < kf → ∀ (H : Heap) (locs : List Loc) (ls : Array Slot), (mA cI c1 H mx n (G2 pa sp n g x (DR pa sp n g ((x : Nat) : Int)))) → va_S (fun q : Nat => s9.heap.size ≤ q) s9.heap H locs → lv_has ls 7 [(4, .int (zI (x : Int))), (3, .int (zI ((g : Int) + 2))), (2, .ref mx), (1, .int (zI (n : Int))), (0, .ref a)] → W p0 l e9 (({ frames := 0, cells := 17, slots := 272, locals := 0 } : Room)) s9 m9 ag9 below meth c9 H locs (0 + 1 + n) (0 + n + n * n) Q0 (F0 m9 107 ls []) := by
                intro kf
                induction kf with
                | zero => intro x h1 h2; omega
                | succ kf ih =>
                  intro x hi_x hk_x H locs ls  hM hS hl 
                  have ih_x := ih
                  clear ih
                  have hkp : ∀ x : Nat, x < s9.heap.size → H[x]? = s9.heap[x]? := fun x h => hS.2.1 x h (Nat.not_le.mpr h)
                  have hL := hL0.keep (fun x _ h => hkp x h)
                  have hU : s9.heap.size ≤ H.size := hS.1
                  refine lv_iload hx hb dX3_degrees_107 (lv_at hl 0 rfl) ?_
                  refine lv_iload_n hx hb dX3_degrees_109 rfl (lv_at hl 3 rfl) ?_
                  refine zr_icmp_ge (tgt := 201) hx hb dX3_degrees_110 (by decide) ⟨by omega, by omega⟩ ⟨by omega, by omega⟩ (fun c_9 => ?_) (fun c_9 => ?_)
                  · have c_9 := c_9
                    have x_10 : x = n := by omega
                    try rw [x_10] at hl
                    try rw [x_10] at hM
                    refine zr_iinc (v := ((g : Int) + 2) + 1) (lv' := [(3, .int (zI (((g : Int) + 2) + 1))), (4, .int (zI (n : Int))), (2, .ref mx), (1, .int (zI (n : Int))), (0, .ref a)]) hx hb dX3_degrees_201 hl (k := 1) rfl rfl (by decide) rfl (fun ls hl => ?_)
                    refine lv_goto (tgt := 99) hx hb dX3_degrees_204 (by decide) ?_
                    have hl := lv_sub hl (l' := [(3, .int (zI (((g : Int) + 2) + 1))), (2, .ref mx), (1, .int (zI (n : Int))), (0, .ref a)]) [0, 2, 3, 4] rfl
                    have e_11 : ((((g + 1) : Nat) : Int) + 2 : Int) = ((g : Int) + 2) + 1 := by omega
                    have hl : lv_has ls 7 [(3, .int (zI ((((g + 1) : Nat) : Int) + 2))), (2, .ref mx), (1, .int (zI (n : Int))), (0, .ref a)] := by rw [e_11]; exact hl
                    exact ih_g (g + 1) (by omega) (by omega) _ _ _ (hM.cg (fun i j _ hi _ _ => by rw [G2_lt hi])) hS hl 
                  · have c_9 := c_9
                    refine zr_iconst hx hb dX3_degrees_113 ?_
                    refine lv_istore (lv' := [(5, .int (zI 0)), (4, .int (zI (x : Int))), (3, .int (zI ((g : Int) + 2))), (2, .ref mx), (1, .int (zI (n : Int))), (0, .ref a)]) hx hb dX3_degrees_114 hl (by decide) rfl (fun ls hl => ?_)
                    have L116_12 : ∀ (kf y : Nat), y ≤ n → n - y < kf → ∀ (H : Heap) (locs : List Loc) (ls : Array Slot), (mA cI c1 H mx n (G2 pa sp n g x (rdF pa sp n (x : Int) ((g : Int) + 2) (DR pa sp n g (x : Int)) y))) → va_S (fun q : Nat => s9.heap.size ≤ q) s9.heap H locs → lv_has ls 7 [(5, .int (zI (y : Int))), (4, .int (zI (x : Int))), (3, .int (zI ((g : Int) + 2))), (2, .ref mx), (1, .int (zI (n : Int))), (0, .ref a)] → W p0 l e9 (({ frames := 0, cells := 17, slots := 272, locals := 0 } : Room)) s9 m9 ag9 below meth c9 H locs (0 + 1 + n) (0 + n + n * n) Q0 (F0 m9 116 ls []) := by
                      intro kf
                      induction kf with
                      | zero => intro y h1 h2; omega
                      | succ kf ih =>
                        intro y hi_y hk_y H locs ls  hM hS hl 
                        have ih_y := ih
                        clear ih
                        have hkp : ∀ x : Nat, x < s9.heap.size → H[x]? = s9.heap[x]? := fun x h => hS.2.1 x h (Nat.not_le.mpr h)
                        have hL := hL0.keep (fun x _ h => hkp x h)
                        have hU : s9.heap.size ≤ H.size := hS.1
                        refine lv_iload hx hb dX3_degrees_116 (lv_at hl 0 rfl) ?_
                        refine lv_iload_n hx hb dX3_degrees_118 rfl (lv_at hl 4 rfl) ?_
                        refine zr_icmp_ge (tgt := 195) hx hb dX3_degrees_119 (by decide) ⟨by omega, by omega⟩ ⟨by omega, by omega⟩ (fun c_13 => ?_) (fun c_13 => ?_)
                        · have c_13 := c_13
                          have x_14 : y = n := by omega
                          try rw [x_14] at hl
                          try rw [x_14] at hM
                          refine zr_iinc (v := (x : Int) + 1) (lv' := [(4, .int (zI ((x : Int) + 1))), (5, .int (zI (n : Int))), (3, .int (zI ((g : Int) + 2))), (2, .ref mx), (1, .int (zI (n : Int))), (0, .ref a)]) hx hb dX3_degrees_195 hl (k := 1) rfl rfl (by decide) rfl (fun ls hl => ?_)
                          refine lv_goto (tgt := 107) hx hb dX3_degrees_198 (by decide) ?_
                          have hl := lv_sub hl (l' := [(4, .int (zI ((x : Int) + 1))), (3, .int (zI ((g : Int) + 2))), (2, .ref mx), (1, .int (zI (n : Int))), (0, .ref a)]) [0, 2, 3, 4, 5] rfl
                          have e_15 : ((((x + 1) : Nat) : Int) : Int) = (x : Int) + 1 := by omega
                          have hl : lv_has ls 7 [(4, .int (zI (((x + 1) : Nat) : Int))), (3, .int (zI ((g : Int) + 2))), (2, .ref mx), (1, .int (zI (n : Int))), (0, .ref a)] := by rw [e_15]; exact hl
                          exact ih_x (x + 1) (by omega) (by omega) _ _ _ (hM.cg (fun i j _ _ _ _ => congrFun G2_n j)) hS hl 
                        · have c_13 := c_13
                          refine lv_aload_n hx hb dX3_degrees_122 rfl (lv_at hl 3 rfl) ?_
                          refine lv_iload hx hb dX3_degrees_123 (lv_at hl 1 rfl) ?_
                          refine zs_ald1 (v := .ref (rd mx (x : Int))) (i := (x : Int)) hx hb hQ hM.1 (by omega) (by omega) (by have := hL.n16; omega) rfl dX3_degrees_125 ?_
                          refine lv_iload hx hb dX3_degrees_126 (lv_at hl 0 rfl) ?_
                          refine zs_ild (v := rdF pa sp n (x : Int) ((g : Int) + 2) (DR pa sp n g (x : Int)) y (y : Int)) (i := (y : Int)) hx hb hQ (hM.2 (x : Int) (by omega) (by omega)) (by omega) (by omega) (by have := hL.n16; omega) (by rw [G2_eq]) dX3_degrees_128 ?_
                          have b_16 := rdF_bd (pa := pa) (sp := sp) (n := n) (s := (x : Int)) (g := (g : Int) + 2) (DR_bd pa sp n g (by omega) (x : Int)) ⟨by omega, by omega⟩ y (y : Int)
                          refine lv_iload_n hx hb dX3_degrees_129 rfl (lv_at hl 2 rfl) ?_
                          refine zr_iconst hx hb dX3_degrees_130 ?_
                          refine zr_isub (v := ((g : Int) + 2) - 1) hx hb rfl dX3_degrees_131 ?_
                          refine zr_icmp_eq (tgt := 138) hx hb dX3_degrees_132 (by decide) ⟨by omega, by omega⟩ ⟨by omega, by omega⟩ (fun c_17 => ?_) (fun c_17 => ?_)
                          · have c_17 := c_17
                            have hd9 := c_17
                            have hyx := rdF_ne hd9 (DR_self pa sp n g (x : Int)) (by omega)
                            refine zr_iconst hx hb dX3_degrees_138 ?_
                            refine lv_istore (lv' := [(6, .int (zI 0)), (5, .int (zI (y : Int))), (4, .int (zI (x : Int))), (3, .int (zI ((g : Int) + 2))), (2, .ref mx), (1, .int (zI (n : Int))), (0, .ref a)]) hx hb dX3_degrees_139 hl (by decide) rfl (fun ls hl => ?_)
                            have L141_18 : ∀ (kf z : Nat), z ≤ n → n - z < kf → ∀ (H : Heap) (locs : List Loc) (ls : Array Slot), (mA cI c1 H mx n (G2 pa sp n g x (rchF pa sp (rdF pa sp n (x : Int) ((g : Int) + 2) (DR pa sp n g (x : Int)) y) (x : Int) (y : Int) ((g : Int) + 2) z))) → va_S (fun q : Nat => s9.heap.size ≤ q) s9.heap H locs → lv_has ls 7 [(6, .int (zI (z : Int))), (5, .int (zI (y : Int))), (4, .int (zI (x : Int))), (3, .int (zI ((g : Int) + 2))), (2, .ref mx), (1, .int (zI (n : Int))), (0, .ref a)] → W p0 l e9 (({ frames := 0, cells := 17, slots := 272, locals := 0 } : Room)) s9 m9 ag9 below meth c9 H locs (0 + 1 + n) (0 + n + n * n) Q0 (F0 m9 141 ls []) := by
                              intro kf
                              induction kf with
                              | zero => intro z h1 h2; omega
                              | succ kf ih =>
                                intro z hi_z hk_z H locs ls  hM hS hl 
                                have ih_z := ih
                                clear ih
                                have hkp : ∀ x : Nat, x < s9.heap.size → H[x]? = s9.heap[x]? := fun x h => hS.2.1 x h (Nat.not_le.mpr h)
                                have hL := hL0.keep (fun x _ h => hkp x h)
                                have hU : s9.heap.size ≤ H.size := hS.1
                                refine lv_iload hx hb dX3_degrees_141 (lv_at hl 0 rfl) ?_
                                refine lv_iload_n hx hb dX3_degrees_143 rfl (lv_at hl 5 rfl) ?_
                                refine zr_icmp_ge (tgt := 189) hx hb dX3_degrees_144 (by decide) ⟨by omega, by omega⟩ ⟨by omega, by omega⟩ (fun c_19 => ?_) (fun c_19 => ?_)
                                · have c_19 := c_19
                                  have x_20 : z = n := by omega
                                  try rw [x_20] at hl
                                  try rw [x_20] at hM
                                  refine zr_iinc (v := (y : Int) + 1) (lv' := [(5, .int (zI ((y : Int) + 1))), (6, .int (zI (n : Int))), (4, .int (zI (x : Int))), (3, .int (zI ((g : Int) + 2))), (2, .ref mx), (1, .int (zI (n : Int))), (0, .ref a)]) hx hb dX3_degrees_189 hl (k := 1) rfl rfl (by decide) rfl (fun ls hl => ?_)
                                  refine lv_goto (tgt := 116) hx hb dX3_degrees_192 (by decide) ?_
                                  have hl := lv_sub hl (l' := [(5, .int (zI ((y : Int) + 1))), (4, .int (zI (x : Int))), (3, .int (zI ((g : Int) + 2))), (2, .ref mx), (1, .int (zI (n : Int))), (0, .ref a)]) [0, 2, 3, 4, 5, 6] rfl
                                  have e_21 : ((((y + 1) : Nat) : Int) : Int) = (y : Int) + 1 := by omega
                                  have hl : lv_has ls 7 [(5, .int (zI (((y + 1) : Nat) : Int))), (4, .int (zI (x : Int))), (3, .int (zI ((g : Int) + 2))), (2, .ref mx), (1, .int (zI (n : Int))), (0, .ref a)] := by rw [e_21]; exact hl
                                  exact ih_y (y + 1) (by omega) (by omega) _ _ _ (by rw [rdF_y hd9]; exact hM) hS hl 
                                · have c_19 := c_19
                                  refine lv_iload hx hb dX3_degrees_147 (lv_at hl 0 rfl) ?_
                                  refine lv_iload hx hb dX3_degrees_149 (lv_at hl 2 rfl) ?_
                                  refine zr_icmp_eq (tgt := 183) hx hb dX3_degrees_151 (by decide) ⟨by omega, by omega⟩ ⟨by omega, by omega⟩ (fun c_22 => ?_) (fun c_22 => ?_)
                                  · have c_22 := c_22
                                    have hno : ¬ ((z : Int) ≠ (x : Int) ∧ (rdF pa sp n (x : Int) ((g : Int) + 2) (DR pa sp n g (x : Int)) y) z = 0 ∧ stp pa sp (y : Int) z) := fun q => q.1 (by omega)
                                    refine zr_iinc (v := (z : Int) + 1) (lv' := [(6, .int (zI ((z : Int) + 1))), (5, .int (zI (y : Int))), (4, .int (zI (x : Int))), (3, .int (zI ((g : Int) + 2))), (2, .ref mx), (1, .int (zI (n : Int))), (0, .ref a)]) hx hb dX3_degrees_183 hl (k := 0) rfl rfl (by decide) rfl (fun ls hl => ?_)
                                    refine lv_goto (tgt := 141) hx hb dX3_degrees_186 (by decide) ?_
                                    have hl := lv_sub hl (l' := [(6, .int (zI ((z : Int) + 1))), (5, .int (zI (y : Int))), (4, .int (zI (x : Int))), (3, .int (zI ((g : Int) + 2))), (2, .ref mx), (1, .int (zI (n : Int))), (0, .ref a)]) [0, 1, 2, 3, 4, 5, 6] rfl
                                    have e_23 : ((((z + 1) : Nat) : Int) : Int) = (z : Int) + 1 := by omega
                                    have hl : lv_has ls 7 [(6, .int (zI (((z + 1) : Nat) : Int))), (5, .int (zI (y : Int))), (4, .int (zI (x : Int))), (3, .int (zI ((g : Int) + 2))), (2, .ref mx), (1, .int (zI (n : Int))), (0, .ref a)] := by rw [e_23]; exact hl
                                    exact ih_z (z + 1) (by omega) (by omega) _ _ _ (by rw [rchF_n hno]; exact hM) hS hl 
                                  · have c_22 := c_22
                                    refine lv_aload_n hx hb dX3_degrees_154 rfl (lv_at hl 4 rfl) ?_
                                    refine lv_iload hx hb dX3_degrees_155 (lv_at hl 2 rfl) ?_
                                    refine zs_ald1 (v := .ref (rd mx (x : Int))) (i := (x : Int)) hx hb hQ hM.1 (by omega) (by omega) (by have := hL.n16; omega) rfl dX3_degrees_157 ?_
                                    refine lv_iload hx hb dX3_degrees_158 (lv_at hl 0 rfl) ?_
                                    refine zs_ild (v := rchF pa sp (rdF pa sp n (x : Int) ((g : Int) + 2) (DR pa sp n g (x : Int)) y) (x : Int) (y : Int) ((g : Int) + 2) z (z : Int)) (i := (z : Int)) hx hb hQ (hM.2 (x : Int) (by omega) (by omega)) (by omega) (by omega) (by have := hL.n16; omega) (by rw [G2_eq]) dX3_degrees_160 ?_
                                    have b_24 := rchF_bd (pa := pa) (sp := sp) (dg := rdF pa sp n (x : Int) ((g : Int) + 2) (DR pa sp n g (x : Int)) y) (s := (x : Int)) (f := (y : Int)) (g := (g : Int) + 2) (k := z) (rdF_bd (DR_bd pa sp n g (by omega) (x : Int)) ⟨by omega, by omega⟩ y) ⟨by omega, by omega⟩ (z : Int)
                                    refine zr_if_ne (tgt := 183) hx hb dX3_degrees_161 (by decide) ⟨by omega, by omega⟩ (fun c_25 => ?_) (fun c_25 => ?_)
                                    · have c_25 := c_25
                                      rw [rchF_k] at c_25
                                      have hno : ¬ ((z : Int) ≠ (x : Int) ∧ (rdF pa sp n (x : Int) ((g : Int) + 2) (DR pa sp n g (x : Int)) y) z = 0 ∧ stp pa sp (y : Int) z) := fun q => c_25 q.2.1
                                      refine zr_iinc (v := (z : Int) + 1) (lv' := [(6, .int (zI ((z : Int) + 1))), (5, .int (zI (y : Int))), (4, .int (zI (x : Int))), (3, .int (zI ((g : Int) + 2))), (2, .ref mx), (1, .int (zI (n : Int))), (0, .ref a)]) hx hb dX3_degrees_183 hl (k := 0) rfl rfl (by decide) rfl (fun ls hl => ?_)
                                      refine lv_goto (tgt := 141) hx hb dX3_degrees_186 (by decide) ?_
                                      have hl := lv_sub hl (l' := [(6, .int (zI ((z : Int) + 1))), (5, .int (zI (y : Int))), (4, .int (zI (x : Int))), (3, .int (zI ((g : Int) + 2))), (2, .ref mx), (1, .int (zI (n : Int))), (0, .ref a)]) [0, 1, 2, 3, 4, 5, 6] rfl
                                      have e_26 : ((((z + 1) : Nat) : Int) : Int) = (z : Int) + 1 := by omega
                                      have hl : lv_has ls 7 [(6, .int (zI (((z + 1) : Nat) : Int))), (5, .int (zI (y : Int))), (4, .int (zI (x : Int))), (3, .int (zI ((g : Int) + 2))), (2, .ref mx), (1, .int (zI (n : Int))), (0, .ref a)] := by rw [e_26]; exact hl
                                      exact ih_z (z + 1) (by omega) (by omega) _ _ _ (by rw [rchF_n hno]; exact hM) hS hl 
                                    · have c_25 := c_25
                                      rw [rchF_k] at c_25
                                      have hz0 := c_25
                                      refine lv_aload_n hx hb dX3_degrees_164 rfl (lv_at hl 4 rfl) ?_
                                      refine lv_iload hx hb dX3_degrees_165 (lv_at hl 1 rfl) ?_
                                      refine zs_ald1 (v := .ref (rd mx (y : Int))) (i := (y : Int)) hx hb hQ hM.1 (by omega) (by omega) (by have := hL.n16; omega) rfl dX3_degrees_167 ?_
                                      refine lv_iload hx hb dX3_degrees_168 (lv_at hl 0 rfl) ?_
                                      refine zs_ild (v := G2 pa sp n g x (rchF pa sp (rdF pa sp n (x : Int) ((g : Int) + 2) (DR pa sp n g (x : Int)) y) (x : Int) (y : Int) ((g : Int) + 2) z) (y : Int) (z : Int)) (i := (z : Int)) hx hb hQ (hM.2 (y : Int) (by omega) (by omega)) (by omega) (by omega) (by have := hL.n16; omega) rfl dX3_degrees_170 ?_
                                      have b_27 := G2_bd (pa := pa) (sp := sp) (n := n) (g := g) (a := x) (f := rchF pa sp (rdF pa sp n (x : Int) ((g : Int) + 2) (DR pa sp n g (x : Int)) y) (x : Int) (y : Int) ((g : Int) + 2) z) (by omega) (rchF_bd (rdF_bd (DR_bd pa sp n g (by omega) (x : Int)) ⟨by omega, by omega⟩ y) ⟨by omega, by omega⟩) (y : Int) (z : Int)
                                      refine zr_iconst hx hb dX3_degrees_171 ?_
                                      refine zr_icmp_ne (tgt := 183) hx hb dX3_degrees_172 (by decide) ⟨by omega, by omega⟩ ⟨by decide, by decide⟩ (fun c_28 => ?_) (fun c_28 => ?_)
                                      · have c_28 := c_28
                                        have hno : ¬ ((z : Int) ≠ (x : Int) ∧ (rdF pa sp n (x : Int) ((g : Int) + 2) (DR pa sp n g (x : Int)) y) z = 0 ∧ stp pa sp (y : Int) z) := fun q => c_28 ((G2_one hyx (by omega) (by omega)).mpr ⟨fun e => by rw [← e, hd9] at hz0; omega, q.2.2⟩)
                                        refine zr_iinc (v := (z : Int) + 1) (lv' := [(6, .int (zI ((z : Int) + 1))), (5, .int (zI (y : Int))), (4, .int (zI (x : Int))), (3, .int (zI ((g : Int) + 2))), (2, .ref mx), (1, .int (zI (n : Int))), (0, .ref a)]) hx hb dX3_degrees_183 hl (k := 0) rfl rfl (by decide) rfl (fun ls hl => ?_)
                                        refine lv_goto (tgt := 141) hx hb dX3_degrees_186 (by decide) ?_
                                        have hl := lv_sub hl (l' := [(6, .int (zI ((z : Int) + 1))), (5, .int (zI (y : Int))), (4, .int (zI (x : Int))), (3, .int (zI ((g : Int) + 2))), (2, .ref mx), (1, .int (zI (n : Int))), (0, .ref a)]) [0, 1, 2, 3, 4, 5, 6] rfl
                                        have e_29 : ((((z + 1) : Nat) : Int) : Int) = (z : Int) + 1 := by omega
                                        have hl : lv_has ls 7 [(6, .int (zI (((z + 1) : Nat) : Int))), (5, .int (zI (y : Int))), (4, .int (zI (x : Int))), (3, .int (zI ((g : Int) + 2))), (2, .ref mx), (1, .int (zI (n : Int))), (0, .ref a)] := by rw [e_29]; exact hl
                                        exact ih_z (z + 1) (by omega) (by omega) _ _ _ (by rw [rchF_n hno]; exact hM) hS hl 
                                      · have c_28 := c_28
                                        have hst := ((G2_one hyx (by omega) (by omega)).mp c_28).2
                                        have hst := hst
                                        refine lv_aload_n hx hb dX3_degrees_175 rfl (lv_at hl 4 rfl) ?_
                                        refine lv_iload hx hb dX3_degrees_176 (lv_at hl 2 rfl) ?_
                                        refine zs_ald1 (v := .ref (rd mx (x : Int))) (i := (x : Int)) hx hb hQ hM.1 (by omega) (by omega) (by have := hL.n16; omega) rfl dX3_degrees_178 ?_
                                        refine lv_iload hx hb dX3_degrees_179 (lv_at hl 0 rfl) ?_
                                        refine lv_iload_n hx hb dX3_degrees_181 rfl (lv_at hl 3 rfl) ?_
                                        refine zs_ist (i := (z : Int)) (x := (g : Int) + 2) hx hb hQ (hM.2 (x : Int) (by omega) (by omega)) hS (by show s9.heap.size ≤ mx + 1 + _; omega) (by omega) (by omega) (by have := hL.n16; omega) dX3_degrees_182 (fun H locs hv9 hz9 hk9 hS => ?_)
                                        have hkp : ∀ x : Nat, x < s9.heap.size → H[x]? = s9.heap[x]? := fun x h => hS.2.1 x h (Nat.not_le.mpr h)
                                        have hL := hL0.keep (fun x _ h => hkp x h)
                                        have hM : mA cI c1 H mx n (G2 pa sp n g x (rchF pa sp (rdF pa sp n (x : Int) ((g : Int) + 2) (DR pa sp n g (x : Int)) y) (x : Int) (y : Int) ((g : Int) + 2) (z + 1))) := hM.put (i0 := (x : Int)) (by omega) hv9 hk9 (fun j _ _ => by rw [G2_eq, G2_eq, rchF_y (by omega) hz0 hst]) (fun i j _ _ hi _ _ => by rw [G2_ne hi])
                                        have hU : s9.heap.size ≤ H.size := hS.1
                                        have hkp : ∀ x : Nat, x < s9.heap.size → H[x]? = s9.heap[x]? := fun x h => hS.2.1 x h (Nat.not_le.mpr h)
                                        have hL := hL0.keep (fun x _ h => hkp x h)
                                        refine zr_iinc (v := (z : Int) + 1) (lv' := [(6, .int (zI ((z : Int) + 1))), (5, .int (zI (y : Int))), (4, .int (zI (x : Int))), (3, .int (zI ((g : Int) + 2))), (2, .ref mx), (1, .int (zI (n : Int))), (0, .ref a)]) hx hb dX3_degrees_183 hl (k := 0) rfl rfl (by decide) rfl (fun ls hl => ?_)
                                        refine lv_goto (tgt := 141) hx hb dX3_degrees_186 (by decide) ?_
                                        have hl := lv_sub hl (l' := [(6, .int (zI ((z : Int) + 1))), (5, .int (zI (y : Int))), (4, .int (zI (x : Int))), (3, .int (zI ((g : Int) + 2))), (2, .ref mx), (1, .int (zI (n : Int))), (0, .ref a)]) [0, 1, 2, 3, 4, 5, 6] rfl
                                        have e_30 : ((((z + 1) : Nat) : Int) : Int) = (z : Int) + 1 := by omega
                                        have hl : lv_has ls 7 [(6, .int (zI (((z + 1) : Nat) : Int))), (5, .int (zI (y : Int))), (4, .int (zI (x : Int))), (3, .int (zI ((g : Int) + 2))), (2, .ref mx), (1, .int (zI (n : Int))), (0, .ref a)] := by rw [e_30]; exact hl
                                        exact ih_z (z + 1) (by omega) (by omega) _ _ _ hM hS hl 
                            have hl := lv_sub hl (l' := [(6, .int (zI 0)), (5, .int (zI (y : Int))), (4, .int (zI (x : Int))), (3, .int (zI ((g : Int) + 2))), (2, .ref mx), (1, .int (zI (n : Int))), (0, .ref a)]) [0, 1, 2, 3, 4, 5, 6] rfl
                            exact L141_18 (n + 1) 0 (Nat.zero_le _) (by omega) _ _ _ (by rw [rchF_0]; exact hM) hS hl 
                          · have c_17 := c_17
                            refine lv_goto (tgt := 189) hx hb dX3_degrees_135 (by decide) ?_
                            refine zr_iinc (v := (y : Int) + 1) (lv' := [(5, .int (zI ((y : Int) + 1))), (4, .int (zI (x : Int))), (3, .int (zI ((g : Int) + 2))), (2, .ref mx), (1, .int (zI (n : Int))), (0, .ref a)]) hx hb dX3_degrees_189 hl (k := 0) rfl rfl (by decide) rfl (fun ls hl => ?_)
                            refine lv_goto (tgt := 116) hx hb dX3_degrees_192 (by decide) ?_
                            have hl := lv_sub hl (l' := [(5, .int (zI ((y : Int) + 1))), (4, .int (zI (x : Int))), (3, .int (zI ((g : Int) + 2))), (2, .ref mx), (1, .int (zI (n : Int))), (0, .ref a)]) [0, 1, 2, 3, 4, 5] rfl
                            have e_31 : ((((y + 1) : Nat) : Int) : Int) = (y : Int) + 1 := by omega
                            have hl : lv_has ls 7 [(5, .int (zI (((y + 1) : Nat) : Int))), (4, .int (zI (x : Int))), (3, .int (zI ((g : Int) + 2))), (2, .ref mx), (1, .int (zI (n : Int))), (0, .ref a)] := by rw [e_31]; exact hl
                            exact ih_y (y + 1) (by omega) (by omega) _ _ _ (by rw [rdF_n (by omega)]; exact hM) hS hl 
                    have hl := lv_sub hl (l' := [(5, .int (zI 0)), (4, .int (zI (x : Int))), (3, .int (zI ((g : Int) + 2))), (2, .ref mx), (1, .int (zI (n : Int))), (0, .ref a)]) [0, 1, 2, 3, 4, 5] rfl
                    exact L116_12 (n + 1) 0 (Nat.zero_le _) (by omega) _ _ _ hM hS hl 
              have hl := lv_sub hl (l' := [(4, .int (zI 0)), (3, .int (zI ((g : Int) + 2))), (2, .ref mx), (1, .int (zI (n : Int))), (0, .ref a)]) [0, 1, 2, 3, 4] rfl
              exact L107_8 (n + 1) 0 (Nat.zero_le _) (by omega) _ _ _ (hM.cg (fun i j h0 _ _ _ => congrFun (G2_0 h0) j)) hS hl 
        have hl := lv_sub hl (l' := [(3, .int (zI 2)), (2, .ref mx), (1, .int (zI (n : Int))), (0, .ref a)]) [0, 1, 2, 3] rfl
        exact L99_5 (3 + 1) 0 (Nat.zero_le _) (by omega) _ _ _ (hM.cg (fun i j _ hi h0 hj => G1_D hi h0 hj)) hS hl 
      · have c_3 := c_3
        refine zr_iconst hx hb dX3_degrees_20 ?_
        refine lv_istore (lv' := [(4, .int (zI 0)), (3, .int (zI (x : Int))), (2, .ref mx), (1, .int (zI (n : Int))), (0, .ref a)]) hx hb dX3_degrees_21 hl (by decide) rfl (fun ls hl => ?_)
        have L23_32 : ∀ (kf y : Nat), y ≤ n → n - y < kf → ∀ (H : Heap) (locs : List Loc) (ls : Array Slot), (mA cI c1 H mx n (G1 pa sp x y)) → va_S (fun q : Nat => s9.heap.size ≤ q) s9.heap H locs → lv_has ls 7 [(4, .int (zI (y : Int))), (3, .int (zI (x : Int))), (2, .ref mx), (1, .int (zI (n : Int))), (0, .ref a)] → W p0 l e9 (({ frames := 0, cells := 17, slots := 272, locals := 0 } : Room)) s9 m9 ag9 below meth c9 H locs (0 + 1 + n) (0 + n + n * n) Q0 (F0 m9 23 ls []) := by
          intro kf
          induction kf with
          | zero => intro y h1 h2; omega
          | succ kf ih =>
            intro y hi_y hk_y H locs ls  hM hS hl 
            have ih_y := ih
            clear ih
            have hkp : ∀ x : Nat, x < s9.heap.size → H[x]? = s9.heap[x]? := fun x h => hS.2.1 x h (Nat.not_le.mpr h)
            have hL := hL0.keep (fun x _ h => hkp x h)
            have hU : s9.heap.size ≤ H.size := hS.1
            refine lv_iload hx hb dX3_degrees_23 (lv_at hl 0 rfl) ?_
            refine lv_iload_n hx hb dX3_degrees_25 rfl (lv_at hl 3 rfl) ?_
            refine zr_icmp_ge (tgt := 91) hx hb dX3_degrees_26 (by decide) ⟨by omega, by omega⟩ ⟨by omega, by omega⟩ (fun c_33 => ?_) (fun c_33 => ?_)
            · have c_33 := c_33
              have x_34 : y = n := by omega
              try rw [x_34] at hl
              try rw [x_34] at hM
              refine zr_iinc (v := (x : Int) + 1) (lv' := [(3, .int (zI ((x : Int) + 1))), (4, .int (zI (n : Int))), (2, .ref mx), (1, .int (zI (n : Int))), (0, .ref a)]) hx hb dX3_degrees_91 hl (k := 1) rfl rfl (by decide) rfl (fun ls hl => ?_)
              refine lv_goto (tgt := 15) hx hb dX3_degrees_94 (by decide) ?_
              have hl := lv_sub hl (l' := [(3, .int (zI ((x : Int) + 1))), (2, .ref mx), (1, .int (zI (n : Int))), (0, .ref a)]) [0, 2, 3, 4] rfl
              have e_35 : ((((x + 1) : Nat) : Int) : Int) = (x : Int) + 1 := by omega
              have hl : lv_has ls 7 [(3, .int (zI (((x + 1) : Nat) : Int))), (2, .ref mx), (1, .int (zI (n : Int))), (0, .ref a)] := by rw [e_35]; exact hl
              exact ih_x (x + 1) (by omega) (by omega) _ _ _ (hM.cg (fun i j _ _ h0 hj => G1_n h0 hj)) hS hl 
            · have c_33 := c_33
              refine lv_aload_n hx hb dX3_degrees_29 rfl (lv_at hl 2 rfl) ?_
              refine lv_iload_n hx hb dX3_degrees_30 rfl (lv_at hl 1 rfl) ?_
              refine zs_ald1 (v := .ref (rd mx (x : Int))) (i := (x : Int)) hx hb hQ hM.1 (by omega) (by omega) (by have := hL.n16; omega) rfl dX3_degrees_31 ?_
              refine lv_iload hx hb dX3_degrees_32 (lv_at hl 0 rfl) ?_
              refine lv_iload_n hx hb dX3_degrees_34 rfl (lv_at hl 1 rfl) ?_
              refine lv_iload hx hb dX3_degrees_35 (lv_at hl 0 rfl) ?_
              refine zr_icmp_eq (tgt := 83) hx hb dX3_degrees_37 (by decide) ⟨by omega, by omega⟩ ⟨by omega, by omega⟩ (fun c_36 => ?_) (fun c_36 => ?_)
              · have c_36 := c_36
                refine zr_iconst hx hb dX3_degrees_83 ?_
                refine zs_ist (i := (y : Int)) (x := 0) hx hb hQ (hM.2 (x : Int) (by omega) (by omega)) hS (by show s9.heap.size ≤ mx + 1 + _; omega) (by omega) (by omega) (by have := hL.n16; omega) dX3_degrees_84 (fun H locs hv9 hz9 hk9 hS => ?_)
                have hkp : ∀ x : Nat, x < s9.heap.size → H[x]? = s9.heap[x]? := fun x h => hS.2.1 x h (Nat.not_le.mpr h)
                have hL := hL0.keep (fun x _ h => hkp x h)
                have hM : mA cI c1 H mx n (G1 pa sp x (y + 1)) := hM.put (i0 := (x : Int)) (by omega) hv9 hk9 (fun j _ _ => G1_put (by unfold st1 stp; first | rw [if_pos (by omega)] | rw [if_neg (by omega)]) j) (fun i j _ _ hi _ _ => G1_o hi j)
                have hU : s9.heap.size ≤ H.size := hS.1
                have hkp : ∀ x : Nat, x < s9.heap.size → H[x]? = s9.heap[x]? := fun x h => hS.2.1 x h (Nat.not_le.mpr h)
                have hL := hL0.keep (fun x _ h => hkp x h)
                refine zr_iinc (v := (y : Int) + 1) (lv' := [(4, .int (zI ((y : Int) + 1))), (3, .int (zI (x : Int))), (2, .ref mx), (1, .int (zI (n : Int))), (0, .ref a)]) hx hb dX3_degrees_85 hl (k := 0) rfl rfl (by decide) rfl (fun ls hl => ?_)
                refine lv_goto (tgt := 23) hx hb dX3_degrees_88 (by decide) ?_
                have hl := lv_sub hl (l' := [(4, .int (zI ((y : Int) + 1))), (3, .int (zI (x : Int))), (2, .ref mx), (1, .int (zI (n : Int))), (0, .ref a)]) [0, 1, 2, 3, 4] rfl
                have e_37 : ((((y + 1) : Nat) : Int) : Int) = (y : Int) + 1 := by omega
                have hl : lv_has ls 7 [(4, .int (zI (((y + 1) : Nat) : Int))), (3, .int (zI (x : Int))), (2, .ref mx), (1, .int (zI (n : Int))), (0, .ref a)] := by rw [e_37]; exact hl
                exact ih_y (y + 1) (by omega) (by omega) _ _ _ hM hS hl 
              · have c_36 := c_36
                refine lv_aload_n hx hb dX3_degrees_40 rfl (lv_at hl 4 rfl) ?_
                refine va_get (D := D) (ci := 3) (v := .ref ap) (C := RX3) (T := TX3) (N := 5) hx hb hts hin3 hown hK hL.obj 0 rfl rfl 2 (by decide) (hts (.fieldLink RX3 9 "MourningRibbonsLaw$Sim" "people" "[[I") (by decide +kernel)) (fun _ h9 => h9) rfl dX3_degrees_41 ?_
                refine lv_iload_n hx hb dX3_degrees_44 rfl (lv_at hl 1 rfl) ?_
                refine zs_ald1 (v := .ref (ra (x : Int))) (i := (x : Int)) hx hb hQ hL.ppl (by omega) (by omega) (by have := hL.n16; omega) rfl dX3_degrees_45 ?_
                refine zr_iconst hx hb dX3_degrees_46 ?_
                refine zs_ild (v := pa (x : Int)) (i := 0) hx hb hQ (hL.row (x : Int) (by omega) (by omega)) (by decide) (by decide) (by decide) rfl dX3_degrees_47 ?_
                have b_38 := hpa (x : Int)
                refine lv_iload hx hb dX3_degrees_48 (lv_at hl 0 rfl) ?_
                refine zr_icmp_eq (tgt := 79) hx hb dX3_degrees_50 (by decide) ⟨by omega, by omega⟩ ⟨by omega, by omega⟩ (fun c_39 => ?_) (fun c_39 => ?_)
                · have c_39 := c_39
                  refine zr_iconst hx hb dX3_degrees_79 ?_
                  refine lv_goto (tgt := 84) hx hb dX3_degrees_80 (by decide) ?_
                  refine zs_ist (i := (y : Int)) (x := 1) hx hb hQ (hM.2 (x : Int) (by omega) (by omega)) hS (by show s9.heap.size ≤ mx + 1 + _; omega) (by omega) (by omega) (by have := hL.n16; omega) dX3_degrees_84 (fun H locs hv9 hz9 hk9 hS => ?_)
                  have hkp : ∀ x : Nat, x < s9.heap.size → H[x]? = s9.heap[x]? := fun x h => hS.2.1 x h (Nat.not_le.mpr h)
                  have hL := hL0.keep (fun x _ h => hkp x h)
                  have hM : mA cI c1 H mx n (G1 pa sp x (y + 1)) := hM.put (i0 := (x : Int)) (by omega) hv9 hk9 (fun j _ _ => G1_put (by unfold st1 stp; first | rw [if_pos (by omega)] | rw [if_neg (by omega)]) j) (fun i j _ _ hi _ _ => G1_o hi j)
                  have hU : s9.heap.size ≤ H.size := hS.1
                  have hkp : ∀ x : Nat, x < s9.heap.size → H[x]? = s9.heap[x]? := fun x h => hS.2.1 x h (Nat.not_le.mpr h)
                  have hL := hL0.keep (fun x _ h => hkp x h)
                  refine zr_iinc (v := (y : Int) + 1) (lv' := [(4, .int (zI ((y : Int) + 1))), (3, .int (zI (x : Int))), (2, .ref mx), (1, .int (zI (n : Int))), (0, .ref a)]) hx hb dX3_degrees_85 hl (k := 0) rfl rfl (by decide) rfl (fun ls hl => ?_)
                  refine lv_goto (tgt := 23) hx hb dX3_degrees_88 (by decide) ?_
                  have hl := lv_sub hl (l' := [(4, .int (zI ((y : Int) + 1))), (3, .int (zI (x : Int))), (2, .ref mx), (1, .int (zI (n : Int))), (0, .ref a)]) [0, 1, 2, 3, 4] rfl
                  have e_40 : ((((y + 1) : Nat) : Int) : Int) = (y : Int) + 1 := by omega
                  have hl : lv_has ls 7 [(4, .int (zI (((y + 1) : Nat) : Int))), (3, .int (zI (x : Int))), (2, .ref mx), (1, .int (zI (n : Int))), (0, .ref a)] := by rw [e_40]; exact hl
                  exact ih_y (y + 1) (by omega) (by omega) _ _ _ hM hS hl 
                · have c_39 := c_39
                  refine lv_aload_n hx hb dX3_degrees_53 rfl (lv_at hl 4 rfl) ?_
                  refine va_get (D := D) (ci := 3) (v := .ref ap) (C := RX3) (T := TX3) (N := 5) hx hb hts hin3 hown hK hL.obj 0 rfl rfl 2 (by decide) (hts (.fieldLink RX3 9 "MourningRibbonsLaw$Sim" "people" "[[I") (by decide +kernel)) (fun _ h9 => h9) rfl dX3_degrees_54 ?_
                  refine lv_iload hx hb dX3_degrees_57 (lv_at hl 0 rfl) ?_
                  refine zs_ald1 (v := .ref (ra (y : Int))) (i := (y : Int)) hx hb hQ hL.ppl (by omega) (by omega) (by have := hL.n16; omega) rfl dX3_degrees_59 ?_
                  refine zr_iconst hx hb dX3_degrees_60 ?_
                  refine zs_ild (v := pa (y : Int)) (i := 0) hx hb hQ (hL.row (y : Int) (by omega) (by omega)) (by decide) (by decide) (by decide) rfl dX3_degrees_61 ?_
                  have b_41 := hpa (y : Int)
                  refine lv_iload_n hx hb dX3_degrees_62 rfl (lv_at hl 1 rfl) ?_
                  refine zr_icmp_eq (tgt := 79) hx hb dX3_degrees_63 (by decide) ⟨by omega, by omega⟩ ⟨by omega, by omega⟩ (fun c_42 => ?_) (fun c_42 => ?_)
                  · have c_42 := c_42
                    refine zr_iconst hx hb dX3_degrees_79 ?_
                    refine lv_goto (tgt := 84) hx hb dX3_degrees_80 (by decide) ?_
                    refine zs_ist (i := (y : Int)) (x := 1) hx hb hQ (hM.2 (x : Int) (by omega) (by omega)) hS (by show s9.heap.size ≤ mx + 1 + _; omega) (by omega) (by omega) (by have := hL.n16; omega) dX3_degrees_84 (fun H locs hv9 hz9 hk9 hS => ?_)
                    have hkp : ∀ x : Nat, x < s9.heap.size → H[x]? = s9.heap[x]? := fun x h => hS.2.1 x h (Nat.not_le.mpr h)
                    have hL := hL0.keep (fun x _ h => hkp x h)
                    have hM : mA cI c1 H mx n (G1 pa sp x (y + 1)) := hM.put (i0 := (x : Int)) (by omega) hv9 hk9 (fun j _ _ => G1_put (by unfold st1 stp; first | rw [if_pos (by omega)] | rw [if_neg (by omega)]) j) (fun i j _ _ hi _ _ => G1_o hi j)
                    have hU : s9.heap.size ≤ H.size := hS.1
                    have hkp : ∀ x : Nat, x < s9.heap.size → H[x]? = s9.heap[x]? := fun x h => hS.2.1 x h (Nat.not_le.mpr h)
                    have hL := hL0.keep (fun x _ h => hkp x h)
                    refine zr_iinc (v := (y : Int) + 1) (lv' := [(4, .int (zI ((y : Int) + 1))), (3, .int (zI (x : Int))), (2, .ref mx), (1, .int (zI (n : Int))), (0, .ref a)]) hx hb dX3_degrees_85 hl (k := 0) rfl rfl (by decide) rfl (fun ls hl => ?_)
                    refine lv_goto (tgt := 23) hx hb dX3_degrees_88 (by decide) ?_
                    have hl := lv_sub hl (l' := [(4, .int (zI ((y : Int) + 1))), (3, .int (zI (x : Int))), (2, .ref mx), (1, .int (zI (n : Int))), (0, .ref a)]) [0, 1, 2, 3, 4] rfl
                    have e_43 : ((((y + 1) : Nat) : Int) : Int) = (y : Int) + 1 := by omega
                    have hl : lv_has ls 7 [(4, .int (zI (((y + 1) : Nat) : Int))), (3, .int (zI (x : Int))), (2, .ref mx), (1, .int (zI (n : Int))), (0, .ref a)] := by rw [e_43]; exact hl
                    exact ih_y (y + 1) (by omega) (by omega) _ _ _ hM hS hl 
                  · have c_42 := c_42
                    refine lv_aload_n hx hb dX3_degrees_66 rfl (lv_at hl 4 rfl) ?_
                    refine va_get (D := D) (ci := 3) (v := .ref ap) (C := RX3) (T := TX3) (N := 5) hx hb hts hin3 hown hK hL.obj 0 rfl rfl 2 (by decide) (hts (.fieldLink RX3 9 "MourningRibbonsLaw$Sim" "people" "[[I") (by decide +kernel)) (fun _ h9 => h9) rfl dX3_degrees_67 ?_
                    refine lv_iload_n hx hb dX3_degrees_70 rfl (lv_at hl 1 rfl) ?_
                    refine zs_ald1 (v := .ref (ra (x : Int))) (i := (x : Int)) hx hb hQ hL.ppl (by omega) (by omega) (by have := hL.n16; omega) rfl dX3_degrees_71 ?_
                    refine zr_iconst hx hb dX3_degrees_72 ?_
                    refine zs_ild (v := sp (x : Int)) (i := 1) hx hb hQ (hL.row (x : Int) (by omega) (by omega)) (by decide) (by decide) (by decide) rfl dX3_degrees_73 ?_
                    have b_44 := hsp (x : Int)
                    refine lv_iload hx hb dX3_degrees_74 (lv_at hl 0 rfl) ?_
                    refine zr_icmp_ne (tgt := 83) hx hb dX3_degrees_76 (by decide) ⟨by omega, by omega⟩ ⟨by omega, by omega⟩ (fun c_45 => ?_) (fun c_45 => ?_)
                    · have c_45 := c_45
                      refine zr_iconst hx hb dX3_degrees_83 ?_
                      refine zs_ist (i := (y : Int)) (x := 0) hx hb hQ (hM.2 (x : Int) (by omega) (by omega)) hS (by show s9.heap.size ≤ mx + 1 + _; omega) (by omega) (by omega) (by have := hL.n16; omega) dX3_degrees_84 (fun H locs hv9 hz9 hk9 hS => ?_)
                      have hkp : ∀ x : Nat, x < s9.heap.size → H[x]? = s9.heap[x]? := fun x h => hS.2.1 x h (Nat.not_le.mpr h)
                      have hL := hL0.keep (fun x _ h => hkp x h)
                      have hM : mA cI c1 H mx n (G1 pa sp x (y + 1)) := hM.put (i0 := (x : Int)) (by omega) hv9 hk9 (fun j _ _ => G1_put (by unfold st1 stp; first | rw [if_pos (by omega)] | rw [if_neg (by omega)]) j) (fun i j _ _ hi _ _ => G1_o hi j)
                      have hU : s9.heap.size ≤ H.size := hS.1
                      have hkp : ∀ x : Nat, x < s9.heap.size → H[x]? = s9.heap[x]? := fun x h => hS.2.1 x h (Nat.not_le.mpr h)
                      have hL := hL0.keep (fun x _ h => hkp x h)
                      refine zr_iinc (v := (y : Int) + 1) (lv' := [(4, .int (zI ((y : Int) + 1))), (3, .int (zI (x : Int))), (2, .ref mx), (1, .int (zI (n : Int))), (0, .ref a)]) hx hb dX3_degrees_85 hl (k := 0) rfl rfl (by decide) rfl (fun ls hl => ?_)
                      refine lv_goto (tgt := 23) hx hb dX3_degrees_88 (by decide) ?_
                      have hl := lv_sub hl (l' := [(4, .int (zI ((y : Int) + 1))), (3, .int (zI (x : Int))), (2, .ref mx), (1, .int (zI (n : Int))), (0, .ref a)]) [0, 1, 2, 3, 4] rfl
                      have e_46 : ((((y + 1) : Nat) : Int) : Int) = (y : Int) + 1 := by omega
                      have hl : lv_has ls 7 [(4, .int (zI (((y + 1) : Nat) : Int))), (3, .int (zI (x : Int))), (2, .ref mx), (1, .int (zI (n : Int))), (0, .ref a)] := by rw [e_46]; exact hl
                      exact ih_y (y + 1) (by omega) (by omega) _ _ _ hM hS hl 
                    · have c_45 := c_45
                      refine zr_iconst hx hb dX3_degrees_79 ?_
                      refine lv_goto (tgt := 84) hx hb dX3_degrees_80 (by decide) ?_
                      refine zs_ist (i := (y : Int)) (x := 1) hx hb hQ (hM.2 (x : Int) (by omega) (by omega)) hS (by show s9.heap.size ≤ mx + 1 + _; omega) (by omega) (by omega) (by have := hL.n16; omega) dX3_degrees_84 (fun H locs hv9 hz9 hk9 hS => ?_)
                      have hkp : ∀ x : Nat, x < s9.heap.size → H[x]? = s9.heap[x]? := fun x h => hS.2.1 x h (Nat.not_le.mpr h)
                      have hL := hL0.keep (fun x _ h => hkp x h)
                      have hM : mA cI c1 H mx n (G1 pa sp x (y + 1)) := hM.put (i0 := (x : Int)) (by omega) hv9 hk9 (fun j _ _ => G1_put (by unfold st1 stp; first | rw [if_pos (by omega)] | rw [if_neg (by omega)]) j) (fun i j _ _ hi _ _ => G1_o hi j)
                      have hU : s9.heap.size ≤ H.size := hS.1
                      have hkp : ∀ x : Nat, x < s9.heap.size → H[x]? = s9.heap[x]? := fun x h => hS.2.1 x h (Nat.not_le.mpr h)
                      have hL := hL0.keep (fun x _ h => hkp x h)
                      refine zr_iinc (v := (y : Int) + 1) (lv' := [(4, .int (zI ((y : Int) + 1))), (3, .int (zI (x : Int))), (2, .ref mx), (1, .int (zI (n : Int))), (0, .ref a)]) hx hb dX3_degrees_85 hl (k := 0) rfl rfl (by decide) rfl (fun ls hl => ?_)
                      refine lv_goto (tgt := 23) hx hb dX3_degrees_88 (by decide) ?_
                      have hl := lv_sub hl (l' := [(4, .int (zI ((y : Int) + 1))), (3, .int (zI (x : Int))), (2, .ref mx), (1, .int (zI (n : Int))), (0, .ref a)]) [0, 1, 2, 3, 4] rfl
                      have e_47 : ((((y + 1) : Nat) : Int) : Int) = (y : Int) + 1 := by omega
                      have hl : lv_has ls 7 [(4, .int (zI (((y + 1) : Nat) : Int))), (3, .int (zI (x : Int))), (2, .ref mx), (1, .int (zI (n : Int))), (0, .ref a)] := by rw [e_47]; exact hl
                      exact ih_y (y + 1) (by omega) (by omega) _ _ _ hM hS hl 
        have hl := lv_sub hl (l' := [(4, .int (zI 0)), (3, .int (zI (x : Int))), (2, .ref mx), (1, .int (zI (n : Int))), (0, .ref a)]) [0, 1, 2, 3, 4] rfl
        exact L23_32 (n + 1) 0 (Nat.zero_le _) (by omega) _ _ _ hM hS hl 
  have hl := lv_sub hl (l' := [(3, .int (zI 0)), (2, .ref mx), (1, .int (zI (n : Int))), (0, .ref a)]) [0, 1, 2, 3] rfl
  exact L15_2 (n + 1) 0 (Nat.zero_le _) (by omega) _ _ _ (hM.cg (fun i j _ _ _ _ => by unfold G1; rw [if_neg (by omega)]; rfl)) hS hl 
