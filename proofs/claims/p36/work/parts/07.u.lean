/-! both worlds side by side -/
theorem zkeepW {D : va_G} {w : va_W} {L : List Nat} {H H1 : Heap} {y : Nat} (h : va_P D vwCl w H) (hw : w.map Prod.fst = L) (hk : ∀ x : Nat, x ≠ y → H1[x]? = H[x]?) (hy : y ∉ L) : va_P D vwCl w H1 := h.kept (fun k q hq => hk _ (fun e => hy (by rw [← e, ← hw]; exact List.mem_map.mpr ⟨q, List.mem_of_getElem? hq, rfl⟩)))
theorem zkeepL {D : va_G} {w : va_W} {L : List Nat} {H H1 : Heap} {s0 : Nat} (h : va_P D vwCl w H) (hw : w.map Prod.fst = L) (hL : ∀ x ∈ L, x < s0) (hk : ∀ x : Nat, x < H.size → ¬ s0 ≤ x → H1[x]? = H[x]?) : va_P D vwCl w H1 := h.kept (fun k q hq => hk _ (h k q hq).lt (Nat.not_le.mpr (hL _ (by rw [← hw]; exact List.mem_map.mpr ⟨q, List.mem_of_getElem? hq, rfl⟩))))
theorem mA.keepq {cI c1 : ClassId} {H H1 : Heap} {b n s0 : Nat} {G : Int → Int → Int} (h : mA cI c1 H b n G) (hs : s0 ≤ b) (hk : ∀ x : Nat, x < H.size → s0 ≤ x → H1[x]? = H[x]?) : mA cI c1 H1 b n G := ⟨vA.kept h.1 (hk _ h.1.lt hs), fun i h0 h1 => vA.kept (h.2 i h0 h1) (hk _ (h.2 i h0 h1).lt (by unfold rd; omega))⟩
theorem mA.keepW {cI c1 : ClassId} {H H1 : Heap} {b n y : Nat} {G : Int → Int → Int} (h : mA cI c1 H b n G) (hk : ∀ x : Nat, x ≠ y → H1[x]? = H[x]?) (hy : b + n < y) : mA cI c1 H1 b n G := ⟨vA.kept h.1 (hk _ (by omega)), fun i h0 h1 => vA.kept (h.2 i h0 h1) (hk _ (by unfold rd; omega))⟩
theorem mA.end {cI c1 : ClassId} {H : Heap} {b n : Nat} {G : Int → Int → Int} (h : mA cI c1 H b n G) : b + n < H.size := by
  by_cases e : n = 0
  · have := h.1.lt
    omega
  · have := (h.2 ((n - 1 : Nat) : Int) (by omega) (by omega)).lt
    unfold rd at this
    omega
/-- a count by kinds: one more -/
theorem up_cnt {F : Int → Int → Int} {i : Nat} {w a : Int} (h1 : F w (i : Int) = a) (h2 : ∀ c : Int, c ≠ w → F c (i : Int) = 0) : up (fun c => smF (F c) i) w (smF (F w) i + a) = fun c => smF (F c) (i + 1) := by
  funext c
  unfold up
  show (if c = w then smF (F w) i + a else smF (F c) i) = smF (F c) i + F c (i : Int)
  by_cases e : c = w
  · rw [if_pos e, e, h1]
  · rw [if_neg e, h2 c e, Int.add_zero]
/-- the last colour that somebody wears -/
def stF (f : Int → Int) : Nat → Int
  | 0 => 0
  | k + 1 => if 0 < (k : Int) ∧ 0 < f (k : Int) then (k : Int) else stF f k
theorem stF_y {f : Int → Int} {k : Nat} (h : 0 < (k : Int) ∧ 0 < f (k : Int)) : stF f (k + 1) = (k : Int) := if_pos h
theorem stF_n {f : Int → Int} {k : Nat} (h : ¬ (0 < (k : Int) ∧ 0 < f (k : Int))) : stF f (k + 1) = stF f k := if_neg h
theorem stF_rg (f : Int → Int) (k : Nat) : 0 ≤ stF f k ∧ stF f k ≤ (k : Int) := by
  induction k with
  | zero => exact ⟨Int.le_refl 0, Int.le_refl 0⟩
  | succ k ih =>
    by_cases h : 0 < (k : Int) ∧ 0 < f (k : Int)
    · rw [stF_y h]; omega
    · rw [stF_n h]; omega
theorem gtF_y {f : Int → Int} {j : Int} (h : 0 < f j) : gtF f j = 1 := if_pos h
theorem gtF_n {f : Int → Int} {j : Int} (h : ¬ 0 < f j) : gtF f j = 0 := if_neg h
theorem smF_pos {f : Int → Int} {k : Nat} (h : ∀ j : Int, 0 ≤ j → j < (k : Int) → 0 ≤ f j) (hp : 0 < smF f k) : ∃ j : Int, 0 ≤ j ∧ j < (k : Int) ∧ 0 < f j := by
  induction k with
  | zero => exact absurd hp (by show ¬ (0 : Int) < 0; decide)
  | succ k ih =>
    rw [smF_s] at hp
    by_cases e : 0 < f (k : Int)
    · exact ⟨k, by omega, by omega, e⟩
    · obtain ⟨j, j0, j1, j2⟩ := ih (fun j h0 h1 => h j h0 (by omega)) (by omega)
      exact ⟨j, j0, by omega, j2⟩
theorem smF_ge {f : Int → Int} {k : Nat} (h : ∀ j : Int, 0 ≤ j → j < (k : Int) → 0 ≤ f j) {j : Int} (h0 : 0 ≤ j) (h1 : j < (k : Int)) : f j ≤ smF f k := by
  induction k with
  | zero => omega
  | succ k ih =>
    rw [smF_s]
    have h2 := smF_nn (f := f) (k := k) (fun j h0 h1 => h j h0 (by omega))
    have h3 := h k (by omega) (by omega)
    by_cases e : j = (k : Int)
    · subst e; omega
    · have := ih (fun j h0 h1 => h j h0 (by omega)) (by omega)
      omega
theorem cwF_01 (al co da mb dd : Int → Int) (td : Int) (n : Nat) (c p : Int) : 0 ≤ cwF al co da mb dd td n c p ∧ cwF al co da mb dd td n c p ≤ 1 := by unfold cwF; split <;> decide
section ZST
variable {n : Nat} {pa sp al co da mb dd : Int → Int} {td : Int} {M : Nat} {mo : Int → Int → Int}
abbrev cwN (al co da mb dd : Int → Int) (td : Int) (n : Nat) (c : Int) : Int := smF (cwF al co da mb dd td n c) n
theorem cwN_rg (al co da mb dd : Int → Int) (td : Int) (n : Nat) (c : Int) : 0 ≤ cwN al co da mb dd td n c ∧ cwN al co da mb dd td n c ≤ 1 * (n : Int) := smF_bd (fun j => cwF_01 al co da mb dd td n c j)
theorem caZ_rg (h : zInv n pa sp al co da mb dd td M mo) (p : Int) : 0 ≤ caZ co da mb dd td n p ∧ caZ co da mb dd td n p ≤ 5 := ca_bd h.1.2.2.2.1 da mb dd td n p 0
/-- somebody alive wears the strictest colour -/
theorem zInv.stW (h : zInv n pa sp al co da mb dd td M mo) (hp : 0 < mxF (caZ co da mb dd td n) n) : 0 < cwN al co da mb dd td n (mxF (caZ co da mb dd td n) n) := by
  obtain ⟨p, p0, p1, e⟩ := mxF_at hp
  have ha : al p = 1 := Decidable.byContradiction fun q => by
    have h9 := h.ca0 p0 p1 q 0
    have e9 : ca co da mb dd td n p 0 = mxF (caZ co da mb dd td n) n := e
    omega
  have h1 := smF_ge (f := cwF al co da mb dd td n (mxF (caZ co da mb dd td n) n)) (k := n) (fun j _ _ => (cwF_01 al co da mb dd td n _ j).1) p0 p1
  have h2 : cwF al co da mb dd td n (mxF (caZ co da mb dd td n) n) p = 1 := if_pos ⟨by omega, e⟩
  unfold cwN
  omega
theorem cwN_above {al co da mb dd : Int → Int} {td : Int} {n : Nat} {c : Int} (hc : mxF (caZ co da mb dd td n) n < c) : cwN al co da mb dd td n c = 0 := smF_zero (fun p p0 p1 => by
  have h9 : ca co da mb dd td n p 0 ≤ mxF (caZ co da mb dd td n) n := mxF_ge (caZ co da mb dd td n) p0 p1
  unfold cwF
  exact if_neg (fun q => by omega))
theorem zInv.stFe (h : zInv n pa sp al co da mb dd td M mo) : stF (cwN al co da mb dd td n) 6 = mxF (caZ co da mb dd td n) n := by
  have hx : mxF (caZ co da mb dd td n) n ≤ 5 := mxF_le (by decide) (fun j _ _ => (caZ_rg h j).2)
  have h0 := mxF_nn (caZ co da mb dd td n) n
  generalize hm : mxF (caZ co da mb dd td n) n = m at hx h0
  have key : ∀ k : Nat, (k : Int) ≤ 6 → stF (cwN al co da mb dd td n) k = if m < (k : Int) then m else (stF (cwN al co da mb dd td n) k) := by
    intro k hk
    induction k with
    | zero => rw [if_neg (by omega)]
    | succ k ih =>
      by_cases c : m < ((k + 1 : Nat) : Int)
      · rw [if_pos c]
        by_cases e : m = (k : Int)
        · by_cases z : 0 < (k : Int)
          · have := h.stW (by omega)
            rw [hm, e] at this
            rw [stF_y ⟨z, this⟩, e]
          · have hk0 : k = 0 := by omega
            subst hk0
            rw [stF_n (fun q => z q.1), e]
            rfl
        · rw [stF_n (fun q => by have := cwN_above (al := al) (co := co) (da := da) (mb := mb) (dd := dd) (td := td) (n := n) (c := (k : Int)) (by omega); omega), ih (by omega), if_pos (by omega)]
      · rw [if_neg c]
  rw [key 6 (by decide), if_pos (show m < ((6 : Nat) : Int) by omega)]
end ZST
/-! the mean -/
theorem alike_num {x v : UInt64} (ha : alike64 x v = true) (hv : vf_n64 v) : x = v := by
  have h1 : x = v ∨ (isNaN64 x = true ∧ isNaN64 v = true) := by simpa [alike64] using ha
  rcases h1 with h1 | ⟨_, h2⟩
  · exact h1
  · have h3 : v &&& 0x7fffffffffffffff > 0x7ff0000000000000 := by simpa [isNaN64] using h2
    exact absurd hv (UInt64.not_le.mpr h3)
theorem n64_0 : vf_n64 FP.dconst0 := by unfold vf_n64; decide +kernel
theorem n64_q {x y : Int32} (h : y ≠ 0) : vf_n64 (FP.ddiv (FP.i2d x) (FP.i2d y)) := Jvm.Free.Fl.ddiv_out (Jvm.Free.Fl.i2d_fin x).noNaN (Jvm.Free.Fl.i2d_fin y) (Jvm.Free.Fl.i2d_nz h)
theorem dcmp_same {x : UInt64} (h : vf_n64 x) : Op.cmpValue (FP.dcmp x x) .l = 0 := by
  have h9 := Jvm.Free.Fl.dcmp_of_noNaN64 h
  generalize FP.dcmp x x = o at h9 ⊢
  rcases o with _ | _ | _ | _ <;> first | rfl | exact absurd h9 (by decide)
theorem zI_ne0 {z : Int} (h : z ≠ 0) (h1 : -2147483648 ≤ z ∧ z ≤ 2147483647) : zI z ≠ 0 := fun e => h ((zI_eq h1 (by decide : -2147483648 ≤ (0 : Int) ∧ (0 : Int) ≤ 2147483647)).mp e)
/-- contracts that may draw -/
def zGD (l : Launch) (y : MethodName) (ws : List Cond) (rm : Room) (D : va_G) (cI cZ c1 c2 : ClassId) (av : List Value) (sz : Nat) (Pre : Heap → Prop) (Post : Option Value → Heap → Prop) (free : Nat → Prop) (mc ms : Nat) : Prop :=
  MetD lw_cs l y ws rm (va_Pc av (fun U => U.heap.size = sz ∧ Pre U.heap ∧ va_K D vwCl [(cI, .int), (cZ, .boolean)] U ∧ zKA cI c1 c2 U)) (fun _ st o t => (∃ v, o = .returned v ∧ Post v t.heap) ∧ va_F free st t) mc ms free
theorem zr_icmp_neF {p : Program} {l : Launch} {e : Env} {R : Room} {s : State} {m : MethodId} {args : Array Value} {below : List Frame} {meth : Method} {c : Code} {H : Heap} {locs : List Loc} {cells slots : Nat} {Q : State → Prop} {pc : Nat} {ls : Array Slot} {rest : List Value} {cc : ByteArray} (hx : p.tables.exec = Jvm.exec) (hb : c.code = cc) {x y : Int} {off : Int} {tgt : Nat} (h : x = y) (hdg : decode cc pc = .ok (.if_icmp .ne off, 3)) (ht : (pc : Int) + off = (tgt : Int)) (kf : W p l e R s m args below meth c H locs cells slots Q (F0 m (pc + 3) ls rest)) : W p l e R s m args below meth c H locs cells slots Q (F0 m pc ls (.int (zI y) :: .int (zI x) :: rest)) := by
  subst h
  exact lv_icmp_ne hx hb hdg ht (fun h2 => absurd rfl h2) (fun _ => kf)
theorem zr_icmp_eqT {p : Program} {l : Launch} {e : Env} {R : Room} {s : State} {m : MethodId} {args : Array Value} {below : List Frame} {meth : Method} {c : Code} {H : Heap} {locs : List Loc} {cells slots : Nat} {Q : State → Prop} {pc : Nat} {ls : Array Slot} {rest : List Value} {cc : ByteArray} (hx : p.tables.exec = Jvm.exec) (hb : c.code = cc) {x y : Int} {off : Int} {tgt : Nat} (h : x = y) (hdg : decode cc pc = .ok (.if_icmp .eq off, 3)) (ht : (pc : Int) + off = (tgt : Int)) (kt : W p l e R s m args below meth c H locs cells slots Q (F0 m tgt ls rest)) : W p l e R s m args below meth c H locs cells slots Q (F0 m pc ls (.int (zI y) :: .int (zI x) :: rest)) := by
  subst h
  exact lv_icmp_eq hx hb hdg ht (fun _ => kt) (fun h2 => absurd rfl h2)
