theorem arrV_cg {cI : ClassId} {N : Nat} {f g : Nat → Value} (h : ∀ j : Nat, j < N → f j = g j) : arrV cI N f = arrV cI N g := by
  unfold arrV
  rw [show (fun j : Fin N => f j.val) = (fun j : Fin N => g j.val) from funext fun j => h j.val j.isLt]
/-- the cells of the class -/
def zLC (q : Nat → Nat) : List Nat := [q 0, q 1, q 2, q 3, q 4, q 5, q 6, q 7, q 8, q 9, q 10, q 11, q 12, q 13]
abbrev wC (cI cZ : ClassId) (q : Nat → Nat) (pa sp al dg co da mb dd ah wl lo : Int → Int) (n td wn : Int) : va_W :=
  [(q 0, .inr (2, [.ref (q 1), .ref (q 2), .ref (q 3), .ref (q 4), .int (zI td), .int (zI wn), .ref (q 5), .ref (q 6), .ref (q 7)])), (q 1, .inr (1, [.ref (q 8), .ref (q 9), .ref (q 10), .int (zI n), .ref (q 11)])), (q 2, .inr (0, [.ref (q 12), .ref (q 13)])),
   (q 3, .inl (cI, 256, .inl (ar mb))), (q 4, .inl (cI, 16, .inl (ar dd))), (q 5, .inl (cI, 180, .inl (ar ah))), (q 6, .inl (cI, 5, .inl (ar wl))), (q 7, .inl (cI, 16, .inl (ar lo))),
   (q 8, .inl (cI, 16, .inl (ar pa))), (q 9, .inl (cI, 16, .inl (ar sp))), (q 10, .inl (cZ, 16, .inl (ar al))), (q 11, .inl (cI, 16, .inl (ar dg))), (q 12, .inl (cI, 204, .inl (ar co))), (q 13, .inl (cI, 204, .inl (ar da)))]
/-- what an array holds beyond its places is nobody's business -/
theorem zcg {D : va_G} {w : va_W} {H : Heap} {f g : Int → Int} {a : Nat} {cA : ClassId} {n : Nat} (hP : va_P D vwCl w H) (k : Nat) (hk : w[k]? = some (a, .inl (cA, n, .inl (ar f)))) (h : ∀ j : Int, 0 ≤ j → j < (n : Int) → f j = g j) : va_P D vwCl (w.set k (a, .inl (cA, n, .inl (ar g)))) H := by
  intro i x hx
  rw [List.getElem?_set] at hx
  split at hx
  · rename_i hik
    split at hx
    · cases hx
      have h1 := hP k _ hk
      have e : arrV cA n (fun j => Value.int (ar g j)) = arrV cA n (fun j => Value.int (ar f j)) := arrV_cg (fun j hj => by show Value.int (zI (g j)) = Value.int (zI (f j)); rw [h j (by omega) (by omega)])
      show H[a]? = some (arrV cA n (fun j => Value.int (ar g j)))
      rw [e]
      exact h1
    · cases hx
  · exact hP i x hx
def cst (v : Int) : Int → Int := fun _ => v
def bI (P : Prop) [Decidable P] : Int := if P then 1 else 0
theorem bI_01 (P : Prop) [Decidable P] : 0 ≤ bI P ∧ bI P ≤ 1 := by unfold bI; split <;> decide
theorem bI_rg (P : Prop) [Decidable P] : -2147483648 ≤ bI P ∧ bI P ≤ 2147483647 := by unfold bI; split <;> decide
theorem bI_z {P : Prop} [Decidable P] (h : bI P = 0) : ¬ P := fun hp => absurd h (by unfold bI; rw [if_pos hp]; decide)
theorem bI_n {P : Prop} [Decidable P] (h : bI P ≠ 0) : P := Decidable.byContradiction fun hp => h (by unfold bI; rw [if_neg hp])
theorem bI_t {P : Prop} [Decidable P] (h : P) : bI P = 1 := if_pos h
theorem bI_f {P : Prop} [Decidable P] (h : ¬ P) : bI P = 0 := if_neg h
theorem zlen {n : Nat} : Int32.ofNat n = zI (n : Int) := (Int32.ofInt_eq_ofNat).symm
theorem zset_map {w : va_W} {L : List Nat} {k a : Nat} {e0 e : va_E} (hk : w[k]? = some (a, e0)) (hw : w.map Prod.fst = L) : (w.set k (a, e)).map Prod.fst = L := by
  subst hw
  rw [List.map_set]
  apply List.ext_getElem?
  intro i
  rw [List.getElem?_set]
  split
  · rename_i h
    subst h
    split
    · rw [List.getElem?_map, hk]; rfl
    · rename_i h2
      rw [List.getElem?_eq_none (by omega)]
  · rfl
theorem zset_at {w : va_W} {k : Nat} {x y : Nat × va_E} (hk : w[k]? = some x) : (w.set k y)[k]? = some y := by
  rw [List.getElem?_set, if_pos rfl, if_pos (List.getElem?_eq_some_iff.mp hk).1]
set_option maxHeartbeats 4000000 in
set_option maxRecDepth 100000 in
/-- Arrays.fill(int[], int) -/
theorem kJ7_fill (l : Launch) (D : va_G) {tys : List (ClassId × FieldType)} {w : va_W} {L : List Nat} (k t : Nat) {a : Nat} {cA : ClassId} {n : Nat} {f : Int → Int} (v : Int) (hk : w[k]? = some (a, .inl (cA, n, .inl (ar f)))) (ht : tys[t]? = some (cA, .int)) (hN : L.Nodup) (hw : w.map Prod.fst = L) (hn : n ≤ 65536) : zM l yJ7_fill_53178 wsJ7_fill_53178 ({ frames := 0, cells := 0, slots := 0, locals := 0 }) D tys [.ref a, .int (zI v)] w (w.set k (a, .inl (cA, n, .inl (ar (fun j => if 0 ≤ j ∧ j < (n : Int) then v else f j))))) none L := by
  refine Met.ofW (cc := cJ7_fill_53178) (maxL := 4) (ret := none) (by decide) rfl ?_
  intro p0 e s m args below meth c s₁ B hml hv
  obtain ⟨hav, hP, hK⟩ := hv
  have hx := B.exec
  have hb := B.bytes
  have hr := B.returns
  have hlocks := B.notSynchronized
  have hA : ∀ a ∈ L, (fun a => a ∈ L) a := fun _ h => h
  have hl := lv_entry ([.ref a, .int (zI v)]) (n := 4) (Nat.le_of_ble_eq_true rfl)
  have hE : entryFrame m args 4 = F0 m 0 ((lg_sl ([.ref a, .int (zI v)]) ++ List.replicate (4 - (lg_sl ([.ref a, .int (zI v)])).length) Slot.unset).toArray) [] := by rw [hav]; exact lg_entry_eq m _ _
  obtain ⟨w2, hw2⟩ : ∃ w2, w2 = fun i : Nat => w.set k (a, .inl (cA, n, .inl (ar (fun j => if 0 ≤ j ∧ j < (i : Int) then v else f j)))) := ⟨_, rfl⟩
  obtain ⟨Q0, hQ0⟩ : ∃ Q0, Q0 = MQ below (zQ D (w.set k (a, .inl (cA, n, .inl (ar (fun j => if 0 ≤ j ∧ j < (n : Int) then v else f j))))) none L) args s 0 0 (fun a => a ∈ L) := ⟨_, rfl⟩
  show W p0 l e ({ frames := 0, cells := 0, slots := 0, locals := 0 }) s m args below meth c s.heap [] 0 0 (MQ below (zQ D (w.set k (a, .inl (cA, n, .inl (ar (fun j => if 0 ≤ j ∧ j < (n : Int) then v else f j))))) none L) args s 0 0 (fun a => a ∈ L)) _
  rw [hE, ← hQ0]
  have hS : va_S (fun a => a ∈ L) s.heap s.heap [] := va_S.rf
  generalize hH0 : s.heap = H at hP ⊢
  have hS : va_S (fun a => a ∈ L) s.heap H [] := by rw [hH0] at hS ⊢; exact hS
  generalize (lg_sl ([.ref a, .int (zI v)]) ++ List.replicate (4 - (lg_sl ([.ref a, .int (zI v)])).length) Slot.unset).toArray = ls at hl ⊢
  have hl : lv_has ls 4 [(0, .ref a), (1, .int (zI v))] := hl
  have L5 : ∀ (k0 i : Nat), i ≤ n → n - i < k0 → ∀ (H : Heap) (locs : List Loc) (ls : Array Slot), va_P D vwCl (w2 i) H → va_S (fun a => a ∈ L) s.heap H locs → lv_has ls 4 [(3, .int (zI (n : Int))), (2, .int (zI (i : Int))), (0, .ref a), (1, .int (zI v))] → W p0 l e ({ frames := 0, cells := 0, slots := 0, locals := 0 }) s m args below meth c H locs 0 0 Q0 (F0 m 5 ls []) := by
    intro k0
    induction k0 with
    | zero => intro i h1 h2; omega
    | succ k0 ih =>
      intro i hi hk0 H locs ls hP hS hl
      refine lv_iload_n hx hb dJ7_fill_53178_5 rfl (lv_at hl 1 rfl) ?_
      refine lv_iload_n hx hb dJ7_fill_53178_6 rfl (lv_at hl 0 rfl) ?_
      refine zr_icmp_ge (tgt := 20) hx hb dJ7_fill_53178_7 (by decide) ⟨by omega, by omega⟩ ⟨by omega, by omega⟩ (fun h => ?_) (fun h => ?_)
      · have e1 : i = n := by omega
        rw [hw2, e1] at hP
        rw [hQ0]
        exact zret_v hx hb hr hlocks hP hS dJ7_fill_53178_20
      · rw [hw2] at hP
        have hP : va_P D vwCl (w.set k (a, .inl (cA, n, .inl (ar (fun j => if 0 ≤ j ∧ j < (i : Int) then v else f j))))) H := hP
        refine lv_aload_n hx hb dJ7_fill_53178_10 rfl (lv_at hl 2 rfl) ?_
        refine lv_iload_n hx hb dJ7_fill_53178_11 rfl (lv_at hl 1 rfl) ?_
        refine lv_iload_n hx hb dJ7_fill_53178_12 rfl (lv_at hl 3 rfl) ?_
        refine zr_iast (f := fun j => if 0 ≤ j ∧ j < (i : Int) then v else f j) (n := n) hx hb hK hP hN (zset_map hk hw) hA hS k t (zset_at hk) ht hn (i := (i : Int)) (x := v) (by omega) (by omega) dJ7_fill_53178_13 (fun H locs hP hS => ?_)
        rw [List.set_set] at hP
        have e2 : up (fun j => if 0 ≤ j ∧ j < (i : Int) then v else f j) (i : Int) v = fun j => if 0 ≤ j ∧ j < ((i + 1 : Nat) : Int) then v else f j := by
          funext j
          unfold up
          by_cases hj : j = (i : Int)
          · rw [if_pos hj, if_pos (by omega)]
          · rw [if_neg hj]
            show (if 0 ≤ j ∧ j < (i : Int) then v else f j) = _
            by_cases h2 : 0 ≤ j ∧ j < (i : Int)
            · rw [if_pos h2, if_pos (by omega)]
            · rw [if_neg h2, if_neg (by omega)]
        rw [e2] at hP
        refine zr_iinc (v := (i : Int) + 1) (lv' := [(2, .int (zI ((i : Int) + 1))), (3, .int (zI (n : Int))), (0, .ref a), (1, .int (zI v))]) hx hb dJ7_fill_53178_14 hl (k := 1) rfl rfl (by decide) rfl (fun ls hl => ?_)
        refine lv_goto (tgt := 5) hx hb dJ7_fill_53178_17 (by decide) ?_
        exact ih (i + 1) (by omega) (by omega) _ _ _ (by rw [hw2]; exact hP) hS (lv_sub hl [1, 0, 2, 3] rfl)
  refine zr_iconst hx hb dJ7_fill_53178_0 ?_
  refine lv_istore_n (lv' := [(2, .int (zI 0)), (0, .ref a), (1, .int (zI v))]) hx hb dJ7_fill_53178_1 rfl hl (by decide) rfl (fun ls hl => ?_)
  refine lv_aload_n hx hb dJ7_fill_53178_2 rfl (lv_at hl 1 rfl) ?_
  refine va_alen (v := zI (n : Int)) hx hb hK hP k t hk ht zlen dJ7_fill_53178_3 ?_
  refine lv_istore_n (lv' := [(3, .int (zI (n : Int))), (2, .int (zI 0)), (0, .ref a), (1, .int (zI v))]) hx hb dJ7_fill_53178_4 rfl hl (by decide) rfl (fun ls hl => ?_)
  refine L5 (n + 1) 0 (Nat.zero_le _) (by omega) _ _ _ ?_ hS hl
  rw [hw2]
  exact zcg hP k hk (fun j h0 h1 => (if_neg (by omega)).symm)
