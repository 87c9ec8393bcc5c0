/-! whole numbers under the machine's 32-bit ones -/
def zI (z : Int) : Int32 := Int32.ofInt z
def ar (f : Int → Int) : Nat → Int32 := fun j => zI (f (j : Int))
def up (f : Int → Int) (k v : Int) : Int → Int := fun j => if j = k then v else f j
theorem up_s (f : Int → Int) (k v : Int) : up f k v k = v := by simp [up]
theorem up_n (f : Int → Int) {k v j : Int} (h : j ≠ k) : up f k v j = f j := by simp [up, h]
theorem zI_add (a b : Int) : zI a + zI b = zI (a + b) := (Int32.ofInt_add a b).symm
theorem zI_sub (a b : Int) : zI a - zI b = zI (a - b) := (Int32.ofInt_sub a b).symm
theorem zI_mul (a b : Int) : zI a * zI b = zI (a * b) := (Int32.ofInt_mul a b).symm
theorem zI_toInt {a : Int} (h : -2147483648 ≤ a ∧ a ≤ 2147483647) : (zI a).toInt = a := Int32.toInt_ofInt_of_le (by omega) (by omega)
theorem zI_le {a b : Int} (ha : -2147483648 ≤ a ∧ a ≤ 2147483647) (hb : -2147483648 ≤ b ∧ b ≤ 2147483647) : zI a ≤ zI b ↔ a ≤ b := by
  rw [Int32.le_iff_toInt_le, zI_toInt ha, zI_toInt hb]
theorem zI_lt {a b : Int} (ha : -2147483648 ≤ a ∧ a ≤ 2147483647) (hb : -2147483648 ≤ b ∧ b ≤ 2147483647) : zI a < zI b ↔ a < b := by
  rw [Int32.lt_iff_toInt_lt, zI_toInt ha, zI_toInt hb]
theorem zI_eq {a b : Int} (ha : -2147483648 ≤ a ∧ a ≤ 2147483647) (hb : -2147483648 ≤ b ∧ b ≤ 2147483647) : zI a = zI b ↔ a = b := by
  rw [← Int32.toInt_inj, zI_toInt ha, zI_toInt hb]
theorem zI_of (x : Int32) : x = zI x.toInt := (Int32.ofInt_toInt x).symm
theorem zI_rg (x : Int32) : -2147483648 ≤ x.toInt ∧ x.toInt ≤ 2147483647 := by
  have h1 := Int32.toInt_lt x
  have h2 := Int32.le_toInt x
  omega
theorem zI_0 : zI 0 = 0 := rfl
theorem zI_cl {a : Int} (h0 : 0 ≤ a) (h1 : a ≤ 2147483647) : (zI a).toNatClampNeg = a.toNat := Int32.toNatClampNeg_ofInt_of_le (by omega) (by omega)
theorem zI_in {a : Int} {n : Nat} (h0 : 0 ≤ a) (h1 : a < (n : Int)) (hn : n ≤ 65536) : vp_in (zI a) n := by
  rw [vp_in_iff, zI_toInt (by omega)]
  exact ⟨h0, h1⟩
theorem z_mmax {x y : Int} (h1 : -2147483648 ≤ x ∧ x ≤ 2147483647) (h2 : -2147483648 ≤ y ∧ y ≤ 2147483647) : (if zI x < zI y then zI y else zI x) = zI (max x y) := by
  by_cases h : x < y
  · rw [if_pos ((zI_lt h1 h2).mpr h), Int.max_eq_right (by omega)]
  · rw [if_neg (fun h' => h ((zI_lt h1 h2).mp h')), Int.max_eq_left (by omega)]
theorem z_mmin {x y : Int} (h1 : -2147483648 ≤ x ∧ x ≤ 2147483647) (h2 : -2147483648 ≤ y ∧ y ≤ 2147483647) : (if zI y < zI x then zI y else zI x) = zI (min x y) := by
  by_cases h : y < x
  · rw [if_pos ((zI_lt h2 h1).mpr h), Int.min_eq_right (by omega)]
  · rw [if_neg (fun h' => h ((zI_lt h2 h1).mp h')), Int.min_eq_left (by omega)]
theorem ar_at {f : Int → Int} {a : Int} (h0 : 0 ≤ a) (h1 : a ≤ 65536) : ar f (zI a).toNatClampNeg = zI (f a) := by
  rw [zI_cl h0 (by omega)]
  show zI (f (a.toNat : Int)) = _
  rw [Int.toNat_of_nonneg h0]
theorem ar_up {f : Int → Int} {a v : Int} (h0 : 0 ≤ a) (h1 : a ≤ 65536) : upd (ar f) (zI a).toNatClampNeg (zI v) = ar (up f a v) := by
  rw [zI_cl h0 (by omega)]
  funext j
  show (if j = a.toNat then zI v else zI (f j)) = zI (if (j : Int) = a then v else f j)
  by_cases h : j = a.toNat
  · rw [if_pos h, if_pos (by omega)]
  · rw [if_neg h, if_neg (by omega)]
/-- the addresses of a world are apart -/
theorem zD {A : Nat → Prop} {w : va_W} {L : List Nat} (hN : L.Nodup) (hw : w.map Prod.fst = L) (hA : ∀ a ∈ L, A a) : va_D A w := by
  subst hw
  refine ⟨fun i j p q hi hj hpq => ?_, fun k q hk => hA _ (List.mem_map.mpr ⟨q, List.mem_of_getElem? hk, rfl⟩)⟩
  have h1 : (w.map Prod.fst)[i]? = some p.1 := by rw [List.getElem?_map, hi]; rfl
  have h2 : (w.map Prod.fst)[j]? = some q.1 := by rw [List.getElem?_map, hj]; rfl
  have hi' : i < (w.map Prod.fst).length := (List.getElem?_eq_some_iff.mp h1).1
  exact (List.getElem?_inj hi' hN).mp (h1.trans (by rw [hpq]; exact h2.symm))
theorem zkeep {D : va_G} {w : va_W} {L : List Nat} {H H1 : Heap} (h : va_P D vwCl w H) (hk : ∀ q : Nat, q < H.size → q ∉ L → H1[q]? = H[q]?) (hL : ∀ a ∈ w.map Prod.fst, a ∉ L) : va_P D vwCl w H1 := fun k q hq =>
  (h k q hq).kept (hk q.1 (h k q hq).lt (hL q.1 (List.mem_map.mpr ⟨q, List.mem_of_getElem? hq, rfl⟩)))
section ZL
variable {p : Program} {l : Launch} {e : Env} {R : Room} {s : State} {m : MethodId} {args : Array Value} {below : List Frame} {meth : Method} {c : Code} {H : Heap} {locs : List Loc} {cells slots : Nat} {Q : State → Prop}
variable {pc : Nat} {ls : Array Slot} {rest : List Value} {cc : ByteArray}
theorem zr_iconst (hx : p.tables.exec = Jvm.exec) (hb : c.code = cc) {n : Int} (hdg : decode cc pc = .ok (.iconst n, 1)) (k : W p l e R s m args below meth c H locs cells slots Q (F0 m (pc + 1) ls (.int (zI n) :: rest))) : W p l e R s m args below meth c H locs cells slots Q (F0 m pc ls (rest)) := lv_iconst hx hb hdg rfl k
theorem zr_bipush (hx : p.tables.exec = Jvm.exec) (hb : c.code = cc) {n : Int} (hdg : decode cc pc = .ok (.bipush n, 2)) (hn : (Int8.ofInt n).toInt32 = zI n) (k : W p l e R s m args below meth c H locs cells slots Q (F0 m (pc + 2) ls (.int (zI n) :: rest))) : W p l e R s m args below meth c H locs cells slots Q (F0 m pc ls (rest)) := lv_bipush hx hb hdg hn k
theorem zr_sipush (hx : p.tables.exec = Jvm.exec) (hb : c.code = cc) {n : Int} (hdg : decode cc pc = .ok (.sipush n, 3)) (hn : (Int16.ofInt n).toInt32 = zI n) (k : W p l e R s m args below meth c H locs cells slots Q (F0 m (pc + 3) ls (.int (zI n) :: rest))) : W p l e R s m args below meth c H locs cells slots Q (F0 m pc ls (rest)) := lv_sipush hx hb hdg hn k
theorem zr_iadd (hx : p.tables.exec = Jvm.exec) (hb : c.code = cc) {x y v : Int} (hv : x + y = v) (hdg : decode cc pc = .ok (.iadd, 1)) (k : W p l e R s m args below meth c H locs cells slots Q (F0 m (pc + 1) ls (.int (zI v) :: rest))) : W p l e R s m args below meth c H locs cells slots Q (F0 m pc ls (.int (zI y) :: .int (zI x) :: rest)) := lv_iadd hx hb hdg (by rw [zI_add, hv]; exact k)
theorem zr_isub (hx : p.tables.exec = Jvm.exec) (hb : c.code = cc) {x y v : Int} (hv : x - y = v) (hdg : decode cc pc = .ok (.isub, 1)) (k : W p l e R s m args below meth c H locs cells slots Q (F0 m (pc + 1) ls (.int (zI v) :: rest))) : W p l e R s m args below meth c H locs cells slots Q (F0 m pc ls (.int (zI y) :: .int (zI x) :: rest)) := lv_isub hx hb hdg (by rw [zI_sub, hv]; exact k)
theorem zr_imul (hx : p.tables.exec = Jvm.exec) (hb : c.code = cc) {x y v : Int} (hv : x * y = v) (hdg : decode cc pc = .ok (.imul, 1)) (k : W p l e R s m args below meth c H locs cells slots Q (F0 m (pc + 1) ls (.int (zI v) :: rest))) : W p l e R s m args below meth c H locs cells slots Q (F0 m pc ls (.int (zI y) :: .int (zI x) :: rest)) := lv_imul hx hb hdg (by rw [zI_mul, hv]; exact k)
theorem zr_iinc (hx : p.tables.exec = Jvm.exec) (hb : c.code = cc) {i nL k : Nat} {n x v : Int} {lv lv' : List (Nat × Value)} (hdg : decode cc pc = .ok (.iinc i n, 3)) (h : lv_has ls nL lv) (hk : lv[k]? = some (i, .int (zI x))) (hv : x + n = v) (hn : i < nL) (hl : (i, Value.int (zI v)) :: lv.filter (fun q => !(q.1 == i) && !(q.1 + 1 == i && q.2.category == 2)) = lv') (kk : ∀ ls' : Array Slot, lv_has ls' nL lv' → W p l e R s m args below meth c H locs cells slots Q (F0 m (pc + 3) ls' rest)) : W p l e R s m args below meth c H locs cells slots Q (F0 m pc ls (rest)) := lv_iinc (v := zI v) hx hb hdg h hk (by rw [← hv]; exact zI_add x n) hn hl kk
theorem zr_icmp_eq (hx : p.tables.exec = Jvm.exec) (hb : c.code = cc) {x y : Int} {off : Int} {tgt : Nat} (hdg : decode cc pc = .ok (.if_icmp .eq off, 3)) (ht : (pc : Int) + off = (tgt : Int)) (h1 : -2147483648 ≤ x ∧ x ≤ 2147483647) (h2 : -2147483648 ≤ y ∧ y ≤ 2147483647) (kt : x = y → W p l e R s m args below meth c H locs cells slots Q (F0 m tgt ls rest)) (kf : x ≠ y → W p l e R s m args below meth c H locs cells slots Q (F0 m (pc + 3) ls rest)) : W p l e R s m args below meth c H locs cells slots Q (F0 m pc ls (.int (zI y) :: .int (zI x) :: rest)) := lv_icmp_eq hx hb hdg ht (fun h => kt ((zI_eq h1 h2).mp h)) (fun h => kf (fun h' => h ((zI_eq h1 h2).mpr h')))
theorem zr_if_eq (hx : p.tables.exec = Jvm.exec) (hb : c.code = cc) {x : Int} {off : Int} {tgt : Nat} (hdg : decode cc pc = .ok (.ifCond .eq off, 3)) (ht : (pc : Int) + off = (tgt : Int)) (h1 : -2147483648 ≤ x ∧ x ≤ 2147483647) (kt : x = 0 → W p l e R s m args below meth c H locs cells slots Q (F0 m tgt ls rest)) (kf : x ≠ 0 → W p l e R s m args below meth c H locs cells slots Q (F0 m (pc + 3) ls rest)) : W p l e R s m args below meth c H locs cells slots Q (F0 m pc ls (.int (zI x) :: rest)) := lv_if_eq hx hb hdg ht (fun h => kt ((zI_eq (a := x) (b := 0) h1 ⟨by decide, by decide⟩).mp h)) (fun h => kf (fun h' => h ((zI_eq (a := x) (b := 0) h1 ⟨by decide, by decide⟩).mpr h')))
theorem zr_icmp_ne (hx : p.tables.exec = Jvm.exec) (hb : c.code = cc) {x y : Int} {off : Int} {tgt : Nat} (hdg : decode cc pc = .ok (.if_icmp .ne off, 3)) (ht : (pc : Int) + off = (tgt : Int)) (h1 : -2147483648 ≤ x ∧ x ≤ 2147483647) (h2 : -2147483648 ≤ y ∧ y ≤ 2147483647) (kt : x ≠ y → W p l e R s m args below meth c H locs cells slots Q (F0 m tgt ls rest)) (kf : x = y → W p l e R s m args below meth c H locs cells slots Q (F0 m (pc + 3) ls rest)) : W p l e R s m args below meth c H locs cells slots Q (F0 m pc ls (.int (zI y) :: .int (zI x) :: rest)) := lv_icmp_ne hx hb hdg ht (fun h => kt (fun h' => h ((zI_eq h1 h2).mpr h'))) (fun h => kf ((zI_eq h1 h2).mp h))
theorem zr_if_ne (hx : p.tables.exec = Jvm.exec) (hb : c.code = cc) {x : Int} {off : Int} {tgt : Nat} (hdg : decode cc pc = .ok (.ifCond .ne off, 3)) (ht : (pc : Int) + off = (tgt : Int)) (h1 : -2147483648 ≤ x ∧ x ≤ 2147483647) (kt : x ≠ 0 → W p l e R s m args below meth c H locs cells slots Q (F0 m tgt ls rest)) (kf : x = 0 → W p l e R s m args below meth c H locs cells slots Q (F0 m (pc + 3) ls rest)) : W p l e R s m args below meth c H locs cells slots Q (F0 m pc ls (.int (zI x) :: rest)) := lv_if_ne hx hb hdg ht (fun h => kt (fun h' => h ((zI_eq (a := x) (b := 0) h1 ⟨by decide, by decide⟩).mpr h'))) (fun h => kf ((zI_eq (a := x) (b := 0) h1 ⟨by decide, by decide⟩).mp h))
theorem zr_icmp_lt (hx : p.tables.exec = Jvm.exec) (hb : c.code = cc) {x y : Int} {off : Int} {tgt : Nat} (hdg : decode cc pc = .ok (.if_icmp .lt off, 3)) (ht : (pc : Int) + off = (tgt : Int)) (h1 : -2147483648 ≤ x ∧ x ≤ 2147483647) (h2 : -2147483648 ≤ y ∧ y ≤ 2147483647) (kt : x < y → W p l e R s m args below meth c H locs cells slots Q (F0 m tgt ls rest)) (kf : y ≤ x → W p l e R s m args below meth c H locs cells slots Q (F0 m (pc + 3) ls rest)) : W p l e R s m args below meth c H locs cells slots Q (F0 m pc ls (.int (zI y) :: .int (zI x) :: rest)) := lv_icmp_lt hx hb hdg ht (fun h => kt ((zI_lt h1 h2).mp h)) (fun h => kf (by have h' := mt (zI_lt h1 h2).mpr h; omega))
theorem zr_if_lt (hx : p.tables.exec = Jvm.exec) (hb : c.code = cc) {x : Int} {off : Int} {tgt : Nat} (hdg : decode cc pc = .ok (.ifCond .lt off, 3)) (ht : (pc : Int) + off = (tgt : Int)) (h1 : -2147483648 ≤ x ∧ x ≤ 2147483647) (kt : x < 0 → W p l e R s m args below meth c H locs cells slots Q (F0 m tgt ls rest)) (kf : 0 ≤ x → W p l e R s m args below meth c H locs cells slots Q (F0 m (pc + 3) ls rest)) : W p l e R s m args below meth c H locs cells slots Q (F0 m pc ls (.int (zI x) :: rest)) := lv_if_lt hx hb hdg ht (fun h => kt ((zI_lt (a := x) (b := 0) h1 ⟨by decide, by decide⟩).mp h)) (fun h => kf (by have h' := mt (zI_lt (a := x) (b := 0) h1 ⟨by decide, by decide⟩).mpr h; omega))
theorem zr_icmp_ge (hx : p.tables.exec = Jvm.exec) (hb : c.code = cc) {x y : Int} {off : Int} {tgt : Nat} (hdg : decode cc pc = .ok (.if_icmp .ge off, 3)) (ht : (pc : Int) + off = (tgt : Int)) (h1 : -2147483648 ≤ x ∧ x ≤ 2147483647) (h2 : -2147483648 ≤ y ∧ y ≤ 2147483647) (kt : y ≤ x → W p l e R s m args below meth c H locs cells slots Q (F0 m tgt ls rest)) (kf : x < y → W p l e R s m args below meth c H locs cells slots Q (F0 m (pc + 3) ls rest)) : W p l e R s m args below meth c H locs cells slots Q (F0 m pc ls (.int (zI y) :: .int (zI x) :: rest)) := lv_icmp_ge hx hb hdg ht (fun h => kt ((zI_le h2 h1).mp h)) (fun h => kf (by have h' := mt (zI_le h2 h1).mpr h; omega))
theorem zr_if_ge (hx : p.tables.exec = Jvm.exec) (hb : c.code = cc) {x : Int} {off : Int} {tgt : Nat} (hdg : decode cc pc = .ok (.ifCond .ge off, 3)) (ht : (pc : Int) + off = (tgt : Int)) (h1 : -2147483648 ≤ x ∧ x ≤ 2147483647) (kt : 0 ≤ x → W p l e R s m args below meth c H locs cells slots Q (F0 m tgt ls rest)) (kf : x < 0 → W p l e R s m args below meth c H locs cells slots Q (F0 m (pc + 3) ls rest)) : W p l e R s m args below meth c H locs cells slots Q (F0 m pc ls (.int (zI x) :: rest)) := lv_if_ge hx hb hdg ht (fun h => kt ((zI_le (a := 0) (b := x) ⟨by decide, by decide⟩ h1).mp h)) (fun h => kf (by have h' := mt (zI_le (a := 0) (b := x) ⟨by decide, by decide⟩ h1).mpr h; omega))
theorem zr_icmp_gt (hx : p.tables.exec = Jvm.exec) (hb : c.code = cc) {x y : Int} {off : Int} {tgt : Nat} (hdg : decode cc pc = .ok (.if_icmp .gt off, 3)) (ht : (pc : Int) + off = (tgt : Int)) (h1 : -2147483648 ≤ x ∧ x ≤ 2147483647) (h2 : -2147483648 ≤ y ∧ y ≤ 2147483647) (kt : y < x → W p l e R s m args below meth c H locs cells slots Q (F0 m tgt ls rest)) (kf : x ≤ y → W p l e R s m args below meth c H locs cells slots Q (F0 m (pc + 3) ls rest)) : W p l e R s m args below meth c H locs cells slots Q (F0 m pc ls (.int (zI y) :: .int (zI x) :: rest)) := lv_icmp_gt hx hb hdg ht (fun h => kt ((zI_lt h2 h1).mp h)) (fun h => kf (by have h' := mt (zI_lt h2 h1).mpr h; omega))
theorem zr_if_gt (hx : p.tables.exec = Jvm.exec) (hb : c.code = cc) {x : Int} {off : Int} {tgt : Nat} (hdg : decode cc pc = .ok (.ifCond .gt off, 3)) (ht : (pc : Int) + off = (tgt : Int)) (h1 : -2147483648 ≤ x ∧ x ≤ 2147483647) (kt : 0 < x → W p l e R s m args below meth c H locs cells slots Q (F0 m tgt ls rest)) (kf : x ≤ 0 → W p l e R s m args below meth c H locs cells slots Q (F0 m (pc + 3) ls rest)) : W p l e R s m args below meth c H locs cells slots Q (F0 m pc ls (.int (zI x) :: rest)) := lv_if_gt hx hb hdg ht (fun h => kt ((zI_lt (a := 0) (b := x) ⟨by decide, by decide⟩ h1).mp h)) (fun h => kf (by have h' := mt (zI_lt (a := 0) (b := x) ⟨by decide, by decide⟩ h1).mpr h; omega))
theorem zr_icmp_le (hx : p.tables.exec = Jvm.exec) (hb : c.code = cc) {x y : Int} {off : Int} {tgt : Nat} (hdg : decode cc pc = .ok (.if_icmp .le off, 3)) (ht : (pc : Int) + off = (tgt : Int)) (h1 : -2147483648 ≤ x ∧ x ≤ 2147483647) (h2 : -2147483648 ≤ y ∧ y ≤ 2147483647) (kt : x ≤ y → W p l e R s m args below meth c H locs cells slots Q (F0 m tgt ls rest)) (kf : y < x → W p l e R s m args below meth c H locs cells slots Q (F0 m (pc + 3) ls rest)) : W p l e R s m args below meth c H locs cells slots Q (F0 m pc ls (.int (zI y) :: .int (zI x) :: rest)) := lv_icmp_le hx hb hdg ht (fun h => kt ((zI_le h1 h2).mp h)) (fun h => kf (by have h' := mt (zI_le h1 h2).mpr h; omega))
theorem zr_if_le (hx : p.tables.exec = Jvm.exec) (hb : c.code = cc) {x : Int} {off : Int} {tgt : Nat} (hdg : decode cc pc = .ok (.ifCond .le off, 3)) (ht : (pc : Int) + off = (tgt : Int)) (h1 : -2147483648 ≤ x ∧ x ≤ 2147483647) (kt : x ≤ 0 → W p l e R s m args below meth c H locs cells slots Q (F0 m tgt ls rest)) (kf : 0 < x → W p l e R s m args below meth c H locs cells slots Q (F0 m (pc + 3) ls rest)) : W p l e R s m args below meth c H locs cells slots Q (F0 m pc ls (.int (zI x) :: rest)) := lv_if_le hx hb hdg ht (fun h => kt ((zI_le (a := x) (b := 0) h1 ⟨by decide, by decide⟩).mp h)) (fun h => kf (by have h' := mt (zI_le (a := x) (b := 0) h1 ⟨by decide, by decide⟩).mpr h; omega))
variable {D : va_G} {tys : List (ClassId × FieldType)} {ws : va_W} {a : Nat} {A : Nat → Prop} {H0 : Heap} {cA : ClassId} {n : Nat} {f : Int → Int} {L : List Nat}
theorem zr_iald (hx : p.tables.exec = Jvm.exec) (hb : c.code = cc) (hK : va_K D vwCl tys s) (hP : va_P D vwCl ws H) (q0 t0 : Nat) (ha : ws[q0]? = some (a, .inl (cA, n, .inl (ar f)))) (ht : tys[t0]? = some (cA, .int)) (hn : n ≤ 65536) {i : Int} (h0 : 0 ≤ i) (h1 : i < (n : Int)) (hdg : decode cc pc = .ok (.iaload, 1)) (k : W p l e R s m args below meth c H locs cells slots Q (F0 m (pc + 1) ls (.int (zI (f i)) :: rest))) : W p l e R s m args below meth c H locs cells slots Q (F0 m pc ls (.int (zI i) :: .ref a :: rest)) := va_iald hx hb hK hP q0 t0 ha ht (zI_in h0 h1 hn) hdg (by rw [ar_at h0 (by omega)]; exact k)
theorem zr_zald (hx : p.tables.exec = Jvm.exec) (hb : c.code = cc) (hK : va_K D vwCl tys s) (hP : va_P D vwCl ws H) (q0 t0 : Nat) (ha : ws[q0]? = some (a, .inl (cA, n, .inl (ar f)))) (ht : tys[t0]? = some (cA, .boolean)) (hn : n ≤ 65536) {i : Int} (h0 : 0 ≤ i) (h1 : i < (n : Int)) (hdg : decode cc pc = .ok (.baload, 1)) (k : W p l e R s m args below meth c H locs cells slots Q (F0 m (pc + 1) ls (.int (zI (f i)) :: rest))) : W p l e R s m args below meth c H locs cells slots Q (F0 m pc ls (.int (zI i) :: .ref a :: rest)) := va_zald hx hb hK hP q0 t0 ha ht (zI_in h0 h1 hn) hdg (by rw [ar_at h0 (by omega)]; exact k)
theorem zr_iast (hx : p.tables.exec = Jvm.exec) (hb : c.code = cc) (hK : va_K D vwCl tys s) (hP : va_P D vwCl ws H) (hN : L.Nodup) (hw : ws.map Prod.fst = L) (hA : ∀ a ∈ L, A a) (hS : va_S A H0 H locs) (q0 t0 : Nat) (ha : ws[q0]? = some (a, .inl (cA, n, .inl (ar f)))) (ht : tys[t0]? = some (cA, .int)) (hn : n ≤ 65536) {i x : Int} (h0 : 0 ≤ i) (h1 : i < (n : Int)) (hdg : decode cc pc = .ok (.iastore, 1)) (kk : ∀ (H1 : Heap) (locs1 : List Loc), va_P D vwCl (ws.set q0 (a, .inl (cA, n, .inl (ar (up f i x))))) H1 → va_S A H0 H1 locs1 → W p l e R s m args below meth c H1 locs1 cells slots Q (F0 m (pc + 1) ls rest)) : W p l e R s m args below meth c H locs cells slots Q (F0 m pc ls (.int (zI x) :: .int (zI i) :: .ref a :: rest)) := va_iast hx hb hK hP (zD hN hw hA) hS q0 t0 ha ht (zI_in h0 h1 hn) hdg (fun H1 locs1 g1 _ g3 => kk H1 locs1 (by rw [ar_up h0 (by omega)] at g1; exact g1) g3)
theorem zr_zast (hx : p.tables.exec = Jvm.exec) (hb : c.code = cc) (hK : va_K D vwCl tys s) (hP : va_P D vwCl ws H) (hN : L.Nodup) (hw : ws.map Prod.fst = L) (hA : ∀ a ∈ L, A a) (hS : va_S A H0 H locs) (q0 t0 : Nat) (ha : ws[q0]? = some (a, .inl (cA, n, .inl (ar f)))) (ht : tys[t0]? = some (cA, .boolean)) (hn : n ≤ 65536) {i x : Int} (hb1 : vp_nar .boolean (zI x) = zI x) (h0 : 0 ≤ i) (h1 : i < (n : Int)) (hdg : decode cc pc = .ok (.bastore, 1)) (kk : ∀ (H1 : Heap) (locs1 : List Loc), va_P D vwCl (ws.set q0 (a, .inl (cA, n, .inl (ar (up f i x))))) H1 → va_S A H0 H1 locs1 → W p l e R s m args below meth c H1 locs1 cells slots Q (F0 m (pc + 1) ls rest)) : W p l e R s m args below meth c H locs cells slots Q (F0 m pc ls (.int (zI x) :: .int (zI i) :: .ref a :: rest)) := va_zast hx hb hK hP (zD hN hw hA) hS q0 t0 ha ht (zI_in h0 h1 hn) hdg (fun H1 locs1 g1 _ g3 => kk H1 locs1 (by rw [hb1, ar_up h0 (by omega)] at g1; exact g1) g3)
theorem zr_mmax (hx : p.tables.exec = Jvm.exec) (hb : c.code = cc) (hml : c.maxLocals = ls.size) {own : String} {index : Nat} (hown : s.vm.findClass own = some m.cls) (hlink : (Cond.methodLink own index Lib.Math.max.name).before args s = true) (hstat : (Cond.static Lib.Math.max.name).before args s = true) (hini : (Cond.initialized "java/lang/Math").before args s = true) (hcode : (Cond.code Lib.Math.max.name Lib.Math.max.code 2 (some .int)).before args s = true) (hframes : 1 ≤ R.frames) (hlocals : (rest.map fun v => v.category).sum + 13 ≤ R.locals) (hc : cells ≤ R.cells) (hs : slots ≤ R.slots) {x y : Int} (h1 : -2147483648 ≤ x ∧ x ≤ 2147483647) (h2 : -2147483648 ≤ y ∧ y ≤ 2147483647) (hdg : decode cc pc = .ok (.invokestatic index, 3)) (k : W p l e R s m args below meth c H locs cells slots Q (F0 m (pc + 3) ls (.int (zI (max x y)) :: rest))) : W p l e R s m args below meth c H locs cells slots Q (F0 m pc ls (.int (zI y) :: .int (zI x) :: rest)) := va_mmax hx hb hml hown hlink hstat hini hcode hframes hlocals hc hs hdg (by rw [z_mmax h1 h2]; exact k)
theorem zr_mmin (hx : p.tables.exec = Jvm.exec) (hb : c.code = cc) (hml : c.maxLocals = ls.size) {own : String} {index : Nat} (hown : s.vm.findClass own = some m.cls) (hlink : (Cond.methodLink own index Lib.Math.min.name).before args s = true) (hstat : (Cond.static Lib.Math.min.name).before args s = true) (hini : (Cond.initialized "java/lang/Math").before args s = true) (hcode : (Cond.code Lib.Math.min.name Lib.Math.min.code 2 (some .int)).before args s = true) (hframes : 1 ≤ R.frames) (hlocals : (rest.map fun v => v.category).sum + 13 ≤ R.locals) (hc : cells ≤ R.cells) (hs : slots ≤ R.slots) {x y : Int} (h1 : -2147483648 ≤ x ∧ x ≤ 2147483647) (h2 : -2147483648 ≤ y ∧ y ≤ 2147483647) (hdg : decode cc pc = .ok (.invokestatic index, 3)) (k : W p l e R s m args below meth c H locs cells slots Q (F0 m (pc + 3) ls (.int (zI (min x y)) :: rest))) : W p l e R s m args below meth c H locs cells slots Q (F0 m pc ls (.int (zI y) :: .int (zI x) :: rest)) := va_mmin hx hb hml hown hlink hstat hini hcode hframes hlocals hc hs hdg (by rw [z_mmin h1 h2]; exact k)
theorem zr_copyi (hx : p.tables.exec = Jvm.exec) (hb : c.code = cc) (hml : c.maxLocals = ls.size) {own : String} {index : Nat} (hown : s.vm.findClass own = some m.cls) (hlink : (Cond.methodLink own index arraycopyName).before args s = true) (hnat : (Cond.native arraycopyName).before args s = true) (hstat : (Cond.static arraycopyName).before args s = true) (hini : (Cond.initialized "java/lang/System").before args s = true)
    (hK : va_K D vwCl tys s) (hP : va_P D vwCl ws H) (hN : L.Nodup) (hw : ws.map Prod.fst = L) (hA : ∀ a ∈ L, A a) (hS : va_S A H0 H locs) (q0 t0 : Nat) (ha : ws[q0]? = some (a, .inl (cA, n, .inl (ar f)))) (ht : tys[t0]? = some (cA, .int)) (hn : n ≤ 65536)
    {sp dp k : Int} (h1 : 0 ≤ sp) (h2 : 0 ≤ dp) (h3 : 0 ≤ k) (h4 : sp + k ≤ (n : Int)) (h5 : dp + k ≤ (n : Int)) (hframes : 1 ≤ R.frames) (hlocals : (rest.map fun v => v.category).sum + (nativeFrameWords "java/lang/System" "arraycopy" 5 + 11) ≤ R.locals) (hdg : decode cc pc = .ok (.invokestatic index, 3))
    (kk : ∀ (H1 : Heap) (locs1 : List Loc), va_P D vwCl (ws.set q0 (a, .inl (cA, n, .inl (ar (fun j => if dp ≤ j ∧ j < dp + k then f (sp + (j - dp)) else f j))))) H1 → va_S A H0 H1 locs1 → W p l e R s m args below meth c H1 locs1 cells slots Q (F0 m (pc + 3) ls rest)) : W p l e R s m args below meth c H locs cells slots Q (F0 m pc ls (.int (zI k) :: .int (zI dp) :: .ref a :: .int (zI sp) :: .ref a :: rest)) := by
  have nl : ∀ z : Int, 0 ≤ z → z ≤ 65536 → ¬ zI z < 0 := fun z g1 g2 g3 => by
    have := (zI_lt (a := z) (b := 0) ⟨by omega, by omega⟩ ⟨by decide, by decide⟩).mp g3
    omega
  have e1 := zI_cl h1 (show sp ≤ 2147483647 by omega)
  have e2 := zI_cl h2 (show dp ≤ 2147483647 by omega)
  have e3 := zI_cl h3 (show k ≤ 2147483647 by omega)
  refine va_copyi hx hb hml hown hlink hnat hstat hini hK hP (zD hN hw hA) hS q0 q0 t0 t0 ha ha ht ht rfl (nl _ h1 (by omega)) (nl _ h2 (by omega)) (nl _ h3 (by omega)) (by rw [e1, e3]; omega) (by rw [e2, e3]; omega) (fun i hi => rfl) hframes hlocals hdg (fun H1 locs1 g1 _ g3 => kk H1 locs1 ?_ g3)
  have e : va_cpy (ar f) (ar f) (zI sp).toNatClampNeg (zI dp).toNatClampNeg (zI k).toNatClampNeg = ar (fun j => if dp ≤ j ∧ j < dp + k then f (sp + (j - dp)) else f j) := by
    rw [e1, e2, e3]
    funext j
    show (if dp.toNat ≤ j ∧ j < dp.toNat + k.toNat then zI (f ((sp.toNat + (j - dp.toNat) : Nat) : Int)) else zI (f (j : Int))) = zI (if dp ≤ (j : Int) ∧ (j : Int) < dp + k then f (sp + ((j : Int) - dp)) else f (j : Int))
    by_cases h : dp.toNat ≤ j ∧ j < dp.toNat + k.toNat
    · rw [if_pos h, if_pos (by omega), show ((sp.toNat + (j - dp.toNat) : Nat) : Int) = sp + ((j : Int) - dp) by omega]
    · rw [if_neg h, if_neg (by omega)]
  rw [e] at g1
  exact g1
end ZL
/-- a contract of a method that makes nothing: from the world w to the world w', the answer v; nothing outside L changes -/
def zM (l : Launch) (y : MethodName) (ws : List Cond) (rm : Room) (D : va_G) (tys : List (ClassId × FieldType)) (av : List Value) (w w' : va_W) (v : Option Value) (L : List Nat) : Prop :=
  Met l y ws rm (va_Pc av (fun U => va_P D vwCl w U.heap ∧ va_K D vwCl tys U)) (fun _ st o t => (o = .returned v ∧ va_P D vwCl w' t.heap) ∧ va_F (fun a => a ∈ L) st t) 0 0 (fun a => a ∈ L)
section ZC
variable {p : Program} {l : Launch} {e : Env} {R : Room} {s : State} {m : MethodId} {args : Array Value} {below : List Frame} {meth : Method} {c : Code} {H : Heap} {locs : List Loc} {cells slots : Nat} {Q : State → Prop}
variable {pc : Nat} {ls : Array Slot} {rest st0 As : List Value} {cc bytes : ByteArray} {D : va_G} {tys : List (ClassId × FieldType)} {w w' : va_W} {b : Nat} {A : Nat → Prop} {H0 : Heap} {L : List Nat} {v : Option Value}
variable {y : MethodName} {maxL nL index n : Nat} {ret : Option FieldType} {ws Ts : List Cond} {rm : Room} {own C : String}
theorem zblind {av : List Value} : FrameBlind (va_Pc av (fun U => va_P D vwCl w U.heap ∧ va_K D vwCl tys U)) := fun a U g mk q => by
  obtain ⟨q0, qP, qK⟩ := q
  exact ⟨q0, qP, va_K.moved (u := U) (U := U.calling g mk a) (Vm.Alike.refl U.vm) qK⟩
theorem zcall (hr : va_Run p l e R s m args below meth c H locs cells slots 0 0 (F0 m pc ls st0) rest (fun st o t => (o = .returned v ∧ va_P D vwCl w' t.heap) ∧ va_F (fun a => a ∈ L) st t) (fun a => a ∈ L)) (hS : va_S A H0 H locs) (hA : ∀ a ∈ L, A a)
    (kk : ∀ (H1 : Heap) (locs1 : List Loc), va_P D vwCl w' H1 → va_S A H0 H1 locs1 → H.size ≤ H1.size → (∀ q : Nat, q < H.size → q ∉ L → H1[q]? = H[q]?) → W p l e R s m args below meth c H1 locs1 cells slots Q (F0 m (pc + 3) ls (v.toList ++ rest))) : W p l e R s m args below meth c H locs cells slots Q (F0 m pc ls st0) := by
  intro T hT X
  obtain ⟨v', st₀, t, T', L', h0, X', hL, e1, e2, ⟨⟨hv, hp⟩, hz, hk⟩, st⟩ := hr T hT X
  cases hv
  rw [h0] at hz hk
  obtain ⟨t2, a1, b1⟩ := kk T'.heap (locs ++ L') (by rw [e1]; exact hp) ⟨Nat.le_trans hS.1 (by rw [e1]; exact hz), fun q h1 h2 => by rw [e1, hk q (Nat.lt_of_lt_of_le h1 hS.1) (fun z => h2 (hA q z))]; exact hS.2.1 q h1 h2, fun q hq => by
      rcases List.mem_append.mp hq with h | h
      · exact hS.2.2 q h
      · exact hA _ (hL q h)⟩ (by rw [e1]; exact hz) (fun q h1 h2 => by rw [e1]; exact hk q h1 h2) T' rfl X'
  exact ⟨t2, st t2 a1, b1⟩
/-- an instance call over the world at hand -/
theorem zcallV {b ci q0 : Nat} {fs : List Value} {cq : vw_C} (S : CallFix p m c cc nL s args Ts own) (hK : va_K D vwCl tys s) (hM : zM l y ws rm D tys (.ref b :: As) w w' v L) (cw : CallW R s args own cq.1 index y bytes maxL ret ws rm 0 0 n) (hP : va_P D vwCl w H) (hS : va_S A H0 H locs) (hA : ∀ a ∈ L, A a)
    (hc : vwCl[ci]? = some cq) (he : w[q0]? = some (b, .inr (ci, fs))) (hn : As.length = n) (hsz : ls.size = nL) (hst : st0 = As.reverse ++ .ref b :: rest) (hro : (rest.map fun v => v.category).sum ≤ 8) (hdg : decode cc pc = .ok (.invokevirtual index, 3)) (hf : cells ≤ R.cells ∧ slots ≤ R.slots)
    (kk : ∀ (H1 : Heap) (locs1 : List Loc), va_P D vwCl w' H1 → va_S A H0 H1 locs1 → H.size ≤ H1.size → (∀ q : Nat, q < H.size → q ∉ L → H1[q]? = H[q]?) → W p l e R s m args below meth c H1 locs1 cells slots Q (F0 m (pc + 3) ls (v.toList ++ rest))) : W p l e R s m args below meth c H locs cells slots Q (F0 m pc ls st0) :=
  zcall (va_runV (As := As) (rest := rest) S hM cw ⟨zblind, va_recv hK hP hc he, fun U hU hW => ⟨rfl, by rw [hU]; exact hP, va_K.moved hW.alike hK⟩⟩ rfl hn hsz hst (lv_room hro) hdg hf) hS hA kk
theorem zcallS (S : CallFix p m c cc nL s args Ts own) (hK : va_K D vwCl tys s) (hM : zM l y ws rm D tys As w w' v L) (cw : CallB R s args own index y bytes maxL ret ws rm 0 0 n ∧ (Cond.static y).before args s = true) (hP : va_P D vwCl w H) (hS : va_S A H0 H locs) (hA : ∀ a ∈ L, A a)
    (hn : As.length = n) (hsz : ls.size = nL) (hst : st0 = As.reverse ++ rest) (hro : (rest.map fun v => v.category).sum ≤ 8) (hdg : decode cc pc = .ok (.invokestatic index, 3)) (hf : cells ≤ R.cells ∧ slots ≤ R.slots)
    (kk : ∀ (H1 : Heap) (locs1 : List Loc), va_P D vwCl w' H1 → va_S A H0 H1 locs1 → H.size ≤ H1.size → (∀ q : Nat, q < H.size → q ∉ L → H1[q]? = H[q]?) → W p l e R s m args below meth c H1 locs1 cells slots Q (F0 m (pc + 3) ls (v.toList ++ rest))) : W p l e R s m args below meth c H locs cells slots Q (F0 m pc ls st0) :=
  zcall (va_runS (As := As) (rest := rest) S hM cw ⟨zblind, fun U hU hW => ⟨rfl, by rw [hU]; exact hP, va_K.moved hW.alike hK⟩⟩ rfl hn hsz hst (lv_room hro) hdg hf) hS hA kk
/-- a static call that needs no world -/
theorem zcallP (S : CallFix p m c cc nL s args Ts own) (hM : ∀ tys, zM l y ws rm D tys As [] [] v []) (hK : va_K D vwCl tys s) (cw : CallB R s args own index y bytes maxL ret ws rm 0 0 n ∧ (Cond.static y).before args s = true) (hP : va_P D vwCl w H) (hS : va_S A H0 H locs)
    (hn : As.length = n) (hsz : ls.size = nL) (hst : st0 = As.reverse ++ rest) (hro : (rest.map fun v => v.category).sum ≤ 8) (hdg : decode cc pc = .ok (.invokestatic index, 3)) (hf : cells ≤ R.cells ∧ slots ≤ R.slots)
    (kk : ∀ (H1 : Heap) (locs1 : List Loc), va_P D vwCl w H1 → va_S A H0 H1 locs1 → W p l e R s m args below meth c H1 locs1 cells slots Q (F0 m (pc + 3) ls (v.toList ++ rest))) : W p l e R s m args below meth c H locs cells slots Q (F0 m pc ls st0) :=
  zcallS S hK (hM tys) cw (fun k q h => by simp at h) hS (fun _ h => nomatch h) hn hsz hst hro hdg hf (fun H1 locs1 _ h2 _ h4 => kk H1 locs1 (zkeep hP h4 (fun _ _ h => nomatch h)) h2)
/-- the ends of such a method -/
abbrev zQ (D : va_G) (w' : va_W) (v : Option Value) (L : List Nat) : Array Value → State → Outcome → State → Prop := fun _ st o t => (o = .returned v ∧ va_P D vwCl w' t.heap) ∧ va_F (fun a => a ∈ L) st t
theorem zret_i {x z : Int} (hx : p.tables.exec = Jvm.exec) (hb : c.code = cc) (hr : meth.sig.returnType = some .int) (hlocks : meth.locks = false) (he : x = z) (hP : va_P D vwCl w' H) (hS : va_S (fun a => a ∈ L) s.heap H locs) (hdg : decode cc pc = .ok (.ireturn, 1)) :
    W p l e R s m args below meth c H locs cells slots (MQ below (zQ D w' (some (.int (zI z))) L) args s cells slots (fun a => a ∈ L)) (F0 m pc ls [.int (zI x)]) := by
  subst he
  exact W.iret hx hb hr (fun t ht _ => ⟨⟨rfl, by rw [ht]; exact hP⟩, hS.F ht⟩) hS.2.2 hdg hlocks
theorem zret_z {x z : Int} (hx : p.tables.exec = Jvm.exec) (hb : c.code = cc) (hr : meth.sig.returnType = some .boolean) (hlocks : meth.locks = false) (hn : narrow .boolean (.int (zI x)) = .int (zI x)) (he : x = z) (hP : va_P D vwCl w' H) (hS : va_S (fun a => a ∈ L) s.heap H locs) (hdg : decode cc pc = .ok (.ireturn, 1)) :
    W p l e R s m args below meth c H locs cells slots (MQ below (zQ D w' (some (.int (zI z))) L) args s cells slots (fun a => a ∈ L)) (F0 m pc ls [.int (zI x)]) := by
  subst he
  exact W.zret hx hb hr hn (fun t ht _ => ⟨⟨rfl, by rw [ht]; exact hP⟩, hS.F ht⟩) hS.2.2 hdg hlocks
theorem zret_l {x z : Int64} (hx : p.tables.exec = Jvm.exec) (hb : c.code = cc) (hr : meth.sig.returnType = some .long) (hlocks : meth.locks = false) (he : x = z) (hP : va_P D vwCl w' H) (hS : va_S (fun a => a ∈ L) s.heap H locs) (hdg : decode cc pc = .ok (.lreturn, 1)) :
    W p l e R s m args below meth c H locs cells slots (MQ below (zQ D w' (some (.long z)) L) args s cells slots (fun a => a ∈ L)) (F0 m pc ls [.long x]) := by
  subst he
  exact W.lret hx hb hr (fun t ht _ => ⟨⟨rfl, by rw [ht]; exact hP⟩, hS.F ht⟩) hS.2.2 hdg hlocks
theorem zret_v (hx : p.tables.exec = Jvm.exec) (hb : c.code = cc) (hr : meth.sig.returnType = none) (hlocks : meth.locks = false) (hP : va_P D vwCl w' H) (hS : va_S (fun a => a ∈ L) s.heap H locs) (hdg : decode cc pc = .ok (.return_, 1)) :
    W p l e R s m args below meth c H locs cells slots (MQ below (zQ D w' none L) args s cells slots (fun a => a ∈ L)) (F0 m pc ls []) :=
  W.vret hx hb hr (fun t ht _ => ⟨⟨rfl, by rw [ht]; exact hP⟩, hS.F ht⟩) hS.2.2 hdg hlocks
end ZC
theorem zn_bool {x : Int} (h : 0 ≤ x ∧ x ≤ 1) : narrow .boolean (.int (zI x)) = .int (zI x) := by
  have : x = 0 ∨ x = 1 := by omega
  rcases this with rfl | rfl <;> rfl
/-- sums and maxima of the first k -/
def smF (f : Int → Int) : Nat → Int
  | 0 => 0
  | k + 1 => smF f k + f (k : Int)
def mxF (f : Int → Int) : Nat → Int
  | 0 => 0
  | k + 1 => max (mxF f k) (f (k : Int))
theorem smF_s (f : Int → Int) (k : Nat) : smF f (k + 1) = smF f k + f (k : Int) := rfl
theorem mxF_s (f : Int → Int) (k : Nat) : mxF f (k + 1) = max (mxF f k) (f (k : Int)) := rfl
theorem smF_cg {f g : Int → Int} {k : Nat} (h : ∀ j : Int, 0 ≤ j → j < (k : Int) → f j = g j) : smF f k = smF g k := by
  induction k with
  | zero => rfl
  | succ k ih => rw [smF_s, smF_s, ih (fun j h0 h1 => h j h0 (by omega)), h k (by omega) (by omega)]
theorem mxF_cg {f g : Int → Int} {k : Nat} (h : ∀ j : Int, 0 ≤ j → j < (k : Int) → f j = g j) : mxF f k = mxF g k := by
  induction k with
  | zero => rfl
  | succ k ih => rw [mxF_s, mxF_s, ih (fun j h0 h1 => h j h0 (by omega)), h k (by omega) (by omega)]
theorem smF_bd {f : Int → Int} {k : Nat} {B : Int} (h : ∀ j : Int, 0 ≤ f j ∧ f j ≤ B) : 0 ≤ smF f k ∧ smF f k ≤ B * (k : Int) := by
  induction k with
  | zero => exact ⟨Int.le_refl 0, by show (0:Int) ≤ B * 0; omega⟩
  | succ k ih =>
    have := h k
    rw [smF_s]
    have e : B * ((k + 1 : Nat) : Int) = B * (k : Int) + B := by rw [Int.natCast_succ, Int.mul_add, Int.mul_one]
    omega
theorem mxF_bd {f : Int → Int} {k : Nat} {B : Int} (hB : 0 ≤ B) (h : ∀ j : Int, f j ≤ B) : 0 ≤ mxF f k ∧ mxF f k ≤ B := by
  induction k with
  | zero => exact ⟨Int.le_refl 0, hB⟩
  | succ k ih =>
    have := h k
    rw [mxF_s]
    omega
