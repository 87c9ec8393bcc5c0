/-! the reference's digest -/
def dcM (co da : Int → Int) (d0 : Int64) : Nat → Int64
  | 0 => d0
  | k + 1 => h31 (h31 (dcM co da d0 k) (co k)) (da k)
def dsP (pa sp : Int → Int) (n : Nat) (p : Int) (st : Int → Int) : Nat → Int → Int
  | 0 => st
  | k + 1 => goF pa sp n (dsP pa sp n p st k) p
def dkM (pa sp al : Int → Int) (n : Nat) (p : Int) (st : Int → Int) (d : Int64) : Nat → Int64
  | 0 => d
  | k + 1 => h31 (dkM pa sp al n p st d k) (smF (kinF al (goF pa sp n (dsP pa sp n p st k) p) ((k : Int) + 1)) n)
def dhM (pa sp al mo : Int → Int) (n : Nat) (td : Int) (d : Int64) (p : Int) : Int64 :=
  h31 (h31 (h31 (h31 (h31 (h31 (h31 d (al p)) (pa p)) (sp p)) (wsM mo n p td)) (smF (gtF (lM mo td p)) n)) (mxF (lM mo td p) n)) (flD (wT mo n td p))
def dsM (pa sp : Int → Int) (n : Nat) (st : Int → Int) : Nat → Int → Int
  | 0 => st
  | i + 1 => dsP pa sp n (i : Int) (dsM pa sp n st i) 4
def dqM (pa sp al mo : Int → Int) (n : Nat) (td : Int) (st : Int → Int) (d : Int64) : Nat → Int64
  | 0 => d
  | i + 1 => dkM pa sp al n (i : Int) (dsM pa sp n st i) (dhM pa sp al mo n td (dqM pa sp al mo n td st d i) (i : Int)) 4
def sdM (al mo : Int → Int) (n : Nat) (td wn : Int) : Int64 := h31 (h31 (h31 (h31 (h31 (h31 1931 n) (smF al n)) td) (mxF (wsZ mo n td) n)) (lgF (moS mo n td) n)) wn
def dgR (pa sp al co da mo st : Int → Int) (n : Nat) (td wn : Int) : Int64 :=
  dqM pa sp al mo n td st (dcM co da (sdM al mo n td wn) 12) n
theorem dsP_bd {pa sp : Int → Int} {n : Nat} {p : Int} {st : Int → Int} (h : ∀ j : Int, -1 ≤ st j ∧ st j ≤ 4) (k : Nat) : ∀ j : Int, -1 ≤ dsP pa sp n p st k j ∧ dsP pa sp n p st k j ≤ 4 := by
  induction k with
  | zero => exact h
  | succ k ih => exact goF_bd ih pa sp n p
theorem dsM_bd {pa sp : Int → Int} {n : Nat} {st : Int → Int} (h : ∀ j : Int, -1 ≤ st j ∧ st j ≤ 4) (k : Nat) : ∀ j : Int, -1 ≤ dsM pa sp n st k j ∧ dsM pa sp n st k j ≤ 4 := by
  induction k with
  | zero => exact h
  | succ k ih => exact dsP_bd ih 4
/-- a contract of a method that makes an array of its own -/
def zMN (l : Launch) (y : MethodName) (ws : List Cond) (rm : Room) (D : va_G) (tys : List (ClassId × FieldType)) (av : List Value) (w w' : va_W) (v : Option Value) (L : List Nat) (sz : Nat) : Prop :=
  Met l y ws rm (va_Pc av (fun U => U.heap.size = sz ∧ va_P D vwCl w U.heap ∧ va_K D vwCl tys U)) (zQ D w' v L) 1 6 (fun a => a ∈ L ∨ sz ≤ a)
section ZN
variable {p : Program} {l : Launch} {e : Env} {R : Room} {s : State} {m : MethodId} {args : Array Value} {below : List Frame} {meth : Method} {c : Code} {H : Heap} {locs : List Loc} {cells slots : Nat} {Q : State → Prop}
variable {pc : Nat} {ls : Array Slot} {rest st0 As : List Value} {cc bytes : ByteArray} {D : va_G} {tys : List (ClassId × FieldType)} {w w' : va_W} {A : Nat → Prop} {H0 : Heap} {L : List Nat} {v : Option Value} {sz : Nat}
theorem zret_lN {x z : Int64} (hsz : s.heap.size = sz) (hx : p.tables.exec = Jvm.exec) (hb : c.code = cc) (hr : meth.sig.returnType = some .long) (hlocks : meth.locks = false) (he : x = z) (hP : va_P D vwCl w' H) (hS : va_S (fun a => a ∈ L ∨ sz ≤ a) s.heap H locs) (hdg : decode cc pc = .ok (.lreturn, 1)) :
    W p l e R s m args below meth c H locs cells slots (MQ below (zQ D w' (some (.long z)) L) args s cells slots (fun a => a ∈ L ∨ sz ≤ a)) (F0 m pc ls [.long x]) := by
  subst he
  exact W.lret hx hb hr (fun t ht _ => ⟨⟨rfl, by rw [ht]; exact hP⟩, ⟨(hS.F ht).1, fun q h1 h2 => (hS.F ht).2 q h1 (fun h => h.elim h2 (fun h => by omega))⟩⟩) hS.2.2 hdg hlocks
theorem zapp0 {a b : va_W} (h1 : va_P D vwCl a H) (h2 : va_P D vwCl b H) : va_P D vwCl (a ++ b) H := va_P.app h1 h2
theorem zleft0 {a b : va_W} (h : va_P D vwCl (a ++ b) H) : va_P D vwCl a H := fun k q hk => h k q (by rw [List.getElem?_append_left (List.getElem?_eq_some_iff.mp hk).1]; exact hk)
theorem zright0 {a b : va_W} (h : va_P D vwCl (a ++ b) H) : va_P D vwCl b H := fun k q hk => h (a.length + k) q (by rw [List.getElem?_append_right (Nat.le_add_right _ _), Nat.add_sub_cancel_left]; exact hk)
/-- what is new lies apart -/
theorem znewD {w : va_W} {x : Nat × va_E} (h : va_D A (w ++ [x])) (hw : w.map Prod.fst = L) : x.1 ∉ L := by
  subst hw
  intro hm
  obtain ⟨y, hy, e⟩ := List.mem_map.mp hm
  obtain ⟨i, hi⟩ := List.mem_iff_getElem?.mp hy
  have hlt := (List.getElem?_eq_some_iff.mp hi).1
  have := h.1 i w.length y x (by rw [List.getElem?_append_left hlt]; exact hi) (by rw [List.getElem?_append_right (Nat.le_refl _), Nat.sub_self]; rfl) e
  omega
end ZN
set_option maxHeartbeats 4000000 in
set_option maxRecDepth 100000 in
theorem kX3_digest (l : Launch) (D : va_G) (cI cZ : ClassId) (q : Nat → Nat) (hN : (zLM q).Nodup) (pa : Int → Int) (sp : Int → Int) (al : Int → Int) (co : Int → Int) (da : Int → Int) (mo : Int → Int) (st : Int → Int) (mr : Int → Int) (th : Int) (n : Nat) (td : Int) (wn : Int) (hpa : ∀ j : Int, -1 ≤ pa j ∧ pa j ≤ 15) (hsp : ∀ j : Int, -1 ≤ sp j ∧ sp j ≤ 15) (hal : ∀ j : Int, 0 ≤ al j ∧ al j ≤ 1) (hco : ∀ j : Int, 0 ≤ co j ∧ co j ≤ 5) (hda : ∀ j : Int, 0 ≤ da j ∧ da j ≤ 60) (hst : ∀ j : Int, -1 ≤ st j ∧ st j ≤ 4) (hn : n ≤ 16) (hmo : ∀ j : Int, -1 ≤ mo j ∧ mo j ≤ 1000000) (htd : 0 ≤ td ∧ td ≤ 1000000) (hz : ∀ p : Int, 0 ≤ p → p < (n : Int) → ∀ t : Int, 180 ≤ t → wsM mo n p (td + t) = 0) (sz : Nat) : zMN l yX3_digest wsX3_digest ({ frames := 4, cells := 1, slots := 6, locals := 99 }) D [(cI, .int), (cZ, .boolean)] [.ref (q 0)] (wM cI cZ q pa sp al co da mo st mr th n td wn) (wM cI cZ q pa sp al co da mo (dsM pa sp n st n) mr 0 n td wn) (some (.long (dgR pa sp al co da mo st n td wn))) (zLM q) sz := by
  refine Met.ofW (cc := cX3_digest) (maxL := 8) (ret := (some .long)) (by decide) rfl ?_
  intro p0 e9 s9 m9 ag9 below meth c9 s₁ B hml hv
  obtain ⟨hav, hsz, hP, hK⟩ := hv
  have hx := B.exec
  have hb := B.bytes
  have hr := B.returns
  have hts := atoms_spec (ws := wsX3_digest) B.pre
  have hown : s9.vm.findClass RX3 = some m9.cls := findClass_of_methodNamed B.named
  have hlocks := B.notSynchronized
  have hA : ∀ a ∈ zLM q, (fun a => a ∈ zLM q ∨ sz ≤ a) a := fun _ h => Or.inl h
  have hin3 : ∀ w ∈ u_ws RX3 TX3 12, w ∈ wsX3_digest := by decide +kernel
  have hl := lv_entry ([.ref (q 0)]) (n := 8) (Nat.le_of_ble_eq_true rfl)
  have hE : entryFrame m9 ag9 8 = F0 m9 0 ((lg_sl ([.ref (q 0)]) ++ List.replicate (8 - (lg_sl ([.ref (q 0)])).length) Slot.unset).toArray) [] := by rw [hav]; exact lg_entry_eq m9 _ _
  obtain ⟨Q0, hQ0⟩ : ∃ Q0, Q0 = MQ below (zQ D (wM cI cZ q pa sp al co da mo (dsM pa sp n st n) mr 0 n td wn) (some (.long (dgR pa sp al co da mo st n td wn))) (zLM q)) ag9 s9 1 6 (fun a => a ∈ zLM q ∨ sz ≤ a) := ⟨_, rfl⟩
  show W p0 l e9 ({ frames := 4, cells := 1, slots := 6, locals := 99 }) s9 m9 ag9 below meth c9 s9.heap [] 0 0 (MQ below (zQ D (wM cI cZ q pa sp al co da mo (dsM pa sp n st n) mr 0 n td wn) (some (.long (dgR pa sp al co da mo st n td wn))) (zLM q)) ag9 s9 1 6 (fun a => a ∈ zLM q ∨ sz ≤ a)) _
  rw [hE, ← hQ0]
  have hS : va_S (fun a => a ∈ zLM q ∨ sz ≤ a) s9.heap s9.heap [] := va_S.rf
  generalize hH0 : s9.heap = H at hP ⊢
  have hS : va_S (fun a => a ∈ zLM q ∨ sz ≤ a) s9.heap H [] := by rw [hH0] at hS ⊢; exact hS
  generalize (lg_sl ([.ref (q 0)]) ++ List.replicate (8 - (lg_sl ([.ref (q 0)])).length) Slot.unset).toArray = ls at hl ⊢
  have hl : lv_has ls 8 [(0, .ref (q 0))] := hl
  refine lv_aload_n hx hb dX3_digest_0 rfl (lv_at hl 0 rfl) ?_
  refine zr_iconst hx hb dX3_digest_1 ?_
  refine va_put (D := D) (ci := 3) (v := .int (zI 0)) (ty := .int) (C := RX3) (T := TX3) (N := 12) hx hb hts hin3 tyX3 tyX3_ok nmX3 hown hK hP (zD hN rfl hA) hS 0 rfl rfl 0 (by decide) (hts (.fieldLink RX3 35 "MourningRibbonsModel" "thrown" "I") (by decide +kernel)) (fun _ h9 => h9) rfl (by decide +kernel) rfl rfl (Nat.le_of_ble_eq_true rfl) dX3_digest_2 (fun H locs hP _ hS => ?_)
  have hP : va_P D vwCl (wM cI cZ q pa sp al co da mo st mr 0 n td wn) H := hP
  refine zr_bipush hx hb dX3_digest_5 (by decide) ?_
  refine zr_newaI (D := D) (N' := 6) (a0 := (6, .inl (ar (cst 0)))) hx hb (hts (.arrayClass .int) (by decide +kernel)) hK 0 rfl hP (zD hN rfl hA) hS (fun q h => Or.inr (by rw [← hsz]; exact h)) (fun _ => rfl) (by decide) (by decide) (by decide) (Nat.le_of_ble_eq_true rfl) (Nat.le_of_ble_eq_true rfl) dX3_digest_7 (fun a9 H hB hD9 hS => ?_)
  have hn9 : a9 ∉ zLM q := znewD hD9 rfl
  have hdis9 : ∀ a ∈ [a9], a ∉ zLM q := fun a h => by rw [List.mem_singleton.mp h]; exact hn9
  have hN9 : (zLM q ++ [a9]).Nodup := List.nodup_append.mpr ⟨hN, by simp, fun a ha b hb h => hdis9 b hb (h ▸ ha)⟩
  have ha9 := hD9.2 9 (a9, .inl (cI, 6, .inl (ar (cst 0)))) rfl
  have hA9 : ∀ a ∈ zLM q ++ [a9], (fun a => a ∈ zLM q ∨ sz ≤ a) a := fun a h => (List.mem_append.mp h).elim (fun h => Or.inl h) (fun h => by rw [List.mem_singleton.mp h]; exact ha9)
  have hP : va_P D vwCl (wM cI cZ q pa sp al co da mo st mr 0 n td wn) H := zleft0 hB
  have hO : va_P D vwCl [(a9, .inl (cI, 6, .inl (ar (cst 0))))] H := zright0 hB
  refine lv_dup hx hb dX3_digest_9 rfl ?_
  refine zr_iconst hx hb dX3_digest_10 ?_
  refine lv_aload_n hx hb dX3_digest_11 rfl (lv_at hl 0 rfl) ?_
  refine va_get (D := D) (ci := 3) (v := .int (zI (n : Int))) (C := RX3) (T := TX3) (N := 12) hx hb hts hin3 hown hK hP 0 rfl rfl 1 (by decide) (hts (.fieldLink RX3 39 "MourningRibbonsModel" "people" "I") (by decide +kernel)) (fun _ h9 => h9) rfl dX3_digest_12 ?_
  refine zr_iast (ws := (wM cI cZ q pa sp al co da mo st mr 0 n td wn) ++ [(a9, .inl (cI, 6, .inl (ar (cst 0))))]) (f := cst 0) (n := 6) hx hb hK (zapp0 hP hO) hN9 rfl hA9 hS 9 0 rfl rfl (by decide) (i := 0) (x := (n : Int)) (by decide) (by decide) dX3_digest_15 (fun H locs hB hS => ?_)
  have hB : va_P D vwCl ((wM cI cZ q pa sp al co da mo st mr 0 n td wn) ++ [(a9, .inl (cI, 6, .inl (ar (up (cst 0) 0 (n : Int)))))]) H := hB
  have hP : va_P D vwCl (wM cI cZ q pa sp al co da mo st mr 0 n td wn) H := zleft0 hB
  have hO : va_P D vwCl [(a9, .inl (cI, 6, .inl (ar (up (cst 0) 0 (n : Int)))))] H := zright0 hB
  refine lv_dup hx hb dX3_digest_16 rfl ?_
  refine zr_iconst hx hb dX3_digest_17 ?_
  refine lv_aload_n hx hb dX3_digest_18 rfl (lv_at hl 0 rfl) ?_
  refine zcallV (ci := 3) (q0 := 0) (cq := (RX3, TX3, 12)) (As := []) (rest := [.int (zI 1), .ref a9, .ref a9]) ⟨hx, hb, hml, hown, hts⟩ hK (kX3_alive l D cI cZ q hN pa sp al co da mo st mr 0 n td wn hn hal) (cwV 0 hts gX3_digest_X3_alive rfl rfl rfl (by decide +kernel) ⟨Nat.le_of_ble_eq_true rfl, Nat.le_of_ble_eq_true rfl⟩) hP hS hA rfl rfl rfl hl.1 rfl (Nat.le_of_ble_eq_true rfl) dX3_digest_19 ⟨Nat.le_of_ble_eq_true rfl, Nat.le_of_ble_eq_true rfl⟩ (fun H locs hP hS _ hkk => ?_)
  have hO := zkeep hO hkk hdis9
  refine W.eq (g2 := F0 m9 22 ls [.int (zI (smF al n)), .int (zI 1), .ref a9, .ref a9]) rfl ?_
  refine zr_iast (ws := (wM cI cZ q pa sp al co da mo st mr 0 n td wn) ++ [(a9, .inl (cI, 6, .inl (ar (up (cst 0) 0 (n : Int)))))]) (f := up (cst 0) 0 (n : Int)) (n := 6) hx hb hK (zapp0 hP hO) hN9 rfl hA9 hS 9 0 rfl rfl (by decide) (i := 1) (x := smF al n) (by decide) (by decide) dX3_digest_22 (fun H locs hB hS => ?_)
  have hB : va_P D vwCl ((wM cI cZ q pa sp al co da mo st mr 0 n td wn) ++ [(a9, .inl (cI, 6, .inl (ar (up (up (cst 0) 0 (n : Int)) 1 (smF al n)))))]) H := hB
  have hP : va_P D vwCl (wM cI cZ q pa sp al co da mo st mr 0 n td wn) H := zleft0 hB
  have hO : va_P D vwCl [(a9, .inl (cI, 6, .inl (ar (up (up (cst 0) 0 (n : Int)) 1 (smF al n)))))] H := zright0 hB
  refine lv_dup hx hb dX3_digest_23 rfl ?_
  refine zr_iconst hx hb dX3_digest_24 ?_
  refine lv_aload_n hx hb dX3_digest_25 rfl (lv_at hl 0 rfl) ?_
  refine va_get (D := D) (ci := 3) (v := .int (zI td)) (C := RX3) (T := TX3) (N := 12) hx hb hts hin3 hown hK hP 0 rfl rfl 8 (by decide) (hts (.fieldLink RX3 95 "MourningRibbonsModel" "today" "I") (by decide +kernel)) (fun _ h9 => h9) rfl dX3_digest_26 ?_
  refine zr_iast (ws := (wM cI cZ q pa sp al co da mo st mr 0 n td wn) ++ [(a9, .inl (cI, 6, .inl (ar (up (up (cst 0) 0 (n : Int)) 1 (smF al n)))))]) (f := up (up (cst 0) 0 (n : Int)) 1 (smF al n)) (n := 6) hx hb hK (zapp0 hP hO) hN9 rfl hA9 hS 9 0 rfl rfl (by decide) (i := 2) (x := td) (by decide) (by decide) dX3_digest_29 (fun H locs hB hS => ?_)
  have hB : va_P D vwCl ((wM cI cZ q pa sp al co da mo st mr 0 n td wn) ++ [(a9, .inl (cI, 6, .inl (ar (up (up (up (cst 0) 0 (n : Int)) 1 (smF al n)) 2 td))))]) H := hB
  have hP : va_P D vwCl (wM cI cZ q pa sp al co da mo st mr 0 n td wn) H := zleft0 hB
  have hO : va_P D vwCl [(a9, .inl (cI, 6, .inl (ar (up (up (up (cst 0) 0 (n : Int)) 1 (smF al n)) 2 td))))] H := zright0 hB
  refine lv_dup hx hb dX3_digest_30 rfl ?_
  refine zr_iconst hx hb dX3_digest_31 ?_
  refine lv_aload_n hx hb dX3_digest_32 rfl (lv_at hl 0 rfl) ?_
  refine zcallV (ci := 3) (q0 := 0) (cq := (RX3, TX3, 12)) (As := []) (rest := [.int (zI 3), .ref a9, .ref a9]) ⟨hx, hb, hml, hown, hts⟩ hK (kX3_strictestOne l D cI cZ q hN pa sp al co da mo st mr 0 n td wn hn hmo htd) (cwV 0 hts gX3_digest_X3_strictestOne rfl rfl rfl (by decide +kernel) ⟨Nat.le_of_ble_eq_true rfl, Nat.le_of_ble_eq_true rfl⟩) hP hS hA rfl rfl rfl hl.1 rfl (Nat.le_of_ble_eq_true rfl) dX3_digest_33 ⟨Nat.le_of_ble_eq_true rfl, Nat.le_of_ble_eq_true rfl⟩ (fun H locs hP hS _ hkk => ?_)
  have hO := zkeep hO hkk hdis9
  refine W.eq (g2 := F0 m9 36 ls [.int (zI (mxF (wsZ mo n td) n)), .int (zI 3), .ref a9, .ref a9]) rfl ?_
  refine zr_iast (ws := (wM cI cZ q pa sp al co da mo st mr 0 n td wn) ++ [(a9, .inl (cI, 6, .inl (ar (up (up (up (cst 0) 0 (n : Int)) 1 (smF al n)) 2 td))))]) (f := up (up (up (cst 0) 0 (n : Int)) 1 (smF al n)) 2 td) (n := 6) hx hb hK (zapp0 hP hO) hN9 rfl hA9 hS 9 0 rfl rfl (by decide) (i := 3) (x := mxF (wsZ mo n td) n) (by decide) (by decide) dX3_digest_36 (fun H locs hB hS => ?_)
  have hB : va_P D vwCl ((wM cI cZ q pa sp al co da mo st mr 0 n td wn) ++ [(a9, .inl (cI, 6, .inl (ar (up (up (up (up (cst 0) 0 (n : Int)) 1 (smF al n)) 2 td) 3 (mxF (wsZ mo n td) n)))))]) H := hB
  have hP : va_P D vwCl (wM cI cZ q pa sp al co da mo st mr 0 n td wn) H := zleft0 hB
  have hO : va_P D vwCl [(a9, .inl (cI, 6, .inl (ar (up (up (up (up (cst 0) 0 (n : Int)) 1 (smF al n)) 2 td) 3 (mxF (wsZ mo n td) n)))))] H := zright0 hB
  refine lv_dup hx hb dX3_digest_37 rfl ?_
  refine zr_iconst hx hb dX3_digest_38 ?_
  refine lv_aload_n hx hb dX3_digest_39 rfl (lv_at hl 0 rfl) ?_
  refine zcallV (ci := 3) (q0 := 0) (cq := (RX3, TX3, 12)) (As := []) (rest := [.int (zI 4), .ref a9, .ref a9]) ⟨hx, hb, hml, hown, hts⟩ hK (kX3_longest l D cI cZ q hN pa sp al co da mo st mr 0 n td wn hn hmo htd) (cwV 0 hts gX3_digest_X3_longest rfl rfl rfl (by decide +kernel) ⟨Nat.le_of_ble_eq_true rfl, Nat.le_of_ble_eq_true rfl⟩) hP hS hA rfl rfl rfl hl.1 rfl (Nat.le_of_ble_eq_true rfl) dX3_digest_40 ⟨Nat.le_of_ble_eq_true rfl, Nat.le_of_ble_eq_true rfl⟩ (fun H locs hP hS _ hkk => ?_)
  have hO := zkeep hO hkk hdis9
  refine W.eq (g2 := F0 m9 43 ls [.int (zI (lgF (moS mo n td) n)), .int (zI 4), .ref a9, .ref a9]) rfl ?_
  refine zr_iast (ws := (wM cI cZ q pa sp al co da mo st mr 0 n td wn) ++ [(a9, .inl (cI, 6, .inl (ar (up (up (up (up (cst 0) 0 (n : Int)) 1 (smF al n)) 2 td) 3 (mxF (wsZ mo n td) n)))))]) (f := up (up (up (up (cst 0) 0 (n : Int)) 1 (smF al n)) 2 td) 3 (mxF (wsZ mo n td) n)) (n := 6) hx hb hK (zapp0 hP hO) hN9 rfl hA9 hS 9 0 rfl rfl (by decide) (i := 4) (x := lgF (moS mo n td) n) (by decide) (by decide) dX3_digest_43 (fun H locs hB hS => ?_)
  have hB : va_P D vwCl ((wM cI cZ q pa sp al co da mo st mr 0 n td wn) ++ [(a9, .inl (cI, 6, .inl (ar (up (up (up (up (up (cst 0) 0 (n : Int)) 1 (smF al n)) 2 td) 3 (mxF (wsZ mo n td) n)) 4 (lgF (moS mo n td) n)))))]) H := hB
  have hP : va_P D vwCl (wM cI cZ q pa sp al co da mo st mr 0 n td wn) H := zleft0 hB
  have hO : va_P D vwCl [(a9, .inl (cI, 6, .inl (ar (up (up (up (up (up (cst 0) 0 (n : Int)) 1 (smF al n)) 2 td) 3 (mxF (wsZ mo n td) n)) 4 (lgF (moS mo n td) n)))))] H := zright0 hB
  refine lv_dup hx hb dX3_digest_44 rfl ?_
  refine zr_iconst hx hb dX3_digest_45 ?_
  refine lv_aload_n hx hb dX3_digest_46 rfl (lv_at hl 0 rfl) ?_
  refine va_get (D := D) (ci := 3) (v := .int (zI wn)) (C := RX3) (T := TX3) (N := 12) hx hb hts hin3 hown hK hP 0 rfl rfl 9 (by decide) (hts (.fieldLink RX3 121 "MourningRibbonsModel" "worn" "I") (by decide +kernel)) (fun _ h9 => h9) rfl dX3_digest_47 ?_
  refine zr_iast (ws := (wM cI cZ q pa sp al co da mo st mr 0 n td wn) ++ [(a9, .inl (cI, 6, .inl (ar (up (up (up (up (up (cst 0) 0 (n : Int)) 1 (smF al n)) 2 td) 3 (mxF (wsZ mo n td) n)) 4 (lgF (moS mo n td) n)))))]) (f := up (up (up (up (up (cst 0) 0 (n : Int)) 1 (smF al n)) 2 td) 3 (mxF (wsZ mo n td) n)) 4 (lgF (moS mo n td) n)) (n := 6) hx hb hK (zapp0 hP hO) hN9 rfl hA9 hS 9 0 rfl rfl (by decide) (i := 5) (x := wn) (by decide) (by decide) dX3_digest_50 (fun H locs hB hS => ?_)
  have hB : va_P D vwCl ((wM cI cZ q pa sp al co da mo st mr 0 n td wn) ++ [(a9, .inl (cI, 6, .inl (ar (up (up (up (up (up (up (cst 0) 0 (n : Int)) 1 (smF al n)) 2 td) 3 (mxF (wsZ mo n td) n)) 4 (lgF (moS mo n td) n)) 5 wn))))]) H := hB
  have hP : va_P D vwCl (wM cI cZ q pa sp al co da mo st mr 0 n td wn) H := zleft0 hB
  have hO : va_P D vwCl [(a9, .inl (cI, 6, .inl (ar (up (up (up (up (up (up (cst 0) 0 (n : Int)) 1 (smF al n)) 2 td) 3 (mxF (wsZ mo n td) n)) 4 (lgF (moS mo n td) n)) 5 wn))))] H := zright0 hB
  refine lv_astore_n (lv' := [(1, .ref a9), (0, .ref (q 0))]) hx hb dX3_digest_51 rfl hl (by decide) rfl (fun ls hl => ?_)
  refine lv_ldc2 (v := 1931) hx hb hown (hts (.constantLong RX3 175 (1931)) (by decide +kernel)) dX3_digest_52 ?_
  refine lv_lstore_n (lv' := [(2, .long (1931 : Int64)), (1, .ref a9), (0, .ref (q 0))]) hx hb dX3_digest_55 rfl hl (by decide) rfl (fun ls hl => ?_)
  refine lv_aload_n hx hb dX3_digest_56 rfl (lv_at hl 1 rfl) ?_
  refine lv_astore (lv' := [(4, .ref a9), (2, .long (1931 : Int64)), (1, .ref a9), (0, .ref (q 0))]) hx hb dX3_digest_57 hl (by decide) rfl (fun ls hl => ?_)
  refine lv_aload hx hb dX3_digest_59 (lv_at hl 0 rfl) ?_
  refine va_alen (v := zI 6) hx hb hK hO 0 0 rfl rfl (show Int32.ofNat 6 = zI 6 by decide) dX3_digest_61 ?_
  refine lv_istore (lv' := [(5, .int (zI 6)), (4, .ref a9), (2, .long (1931 : Int64)), (1, .ref a9), (0, .ref (q 0))]) hx hb dX3_digest_62 hl (by decide) rfl (fun ls hl => ?_)
  refine zr_iconst hx hb dX3_digest_64 ?_
  refine lv_istore (lv' := [(6, .int (zI 0)), (5, .int (zI 6)), (4, .ref a9), (2, .long (1931 : Int64)), (1, .ref a9), (0, .ref (q 0))]) hx hb dX3_digest_65 hl (by decide) rfl (fun ls hl => ?_)
  refine lv_iload hx hb dX3_digest_67 (lv_at hl 0 rfl) ?_
  refine lv_iload hx hb dX3_digest_69 (lv_at hl 1 rfl) ?_
  refine zr_icmp_ge (tgt := 97) hx hb dX3_digest_71 (by decide) ⟨by decide, by decide⟩ ⟨by decide, by decide⟩ (fun c_1 => by exfalso; revert c_1; decide) (fun c_1 => ?_)
  refine lv_aload hx hb dX3_digest_74 (lv_at hl 2 rfl) ?_
  refine lv_iload hx hb dX3_digest_76 (lv_at hl 0 rfl) ?_
  refine zr_iald (f := up (up (up (up (up (up (cst 0) 0 (n : Int)) 1 (smF al n)) 2 td) 3 (mxF (wsZ mo n td) n)) 4 (lgF (moS mo n td) n)) 5 wn) (n := 6) hx hb hK hO 0 0 rfl rfl (by decide) (i := 0) (by decide) (by decide) dX3_digest_78 ?_
  refine W.eq (g2 := F0 m9 79 ls [.int (zI (n : Int))]) (by rw [up_n _ (by decide), up_n _ (by decide), up_n _ (by decide), up_n _ (by decide), up_n _ (by decide), up_s]) ?_
  refine lv_istore (lv' := [(7, .int (zI (n : Int))), (6, .int (zI 0)), (5, .int (zI 6)), (4, .ref a9), (2, .long (1931 : Int64)), (1, .ref a9), (0, .ref (q 0))]) hx hb dX3_digest_79 hl (by decide) rfl (fun ls hl => ?_)
  refine lv_lload_n hx hb dX3_digest_81 rfl (lv_at hl 4 rfl) ?_
  refine lv_ldc2 (v := 31) hx hb hown (hts (.constantLong RX3 177 (31)) (by decide +kernel)) dX3_digest_82 ?_
  refine lv_lmul hx hb dX3_digest_85 ?_
  refine lv_iload hx hb dX3_digest_86 (lv_at hl 0 rfl) ?_
  refine lv_i2l hx hb dX3_digest_88 rfl ?_
  refine lv_ladd hx hb dX3_digest_89 ?_
  refine W.eq (g2 := F0 m9 90 ls [.long (h31 (1931 : Int64) (n : Int))]) rfl ?_
  refine lv_lstore_n (lv' := [(2, .long (h31 (1931 : Int64) (n : Int))), (7, .int (zI (n : Int))), (6, .int (zI 0)), (5, .int (zI 6)), (4, .ref a9), (1, .ref a9), (0, .ref (q 0))]) hx hb dX3_digest_90 rfl hl (by decide) rfl (fun ls hl => ?_)
  refine zr_iinc (v := 1) (lv' := [(6, .int (zI 1)), (2, .long (h31 (1931 : Int64) (n : Int))), (7, .int (zI (n : Int))), (5, .int (zI 6)), (4, .ref a9), (1, .ref a9), (0, .ref (q 0))]) hx hb dX3_digest_91 hl (k := 2) rfl (by decide) (by decide) rfl (fun ls hl => ?_)
  refine lv_goto (tgt := 67) hx hb dX3_digest_94 (by decide) ?_
  refine lv_iload hx hb dX3_digest_67 (lv_at hl 0 rfl) ?_
  refine lv_iload hx hb dX3_digest_69 (lv_at hl 3 rfl) ?_
  refine zr_icmp_ge (tgt := 97) hx hb dX3_digest_71 (by decide) ⟨by decide, by decide⟩ ⟨by decide, by decide⟩ (fun c_2 => by exfalso; revert c_2; decide) (fun c_2 => ?_)
  refine lv_aload hx hb dX3_digest_74 (lv_at hl 4 rfl) ?_
  refine lv_iload hx hb dX3_digest_76 (lv_at hl 0 rfl) ?_
  refine zr_iald (f := up (up (up (up (up (up (cst 0) 0 (n : Int)) 1 (smF al n)) 2 td) 3 (mxF (wsZ mo n td) n)) 4 (lgF (moS mo n td) n)) 5 wn) (n := 6) hx hb hK hO 0 0 rfl rfl (by decide) (i := 1) (by decide) (by decide) dX3_digest_78 ?_
  refine W.eq (g2 := F0 m9 79 ls [.int (zI (smF al n))]) (by rw [up_n _ (by decide), up_n _ (by decide), up_n _ (by decide), up_n _ (by decide), up_s]) ?_
  refine lv_istore (lv' := [(7, .int (zI (smF al n))), (6, .int (zI 1)), (2, .long (h31 (1931 : Int64) (n : Int))), (5, .int (zI 6)), (4, .ref a9), (1, .ref a9), (0, .ref (q 0))]) hx hb dX3_digest_79 hl (by decide) rfl (fun ls hl => ?_)
  refine lv_lload_n hx hb dX3_digest_81 rfl (lv_at hl 2 rfl) ?_
  refine lv_ldc2 (v := 31) hx hb hown (hts (.constantLong RX3 177 (31)) (by decide +kernel)) dX3_digest_82 ?_
  refine lv_lmul hx hb dX3_digest_85 ?_
  refine lv_iload hx hb dX3_digest_86 (lv_at hl 0 rfl) ?_
  refine lv_i2l hx hb dX3_digest_88 rfl ?_
  refine lv_ladd hx hb dX3_digest_89 ?_
  refine W.eq (g2 := F0 m9 90 ls [.long (h31 (h31 (1931 : Int64) (n : Int)) (smF al n))]) rfl ?_
  refine lv_lstore_n (lv' := [(2, .long (h31 (h31 (1931 : Int64) (n : Int)) (smF al n))), (7, .int (zI (smF al n))), (6, .int (zI 1)), (5, .int (zI 6)), (4, .ref a9), (1, .ref a9), (0, .ref (q 0))]) hx hb dX3_digest_90 rfl hl (by decide) rfl (fun ls hl => ?_)
  refine zr_iinc (v := 2) (lv' := [(6, .int (zI 2)), (2, .long (h31 (h31 (1931 : Int64) (n : Int)) (smF al n))), (7, .int (zI (smF al n))), (5, .int (zI 6)), (4, .ref a9), (1, .ref a9), (0, .ref (q 0))]) hx hb dX3_digest_91 hl (k := 2) rfl (by decide) (by decide) rfl (fun ls hl => ?_)
  refine lv_goto (tgt := 67) hx hb dX3_digest_94 (by decide) ?_
  refine lv_iload hx hb dX3_digest_67 (lv_at hl 0 rfl) ?_
  refine lv_iload hx hb dX3_digest_69 (lv_at hl 3 rfl) ?_
  refine zr_icmp_ge (tgt := 97) hx hb dX3_digest_71 (by decide) ⟨by decide, by decide⟩ ⟨by decide, by decide⟩ (fun c_3 => by exfalso; revert c_3; decide) (fun c_3 => ?_)
  refine lv_aload hx hb dX3_digest_74 (lv_at hl 4 rfl) ?_
  refine lv_iload hx hb dX3_digest_76 (lv_at hl 0 rfl) ?_
  refine zr_iald (f := up (up (up (up (up (up (cst 0) 0 (n : Int)) 1 (smF al n)) 2 td) 3 (mxF (wsZ mo n td) n)) 4 (lgF (moS mo n td) n)) 5 wn) (n := 6) hx hb hK hO 0 0 rfl rfl (by decide) (i := 2) (by decide) (by decide) dX3_digest_78 ?_
  refine W.eq (g2 := F0 m9 79 ls [.int (zI td)]) (by rw [up_n _ (by decide), up_n _ (by decide), up_n _ (by decide), up_s]) ?_
  refine lv_istore (lv' := [(7, .int (zI td)), (6, .int (zI 2)), (2, .long (h31 (h31 (1931 : Int64) (n : Int)) (smF al n))), (5, .int (zI 6)), (4, .ref a9), (1, .ref a9), (0, .ref (q 0))]) hx hb dX3_digest_79 hl (by decide) rfl (fun ls hl => ?_)
  refine lv_lload_n hx hb dX3_digest_81 rfl (lv_at hl 2 rfl) ?_
  refine lv_ldc2 (v := 31) hx hb hown (hts (.constantLong RX3 177 (31)) (by decide +kernel)) dX3_digest_82 ?_
  refine lv_lmul hx hb dX3_digest_85 ?_
  refine lv_iload hx hb dX3_digest_86 (lv_at hl 0 rfl) ?_
  refine lv_i2l hx hb dX3_digest_88 rfl ?_
  refine lv_ladd hx hb dX3_digest_89 ?_
  refine W.eq (g2 := F0 m9 90 ls [.long (h31 (h31 (h31 (1931 : Int64) (n : Int)) (smF al n)) td)]) rfl ?_
  refine lv_lstore_n (lv' := [(2, .long (h31 (h31 (h31 (1931 : Int64) (n : Int)) (smF al n)) td)), (7, .int (zI td)), (6, .int (zI 2)), (5, .int (zI 6)), (4, .ref a9), (1, .ref a9), (0, .ref (q 0))]) hx hb dX3_digest_90 rfl hl (by decide) rfl (fun ls hl => ?_)
  refine zr_iinc (v := 3) (lv' := [(6, .int (zI 3)), (2, .long (h31 (h31 (h31 (1931 : Int64) (n : Int)) (smF al n)) td)), (7, .int (zI td)), (5, .int (zI 6)), (4, .ref a9), (1, .ref a9), (0, .ref (q 0))]) hx hb dX3_digest_91 hl (k := 2) rfl (by decide) (by decide) rfl (fun ls hl => ?_)
  refine lv_goto (tgt := 67) hx hb dX3_digest_94 (by decide) ?_
  refine lv_iload hx hb dX3_digest_67 (lv_at hl 0 rfl) ?_
  refine lv_iload hx hb dX3_digest_69 (lv_at hl 3 rfl) ?_
  refine zr_icmp_ge (tgt := 97) hx hb dX3_digest_71 (by decide) ⟨by decide, by decide⟩ ⟨by decide, by decide⟩ (fun c_4 => by exfalso; revert c_4; decide) (fun c_4 => ?_)
  refine lv_aload hx hb dX3_digest_74 (lv_at hl 4 rfl) ?_
  refine lv_iload hx hb dX3_digest_76 (lv_at hl 0 rfl) ?_
  refine zr_iald (f := up (up (up (up (up (up (cst 0) 0 (n : Int)) 1 (smF al n)) 2 td) 3 (mxF (wsZ mo n td) n)) 4 (lgF (moS mo n td) n)) 5 wn) (n := 6) hx hb hK hO 0 0 rfl rfl (by decide) (i := 3) (by decide) (by decide) dX3_digest_78 ?_
  refine W.eq (g2 := F0 m9 79 ls [.int (zI (mxF (wsZ mo n td) n))]) (by rw [up_n _ (by decide), up_n _ (by decide), up_s]) ?_
  refine lv_istore (lv' := [(7, .int (zI (mxF (wsZ mo n td) n))), (6, .int (zI 3)), (2, .long (h31 (h31 (h31 (1931 : Int64) (n : Int)) (smF al n)) td)), (5, .int (zI 6)), (4, .ref a9), (1, .ref a9), (0, .ref (q 0))]) hx hb dX3_digest_79 hl (by decide) rfl (fun ls hl => ?_)
  refine lv_lload_n hx hb dX3_digest_81 rfl (lv_at hl 2 rfl) ?_
  refine lv_ldc2 (v := 31) hx hb hown (hts (.constantLong RX3 177 (31)) (by decide +kernel)) dX3_digest_82 ?_
  refine lv_lmul hx hb dX3_digest_85 ?_
  refine lv_iload hx hb dX3_digest_86 (lv_at hl 0 rfl) ?_
  refine lv_i2l hx hb dX3_digest_88 rfl ?_
  refine lv_ladd hx hb dX3_digest_89 ?_
  refine W.eq (g2 := F0 m9 90 ls [.long (h31 (h31 (h31 (h31 (1931 : Int64) (n : Int)) (smF al n)) td) (mxF (wsZ mo n td) n))]) rfl ?_
  refine lv_lstore_n (lv' := [(2, .long (h31 (h31 (h31 (h31 (1931 : Int64) (n : Int)) (smF al n)) td) (mxF (wsZ mo n td) n))), (7, .int (zI (mxF (wsZ mo n td) n))), (6, .int (zI 3)), (5, .int (zI 6)), (4, .ref a9), (1, .ref a9), (0, .ref (q 0))]) hx hb dX3_digest_90 rfl hl (by decide) rfl (fun ls hl => ?_)
  refine zr_iinc (v := 4) (lv' := [(6, .int (zI 4)), (2, .long (h31 (h31 (h31 (h31 (1931 : Int64) (n : Int)) (smF al n)) td) (mxF (wsZ mo n td) n))), (7, .int (zI (mxF (wsZ mo n td) n))), (5, .int (zI 6)), (4, .ref a9), (1, .ref a9), (0, .ref (q 0))]) hx hb dX3_digest_91 hl (k := 2) rfl (by decide) (by decide) rfl (fun ls hl => ?_)
  refine lv_goto (tgt := 67) hx hb dX3_digest_94 (by decide) ?_
  refine lv_iload hx hb dX3_digest_67 (lv_at hl 0 rfl) ?_
  refine lv_iload hx hb dX3_digest_69 (lv_at hl 3 rfl) ?_
  refine zr_icmp_ge (tgt := 97) hx hb dX3_digest_71 (by decide) ⟨by decide, by decide⟩ ⟨by decide, by decide⟩ (fun c_5 => by exfalso; revert c_5; decide) (fun c_5 => ?_)
  refine lv_aload hx hb dX3_digest_74 (lv_at hl 4 rfl) ?_
  refine lv_iload hx hb dX3_digest_76 (lv_at hl 0 rfl) ?_
  refine zr_iald (f := up (up (up (up (up (up (cst 0) 0 (n : Int)) 1 (smF al n)) 2 td) 3 (mxF (wsZ mo n td) n)) 4 (lgF (moS mo n td) n)) 5 wn) (n := 6) hx hb hK hO 0 0 rfl rfl (by decide) (i := 4) (by decide) (by decide) dX3_digest_78 ?_
  refine W.eq (g2 := F0 m9 79 ls [.int (zI (lgF (moS mo n td) n))]) (by rw [up_n _ (by decide), up_s]) ?_
  refine lv_istore (lv' := [(7, .int (zI (lgF (moS mo n td) n))), (6, .int (zI 4)), (2, .long (h31 (h31 (h31 (h31 (1931 : Int64) (n : Int)) (smF al n)) td) (mxF (wsZ mo n td) n))), (5, .int (zI 6)), (4, .ref a9), (1, .ref a9), (0, .ref (q 0))]) hx hb dX3_digest_79 hl (by decide) rfl (fun ls hl => ?_)
  refine lv_lload_n hx hb dX3_digest_81 rfl (lv_at hl 2 rfl) ?_
  refine lv_ldc2 (v := 31) hx hb hown (hts (.constantLong RX3 177 (31)) (by decide +kernel)) dX3_digest_82 ?_
  refine lv_lmul hx hb dX3_digest_85 ?_
  refine lv_iload hx hb dX3_digest_86 (lv_at hl 0 rfl) ?_
  refine lv_i2l hx hb dX3_digest_88 rfl ?_
  refine lv_ladd hx hb dX3_digest_89 ?_
  refine W.eq (g2 := F0 m9 90 ls [.long (h31 (h31 (h31 (h31 (h31 (1931 : Int64) (n : Int)) (smF al n)) td) (mxF (wsZ mo n td) n)) (lgF (moS mo n td) n))]) rfl ?_
  refine lv_lstore_n (lv' := [(2, .long (h31 (h31 (h31 (h31 (h31 (1931 : Int64) (n : Int)) (smF al n)) td) (mxF (wsZ mo n td) n)) (lgF (moS mo n td) n))), (7, .int (zI (lgF (moS mo n td) n))), (6, .int (zI 4)), (5, .int (zI 6)), (4, .ref a9), (1, .ref a9), (0, .ref (q 0))]) hx hb dX3_digest_90 rfl hl (by decide) rfl (fun ls hl => ?_)
  refine zr_iinc (v := 5) (lv' := [(6, .int (zI 5)), (2, .long (h31 (h31 (h31 (h31 (h31 (1931 : Int64) (n : Int)) (smF al n)) td) (mxF (wsZ mo n td) n)) (lgF (moS mo n td) n))), (7, .int (zI (lgF (moS mo n td) n))), (5, .int (zI 6)), (4, .ref a9), (1, .ref a9), (0, .ref (q 0))]) hx hb dX3_digest_91 hl (k := 2) rfl (by decide) (by decide) rfl (fun ls hl => ?_)
  refine lv_goto (tgt := 67) hx hb dX3_digest_94 (by decide) ?_
  refine lv_iload hx hb dX3_digest_67 (lv_at hl 0 rfl) ?_
  refine lv_iload hx hb dX3_digest_69 (lv_at hl 3 rfl) ?_
  refine zr_icmp_ge (tgt := 97) hx hb dX3_digest_71 (by decide) ⟨by decide, by decide⟩ ⟨by decide, by decide⟩ (fun c_6 => by exfalso; revert c_6; decide) (fun c_6 => ?_)
  refine lv_aload hx hb dX3_digest_74 (lv_at hl 4 rfl) ?_
  refine lv_iload hx hb dX3_digest_76 (lv_at hl 0 rfl) ?_
  refine zr_iald (f := up (up (up (up (up (up (cst 0) 0 (n : Int)) 1 (smF al n)) 2 td) 3 (mxF (wsZ mo n td) n)) 4 (lgF (moS mo n td) n)) 5 wn) (n := 6) hx hb hK hO 0 0 rfl rfl (by decide) (i := 5) (by decide) (by decide) dX3_digest_78 ?_
  refine W.eq (g2 := F0 m9 79 ls [.int (zI wn)]) (by rw [up_s]) ?_
  refine lv_istore (lv' := [(7, .int (zI wn)), (6, .int (zI 5)), (2, .long (h31 (h31 (h31 (h31 (h31 (1931 : Int64) (n : Int)) (smF al n)) td) (mxF (wsZ mo n td) n)) (lgF (moS mo n td) n))), (5, .int (zI 6)), (4, .ref a9), (1, .ref a9), (0, .ref (q 0))]) hx hb dX3_digest_79 hl (by decide) rfl (fun ls hl => ?_)
  refine lv_lload_n hx hb dX3_digest_81 rfl (lv_at hl 2 rfl) ?_
  refine lv_ldc2 (v := 31) hx hb hown (hts (.constantLong RX3 177 (31)) (by decide +kernel)) dX3_digest_82 ?_
  refine lv_lmul hx hb dX3_digest_85 ?_
  refine lv_iload hx hb dX3_digest_86 (lv_at hl 0 rfl) ?_
  refine lv_i2l hx hb dX3_digest_88 rfl ?_
  refine lv_ladd hx hb dX3_digest_89 ?_
  refine W.eq (g2 := F0 m9 90 ls [.long (h31 (h31 (h31 (h31 (h31 (h31 (1931 : Int64) (n : Int)) (smF al n)) td) (mxF (wsZ mo n td) n)) (lgF (moS mo n td) n)) wn)]) rfl ?_
  refine lv_lstore_n (lv' := [(2, .long (h31 (h31 (h31 (h31 (h31 (h31 (1931 : Int64) (n : Int)) (smF al n)) td) (mxF (wsZ mo n td) n)) (lgF (moS mo n td) n)) wn)), (7, .int (zI wn)), (6, .int (zI 5)), (5, .int (zI 6)), (4, .ref a9), (1, .ref a9), (0, .ref (q 0))]) hx hb dX3_digest_90 rfl hl (by decide) rfl (fun ls hl => ?_)
  refine zr_iinc (v := 6) (lv' := [(6, .int (zI 6)), (2, .long (h31 (h31 (h31 (h31 (h31 (h31 (1931 : Int64) (n : Int)) (smF al n)) td) (mxF (wsZ mo n td) n)) (lgF (moS mo n td) n)) wn)), (7, .int (zI wn)), (5, .int (zI 6)), (4, .ref a9), (1, .ref a9), (0, .ref (q 0))]) hx hb dX3_digest_91 hl (k := 2) rfl (by decide) (by decide) rfl (fun ls hl => ?_)
  refine lv_goto (tgt := 67) hx hb dX3_digest_94 (by decide) ?_
  refine lv_iload hx hb dX3_digest_67 (lv_at hl 0 rfl) ?_
  refine lv_iload hx hb dX3_digest_69 (lv_at hl 3 rfl) ?_
  refine zr_icmp_ge (tgt := 97) hx hb dX3_digest_71 (by decide) ⟨by decide, by decide⟩ ⟨by decide, by decide⟩ (fun c_7 => ?_) (fun c_7 => by exfalso; revert c_7; decide)
  refine zr_iconst hx hb dX3_digest_97 ?_
  refine lv_istore (lv' := [(4, .int (zI 0)), (6, .int (zI 6)), (2, .long (h31 (h31 (h31 (h31 (h31 (h31 (1931 : Int64) (n : Int)) (smF al n)) td) (mxF (wsZ mo n td) n)) (lgF (moS mo n td) n)) wn)), (7, .int (zI wn)), (5, .int (zI 6)), (1, .ref a9), (0, .ref (q 0))]) hx hb dX3_digest_98 hl (by decide) rfl (fun ls hl => ?_)
  have L100_8 : ∀ (kf k3 : Nat), k3 ≤ 12 → 12 - k3 < kf → ∀ (H : Heap) (locs : List Loc) (ls : Array Slot), va_P D vwCl (wM cI cZ q pa sp al co da mo st mr 0 n td wn) H → va_S (fun a => a ∈ zLM q ∨ sz ≤ a) s9.heap H locs → lv_has ls 8 [(4, .int (zI (k3 : Int))), (2, .long (dcM co da (sdM al mo n td wn) k3)), (1, .ref a9), (0, .ref (q 0))] → W p0 l e9 ({ frames := 4, cells := 1, slots := 6, locals := 99 }) s9 m9 ag9 below meth c9 H locs 1 6 Q0 (F0 m9 100 ls []) := by
    intro kf
    induction kf with
    | zero => intro k3 h1 h2; omega
    | succ kf ih =>
      intro k3 hi_k3 hk_k3 H locs ls hP hS hl
      have ih_k3 := ih
      clear ih
      refine lv_iload hx hb dX3_digest_100 (lv_at hl 0 rfl) ?_
      refine zr_bipush hx hb dX3_digest_102 (by decide) ?_
      refine zr_icmp_ge (tgt := 141) hx hb dX3_digest_104 (by decide) ⟨by omega, by omega⟩ ⟨by decide, by decide⟩ (fun c_9 => ?_) (fun c_9 => ?_)
      · have c_9 := c_9
        have x_10 : k3 = 12 := by omega
        try rw [x_10] at hP
        try rw [x_10] at hl
        refine zr_iconst hx hb dX3_digest_141 ?_
        refine lv_istore (lv' := [(4, .int (zI 0)), (2, .long (dcM co da (sdM al mo n td wn) 12)), (1, .ref a9), (0, .ref (q 0))]) hx hb dX3_digest_142 hl (by decide) rfl (fun ls hl => ?_)
        have L144_11 : ∀ (kf i : Nat), i ≤ n → n - i < kf → ∀ (H : Heap) (locs : List Loc) (ls : Array Slot), va_P D vwCl (wM cI cZ q pa sp al co da mo (dsM pa sp n st i) mr 0 n td wn) H → va_S (fun a => a ∈ zLM q ∨ sz ≤ a) s9.heap H locs → lv_has ls 8 [(4, .int (zI (i : Int))), (2, .long (dqM pa sp al mo n td st (dcM co da (sdM al mo n td wn) 12) i)), (1, .ref a9), (0, .ref (q 0))] → W p0 l e9 ({ frames := 4, cells := 1, slots := 6, locals := 99 }) s9 m9 ag9 below meth c9 H locs 1 6 Q0 (F0 m9 144 ls []) := by
          intro kf
          induction kf with
          | zero => intro i h1 h2; omega
          | succ kf ih =>
            intro i hi_i hk_i H locs ls hP hS hl
            have ih_i := ih
            clear ih
            refine lv_iload hx hb dX3_digest_144 (lv_at hl 0 rfl) ?_
            refine lv_aload_n hx hb dX3_digest_146 rfl (lv_at hl 3 rfl) ?_
            refine va_get (D := D) (ci := 3) (v := .int (zI (n : Int))) (C := RX3) (T := TX3) (N := 12) hx hb hts hin3 hown hK hP 0 rfl rfl 1 (by decide) (hts (.fieldLink RX3 39 "MourningRibbonsModel" "people" "I") (by decide +kernel)) (fun _ h9 => h9) rfl dX3_digest_147 ?_
            refine zr_icmp_ge (tgt := 295) hx hb dX3_digest_150 (by decide) ⟨by omega, by omega⟩ ⟨by omega, by omega⟩ (fun c_12 => ?_) (fun c_12 => ?_)
            · have c_12 := c_12
              have x_13 : i = n := by omega
              try rw [x_13] at hP
              try rw [x_13] at hl
              refine lv_lload_n hx hb dX3_digest_295 rfl (lv_at hl 1 rfl) ?_
              rw [hQ0]
              exact zret_lN hsz hx hb hr hlocks (rfl) hP hS dX3_digest_296
            · have c_12 := c_12
              refine lv_lload_n hx hb dX3_digest_153 rfl (lv_at hl 1 rfl) ?_
              refine lv_ldc2 (v := 31) hx hb hown (hts (.constantLong RX3 177 (31)) (by decide +kernel)) dX3_digest_154 ?_
              refine lv_lmul hx hb dX3_digest_157 ?_
              refine lv_aload_n hx hb dX3_digest_158 rfl (lv_at hl 3 rfl) ?_
              refine va_get (D := D) (ci := 3) (v := .ref (q 3)) (C := RX3) (T := TX3) (N := 12) hx hb hts hin3 hown hK hP 0 rfl rfl 4 (by decide) (hts (.fieldLink RX3 16 "MourningRibbonsModel" "isAlive" "[Z") (by decide +kernel)) (fun _ h9 => h9) rfl dX3_digest_159 ?_
              refine lv_iload hx hb dX3_digest_162 (lv_at hl 0 rfl) ?_
              refine zr_zald (f := al) (n := 16) hx hb hK hP 3 1 rfl rfl (by decide) (i := (i : Int)) (by omega) (by omega) dX3_digest_164 ?_
              have b_14 := hal (i : Int)
              refine zr_if_eq (tgt := 172) hx hb dX3_digest_165 (by decide) ⟨by omega, by omega⟩ (fun c_15 => ?_) (fun c_15 => ?_)
              · have c_15 := c_15
                refine zr_iconst hx hb dX3_digest_172 ?_
                refine W.eq (g2 := F0 m9 173 ls [.int (zI (al (i : Int))), .long ((dqM pa sp al mo n td st (dcM co da (sdM al mo n td wn) 12) i) * (31 : Int64))]) (by rw [show al (i : Int) = 0 by omega]) ?_
                refine lv_i2l hx hb dX3_digest_173 rfl ?_
                refine lv_ladd hx hb dX3_digest_174 ?_
                refine W.eq (g2 := F0 m9 175 ls [.long (h31 (dqM pa sp al mo n td st (dcM co da (sdM al mo n td wn) 12) i) (al (i : Int)))]) rfl ?_
                refine lv_ldc2 (v := 31) hx hb hown (hts (.constantLong RX3 177 (31)) (by decide +kernel)) dX3_digest_175 ?_
                refine lv_lmul hx hb dX3_digest_178 ?_
                refine lv_aload_n hx hb dX3_digest_179 rfl (lv_at hl 3 rfl) ?_
                refine va_get (D := D) (ci := 3) (v := .ref (q 1)) (C := RX3) (T := TX3) (N := 12) hx hb hts hin3 hown hK hP 0 rfl rfl 2 (by decide) (hts (.fieldLink RX3 9 "MourningRibbonsModel" "parent" "[I") (by decide +kernel)) (fun _ h9 => h9) rfl dX3_digest_180 ?_
                refine lv_iload hx hb dX3_digest_183 (lv_at hl 0 rfl) ?_
                refine zr_iald (f := pa) (n := 16) hx hb hK hP 1 0 rfl rfl (by decide) (i := (i : Int)) (by omega) (by omega) dX3_digest_185 ?_
                have b_16 := hpa (i : Int)
                refine lv_i2l hx hb dX3_digest_186 rfl ?_
                refine lv_ladd hx hb dX3_digest_187 ?_
                refine W.eq (g2 := F0 m9 188 ls [.long (h31 (h31 (dqM pa sp al mo n td st (dcM co da (sdM al mo n td wn) 12) i) (al (i : Int))) (pa (i : Int)))]) rfl ?_
                refine lv_ldc2 (v := 31) hx hb hown (hts (.constantLong RX3 177 (31)) (by decide +kernel)) dX3_digest_188 ?_
                refine lv_lmul hx hb dX3_digest_191 ?_
                refine lv_aload_n hx hb dX3_digest_192 rfl (lv_at hl 3 rfl) ?_
                refine va_get (D := D) (ci := 3) (v := .ref (q 2)) (C := RX3) (T := TX3) (N := 12) hx hb hts hin3 hown hK hP 0 rfl rfl 3 (by decide) (hts (.fieldLink RX3 13 "MourningRibbonsModel" "married" "[I") (by decide +kernel)) (fun _ h9 => h9) rfl dX3_digest_193 ?_
                refine lv_iload hx hb dX3_digest_196 (lv_at hl 0 rfl) ?_
                refine zr_iald (f := sp) (n := 16) hx hb hK hP 2 0 rfl rfl (by decide) (i := (i : Int)) (by omega) (by omega) dX3_digest_198 ?_
                have b_17 := hsp (i : Int)
                refine lv_i2l hx hb dX3_digest_199 rfl ?_
                refine lv_ladd hx hb dX3_digest_200 ?_
                refine W.eq (g2 := F0 m9 201 ls [.long (h31 (h31 (h31 (dqM pa sp al mo n td st (dcM co da (sdM al mo n td wn) 12) i) (al (i : Int))) (pa (i : Int))) (sp (i : Int)))]) rfl ?_
                refine lv_lstore_n (lv' := [(2, .long (h31 (h31 (h31 (dqM pa sp al mo n td st (dcM co da (sdM al mo n td wn) 12) i) (al (i : Int))) (pa (i : Int))) (sp (i : Int)))), (4, .int (zI (i : Int))), (1, .ref a9), (0, .ref (q 0))]) hx hb dX3_digest_201 rfl hl (by decide) rfl (fun ls hl => ?_)
                refine lv_lload_n hx hb dX3_digest_202 rfl (lv_at hl 0 rfl) ?_
                refine lv_ldc2 (v := 31) hx hb hown (hts (.constantLong RX3 177 (31)) (by decide +kernel)) dX3_digest_203 ?_
                refine lv_lmul hx hb dX3_digest_206 ?_
                refine lv_aload_n hx hb dX3_digest_207 rfl (lv_at hl 3 rfl) ?_
                refine lv_iload hx hb dX3_digest_208 (lv_at hl 1 rfl) ?_
                refine lv_aload_n hx hb dX3_digest_210 rfl (lv_at hl 3 rfl) ?_
                refine va_get (D := D) (ci := 3) (v := .int (zI td)) (C := RX3) (T := TX3) (N := 12) hx hb hts hin3 hown hK hP 0 rfl rfl 8 (by decide) (hts (.fieldLink RX3 95 "MourningRibbonsModel" "today" "I") (by decide +kernel)) (fun _ h9 => h9) rfl dX3_digest_211 ?_
                refine zcallV (ci := 3) (q0 := 0) (cq := (RX3, TX3, 12)) (As := [.int (zI (i : Int)), .int (zI td)]) (rest := [.long ((h31 (h31 (h31 (dqM pa sp al mo n td st (dcM co da (sdM al mo n td wn) 12) i) (al (i : Int))) (pa (i : Int))) (sp (i : Int))) * (31 : Int64))]) ⟨hx, hb, hml, hown, hts⟩ hK (kX3_wears l D cI cZ q hN pa sp al co da mo (dsM pa sp n st i) mr 0 n td wn hn hmo (i : Int) td (by omega) (by omega)) (cwV 2 hts gX3_digest_X3_wears rfl rfl rfl (by decide +kernel) ⟨Nat.le_of_ble_eq_true rfl, Nat.le_of_ble_eq_true rfl⟩) hP hS hA rfl rfl rfl hl.1 rfl (Nat.le_of_ble_eq_true rfl) dX3_digest_214 ⟨Nat.le_of_ble_eq_true rfl, Nat.le_of_ble_eq_true rfl⟩ (fun H locs hP hS _ _ => ?_)
                refine W.eq (g2 := F0 m9 217 ls [.int (zI (wsM mo n (i : Int) td)), .long ((h31 (h31 (h31 (dqM pa sp al mo n td st (dcM co da (sdM al mo n td wn) 12) i) (al (i : Int))) (pa (i : Int))) (sp (i : Int))) * (31 : Int64))]) rfl ?_
                have f_18 := wsM_bd hmo n (i : Int) td
                refine lv_i2l hx hb dX3_digest_217 rfl ?_
                refine lv_ladd hx hb dX3_digest_218 ?_
                refine W.eq (g2 := F0 m9 219 ls [.long (h31 (h31 (h31 (h31 (dqM pa sp al mo n td st (dcM co da (sdM al mo n td wn) 12) i) (al (i : Int))) (pa (i : Int))) (sp (i : Int))) (wsM mo n (i : Int) td))]) rfl ?_
                refine lv_ldc2 (v := 31) hx hb hown (hts (.constantLong RX3 177 (31)) (by decide +kernel)) dX3_digest_219 ?_
                refine lv_lmul hx hb dX3_digest_222 ?_
                refine lv_aload_n hx hb dX3_digest_223 rfl (lv_at hl 3 rfl) ?_
                refine lv_iload hx hb dX3_digest_224 (lv_at hl 1 rfl) ?_
                refine zcallV (ci := 3) (q0 := 0) (cq := (RX3, TX3, 12)) (As := [.int (zI (i : Int))]) (rest := [.long ((h31 (h31 (h31 (h31 (dqM pa sp al mo n td st (dcM co da (sdM al mo n td wn) 12) i) (al (i : Int))) (pa (i : Int))) (sp (i : Int))) (wsM mo n (i : Int) td)) * (31 : Int64))]) ⟨hx, hb, hml, hown, hts⟩ hK (kX3_mournings l D cI cZ q hN pa sp al co da mo (dsM pa sp n st i) mr 0 n td wn hn hmo htd (i : Int) (by omega)) (cwV 1 hts gX3_digest_X3_mournings rfl rfl rfl (by decide +kernel) ⟨Nat.le_of_ble_eq_true rfl, Nat.le_of_ble_eq_true rfl⟩) hP hS hA rfl rfl rfl hl.1 rfl (Nat.le_of_ble_eq_true rfl) dX3_digest_226 ⟨Nat.le_of_ble_eq_true rfl, Nat.le_of_ble_eq_true rfl⟩ (fun H locs hP hS _ _ => ?_)
                refine W.eq (g2 := F0 m9 229 ls [.int (zI (smF (gtF (lM mo td (i : Int))) n)), .long ((h31 (h31 (h31 (h31 (dqM pa sp al mo n td st (dcM co da (sdM al mo n td wn) 12) i) (al (i : Int))) (pa (i : Int))) (sp (i : Int))) (wsM mo n (i : Int) td)) * (31 : Int64))]) rfl ?_
                refine lv_i2l hx hb dX3_digest_229 rfl ?_
                refine lv_ladd hx hb dX3_digest_230 ?_
                refine W.eq (g2 := F0 m9 231 ls [.long (h31 (h31 (h31 (h31 (h31 (dqM pa sp al mo n td st (dcM co da (sdM al mo n td wn) 12) i) (al (i : Int))) (pa (i : Int))) (sp (i : Int))) (wsM mo n (i : Int) td)) (smF (gtF (lM mo td (i : Int))) n))]) rfl ?_
                refine lv_ldc2 (v := 31) hx hb hown (hts (.constantLong RX3 177 (31)) (by decide +kernel)) dX3_digest_231 ?_
                refine lv_lmul hx hb dX3_digest_234 ?_
                refine lv_aload_n hx hb dX3_digest_235 rfl (lv_at hl 3 rfl) ?_
                refine lv_iload hx hb dX3_digest_236 (lv_at hl 1 rfl) ?_
                refine zcallV (ci := 3) (q0 := 0) (cq := (RX3, TX3, 12)) (As := [.int (zI (i : Int))]) (rest := [.long ((h31 (h31 (h31 (h31 (h31 (dqM pa sp al mo n td st (dcM co da (sdM al mo n td wn) 12) i) (al (i : Int))) (pa (i : Int))) (sp (i : Int))) (wsM mo n (i : Int) td)) (smF (gtF (lM mo td (i : Int))) n)) * (31 : Int64))]) ⟨hx, hb, hml, hown, hts⟩ hK (kX3_most l D cI cZ q hN pa sp al co da mo (dsM pa sp n st i) mr 0 n td wn hn hmo htd (i : Int) (by omega)) (cwV 1 hts gX3_digest_X3_most rfl rfl rfl (by decide +kernel) ⟨Nat.le_of_ble_eq_true rfl, Nat.le_of_ble_eq_true rfl⟩) hP hS hA rfl rfl rfl hl.1 rfl (Nat.le_of_ble_eq_true rfl) dX3_digest_238 ⟨Nat.le_of_ble_eq_true rfl, Nat.le_of_ble_eq_true rfl⟩ (fun H locs hP hS _ _ => ?_)
                refine W.eq (g2 := F0 m9 241 ls [.int (zI (mxF (lM mo td (i : Int)) n)), .long ((h31 (h31 (h31 (h31 (h31 (dqM pa sp al mo n td st (dcM co da (sdM al mo n td wn) 12) i) (al (i : Int))) (pa (i : Int))) (sp (i : Int))) (wsM mo n (i : Int) td)) (smF (gtF (lM mo td (i : Int))) n)) * (31 : Int64))]) rfl ?_
                have f_19 := mxF_bd (f := lM mo td (i : Int)) (k := n) (B := 4000000) (by decide) (fun j => (lM_bd hmo htd (i : Int) j).2)
                refine lv_i2l hx hb dX3_digest_241 rfl ?_
                refine lv_ladd hx hb dX3_digest_242 ?_
                refine W.eq (g2 := F0 m9 243 ls [.long (h31 (h31 (h31 (h31 (h31 (h31 (dqM pa sp al mo n td st (dcM co da (sdM al mo n td wn) 12) i) (al (i : Int))) (pa (i : Int))) (sp (i : Int))) (wsM mo n (i : Int) td)) (smF (gtF (lM mo td (i : Int))) n)) (mxF (lM mo td (i : Int)) n))]) rfl ?_
                refine lv_lstore_n (lv' := [(2, .long (h31 (h31 (h31 (h31 (h31 (h31 (dqM pa sp al mo n td st (dcM co da (sdM al mo n td wn) 12) i) (al (i : Int))) (pa (i : Int))) (sp (i : Int))) (wsM mo n (i : Int) td)) (smF (gtF (lM mo td (i : Int))) n)) (mxF (lM mo td (i : Int)) n))), (4, .int (zI (i : Int))), (1, .ref a9), (0, .ref (q 0))]) hx hb dX3_digest_243 rfl hl (by decide) rfl (fun ls hl => ?_)
                refine lv_lload_n hx hb dX3_digest_244 rfl (lv_at hl 0 rfl) ?_
                refine lv_ldc2 (v := 31) hx hb hown (hts (.constantLong RX3 177 (31)) (by decide +kernel)) dX3_digest_245 ?_
                refine lv_lmul hx hb dX3_digest_248 ?_
                refine lv_aload_n hx hb dX3_digest_249 rfl (lv_at hl 3 rfl) ?_
                refine lv_iload hx hb dX3_digest_250 (lv_at hl 1 rfl) ?_
                refine zcallV (ci := 3) (q0 := 0) (cq := (RX3, TX3, 12)) (As := [.int (zI (i : Int))]) (rest := [.long ((h31 (h31 (h31 (h31 (h31 (h31 (dqM pa sp al mo n td st (dcM co da (sdM al mo n td wn) 12) i) (al (i : Int))) (pa (i : Int))) (sp (i : Int))) (wsM mo n (i : Int) td)) (smF (gtF (lM mo td (i : Int))) n)) (mxF (lM mo td (i : Int)) n)) * (31 : Int64))]) ⟨hx, hb, hml, hown, hts⟩ hK (kX3_untilLighter l D cI cZ q hN pa sp al co da mo (dsM pa sp n st i) mr 0 n td wn hn hmo htd (i : Int) (by omega) (hz (i : Int) (by omega) (by omega))) (cwV 1 hts gX3_digest_X3_untilLighter rfl rfl rfl (by decide +kernel) ⟨Nat.le_of_ble_eq_true rfl, Nat.le_of_ble_eq_true rfl⟩) hP hS hA rfl rfl rfl hl.1 rfl (Nat.le_of_ble_eq_true rfl) dX3_digest_252 ⟨Nat.le_of_ble_eq_true rfl, Nat.le_of_ble_eq_true rfl⟩ (fun H locs hP hS _ _ => ?_)
                refine W.eq (g2 := F0 m9 255 ls [.int (zI (flD (wT mo n td (i : Int)))), .long ((h31 (h31 (h31 (h31 (h31 (h31 (dqM pa sp al mo n td st (dcM co da (sdM al mo n td wn) 12) i) (al (i : Int))) (pa (i : Int))) (sp (i : Int))) (wsM mo n (i : Int) td)) (smF (gtF (lM mo td (i : Int))) n)) (mxF (lM mo td (i : Int)) n)) * (31 : Int64))]) rfl ?_
                refine lv_i2l hx hb dX3_digest_255 rfl ?_
                refine lv_ladd hx hb dX3_digest_256 ?_
                refine W.eq (g2 := F0 m9 257 ls [.long (h31 (h31 (h31 (h31 (h31 (h31 (h31 (dqM pa sp al mo n td st (dcM co da (sdM al mo n td wn) 12) i) (al (i : Int))) (pa (i : Int))) (sp (i : Int))) (wsM mo n (i : Int) td)) (smF (gtF (lM mo td (i : Int))) n)) (mxF (lM mo td (i : Int)) n)) (flD (wT mo n td (i : Int))))]) rfl ?_
                refine lv_lstore_n (lv' := [(2, .long (h31 (h31 (h31 (h31 (h31 (h31 (h31 (dqM pa sp al mo n td st (dcM co da (sdM al mo n td wn) 12) i) (al (i : Int))) (pa (i : Int))) (sp (i : Int))) (wsM mo n (i : Int) td)) (smF (gtF (lM mo td (i : Int))) n)) (mxF (lM mo td (i : Int)) n)) (flD (wT mo n td (i : Int))))), (4, .int (zI (i : Int))), (1, .ref a9), (0, .ref (q 0))]) hx hb dX3_digest_257 rfl hl (by decide) rfl (fun ls hl => ?_)
                refine zr_iconst hx hb dX3_digest_258 ?_
                refine lv_istore (lv' := [(5, .int (zI 1)), (2, .long (h31 (h31 (h31 (h31 (h31 (h31 (h31 (dqM pa sp al mo n td st (dcM co da (sdM al mo n td wn) 12) i) (al (i : Int))) (pa (i : Int))) (sp (i : Int))) (wsM mo n (i : Int) td)) (smF (gtF (lM mo td (i : Int))) n)) (mxF (lM mo td (i : Int)) n)) (flD (wT mo n td (i : Int))))), (4, .int (zI (i : Int))), (1, .ref a9), (0, .ref (q 0))]) hx hb dX3_digest_259 hl (by decide) rfl (fun ls hl => ?_)
                have L261_20 : ∀ (kf g : Nat), g ≤ 4 → 4 - g < kf → ∀ (H : Heap) (locs : List Loc) (ls : Array Slot), va_P D vwCl (wM cI cZ q pa sp al co da mo (dsP pa sp n (i : Int) (dsM pa sp n st i) g) mr 0 n td wn) H → va_S (fun a => a ∈ zLM q ∨ sz ≤ a) s9.heap H locs → lv_has ls 8 [(5, .int (zI ((g : Int) + 1))), (2, .long (dkM pa sp al n (i : Int) (dsM pa sp n st i) (dhM pa sp al mo n td (dqM pa sp al mo n td st (dcM co da (sdM al mo n td wn) 12) i) (i : Int)) g)), (4, .int (zI (i : Int))), (1, .ref a9), (0, .ref (q 0))] → W p0 l e9 ({ frames := 4, cells := 1, slots := 6, locals := 99 }) s9 m9 ag9 below meth c9 H locs 1 6 Q0 (F0 m9 261 ls []) := by
                  intro kf
                  induction kf with
                  | zero => intro g h1 h2; omega
                  | succ kf ih =>
                    intro g hi_g hk_g H locs ls hP hS hl
                    have ih_g := ih
                    clear ih
                    refine lv_iload hx hb dX3_digest_261 (lv_at hl 0 rfl) ?_
                    refine zr_iconst hx hb dX3_digest_263 ?_
                    refine zr_icmp_gt (tgt := 289) hx hb dX3_digest_264 (by decide) ⟨by omega, by omega⟩ ⟨by decide, by decide⟩ (fun c_21 => ?_) (fun c_21 => ?_)
                    · have c_21 := c_21
                      have x_22 : g = 4 := by omega
                      try rw [x_22] at hP
                      try rw [x_22] at hl
                      refine zr_iinc (v := (i : Int) + 1) (lv' := [(4, .int (zI ((i : Int) + 1))), (5, .int (zI (((4 : Nat) : Int) + 1))), (2, .long (dkM pa sp al n (i : Int) (dsM pa sp n st i) (dhM pa sp al mo n td (dqM pa sp al mo n td st (dcM co da (sdM al mo n td wn) 12) i) (i : Int)) 4)), (1, .ref a9), (0, .ref (q 0))]) hx hb dX3_digest_289 hl (k := 2) rfl rfl (by decide) rfl (fun ls hl => ?_)
                      refine lv_goto (tgt := 144) hx hb dX3_digest_292 (by decide) ?_
                      have hl := lv_sub hl (l' := [(4, .int (zI ((i : Int) + 1))), (2, .long (dkM pa sp al n (i : Int) (dsM pa sp n st i) (dhM pa sp al mo n td (dqM pa sp al mo n td st (dcM co da (sdM al mo n td wn) 12) i) (i : Int)) 4)), (1, .ref a9), (0, .ref (q 0))]) [0, 2, 3, 4] rfl
                      have e_23 : ((((i + 1) : Nat) : Int) : Int) = (i : Int) + 1 := by omega
                      have e_24 : (dqM pa sp al mo n td st (dcM co da (sdM al mo n td wn) 12) (i + 1) : Int64) = dkM pa sp al n (i : Int) (dsM pa sp n st i) (dhM pa sp al mo n td (dqM pa sp al mo n td st (dcM co da (sdM al mo n td wn) 12) i) (i : Int)) 4 := rfl
                      have hl : lv_has ls 8 [(4, .int (zI (((i + 1) : Nat) : Int))), (2, .long (dqM pa sp al mo n td st (dcM co da (sdM al mo n td wn) 12) (i + 1))), (1, .ref a9), (0, .ref (q 0))] := by rw [e_23, e_24]; exact hl
                      have e_25 : (dsM pa sp n st (i + 1) : Int → Int) = dsP pa sp n (i : Int) (dsM pa sp n st i) 4 := rfl
                      have hP : va_P D vwCl (wM cI cZ q pa sp al co da mo (dsM pa sp n st (i + 1)) mr 0 n td wn) H := by rw [e_25]; exact hP
                      exact ih_i (i + 1) (by omega) (by omega) _ _ _ hP hS hl
                    · have c_21 := c_21
                      refine lv_lload_n hx hb dX3_digest_267 rfl (lv_at hl 1 rfl) ?_
                      refine lv_ldc2 (v := 31) hx hb hown (hts (.constantLong RX3 177 (31)) (by decide +kernel)) dX3_digest_268 ?_
                      refine lv_lmul hx hb dX3_digest_271 ?_
                      refine lv_aload_n hx hb dX3_digest_272 rfl (lv_at hl 4 rfl) ?_
                      refine lv_iload hx hb dX3_digest_273 (lv_at hl 2 rfl) ?_
                      refine lv_iload hx hb dX3_digest_275 (lv_at hl 0 rfl) ?_
                      refine zcallV (ci := 3) (q0 := 0) (cq := (RX3, TX3, 12)) (As := [.int (zI (i : Int)), .int (zI ((g : Int) + 1))]) (rest := [.long ((dkM pa sp al n (i : Int) (dsM pa sp n st i) (dhM pa sp al mo n td (dqM pa sp al mo n td st (dcM co da (sdM al mo n td wn) 12) i) (i : Int)) g) * (31 : Int64))]) ⟨hx, hb, hml, hown, hts⟩ hK (kX3_kin l D cI cZ q hN pa sp al co da mo (dsP pa sp n (i : Int) (dsM pa sp n st i) g) mr 0 n td wn hpa hsp hal (dsP_bd (pa := pa) (sp := sp) (n := n) (p := (i : Int)) (dsM_bd (pa := pa) (sp := sp) (n := n) hst i) g) hn (i : Int) ((g : Int) + 1) (by omega) (by omega)) (cwV 2 hts gX3_digest_X3_kin rfl rfl rfl (by decide +kernel) ⟨Nat.le_of_ble_eq_true rfl, Nat.le_of_ble_eq_true rfl⟩) hP hS hA rfl rfl rfl hl.1 rfl (Nat.le_of_ble_eq_true rfl) dX3_digest_277 ⟨Nat.le_of_ble_eq_true rfl, Nat.le_of_ble_eq_true rfl⟩ (fun H locs hP hS _ _ => ?_)
                      have g_26 : ∀ j : Int, -1 ≤ (goF pa sp n (dsP pa sp n (i : Int) (dsM pa sp n st i) g) (i : Int)) j ∧ (goF pa sp n (dsP pa sp n (i : Int) (dsM pa sp n st i) g) (i : Int)) j ≤ 4 := goF_bd (dsP_bd (pa := pa) (sp := sp) (n := n) (p := (i : Int)) (dsM_bd (pa := pa) (sp := sp) (n := n) hst i) g) pa sp n (i : Int)
                      refine W.eq (g2 := F0 m9 280 ls [.int (zI (smF (kinF al (goF pa sp n (dsP pa sp n (i : Int) (dsM pa sp n st i) g) (i : Int)) ((g : Int) + 1)) n)), .long ((dkM pa sp al n (i : Int) (dsM pa sp n st i) (dhM pa sp al mo n td (dqM pa sp al mo n td st (dcM co da (sdM al mo n td wn) 12) i) (i : Int)) g) * (31 : Int64))]) rfl ?_
                      refine lv_i2l hx hb dX3_digest_280 rfl ?_
                      refine lv_ladd hx hb dX3_digest_281 ?_
                      refine W.eq (g2 := F0 m9 282 ls [.long (h31 (dkM pa sp al n (i : Int) (dsM pa sp n st i) (dhM pa sp al mo n td (dqM pa sp al mo n td st (dcM co da (sdM al mo n td wn) 12) i) (i : Int)) g) (smF (kinF al (goF pa sp n (dsP pa sp n (i : Int) (dsM pa sp n st i) g) (i : Int)) ((g : Int) + 1)) n))]) rfl ?_
                      refine lv_lstore_n (lv' := [(2, .long (h31 (dkM pa sp al n (i : Int) (dsM pa sp n st i) (dhM pa sp al mo n td (dqM pa sp al mo n td st (dcM co da (sdM al mo n td wn) 12) i) (i : Int)) g) (smF (kinF al (goF pa sp n (dsP pa sp n (i : Int) (dsM pa sp n st i) g) (i : Int)) ((g : Int) + 1)) n))), (5, .int (zI ((g : Int) + 1))), (4, .int (zI (i : Int))), (1, .ref a9), (0, .ref (q 0))]) hx hb dX3_digest_282 rfl hl (by decide) rfl (fun ls hl => ?_)
                      refine zr_iinc (v := ((g : Int) + 1) + 1) (lv' := [(5, .int (zI (((g : Int) + 1) + 1))), (2, .long (h31 (dkM pa sp al n (i : Int) (dsM pa sp n st i) (dhM pa sp al mo n td (dqM pa sp al mo n td st (dcM co da (sdM al mo n td wn) 12) i) (i : Int)) g) (smF (kinF al (goF pa sp n (dsP pa sp n (i : Int) (dsM pa sp n st i) g) (i : Int)) ((g : Int) + 1)) n))), (4, .int (zI (i : Int))), (1, .ref a9), (0, .ref (q 0))]) hx hb dX3_digest_283 hl (k := 1) rfl rfl (by decide) rfl (fun ls hl => ?_)
                      refine lv_goto (tgt := 261) hx hb dX3_digest_286 (by decide) ?_
                      have hl := lv_sub hl (l' := [(5, .int (zI (((g : Int) + 1) + 1))), (2, .long (h31 (dkM pa sp al n (i : Int) (dsM pa sp n st i) (dhM pa sp al mo n td (dqM pa sp al mo n td st (dcM co da (sdM al mo n td wn) 12) i) (i : Int)) g) (smF (kinF al (goF pa sp n (dsP pa sp n (i : Int) (dsM pa sp n st i) g) (i : Int)) ((g : Int) + 1)) n))), (4, .int (zI (i : Int))), (1, .ref a9), (0, .ref (q 0))]) [0, 1, 2, 3, 4] rfl
                      have e_27 : ((((g + 1) : Nat) : Int) + 1 : Int) = ((g : Int) + 1) + 1 := by omega
                      have e_28 : (dkM pa sp al n (i : Int) (dsM pa sp n st i) (dhM pa sp al mo n td (dqM pa sp al mo n td st (dcM co da (sdM al mo n td wn) 12) i) (i : Int)) (g + 1) : Int64) = h31 (dkM pa sp al n (i : Int) (dsM pa sp n st i) (dhM pa sp al mo n td (dqM pa sp al mo n td st (dcM co da (sdM al mo n td wn) 12) i) (i : Int)) g) (smF (kinF al (goF pa sp n (dsP pa sp n (i : Int) (dsM pa sp n st i) g) (i : Int)) ((g : Int) + 1)) n) := rfl
                      have hl : lv_has ls 8 [(5, .int (zI ((((g + 1) : Nat) : Int) + 1))), (2, .long (dkM pa sp al n (i : Int) (dsM pa sp n st i) (dhM pa sp al mo n td (dqM pa sp al mo n td st (dcM co da (sdM al mo n td wn) 12) i) (i : Int)) (g + 1))), (4, .int (zI (i : Int))), (1, .ref a9), (0, .ref (q 0))] := by rw [e_27, e_28]; exact hl
                      have e_29 : (dsP pa sp n (i : Int) (dsM pa sp n st i) (g + 1) : Int → Int) = goF pa sp n (dsP pa sp n (i : Int) (dsM pa sp n st i) g) (i : Int) := rfl
                      have hP : va_P D vwCl (wM cI cZ q pa sp al co da mo (dsP pa sp n (i : Int) (dsM pa sp n st i) (g + 1)) mr 0 n td wn) H := by rw [e_29]; exact hP
                      exact ih_g (g + 1) (by omega) (by omega) _ _ _ hP hS hl
                have hl := lv_sub hl (l' := [(5, .int (zI 1)), (2, .long (h31 (h31 (h31 (h31 (h31 (h31 (h31 (dqM pa sp al mo n td st (dcM co da (sdM al mo n td wn) 12) i) (al (i : Int))) (pa (i : Int))) (sp (i : Int))) (wsM mo n (i : Int) td)) (smF (gtF (lM mo td (i : Int))) n)) (mxF (lM mo td (i : Int)) n)) (flD (wT mo n td (i : Int))))), (4, .int (zI (i : Int))), (1, .ref a9), (0, .ref (q 0))]) [0, 1, 2, 3, 4] rfl
                have e_30 : (((0 : Nat) : Int) + 1 : Int) = 1 := rfl
                have e_31 : (dkM pa sp al n (i : Int) (dsM pa sp n st i) (dhM pa sp al mo n td (dqM pa sp al mo n td st (dcM co da (sdM al mo n td wn) 12) i) (i : Int)) 0 : Int64) = h31 (h31 (h31 (h31 (h31 (h31 (h31 (dqM pa sp al mo n td st (dcM co da (sdM al mo n td wn) 12) i) (al (i : Int))) (pa (i : Int))) (sp (i : Int))) (wsM mo n (i : Int) td)) (smF (gtF (lM mo td (i : Int))) n)) (mxF (lM mo td (i : Int)) n)) (flD (wT mo n td (i : Int))) := rfl
                have hl : lv_has ls 8 [(5, .int (zI (((0 : Nat) : Int) + 1))), (2, .long (dkM pa sp al n (i : Int) (dsM pa sp n st i) (dhM pa sp al mo n td (dqM pa sp al mo n td st (dcM co da (sdM al mo n td wn) 12) i) (i : Int)) 0)), (4, .int (zI (i : Int))), (1, .ref a9), (0, .ref (q 0))] := by rw [e_30, e_31]; exact hl
                have e_32 : (dsP pa sp n (i : Int) (dsM pa sp n st i) 0 : Int → Int) = dsM pa sp n st i := rfl
                have hP : va_P D vwCl (wM cI cZ q pa sp al co da mo (dsP pa sp n (i : Int) (dsM pa sp n st i) 0) mr 0 n td wn) H := by rw [e_32]; exact hP
                exact L261_20 (4 + 1) 0 (Nat.zero_le _) (by omega) _ _ _ hP hS hl
              · have c_15 := c_15
                refine zr_iconst hx hb dX3_digest_168 ?_
                refine lv_goto (tgt := 173) hx hb dX3_digest_169 (by decide) ?_
                refine W.eq (g2 := F0 m9 173 ls [.int (zI (al (i : Int))), .long ((dqM pa sp al mo n td st (dcM co da (sdM al mo n td wn) 12) i) * (31 : Int64))]) (by rw [show al (i : Int) = 1 by omega]) ?_
                refine lv_i2l hx hb dX3_digest_173 rfl ?_
                refine lv_ladd hx hb dX3_digest_174 ?_
                refine W.eq (g2 := F0 m9 175 ls [.long (h31 (dqM pa sp al mo n td st (dcM co da (sdM al mo n td wn) 12) i) (al (i : Int)))]) rfl ?_
                refine lv_ldc2 (v := 31) hx hb hown (hts (.constantLong RX3 177 (31)) (by decide +kernel)) dX3_digest_175 ?_
                refine lv_lmul hx hb dX3_digest_178 ?_
                refine lv_aload_n hx hb dX3_digest_179 rfl (lv_at hl 3 rfl) ?_
                refine va_get (D := D) (ci := 3) (v := .ref (q 1)) (C := RX3) (T := TX3) (N := 12) hx hb hts hin3 hown hK hP 0 rfl rfl 2 (by decide) (hts (.fieldLink RX3 9 "MourningRibbonsModel" "parent" "[I") (by decide +kernel)) (fun _ h9 => h9) rfl dX3_digest_180 ?_
                refine lv_iload hx hb dX3_digest_183 (lv_at hl 0 rfl) ?_
                refine zr_iald (f := pa) (n := 16) hx hb hK hP 1 0 rfl rfl (by decide) (i := (i : Int)) (by omega) (by omega) dX3_digest_185 ?_
                have b_33 := hpa (i : Int)
                refine lv_i2l hx hb dX3_digest_186 rfl ?_
                refine lv_ladd hx hb dX3_digest_187 ?_
                refine W.eq (g2 := F0 m9 188 ls [.long (h31 (h31 (dqM pa sp al mo n td st (dcM co da (sdM al mo n td wn) 12) i) (al (i : Int))) (pa (i : Int)))]) rfl ?_
                refine lv_ldc2 (v := 31) hx hb hown (hts (.constantLong RX3 177 (31)) (by decide +kernel)) dX3_digest_188 ?_
                refine lv_lmul hx hb dX3_digest_191 ?_
                refine lv_aload_n hx hb dX3_digest_192 rfl (lv_at hl 3 rfl) ?_
                refine va_get (D := D) (ci := 3) (v := .ref (q 2)) (C := RX3) (T := TX3) (N := 12) hx hb hts hin3 hown hK hP 0 rfl rfl 3 (by decide) (hts (.fieldLink RX3 13 "MourningRibbonsModel" "married" "[I") (by decide +kernel)) (fun _ h9 => h9) rfl dX3_digest_193 ?_
                refine lv_iload hx hb dX3_digest_196 (lv_at hl 0 rfl) ?_
                refine zr_iald (f := sp) (n := 16) hx hb hK hP 2 0 rfl rfl (by decide) (i := (i : Int)) (by omega) (by omega) dX3_digest_198 ?_
                have b_34 := hsp (i : Int)
                refine lv_i2l hx hb dX3_digest_199 rfl ?_
                refine lv_ladd hx hb dX3_digest_200 ?_
                refine W.eq (g2 := F0 m9 201 ls [.long (h31 (h31 (h31 (dqM pa sp al mo n td st (dcM co da (sdM al mo n td wn) 12) i) (al (i : Int))) (pa (i : Int))) (sp (i : Int)))]) rfl ?_
                refine lv_lstore_n (lv' := [(2, .long (h31 (h31 (h31 (dqM pa sp al mo n td st (dcM co da (sdM al mo n td wn) 12) i) (al (i : Int))) (pa (i : Int))) (sp (i : Int)))), (4, .int (zI (i : Int))), (1, .ref a9), (0, .ref (q 0))]) hx hb dX3_digest_201 rfl hl (by decide) rfl (fun ls hl => ?_)
                refine lv_lload_n hx hb dX3_digest_202 rfl (lv_at hl 0 rfl) ?_
                refine lv_ldc2 (v := 31) hx hb hown (hts (.constantLong RX3 177 (31)) (by decide +kernel)) dX3_digest_203 ?_
                refine lv_lmul hx hb dX3_digest_206 ?_
                refine lv_aload_n hx hb dX3_digest_207 rfl (lv_at hl 3 rfl) ?_
                refine lv_iload hx hb dX3_digest_208 (lv_at hl 1 rfl) ?_
                refine lv_aload_n hx hb dX3_digest_210 rfl (lv_at hl 3 rfl) ?_
                refine va_get (D := D) (ci := 3) (v := .int (zI td)) (C := RX3) (T := TX3) (N := 12) hx hb hts hin3 hown hK hP 0 rfl rfl 8 (by decide) (hts (.fieldLink RX3 95 "MourningRibbonsModel" "today" "I") (by decide +kernel)) (fun _ h9 => h9) rfl dX3_digest_211 ?_
                refine zcallV (ci := 3) (q0 := 0) (cq := (RX3, TX3, 12)) (As := [.int (zI (i : Int)), .int (zI td)]) (rest := [.long ((h31 (h31 (h31 (dqM pa sp al mo n td st (dcM co da (sdM al mo n td wn) 12) i) (al (i : Int))) (pa (i : Int))) (sp (i : Int))) * (31 : Int64))]) ⟨hx, hb, hml, hown, hts⟩ hK (kX3_wears l D cI cZ q hN pa sp al co da mo (dsM pa sp n st i) mr 0 n td wn hn hmo (i : Int) td (by omega) (by omega)) (cwV 2 hts gX3_digest_X3_wears rfl rfl rfl (by decide +kernel) ⟨Nat.le_of_ble_eq_true rfl, Nat.le_of_ble_eq_true rfl⟩) hP hS hA rfl rfl rfl hl.1 rfl (Nat.le_of_ble_eq_true rfl) dX3_digest_214 ⟨Nat.le_of_ble_eq_true rfl, Nat.le_of_ble_eq_true rfl⟩ (fun H locs hP hS _ _ => ?_)
                refine W.eq (g2 := F0 m9 217 ls [.int (zI (wsM mo n (i : Int) td)), .long ((h31 (h31 (h31 (dqM pa sp al mo n td st (dcM co da (sdM al mo n td wn) 12) i) (al (i : Int))) (pa (i : Int))) (sp (i : Int))) * (31 : Int64))]) rfl ?_
                have f_35 := wsM_bd hmo n (i : Int) td
                refine lv_i2l hx hb dX3_digest_217 rfl ?_
                refine lv_ladd hx hb dX3_digest_218 ?_
                refine W.eq (g2 := F0 m9 219 ls [.long (h31 (h31 (h31 (h31 (dqM pa sp al mo n td st (dcM co da (sdM al mo n td wn) 12) i) (al (i : Int))) (pa (i : Int))) (sp (i : Int))) (wsM mo n (i : Int) td))]) rfl ?_
                refine lv_ldc2 (v := 31) hx hb hown (hts (.constantLong RX3 177 (31)) (by decide +kernel)) dX3_digest_219 ?_
                refine lv_lmul hx hb dX3_digest_222 ?_
                refine lv_aload_n hx hb dX3_digest_223 rfl (lv_at hl 3 rfl) ?_
                refine lv_iload hx hb dX3_digest_224 (lv_at hl 1 rfl) ?_
                refine zcallV (ci := 3) (q0 := 0) (cq := (RX3, TX3, 12)) (As := [.int (zI (i : Int))]) (rest := [.long ((h31 (h31 (h31 (h31 (dqM pa sp al mo n td st (dcM co da (sdM al mo n td wn) 12) i) (al (i : Int))) (pa (i : Int))) (sp (i : Int))) (wsM mo n (i : Int) td)) * (31 : Int64))]) ⟨hx, hb, hml, hown, hts⟩ hK (kX3_mournings l D cI cZ q hN pa sp al co da mo (dsM pa sp n st i) mr 0 n td wn hn hmo htd (i : Int) (by omega)) (cwV 1 hts gX3_digest_X3_mournings rfl rfl rfl (by decide +kernel) ⟨Nat.le_of_ble_eq_true rfl, Nat.le_of_ble_eq_true rfl⟩) hP hS hA rfl rfl rfl hl.1 rfl (Nat.le_of_ble_eq_true rfl) dX3_digest_226 ⟨Nat.le_of_ble_eq_true rfl, Nat.le_of_ble_eq_true rfl⟩ (fun H locs hP hS _ _ => ?_)
                refine W.eq (g2 := F0 m9 229 ls [.int (zI (smF (gtF (lM mo td (i : Int))) n)), .long ((h31 (h31 (h31 (h31 (dqM pa sp al mo n td st (dcM co da (sdM al mo n td wn) 12) i) (al (i : Int))) (pa (i : Int))) (sp (i : Int))) (wsM mo n (i : Int) td)) * (31 : Int64))]) rfl ?_
                refine lv_i2l hx hb dX3_digest_229 rfl ?_
                refine lv_ladd hx hb dX3_digest_230 ?_
                refine W.eq (g2 := F0 m9 231 ls [.long (h31 (h31 (h31 (h31 (h31 (dqM pa sp al mo n td st (dcM co da (sdM al mo n td wn) 12) i) (al (i : Int))) (pa (i : Int))) (sp (i : Int))) (wsM mo n (i : Int) td)) (smF (gtF (lM mo td (i : Int))) n))]) rfl ?_
                refine lv_ldc2 (v := 31) hx hb hown (hts (.constantLong RX3 177 (31)) (by decide +kernel)) dX3_digest_231 ?_
                refine lv_lmul hx hb dX3_digest_234 ?_
                refine lv_aload_n hx hb dX3_digest_235 rfl (lv_at hl 3 rfl) ?_
                refine lv_iload hx hb dX3_digest_236 (lv_at hl 1 rfl) ?_
                refine zcallV (ci := 3) (q0 := 0) (cq := (RX3, TX3, 12)) (As := [.int (zI (i : Int))]) (rest := [.long ((h31 (h31 (h31 (h31 (h31 (dqM pa sp al mo n td st (dcM co da (sdM al mo n td wn) 12) i) (al (i : Int))) (pa (i : Int))) (sp (i : Int))) (wsM mo n (i : Int) td)) (smF (gtF (lM mo td (i : Int))) n)) * (31 : Int64))]) ⟨hx, hb, hml, hown, hts⟩ hK (kX3_most l D cI cZ q hN pa sp al co da mo (dsM pa sp n st i) mr 0 n td wn hn hmo htd (i : Int) (by omega)) (cwV 1 hts gX3_digest_X3_most rfl rfl rfl (by decide +kernel) ⟨Nat.le_of_ble_eq_true rfl, Nat.le_of_ble_eq_true rfl⟩) hP hS hA rfl rfl rfl hl.1 rfl (Nat.le_of_ble_eq_true rfl) dX3_digest_238 ⟨Nat.le_of_ble_eq_true rfl, Nat.le_of_ble_eq_true rfl⟩ (fun H locs hP hS _ _ => ?_)
                refine W.eq (g2 := F0 m9 241 ls [.int (zI (mxF (lM mo td (i : Int)) n)), .long ((h31 (h31 (h31 (h31 (h31 (dqM pa sp al mo n td st (dcM co da (sdM al mo n td wn) 12) i) (al (i : Int))) (pa (i : Int))) (sp (i : Int))) (wsM mo n (i : Int) td)) (smF (gtF (lM mo td (i : Int))) n)) * (31 : Int64))]) rfl ?_
                have f_36 := mxF_bd (f := lM mo td (i : Int)) (k := n) (B := 4000000) (by decide) (fun j => (lM_bd hmo htd (i : Int) j).2)
                refine lv_i2l hx hb dX3_digest_241 rfl ?_
                refine lv_ladd hx hb dX3_digest_242 ?_
                refine W.eq (g2 := F0 m9 243 ls [.long (h31 (h31 (h31 (h31 (h31 (h31 (dqM pa sp al mo n td st (dcM co da (sdM al mo n td wn) 12) i) (al (i : Int))) (pa (i : Int))) (sp (i : Int))) (wsM mo n (i : Int) td)) (smF (gtF (lM mo td (i : Int))) n)) (mxF (lM mo td (i : Int)) n))]) rfl ?_
                refine lv_lstore_n (lv' := [(2, .long (h31 (h31 (h31 (h31 (h31 (h31 (dqM pa sp al mo n td st (dcM co da (sdM al mo n td wn) 12) i) (al (i : Int))) (pa (i : Int))) (sp (i : Int))) (wsM mo n (i : Int) td)) (smF (gtF (lM mo td (i : Int))) n)) (mxF (lM mo td (i : Int)) n))), (4, .int (zI (i : Int))), (1, .ref a9), (0, .ref (q 0))]) hx hb dX3_digest_243 rfl hl (by decide) rfl (fun ls hl => ?_)
                refine lv_lload_n hx hb dX3_digest_244 rfl (lv_at hl 0 rfl) ?_
                refine lv_ldc2 (v := 31) hx hb hown (hts (.constantLong RX3 177 (31)) (by decide +kernel)) dX3_digest_245 ?_
                refine lv_lmul hx hb dX3_digest_248 ?_
                refine lv_aload_n hx hb dX3_digest_249 rfl (lv_at hl 3 rfl) ?_
                refine lv_iload hx hb dX3_digest_250 (lv_at hl 1 rfl) ?_
                refine zcallV (ci := 3) (q0 := 0) (cq := (RX3, TX3, 12)) (As := [.int (zI (i : Int))]) (rest := [.long ((h31 (h31 (h31 (h31 (h31 (h31 (dqM pa sp al mo n td st (dcM co da (sdM al mo n td wn) 12) i) (al (i : Int))) (pa (i : Int))) (sp (i : Int))) (wsM mo n (i : Int) td)) (smF (gtF (lM mo td (i : Int))) n)) (mxF (lM mo td (i : Int)) n)) * (31 : Int64))]) ⟨hx, hb, hml, hown, hts⟩ hK (kX3_untilLighter l D cI cZ q hN pa sp al co da mo (dsM pa sp n st i) mr 0 n td wn hn hmo htd (i : Int) (by omega) (hz (i : Int) (by omega) (by omega))) (cwV 1 hts gX3_digest_X3_untilLighter rfl rfl rfl (by decide +kernel) ⟨Nat.le_of_ble_eq_true rfl, Nat.le_of_ble_eq_true rfl⟩) hP hS hA rfl rfl rfl hl.1 rfl (Nat.le_of_ble_eq_true rfl) dX3_digest_252 ⟨Nat.le_of_ble_eq_true rfl, Nat.le_of_ble_eq_true rfl⟩ (fun H locs hP hS _ _ => ?_)
                refine W.eq (g2 := F0 m9 255 ls [.int (zI (flD (wT mo n td (i : Int)))), .long ((h31 (h31 (h31 (h31 (h31 (h31 (dqM pa sp al mo n td st (dcM co da (sdM al mo n td wn) 12) i) (al (i : Int))) (pa (i : Int))) (sp (i : Int))) (wsM mo n (i : Int) td)) (smF (gtF (lM mo td (i : Int))) n)) (mxF (lM mo td (i : Int)) n)) * (31 : Int64))]) rfl ?_
                refine lv_i2l hx hb dX3_digest_255 rfl ?_
                refine lv_ladd hx hb dX3_digest_256 ?_
                refine W.eq (g2 := F0 m9 257 ls [.long (h31 (h31 (h31 (h31 (h31 (h31 (h31 (dqM pa sp al mo n td st (dcM co da (sdM al mo n td wn) 12) i) (al (i : Int))) (pa (i : Int))) (sp (i : Int))) (wsM mo n (i : Int) td)) (smF (gtF (lM mo td (i : Int))) n)) (mxF (lM mo td (i : Int)) n)) (flD (wT mo n td (i : Int))))]) rfl ?_
                refine lv_lstore_n (lv' := [(2, .long (h31 (h31 (h31 (h31 (h31 (h31 (h31 (dqM pa sp al mo n td st (dcM co da (sdM al mo n td wn) 12) i) (al (i : Int))) (pa (i : Int))) (sp (i : Int))) (wsM mo n (i : Int) td)) (smF (gtF (lM mo td (i : Int))) n)) (mxF (lM mo td (i : Int)) n)) (flD (wT mo n td (i : Int))))), (4, .int (zI (i : Int))), (1, .ref a9), (0, .ref (q 0))]) hx hb dX3_digest_257 rfl hl (by decide) rfl (fun ls hl => ?_)
                refine zr_iconst hx hb dX3_digest_258 ?_
                refine lv_istore (lv' := [(5, .int (zI 1)), (2, .long (h31 (h31 (h31 (h31 (h31 (h31 (h31 (dqM pa sp al mo n td st (dcM co da (sdM al mo n td wn) 12) i) (al (i : Int))) (pa (i : Int))) (sp (i : Int))) (wsM mo n (i : Int) td)) (smF (gtF (lM mo td (i : Int))) n)) (mxF (lM mo td (i : Int)) n)) (flD (wT mo n td (i : Int))))), (4, .int (zI (i : Int))), (1, .ref a9), (0, .ref (q 0))]) hx hb dX3_digest_259 hl (by decide) rfl (fun ls hl => ?_)
                have L261_37 : ∀ (kf g : Nat), g ≤ 4 → 4 - g < kf → ∀ (H : Heap) (locs : List Loc) (ls : Array Slot), va_P D vwCl (wM cI cZ q pa sp al co da mo (dsP pa sp n (i : Int) (dsM pa sp n st i) g) mr 0 n td wn) H → va_S (fun a => a ∈ zLM q ∨ sz ≤ a) s9.heap H locs → lv_has ls 8 [(5, .int (zI ((g : Int) + 1))), (2, .long (dkM pa sp al n (i : Int) (dsM pa sp n st i) (dhM pa sp al mo n td (dqM pa sp al mo n td st (dcM co da (sdM al mo n td wn) 12) i) (i : Int)) g)), (4, .int (zI (i : Int))), (1, .ref a9), (0, .ref (q 0))] → W p0 l e9 ({ frames := 4, cells := 1, slots := 6, locals := 99 }) s9 m9 ag9 below meth c9 H locs 1 6 Q0 (F0 m9 261 ls []) := by
                  intro kf
                  induction kf with
                  | zero => intro g h1 h2; omega
                  | succ kf ih =>
                    intro g hi_g hk_g H locs ls hP hS hl
                    have ih_g := ih
                    clear ih
                    refine lv_iload hx hb dX3_digest_261 (lv_at hl 0 rfl) ?_
                    refine zr_iconst hx hb dX3_digest_263 ?_
                    refine zr_icmp_gt (tgt := 289) hx hb dX3_digest_264 (by decide) ⟨by omega, by omega⟩ ⟨by decide, by decide⟩ (fun c_38 => ?_) (fun c_38 => ?_)
                    · have c_38 := c_38
                      have x_39 : g = 4 := by omega
                      try rw [x_39] at hP
                      try rw [x_39] at hl
                      refine zr_iinc (v := (i : Int) + 1) (lv' := [(4, .int (zI ((i : Int) + 1))), (5, .int (zI (((4 : Nat) : Int) + 1))), (2, .long (dkM pa sp al n (i : Int) (dsM pa sp n st i) (dhM pa sp al mo n td (dqM pa sp al mo n td st (dcM co da (sdM al mo n td wn) 12) i) (i : Int)) 4)), (1, .ref a9), (0, .ref (q 0))]) hx hb dX3_digest_289 hl (k := 2) rfl rfl (by decide) rfl (fun ls hl => ?_)
                      refine lv_goto (tgt := 144) hx hb dX3_digest_292 (by decide) ?_
                      have hl := lv_sub hl (l' := [(4, .int (zI ((i : Int) + 1))), (2, .long (dkM pa sp al n (i : Int) (dsM pa sp n st i) (dhM pa sp al mo n td (dqM pa sp al mo n td st (dcM co da (sdM al mo n td wn) 12) i) (i : Int)) 4)), (1, .ref a9), (0, .ref (q 0))]) [0, 2, 3, 4] rfl
                      have e_40 : ((((i + 1) : Nat) : Int) : Int) = (i : Int) + 1 := by omega
                      have e_41 : (dqM pa sp al mo n td st (dcM co da (sdM al mo n td wn) 12) (i + 1) : Int64) = dkM pa sp al n (i : Int) (dsM pa sp n st i) (dhM pa sp al mo n td (dqM pa sp al mo n td st (dcM co da (sdM al mo n td wn) 12) i) (i : Int)) 4 := rfl
                      have hl : lv_has ls 8 [(4, .int (zI (((i + 1) : Nat) : Int))), (2, .long (dqM pa sp al mo n td st (dcM co da (sdM al mo n td wn) 12) (i + 1))), (1, .ref a9), (0, .ref (q 0))] := by rw [e_40, e_41]; exact hl
                      have e_42 : (dsM pa sp n st (i + 1) : Int → Int) = dsP pa sp n (i : Int) (dsM pa sp n st i) 4 := rfl
                      have hP : va_P D vwCl (wM cI cZ q pa sp al co da mo (dsM pa sp n st (i + 1)) mr 0 n td wn) H := by rw [e_42]; exact hP
                      exact ih_i (i + 1) (by omega) (by omega) _ _ _ hP hS hl
                    · have c_38 := c_38
                      refine lv_lload_n hx hb dX3_digest_267 rfl (lv_at hl 1 rfl) ?_
                      refine lv_ldc2 (v := 31) hx hb hown (hts (.constantLong RX3 177 (31)) (by decide +kernel)) dX3_digest_268 ?_
                      refine lv_lmul hx hb dX3_digest_271 ?_
                      refine lv_aload_n hx hb dX3_digest_272 rfl (lv_at hl 4 rfl) ?_
                      refine lv_iload hx hb dX3_digest_273 (lv_at hl 2 rfl) ?_
                      refine lv_iload hx hb dX3_digest_275 (lv_at hl 0 rfl) ?_
                      refine zcallV (ci := 3) (q0 := 0) (cq := (RX3, TX3, 12)) (As := [.int (zI (i : Int)), .int (zI ((g : Int) + 1))]) (rest := [.long ((dkM pa sp al n (i : Int) (dsM pa sp n st i) (dhM pa sp al mo n td (dqM pa sp al mo n td st (dcM co da (sdM al mo n td wn) 12) i) (i : Int)) g) * (31 : Int64))]) ⟨hx, hb, hml, hown, hts⟩ hK (kX3_kin l D cI cZ q hN pa sp al co da mo (dsP pa sp n (i : Int) (dsM pa sp n st i) g) mr 0 n td wn hpa hsp hal (dsP_bd (pa := pa) (sp := sp) (n := n) (p := (i : Int)) (dsM_bd (pa := pa) (sp := sp) (n := n) hst i) g) hn (i : Int) ((g : Int) + 1) (by omega) (by omega)) (cwV 2 hts gX3_digest_X3_kin rfl rfl rfl (by decide +kernel) ⟨Nat.le_of_ble_eq_true rfl, Nat.le_of_ble_eq_true rfl⟩) hP hS hA rfl rfl rfl hl.1 rfl (Nat.le_of_ble_eq_true rfl) dX3_digest_277 ⟨Nat.le_of_ble_eq_true rfl, Nat.le_of_ble_eq_true rfl⟩ (fun H locs hP hS _ _ => ?_)
                      have g_43 : ∀ j : Int, -1 ≤ (goF pa sp n (dsP pa sp n (i : Int) (dsM pa sp n st i) g) (i : Int)) j ∧ (goF pa sp n (dsP pa sp n (i : Int) (dsM pa sp n st i) g) (i : Int)) j ≤ 4 := goF_bd (dsP_bd (pa := pa) (sp := sp) (n := n) (p := (i : Int)) (dsM_bd (pa := pa) (sp := sp) (n := n) hst i) g) pa sp n (i : Int)
                      refine W.eq (g2 := F0 m9 280 ls [.int (zI (smF (kinF al (goF pa sp n (dsP pa sp n (i : Int) (dsM pa sp n st i) g) (i : Int)) ((g : Int) + 1)) n)), .long ((dkM pa sp al n (i : Int) (dsM pa sp n st i) (dhM pa sp al mo n td (dqM pa sp al mo n td st (dcM co da (sdM al mo n td wn) 12) i) (i : Int)) g) * (31 : Int64))]) rfl ?_
                      refine lv_i2l hx hb dX3_digest_280 rfl ?_
                      refine lv_ladd hx hb dX3_digest_281 ?_
                      refine W.eq (g2 := F0 m9 282 ls [.long (h31 (dkM pa sp al n (i : Int) (dsM pa sp n st i) (dhM pa sp al mo n td (dqM pa sp al mo n td st (dcM co da (sdM al mo n td wn) 12) i) (i : Int)) g) (smF (kinF al (goF pa sp n (dsP pa sp n (i : Int) (dsM pa sp n st i) g) (i : Int)) ((g : Int) + 1)) n))]) rfl ?_
                      refine lv_lstore_n (lv' := [(2, .long (h31 (dkM pa sp al n (i : Int) (dsM pa sp n st i) (dhM pa sp al mo n td (dqM pa sp al mo n td st (dcM co da (sdM al mo n td wn) 12) i) (i : Int)) g) (smF (kinF al (goF pa sp n (dsP pa sp n (i : Int) (dsM pa sp n st i) g) (i : Int)) ((g : Int) + 1)) n))), (5, .int (zI ((g : Int) + 1))), (4, .int (zI (i : Int))), (1, .ref a9), (0, .ref (q 0))]) hx hb dX3_digest_282 rfl hl (by decide) rfl (fun ls hl => ?_)
                      refine zr_iinc (v := ((g : Int) + 1) + 1) (lv' := [(5, .int (zI (((g : Int) + 1) + 1))), (2, .long (h31 (dkM pa sp al n (i : Int) (dsM pa sp n st i) (dhM pa sp al mo n td (dqM pa sp al mo n td st (dcM co da (sdM al mo n td wn) 12) i) (i : Int)) g) (smF (kinF al (goF pa sp n (dsP pa sp n (i : Int) (dsM pa sp n st i) g) (i : Int)) ((g : Int) + 1)) n))), (4, .int (zI (i : Int))), (1, .ref a9), (0, .ref (q 0))]) hx hb dX3_digest_283 hl (k := 1) rfl rfl (by decide) rfl (fun ls hl => ?_)
                      refine lv_goto (tgt := 261) hx hb dX3_digest_286 (by decide) ?_
                      have hl := lv_sub hl (l' := [(5, .int (zI (((g : Int) + 1) + 1))), (2, .long (h31 (dkM pa sp al n (i : Int) (dsM pa sp n st i) (dhM pa sp al mo n td (dqM pa sp al mo n td st (dcM co da (sdM al mo n td wn) 12) i) (i : Int)) g) (smF (kinF al (goF pa sp n (dsP pa sp n (i : Int) (dsM pa sp n st i) g) (i : Int)) ((g : Int) + 1)) n))), (4, .int (zI (i : Int))), (1, .ref a9), (0, .ref (q 0))]) [0, 1, 2, 3, 4] rfl
                      have e_44 : ((((g + 1) : Nat) : Int) + 1 : Int) = ((g : Int) + 1) + 1 := by omega
                      have e_45 : (dkM pa sp al n (i : Int) (dsM pa sp n st i) (dhM pa sp al mo n td (dqM pa sp al mo n td st (dcM co da (sdM al mo n td wn) 12) i) (i : Int)) (g + 1) : Int64) = h31 (dkM pa sp al n (i : Int) (dsM pa sp n st i) (dhM pa sp al mo n td (dqM pa sp al mo n td st (dcM co da (sdM al mo n td wn) 12) i) (i : Int)) g) (smF (kinF al (goF pa sp n (dsP pa sp n (i : Int) (dsM pa sp n st i) g) (i : Int)) ((g : Int) + 1)) n) := rfl
                      have hl : lv_has ls 8 [(5, .int (zI ((((g + 1) : Nat) : Int) + 1))), (2, .long (dkM pa sp al n (i : Int) (dsM pa sp n st i) (dhM pa sp al mo n td (dqM pa sp al mo n td st (dcM co da (sdM al mo n td wn) 12) i) (i : Int)) (g + 1))), (4, .int (zI (i : Int))), (1, .ref a9), (0, .ref (q 0))] := by rw [e_44, e_45]; exact hl
                      have e_46 : (dsP pa sp n (i : Int) (dsM pa sp n st i) (g + 1) : Int → Int) = goF pa sp n (dsP pa sp n (i : Int) (dsM pa sp n st i) g) (i : Int) := rfl
                      have hP : va_P D vwCl (wM cI cZ q pa sp al co da mo (dsP pa sp n (i : Int) (dsM pa sp n st i) (g + 1)) mr 0 n td wn) H := by rw [e_46]; exact hP
                      exact ih_g (g + 1) (by omega) (by omega) _ _ _ hP hS hl
                have hl := lv_sub hl (l' := [(5, .int (zI 1)), (2, .long (h31 (h31 (h31 (h31 (h31 (h31 (h31 (dqM pa sp al mo n td st (dcM co da (sdM al mo n td wn) 12) i) (al (i : Int))) (pa (i : Int))) (sp (i : Int))) (wsM mo n (i : Int) td)) (smF (gtF (lM mo td (i : Int))) n)) (mxF (lM mo td (i : Int)) n)) (flD (wT mo n td (i : Int))))), (4, .int (zI (i : Int))), (1, .ref a9), (0, .ref (q 0))]) [0, 1, 2, 3, 4] rfl
                have e_47 : (((0 : Nat) : Int) + 1 : Int) = 1 := rfl
                have e_48 : (dkM pa sp al n (i : Int) (dsM pa sp n st i) (dhM pa sp al mo n td (dqM pa sp al mo n td st (dcM co da (sdM al mo n td wn) 12) i) (i : Int)) 0 : Int64) = h31 (h31 (h31 (h31 (h31 (h31 (h31 (dqM pa sp al mo n td st (dcM co da (sdM al mo n td wn) 12) i) (al (i : Int))) (pa (i : Int))) (sp (i : Int))) (wsM mo n (i : Int) td)) (smF (gtF (lM mo td (i : Int))) n)) (mxF (lM mo td (i : Int)) n)) (flD (wT mo n td (i : Int))) := rfl
                have hl : lv_has ls 8 [(5, .int (zI (((0 : Nat) : Int) + 1))), (2, .long (dkM pa sp al n (i : Int) (dsM pa sp n st i) (dhM pa sp al mo n td (dqM pa sp al mo n td st (dcM co da (sdM al mo n td wn) 12) i) (i : Int)) 0)), (4, .int (zI (i : Int))), (1, .ref a9), (0, .ref (q 0))] := by rw [e_47, e_48]; exact hl
                have e_49 : (dsP pa sp n (i : Int) (dsM pa sp n st i) 0 : Int → Int) = dsM pa sp n st i := rfl
                have hP : va_P D vwCl (wM cI cZ q pa sp al co da mo (dsP pa sp n (i : Int) (dsM pa sp n st i) 0) mr 0 n td wn) H := by rw [e_49]; exact hP
                exact L261_37 (4 + 1) 0 (Nat.zero_le _) (by omega) _ _ _ hP hS hl
        have hl := lv_sub hl (l' := [(4, .int (zI 0)), (2, .long (dcM co da (sdM al mo n td wn) 12)), (1, .ref a9), (0, .ref (q 0))]) [0, 1, 2, 3] rfl
        have e_50 : (dqM pa sp al mo n td st (dcM co da (sdM al mo n td wn) 12) 0 : Int64) = dcM co da (sdM al mo n td wn) 12 := rfl
        have hl : lv_has ls 8 [(4, .int (zI 0)), (2, .long (dqM pa sp al mo n td st (dcM co da (sdM al mo n td wn) 12) 0)), (1, .ref a9), (0, .ref (q 0))] := by rw [e_50]; exact hl
        have e_51 : (dsM pa sp n st 0 : Int → Int) = st := rfl
        have hP : va_P D vwCl (wM cI cZ q pa sp al co da mo (dsM pa sp n st 0) mr 0 n td wn) H := by rw [e_51]; exact hP
        exact L144_11 (n + 1) 0 (Nat.zero_le _) (by omega) _ _ _ hP hS hl
      · have c_9 := c_9
        refine lv_lload_n hx hb dX3_digest_107 rfl (lv_at hl 1 rfl) ?_
        refine lv_ldc2 (v := 31) hx hb hown (hts (.constantLong RX3 177 (31)) (by decide +kernel)) dX3_digest_108 ?_
        refine lv_lmul hx hb dX3_digest_111 ?_
        refine lv_aload_n hx hb dX3_digest_112 rfl (lv_at hl 3 rfl) ?_
        refine va_get (D := D) (ci := 3) (v := .ref (q 4)) (C := RX3) (T := TX3) (N := 12) hx hb hts hin3 hown hK hP 0 rfl rfl 5 (by decide) (hts (.fieldLink RX3 20 "MourningRibbonsModel" "colour" "[I") (by decide +kernel)) (fun _ h9 => h9) rfl dX3_digest_113 ?_
        refine lv_iload hx hb dX3_digest_116 (lv_at hl 0 rfl) ?_
        refine zr_iald (f := co) (n := 12) hx hb hK hP 4 0 rfl rfl (by decide) (i := (k3 : Int)) (by omega) (by omega) dX3_digest_118 ?_
        have b_52 := hco (k3 : Int)
        refine lv_i2l hx hb dX3_digest_119 rfl ?_
        refine lv_ladd hx hb dX3_digest_120 ?_
        refine W.eq (g2 := F0 m9 121 ls [.long (h31 (dcM co da (sdM al mo n td wn) k3) (co (k3 : Int)))]) rfl ?_
        refine lv_ldc2 (v := 31) hx hb hown (hts (.constantLong RX3 177 (31)) (by decide +kernel)) dX3_digest_121 ?_
        refine lv_lmul hx hb dX3_digest_124 ?_
        refine lv_aload_n hx hb dX3_digest_125 rfl (lv_at hl 3 rfl) ?_
        refine va_get (D := D) (ci := 3) (v := .ref (q 5)) (C := RX3) (T := TX3) (N := 12) hx hb hts hin3 hown hK hP 0 rfl rfl 6 (by decide) (hts (.fieldLink RX3 23 "MourningRibbonsModel" "days" "[I") (by decide +kernel)) (fun _ h9 => h9) rfl dX3_digest_126 ?_
        refine lv_iload hx hb dX3_digest_129 (lv_at hl 0 rfl) ?_
        refine zr_iald (f := da) (n := 12) hx hb hK hP 5 0 rfl rfl (by decide) (i := (k3 : Int)) (by omega) (by omega) dX3_digest_131 ?_
        have b_53 := hda (k3 : Int)
        refine lv_i2l hx hb dX3_digest_132 rfl ?_
        refine lv_ladd hx hb dX3_digest_133 ?_
        refine W.eq (g2 := F0 m9 134 ls [.long (h31 (h31 (dcM co da (sdM al mo n td wn) k3) (co (k3 : Int))) (da (k3 : Int)))]) rfl ?_
        refine lv_lstore_n (lv' := [(2, .long (h31 (h31 (dcM co da (sdM al mo n td wn) k3) (co (k3 : Int))) (da (k3 : Int)))), (4, .int (zI (k3 : Int))), (1, .ref a9), (0, .ref (q 0))]) hx hb dX3_digest_134 rfl hl (by decide) rfl (fun ls hl => ?_)
        refine zr_iinc (v := (k3 : Int) + 1) (lv' := [(4, .int (zI ((k3 : Int) + 1))), (2, .long (h31 (h31 (dcM co da (sdM al mo n td wn) k3) (co (k3 : Int))) (da (k3 : Int)))), (1, .ref a9), (0, .ref (q 0))]) hx hb dX3_digest_135 hl (k := 1) rfl rfl (by decide) rfl (fun ls hl => ?_)
        refine lv_goto (tgt := 100) hx hb dX3_digest_138 (by decide) ?_
        have hl := lv_sub hl (l' := [(4, .int (zI ((k3 : Int) + 1))), (2, .long (h31 (h31 (dcM co da (sdM al mo n td wn) k3) (co (k3 : Int))) (da (k3 : Int)))), (1, .ref a9), (0, .ref (q 0))]) [0, 1, 2, 3] rfl
        have e_54 : ((((k3 + 1) : Nat) : Int) : Int) = (k3 : Int) + 1 := by omega
        have e_55 : (dcM co da (sdM al mo n td wn) (k3 + 1) : Int64) = h31 (h31 (dcM co da (sdM al mo n td wn) k3) (co (k3 : Int))) (da (k3 : Int)) := rfl
        have hl : lv_has ls 8 [(4, .int (zI (((k3 + 1) : Nat) : Int))), (2, .long (dcM co da (sdM al mo n td wn) (k3 + 1))), (1, .ref a9), (0, .ref (q 0))] := by rw [e_54, e_55]; exact hl
        exact ih_k3 (k3 + 1) (by omega) (by omega) _ _ _ hP hS hl
  have hl := lv_sub hl (l' := [(4, .int (zI 0)), (2, .long (h31 (h31 (h31 (h31 (h31 (h31 (1931 : Int64) (n : Int)) (smF al n)) td) (mxF (wsZ mo n td) n)) (lgF (moS mo n td) n)) wn)), (1, .ref a9), (0, .ref (q 0))]) [0, 2, 5, 6] rfl
  have e_56 : (dcM co da (sdM al mo n td wn) 0 : Int64) = h31 (h31 (h31 (h31 (h31 (h31 (1931 : Int64) (n : Int)) (smF al n)) td) (mxF (wsZ mo n td) n)) (lgF (moS mo n td) n)) wn := rfl
  have hl : lv_has ls 8 [(4, .int (zI 0)), (2, .long (dcM co da (sdM al mo n td wn) 0)), (1, .ref a9), (0, .ref (q 0))] := by rw [e_56]; exact hl
  exact L100_8 (12 + 1) 0 (Nat.zero_le _) (by omega) _ _ _ hP hS hl
