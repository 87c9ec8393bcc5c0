/-! the reference's digest -/
def dcM (co da : Int → Int) (d0 : Int64) : Nat → Int64
  | 0 => d0
  | k + 1 => h31 (h31 (dcM co da d0 k) (co k)) (da k)
def dsP (pa sp : Int → Int) (n : Nat) (p : Int) (st : Int → Int) : Nat → Int → Int
  | 0 => st
  | k + 1 => goF pa sp n (dsP pa sp n p st k) p
def dkM (pa sp al : Int → Int) (n : Nat) (p : Int) (st : Int → Int) (d : Int64) : Nat → Int64
  | 0 => d
  | k + 1 => h31 (dkM pa sp al n p st d k) (smF (kinF al (goF pa sp n (dsP pa sp n p st k) p) ((k : Int) + 1)) n)
def dhM (pa sp al mo : Int → Int) (n : Nat) (td : Int) (d : Int64) (p : Int) : Int64 :=
  h31 (h31 (h31 (h31 (h31 (h31 (h31 d (al p)) (pa p)) (sp p)) (wsM mo n p td)) (smF (gtF (lM mo td p)) n)) (mxF (lM mo td p) n)) (flD (wT mo n td p))
def dsM (pa sp : Int → Int) (n : Nat) (st : Int → Int) : Nat → Int → Int
  | 0 => st
  | i + 1 => dsP pa sp n (i : Int) (dsM pa sp n st i) 4
def dqM (pa sp al mo : Int → Int) (n : Nat) (td : Int) (st : Int → Int) (d : Int64) : Nat → Int64
  | 0 => d
  | i + 1 => dkM pa sp al n (i : Int) (dsM pa sp n st i) (dhM pa sp al mo n td (dqM pa sp al mo n td st d i) (i : Int)) 4
def sdM (al mo : Int → Int) (n : Nat) (td wn : Int) : Int64 := h31 (h31 (h31 (h31 (h31 (h31 1931 n) (smF al n)) td) (mxF (wsZ mo n td) n)) (lgF (moS mo n td) n)) wn
def dgR (pa sp al co da mo st : Int → Int) (n : Nat) (td wn : Int) : Int64 :=
  dqM pa sp al mo n td st (dcM co da (sdM al mo n td wn) 12) n
theorem dsP_bd {pa sp : Int → Int} {n : Nat} {p : Int} {st : Int → Int} (h : ∀ j : Int, -1 ≤ st j ∧ st j ≤ 4) (k : Nat) : ∀ j : Int, -1 ≤ dsP pa sp n p st k j ∧ dsP pa sp n p st k j ≤ 4 := by
  induction k with
  | zero => exact h
  | succ k ih => exact goF_bd ih pa sp n p
theorem dsM_bd {pa sp : Int → Int} {n : Nat} {st : Int → Int} (h : ∀ j : Int, -1 ≤ st j ∧ st j ≤ 4) (k : Nat) : ∀ j : Int, -1 ≤ dsM pa sp n st k j ∧ dsM pa sp n st k j ≤ 4 := by
  induction k with
  | zero => exact h
  | succ k ih => exact dsP_bd ih 4
/-- a contract of a method that makes an array of its own -/
def zMN (l : Launch) (y : MethodName) (ws : List Cond) (rm : Room) (D : va_G) (tys : List (ClassId × FieldType)) (av : List Value) (w w' : va_W) (v : Option Value) (L : List Nat) (sz : Nat) : Prop :=
  Met l y ws rm (va_Pc av (fun U => U.heap.size = sz ∧ va_P D vwCl w U.heap ∧ va_K D vwCl tys U)) (zQ D w' v L) 1 6 (fun a => a ∈ L ∨ sz ≤ a)
section ZN
variable {p : Program} {l : Launch} {e : Env} {R : Room} {s : State} {m : MethodId} {args : Array Value} {below : List Frame} {meth : Method} {c : Code} {H : Heap} {locs : List Loc} {cells slots : Nat} {Q : State → Prop}
variable {pc : Nat} {ls : Array Slot} {rest st0 As : List Value} {cc bytes : ByteArray} {D : va_G} {tys : List (ClassId × FieldType)} {w w' : va_W} {A : Nat → Prop} {H0 : Heap} {L : List Nat} {v : Option Value} {sz : Nat}
theorem zret_lN {x z : Int64} (hsz : s.heap.size = sz) (hx : p.tables.exec = Jvm.exec) (hb : c.code = cc) (hr : meth.sig.returnType = some .long) (hlocks : meth.locks = false) (he : x = z) (hP : va_P D vwCl w' H) (hS : va_S (fun a => a ∈ L ∨ sz ≤ a) s.heap H locs) (hdg : decode cc pc = .ok (.lreturn, 1)) :
    W p l e R s m args below meth c H locs cells slots (MQ below (zQ D w' (some (.long z)) L) args s cells slots (fun a => a ∈ L ∨ sz ≤ a)) (F0 m pc ls [.long x]) := by
  subst he
  exact W.lret hx hb hr (fun t ht _ => ⟨⟨rfl, by rw [ht]; exact hP⟩, ⟨(hS.F ht).1, fun q h1 h2 => (hS.F ht).2 q h1 (fun h => h.elim h2 (fun h => by omega))⟩⟩) hS.2.2 hdg hlocks
theorem zapp0 {a b : va_W} (h1 : va_P D vwCl a H) (h2 : va_P D vwCl b H) : va_P D vwCl (a ++ b) H := va_P.app h1 h2
theorem zleft0 {a b : va_W} (h : va_P D vwCl (a ++ b) H) : va_P D vwCl a H := fun k q hk => h k q (by rw [List.getElem?_append_left (List.getElem?_eq_some_iff.mp hk).1]; exact hk)
theorem zright0 {a b : va_W} (h : va_P D vwCl (a ++ b) H) : va_P D vwCl b H := fun k q hk => h (a.length + k) q (by rw [List.getElem?_append_right (Nat.le_add_right _ _), Nat.add_sub_cancel_left]; exact hk)
/-- what is new lies apart -/
theorem znewD {w : va_W} {x : Nat × va_E} (h : va_D A (w ++ [x])) (hw : w.map Prod.fst = L) : x.1 ∉ L := by
  subst hw
  intro hm
  obtain ⟨y, hy, e⟩ := List.mem_map.mp hm
  obtain ⟨i, hi⟩ := List.mem_iff_getElem?.mp hy
  have hlt := (List.getElem?_eq_some_iff.mp hi).1
  have := h.1 i w.length y x (by rw [List.getElem?_append_left hlt]; exact hi) (by rw [List.getElem?_append_right (Nat.le_refl _), Nat.sub_self]; rfl) e
  omega
end ZN
set_option maxHeartbeats 4000000 in
set_option maxRecDepth 100000 in
theorem kX3_digest (l : Launch) (D : va_G) (cI cZ : ClassId) (q : Nat → Nat) (hN : (zLM q).Nodup) (pa : Int → Int) (sp : Int → Int) (al : Int → Int) (co : Int → Int) (da : Int → Int) (mo : Int → Int) (st : Int → Int) (mr : Int → Int) (th : Int) (n : Nat) (td : Int) (wn : Int) (hpa : ∀ j : Int, -1 ≤ pa j ∧ pa j ≤ 15) (hsp : ∀ j : Int, -1 ≤ sp j ∧ sp j ≤ 15) (hal : ∀ j : Int, 0 ≤ al j ∧ al j ≤ 1) (hco : ∀ j : Int, 0 ≤ co j ∧ co j ≤ 5) (hda : ∀ j : Int, 0 ≤ da j ∧ da j ≤ 60) (hst : ∀ j : Int, -1 ≤ st j ∧ st j ≤ 4) (hn : n ≤ 16) (hmo : ∀ j : Int, -1 ≤ mo j ∧ mo j ≤ 1000000) (htd : 0 ≤ td ∧ td ≤ 1000000) (hz : ∀ p : Int, 0 ≤ p → p < (n : Int) → ∀ t : Int, 180 ≤ t → wsM mo n p (td + t) = 0) (sz : Nat) : zMN l yX3_digest wsX3_digest ({ frames := 4, cells := 1, slots := 6, locals := 99 }) D [(cI, .int), (cZ, .boolean)] [.ref (q 0)] (wM cI cZ q pa sp al co da mo st mr th n td wn) (wM cI cZ q pa sp al co da mo (dsM pa sp n st n) mr 0 n td wn) (some (.long (dgR pa sp al co da mo st n td wn))) (zLM q) sz := by
  refine Met.ofW (cc := cX3_digest) (maxL := 8) (ret := (some .long)) (by decide) rfl ?_
  intro p0 e9 s9 m9 ag9 below meth c9 s₁ B hml hv
  obtain ⟨hav, hsz, hP, hK⟩ := hv
  have hx := B.exec
  have hb := B.bytes
  have hr := B.returns
  have hts := atoms_spec (ws := wsX3_digest) B.pre
  have hown : s9.vm.findClass RX3 = some m9.cls := findClass_of_methodNamed B.named
  have hlocks := B.notSynchronized
  have hA : ∀ a ∈ zLM q, (fun a => a ∈ zLM q ∨ sz ≤ a) a := fun _ h => Or.inl h
  have hin3 : ∀ w ∈ u_ws RX3 TX3 12, w ∈ wsX3_digest := by decide +kernel
  have hl := lv_entry ([.ref (q 0)]) (n := 8) (Nat.le_of_ble_eq_true rfl)
  have hE : entryFrame m9 ag9 8 = F0 m9 0 ((lg_sl ([.ref (q 0)]) ++ List.replicate (8 - (lg_sl ([.ref (q 0)])).length) Slot.unset).toArray) [] := by rw [hav]; exact lg_entry_eq m9 _ _
  obtain ⟨Q0, hQ0⟩ : ∃ Q0, Q0 = MQ below (zQ D (wM cI cZ q pa sp al co da mo (dsM pa sp n st n) mr 0 n td wn) (some (.long (dgR pa sp al co da mo st n td wn))) (zLM q)) ag9 s9 1 6 (fun a => a ∈ zLM q ∨ sz ≤ a) := ⟨_, rfl⟩
  show W p0 l e9 ({ frames := 4, cells := 1, slots := 6, locals := 99 }) s9 m9 ag9 below meth c9 s9.heap [] 0 0 (MQ below (zQ D (wM cI cZ q pa sp al co da mo (dsM pa sp n st n) mr 0 n td wn) (some (.long (dgR pa sp al co da mo st n td wn))) (zLM q)) ag9 s9 1 6 (fun a => a ∈ zLM q ∨ sz ≤ a)) _
  rw [hE, ← hQ0]
  have hS : va_S (fun a => a ∈ zLM q ∨ sz ≤ a) s9.heap s9.heap [] := va_S.rf
  generalize hH0 : s9.heap = H at hP ⊢
  have hS : va_S (fun a => a ∈ zLM q ∨ sz ≤ a) s9.heap H [] := by rw [hH0] at hS ⊢; exact hS
  generalize (lg_sl ([.ref (q 0)]) ++ List.replicate (8 - (lg_sl ([.ref (q 0)])).length) Slot.unset).toArray = ls at hl ⊢
  have hl : lv_has ls 8 [(0, .ref (q 0))] := hl
  refine lv_aload_n hx hb dX3_digest_0 rfl (lv_at hl 0 rfl) ?_
  refine zr_iconst hx hb dX3_digest_1 ?_
  refine va_put (D := D) (ci := 3) (v := .int (zI 0)) (ty := .int) (C := RX3) (T := TX3) (N := 12) hx hb hts hin3 tyX3 tyX3_ok nmX3 hown hK hP (zD hN rfl hA) hS 0 rfl rfl 0 (by decide) (hts (.fieldLink RX3 35 "MourningRibbonsModel" "thrown" "I") (by decide +kernel)) (fun _ h9 => h9) rfl (by decide +kernel) rfl rfl (Nat.le_of_ble_eq_true rfl) dX3_digest_2 (fun H locs hP _ hS => ?_)
  have hP : va_P D vwCl (wM cI cZ q pa sp al co da mo st mr 0 n td wn) H := hP
  refine zr_bipush hx hb dX3_digest_5 (by decide) ?_
  refine va_newa (D := D) (ty := .int) (N' := 6) (a0 := (6, .inl (ar (cst 0)))) hx hb (hts (.arrayClass .int) (by decide +kernel)) rfl hK hP (zD hN rfl hA) hS (fun q h => Or.inr (by rw [← hsz]; exact h)) (fun _ => rfl) (by decide) (by decide) (by decide) (Nat.le_of_ble_eq_true rfl) (Nat.le_of_ble_eq_true rfl) dX3_digest_7 (fun a9 cA9 H hK9 hB hD9 hS => ?_)
  have hn9 : a9 ∉ zLM q := znewD hD9 rfl
  have hdis9 : ∀ a ∈ [a9], a ∉ zLM q := fun a h => by rw [List.mem_singleton.mp h]; exact hn9
  have hN9 : (zLM q ++ [a9]).Nodup := List.nodup_append.mpr ⟨hN, by simp, fun a ha b hb h => hdis9 b hb (h ▸ ha)⟩
  have ha9 := hD9.2 9 (a9, .inl (cA9, 6, .inl (ar (cst 0)))) rfl
  have hA9 : ∀ a ∈ zLM q ++ [a9], (fun a => a ∈ zLM q ∨ sz ≤ a) a := fun a h => (List.mem_append.mp h).elim (fun h => Or.inl h) (fun h => by rw [List.mem_singleton.mp h]; exact ha9)
  have hP : va_P D vwCl (wM cI cZ q pa sp al co da mo st mr 0 n td wn) H := zleft0 hB
  have hO : va_P D vwCl [(a9, .inl (cA9, 6, .inl (ar (cst 0))))] H := zright0 hB
  refine lv_dup hx hb dX3_digest_9 rfl ?_
  refine zr_iconst hx hb dX3_digest_10 ?_
  refine lv_aload_n hx hb dX3_digest_11 rfl (lv_at hl 0 rfl) ?_
  refine va_get (D := D) (ci := 3) (v := .int (zI (n : Int))) (C := RX3) (T := TX3) (N := 12) hx hb hts hin3 hown hK hP 0 rfl rfl 1 (by decide) (hts (.fieldLink RX3 39 "MourningRibbonsModel" "people" "I") (by decide +kernel)) (fun _ h9 => h9) rfl dX3_digest_12 ?_
  refine zr_iast (ws := (wM cI cZ q pa sp al co da mo st mr 0 n td wn) ++ [(a9, .inl (cA9, 6, .inl (ar (cst 0))))]) (f := cst 0) (n := 6) hx hb hK9 (zapp0 hP hO) hN9 rfl hA9 hS 9 2 rfl rfl (by decide) (i := 0) (x := (n : Int)) (by decide) (by decide) dX3_digest_15 (fun H locs hB hS => ?_)
  have hB : va_P D vwCl ((wM cI cZ q pa sp al co da mo st mr 0 n td wn) ++ [(a9, .inl (cA9, 6, .inl (ar (up (cst 0) 0 (n : Int)))))]) H := hB
  have hP : va_P D vwCl (wM cI cZ q pa sp al co da mo st mr 0 n td wn) H := zleft0 hB
  have hO : va_P D vwCl [(a9, .inl (cA9, 6, .inl (ar (up (cst 0) 0 (n : Int)))))] H := zright0 hB
  refine lv_dup hx hb dX3_digest_16 rfl ?_
  refine zr_iconst hx hb dX3_digest_17 ?_
  refine lv_aload_n hx hb dX3_digest_18 rfl (lv_at hl 0 rfl) ?_
  refine zcallV (ci := 3) (q0 := 0) (cq := (RX3, TX3, 12)) (As := []) (rest := [.int (zI 1), .ref a9, .ref a9]) ⟨hx, hb, hml, hown, hts⟩ hK (kX3_alive l D cI cZ q hN pa sp al co da mo st mr 0 n td wn hn hal) (cwV 0 hts gX3_digest_X3_alive rfl rfl rfl (by decide +kernel) ⟨Nat.le_of_ble_eq_true rfl, Nat.le_of_ble_eq_true rfl⟩) hP hS hA rfl rfl rfl hl.1 rfl (Nat.le_of_ble_eq_true rfl) dX3_digest_19 ⟨Nat.le_of_ble_eq_true rfl, Nat.le_of_ble_eq_true rfl⟩ (fun H locs hP hS _ hkk => ?_)
  have hO := zkeep hO hkk hdis9
  refine W.eq (g2 := F0 m9 22 ls [.int (zI (smF al n)), .int (zI 1), .ref a9, .ref a9]) rfl ?_
  refine zr_iast (ws := (wM cI cZ q pa sp al co da mo st mr 0 n td wn) ++ [(a9, .inl (cA9, 6, .inl (ar (up (cst 0) 0 (n : Int)))))]) (f := up (cst 0) 0 (n : Int)) (n := 6) hx hb hK9 (zapp0 hP hO) hN9 rfl hA9 hS 9 2 rfl rfl (by decide) (i := 1) (x := smF al n) (by decide) (by decide) dX3_digest_22 (fun H locs hB hS => ?_)
  have hB : va_P D vwCl ((wM cI cZ q pa sp al co da mo st mr 0 n td wn) ++ [(a9, .inl (cA9, 6, .inl (ar (up (up (cst 0) 0 (n : Int)) 1 (smF al n)))))]) H := hB
  have hP : va_P D vwCl (wM cI cZ q pa sp al co da mo st mr 0 n td wn) H := zleft0 hB
  have hO : va_P D vwCl [(a9, .inl (cA9, 6, .inl (ar (up (up (cst 0) 0 (n : Int)) 1 (smF al n)))))] H := zright0 hB
  refine lv_dup hx hb dX3_digest_23 rfl ?_
  refine zr_iconst hx hb dX3_digest_24 ?_
  refine lv_aload_n hx hb dX3_digest_25 rfl (lv_at hl 0 rfl) ?_
  refine va_get (D := D) (ci := 3) (v := .int (zI td)) (C := RX3) (T := TX3) (N := 12) hx hb hts hin3 hown hK hP 0 rfl rfl 8 (by decide) (hts (.fieldLink RX3 95 "MourningRibbonsModel" "today" "I") (by decide +kernel)) (fun _ h9 => h9) rfl dX3_digest_26 ?_
  refine zr_iast (ws := (wM cI cZ q pa sp al co da mo st mr 0 n td wn) ++ [(a9, .inl (cA9, 6, .inl (ar (up (up (cst 0) 0 (n : Int)) 1 (smF al n)))))]) (f := up (up (cst 0) 0 (n : Int)) 1 (smF al n)) (n := 6) hx hb hK9 (zapp0 hP hO) hN9 rfl hA9 hS 9 2 rfl rfl (by decide) (i := 2) (x := td) (by decide) (by decide) dX3_digest_29 (fun H locs hB hS => ?_)
  have hB : va_P D vwCl ((wM cI cZ q pa sp al co da mo st mr 0 n td wn) ++ [(a9, .inl (cA9, 6, .inl (ar (up (up (up (cst 0) 0 (n : Int)) 1 (smF al n)) 2 td))))]) H := hB
  have hP : va_P D vwCl (wM cI cZ q pa sp al co da mo st mr 0 n td wn) H := zleft0 hB
  have hO : va_P D vwCl [(a9, .inl (cA9, 6, .inl (ar (up (up (up (cst 0) 0 (n : Int)) 1 (smF al n)) 2 td))))] H := zright0 hB
  refine lv_dup hx hb dX3_digest_30 rfl ?_
  refine zr_iconst hx hb dX3_digest_31 ?_
  refine lv_aload_n hx hb dX3_digest_32 rfl (lv_at hl 0 rfl) ?_
  refine zcallV (ci := 3) (q0 := 0) (cq := (RX3, TX3, 12)) (As := []) (rest := [.int (zI 3), .ref a9, .ref a9]) ⟨hx, hb, hml, hown, hts⟩ hK (kX3_strictestOne l D cI cZ q hN pa sp al co da mo st mr 0 n td wn hn hmo htd) (cwV 0 hts gX3_digest_X3_strictestOne rfl rfl rfl (by decide +kernel) ⟨Nat.le_of_ble_eq_true rfl, Nat.le_of_ble_eq_true rfl⟩) hP hS hA rfl rfl rfl hl.1 rfl (Nat.le_of_ble_eq_true rfl) dX3_digest_33 ⟨Nat.le_of_ble_eq_true rfl, Nat.le_of_ble_eq_true rfl⟩ (fun H locs hP hS _ hkk => ?_)
  have hO := zkeep hO hkk hdis9
  refine W.eq (g2 := F0 m9 36 ls [.int (zI (mxF (wsZ mo n td) n)), .int (zI 3), .ref a9, .ref a9]) rfl ?_
  refine zr_iast (ws := (wM cI cZ q pa sp al co da mo st mr 0 n td wn) ++ [(a9, .inl (cA9, 6, .inl (ar (up (up (up (cst 0) 0 (n : Int)) 1 (smF al n)) 2 td))))]) (f := up (up (up (cst 0) 0 (n : Int)) 1 (smF al n)) 2 td) (n := 6) hx hb hK9 (zapp0 hP hO) hN9 rfl hA9 hS 9 2 rfl rfl (by decide) (i := 3) (x := mxF (wsZ mo n td) n) (by decide) (by decide) dX3_digest_36 (fun H locs hB hS => ?_)
  have hB : va_P D vwCl ((wM cI cZ q pa sp al co da mo st mr 0 n td wn) ++ [(a9, .inl (cA9, 6, .inl (ar (up (up (up (up (cst 0) 0 (n : Int)) 1 (smF al n)) 2 td) 3 (mxF (wsZ mo n td) n)))))]) H := hB
  have hP : va_P D vwCl (wM cI cZ q pa sp al co da mo st mr 0 n td wn) H := zleft0 hB
  have hO : va_P D vwCl [(a9, .inl (cA9, 6, .inl (ar (up (up (up (up (cst 0) 0 (n : Int)) 1 (smF al n)) 2 td) 3 (mxF (wsZ mo n td) n)))))] H := zright0 hB
  refine lv_dup hx hb dX3_digest_37 rfl ?_
  refine zr_iconst hx hb dX3_digest_38 ?_
  refine lv_aload_n hx hb dX3_digest_39 rfl (lv_at hl 0 rfl) ?_
  refine zcallV (ci := 3) (q0 := 0) (cq := (RX3, TX3, 12)) (As := []) (rest := [.int (zI 4), .ref a9, .ref a9]) ⟨hx, hb, hml, hown, hts⟩ hK (kX3_longest l D cI cZ q hN pa sp al co da mo st mr 0 n td wn hn hmo htd) (cwV 0 hts gX3_digest_X3_longest rfl rfl rfl (by decide +kernel) ⟨Nat.le_of_ble_eq_true rfl, Nat.le_of_ble_eq_true rfl⟩) hP hS hA rfl rfl rfl hl.1 rfl (Nat.le_of_ble_eq_true rfl) dX3_digest_40 ⟨Nat.le_of_ble_eq_true rfl, Nat.le_of_ble_eq_true rfl⟩ (fun H locs hP hS _ hkk => ?_)
  have hO := zkeep hO hkk hdis9
  refine W.eq (g2 := F0 m9 43 ls [.int (zI (lgF (moS mo n td) n)), .int (zI 4), .ref a9, .ref a9]) rfl ?_
  refine zr_iast (ws := (wM cI cZ q pa sp al co da mo st mr 0 n td wn) ++ [(a9, .inl (cA9, 6, .inl (ar (up (up (up (up (cst 0) 0 (n : Int)) 1 (smF al n)) 2 td) 3 (mxF (wsZ mo n td) n)))))]) (f := up (up (up (up (cst 0) 0 (n : Int)) 1 (smF al n)) 2 td) 3 (mxF (wsZ mo n td) n)) (n := 6) hx hb hK9 (zapp0 hP hO) hN9 rfl hA9 hS 9 2 rfl rfl (by decide) (i := 4) (x := lgF (moS mo n td) n) (by decide) (by decide) dX3_digest_43 (fun H locs hB hS => ?_)
  have hB : va_P D vwCl ((wM cI cZ q pa sp al co da mo st mr 0 n td wn) ++ [(a9, .inl (cA9, 6, .inl (ar (up (up (up (up (up (cst 0) 0 (n : Int)) 1 (smF al n)) 2 td) 3 (mxF (wsZ mo n td) n)) 4 (lgF (moS mo n td) n)))))]) H := hB
  have hP : va_P D vwCl (wM cI cZ q pa sp al co da mo st mr 0 n td wn) H := zleft0 hB
  have hO : va_P D vwCl [(a9, .inl (cA9, 6, .inl (ar (up (up (up (up (up (cst 0) 0 (n : Int)) 1 (smF al n)) 2 td) 3 (mxF (wsZ mo n td) n)) 4 (lgF (moS mo n td) n)))))] H := zright0 hB
  refine lv_dup hx hb dX3_digest_44 rfl ?_
  refine zr_iconst hx hb dX3_digest_45 ?_
  refine lv_aload_n hx hb dX3_digest_46 rfl (lv_at hl 0 rfl) ?_
  refine va_get (D := D) (ci := 3) (v := .int (zI wn)) (C := RX3) (T := TX3) (N := 12) hx hb hts hin3 hown hK hP 0 rfl rfl 9 (by decide) (hts (.fieldLink RX3 121 "MourningRibbonsModel" "worn" "I") (by decide +kernel)) (fun _ h9 => h9) rfl dX3_digest_47 ?_
  refine zr_iast (ws := (wM cI cZ q pa sp al co da mo st mr 0 n td wn) ++ [(a9, .inl (cA9, 6, .inl (ar (up (up (up (up (up (cst 0) 0 (n : Int)) 1 (smF al n)) 2 td) 3 (mxF (wsZ mo n td) n)) 4 (lgF (moS mo n td) n)))))]) (f := up (up (up (up (up (cst 0) 0 (n : Int)) 1 (smF al n)) 2 td) 3 (mxF (wsZ mo n td) n)) 4 (lgF (moS mo n td) n)) (n := 6) hx hb hK9 (zapp0 hP hO) hN9 rfl hA9 hS 9 2 rfl rfl (by decide) (i := 5) (x := wn) (by decide) (by decide) dX3_digest_50 (fun H locs hB hS => ?_)
  have hB : va_P D vwCl ((wM cI cZ q pa sp al co da mo st mr 0 n td wn) ++ [(a9, .inl (cA9, 6, .inl (ar (up (up (up (up (up (up (cst 0) 0 (n : Int)) 1 (smF al n)) 2 td) 3 (mxF (wsZ mo n td) n)) 4 (lgF (moS mo n td) n)) 5 wn))))]) H := hB
  have hP : va_P D vwCl (wM cI cZ q pa sp al co da mo st mr 0 n td wn) H := zleft0 hB
  have hO : va_P D vwCl [(a9, .inl (cA9, 6, .inl (ar (up (up (up (up (up (up (cst 0) 0 (n : Int)) 1 (smF al n)) 2 td) 3 (mxF (wsZ mo n td) n)) 4 (lgF (moS mo n td) n)) 5 wn))))] H := zright0 hB
  sorry
