/-! the law, from its entry -/
theorem zstr_in : ∀ x ∈ zStr, Cond.stringRef RX2 x.1 x.2 ∈ lw_tbl := by
  intro x hx
  simp only [zStr, List.mem_cons, List.not_mem_nil, or_false] at hx
  rcases hx with rfl | rfl | rfl | rfl | rfl | rfl | rfl | rfl | rfl | rfl | rfl | rfl | rfl
  · exact List.mem_append_right _ (List.mem_of_getElem? (i := 580) (by decide +kernel))
  · exact List.mem_append_right _ (List.mem_of_getElem? (i := 376) (by decide +kernel))
  · exact List.mem_append_right _ (List.mem_of_getElem? (i := 593) (by decide +kernel))
  · exact List.mem_append_right _ (List.mem_of_getElem? (i := 604) (by decide +kernel))
  · exact List.mem_append_right _ (List.mem_of_getElem? (i := 247) (by decide +kernel))
  · exact List.mem_append_right _ (List.mem_of_getElem? (i := 334) (by decide +kernel))
  · exact List.mem_append_right _ (List.mem_of_getElem? (i := 367) (by decide +kernel))
  · exact List.mem_append_right _ (List.mem_of_getElem? (i := 143) (by decide +kernel))
  · exact List.mem_append_right _ (List.mem_of_getElem? (i := 554) (by decide +kernel))
  · exact List.mem_append_right _ (List.mem_of_getElem? (i := 401) (by decide +kernel))
  · exact List.mem_append_right _ (List.mem_of_getElem? (i := 183) (by decide +kernel))
  · exact List.mem_append_right _ (List.mem_of_getElem? (i := 321) (by decide +kernel))
  · exact List.mem_append_right _ (List.mem_of_getElem? (i := 441) (by decide +kernel))
theorem zstr_of {A : Array Value} {s : State} {k cur : Nat} {tx : String} (hcur : s.vm.findClass RX2 = some cur) (h : (Cond.stringRef RX2 k tx).before A s = true) : ∃ sa : Nat, vk_R RX2 k tx sa s := by
  obtain ⟨_, _, _, a, _, _, _, _, _, he⟩ := Cond.stringRef_spec hcur h
  exact ⟨a, vk_R.of h he⟩
theorem zdec_in0 : Cond.declares (Bundle.initS "java/lang/RuntimeException") ∈ lw_tbl := List.mem_append_right _ (List.mem_of_getElem? (i := 106) (by decide +kernel))
theorem zdec_in1 : Cond.declares (Bundle.initS "java/lang/Exception") ∈ lw_tbl := List.mem_append_right _ (List.mem_of_getElem? (i := 108) (by decide +kernel))
theorem zdec_in2 : Cond.declares (Bundle.initS "java/lang/Throwable") ∈ lw_tbl := List.mem_append_right _ (List.mem_of_getElem? (i := 110) (by decide +kernel))
theorem zcas_in0 : Cond.castable "java/lang/IndexOutOfBoundsException" "java/lang/IndexOutOfBoundsException" ∈ lw_tbl := List.mem_append_right _ (List.mem_of_getElem? (i := 104) (by decide +kernel))
theorem zcas_in1 : Cond.castable "java/lang/IllegalStateException" "java/lang/IllegalStateException" ∈ lw_tbl := List.mem_append_right _ (List.mem_of_getElem? (i := 176) (by decide +kernel))
theorem zcas_in2 : Cond.castable "java/lang/IllegalArgumentException" "java/lang/IllegalArgumentException" ∈ lw_tbl := List.mem_append_right _ (List.mem_of_getElem? (i := 240) (by decide +kernel))
theorem zB_of {A : Array Value} {s : State} (hts : ∀ w ∈ lw_tbl, w.before A s = true) : zB s := by
  intro w hw
  rcases List.mem_append.mp hw with g | g
  · obtain ⟨x, hx, e⟩ := List.mem_map.mp g
    subst e
    simp only [zDec, List.mem_cons, List.not_mem_nil, or_false] at hx
    rcases hx with rfl | rfl | rfl
    · exact zdec (s := s) (Vm.Alike.refl s.vm) (hts _ zdec_in0)
    · exact zdec (s := s) (Vm.Alike.refl s.vm) (hts _ zdec_in1)
    · exact zdec (s := s) (Vm.Alike.refl s.vm) (hts _ zdec_in2)
  · obtain ⟨x, hx, e⟩ := List.mem_map.mp g
    subst e
    simp only [zCas, List.mem_cons, List.not_mem_nil, or_false] at hx
    rcases hx with rfl | rfl | rfl
    · exact zcast (s := s) (Vm.Alike.refl s.vm) (hts _ zcas_in0)
    · exact zcast (s := s) (Vm.Alike.refl s.vm) (hts _ zcas_in1)
    · exact zcast (s := s) (Vm.Alike.refl s.vm) (hts _ zcas_in2)
theorem zT_of {b : Nat} {s : State} {cur : Nat} (hcur : s.vm.findClass RX2 = some cur) (hts : ∀ w ∈ lw_tbl, w.before #[Value.ref b] s = true) (hgv : (Jvm.Cond.and given_1 narrow_1).before #[Value.ref b] s = true) : zT (fun a => s.heap.size ≤ a) s s.heap := by
  have hg := flat_of_before _ hgv
  have hA : ∀ a : Nat, a < s.heap.size → ¬ (fun a => s.heap.size ≤ a) a := fun a h => Nat.not_le.mpr h
  have hini : (Cond.initialized Bundle.tN).before #[Value.ref b] s = true := hts _ (List.mem_append_right _ (List.mem_of_getElem? (i := 5) (by decide +kernel)))
  refine ⟨vx_Zqof (hts _ (List.mem_append_right _ (List.mem_of_getElem? (i := 129) (by decide +kernel)))) hini (hg (Cond.isRef (.static Bundle.tN "UNASSIGNED_STACK" Bundle.steD)) (by decide +kernel)) hA, vx_Zqof (hts _ (List.mem_append_right _ (List.mem_of_getElem? (i := 131) (by decide +kernel)))) hini (hg (Cond.isRef (.static Bundle.tN "SUPPRESSED_SENTINEL" Bundle.listD)) (by decide +kernel)) hA, fun x hx => zstr_of hcur (hts _ (zstr_in x hx)), zB_of hts⟩
theorem zNest_of {b : Nat} {s : State} (hts : ∀ w ∈ lw_tbl, w.before #[Value.ref b] s = true) : zNest s := ⟨va_Nw.of (A := #[Value.ref b]) rfl (hts _ (List.mem_append_right _ (List.mem_of_getElem? (i := 24) (by decide +kernel)))), va_Nw.of (A := #[Value.ref b]) rfl (hts _ (List.mem_append_right _ (List.mem_of_getElem? (i := 53) (by decide +kernel))))⟩
theorem z79_of {b : Nat} {s : State} (hts : ∀ w ∈ lw_tbl, w.before #[Value.ref b] s = true) : va_Nw (.methodLinkNest RL 79 yX3_init "MourningRibbonsLaw") s := va_Nw.of (A := #[Value.ref b]) rfl (hts _ (List.mem_append_right _ (List.mem_of_getElem? (i := 610) (by decide +kernel))))
theorem z15_of {b : Nat} {s : State} (hts : ∀ w ∈ lw_tbl, w.before #[Value.ref b] s = true) : zN15 s := va_Nw.of (A := #[Value.ref b]) rfl (hts _ (List.mem_append_right _ (List.mem_of_getElem? (i := 614) (by decide +kernel))))
theorem zKA_of {b : Nat} {s : State} (hts : ∀ w ∈ lw_tbl, w.before #[Value.ref b] s = true) : ∃ cI c1 c2 : ClassId, zKA cI c1 c2 s := by
  have h1 : (Cond.arrayOver (.array .int)).before #[Value.ref b] s = true := hts _ (List.mem_append_right _ (List.mem_of_getElem? (i := 471) (by decide +kernel)))
  have h2 : (Cond.arrayOver (.array (.array .int))).before #[Value.ref b] s = true := hts _ (List.mem_append_right _ (List.mem_of_getElem? (i := 615) (by decide +kernel)))
  have h3 : (Cond.arrayClass .int).before #[Value.ref b] s = true := hts _ (List.mem_append_right _ (List.mem_of_getElem? (i := 49) (by decide +kernel)))
  obtain ⟨cI, c1, k1, a1, a2, a3, a4⟩ := Cond.arrayOver_specA h1
  obtain ⟨c1', c2, k2, b1, b2, b3, b4⟩ := Cond.arrayOver_specA h2
  obtain ⟨cI', kI, cc, d1, d2, d3⟩ := Cond.arrayClass_spec h3
  have e1 : c1' = c1 := Option.some.inj (b1.symm.trans a4)
  have e2 : cI' = cI := Option.some.inj (d1.symm.trans a1)
  subst e1
  subst e2
  exact ⟨cI', c1', c2, ⟨over_moved (Vm.Alike.refl _) h1, a1, b1, b4⟩, ⟨kI, cc, d2, d3⟩, ⟨k1, a2, a3⟩, ⟨k2, b2, b3⟩⟩
theorem zPlt {D : va_G} {w : va_W} {L : List Nat} {H : Heap} (h : va_P D vwCl w H) (hw : w.map Prod.fst = L) : ∀ x ∈ L, x < H.size := fun x hx => by
  rw [← hw] at hx
  obtain ⟨p, hp, rfl⟩ := List.mem_map.mp hx
  obtain ⟨k, hk⟩ := List.mem_iff_getElem?.mp hp
  exact (h k p hk).lt
set_option maxHeartbeats 4000000 in
set_option maxRecDepth 100000 in
/-- the law, from its entry -/
theorem whole_start {p : Program} {e : Env} {s : State} {m : MethodId} {below : List Frame} {meth : Method} {c : Code} (l : Launch) (hflags : l.flags = flags0) {b L : Nat} {xs : Nat → Int32} (hL : L ≤ 260) (C0 : lw_At p s m meth c b L xs) : W p l e room_1 s m #[Value.ref b] below meth c s.heap [] 0 0 (lw_Z below #[Value.ref b] s) (entryFrame m ([Value.ref b] : List Value).toArray 20) := by
  obtain ⟨hx, hb, hr, hml, hown0, htsT, hX, hbl, hlocks, hgv⟩ := C0
  have hown : s.vm.findClass RL = some m.cls := hown0
  have hts : ∀ w ∈ wsL_law, w.before #[Value.ref b] s = true := fun w h => htsT w (wsL_law_in w h)
  have hst0 : l.stackTraces = false := by unfold Launch.stackTraces; rw [hflags]; decide +kernel
  have hA : ∀ q : Nat, s.heap.size ≤ q → (fun q : Nat => s.heap.size ≤ q) q := fun _ h => h
  obtain ⟨c0, iS0, hKn0⟩ := u_known (C := RX0) (T := TX0) (N := 2) (n := 2) htsT inX0 (htsT (.instantiable RX0 2) (List.mem_append_right _ (List.mem_of_getElem? (i := 52) (by decide +kernel))))
  obtain ⟨c1, iS1, hKn1⟩ := u_known (C := RX1) (T := TX1) (N := 5) (n := 5) htsT inX1 (htsT (.instantiable RX1 5) (List.mem_append_right _ (List.mem_of_getElem? (i := 23) (by decide +kernel))))
  obtain ⟨c2, iS2, hKn2⟩ := u_known (C := RX2) (T := TX2) (N := 9) (n := 9) htsT inX2 (htsT (.instantiable RX2 9) (List.mem_append_right _ (List.mem_of_getElem? (i := 15) (by decide +kernel))))
  obtain ⟨c3, iS3, hKn3⟩ := u_known (C := RX3) (T := TX3) (N := 5) (n := 5) htsT inX3 (htsT (.instantiable RX3 5) (List.mem_append_right _ (List.mem_of_getElem? (i := 609) (by decide +kernel))))
  obtain ⟨D, hKc⟩ : ∃ D : va_G, ∀ (k : Nat) (q : vw_C), vwCl[k]? = some q → u_Kn s q.1 q.2.1 q.2.2 (D.1 k) (D.2 k) := by
    refine ⟨(fun k => match k with | 0 => c0 | 1 => c1 | 2 => c2 | _ => c3, fun k => match k with | 0 => iS0 | 1 => iS1 | 2 => iS2 | _ => iS3), ?_⟩
    intro k q hq
    match k, hq with
    | 0, hq => cases hq; exact hKn0
    | 1, hq => cases hq; exact hKn1
    | 2, hq => cases hq; exact hKn2
    | 3, hq => cases hq; exact hKn3
    | k + 4, hq => simp [vwCl] at hq
  obtain ⟨cI, d1, d2, hQ⟩ := zKA_of htsT
  obtain ⟨cZ, kZ, compZ, fZ, gZ, hZ⟩ := Cond.arrayClass_spec (hts (.arrayClass .boolean) (by decide +kernel))
  have hK : va_K D vwCl [(cI, .int), (cZ, .boolean)] s := by
    refine ⟨hKc, fun k q h => ?_⟩
    match k, h with
    | 0, h => cases h; exact ⟨hQ.aI, hQ.1.2.1⟩
    | 1, h => cases h; exact ⟨fun n z => ⟨fun k h => (by cases h), kZ, gZ, compZ, hZ⟩, fZ⟩
    | k + 2, h => simp at h
  have hT := zT_of hKn2.2.1 htsT hgv
  have hNe := zNest_of htsT
  have h79 := z79_of htsT
  have h15 := z15_of htsT
  have hS : va_S (fun q : Nat => s.heap.size ≤ q) s.heap s.heap [] := va_S.rf
  have hP : va_P D vwCl [] s.heap := fun k q h => by simp at h
  have hD : va_D (fun q : Nat => s.heap.size ≤ q) [] := ⟨fun i j p q h => by simp at h, fun k q h => by simp at h⟩
  have hl := lv_entry ([.ref b]) (n := 20) (Nat.le_of_ble_eq_true rfl)
  rw [lg_entry_eq]
  generalize (lg_sl ([.ref b]) ++ List.replicate (20 - (lg_sl ([.ref b])).length) Slot.unset).toArray = ls at hl ⊢
  have hl : lv_has ls 20 [(0, .ref b)] := hl
  refine va_new (ci := 2) (fs := [.null, .null, .null, .null, .int (zI 0), .int (zI 0), .null, .null, .null]) (C := RX2) (T := TX2) (N := 9) hx hb htsT inX2 tyX2 tyX2_ok hown (hts (.classLink RL 26 RX2) (by decide +kernel)) (hts (.instantiable RX2 9) (by decide +kernel)) (hts (.initialized RX2) (by decide +kernel)) hK hP hD hS hA rfl (fun j hj => by rcases (show j = 0 ∨ j = 1 ∨ j = 2 ∨ j = 3 ∨ j = 4 ∨ j = 5 ∨ j = 6 ∨ j = 7 ∨ j = 8 by omega) with rfl | rfl | rfl | rfl | rfl | rfl | rfl | rfl | rfl <;> rfl) (Nat.le_of_ble_eq_true rfl) (Nat.le_of_ble_eq_true rfl) dL_law_0 (fun a0 H hP hD hS => ?_)
  have hP : va_P D vwCl [(a0, .inr (2, [.null, .null, .null, .null, .int (zI 0), .int (zI 0), .null, .null, .null]))] H := hP
  have hD : va_D (fun q : Nat => s.heap.size ≤ q) [(a0, .inr (2, [.null, .null, .null, .null, .int (zI 0), .int (zI 0), .null, .null, .null]))] := hD
  refine W.widen (k := 1) (n := 9) (Nat.le_of_ble_eq_true rfl) (Nat.le_of_ble_eq_true rfl) ?_
  refine lv_dup hx hb dL_law_3 rfl ?_
  have hPc := hP.sub (ws' := [(a0, .inr (2, [.null, .null, .null, .null, .int (zI 0), .int (zI 0), .null, .null, .null]))]) [0] rfl
  have hDc := hD.sub (ws' := [(a0, .inr (2, [.null, .null, .null, .null, .int (zI 0), .int (zI 0), .null, .null, .null]))]) [0] (by decide) rfl
  have hFc := va_free (wc := [(a0, .inr (2, [.null, .null, .null, .null, .int (zI 0), .int (zI 0), .null, .null, .null]))]) hD hS hA [0] rfl
  refine va_callv (va_runI (As := []) (rest := [.ref a0]) ⟨hx, hb, hml, hown, hts⟩ (kX2_init l D cI cZ a0 H.size) (cwI 0 hts gL_law_X2_init rfl rfl rfl (hts (.initialized RX2) (by decide +kernel)) (hts (.methodLink RL 84 yX2_init) (by decide +kernel)) (hts (.instanceMethod yX2_init) (by decide +kernel)) rfl (by decide +kernel) ⟨Nat.le_of_ble_eq_true rfl, Nat.le_of_ble_eq_true rfl⟩) ⟨zblindI2, fun U hU hW => ⟨rfl, by rw [hU], by rw [hU]; exact hPc, va_K.moved hW.alike hK, hDc.weaken (fun _ _ _ _ => trivial), hNe.warm hW⟩⟩ rfl rfl hl.1 rfl (lv_room (Nat.le_of_ble_eq_true rfl)) dL_law_4 ⟨Nat.le_of_ble_eq_true rfl, Nat.le_of_ble_eq_true rfl⟩) hS (fun q _ h => hFc q h) hFc (fun q t H1 locs ht hvm hw hB hz1 hk1 hS => ?_)
  obtain ⟨hP1, hD1⟩ := hB
  rw [ht] at hP1
  obtain ⟨hP9, hD9⟩ := va_join (wr := []) (w1 := (wC cI cZ q (cst 0) (cst 0) (cst 0) (cst 0) (cst 0) (cst 0) (cst 0) (cst 0) (cst 0) (cst 0) (cst 0) 0 0 0)) hP hD [0] [] rfl rfl (by decide) (by decide) hk1 hFc hP1 hD1
  have hw : q 0 = a0 := hw
  subst hw
  have hP := hP9
  have hD := hD9
  clear hP9 hD9
  generalize H1 = H at hP hS ⊢
  refine W.widen (k := 14) (n := 961) (Nat.le_of_ble_eq_true rfl) (Nat.le_of_ble_eq_true rfl) ?_
  have hP : va_P D vwCl (wC cI cZ q (cst 0) (cst 0) (cst 0) (cst 0) (cst 0) (cst 0) (cst 0) (cst 0) (cst 0) (cst 0) (cst 0) 0 0 0) H := hP
  have hD : va_D (fun q : Nat => s.heap.size ≤ q) (wC cI cZ q (cst 0) (cst 0) (cst 0) (cst 0) (cst 0) (cst 0) (cst 0) (cst 0) (cst 0) (cst 0) (cst 0) 0 0 0) := hD
  refine lv_astore_n (lv' := [(1, .ref (q 0)), (0, .ref b)]) hx hb dL_law_7 rfl hl (by decide) rfl (fun ls hl => ?_)
  refine lv_aload_n hx hb dL_law_8 rfl (lv_at hl 0 rfl) ?_
  refine lv_aload_n hx hb dL_law_9 rfl (lv_at hl 1 rfl) ?_
  have hN : (zLC q).Nodup := zND hD
  have hqS : ∀ a ∈ zLC q, s.heap.size ≤ a := zDA hD
  have hqz : ∀ x ∈ zLC q, x < H.size := zPlt hP rfl
  have hbz : b < H.size := Nat.lt_of_lt_of_le hbl hS.1
  have hbq : b ∉ zLC q := fun h => absurd (hqS b h) (Nat.not_le.mpr hbl)
  have hXH := va_X.kept hX (hS.2.1 b hbl (Nat.not_le.mpr hbl))
  obtain ⟨s0, hs0⟩ : ∃ s0 : Nat, s0 = H.size := ⟨_, rfl⟩
  refine zcallGE (As := [.ref (q 0), .ref b]) (rest := []) ⟨hx, hb, hml, hown, hts⟩ hK hQ (kL_build l D cI cZ d1 d2 H.size q hN b L xs hL hqz hbz hbq) (va_cwS 2 hts gL_law_L_build rfl rfl rfl (by decide +kernel) ⟨Nat.le_of_ble_eq_true rfl, Nat.le_of_ble_eq_true rfl⟩) zBl.eb (fun U hU hW => ⟨by rw [hU]; exact va_X.moved hW.alike hXH, va_Nw.warmM hW h79, zN15.warm hW h15⟩) hP hS (fun x h => h.elim (fun h => hqS x h) (fun h => Nat.le_trans hS.1 h)) rfl hl.1 rfl (Nat.le_of_ble_eq_true rfl) dL_law_10 ⟨Nat.le_of_ble_eq_true rfl, Nat.le_of_ble_eq_true rfl⟩ (fun v9 H2 locs hp9 hz9 hk9 hS => ?_)
  rw [← hs0] at hp9 hqz
  obtain ⟨rfl, hJ⟩ := hp9
  have hsS : s.heap.size ≤ s0 := Nat.le_trans (Nat.le_of_lt (Nat.lt_of_le_of_lt (hqS (q 0) (by simp [zLC])) (hqz (q 0) (by simp [zLC])))) (Nat.le_refl _)
  refine W.eq (g2 := F0 m 13 ls [.ref s0]) rfl ?_
  refine lv_astore_n (lv' := [(2, .ref s0), (1, .ref (q 0)), (0, .ref b)]) hx hb dL_law_13 rfl hl (by decide) rfl (fun ls hl => ?_)
  refine lv_aload_n hx hb dL_law_14 rfl (lv_at hl 0 rfl) ?_
  refine lv_ifnonnull (tgt := 20) hx hb dL_law_15 (by decide) ?_
  have hl := lv_sub hl (l' := [(0, .ref b), (1, .ref (q 0)), (2, .ref s0)]) [2, 1, 0] rfl
  have C : zCtx p l s m meth c b L xs D cI cZ d1 d2 q s0 := ⟨⟨hx, hb, hr, hml, hlocks, hown, hst0⟩, ⟨hts, hK, hQ⟩, ⟨hX, hbl, hL⟩, ⟨hN, hqz, hqS, hsS⟩, hT⟩
  exact law_R C (cc0 := 14 + 330) (ss0 := 961 + 4300) (by decide) (by decide) rfl hJ hS hl
