/-! the law: where it starts -/
theorem x_tCas : ∀ q ∈ xCas, Cond.castable q.1 q.2 ∈ lw_tbl := by decide +kernel
theorem x_tDec : ∀ q ∈ xDec, Cond.declares q ∈ lw_tbl := by decide +kernel
theorem x_tStr : ∀ q ∈ xStr, Cond.stringRef RX4 q.1 q.2 ∈ lw_tbl := by decide +kernel
theorem x_tNest : Cond.methodLinkNest RX4 9 yX3_init RX4 ∈ lw_tbl := by decide +kernel
theorem x_tI : Cond.arrayClass .int ∈ lw_tbl := by decide +kernel
theorem x_tO : Cond.arrayOver (.object "java/lang/Object") ∈ lw_tbl := by decide +kernel
theorem x_tG : Cond.declares ⟨"java/lang/Object", "getClass", "()Ljava/lang/Class;"⟩ ∈ lw_tbl := by decide +kernel
theorem x_tE : Cond.laysStatic "java/util/ArrayList" "DEFAULTCAPACITY_EMPTY_ELEMENTDATA" "[Ljava/lang/Object;" ∈ lw_tbl ∧ Cond.initialized "java/util/ArrayList" ∈ lw_tbl := by decide +kernel
theorem x_tU : Cond.laysStatic Bundle.tN "UNASSIGNED_STACK" Bundle.steD ∈ lw_tbl ∧ Cond.laysStatic Bundle.tN "SUPPRESSED_SENTINEL" Bundle.listD ∈ lw_tbl ∧ Cond.initialized Bundle.tN ∈ lw_tbl := by decide +kernel
theorem x_tin : Cond.instantiable RJx4a65c 3 ∈ lw_tbl ∧ Cond.instantiable RX0 7 ∈ lw_tbl ∧ Cond.instantiable RX1 5 ∈ lw_tbl ∧ Cond.instantiable RX2 6 ∈ lw_tbl ∧ Cond.instantiable RX3 2 ∈ lw_tbl ∧ Cond.instantiable RX4 7 ∈ lw_tbl := by decide +kernel
set_option maxHeartbeats 4000000 in
theorem gl_start {s : State} {b : Nat} (hts : ∀ w ∈ lw_tbl, w.before #[Value.ref b] s = true) (hgv : (Jvm.Cond.and given_1 narrow_1).before #[Value.ref b] s = true) : ∃ (D : va_G) (cI cO cL : ClassId) (eE mi : Nat) (sa : Nat → Nat), GL D cI cO cL (fun q => s.heap.size ≤ q) eE mi sa s := by
  have hs := flat_of_before _ hgv
  have hA : ∀ a : Nat, a < s.heap.size → ¬ (fun q : Nat => s.heap.size ≤ q) a := fun a h => Nat.not_le.mpr h
  obtain ⟨c0, i0, k0⟩ := u_known (C := RJx4a65c) (T := TJx4a65c) (N := 3) (n := 3) hts inJx4a65c (hts _ x_tin.1)
  obtain ⟨c1, i1, k1⟩ := u_known (C := RX0) (T := TX0) (N := 7) (n := 7) hts inX0 (hts _ x_tin.2.1)
  obtain ⟨c2, i2, k2⟩ := u_known (C := RX1) (T := TX1) (N := 5) (n := 5) hts inX1 (hts _ x_tin.2.2.1)
  obtain ⟨c3, i3, k3⟩ := u_known (C := RX2) (T := TX2) (N := 6) (n := 6) hts inX2 (hts _ x_tin.2.2.2.1)
  obtain ⟨c4, i4, k4⟩ := u_known (C := RX3) (T := TX3) (N := 2) (n := 2) hts inX3 (hts _ x_tin.2.2.2.2.1)
  obtain ⟨c5, i5, k5⟩ := u_known (C := RX4) (T := TX4) (N := 7) (n := 7) hts inX4 (hts _ x_tin.2.2.2.2.2)
  obtain ⟨dC, dI, hKc⟩ : ∃ (dC : Nat → ClassId) (dI : Nat → Nat → Nat), ∀ (k : Nat) (q : vw_C), vwCl[k]? = some q → u_Kn s q.1 q.2.1 q.2.2 (dC k) (dI k) := by
    refine ⟨fun k => match k with | 0 => c0 | 1 => c1 | 2 => c2 | 3 => c3 | 4 => c4 | _ => c5, fun k => match k with | 0 => i0 | 1 => i1 | 2 => i2 | 3 => i3 | 4 => i4 | _ => i5, ?_⟩
    intro k q hq
    match k, hq with
    | 0, hq => cases hq; exact k0
    | 1, hq => cases hq; exact k1
    | 2, hq => cases hq; exact k2
    | 3, hq => cases hq; exact k3
    | 4, hq => cases hq; exact k4
    | 5, hq => cases hq; exact k5
    | k + 6, hq => simp [vwCl] at hq
  obtain ⟨cI, kI, compI, a1, a2, a3⟩ := Cond.arrayClass_spec (hts _ x_tI)
  obtain ⟨compO, cO, kO, o1, -, o2, o3, o4⟩ := Cond.arrayOver_spec (hts _ x_tO)
  have hK : zKK (dC, dI) cI cO cI s := ⟨hKc, fun k q hq => by
    match k, hq with
    | 0, hq => cases hq; exact ⟨fun n z => ⟨fun k h => (by cases h), kI, a2, compI, a3⟩, a1⟩
    | 1, hq => cases hq; exact ⟨fun n z => ⟨fun k h => (by cases h), kO, o2, compO, o3⟩, kO, compO, o2, o3, o1, o4⟩
    | k + 2, hq => simp at hq⟩
  obtain ⟨eE, cE, cellE, kE, e1, e2, e3, e4, e5, e6, -⟩ := Cond.exactly_spec (hs (.exactly (.static "java/util/ArrayList" "DEFAULTCAPACITY_EMPTY_ELEMENTDATA" "[Ljava/lang/Object;") "[Ljava/lang/Object;") (by decide +kernel))
  have hE : zEm cO eE s.heap := by
    refine ⟨cellE, e3, ?_, ?_, fun k h => ?_⟩
    · rw [e6]; exact Option.some.inj (e2.symm.trans (z_oname hK))
    · obtain ⟨y, y1, y2⟩ := Cond.eq_one (hs (.eq (.length (.static "java/util/ArrayList" "DEFAULTCAPACITY_EMPTY_ELEMENTDATA" "[Ljava/lang/Object;")) (.int 0)) (by decide +kernel))
      obtain ⟨a, cell, z1, z2, z3⟩ := Term.length_spec y1
      have ea : a = eE := by
        have := z1.symm.trans e1
        cases this; rfl
      subst ea
      obtain ⟨w1, -⟩ := State.arrayAt?_spec z2
      have ec : cell = cellE := Option.some.inj (w1.symm.trans e3)
      subst ec
      rw [z3] at y2
      have y3 : some (Value.int 0) = some (Value.int cell.slots.size.toInt32) := y2
      exact (Value.int.inj (Option.some.inj y3)).symm
    · rw [h] at e5; cases e5
  obtain ⟨mi, hmi⟩ := va_Mi.of (hs (.isRef (.mirror "[Ljava/lang/Object;")) (by decide +kernel))
  have hstr : ∀ q ∈ xStr, ∃ a, vk_R RX4 q.1 q.2 a s := by
    have key : ∀ q ∈ xStr, Cond.exactly (.string RX4 q.1) "java/lang/String" ∈ flatC (Jvm.Cond.and given_1 narrow_1) := by decide +kernel
    intro q hq
    obtain ⟨a, _, _, _, h1, -⟩ := Cond.exactly_spec (hs _ (key q hq))
    exact ⟨a, vk_R.of (A := #[Value.ref b]) (hts _ (x_tStr q hq)) h1⟩
  have hnc : ∀ q ∈ xNcs, va_Nc q.1 q.2 s := by
    have key : ∀ q ∈ xNcs, Cond.not (.castable q.1 q.2) ∈ flatC (Jvm.Cond.and given_1 narrow_1) := by decide +kernel
    exact fun q hq => va_Nc.of (hs _ (key q hq))
  refine ⟨(dC, dI), cI, cO, cI, eE, mi, fun k => match (Term.string RX4 k).eval #[] s none [] s with | some (.ref a) => a | _ => 0, ⟨hK, va_Zref (hts _ x_tE.1) (hts _ x_tE.2) e1 hA, hE, fun h => ?_, fun q h => h, vx_Zqof (hts _ x_tU.1) (hts _ x_tU.2.2) (hs (.isRef (.static Bundle.tN "UNASSIGNED_STACK" Bundle.steD)) (by decide +kernel)) hA, vx_Zqof (hts _ x_tU.2.1) (hts _ x_tU.2.2) (hs (.isRef (.static Bundle.tN "SUPPRESSED_SENTINEL" Bundle.listD)) (by decide +kernel)) hA, va_AO.of (hts _ x_tO), hmi, va_Dc.of (hts _ x_tG), fun q hq => va_Nw.of rfl (hts _ (x_tCas q hq)), ⟨va_Nw.of rfl (hts _ x_tNest), fun q hq => va_Nw.of rfl (hts _ (x_tDec q hq))⟩, fun q hq => ?_⟩, hnc⟩
  · exact absurd hE.lt (Nat.not_lt.mpr h)
  · obtain ⟨a, h1, h2⟩ := hstr q hq
    have e : (match (Term.string RX4 q.1).eval #[] s none [] s with | some (.ref a) => a | _ => 0) = a := by rw [h2]
    show vk_R RX4 q.1 q.2 (match (Term.string RX4 q.1).eval #[] s none [] s with | some (.ref a) => a | _ => 0) s
    rw [e]
    exact ⟨h1, h2⟩
theorem lw_a0 : Cond.classLink RL 9 RX4 ∈ wsL_law := by decide +kernel
theorem lw_b0 : Cond.instantiable RX4 7 ∈ wsL_law := by decide +kernel
theorem lw_c0 : Cond.initialized RX4 ∈ wsL_law := by decide +kernel
theorem lw_g0 : Cond.methodLink RL 128 yX4_init ∈ wsL_law := by decide +kernel
theorem lw_h0 : Cond.instanceMethod yX4_init ∈ wsL_law := by decide +kernel
theorem lw_k0 : Cond.arrayClass .int ∈ wsL_law := by decide +kernel
set_option maxRecDepth 100000 in
set_option maxHeartbeats 4000000 in
theorem law_from {p : Program} {e : Env} {s : State} {m : MethodId} {below : List Frame} {meth : Method} {c : Code} (l : Launch) (hfl : l.stackTraces = false) {b L : Nat} {xs : Nat → Int32} {Q : State → Prop} (hL : L ≤ 260) (hx : p.tables.exec = Jvm.exec) (hb : c.code = cL_law) (hml : c.maxLocals = 25) (hown : s.vm.findClass RL = some m.cls) (htb : ∀ w ∈ lw_tbl, w.before #[Value.ref b] s = true) (hX : va_X b L xs s s.heap) (hbl : b < s.heap.size) (hgv : (Jvm.Cond.and given_1 narrow_1).before #[Value.ref b] s = true)
    (fin : ∀ (H : Heap) (ls : Array Slot), W p l e room_1 s m #[Value.ref b] below meth c H [] 675069 7076417 Q (F0 m 1396 ls [.int 1])) : W p l e room_1 s m #[Value.ref b] below meth c s.heap [] 0 0 Q (entryFrame m ([Value.ref b] : List Value).toArray 25) := by
  obtain ⟨D, cI, cO, cL, eE, mi, sa, hGL⟩ := gl_start htb hgv
  have hK : zKK D cI cO cL s := hGL.1.k
  have hts : ∀ w ∈ wsL_law, w.before #[Value.ref b] s = true := fun w h => htb w (wsL_law_in w h)
  have hl := lv_entry ([.ref b]) (n := 25) (Nat.le_of_ble_eq_true rfl)
  rw [lg_entry_eq]
  generalize (lg_sl ([.ref b]) ++ List.replicate (25 - (lg_sl ([.ref b])).length) Slot.unset).toArray = ls at hl ⊢
  have hl : lv_has ls 25 [(0, .ref b)] := hl
  refine z_new hx hb hts inlX4 tyX4 tyX4_ok hown lw_a0 lw_b0 lw_c0 hK (va_S.rf (A := fun q => s.heap.size ≤ q) (H0 := s.heap)) (ci := 5) rfl (fs := [.null, .null, .null, .null, .int (zI 0), .int (zI 0), .int (zI 0)]) (by intro j hj; match j, hj with | 0, _ => rfl | 1, _ => rfl | 2, _ => rfl | 3, _ => rfl | 4, _ => rfl | 5, _ => rfl | 6, _ => rfl | n9 + 7, h9 => exact absurd h9 (by omega)) (Nat.le_of_ble_eq_true rfl) (Nat.le_of_ble_eq_true rfl) dL_law_0 (fun H1 hO1 hz1 ho1 hS1 => ?_)
  refine lv_dup hx hb dL_law_3 rfl ?_
  refine z_gI (As := []) (rest := [.ref s.heap.size]) ⟨hx, hb, hml, hown, hts⟩ (c_X4_init l D cI cO cL (fun q => s.heap.size ≤ q) eE mi sa H1 s.heap.size (Nat.le_refl _) hO1) (cwI 0 hts gL_law_X4_init rfl rfl rfl (hts _ lw_c0) (hts _ lw_g0) (hts _ lw_h0) rfl (by decide +kernel) ⟨(Nat.le_of_ble_eq_true rfl), (Nat.le_of_ble_eq_true rfl)⟩) hGL.1 hS1 rfl hl.1 rfl (Nat.le_of_ble_eq_true rfl) dL_law_4 ⟨(Nat.le_of_ble_eq_true rfl), (Nat.le_of_ble_eq_true rfl)⟩ (fun r1 H2 L2 hp2 hL2 => ?_)
  obtain ⟨e1, g, hg, hR, hz2, hk2⟩ := hp2
  rw [e1]
  refine va_forget (fun q hq => by
    rcases List.mem_append.mp hq with z | z
    · cases z
    · rcases hL2 q z with w | w <;> omega) ?_
  refine lv_astore_n (lv' := [(1, .ref s.heap.size), (0, .ref b)]) hx hb dL_law_7 rfl hl (by decide) rfl (fun ls hl => ?_)
  have hs1 : s.heap.size < H2.size := by omega
  have hS2 : va_S (fun q => s.heap.size ≤ q) s.heap H2 [] := ⟨by omega, fun q h1 h2 => (hk2 q (by omega) (by omega)).trans (ho1 q h1), fun q hq => absurd hq List.not_mem_nil⟩
  refine z_bipush hx hb dL_law_8 (by decide +kernel) ?_
  refine z_newaI (n := 6) hx hb dL_law_10 (hts _ lw_k0) hK hS2 (fun q hq => by show s.heap.size ≤ q; omega) ⟨by decide, by decide⟩ (Nat.le_of_ble_eq_true rfl) (Nat.le_of_ble_eq_true rfl) (fun H3 hO3 hz3 ho3 hS3 => ?_)
  refine lv_astore_n (lv' := [(2, .ref H2.size), (1, .ref s.heap.size), (0, .ref b)]) hx hb dL_law_12 rfl hl (by decide) rfl (fun ls hl => ?_)
  refine z_bipush hx hb dL_law_13 (by decide +kernel) ?_
  refine z_newaI (n := 6) hx hb dL_law_15 (hts _ lw_k0) hK hS3 (fun q hq => by show s.heap.size ≤ q; omega) ⟨by decide, by decide⟩ (Nat.le_of_ble_eq_true rfl) (Nat.le_of_ble_eq_true rfl) (fun H4 hO4 hz4 ho4 hS4 => ?_)
  refine lv_astore_n (lv' := [(3, .ref H3.size), (2, .ref H2.size), (1, .ref s.heap.size), (0, .ref b)]) hx hb dL_law_17 rfl hl (by decide) rfl (fun ls hl => ?_)
  refine z_iconst hx hb dL_law_18 ?_
  refine z_newaI (n := 4) hx hb dL_law_19 (hts _ lw_k0) hK hS4 (fun q hq => by show s.heap.size ≤ q; omega) ⟨by decide, by decide⟩ (Nat.le_of_ble_eq_true rfl) (Nat.le_of_ble_eq_true rfl) (fun H5 hO5 hz5 ho5 hS5 => ?_)
  refine lv_astore (lv' := [(4, .ref H4.size), (3, .ref H3.size), (2, .ref H2.size), (1, .ref s.heap.size), (0, .ref b)]) hx hb dL_law_21 hl (by decide) rfl (fun ls hl => ?_)
  refine z_bipush hx hb dL_law_23 (by decide +kernel) ?_
  refine z_newaI (n := 10) hx hb dL_law_25 (hts _ lw_k0) hK hS5 (fun q hq => by show s.heap.size ≤ q; omega) ⟨by decide, by decide⟩ (Nat.le_of_ble_eq_true rfl) (Nat.le_of_ble_eq_true rfl) (fun H6 hO6 hz6 ho6 hS6 => ?_)
  refine lv_astore (lv' := [(5, .ref H5.size), (4, .ref H4.size), (3, .ref H3.size), (2, .ref H2.size), (1, .ref s.heap.size), (0, .ref b)]) hx hb dL_law_27 hl (by decide) rfl (fun ls hl => ?_)
  refine z_bipush hx hb dL_law_29 (by decide +kernel) ?_
  refine z_newaI (n := 10) hx hb dL_law_31 (hts _ lw_k0) hK hS6 (fun q hq => by show s.heap.size ≤ q; omega) ⟨by decide, by decide⟩ (Nat.le_of_ble_eq_true rfl) (Nat.le_of_ble_eq_true rfl) (fun H7 hO7 hz7 ho7 hS7 => ?_)
  refine lv_astore (lv' := [(6, .ref H6.size), (5, .ref H5.size), (4, .ref H4.size), (3, .ref H3.size), (2, .ref H2.size), (1, .ref s.heap.size), (0, .ref b)]) hx hb dL_law_33 hl (by decide) rfl (fun ls hl => ?_)
  refine z_bipush hx hb dL_law_35 (by decide +kernel) ?_
  refine z_newaI (n := 10) hx hb dL_law_37 (hts _ lw_k0) hK hS7 (fun q hq => by show s.heap.size ≤ q; omega) ⟨by decide, by decide⟩ (Nat.le_of_ble_eq_true rfl) (Nat.le_of_ble_eq_true rfl) (fun H8 hO8 hz8 ho8 hS8 => ?_)
  refine lv_astore (lv' := [(7, .ref H7.size), (6, .ref H6.size), (5, .ref H5.size), (4, .ref H4.size), (3, .ref H3.size), (2, .ref H2.size), (1, .ref s.heap.size), (0, .ref b)]) hx hb dL_law_39 hl (by decide) rfl (fun ls hl => ?_)
  have k7 : ∀ q : Nat, q < H7.size → H8[q]? = H7[q]? := ho8
  have k6 : ∀ q : Nat, q < H6.size → H8[q]? = H6[q]? := fun q hq => (k7 q (by omega)).trans (ho7 q hq)
  have k5 : ∀ q : Nat, q < H5.size → H8[q]? = H5[q]? := fun q hq => (k6 q (by omega)).trans (ho6 q hq)
  have k4 : ∀ q : Nat, q < H4.size → H8[q]? = H4[q]? := fun q hq => (k5 q (by omega)).trans (ho5 q hq)
  have k3 : ∀ q : Nat, q < H3.size → H8[q]? = H3[q]? := fun q hq => (k4 q (by omega)).trans (ho4 q hq)
  have k2 : ∀ q : Nat, q < H2.size → H8[q]? = H2[q]? := fun q hq => (k3 q (by omega)).trans (ho3 q hq)
  have z3 : H3.size = H2.size + 1 := hz3
  have z4 : H4.size = H2.size + 2 := by omega
  have z5 : H5.size = H2.size + 3 := by omega
  have z6 : H6.size = H2.size + 4 := by omega
  have z7 : H7.size = H2.size + 5 := by omega
  have z8 : H8.size = H2.size + 6 := by omega
  have a0 := hO3.kept (k3 _ (z_lt hO3))
  have a1 := hO4.kept (k4 _ (z_lt hO4))
  have a2 := hO5.kept (k5 _ (z_lt hO5))
  have a3 := hO6.kept (k6 _ (z_lt hO6))
  have a4 := hO7.kept (k7 _ (z_lt hO7))
  have a5 := hO8
  rw [z3] at a1
  rw [z4] at a2
  rw [z5] at a3
  rw [z6] at a4
  rw [z7] at a5
  rw [z3, z4, z5, z6, z7] at hl
  have hRA : RA D cI (fun t => H2.size + t) (fun _ _ => 0) H8 := fun t ht => by
    match t, ht with
    | 0, _ => exact a0
    | 1, _ => exact a1
    | 2, _ => exact a2
    | 3, _ => exact a3
    | 4, _ => exact a4
    | 5, _ => exact a5
    | n + 6, h => exact absurd h (by omega)
  have hALr : ∀ q, AL (fun t => H2.size + t) q → H2.size ≤ q ∧ q < H8.size := fun q hq => by
    obtain ⟨t, h1, h2⟩ := hq
    have h3 : q = H2.size + t := h2
    omega
  have C1 : LC l p s m c b L xs D cI cO cL (fun q => (s.heap.size ≤ q ∧ q < H2.size) ∨ H8.size ≤ q) eE mi sa (fun t => H2.size + t) H8.size := by
    refine ⟨⟨hx, hb, hml, hown, hts⟩, ⟨hX, hbl, hL⟩, hK, fun t u _ _ h => (by have h2 : H2.size + t = H2.size + u := h; omega), hfl, fun U hW hsU hkU => ?_, fun q hq => ⟨?_, fun z => ?_⟩, fun q hq => ?_, by omega⟩
    · exact GL.sub (A := fun q => s.heap.size ≤ q) (fun q hq => by rcases hq with z | z <;> omega) (fun q hq => Or.inr (by omega)) (GL.warm hW (by omega) (fun q h1 _ => hkU q h1) hGL)
    · rcases hq with z | z <;> omega
    · have := hALr q z
      rcases hq with w | w <;> omega
    · have := hALr q hq; omega
  refine W.widen (k := 20) (n := 100) (Nat.le_of_ble_eq_true rfl) (Nat.le_of_ble_eq_true rfl) ?_
  refine law_body l C1 fin (τ := fun _ _ => 0) (fun _ => rfl) ⟨hg, ?_, hRA, Nat.le_refl _, hS8⟩ (lv_sub hl [7, 6, 5, 4, 3, 2, 1, 0] rfl)
  exact (hR.weaken (fun q h1 h2 => Or.inl ⟨h1, h2⟩)).kept (fun q hq _ => k2 q hq)
