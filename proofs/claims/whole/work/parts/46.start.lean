/-! the law: where it starts, its loop -/
theorem GL.sub {D : va_G} {cI cO cL : ClassId} {A B : Nat → Prop} {eE mi : Nat} {sa : Nat → Nat} {U : State} (h : ∀ q, B q → A q) (hu : ∀ q : Nat, U.heap.size ≤ q → B q) (hG : GL D cI cO cL A eE mi sa U) : GL D cI cO cL B eE mi sa U := ⟨GK.sub h hu hG.1, hG.2⟩
theorem RX.weaken {D : va_G} {cO : ClassId} {A B : Nat → Prop} {eE : Nat} {g : zG} {σ : zT} {H : Heap} (h : RX D cO A eE g σ H) (hB : ∀ q, A q → q < H.size → B q) : RX D cO B eE g σ H := ⟨h.1, h.2.1, fun t i hv => hB _ (h.2.2.1 t i hv) (z_lt (h.1 t i hv)), h.2.2.2⟩
theorem x_tCas : ∀ q ∈ xCas, Cond.castable q.1 q.2 ∈ lw_tbl := by decide +kernel
theorem x_tDec : ∀ q ∈ xDec, Cond.declares q ∈ lw_tbl := by decide +kernel
theorem x_tStr : ∀ q ∈ xStr, Cond.stringRef RX4 q.1 q.2 ∈ lw_tbl := by decide +kernel
theorem x_tNest : Cond.methodLinkNest RX4 9 yX3_init RX4 ∈ lw_tbl := by decide +kernel
theorem x_tI : Cond.arrayClass .int ∈ lw_tbl := by decide +kernel
theorem x_tL : Cond.arrayClass .long ∈ lw_tbl := by decide +kernel
theorem x_tO : Cond.arrayOver (.object "java/lang/Object") ∈ lw_tbl := by decide +kernel
theorem x_tG : Cond.declares ⟨"java/lang/Object", "getClass", "()Ljava/lang/Class;"⟩ ∈ lw_tbl := by decide +kernel
theorem x_tE : Cond.laysStatic "java/util/ArrayList" "DEFAULTCAPACITY_EMPTY_ELEMENTDATA" "[Ljava/lang/Object;" ∈ lw_tbl ∧ Cond.initialized "java/util/ArrayList" ∈ lw_tbl := by decide +kernel
theorem x_tU : Cond.laysStatic Bundle.tN "UNASSIGNED_STACK" Bundle.steD ∈ lw_tbl ∧ Cond.laysStatic Bundle.tN "SUPPRESSED_SENTINEL" Bundle.listD ∈ lw_tbl ∧ Cond.initialized Bundle.tN ∈ lw_tbl := by decide +kernel
theorem x_tin : Cond.instantiable RJx4a65c 3 ∈ lw_tbl ∧ Cond.instantiable RX0 7 ∈ lw_tbl ∧ Cond.instantiable RX1 5 ∈ lw_tbl ∧ Cond.instantiable RX2 6 ∈ lw_tbl ∧ Cond.instantiable RX3 2 ∈ lw_tbl ∧ Cond.instantiable RX4 7 ∈ lw_tbl ∧ Cond.instantiable RX5 22 ∈ lw_tbl := by decide +kernel
set_option maxHeartbeats 4000000 in
theorem gl_start {s : State} {b : Nat} (hts : ∀ w ∈ lw_tbl, w.before #[Value.ref b] s = true) (hgv : (Jvm.Cond.and given_1 narrow_1).before #[Value.ref b] s = true) : ∃ (D : va_G) (cI cO cL : ClassId) (eE mi : Nat) (sa : Nat → Nat), GL D cI cO cL (fun q => s.heap.size ≤ q) eE mi sa s := by
  have hs := flat_of_before _ hgv
  have hA : ∀ a : Nat, a < s.heap.size → ¬ (fun q : Nat => s.heap.size ≤ q) a := fun a h => Nat.not_le.mpr h
  obtain ⟨c0, i0, k0⟩ := u_known (C := RJx4a65c) (T := TJx4a65c) (N := 3) (n := 3) hts inJx4a65c (hts _ x_tin.1)
  obtain ⟨c1, i1, k1⟩ := u_known (C := RX0) (T := TX0) (N := 7) (n := 7) hts inX0 (hts _ x_tin.2.1)
  obtain ⟨c2, i2, k2⟩ := u_known (C := RX1) (T := TX1) (N := 5) (n := 5) hts inX1 (hts _ x_tin.2.2.1)
  obtain ⟨c3, i3, k3⟩ := u_known (C := RX2) (T := TX2) (N := 6) (n := 6) hts inX2 (hts _ x_tin.2.2.2.1)
  obtain ⟨c4, i4, k4⟩ := u_known (C := RX3) (T := TX3) (N := 2) (n := 2) hts inX3 (hts _ x_tin.2.2.2.2.1)
  obtain ⟨c5, i5, k5⟩ := u_known (C := RX4) (T := TX4) (N := 7) (n := 7) hts inX4 (hts _ x_tin.2.2.2.2.2.1)
  obtain ⟨c6, i6, k6⟩ := u_known (C := RX5) (T := TX5) (N := 22) (n := 22) hts inX5 (hts _ x_tin.2.2.2.2.2.2)
  obtain ⟨dC, dI, hKc⟩ : ∃ (dC : Nat → ClassId) (dI : Nat → Nat → Nat), ∀ (k : Nat) (q : vw_C), vwCl[k]? = some q → u_Kn s q.1 q.2.1 q.2.2 (dC k) (dI k) := by
    refine ⟨fun k => match k with | 0 => c0 | 1 => c1 | 2 => c2 | 3 => c3 | 4 => c4 | 5 => c5 | _ => c6, fun k => match k with | 0 => i0 | 1 => i1 | 2 => i2 | 3 => i3 | 4 => i4 | 5 => i5 | _ => i6, ?_⟩
    intro k q hq
    match k, hq with
    | 0, hq => cases hq; exact k0
    | 1, hq => cases hq; exact k1
    | 2, hq => cases hq; exact k2
    | 3, hq => cases hq; exact k3
    | 4, hq => cases hq; exact k4
    | 5, hq => cases hq; exact k5
    | 6, hq => cases hq; exact k6
    | k + 7, hq => simp [vwCl] at hq
  obtain ⟨cI, kI, compI, a1, a2, a3⟩ := Cond.arrayClass_spec (hts _ x_tI)
  obtain ⟨cL, kL, compL, b1, b2, b3⟩ := Cond.arrayClass_spec (hts _ x_tL)
  obtain ⟨compO, cO, kO, o1, -, o2, o3, o4⟩ := Cond.arrayOver_spec (hts _ x_tO)
  have hK : zKK (dC, dI) cI cO cL s := ⟨hKc, fun k q hq => by
    match k, hq with
    | 0, hq => cases hq; exact ⟨fun n z => ⟨fun k h => (by cases h), kI, a2, compI, a3⟩, a1⟩
    | 1, hq => cases hq; exact ⟨fun n z => ⟨fun k h => (by cases h), kO, o2, compO, o3⟩, kO, compO, o2, o3, o1, o4⟩
    | 2, hq => cases hq; exact ⟨fun n z => ⟨fun k h => (by cases h), kL, b2, compL, b3⟩, b1⟩
    | k + 3, hq => simp at hq⟩
  obtain ⟨eE, cE, cellE, kE, e1, e2, e3, e4, e5, e6, -⟩ := Cond.exactly_spec (hs (.exactly (.static "java/util/ArrayList" "DEFAULTCAPACITY_EMPTY_ELEMENTDATA" "[Ljava/lang/Object;") "[Ljava/lang/Object;") (by decide +kernel))
  have hE : zEm cO eE s.heap := by
    refine ⟨cellE, e3, ?_, ?_, fun k h => ?_⟩
    · rw [e6]; exact Option.some.inj (e2.symm.trans (z_oname hK))
    · obtain ⟨y, y1, y2⟩ := Cond.eq_one (hs (.eq (.length (.static "java/util/ArrayList" "DEFAULTCAPACITY_EMPTY_ELEMENTDATA" "[Ljava/lang/Object;")) (.int 0)) (by decide +kernel))
      obtain ⟨a, cell, z1, z2, z3⟩ := Term.length_spec y1
      have ea : a = eE := by
        have := z1.symm.trans e1
        cases this; rfl
      subst ea
      obtain ⟨w1, -⟩ := State.arrayAt?_spec z2
      have ec : cell = cellE := Option.some.inj (w1.symm.trans e3)
      subst ec
      rw [z3] at y2
      have y3 : some (Value.int 0) = some (Value.int cell.slots.size.toInt32) := y2
      exact (Value.int.inj (Option.some.inj y3)).symm
    · rw [h] at e5; cases e5
  obtain ⟨mi, hmi⟩ := va_Mi.of (hs (.isRef (.mirror "[Ljava/lang/Object;")) (by decide +kernel))
  have hstr : ∀ q ∈ xStr, ∃ a, vk_R RX4 q.1 q.2 a s := by
    have key : ∀ q ∈ xStr, Cond.exactly (.string RX4 q.1) "java/lang/String" ∈ flatC (Jvm.Cond.and given_1 narrow_1) := by decide +kernel
    intro q hq
    obtain ⟨a, _, _, _, h1, -⟩ := Cond.exactly_spec (hs _ (key q hq))
    exact ⟨a, vk_R.of (A := #[Value.ref b]) (hts _ (x_tStr q hq)) h1⟩
  have hnc : ∀ q ∈ xNcs, va_Nc q.1 q.2 s := by
    have key : ∀ q ∈ xNcs, Cond.not (.castable q.1 q.2) ∈ flatC (Jvm.Cond.and given_1 narrow_1) := by decide +kernel
    exact fun q hq => va_Nc.of (hs _ (key q hq))
  refine ⟨(dC, dI), cI, cO, cL, eE, mi, fun k => match (Term.string RX4 k).eval #[] s none [] s with | some (.ref a) => a | _ => 0, ⟨hK, va_Zref (hts _ x_tE.1) (hts _ x_tE.2) e1 hA, hE, fun h => ?_, fun q h => h, vx_Zqof (hts _ x_tU.1) (hts _ x_tU.2.2) (hs (.isRef (.static Bundle.tN "UNASSIGNED_STACK" Bundle.steD)) (by decide +kernel)) hA, vx_Zqof (hts _ x_tU.2.1) (hts _ x_tU.2.2) (hs (.isRef (.static Bundle.tN "SUPPRESSED_SENTINEL" Bundle.listD)) (by decide +kernel)) hA, va_AO.of (hts _ x_tO), hmi, va_Dc.of (hts _ x_tG), fun q hq => va_Nw.of rfl (hts _ (x_tCas q hq)), ⟨va_Nw.of rfl (hts _ x_tNest), fun q hq => va_Nw.of rfl (hts _ (x_tDec q hq))⟩, fun q hq => ?_⟩, hnc⟩
  · exact absurd hE.lt (Nat.not_lt.mpr h)
  · obtain ⟨a, h1, h2⟩ := hstr q hq
    have e : (match (Term.string RX4 q.1).eval #[] s none [] s with | some (.ref a) => a | _ => 0) = a := by rw [h2]
    show vk_R RX4 q.1 q.2 (match (Term.string RX4 q.1).eval #[] s none [] s with | some (.ref a) => a | _ => 0) s
    rw [e]
    exact ⟨h1, h2⟩
theorem z_newaL {p : Program} {l : Launch} {e : Env} {R : Room} {s : State} {m : MethodId} {args : Array Value} {below : List Frame} {meth : Method} {c : Code} {H : Heap} {locs : List Loc} {cells slots : Nat} {Q : State → Prop} {cc : ByteArray} {pc : Nat} {ls : Array Slot} {rest : List Value} {D : va_G} {cI cO cL : ClassId}
    (hexec : p.tables.exec = Jvm.exec) (hb : c.code = cc) (hdg : decode cc pc = .ok (.newarray .long, 2)) (harr : (Cond.arrayClass .long).before args s = true) (hK : zKK D cI cO cL s) (hcells : cells + 1 ≤ R.cells) (hslots : slots + 1 ≤ R.slots)
    (kk : ∀ (H1 : Heap), va_at D vwCl (H.size, zOut cL (fun _ => 0)) H1 → H1.size = H.size + 1 → (∀ q : Nat, q < H.size → H1[q]? = H[q]?) →
      W p l e R s m args below meth c H1 locs (cells + 1) (slots + 1) Q (F0 m (pc + 2) ls (.ref H.size :: rest))) : W p l e R s m args below meth c H locs cells slots Q (F0 m pc ls (.int (zI 1) :: rest)) := by
  refine va_newaK (atype := .long) hexec hb harr rfl hdg rfl (by decide) (N := 1) (by decide) (by decide) hcells hslots rfl fun H1 cA e1 z1 o1 hAr hNm => ?_
  have hcL : s.vm.findClass ("[" ++ FieldType.long.toString) = some cL := (hK.2 2 (cL, .long) rfl).2
  have e : cA = cL := Option.some.inj (hNm.symm.trans hcL)
  subst e
  exact kk H1 e1 z1 o1

set_option maxRecDepth 100000 in
set_option maxHeartbeats 4000000 in
theorem law_loop {p : Program} {e : Env} {s : State} {m : MethodId} {below : List Frame} {meth : Method} {c : Code} (l : Launch) {b L : Nat} {xs : Nat → Int32} {D : va_G} {cI cO cL : ClassId} {A : Nat → Prop} {eE mi : Nat} {sa : Nat → Nat} {x0 bm : Nat} {ma : Nat → Nat} {o h3 : Nat} {Q : State → Prop} (C0 : LC l p s m c b L xs D cI cO cL A eE mi sa bm ma o h3)
    (fin : ∀ (H : Heap) (ls : Array Slot), W p l e room_1 s m #[Value.ref b] below meth c H [] 601024 7293033 Q (F0 m 1292 ls [.int 1])) : ∀ (n k : Nat) (σ : zT) (H : Heap) (ls : Array Slot), L + 5 - k < n → k ≤ L + 5 → LZ s D cI cO cL A eE x0 bm ma o h3 σ H → lv_has ls 7 [(0, .ref b), (1, .ref x0), (2, .ref bm), (3, .ref o), (4, .int (zI (k : Int)))] → W p l e room_1 s m #[Value.ref b] below meth c H [] (20 + 2 * k) (400 + 24 * k) Q (F0 m 23 ls []) := by
  intro n
  induction n with
  | zero => intro k σ H ls h; exact absurd h (Nat.not_lt_zero _)
  | succ n ih =>
    intro k σ H ls hn hkL Z hl
    have Z0 := Z
    obtain ⟨⟨hx, hb, hml, hown, hts⟩, ⟨hX, hbl, hL⟩, hK, hM, hfl, hpre, hA1, hAMo, hoo, hAM, hs3⟩ := id C0
    obtain ⟨-, -, -, -, hz3, hk3⟩ := Z0
    have hs : s.heap.size ≤ H.size := by omega
    refine lv_iload hx hb dL_law_23 (lv_at hl 4 rfl) ?_
    refine lv_aload_n hx hb dL_law_25 rfl (lv_at hl 0 rfl) ?_
    refine z_scl hx hb hX hbl hs hk3 dL_law_26 ?_
    refine z_iconst hx hb dL_law_27 ?_
    refine z_isub hx hb dL_law_28 ?_
    refine z_icmp_gt (tgt := 1291) hx hb dL_law_29 (by decide) (by omega) (fun c1 => ?_) (fun c1 => ?_)
    · refine z_iconst hx hb dL_law_1291 ?_
      refine z_tov (w := .int 1) rfl ?_
      exact W.widen (by omega) (by omega) (fin H ls)
    have nxt : ∀ (σ : zT) (H : Heap) (ls : Array Slot), LZ s D cI cO cL A eE x0 bm ma o h3 σ H → lv_has ls 7 [(0, .ref b), (1, .ref x0), (2, .ref bm), (3, .ref o), (4, .int (zI (k : Int)))] → W p l e room_1 s m #[Value.ref b] below meth c H [] (20 + 2 * (k + 5)) (400 + 24 * (k + 5)) Q (F0 m 1285 ls []) := by
      intro σ2 H2 ls2 Z2 hl2
      refine z_iinc (lv' := [(4, .int (zI ((k : Int) + 5))), (0, .ref b), (1, .ref x0), (2, .ref bm), (3, .ref o)]) hx hb dL_law_1285 hl2 (k := 4) rfl (by decide) rfl (fun ls3 hl3 => ?_)
      refine lv_goto (tgt := 23) hx hb dL_law_1288 (by decide) ?_
      rw [show (k : Int) + 5 = ((k + 5 : Nat) : Int) by omega] at hl3
      exact ih (k + 5) σ2 H2 ls3 (by omega) (by omega) Z2 (lv_sub hl3 [1, 2, 3, 4, 0] rfl)
    refine lv_aload_n hx hb dL_law_32 rfl (lv_at hl 0 rfl) ?_
    refine lv_iload hx hb dL_law_33 (lv_at hl 4 rfl) ?_
    refine z_sc hx hb hX hbl hL hs hk3 (by omega) dL_law_35 ?_
    refine z_bipush hx hb dL_law_36 (by decide +kernel) ?_
    refine lv_iand hx hb dL_law_38 ?_
    generalize hre : (zI (ya xs (k : Int)) &&& zI 31).toInt = er
    have hr : -2147483648 ≤ er ∧ er < 2147483648 := by
      have h1 := Int32.le_toInt (zI (ya xs (k : Int)) &&& zI 31)
      have h2 := Int32.toInt_lt (zI (ya xs (k : Int)) &&& zI 31)
      rw [hre] at h1 h2
      omega
    refine z_tov (w := .int (zI er)) (by rw [← hre, zI_of]) ?_
    by_cases h0 : er = 0
    · refine lv_tableIn (off := 89) (tgt := 128) hx hb dL_law_39 (by rw [zI_val hr]; omega) (by rw [zI_val hr]; omega) (by rw [zI_val hr, h0]; rfl) (by decide) ?_
      exact law_tide l C0 k (by omega) Z hl nxt
    by_cases h1 : er = 1
    · refine lv_tableIn (off := 137) (tgt := 176) hx hb dL_law_39 (by rw [zI_val hr]; omega) (by rw [zI_val hr]; omega) (by rw [zI_val hr, h1]; rfl) (by decide) ?_
      exact law_tugs l C0 k (by omega) Z hl nxt
    by_cases h2 : er = 2
    · refine lv_tableIn (off := 193) (tgt := 232) hx hb dL_law_39 (by rw [zI_val hr]; omega) (by rw [zI_val hr]; omega) (by rw [zI_val hr, h2]; rfl) (by decide) ?_
      exact law_ship l C0 k (by omega) Z hl nxt
    by_cases h3 : er = 3
    · refine lv_tableIn (off := 285) (tgt := 324) hx hb dL_law_39 (by rw [zI_val hr]; omega) (by rw [zI_val hr]; omega) (by rw [zI_val hr, h3]; rfl) (by decide) ?_
      exact law_pilot l C0 k (by omega) Z hl nxt
    by_cases h4 : er = 4
    · refine lv_tableIn (off := 353) (tgt := 392) hx hb dL_law_39 (by rw [zI_val hr]; omega) (by rw [zI_val hr]; omega) (by rw [zI_val hr, h4]; rfl) (by decide) ?_
      exact law_call l C0 k (by omega) Z hl nxt
    by_cases h5 : er = 5
    · refine lv_tableIn (off := 421) (tgt := 460) hx hb dL_law_39 (by rw [zI_val hr]; omega) (by rw [zI_val hr]; omega) (by rw [zI_val hr, h5]; rfl) (by decide) ?_
      exact law_join l C0 k (by omega) Z hl nxt
    by_cases h6 : er = 6
    · refine lv_tableIn (off := 501) (tgt := 540) hx hb dL_law_39 (by rw [zI_val hr]; omega) (by rw [zI_val hr]; omega) (by rw [zI_val hr, h6]; rfl) (by decide) ?_
      exact law_again l C0 k (by omega) Z hl nxt
    by_cases h7 : er = 7
    · refine lv_tableIn (off := 557) (tgt := 596) hx hb dL_law_39 (by rw [zI_val hr]; omega) (by rw [zI_val hr]; omega) (by rw [zI_val hr, h7]; rfl) (by decide) ?_
      exact law_drop l C0 k (by omega) Z hl nxt
    by_cases h8 : er = 8
    · refine lv_tableIn (off := 625) (tgt := 664) hx hb dL_law_39 (by rw [zI_val hr]; omega) (by rw [zI_val hr]; omega) (by rw [zI_val hr, h8]; rfl) (by decide) ?_
      exact law_pass l C0 k (by omega) Z hl nxt
    by_cases h9 : er = 9
    · refine lv_tableIn (off := 681) (tgt := 720) hx hb dL_law_39 (by rw [zI_val hr]; omega) (by rw [zI_val hr]; omega) (by rw [zI_val hr, h9]; rfl) (by decide) ?_
      exact law_minute l C0 k (by omega) Z hl nxt
    by_cases h10 : er = 10
    · refine lv_tableIn (off := 694) (tgt := 733) hx hb dL_law_39 (by rw [zI_val hr]; omega) (by rw [zI_val hr]; omega) (by rw [zI_val hr, h10]; rfl) (by decide) ?_
      exact law_level l C0 k (by omega) Z hl nxt
    by_cases h11 : er = 11
    · refine lv_tableIn (off := 750) (tgt := 789) hx hb dL_law_39 (by rw [zI_val hr]; omega) (by rw [zI_val hr]; omega) (by rw [zI_val hr, h11]; rfl) (by decide) ?_
      exact law_window l C0 k (by omega) Z hl nxt
    by_cases h12 : er = 12
    · refine lv_tableIn (off := 818) (tgt := 857) hx hb dL_law_39 (by rw [zI_val hr]; omega) (by rw [zI_val hr]; omega) (by rw [zI_val hr, h12]; rfl) (by decide) ?_
      exact law_ofConference l C0 k (by omega) Z hl nxt
    by_cases h13 : er = 13
    · refine lv_tableIn (off := 886) (tgt := 925) hx hb dL_law_39 (by rw [zI_val hr]; omega) (by rw [zI_val hr]; omega) (by rw [zI_val hr, h13]; rfl) (by decide) ?_
      exact law_why l C0 k (by omega) Z hl nxt
    by_cases h14 : er = 14
    · refine lv_tableIn (off := 954) (tgt := 993) hx hb dL_law_39 (by rw [zI_val hr]; omega) (by rw [zI_val hr]; omega) (by rw [zI_val hr, h14]; rfl) (by decide) ?_
      exact law_rested l C0 k (by omega) Z hl nxt
    by_cases h15 : er = 15
    · refine lv_tableIn (off := 1010) (tgt := 1049) hx hb dL_law_39 (by rw [zI_val hr]; omega) (by rw [zI_val hr]; omega) (by rw [zI_val hr, h15]; rfl) (by decide) ?_
      exact law_restedAnew l C0 k (by omega) Z hl nxt
    by_cases h16 : er = 16
    · refine lv_tableIn (off := 1066) (tgt := 1105) hx hb dL_law_39 (by rw [zI_val hr]; omega) (by rw [zI_val hr]; omega) (by rw [zI_val hr, h16]; rfl) (by decide) ?_
      exact law_bill l C0 k (by omega) Z hl nxt
    by_cases h17 : er = 17
    · refine lv_tableIn (off := 1122) (tgt := 1161) hx hb dL_law_39 (by rw [zI_val hr]; omega) (by rw [zI_val hr]; omega) (by rw [zI_val hr, h17]; rfl) (by decide) ?_
      exact law_ofPilot l C0 k (by omega) Z hl nxt
    by_cases h18 : er = 18
    · refine lv_tableIn (off := 1190) (tgt := 1229) hx hb dL_law_39 (by rw [zI_val hr]; omega) (by rw [zI_val hr]; omega) (by rw [zI_val hr, h18]; rfl) (by decide) ?_
      exact law_count l C0 k (by omega) Z hl nxt
    refine lv_tableOut (tgt := 1285) hx hb dL_law_39 (by rw [zI_val hr]; omega) (by decide) ?_
    exact W.widen (by omega) (by omega) (nxt σ H ls Z hl)

theorem lw_a0 : Cond.classLink RL 8 RX4 ∈ wsL_law := by decide +kernel
theorem lw_b0 : Cond.instantiable RX4 7 ∈ wsL_law := by decide +kernel
theorem lw_c0 : Cond.initialized RX4 ∈ wsL_law := by decide +kernel
theorem lw_d0 : Cond.classLink RL 75 RX5 ∈ wsL_law := by decide +kernel
theorem lw_e0 : Cond.instantiable RX5 22 ∈ wsL_law := by decide +kernel
theorem lw_f0 : Cond.initialized RX5 ∈ wsL_law := by decide +kernel
theorem lw_g0 : Cond.methodLink RL 74 yX4_init ∈ wsL_law := by decide +kernel
theorem lw_h0 : Cond.instanceMethod yX4_init ∈ wsL_law := by decide +kernel
theorem lw_i0 : Cond.methodLink RL 77 yX5_init ∈ wsL_law := by decide +kernel
theorem lw_j0 : Cond.instanceMethod yX5_init ∈ wsL_law := by decide +kernel
theorem lw_k0 : Cond.arrayClass .long ∈ wsL_law := by decide +kernel
set_option maxRecDepth 100000 in
set_option maxHeartbeats 4000000 in
theorem law_from {p : Program} {e : Env} {s : State} {m : MethodId} {below : List Frame} {meth : Method} {c : Code} (l : Launch) (hfl : l.stackTraces = false) {b L : Nat} {xs : Nat → Int32} {Q : State → Prop} (hL : L ≤ 2560) (hx : p.tables.exec = Jvm.exec) (hb : c.code = cL_law) (hml : c.maxLocals = 7) (hown : s.vm.findClass RL = some m.cls) (htb : ∀ w ∈ lw_tbl, w.before #[Value.ref b] s = true) (hX : va_X b L xs s s.heap) (hbl : b < s.heap.size) (hgv : (Jvm.Cond.and given_1 narrow_1).before #[Value.ref b] s = true)
    (fin : ∀ (H : Heap) (ls : Array Slot), W p l e room_1 s m #[Value.ref b] below meth c H [] 601024 7293033 Q (F0 m 1292 ls [.int 1])) : W p l e room_1 s m #[Value.ref b] below meth c s.heap [] 0 0 Q (entryFrame m ([Value.ref b] : List Value).toArray 7) := by
  obtain ⟨D, cI, cO, cL, eE, mi, sa, hGL⟩ := gl_start htb hgv
  have hK : zKK D cI cO cL s := hGL.1.k
  have hts : ∀ w ∈ wsL_law, w.before #[Value.ref b] s = true := fun w h => htb w (wsL_law_in w h)
  have hl := lv_entry ([.ref b]) (n := 7) (Nat.le_of_ble_eq_true rfl)
  rw [lg_entry_eq]
  generalize (lg_sl ([.ref b]) ++ List.replicate (7 - (lg_sl ([.ref b])).length) Slot.unset).toArray = ls at hl ⊢
  have hl : lv_has ls 7 [(0, .ref b)] := hl
  refine z_new hx hb hts inlX4 tyX4 tyX4_ok hown lw_a0 lw_b0 lw_c0 hK (va_S.rf (A := fun q => s.heap.size ≤ q) (H0 := s.heap)) (ci := 5) rfl (fs := [.null, .null, .null, .null, .int (zI 0), .int (zI 0), .int (zI 0)]) (by intro j hj; match j, hj with | 0, _ => rfl | 1, _ => rfl | 2, _ => rfl | 3, _ => rfl | 4, _ => rfl | 5, _ => rfl | 6, _ => rfl | n9 + 7, h9 => exact absurd h9 (by omega)) (Nat.le_of_ble_eq_true rfl) (Nat.le_of_ble_eq_true rfl) dL_law_0 (fun H1 hO1 hz1 ho1 hS1 => ?_)
  refine lv_dup hx hb dL_law_3 rfl ?_
  refine z_gI (As := []) (rest := [.ref s.heap.size]) ⟨hx, hb, hml, hown, hts⟩ (c_X4_init l D cI cO cL (fun q => s.heap.size ≤ q) eE mi sa H1 s.heap.size (Nat.le_refl _) hO1) (cwI 0 hts gL_law_X4_init rfl rfl rfl (hts _ lw_c0) (hts _ lw_g0) (hts _ lw_h0) rfl (by decide +kernel) ⟨(Nat.le_of_ble_eq_true rfl), (Nat.le_of_ble_eq_true rfl)⟩) hGL.1 hS1 rfl hl.1 rfl (Nat.le_of_ble_eq_true rfl) dL_law_4 ⟨(Nat.le_of_ble_eq_true rfl), (Nat.le_of_ble_eq_true rfl)⟩ (fun r1 H2 L2 hp2 hL2 => ?_)
  obtain ⟨e1, g, hg, hR, hz2, hk2⟩ := hp2
  rw [e1]
  refine va_forget (fun q hq => by
    rcases List.mem_append.mp hq with z | z
    · cases z
    · rcases hL2 q z with w | w <;> omega) ?_
  refine lv_astore_n (lv' := [(1, .ref s.heap.size), (0, .ref b)]) hx hb dL_law_7 rfl hl (by decide) rfl (fun ls hl => ?_)
  refine z_new hx hb hts inlX5 tyX5 tyX5_ok hown lw_d0 lw_e0 lw_f0 hK (va_S.rf (A := fun q => s.heap.size ≤ q) (H0 := H2)) (ci := 6) rfl (fs := [.int (zI 0), .int (zI 0), .int (zI 0), .int (zI 0), .int (zI 0), .int (zI 0), .null, .null, .null, .null, .null, .int (zI 0), .null, .null, .int (zI 0), .null, .null, .null, .null, .null, .null, .int (zI 0)]) (by intro j hj; match j, hj with | 0, _ => rfl | 1, _ => rfl | 2, _ => rfl | 3, _ => rfl | 4, _ => rfl | 5, _ => rfl | 6, _ => rfl | 7, _ => rfl | 8, _ => rfl | 9, _ => rfl | 10, _ => rfl | 11, _ => rfl | 12, _ => rfl | 13, _ => rfl | 14, _ => rfl | 15, _ => rfl | 16, _ => rfl | 17, _ => rfl | 18, _ => rfl | 19, _ => rfl | 20, _ => rfl | 21, _ => rfl | n9 + 22, h9 => exact absurd h9 (by omega)) (Nat.le_of_ble_eq_true rfl) (Nat.le_of_ble_eq_true rfl) dL_law_8 (fun H3 hO3 hz3 ho3 hS3 => ?_)
  refine lv_dup hx hb dL_law_11 rfl ?_
  refine z_run (va_runI (As := []) (rest := [.ref H2.size]) ⟨hx, hb, hml, hown, hts⟩ (c_X5_init l D cI cO cL H2.size H3 hO3) (cwI 0 hts gL_law_X5_init rfl rfl rfl (hts _ lw_f0) (hts _ lw_i0) (hts _ lw_j0) rfl (by decide +kernel) ⟨(Nat.le_of_ble_eq_true rfl), (Nat.le_of_ble_eq_true rfl)⟩) ⟨fun a U g mk q => ⟨q.1, q.2.1, va_K.moved (u := U) (U := U.calling g mk a) (Vm.Alike.refl U.vm) q.2.2⟩, fun U hU hWm => ⟨rfl, hU, va_K.moved hWm.alike hK⟩⟩ rfl rfl hl.1 rfl (lv_room (Nat.le_of_ble_eq_true rfl)) dL_law_12 ⟨(Nat.le_of_ble_eq_true rfl), (Nat.le_of_ble_eq_true rfl)⟩) (fun v st₀ t H4 L4 h0 h1 hv hq hL4 => ?_)
  obtain ⟨ev, ma, hRM, hMA, hma, hsz, hk4⟩ := hq
  cases ev
  rw [h0] at hma hsz hk4
  rw [h1] at hRM hma hsz hk4
  refine va_forget (fun q hq => by
    rcases List.mem_append.mp hq with z | z
    · cases z
    · rcases hL4 q z with w | w
      · have w2 : @Eq Nat q.base H2.size := w
        omega
      · have w2 : H3.size ≤ (q.base : Nat) := w
        omega) ?_
  refine lv_astore_n (lv' := [(2, .ref H2.size), (1, .ref s.heap.size), (0, .ref b)]) hx hb dL_law_15 rfl hl (by decide) rfl (fun ls hl => ?_)
  refine z_iconst hx hb dL_law_16 ?_
  refine z_newaL hx hb dL_law_17 (hts _ lw_k0) hK (Nat.le_of_ble_eq_true rfl) (Nat.le_of_ble_eq_true rfl) (fun H5 hO5 hz5 ho5 => ?_)
  refine lv_astore_n (lv' := [(3, .ref H4.size), (2, .ref H2.size), (1, .ref s.heap.size), (0, .ref b)]) hx hb dL_law_19 rfl hl (by decide) rfl (fun ls hl => ?_)
  refine z_iconst hx hb dL_law_20 ?_
  refine lv_istore (lv' := [(4, .int (zI 0)), (3, .ref H4.size), (2, .ref H2.size), (1, .ref s.heap.size), (0, .ref b)]) hx hb dL_law_21 hl (by decide) rfl (fun ls hl => ?_)
  have hs1 : s.heap.size < H2.size := by omega
  have hAMr : ∀ q, AM H2.size ma q → H2.size ≤ q ∧ q < H4.size := fun q hq => by
    rcases hq with z | ⟨t, z1, z2⟩
    · omega
    · have := hma t z1; omega
  have kS : ∀ q : Nat, q < H2.size → H5[q]? = H2[q]? := fun q hq => (ho5 q (by omega)).trans ((hk4 q (by omega) (by omega)).trans (ho3 q hq))
  have kO : ∀ q : Nat, q < s.heap.size → H5[q]? = s.heap[q]? := fun q hq => (kS q (by omega)).trans ((hk2 q (by omega) (by omega)).trans (ho1 q hq))
  have C1 : LC l p s m c b L xs D cI cO cL (fun q => (s.heap.size ≤ q ∧ q < H2.size) ∨ H5.size ≤ q) eE mi sa H2.size ma H4.size H5.size := by
    refine ⟨⟨hx, hb, hml, hown, hts⟩, ⟨hX, hbl, hL⟩, hK, hMA, hfl, fun U hW hsU hkU => ?_, fun q hq => ?_, fun z => ?_, ⟨by omega, by omega⟩, fun q hq => ?_, by omega⟩
    · exact GL.sub (A := fun q => s.heap.size ≤ q) (fun q hq => by rcases hq with z | z <;> omega) (fun q hq => Or.inr (by omega)) (GL.warm hW (by omega) (fun q h1 _ => hkU q h1) hGL)
    · refine ⟨?_, fun z => ?_, ?_⟩
      · rcases hq with z | z <;> omega
      · have := hAMr q z
        rcases hq with w | w <;> omega
      · rcases hq with z | z <;> omega
    · have := hAMr _ z; omega
    · have := hAMr q hq; omega
  refine W.widen (k := 20 + 2 * 0) (n := 400 + 24 * 0) (Nat.le_of_ble_eq_true rfl) (Nat.le_of_ble_eq_true rfl) ?_
  refine law_loop l C1 fin (L + 6) 0 zInit H5 ls (by omega) (by omega) ⟨⟨g, hg, ?_⟩, ?_, zAll_0, ⟨_, hO5⟩, Nat.le_refl _, kO⟩ (lv_sub hl [4, 3, 2, 1, 0] rfl)
  · exact (hR.weaken (fun q h1 h2 => Or.inl ⟨h1, h2⟩)).kept (fun q hq _ => kS q hq)
  · exact hRM.kept (fun q hq => ho5 q (hAMr q hq).2)
