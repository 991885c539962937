/-! the law: its turns -/
set_option maxRecDepth 100000 in
set_option maxHeartbeats 8000000 in
theorem law_op {p : Program} {e : Env} {s : State} {m : MethodId} {below : List Frame} {meth : Method} {c : Code} (l : Launch) {b L : Nat} {xs : Nat → Int32} {D : va_G} {cI cO cL : ClassId} {A : Nat → Prop} {eE mi : Nat} {sa la : Nat → Nat} {x0 h3 : Nat} {Q : State → Prop} (C0 : LC l p s m c b L xs D cI cO cL A eE mi sa la h3) (d turn v u k : Int) (hd : 0 ≤ d ∧ d ≤ 14) (htn : 0 ≤ turn ∧ turn < 70) (hv : -2147483648 ≤ v ∧ v < 2147483648) (hu : -2147483648 ≤ u ∧ u < 2147483648) {τ σ : zT} {g : zG} {H : Heap} {locs : List Loc} {ls : Array Slot} (hZ : zLaw σ) (hT : Rl τ σ) (hS : zLV D cI cO A eE x0 la s h3 τ σ g H locs) (hk : (σ 14 0 = 0 ∧ k = 0) ∨ (0 ≤ k ∧ k < σ 14 0)) (hl : lv_has ls 25 [(0, .ref b), (1, .ref x0), (2, .ref (la 0)), (3, .ref (la 1)), (4, .ref (la 2)), (5, .ref (la 3)), (6, .ref (la 4)), (7, .ref (la 5)), (8, .int (zI d)), (9, .int (zI turn)), (10, .int (zI v)), (11, .int (zI u)), (12, .int (zI k)), (13, .int (zI 1))]) (next : ∀ (d : Int) (τ σ : zT) (g : zG) (H : Heap) (locs : List Loc) (ls : Array Slot), 0 ≤ d ∧ d ≤ 14 → zLaw σ → Rl τ σ → zLV D cI cO A eE x0 la s h3 τ σ g H locs → lv_has ls 25 [(0, .ref b), (1, .ref x0), (2, .ref (la 0)), (3, .ref (la 1)), (4, .ref (la 2)), (5, .ref (la 3)), (6, .ref (la 4)), (7, .ref (la 5)), (8, .int (zI d)), (9, .int (zI turn)), (11, .int (zI u)), (13, .int (zI 1))] → W p l e room_1 s m #[Value.ref b] below meth c H locs (110 + 250 * turn.toNat + 30) (1500 + 1500 * turn.toNat + 200) Q (F0 m 1336 ls [])) : W p l e room_1 s m #[Value.ref b] below meth c H locs (110 + 250 * turn.toNat) (1500 + 1500 * turn.toNat) Q (F0 m 293 ls []) := by
  obtain ⟨⟨hx, hb, hml, hown, hts⟩, ⟨hX, hbl, hL⟩, hK, hM, hfl, hpre, hAc, hAL, hs3⟩ := id C0
  have hI := hZ.i
  have hB := hZ.b
  have hJ := hZ.j
  have nn := hZ.n
  have f0 := hI.r
  refine lv_iload hx hb dL_law_293 (lv_at hl 9 rfl) ?_
  refine z_iconst hx hb dL_law_295 ?_
  refine z_icmp_ge (tgt := 303) hx hb dL_law_296 (by decide) (by omega) (fun c_1 => ?_) (fun c_1 => ?_)
  · refine lv_iload hx hb dL_law_303 (lv_at hl 10 rfl) ?_
    refine z_bipush hx hb dL_law_305 (by decide +kernel) ?_
    refine z_cs (As := [.int (zI v), .int (zI 14)]) (rest := []) ⟨hx, hb, hml, hown, hts⟩ (c_L_low l D cI cO cL H v 14 (by omega)) (va_cwS 2 hts gL_law_L_low rfl rfl rfl (by decide +kernel) ⟨(Nat.le_of_ble_eq_true rfl), (Nat.le_of_ble_eq_true rfl)⟩) (zKK_mv D cI cO cL) (fun U _ hv => va_K.moved hv hK) rfl hl.1 rfl (Nat.le_of_ble_eq_true rfl) dL_law_307 ⟨by show 110 + 250 * turn.toNat ≤ 675069; omega, by show 1500 + 1500 * turn.toNat ≤ 7076417; omega⟩ (fun r_3 hr_3 => ?_)
    obtain ⟨z_2, ez_2, hz_2⟩ := hr_3
    rw [ez_2]
    by_cases c_4 : z_2 = 0
    · refine lv_tableIn (off := 58) (tgt := 368) hx hb dL_law_310 (by rw [zI_val (by omega)]; omega) (by rw [zI_val (by omega)]; omega) (by rw [zI_val (by omega), c_4]; rfl) (by decide) ?_
      exact law_call l C0 d turn v u k hd htn hv hu hZ hT hS hk (lv_sub hl [0, 1, 2, 3, 4, 5, 6, 7, 8, 9, 10, 11, 12, 13] rfl) next
    by_cases c_5 : z_2 = 1
    · refine lv_tableIn (off := 58) (tgt := 368) hx hb dL_law_310 (by rw [zI_val (by omega)]; omega) (by rw [zI_val (by omega)]; omega) (by rw [zI_val (by omega), c_5]; rfl) (by decide) ?_
      exact law_call l C0 d turn v u k hd htn hv hu hZ hT hS hk (lv_sub hl [0, 1, 2, 3, 4, 5, 6, 7, 8, 9, 10, 11, 12, 13] rfl) next
    by_cases c_6 : z_2 = 2
    · refine lv_tableIn (off := 181) (tgt := 491) hx hb dL_law_310 (by rw [zI_val (by omega)]; omega) (by rw [zI_val (by omega)]; omega) (by rw [zI_val (by omega), c_6]; rfl) (by decide) ?_
      exact law_join l C0 d turn v u k hd htn hv hu hZ hT hS hk (lv_sub hl [0, 1, 2, 3, 4, 5, 6, 7, 8, 9, 10, 11, 12, 13] rfl) next
    by_cases c_7 : z_2 = 3
    · refine lv_tableIn (off := 181) (tgt := 491) hx hb dL_law_310 (by rw [zI_val (by omega)]; omega) (by rw [zI_val (by omega)]; omega) (by rw [zI_val (by omega), c_7]; rfl) (by decide) ?_
      exact law_join l C0 d turn v u k hd htn hv hu hZ hT hS hk (lv_sub hl [0, 1, 2, 3, 4, 5, 6, 7, 8, 9, 10, 11, 12, 13] rfl) next
    by_cases c_8 : z_2 = 4
    · refine lv_tableIn (off := 181) (tgt := 491) hx hb dL_law_310 (by rw [zI_val (by omega)]; omega) (by rw [zI_val (by omega)]; omega) (by rw [zI_val (by omega), c_8]; rfl) (by decide) ?_
      exact law_join l C0 d turn v u k hd htn hv hu hZ hT hS hk (lv_sub hl [0, 1, 2, 3, 4, 5, 6, 7, 8, 9, 10, 11, 12, 13] rfl) next
    by_cases c_9 : z_2 = 5
    · refine lv_tableIn (off := 181) (tgt := 491) hx hb dL_law_310 (by rw [zI_val (by omega)]; omega) (by rw [zI_val (by omega)]; omega) (by rw [zI_val (by omega), c_9]; rfl) (by decide) ?_
      exact law_join l C0 d turn v u k hd htn hv hu hZ hT hS hk (lv_sub hl [0, 1, 2, 3, 4, 5, 6, 7, 8, 9, 10, 11, 12, 13] rfl) next
    by_cases c_10 : z_2 = 6
    · refine lv_tableIn (off := 181) (tgt := 491) hx hb dL_law_310 (by rw [zI_val (by omega)]; omega) (by rw [zI_val (by omega)]; omega) (by rw [zI_val (by omega), c_10]; rfl) (by decide) ?_
      exact law_join l C0 d turn v u k hd htn hv hu hZ hT hS hk (lv_sub hl [0, 1, 2, 3, 4, 5, 6, 7, 8, 9, 10, 11, 12, 13] rfl) next
    by_cases c_11 : z_2 = 7
    · refine lv_tableIn (off := 385) (tgt := 695) hx hb dL_law_310 (by rw [zI_val (by omega)]; omega) (by rw [zI_val (by omega)]; omega) (by rw [zI_val (by omega), c_11]; rfl) (by decide) ?_
      exact law_again l C0 d turn v u k hd htn hv hu hZ hT hS hk (lv_sub hl [0, 1, 2, 3, 4, 5, 6, 7, 8, 9, 10, 11, 12, 13] rfl) next
    by_cases c_12 : z_2 = 8
    · refine lv_tableIn (off := 466) (tgt := 776) hx hb dL_law_310 (by rw [zI_val (by omega)]; omega) (by rw [zI_val (by omega)]; omega) (by rw [zI_val (by omega), c_12]; rfl) (by decide) ?_
      exact law_drop l C0 d turn v u k hd htn hv hu hZ hT hS hk (lv_sub hl [0, 1, 2, 3, 4, 5, 6, 7, 8, 9, 10, 11, 12, 13] rfl) next
    by_cases c_13 : z_2 = 9
    · refine lv_tableIn (off := 466) (tgt := 776) hx hb dL_law_310 (by rw [zI_val (by omega)]; omega) (by rw [zI_val (by omega)]; omega) (by rw [zI_val (by omega), c_13]; rfl) (by decide) ?_
      exact law_drop l C0 d turn v u k hd htn hv hu hZ hT hS hk (lv_sub hl [0, 1, 2, 3, 4, 5, 6, 7, 8, 9, 10, 11, 12, 13] rfl) next
    by_cases c_14 : z_2 = 10
    · refine lv_tableIn (off := 726) (tgt := 1036) hx hb dL_law_310 (by rw [zI_val (by omega)]; omega) (by rw [zI_val (by omega)]; omega) (by rw [zI_val (by omega), c_14]; rfl) (by decide) ?_
      exact law_ten l C0 d turn v u k hd htn hv hu hZ hT hS hk (lv_sub hl [0, 1, 2, 3, 4, 5, 6, 7, 8, 9, 10, 11, 12, 13] rfl) next
    refine lv_tableOut (tgt := 1132) hx hb dL_law_310 (by rw [zI_val (by omega)]; omega) (by decide) ?_
    exact law_pass l C0 d turn v u k hd htn hv hu hZ hT hS hk (lv_sub hl [0, 1, 2, 3, 4, 5, 6, 7, 8, 9, 10, 11, 12, 13] rfl) next
  · refine z_iconst hx hb dL_law_299 ?_
    refine lv_goto (tgt := 310) hx hb dL_law_300 (by decide) ?_
    refine lv_tableIn (off := 58) (tgt := 368) hx hb dL_law_310 (by decide +kernel) (by decide +kernel) (by decide +kernel) (by decide) ?_
    exact law_call l C0 d turn v u k hd htn hv hu hZ hT hS hk (lv_sub hl [0, 1, 2, 3, 4, 5, 6, 7, 8, 9, 10, 11, 12, 13] rfl) next

set_option maxRecDepth 100000 in
set_option maxHeartbeats 8000000 in
theorem law_turns {p : Program} {e : Env} {s : State} {m : MethodId} {below : List Frame} {meth : Method} {c : Code} (l : Launch) {b L : Nat} {xs : Nat → Int32} {D : va_G} {cI cO cL : ClassId} {A : Nat → Prop} {eE mi : Nat} {sa la : Nat → Nat} {x0 h3 : Nat} {Q : State → Prop} (C0 : LC l p s m c b L xs D cI cO cL A eE mi sa la h3) (fin : ∀ (H : Heap) (ls : Array Slot), W p l e room_1 s m #[Value.ref b] below meth c H [] (675069) (7076417) Q (F0 m 1396 ls [.int 1])) : ∀ (nN : Nat) (d turn : Int) (τ σ : zT) (g : zG) (H : Heap) (ls : Array Slot), (70 - turn).toNat < nN → 0 ≤ d ∧ d ≤ 14 → 0 ≤ turn ∧ turn ≤ 70 → zLaw σ → Rl τ σ → zLV D cI cO A eE x0 la s h3 τ σ g H [] → lv_has ls 25 [(0, .ref b), (1, .ref x0), (2, .ref (la 0)), (3, .ref (la 1)), (4, .ref (la 2)), (5, .ref (la 3)), (6, .ref (la 4)), (7, .ref (la 5)), (8, .int (zI d)), (9, .int (zI turn))] → W p l e room_1 s m #[Value.ref b] below meth c H [] (110 + 250 * turn.toNat) (1500 + 1500 * turn.toNat) Q (F0 m 235 ls []) := by
  intro nN
  induction nN with
  | zero => intro d turn τ σ g H ls h; exact absurd h (Nat.not_lt_zero _)
  | succ nN ih =>
    intro d turn τ σ g H ls hm hd htt hZ hT hS hl
    obtain ⟨⟨hx, hb, hml, hown, hts⟩, ⟨hX, hbl, hL⟩, hK, hM, hfl, hpre, hAc, hAL, hs3⟩ := id C0
    have nxt : turn < 70 → ∀ (u : Int) (hu : -2147483648 ≤ u ∧ u < 2147483648) (d : Int) (τ σ : zT) (g : zG) (H : Heap) (locs : List Loc) (ls : Array Slot), 0 ≤ d ∧ d ≤ 14 → zLaw σ → Rl τ σ → zLV D cI cO A eE x0 la s h3 τ σ g H locs → lv_has ls 25 [(0, .ref b), (1, .ref x0), (2, .ref (la 0)), (3, .ref (la 1)), (4, .ref (la 2)), (5, .ref (la 3)), (6, .ref (la 4)), (7, .ref (la 5)), (8, .int (zI d)), (9, .int (zI turn)), (11, .int (zI u)), (13, .int (zI 1))] → W p l e room_1 s m #[Value.ref b] below meth c H locs (110 + 250 * turn.toNat + 30) (1500 + 1500 * turn.toNat + 200) Q (F0 m 1336 ls []) := by
      intro htn9 u hu d τ σ g H locs ls hd hZ hT hS hl
      refine lv_iload hx hb dL_law_1336 (lv_at hl 11 rfl) ?_
      refine z_if_eq (tgt := 1358) hx hb dL_law_1338 (by decide) (by omega) (fun c_1 => ?_) (fun c_1 => ?_)
      · exact absurd c_1 (by decide)
      · refine lv_aload_n hx hb dL_law_1341 rfl (lv_at hl 1 rfl) ?_
        refine lv_iload hx hb dL_law_1342 (lv_at hl 10 rfl) ?_
        refine lv_aload_n hx hb dL_law_1344 rfl (lv_at hl 2 rfl) ?_
        refine lv_aload_n hx hb dL_law_1345 rfl (lv_at hl 3 rfl) ?_
        refine lv_aload hx hb dL_law_1346 (lv_at hl 4 rfl) ?_
        refine lv_aload hx hb dL_law_1348 (lv_at hl 5 rfl) ?_
        refine lv_aload hx hb dL_law_1350 (lv_at hl 7 rfl) ?_
        refine l_told (mc := 200) (ms := 1200) C0 (As := [.ref x0, .int (zI u), .ref (la 0), .ref (la 1), .ref (la 2), .ref (la 3), .ref (la 5)]) (rest := []) ⟨hx, hb, hml, hown, hts⟩ hS (c_L_isTold l hfl D cI cO cL A eE mi sa g σ τ la H hS.2.1 x0 hS.1 hS.2.2.1 (fun q h1 h2 => (hAc q h2).2 h1) hZ hT u hu) (va_cwS 7 hts gL_law_L_isTold rfl rfl rfl (by decide +kernel) ⟨(Nat.le_of_ble_eq_true rfl), (Nat.le_of_ble_eq_true rfl)⟩) ⟨rfl, rfl⟩ rfl hl.1 rfl (Nat.le_of_ble_eq_true rfl) dL_law_1352 ⟨by show 110 + 250 * turn.toNat + 30 + 200 ≤ 675069; omega, by show 1500 + 1500 * turn.toNat + 200 + 1200 ≤ 7076417; omega⟩ (fun gT2 HT2 locsT2 hT2 => ?_)
        refine z_if_ne (tgt := 1360) hx hb dL_law_1355 (by decide) (by omega) (fun c_3 => ?_) (fun c_3 => ?_)
        · refine z_iinc (lv' := [(9, .int (zI (turn + 1))), (0, .ref b), (1, .ref x0), (2, .ref (la 0)), (3, .ref (la 1)), (4, .ref (la 2)), (5, .ref (la 3)), (6, .ref (la 4)), (7, .ref (la 5)), (8, .int (zI d)), (11, .int (zI u)), (13, .int (zI 1))]) hx hb dL_law_1360 hl (k := 9) rfl (by decide) rfl (fun ls hl => ?_)
          refine lv_goto (tgt := 235) hx hb dL_law_1363 (by decide) ?_
          refine l_forget hT2 ?_
          refine W.widen (k := 110 + 250 * (turn + 1).toNat) (n := 1500 + 1500 * (turn + 1).toNat) (by omega) (by omega) ?_
          exact ih d (turn + 1) _ _ _ _ ls (by omega) hd (by omega) hZ hT hT2.fg (lv_sub hl [1, 2, 3, 4, 5, 6, 7, 8, 9, 0] rfl)
        · exact absurd c_3 (by decide)
    have hI := hZ.i
    have hB := hZ.b
    have hJ := hZ.j
    have nn := hZ.n
    have f0 := hI.r
    refine lv_iload hx hb dL_law_235 (lv_at hl 9 rfl) ?_
    refine z_bipush hx hb dL_law_237 (by decide +kernel) ?_
    refine z_icmp_ge (tgt := 1366) hx hb dL_law_239 (by decide) (by omega) (fun c_1 => ?_) (fun c_1 => ?_)
    · refine lv_aload_n hx hb dL_law_1366 rfl (lv_at hl 1 rfl) ?_
      refine z_bipush hx hb dL_law_1367 (by decide +kernel) ?_
      refine z_iconst hx hb dL_law_1369 ?_
      refine l_call (mc := 2) (ms := 12) C0 (As := [.ref x0, .int (zI 6), .int (zI 0)]) (rest := []) ⟨hx, hb, hml, hown, hts⟩ hS (c_L_window l hfl D cI cO cL A eE mi sa g σ H hS.2.1 x0 hS.1 hZ.1 6 0 ⟨(by omega), (by omega)⟩) (vx_cwSW 3 hts gL_law_L_window rfl rfl rfl (by decide +kernel) ⟨(Nat.le_of_ble_eq_true rfl), (Nat.le_of_ble_eq_true rfl)⟩) ⟨rfl, rfl⟩ rfl hl.1 rfl (Nat.le_of_ble_eq_true rfl) dL_law_1370 ⟨by show 110 + 250 * turn.toNat + 2 ≤ 675069; omega, by show 1500 + 1500 * turn.toNat + 12 ≤ 7076417; omega⟩ (fun z_2 g2 H2 locs2 aw2 hS2 => ?_)
      have th2 : zth_window σ 6 0 = 1 := by unfold zth_window; rw [if_pos (by omega)]
      rw [ite_self] at hS2
      obtain rfl := aw2.2.1 th2
      refine z_sipush hx hb dL_law_1373 (by decide +kernel) ?_
      refine z_same_ne (tgt := 1395) hx hb dL_law_1376 (by decide) ?_
      refine lv_aload_n hx hb dL_law_1379 rfl (lv_at hl 1 rfl) ?_
      refine z_bipush hx hb dL_law_1380 (by decide +kernel) ?_
      refine l_call (mc := 1) (ms := 6) C0 (As := [.ref x0, .int (zI 7)]) (rest := []) ⟨hx, hb, hml, hown, hts⟩ hS2 (c_L_tugs l hfl D cI cO cL A eE mi sa g2 σ H2 hS2.2.1 x0 hS2.1 hZ.1 7 (by omega)) (vx_cwSW 2 hts gL_law_L_tugs rfl rfl rfl (by decide +kernel) ⟨(Nat.le_of_ble_eq_true rfl), (Nat.le_of_ble_eq_true rfl)⟩) ⟨rfl, rfl⟩ rfl hl.1 rfl (Nat.le_of_ble_eq_true rfl) dL_law_1382 ⟨by show 110 + 250 * turn.toNat + 2 + 1 ≤ 675069; omega, by show 1500 + 1500 * turn.toNat + 12 + 6 ≤ 7076417; omega⟩ (fun z_4 g4 H4 locs4 aw4 hS4 => ?_)
      have th4 : zth_tugs 7 = 1 := by unfold zth_tugs; rw [if_neg (by omega)]
      rw [if_neg (by omega)] at hS4
      obtain rfl := aw4.2.1 th4
      refine z_sipush hx hb dL_law_1385 (by decide +kernel) ?_
      refine z_same_ne (tgt := 1395) hx hb dL_law_1388 (by decide) ?_
      refine z_iconst hx hb dL_law_1391 ?_
      refine lv_goto (tgt := 1396) hx hb dL_law_1392 (by decide) ?_
      refine l_forget hS4 ?_
      refine z_tov (w := .int 1) rfl ?_
      exact W.widen (by show _ ≤ 675069; omega) (by show _ ≤ 7076417; omega) (fin _ ls)
    · refine lv_aload_n hx hb dL_law_242 rfl (lv_at hl 0 rfl) ?_
      refine z_bipush hx hb dL_law_243 (by decide +kernel) ?_
      refine z_iconst hx hb dL_law_245 ?_
      refine lv_iload hx hb dL_law_246 (lv_at hl 9 rfl) ?_
      refine z_imul hx hb dL_law_248 ?_
      refine z_iadd hx hb dL_law_249 ?_
      refine z_cs (As := [.ref b, .int (zI (10 + (2 * turn)))]) (rest := []) ⟨hx, hb, hml, hown, hts⟩ (c_L_cell l b L xs H (10 + (2 * turn)) (by exact ⟨by omega, hL, hS.bl C0⟩)) (va_cwS 2 hts gL_law_L_cell rfl rfl rfl (by decide +kernel) ⟨(Nat.le_of_ble_eq_true rfl), (Nat.le_of_ble_eq_true rfl)⟩) (zX_mv b L xs) (hS.x C0) rfl hl.1 rfl (Nat.le_of_ble_eq_true rfl) dL_law_250 ⟨by show 110 + 250 * turn.toNat ≤ 675069; omega, by show 1500 + 1500 * turn.toNat ≤ 7076417; omega⟩ (fun r_7 hr_7 => ?_)
      obtain ⟨z_6, ez_6, hz_6⟩ := hr_7
      rw [ez_6]
      refine lv_istore (lv' := [(10, .int (zI z_6)), (0, .ref b), (1, .ref x0), (2, .ref (la 0)), (3, .ref (la 1)), (4, .ref (la 2)), (5, .ref (la 3)), (6, .ref (la 4)), (7, .ref (la 5)), (8, .int (zI d)), (9, .int (zI turn))]) hx hb dL_law_253 hl (by decide) rfl (fun ls hl => ?_)
      refine lv_aload_n hx hb dL_law_255 rfl (lv_at hl 1 rfl) ?_
      refine z_bipush hx hb dL_law_256 (by decide +kernel) ?_
      refine z_iconst hx hb dL_law_258 ?_
      refine lv_iload hx hb dL_law_259 (lv_at hl 10 rfl) ?_
      refine z_imul hx hb dL_law_261 ?_
      refine z_iadd hx hb dL_law_262 ?_
      refine z_cs (As := [.ref b, .int (zI (11 + (2 * turn)))]) (rest := []) ⟨hx, hb, hml, hown, hts⟩ (c_L_cell l b L xs H (11 + (2 * turn)) (by exact ⟨by omega, hL, hS.bl C0⟩)) (va_cwS 2 hts gL_law_L_cell rfl rfl rfl (by decide +kernel) ⟨(Nat.le_of_ble_eq_true rfl), (Nat.le_of_ble_eq_true rfl)⟩) (zX_mv b L xs) (hS.x C0) rfl hl.1 rfl (Nat.le_of_ble_eq_true rfl) dL_law_263 ⟨by show 110 + 250 * turn.toNat ≤ 675069; omega, by show 1500 + 1500 * turn.toNat ≤ 7076417; omega⟩ (fun r_9 hr_9 => ?_)
      obtain ⟨z_8, ez_8, hz_8⟩ := hr_9
      rw [ez_8]
      refine lv_istore (lv' := [(11, .int (zI z_8)), (10, .int (zI z_6)), (0, .ref b), (1, .ref x0), (2, .ref (la 0)), (3, .ref (la 1)), (4, .ref (la 2)), (5, .ref (la 3)), (6, .ref (la 4)), (7, .ref (la 5)), (8, .int (zI d)), (9, .int (zI turn))]) hx hb dL_law_266 hl (by decide) rfl (fun ls hl => ?_)
      refine lv_aload_n hx hb dL_law_268 rfl (lv_at hl 4 rfl) ?_
      refine z_iconst hx hb dL_law_269 ?_
      refine l_ald hx hb hK hS.2.2.1 0 (by decide) (by show 0 ≤ 4 ∧ 4 < ((6 : Nat) : Int); omega) dL_law_270 ?_
      refine z_top (b := σ 14 0) (by rw [hT.g4]) ?_
      refine z_if_ne (tgt := 278) hx hb dL_law_271 (by decide) (by omega) (fun c_10 => ?_) (fun c_10 => ?_)
      · refine lv_iload hx hb dL_law_278 (lv_at hl 1 rfl) ?_
        refine z_iconst hx hb dL_law_280 ?_
        refine lv_ishr hx hb dL_law_281 ?_
        refine z_nm (fun z_11 hz_11 => ?_)
        refine lv_aload_n hx hb dL_law_282 rfl (lv_at hl 4 rfl) ?_
        refine z_iconst hx hb dL_law_283 ?_
        refine l_ald hx hb hK hS.2.2.1 0 (by decide) (by show 0 ≤ 4 ∧ 4 < ((6 : Nat) : Int); omega) dL_law_284 ?_
        refine z_top (b := σ 14 0) (by rw [hT.g4]) ?_
        refine z_cs (As := [.int (zI z_11), .int (zI (σ 14 0))]) (rest := []) ⟨hx, hb, hml, hown, hts⟩ (c_L_low l D cI cO cL H z_11 (σ 14 0) (by omega)) (va_cwS 2 hts gL_law_L_low rfl rfl rfl (by decide +kernel) ⟨(Nat.le_of_ble_eq_true rfl), (Nat.le_of_ble_eq_true rfl)⟩) (zKK_mv D cI cO cL) (fun U _ hv => va_K.moved hv hK) rfl hl.1 rfl (Nat.le_of_ble_eq_true rfl) dL_law_285 ⟨by show 110 + 250 * turn.toNat ≤ 675069; omega, by show 1500 + 1500 * turn.toNat ≤ 7076417; omega⟩ (fun r_13 hr_13 => ?_)
        obtain ⟨z_12, ez_12, hz_12⟩ := hr_13
        rw [ez_12]
        refine lv_istore (lv' := [(12, .int (zI z_12)), (11, .int (zI z_8)), (10, .int (zI z_6)), (0, .ref b), (1, .ref x0), (2, .ref (la 0)), (3, .ref (la 1)), (4, .ref (la 2)), (5, .ref (la 3)), (6, .ref (la 4)), (7, .ref (la 5)), (8, .int (zI d)), (9, .int (zI turn))]) hx hb dL_law_288 hl (by decide) rfl (fun ls hl => ?_)
        refine z_iconst hx hb dL_law_290 ?_
        refine lv_istore (lv' := [(13, .int (zI 1)), (12, .int (zI z_12)), (11, .int (zI z_8)), (10, .int (zI z_6)), (0, .ref b), (1, .ref x0), (2, .ref (la 0)), (3, .ref (la 1)), (4, .ref (la 2)), (5, .ref (la 3)), (6, .ref (la 4)), (7, .ref (la 5)), (8, .int (zI d)), (9, .int (zI turn))]) hx hb dL_law_291 hl (by decide) rfl (fun ls hl => ?_)
        exact law_op l C0 d turn z_6 z_8 z_12 hd (by omega) hz_6 hz_8 hZ hT hS (by omega) (lv_sub hl [4, 5, 6, 7, 8, 9, 10, 11, 12, 13, 3, 2, 1, 0] rfl) (nxt (by omega) _ hz_8)
      · refine z_iconst hx hb dL_law_274 ?_
        refine lv_goto (tgt := 288) hx hb dL_law_275 (by decide) ?_
        refine lv_istore (lv' := [(12, .int (zI 0)), (11, .int (zI z_8)), (10, .int (zI z_6)), (0, .ref b), (1, .ref x0), (2, .ref (la 0)), (3, .ref (la 1)), (4, .ref (la 2)), (5, .ref (la 3)), (6, .ref (la 4)), (7, .ref (la 5)), (8, .int (zI d)), (9, .int (zI turn))]) hx hb dL_law_288 hl (by decide) rfl (fun ls hl => ?_)
        refine z_iconst hx hb dL_law_290 ?_
        refine lv_istore (lv' := [(13, .int (zI 1)), (12, .int (zI 0)), (11, .int (zI z_8)), (10, .int (zI z_6)), (0, .ref b), (1, .ref x0), (2, .ref (la 0)), (3, .ref (la 1)), (4, .ref (la 2)), (5, .ref (la 3)), (6, .ref (la 4)), (7, .ref (la 5)), (8, .int (zI d)), (9, .int (zI turn))]) hx hb dL_law_291 hl (by decide) rfl (fun ls hl => ?_)
        exact law_op l C0 d turn z_6 z_8 0 hd (by omega) hz_6 hz_8 hZ hT hS (by omega) (lv_sub hl [4, 5, 6, 7, 8, 9, 10, 11, 12, 13, 3, 2, 1, 0] rfl) (nxt (by omega) _ hz_8)
