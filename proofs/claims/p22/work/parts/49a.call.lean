/-! the law, a case at a time -/
set_option maxRecDepth 100000 in
set_option maxHeartbeats 8000000 in
theorem law_call {p : Program} {e : Env} {s : State} {m : MethodId} {below : List Frame} {meth : Method} {c : Code} (l : Launch) {b L : Nat} {xs : Nat → Int32} {D : va_G} {cI cO cL : ClassId} {A : Nat → Prop} {eE mi : Nat} {sa la : Nat → Nat} {x0 h3 : Nat} {Q : State → Prop} (C0 : LC l p s m c b L xs D cI cO cL A eE mi sa la h3) (d turn v u k : Int) (hd : 0 ≤ d ∧ d ≤ 14) (htn : 0 ≤ turn ∧ turn < 70) (hv : -2147483648 ≤ v ∧ v < 2147483648) (hu : -2147483648 ≤ u ∧ u < 2147483648) {τ σ : zT} {g : zG} {H : Heap} {locs : List Loc} {ls : Array Slot} (hZ : zLaw σ) (hT : Rl τ σ) (hS : zLV D cI cO A eE x0 la s h3 τ σ g H locs) (hk : (σ 14 0 = 0 ∧ k = 0) ∨ (0 ≤ k ∧ k < σ 14 0)) (hl : lv_has ls 25 [(0, .ref b), (1, .ref x0), (2, .ref (la 0)), (3, .ref (la 1)), (4, .ref (la 2)), (5, .ref (la 3)), (6, .ref (la 4)), (7, .ref (la 5)), (8, .int (zI d)), (9, .int (zI turn)), (10, .int (zI v)), (11, .int (zI u)), (12, .int (zI k)), (13, .int (zI 1))]) (next : ∀ (d : Int) (τ σ : zT) (g : zG) (H : Heap) (locs : List Loc) (ls : Array Slot), 0 ≤ d ∧ d ≤ 14 → zLaw σ → Rl τ σ → zLV D cI cO A eE x0 la s h3 τ σ g H locs → lv_has ls 25 [(0, .ref b), (1, .ref x0), (2, .ref (la 0)), (3, .ref (la 1)), (4, .ref (la 2)), (5, .ref (la 3)), (6, .ref (la 4)), (7, .ref (la 5)), (8, .int (zI d)), (9, .int (zI turn)), (11, .int (zI u)), (13, .int (zI 1))] → W p l e room_1 s m #[Value.ref b] below meth c H locs (110 + 250 * turn.toNat + 30) (1500 + 1500 * turn.toNat + 200) Q (F0 m 1336 ls [])) : W p l e room_1 s m #[Value.ref b] below meth c H locs (110 + 250 * turn.toNat) (1500 + 1500 * turn.toNat) Q (F0 m 368 ls []) := by
  obtain ⟨⟨hx, hb, hml, hown, hts⟩, ⟨hX, hbl, hL⟩, hK, hM, hfl, hpre, hAc, hAL, hs3⟩ := id C0
  have hI := hZ.i
  have hB := hZ.b
  have hJ := hZ.j
  have nn := hZ.n
  have f0 := hI.r
  refine lv_aload_n hx hb dL_law_368 rfl (lv_at hl 2 rfl) ?_
  refine z_iconst hx hb dL_law_369 ?_
  refine l_ald hx hb hK hS.2.2.1 0 (by decide) (by show 0 ≤ 4 ∧ 4 < ((6 : Nat) : Int); omega) dL_law_370 ?_
  refine z_top (b := σ 14 0) (by rw [hT.g4]) ?_
  refine z_bipush hx hb dL_law_371 (by decide +kernel) ?_
  refine z_icmp_ne (tgt := 379) hx hb dL_law_373 (by decide) (by omega) (fun c_1 => ?_) (fun c_1 => ?_)
  · refine lv_iload hx hb dL_law_379 (lv_at hl 11 rfl) ?_
    refine z_bipush hx hb dL_law_381 (by decide +kernel) ?_
    refine z_cs (As := [.int (zI u), .int (zI 6)]) (rest := []) ⟨hx, hb, hml, hown, hts⟩ (c_L_low l D cI cO cL H u 6 (by omega)) (va_cwS 2 hts gL_law_L_low rfl rfl rfl (by decide +kernel) ⟨(Nat.le_of_ble_eq_true rfl), (Nat.le_of_ble_eq_true rfl)⟩) (zKK_mv D cI cO cL) (fun U _ hv => va_K.moved hv hK) rfl hl.1 rfl (Nat.le_of_ble_eq_true rfl) dL_law_383 ⟨by show 110 + 250 * turn.toNat ≤ 675069; omega, by show 1500 + 1500 * turn.toNat ≤ 7076417; omega⟩ (fun r_3 hr_3 => ?_)
    obtain ⟨z_2, ez_2, hz_2⟩ := hr_3
    rw [ez_2]
    refine lv_istore (lv' := [(14, .int (zI z_2)), (0, .ref b), (1, .ref x0), (2, .ref (la 0)), (3, .ref (la 1)), (4, .ref (la 2)), (5, .ref (la 3)), (6, .ref (la 4)), (7, .ref (la 5)), (8, .int (zI d)), (9, .int (zI turn)), (10, .int (zI v)), (11, .int (zI u)), (12, .int (zI k)), (13, .int (zI 1))]) hx hb dL_law_386 hl (by decide) rfl (fun ls hl => ?_)
    refine lv_aload_n hx hb dL_law_388 rfl (lv_at hl 3 rfl) ?_
    refine z_iconst hx hb dL_law_389 ?_
    refine l_ald hx hb hK hS.2.2.1 0 (by decide) (by show 0 ≤ 0 ∧ 0 < ((6 : Nat) : Int); omega) dL_law_390 ?_
    refine z_top (b := σ 1 0) (by rw [hT.g0]) ?_
    refine lv_iload hx hb dL_law_391 (lv_at hl 12 rfl) ?_
    refine z_bipush hx hb dL_law_393 (by decide +kernel) ?_
    refine lv_iand hx hb dL_law_395 ?_
    refine z_nm (fun z_4 hz_4 => ?_)
    refine z_if_ne (tgt := 412) hx hb dL_law_396 (by decide) (by omega) (fun c_5 => ?_) (fun c_5 => ?_)
    · refine lv_iload hx hb dL_law_412 (lv_at hl 12 rfl) ?_
      refine z_bipush hx hb dL_law_414 (by decide +kernel) ?_
      refine lv_ishr hx hb dL_law_416 ?_
      refine z_nm (fun z_6 hz_6 => ?_)
      refine z_sipush hx hb dL_law_417 (by decide +kernel) ?_
      refine z_cs (As := [.int (zI z_6), .int (zI 900)]) (rest := [.int (zI (σ 1 0))]) ⟨hx, hb, hml, hown, hts⟩ (c_L_low l D cI cO cL H z_6 900 (by omega)) (va_cwS 2 hts gL_law_L_low rfl rfl rfl (by decide +kernel) ⟨(Nat.le_of_ble_eq_true rfl), (Nat.le_of_ble_eq_true rfl)⟩) (zKK_mv D cI cO cL) (fun U _ hv => va_K.moved hv hK) rfl hl.1 rfl (Nat.le_of_ble_eq_true rfl) dL_law_420 ⟨by show 110 + 250 * turn.toNat ≤ 675069; omega, by show 1500 + 1500 * turn.toNat ≤ 7076417; omega⟩ (fun r_8 hr_8 => ?_)
      obtain ⟨z_7, ez_7, hz_7⟩ := hr_8
      rw [ez_7]
      refine z_iadd hx hb dL_law_423 ?_
      refine lv_istore (lv' := [(15, .int (zI ((σ 1 0) + z_7))), (14, .int (zI z_2)), (0, .ref b), (1, .ref x0), (2, .ref (la 0)), (3, .ref (la 1)), (4, .ref (la 2)), (5, .ref (la 3)), (6, .ref (la 4)), (7, .ref (la 5)), (8, .int (zI d)), (9, .int (zI turn)), (10, .int (zI v)), (11, .int (zI u)), (12, .int (zI k)), (13, .int (zI 1))]) hx hb dL_law_424 hl (by decide) rfl (fun ls hl => ?_)
      refine lv_iload hx hb dL_law_426 (lv_at hl 0 rfl) ?_
      refine z_sipush hx hb dL_law_428 (by decide +kernel) ?_
      refine z_icmp_le (tgt := 437) hx hb dL_law_431 (by decide) (by omega) (fun c_9 => ?_) (fun c_9 => ?_)
      · refine lv_aload hx hb dL_law_437 (lv_at hl 7 rfl) ?_
        refine lv_aload_n hx hb dL_law_439 rfl (lv_at hl 4 rfl) ?_
        refine z_iconst hx hb dL_law_440 ?_
        refine l_ald hx hb hK hS.2.2.1 0 (by decide) (by show 0 ≤ 4 ∧ 4 < ((6 : Nat) : Int); omega) dL_law_441 ?_
        refine z_top (b := σ 14 0) (by rw [hT.g4]) ?_
        refine lv_iload hx hb dL_law_442 (lv_at hl 1 rfl) ?_
        refine l_put hx hb C0 hS 3 (by decide) (by show 0 ≤ (σ 14 0) ∧ (σ 14 0) < ((10 : Nat) : Int); omega) dL_law_444 (fun HP10 locsP10 hP10 => ?_)
        refine lv_aload hx hb dL_law_445 (lv_at hl 8 rfl) ?_
        refine lv_aload_n hx hb dL_law_447 rfl (lv_at hl 4 rfl) ?_
        refine z_iconst hx hb dL_law_448 ?_
        refine l_ald hx hb hK hP10.2.2.1 0 (by decide) (by show 0 ≤ 4 ∧ 4 < ((6 : Nat) : Int); omega) dL_law_449 ?_
        refine z_top (b := σ 14 0) (by rw [zup_t (t := 3) (t' := 0) (by decide), hT.g4]) ?_
        refine lv_iload hx hb dL_law_450 (lv_at hl 0 rfl) ?_
        refine l_put hx hb C0 hP10 4 (by decide) (by show 0 ≤ (σ 14 0) ∧ (σ 14 0) < ((10 : Nat) : Int); omega) dL_law_452 (fun HP11 locsP11 hP11 => ?_)
        refine lv_aload hx hb dL_law_453 (lv_at hl 9 rfl) ?_
        refine lv_aload_n hx hb dL_law_455 rfl (lv_at hl 4 rfl) ?_
        refine z_iconst hx hb dL_law_456 ?_
        refine l_ald hx hb hK hP11.2.2.1 0 (by decide) (by show 0 ≤ 4 ∧ 4 < ((6 : Nat) : Int); omega) dL_law_457 ?_
        refine z_top (b := σ 14 0) (by rw [zup_t (t := 4) (t' := 0) (by decide), zup_t (t := 3) (t' := 0) (by decide), hT.g4]) ?_
        refine z_iconst hx hb dL_law_458 ?_
        refine l_put hx hb C0 hP11 5 (by decide) (by show 0 ≤ (σ 14 0) ∧ (σ 14 0) < ((10 : Nat) : Int); omega) dL_law_459 (fun HP12 locsP12 hP12 => ?_)
        refine lv_aload_n hx hb dL_law_460 rfl (lv_at hl 3 rfl) ?_
        refine lv_iload hx hb dL_law_461 (lv_at hl 1 rfl) ?_
        refine lv_iload hx hb dL_law_463 (lv_at hl 0 rfl) ?_
        refine l_call (mc := 5) (ms := 85) C0 (As := [.ref x0, .int (zI z_2), .int (zI ((σ 1 0) + z_7))]) (rest := []) ⟨hx, hb, hml, hown, hts⟩ hP12 (c_L_call l hfl D cI cO cL A eE mi sa g σ HP12 hP12.2.1 x0 hP12.1 hZ.1 z_2 ((σ 1 0) + z_7) ⟨(by omega), (by omega)⟩) (vx_cwSW 3 hts gL_law_L_call rfl rfl rfl (by decide +kernel) ⟨(Nat.le_of_ble_eq_true rfl), (Nat.le_of_ble_eq_true rfl)⟩) ⟨rfl, rfl⟩ rfl hl.1 rfl (Nat.le_of_ble_eq_true rfl) dL_law_465 ⟨by show 110 + 250 * turn.toNat + 5 ≤ 675069; omega, by show 1500 + 1500 * turn.toNat + 85 ≤ 7076417; omega⟩ (fun z_13 g13 H13 locs13 aw13 hS13 => ?_)
        have th13 : zth_call σ z_2 ((σ 1 0) + z_7) = 0 := by unfold zth_call; rw [if_neg (by omega), if_neg (by omega), if_neg (by omega)]
        rw [if_pos th13] at hS13
        obtain rfl := aw13.1 th13
        refine z_top (b := σ 14 0) (by rfl) ?_
        refine lv_aload_n hx hb dL_law_468 rfl (lv_at hl 4 rfl) ?_
        refine z_iconst hx hb dL_law_469 ?_
        refine l_ald hx hb hK hS13.2.2.1 0 (by decide) (by show 0 ≤ 4 ∧ 4 < ((6 : Nat) : Int); omega) dL_law_470 ?_
        refine z_top (b := σ 14 0) (by rw [zup_t (t := 5) (t' := 0) (by decide), zup_t (t := 4) (t' := 0) (by decide), zup_t (t := 3) (t' := 0) (by decide), hT.g4]) ?_
        refine z_same_ne (tgt := 478) hx hb dL_law_471 (by decide) ?_
        refine z_iconst hx hb dL_law_474 ?_
        refine lv_goto (tgt := 479) hx hb dL_law_475 (by decide) ?_
        refine lv_istore (lv' := [(13, .int (zI 1)), (15, .int (zI ((σ 1 0) + z_7))), (14, .int (zI z_2)), (0, .ref b), (1, .ref x0), (2, .ref (la 0)), (3, .ref (la 1)), (4, .ref (la 2)), (5, .ref (la 3)), (6, .ref (la 4)), (7, .ref (la 5)), (8, .int (zI d)), (9, .int (zI turn)), (10, .int (zI v)), (11, .int (zI u)), (12, .int (zI k))]) hx hb dL_law_479 hl (by decide) rfl (fun ls hl => ?_)
        refine lv_aload_n hx hb dL_law_481 rfl (lv_at hl 5 rfl) ?_
        refine z_iconst hx hb dL_law_482 ?_
        refine lv_dup2_11 hx hb dL_law_483 rfl rfl ?_
        refine l_ald hx hb hK hS13.2.2.1 0 (by decide) (by show 0 ≤ 4 ∧ 4 < ((6 : Nat) : Int); omega) dL_law_484 ?_
        refine z_top (b := σ 14 0) (by rw [zup_t (t := 5) (t' := 0) (by decide), zup_t (t := 4) (t' := 0) (by decide), zup_t (t := 3) (t' := 0) (by decide), hT.g4]) ?_
        refine z_iconst hx hb dL_law_485 ?_
        refine z_iadd hx hb dL_law_486 ?_
        refine l_put hx hb C0 hS13 0 (by decide) (by show 0 ≤ 4 ∧ 4 < ((6 : Nat) : Int); omega) dL_law_487 (fun HP15 locsP15 hP15 => ?_)
        refine lv_goto (tgt := 1336) hx hb dL_law_488 (by decide) ?_
        exact W.widen (k := 110 + 250 * turn.toNat + 30) (n := 1500 + 1500 * turn.toNat + 200) (by omega) (by omega) (next d _ _ _ _ _ ls (by omega) (zLaw_call hZ th13 (by omega)) (Rl_call hT (hZ.1.2.2.2.2.2 _ (Int.le_refl _)) z_2 ((σ 1 0) + z_7) (by rw [zup_t (t := 0) (t' := 3) (by decide), zup_t (t := 5) (t' := 3) (by decide), zup_t (t := 4) (t' := 3) (by decide), zup_s]) (by rw [zup_t (t := 0) (t' := 4) (by decide), zup_t (t := 5) (t' := 4) (by decide), zup_s]) (by rw [zup_t (t := 0) (t' := 5) (by decide), zup_s]) (by rw [zup_s]) (by intro t i h1 h2; repeat (first | exact rfl | rw [zup_e2 (by omega)]))) hP15 (lv_sub hl [3, 4, 5, 6, 7, 8, 9, 10, 11, 12, 14, 0] rfl))
      · refine lv_goto (tgt := 1336) hx hb dL_law_434 (by decide) ?_
        exact W.widen (k := 110 + 250 * turn.toNat + 30) (n := 1500 + 1500 * turn.toNat + 200) (by omega) (by omega) (next d _ _ _ _ _ ls (by omega) (hZ) (hT) hS (lv_sub hl [2, 3, 4, 5, 6, 7, 8, 9, 10, 11, 13, 15] rfl))
    · refine lv_iload hx hb dL_law_399 (lv_at hl 12 rfl) ?_
      refine z_bipush hx hb dL_law_401 (by decide +kernel) ?_
      refine lv_ishr hx hb dL_law_403 ?_
      refine z_nm (fun z_16 hz_16 => ?_)
      refine z_bipush hx hb dL_law_404 (by decide +kernel) ?_
      refine z_cs (As := [.int (zI z_16), .int (zI 30)]) (rest := [.int (zI (σ 1 0))]) ⟨hx, hb, hml, hown, hts⟩ (c_L_low l D cI cO cL H z_16 30 (by omega)) (va_cwS 2 hts gL_law_L_low rfl rfl rfl (by decide +kernel) ⟨(Nat.le_of_ble_eq_true rfl), (Nat.le_of_ble_eq_true rfl)⟩) (zKK_mv D cI cO cL) (fun U _ hv => va_K.moved hv hK) rfl hl.1 rfl (Nat.le_of_ble_eq_true rfl) dL_law_406 ⟨by show 110 + 250 * turn.toNat ≤ 675069; omega, by show 1500 + 1500 * turn.toNat ≤ 7076417; omega⟩ (fun r_18 hr_18 => ?_)
      obtain ⟨z_17, ez_17, hz_17⟩ := hr_18
      rw [ez_17]
      refine lv_goto (tgt := 423) hx hb dL_law_409 (by decide) ?_
      refine z_iadd hx hb dL_law_423 ?_
      refine lv_istore (lv' := [(15, .int (zI ((σ 1 0) + z_17))), (14, .int (zI z_2)), (0, .ref b), (1, .ref x0), (2, .ref (la 0)), (3, .ref (la 1)), (4, .ref (la 2)), (5, .ref (la 3)), (6, .ref (la 4)), (7, .ref (la 5)), (8, .int (zI d)), (9, .int (zI turn)), (10, .int (zI v)), (11, .int (zI u)), (12, .int (zI k)), (13, .int (zI 1))]) hx hb dL_law_424 hl (by decide) rfl (fun ls hl => ?_)
      refine lv_iload hx hb dL_law_426 (lv_at hl 0 rfl) ?_
      refine z_sipush hx hb dL_law_428 (by decide +kernel) ?_
      refine z_icmp_le (tgt := 437) hx hb dL_law_431 (by decide) (by omega) (fun c_19 => ?_) (fun c_19 => ?_)
      · refine lv_aload hx hb dL_law_437 (lv_at hl 7 rfl) ?_
        refine lv_aload_n hx hb dL_law_439 rfl (lv_at hl 4 rfl) ?_
        refine z_iconst hx hb dL_law_440 ?_
        refine l_ald hx hb hK hS.2.2.1 0 (by decide) (by show 0 ≤ 4 ∧ 4 < ((6 : Nat) : Int); omega) dL_law_441 ?_
        refine z_top (b := σ 14 0) (by rw [hT.g4]) ?_
        refine lv_iload hx hb dL_law_442 (lv_at hl 1 rfl) ?_
        refine l_put hx hb C0 hS 3 (by decide) (by show 0 ≤ (σ 14 0) ∧ (σ 14 0) < ((10 : Nat) : Int); omega) dL_law_444 (fun HP20 locsP20 hP20 => ?_)
        refine lv_aload hx hb dL_law_445 (lv_at hl 8 rfl) ?_
        refine lv_aload_n hx hb dL_law_447 rfl (lv_at hl 4 rfl) ?_
        refine z_iconst hx hb dL_law_448 ?_
        refine l_ald hx hb hK hP20.2.2.1 0 (by decide) (by show 0 ≤ 4 ∧ 4 < ((6 : Nat) : Int); omega) dL_law_449 ?_
        refine z_top (b := σ 14 0) (by rw [zup_t (t := 3) (t' := 0) (by decide), hT.g4]) ?_
        refine lv_iload hx hb dL_law_450 (lv_at hl 0 rfl) ?_
        refine l_put hx hb C0 hP20 4 (by decide) (by show 0 ≤ (σ 14 0) ∧ (σ 14 0) < ((10 : Nat) : Int); omega) dL_law_452 (fun HP21 locsP21 hP21 => ?_)
        refine lv_aload hx hb dL_law_453 (lv_at hl 9 rfl) ?_
        refine lv_aload_n hx hb dL_law_455 rfl (lv_at hl 4 rfl) ?_
        refine z_iconst hx hb dL_law_456 ?_
        refine l_ald hx hb hK hP21.2.2.1 0 (by decide) (by show 0 ≤ 4 ∧ 4 < ((6 : Nat) : Int); omega) dL_law_457 ?_
        refine z_top (b := σ 14 0) (by rw [zup_t (t := 4) (t' := 0) (by decide), zup_t (t := 3) (t' := 0) (by decide), hT.g4]) ?_
        refine z_iconst hx hb dL_law_458 ?_
        refine l_put hx hb C0 hP21 5 (by decide) (by show 0 ≤ (σ 14 0) ∧ (σ 14 0) < ((10 : Nat) : Int); omega) dL_law_459 (fun HP22 locsP22 hP22 => ?_)
        refine lv_aload_n hx hb dL_law_460 rfl (lv_at hl 3 rfl) ?_
        refine lv_iload hx hb dL_law_461 (lv_at hl 1 rfl) ?_
        refine lv_iload hx hb dL_law_463 (lv_at hl 0 rfl) ?_
        refine l_call (mc := 5) (ms := 85) C0 (As := [.ref x0, .int (zI z_2), .int (zI ((σ 1 0) + z_17))]) (rest := []) ⟨hx, hb, hml, hown, hts⟩ hP22 (c_L_call l hfl D cI cO cL A eE mi sa g σ HP22 hP22.2.1 x0 hP22.1 hZ.1 z_2 ((σ 1 0) + z_17) ⟨(by omega), (by omega)⟩) (vx_cwSW 3 hts gL_law_L_call rfl rfl rfl (by decide +kernel) ⟨(Nat.le_of_ble_eq_true rfl), (Nat.le_of_ble_eq_true rfl)⟩) ⟨rfl, rfl⟩ rfl hl.1 rfl (Nat.le_of_ble_eq_true rfl) dL_law_465 ⟨by show 110 + 250 * turn.toNat + 5 ≤ 675069; omega, by show 1500 + 1500 * turn.toNat + 85 ≤ 7076417; omega⟩ (fun z_23 g23 H23 locs23 aw23 hS23 => ?_)
        have th23 : zth_call σ z_2 ((σ 1 0) + z_17) = 0 := by unfold zth_call; rw [if_neg (by omega), if_neg (by omega), if_neg (by omega)]
        rw [if_pos th23] at hS23
        obtain rfl := aw23.1 th23
        refine z_top (b := σ 14 0) (by rfl) ?_
        refine lv_aload_n hx hb dL_law_468 rfl (lv_at hl 4 rfl) ?_
        refine z_iconst hx hb dL_law_469 ?_
        refine l_ald hx hb hK hS23.2.2.1 0 (by decide) (by show 0 ≤ 4 ∧ 4 < ((6 : Nat) : Int); omega) dL_law_470 ?_
        refine z_top (b := σ 14 0) (by rw [zup_t (t := 5) (t' := 0) (by decide), zup_t (t := 4) (t' := 0) (by decide), zup_t (t := 3) (t' := 0) (by decide), hT.g4]) ?_
        refine z_same_ne (tgt := 478) hx hb dL_law_471 (by decide) ?_
        refine z_iconst hx hb dL_law_474 ?_
        refine lv_goto (tgt := 479) hx hb dL_law_475 (by decide) ?_
        refine lv_istore (lv' := [(13, .int (zI 1)), (15, .int (zI ((σ 1 0) + z_17))), (14, .int (zI z_2)), (0, .ref b), (1, .ref x0), (2, .ref (la 0)), (3, .ref (la 1)), (4, .ref (la 2)), (5, .ref (la 3)), (6, .ref (la 4)), (7, .ref (la 5)), (8, .int (zI d)), (9, .int (zI turn)), (10, .int (zI v)), (11, .int (zI u)), (12, .int (zI k))]) hx hb dL_law_479 hl (by decide) rfl (fun ls hl => ?_)
        refine lv_aload_n hx hb dL_law_481 rfl (lv_at hl 5 rfl) ?_
        refine z_iconst hx hb dL_law_482 ?_
        refine lv_dup2_11 hx hb dL_law_483 rfl rfl ?_
        refine l_ald hx hb hK hS23.2.2.1 0 (by decide) (by show 0 ≤ 4 ∧ 4 < ((6 : Nat) : Int); omega) dL_law_484 ?_
        refine z_top (b := σ 14 0) (by rw [zup_t (t := 5) (t' := 0) (by decide), zup_t (t := 4) (t' := 0) (by decide), zup_t (t := 3) (t' := 0) (by decide), hT.g4]) ?_
        refine z_iconst hx hb dL_law_485 ?_
        refine z_iadd hx hb dL_law_486 ?_
        refine l_put hx hb C0 hS23 0 (by decide) (by show 0 ≤ 4 ∧ 4 < ((6 : Nat) : Int); omega) dL_law_487 (fun HP25 locsP25 hP25 => ?_)
        refine lv_goto (tgt := 1336) hx hb dL_law_488 (by decide) ?_
        exact W.widen (k := 110 + 250 * turn.toNat + 30) (n := 1500 + 1500 * turn.toNat + 200) (by omega) (by omega) (next d _ _ _ _ _ ls (by omega) (zLaw_call hZ th23 (by omega)) (Rl_call hT (hZ.1.2.2.2.2.2 _ (Int.le_refl _)) z_2 ((σ 1 0) + z_17) (by rw [zup_t (t := 0) (t' := 3) (by decide), zup_t (t := 5) (t' := 3) (by decide), zup_t (t := 4) (t' := 3) (by decide), zup_s]) (by rw [zup_t (t := 0) (t' := 4) (by decide), zup_t (t := 5) (t' := 4) (by decide), zup_s]) (by rw [zup_t (t := 0) (t' := 5) (by decide), zup_s]) (by rw [zup_s]) (by intro t i h1 h2; repeat (first | exact rfl | rw [zup_e2 (by omega)]))) hP25 (lv_sub hl [3, 4, 5, 6, 7, 8, 9, 10, 11, 12, 14, 0] rfl))
      · refine lv_goto (tgt := 1336) hx hb dL_law_434 (by decide) ?_
        exact W.widen (k := 110 + 250 * turn.toNat + 30) (n := 1500 + 1500 * turn.toNat + 200) (by omega) (by omega) (next d _ _ _ _ _ ls (by omega) (hZ) (hT) hS (lv_sub hl [2, 3, 4, 5, 6, 7, 8, 9, 10, 11, 13, 15] rfl))
  · refine lv_goto (tgt := 1336) hx hb dL_law_376 (by decide) ?_
    exact W.widen (k := 110 + 250 * turn.toNat + 30) (n := 1500 + 1500 * turn.toNat + 200) (by omega) (by omega) (next d _ _ _ _ _ ls (by omega) (hZ) (hT) hS (lv_sub hl [0, 1, 2, 3, 4, 5, 6, 7, 8, 9, 11, 13] rfl))
