/-! the law, a case at a time -/
set_option maxRecDepth 100000 in
set_option maxHeartbeats 8000000 in
theorem law_join {p : Program} {e : Env} {s : State} {m : MethodId} {below : List Frame} {meth : Method} {c : Code} (l : Launch) {b L : Nat} {xs : Nat → Int32} {D : va_G} {cI cO cL : ClassId} {A : Nat → Prop} {eE mi : Nat} {sa la : Nat → Nat} {x0 h3 : Nat} {Q : State → Prop} (C0 : LC l p s m c b L xs D cI cO cL A eE mi sa la h3) (d turn v u k : Int) (hd : 0 ≤ d ∧ d ≤ 14) (htn : 0 ≤ turn ∧ turn < 70) (hv : -2147483648 ≤ v ∧ v < 2147483648) (hu : -2147483648 ≤ u ∧ u < 2147483648) {τ σ : zT} {g : zG} {H : Heap} {locs : List Loc} {ls : Array Slot} (hZ : zLaw σ) (hT : Rl τ σ) (hS : zLV D cI cO A eE x0 la s h3 τ σ g H locs) (hk : (σ 14 0 = 0 ∧ k = 0) ∨ (0 ≤ k ∧ k < σ 14 0)) (hl : lv_has ls 25 [(0, .ref b), (1, .ref x0), (2, .ref (la 0)), (3, .ref (la 1)), (4, .ref (la 2)), (5, .ref (la 3)), (6, .ref (la 4)), (7, .ref (la 5)), (8, .int (zI d)), (9, .int (zI turn)), (10, .int (zI v)), (11, .int (zI u)), (12, .int (zI k)), (13, .int (zI 1))]) (next : ∀ (d : Int) (τ σ : zT) (g : zG) (H : Heap) (locs : List Loc) (ls : Array Slot), 0 ≤ d ∧ d ≤ 14 → zLaw σ → Rl τ σ → zLV D cI cO A eE x0 la s h3 τ σ g H locs → lv_has ls 25 [(0, .ref b), (1, .ref x0), (2, .ref (la 0)), (3, .ref (la 1)), (4, .ref (la 2)), (5, .ref (la 3)), (6, .ref (la 4)), (7, .ref (la 5)), (8, .int (zI d)), (9, .int (zI turn)), (11, .int (zI u)), (13, .int (zI 1))] → W p l e room_1 s m #[Value.ref b] below meth c H locs (110 + 250 * turn.toNat + 30) (1500 + 1500 * turn.toNat + 200) Q (F0 m 1336 ls [])) : W p l e room_1 s m #[Value.ref b] below meth c H locs (110 + 250 * turn.toNat) (1500 + 1500 * turn.toNat) Q (F0 m 491 ls []) := by
  obtain ⟨⟨hx, hb, hml, hown, hts⟩, ⟨hX, hbl, hL⟩, hK, hM, hfl, hpre, hAc, hAL, hs3⟩ := id C0
  have hI := hZ.i
  have hB := hZ.b
  have hJ := hZ.j
  have nn := hZ.n
  have f0 := hI.r
  refine lv_aload_n hx hb dL_law_491 rfl (lv_at hl 2 rfl) ?_
  refine z_iconst hx hb dL_law_492 ?_
  refine l_ald hx hb hK hS.2.2.1 0 (by decide) (by show 0 ≤ 4 ∧ 4 < ((6 : Nat) : Int); omega) dL_law_493 ?_
  refine z_top (b := σ 14 0) (by rw [hT.g4]) ?_
  refine z_if_ne (tgt := 500) hx hb dL_law_494 (by decide) (by omega) (fun c_1 => ?_) (fun c_1 => ?_)
  · have hkk : 0 ≤ k ∧ k < σ 14 0 := by omega
    refine z_iconst hx hb dL_law_500 ?_
    refine lv_istore (lv' := [(16, .int (zI 0)), (0, .ref b), (1, .ref x0), (2, .ref (la 0)), (3, .ref (la 1)), (4, .ref (la 2)), (5, .ref (la 3)), (6, .ref (la 4)), (7, .ref (la 5)), (8, .int (zI d)), (9, .int (zI turn)), (10, .int (zI v)), (11, .int (zI u)), (12, .int (zI k)), (13, .int (zI 1))]) hx hb dL_law_501 hl (by decide) rfl (fun ls hl => ?_)
    refine z_cap (fun WW_hLj wi_hLj wo_hLj => ?_)
    have hLj : ∀ (nN : Nat) (n : Int) (ls : Array Slot) (τ : zT) (σ : zT) (gL : zG) (HL : Heap) (locsL : List Loc), (0 ≤ n ∧ n ≤ 3) → zLaw σ → Rl τ σ → (0 ≤ k ∧ k < σ 14 0) → zLV D cI cO A eE x0 la s h3 τ σ gL HL locsL → (3 - n).toNat < nN → lv_has ls 25 [(0, .ref b), (1, .ref x0), (2, .ref (la 0)), (3, .ref (la 1)), (4, .ref (la 2)), (5, .ref (la 3)), (6, .ref (la 4)), (7, .ref (la 5)), (8, .int (zI d)), (9, .int (zI turn)), (11, .int (zI u)), (12, .int (zI k)), (13, .int (zI 1)), (16, .int (zI n))] → WW_hLj HL locsL (110 + 250 * turn.toNat + 4 * n.toNat) (1500 + 1500 * turn.toNat + 24 * n.toNat) (F0 m 503 ls []) := by
      intro n_hLj
      induction n_hLj with
      | zero => intro n ls τ σ gL HL locsL hn hZL hTL hkL hSL hm; exact absurd hm (Nat.not_lt_zero _)
      | succ n_hLj ih_hLj =>
        intro n ls τ σ gL HL locsL hn hZL hTL hkL hSL hm hl
        refine wi_hLj _ _ _ _ _ ?_
        have hI := hZL.i
        have hB := hZL.b
        have hJ := hZL.j
        have nn := hZL.n
        have f0 := hI.r
        have fk := hI.c hkL
        have jk := hJ.c hkL
        have gk := hI.s (i := σ 15 k) (by omega)
        refine lv_iload hx hb dL_law_503 (lv_at hl 13 rfl) ?_
        refine z_iconst hx hb dL_law_505 ?_
        refine z_icmp_ge (tgt := 692) hx hb dL_law_506 (by decide) (by omega) (fun c_2 => ?_) (fun c_2 => ?_)
        · refine lv_goto (tgt := 1336) hx hb dL_law_692 (by decide) ?_
          exact W.widen (k := 110 + 250 * turn.toNat + 30) (n := 1500 + 1500 * turn.toNat + 200) (by omega) (by omega) (next d _ _ _ _ _ ls (by omega) (hZL) (hTL) hSL (lv_sub hl [0, 1, 2, 3, 4, 5, 6, 7, 8, 9, 10, 12] rfl))
        · refine lv_iload hx hb dL_law_509 (lv_at hl 12 rfl) ?_
          refine z_if_eq (tgt := 692) hx hb dL_law_511 (by decide) (by omega) (fun c_3 => ?_) (fun c_3 => ?_)
          · exact absurd c_3 (by decide)
          · refine lv_iload hx hb dL_law_514 (lv_at hl 13 rfl) ?_
            refine lv_iload hx hb dL_law_516 (lv_at hl 10 rfl) ?_
            refine z_bipush hx hb dL_law_518 (by decide +kernel) ?_
            refine lv_ishr hx hb dL_law_520 ?_
            refine z_nm (fun z_4 hz_4 => ?_)
            refine z_iconst hx hb dL_law_521 ?_
            refine z_cs (As := [.int (zI z_4), .int (zI 3)]) (rest := [.int (zI n)]) ⟨hx, hb, hml, hown, hts⟩ (c_L_low l D cI cO cL HL z_4 3 (by omega)) (va_cwS 2 hts gL_law_L_low rfl rfl rfl (by decide +kernel) ⟨(Nat.le_of_ble_eq_true rfl), (Nat.le_of_ble_eq_true rfl)⟩) (zKK_mv D cI cO cL) (fun U _ hv => va_K.moved hv hK) rfl hl.1 rfl (Nat.le_of_ble_eq_true rfl) dL_law_522 ⟨by show 110 + 250 * turn.toNat + 4 * n.toNat ≤ 675069; omega, by show 1500 + 1500 * turn.toNat + 24 * n.toNat ≤ 7076417; omega⟩ (fun r_6 hr_6 => ?_)
            obtain ⟨z_5, ez_5, hz_5⟩ := hr_6
            rw [ez_5]
            refine z_iadd hx hb dL_law_525 ?_
            refine z_iconst hx hb dL_law_526 ?_
            refine z_irem hx hb dL_law_527 (by omega) ?_
            obtain ⟨w, hw1, hw⟩ : ∃ w : Int, ((n + z_5) % 3) = w ∧ 0 ≤ w ∧ w ≤ 2 := ⟨_, rfl, by omega, by omega⟩
            refine z_top (b := w) hw1 ?_
            have bz := zBit_r (σ 17 k) w
            have dv := zDivC hI hB hkL hw
            have sr := zSet_r fk.2.2.1 hw
            refine lv_istore (lv' := [(17, .int (zI w)), (0, .ref b), (1, .ref x0), (2, .ref (la 0)), (3, .ref (la 1)), (4, .ref (la 2)), (5, .ref (la 3)), (6, .ref (la 4)), (7, .ref (la 5)), (8, .int (zI d)), (9, .int (zI turn)), (11, .int (zI u)), (12, .int (zI k)), (13, .int (zI 1)), (16, .int (zI n))]) hx hb dL_law_528 hl (by decide) rfl (fun ls hl => ?_)
            refine lv_iload hx hb dL_law_530 (lv_at hl 11 rfl) ?_
            refine z_iconst hx hb dL_law_532 ?_
            refine lv_ishr hx hb dL_law_533 ?_
            refine z_nm (fun z_7 hz_7 => ?_)
            refine z_iconst hx hb dL_law_534 ?_
            refine z_cs (As := [.int (zI z_7), .int (zI 4)]) (rest := []) ⟨hx, hb, hml, hown, hts⟩ (c_L_low l D cI cO cL HL z_7 4 (by omega)) (va_cwS 2 hts gL_law_L_low rfl rfl rfl (by decide +kernel) ⟨(Nat.le_of_ble_eq_true rfl), (Nat.le_of_ble_eq_true rfl)⟩) (zKK_mv D cI cO cL) (fun U _ hv => va_K.moved hv hK) rfl hl.1 rfl (Nat.le_of_ble_eq_true rfl) dL_law_535 ⟨by show 110 + 250 * turn.toNat + 4 * n.toNat ≤ 675069; omega, by show 1500 + 1500 * turn.toNat + 24 * n.toNat ≤ 7076417; omega⟩ (fun r_9 hr_9 => ?_)
            obtain ⟨z_8, ez_8, hz_8⟩ := hr_9
            rw [ez_8]
            have lic := zLic hZL (q := z_8) (by omega) (i := σ 15 k) (by omega)
            refine lv_istore (lv' := [(18, .int (zI z_8)), (17, .int (zI w)), (0, .ref b), (1, .ref x0), (2, .ref (la 0)), (3, .ref (la 1)), (4, .ref (la 2)), (5, .ref (la 3)), (6, .ref (la 4)), (7, .ref (la 5)), (8, .int (zI d)), (9, .int (zI turn)), (11, .int (zI u)), (12, .int (zI k)), (13, .int (zI 1)), (16, .int (zI n))]) hx hb dL_law_538 hl (by decide) rfl (fun ls hl => ?_)
            refine lv_aload hx hb dL_law_540 (lv_at hl 7 rfl) ?_
            refine lv_iload hx hb dL_law_542 (lv_at hl 13 rfl) ?_
            refine l_ald hx hb hK hSL.2.2.1 3 (by decide) (by show 0 ≤ k ∧ k < ((10 : Nat) : Int); omega) dL_law_544 ?_
            refine z_top (b := pC σ k) (by rw [hTL.c (i := k) (by omega)]) ?_
            refine z_iconst hx hb dL_law_545 ?_
            refine lv_iload hx hb dL_law_546 (lv_at hl 1 rfl) ?_
            refine z_iadd hx hb dL_law_548 ?_
            refine l_shr3 hx hb hw dL_law_549 (pC_r hI hB hkL) ?_
            refine z_iconst hx hb dL_law_550 ?_
            refine l_and hx hb 1 (by decide +kernel) dL_law_551 dv ?_
            refine z_top (b := zBit (σ 17 k) w) (by exact zBitC hI hB hkL hw) ?_
            refine z_if_ne (tgt := 583) hx hb dL_law_552 (by decide) (by omega) (fun c_10 => ?_) (fun c_10 => ?_)
            · refine z_iconst hx hb dL_law_583 ?_
              refine lv_istore (lv' := [(19, .int (zI 0)), (18, .int (zI z_8)), (17, .int (zI w)), (0, .ref b), (1, .ref x0), (2, .ref (la 0)), (3, .ref (la 1)), (4, .ref (la 2)), (5, .ref (la 3)), (6, .ref (la 4)), (7, .ref (la 5)), (8, .int (zI d)), (9, .int (zI turn)), (11, .int (zI u)), (12, .int (zI k)), (13, .int (zI 1)), (16, .int (zI n))]) hx hb dL_law_584 hl (by decide) rfl (fun ls hl => ?_)
              refine lv_iload hx hb dL_law_586 (lv_at hl 0 rfl) ?_
              refine z_if_eq (tgt := 650) hx hb dL_law_588 (by decide) (by omega) (fun c_11 => ?_) (fun c_11 => ?_)
              · refine lv_aload_n hx hb dL_law_650 rfl (lv_at hl 4 rfl) ?_
                refine lv_iload hx hb dL_law_651 (lv_at hl 14 rfl) ?_
                refine lv_iload hx hb dL_law_653 (lv_at hl 2 rfl) ?_
                refine lv_iload hx hb dL_law_655 (lv_at hl 1 rfl) ?_
                refine l_call (mc := 4) (ms := 24) C0 (As := [.ref x0, .int (zI k), .int (zI w), .int (zI z_8)]) (rest := []) ⟨hx, hb, hml, hown, hts⟩ hSL (c_L_join l hfl D cI cO cL A eE mi sa gL σ HL hSL.2.1 x0 hSL.1 hZL.1 k w z_8 ⟨(by omega), (by omega), (by omega)⟩) (vx_cwSW 4 hts gL_law_L_join rfl rfl rfl (by decide +kernel) ⟨(Nat.le_of_ble_eq_true rfl), (Nat.le_of_ble_eq_true rfl)⟩) ⟨rfl, rfl⟩ rfl hl.1 rfl (Nat.le_of_ble_eq_true rfl) dL_law_657 ⟨by show 110 + 250 * turn.toNat + 4 * n.toNat + 4 ≤ 675069; omega, by show 1500 + 1500 * turn.toNat + 24 * n.toNat + 24 ≤ 7076417; omega⟩ (fun z_12 g12 H12 locs12 aw12 hS12 => ?_)
                have th12 : zth_join σ k w z_8 = 2 := by unfold zth_join; rw [if_neg (by omega), if_pos (by omega)]
                rw [if_neg (by omega)] at hS12
                obtain rfl := aw12.2.2.1 th12
                refine lv_iload hx hb dL_law_660 (lv_at hl 0 rfl) ?_
                refine z_if_eq (tgt := 673) hx hb dL_law_662 (by decide) (by omega) (fun c_13 => ?_) (fun c_13 => ?_)
                · refine z_sipush hx hb dL_law_673 (by decide +kernel) ?_
                  refine z_same_ne (tgt := 683) hx hb dL_law_676 (by decide) ?_
                  refine z_iconst hx hb dL_law_679 ?_
                  refine lv_goto (tgt := 684) hx hb dL_law_680 (by decide) ?_
                  refine lv_istore (lv' := [(13, .int (zI 1)), (19, .int (zI 0)), (18, .int (zI z_8)), (17, .int (zI w)), (0, .ref b), (1, .ref x0), (2, .ref (la 0)), (3, .ref (la 1)), (4, .ref (la 2)), (5, .ref (la 3)), (6, .ref (la 4)), (7, .ref (la 5)), (8, .int (zI d)), (9, .int (zI turn)), (11, .int (zI u)), (12, .int (zI k)), (16, .int (zI n))]) hx hb dL_law_684 hl (by decide) rfl (fun ls hl => ?_)
                  refine z_iinc (lv' := [(16, .int (zI (n + 1))), (13, .int (zI 1)), (19, .int (zI 0)), (18, .int (zI z_8)), (17, .int (zI w)), (0, .ref b), (1, .ref x0), (2, .ref (la 0)), (3, .ref (la 1)), (4, .ref (la 2)), (5, .ref (la 3)), (6, .ref (la 4)), (7, .ref (la 5)), (8, .int (zI d)), (9, .int (zI turn)), (11, .int (zI u)), (12, .int (zI k))]) hx hb dL_law_686 hl (k := 16) rfl (by decide) rfl (fun ls hl => ?_)
                  refine lv_goto (tgt := 503) hx hb dL_law_689 (by decide) ?_
                  refine W.widen (k := 110 + 250 * turn.toNat + 4 * (n + 1).toNat) (n := 1500 + 1500 * turn.toNat + 24 * (n + 1).toNat) (by omega) (by omega) ?_
                  exact wo_hLj _ _ _ _ _ (ih_hLj (n + 1) ls _ _ _ _ _ (by omega) (hZL) (hTL) (hkL) (hS12) (by omega) (lv_sub hl [5, 6, 7, 8, 9, 10, 11, 12, 13, 14, 15, 16, 1, 0] rfl))
                · exact absurd c_13 (by decide)
              · exact absurd c_11 (by decide)
            · have n7 : σ 17 k ≠ 7 := fun z => by have h9 := zBit_7 hw; rw [z] at c_10; omega
              have s0 : σ 19 k = 0 := by omega
              have p2 : w = 2 → σ 18 k = -1 := fun z => by have h9 := jk.2.2.2.2; rw [z] at c_10; omega
              refine lv_iload hx hb dL_law_555 (lv_at hl 1 rfl) ?_
              refine z_iconst hx hb dL_law_557 ?_
              refine z_icmp_ne (tgt := 579) hx hb dL_law_558 (by decide) (by omega) (fun c_15 => ?_) (fun c_15 => ?_)
              · refine z_iconst hx hb dL_law_579 ?_
                refine lv_goto (tgt := 584) hx hb dL_law_580 (by decide) ?_
                refine lv_istore (lv' := [(19, .int (zI 1)), (18, .int (zI z_8)), (17, .int (zI w)), (0, .ref b), (1, .ref x0), (2, .ref (la 0)), (3, .ref (la 1)), (4, .ref (la 2)), (5, .ref (la 3)), (6, .ref (la 4)), (7, .ref (la 5)), (8, .int (zI d)), (9, .int (zI turn)), (11, .int (zI u)), (12, .int (zI k)), (13, .int (zI 1)), (16, .int (zI n))]) hx hb dL_law_584 hl (by decide) rfl (fun ls hl => ?_)
                refine lv_iload hx hb dL_law_586 (lv_at hl 0 rfl) ?_
                refine z_if_eq (tgt := 650) hx hb dL_law_588 (by decide) (by omega) (fun c_16 => ?_) (fun c_16 => ?_)
                · exact absurd c_16 (by decide)
                · refine lv_aload hx hb dL_law_591 (lv_at hl 8 rfl) ?_
                  refine lv_iload hx hb dL_law_593 (lv_at hl 14 rfl) ?_
                  refine lv_dup2_11 hx hb dL_law_595 rfl rfl ?_
                  refine l_ald hx hb hK hSL.2.2.1 3 (by decide) (by show 0 ≤ k ∧ k < ((10 : Nat) : Int); omega) dL_law_596 ?_
                  refine z_top (b := pC σ k) (by rw [hTL.c (i := k) (by omega)]) ?_
                  refine z_bipush hx hb dL_law_597 (by decide +kernel) ?_
                  refine lv_iload hx hb dL_law_599 (lv_at hl 2 rfl) ?_
                  refine l_shl8 hx hb hw dL_law_601 ?_
                  refine lv_iload hx hb dL_law_602 (lv_at hl 2 rfl) ?_
                  refine z_iconst hx hb dL_law_604 ?_
                  refine z_icmp_ne (tgt := 618) hx hb dL_law_605 (by decide) (by omega) (fun c_17 => ?_) (fun c_17 => ?_)
                  · refine z_iconst hx hb dL_law_618 ?_
                    refine l_or0 hx hb dL_law_619 ?_
                    refine l_orC hx hb (zC1024 (n := 1) hI hB hkL (by omega)) hw (by rw [pC_i hI hB hkL]; omega) dL_law_620 ?_
                    refine l_put hx hb C0 hSL 3 (by decide) (by show 0 ≤ k ∧ k < ((10 : Nat) : Int); omega) dL_law_621 (fun HP18 locsP18 hP18 => ?_)
                    refine lv_aload hx hb dL_law_622 (lv_at hl 8 rfl) ?_
                    refine lv_iload hx hb dL_law_624 (lv_at hl 14 rfl) ?_
                    refine l_ald hx hb hK hP18.2.2.1 3 (by decide) (by show 0 ≤ k ∧ k < ((10 : Nat) : Int); omega) dL_law_626 ?_
                    refine z_top (b := (pC σ k + 8 * zPw w)) (by rw [zup_s]) ?_
                    refine z_iconst hx hb dL_law_627 ?_
                    refine l_shr hx hb 3 (by omega) dL_law_628 (by have := pC_x hI hB hkL; have := zPw8 hw; omega) ?_
                    refine z_top (b := (pC σ k + 8 * zPw w) / 8) rfl ?_
                    refine z_bipush hx hb dL_law_629 (by decide +kernel) ?_
                    refine l_and hx hb 3 (by decide +kernel) dL_law_631 (by have := pC_x hI hB hkL; have := zPw8 hw; omega) ?_
                    refine z_top (b := zSet (σ 17 k) w) (by exact zSetX (q := z_8) hI hB hkL hw (by omega) (by omega) (by first | rw [if_pos (by omega)] | rw [if_neg (by omega)])) ?_
                    refine z_bipush hx hb dL_law_632 (by decide +kernel) ?_
                    refine z_icmp_ne (tgt := 650) hx hb dL_law_634 (by decide) (by omega) (fun c_19 => ?_) (fun c_19 => ?_)
                    · have hT1 : Rl (zup τ 3 k (pC σ k + 8 * zPw w)) (zjn σ k w z_8) := Rl_jn hTL hkL (by omega) p2 (by first | rw [if_pos (by omega)] | rw [if_neg (by omega)]) (by rw [zup_s]) (by intro t i h1; repeat (first | exact rfl | rw [zup_e2 (by omega)]))
                      have n14 : zst_join σ k w z_8 14 0 = σ 14 0 := zst_join_o (by omega)
                      have hT2 : Rl (zup τ 3 k (pC σ k + 8 * zPw w)) (zst_join σ k w z_8) := by rw [zst_join_n c_19]; exact hT1
                      refine lv_aload_n hx hb dL_law_650 rfl (lv_at hl 4 rfl) ?_
                      refine lv_iload hx hb dL_law_651 (lv_at hl 14 rfl) ?_
                      refine lv_iload hx hb dL_law_653 (lv_at hl 2 rfl) ?_
                      refine lv_iload hx hb dL_law_655 (lv_at hl 1 rfl) ?_
                      refine l_call (mc := 4) (ms := 24) C0 (As := [.ref x0, .int (zI k), .int (zI w), .int (zI z_8)]) (rest := []) ⟨hx, hb, hml, hown, hts⟩ hP18 (c_L_join l hfl D cI cO cL A eE mi sa gL σ HP18 hP18.2.1 x0 hP18.1 hZL.1 k w z_8 ⟨(by omega), (by omega), (by omega)⟩) (vx_cwSW 4 hts gL_law_L_join rfl rfl rfl (by decide +kernel) ⟨(Nat.le_of_ble_eq_true rfl), (Nat.le_of_ble_eq_true rfl)⟩) ⟨rfl, rfl⟩ rfl hl.1 rfl (Nat.le_of_ble_eq_true rfl) dL_law_657 ⟨by show 110 + 250 * turn.toNat + 4 * n.toNat + 4 ≤ 675069; omega, by show 1500 + 1500 * turn.toNat + 24 * n.toNat + 24 ≤ 7076417; omega⟩ (fun z_20 g20 H20 locs20 aw20 hS20 => ?_)
                      have th20 : zth_join σ k w z_8 = 0 := by unfold zth_join; rw [if_neg (by omega), if_neg (by omega)]
                      rw [if_pos th20] at hS20
                      obtain rfl := aw20.1 th20
                      refine z_top (b := zst_join σ k w z_8 20 k) (by rfl) ?_
                      refine lv_iload hx hb dL_law_660 (lv_at hl 0 rfl) ?_
                      refine z_if_eq (tgt := 673) hx hb dL_law_662 (by decide) (by omega) (fun c_21 => ?_) (fun c_21 => ?_)
                      · exact absurd c_21 (by decide)
                      · refine lv_aload hx hb dL_law_665 (lv_at hl 10 rfl) ?_
                        refine lv_iload hx hb dL_law_667 (lv_at hl 14 rfl) ?_
                        refine l_ald hx hb hK hS20.2.2.1 5 (by decide) (by show 0 ≤ k ∧ k < ((10 : Nat) : Int); omega) dL_law_669 ?_
                        refine z_top (b := (zst_join σ k w z_8) 20 k) (by rw [hT2.t (i := k) (by omega)]) ?_
                        refine lv_goto (tgt := 676) hx hb dL_law_670 (by decide) ?_
                        refine z_same_ne (tgt := 683) hx hb dL_law_676 (by decide) ?_
                        refine z_iconst hx hb dL_law_679 ?_
                        refine lv_goto (tgt := 684) hx hb dL_law_680 (by decide) ?_
                        refine lv_istore (lv' := [(13, .int (zI 1)), (19, .int (zI 1)), (18, .int (zI z_8)), (17, .int (zI w)), (0, .ref b), (1, .ref x0), (2, .ref (la 0)), (3, .ref (la 1)), (4, .ref (la 2)), (5, .ref (la 3)), (6, .ref (la 4)), (7, .ref (la 5)), (8, .int (zI d)), (9, .int (zI turn)), (11, .int (zI u)), (12, .int (zI k)), (16, .int (zI n))]) hx hb dL_law_684 hl (by decide) rfl (fun ls hl => ?_)
                        refine z_iinc (lv' := [(16, .int (zI (n + 1))), (13, .int (zI 1)), (19, .int (zI 1)), (18, .int (zI z_8)), (17, .int (zI w)), (0, .ref b), (1, .ref x0), (2, .ref (la 0)), (3, .ref (la 1)), (4, .ref (la 2)), (5, .ref (la 3)), (6, .ref (la 4)), (7, .ref (la 5)), (8, .int (zI d)), (9, .int (zI turn)), (11, .int (zI u)), (12, .int (zI k))]) hx hb dL_law_686 hl (k := 16) rfl (by decide) rfl (fun ls hl => ?_)
                        refine lv_goto (tgt := 503) hx hb dL_law_689 (by decide) ?_
                        refine W.widen (k := 110 + 250 * turn.toNat + 4 * (n + 1).toNat) (n := 1500 + 1500 * turn.toNat + 24 * (n + 1).toNat) (by omega) (by omega) ?_
                        exact wo_hLj _ _ _ _ _ (ih_hLj (n + 1) ls _ _ _ _ _ (by omega) (zLaw_join hZL th20) (hT2) (by omega) (hS20) (by omega) (lv_sub hl [5, 6, 7, 8, 9, 10, 11, 12, 13, 14, 15, 16, 1, 0] rfl))
                    · have hT1 : Rl (zup τ 3 k (pC σ k + 8 * zPw w)) (zjn σ k w z_8) := Rl_jn hTL hkL (by omega) p2 (by first | rw [if_pos (by omega)] | rw [if_neg (by omega)]) (by rw [zup_s]) (by intro t i h1; repeat (first | exact rfl | rw [zup_e2 (by omega)]))
                      have n14 : zst_join σ k w z_8 14 0 = σ 14 0 := zst_join_o (by omega)
                      refine lv_iload hx hb dL_law_637 (lv_at hl 14 rfl) ?_
                      refine lv_aload_n hx hb dL_law_639 rfl (lv_at hl 5 rfl) ?_
                      refine lv_aload_n hx hb dL_law_640 rfl (lv_at hl 6 rfl) ?_
                      refine lv_aload hx hb dL_law_641 (lv_at hl 8 rfl) ?_
                      refine lv_aload hx hb dL_law_643 (lv_at hl 9 rfl) ?_
                      refine lv_aload hx hb dL_law_645 (lv_at hl 10 rfl) ?_
                      refine l_looks C0 (As := [.int (zI k), .ref (la 0), .ref (la 1), .ref (la 3), .ref (la 4), .ref (la 5)]) (rest := []) ⟨hx, hb, hml, hown, hts⟩ hP18 (c_L_looks l D cI cO cL la hM (zup τ 3 k (pC σ k + 8 * zPw w)) (zjn σ k w z_8) HP18 hP18.2.2.1 k (zInv_jn hI hkL hw (fun _ => by omega)) (zB_jn hB k w z_8) hT1 (by rw [zjn_e σ k w z_8 14 0 (Or.inl (by decide))]; exact hkL)) (va_cwS 6 hts gL_law_L_looks rfl rfl rfl (by decide +kernel) ⟨(Nat.le_of_ble_eq_true rfl), (Nat.le_of_ble_eq_true rfl)⟩) rfl hl.1 rfl (Nat.le_of_ble_eq_true rfl) dL_law_647 ⟨by show 110 + 250 * turn.toNat + 4 * n.toNat ≤ 675069; omega, by show 1500 + 1500 * turn.toNat + 24 * n.toNat ≤ 7076417; omega⟩ (fun τK23 HK23 locsK23 hpK23 hK23 => ?_)
                      have hT2 : Rl τK23 (zst_join σ k w z_8) := by rw [zst_join_7 c_19]; exact hpK23
                      refine lv_aload_n hx hb dL_law_650 rfl (lv_at hl 4 rfl) ?_
                      refine lv_iload hx hb dL_law_651 (lv_at hl 14 rfl) ?_
                      refine lv_iload hx hb dL_law_653 (lv_at hl 2 rfl) ?_
                      refine lv_iload hx hb dL_law_655 (lv_at hl 1 rfl) ?_
                      refine l_call (mc := 4) (ms := 24) C0 (As := [.ref x0, .int (zI k), .int (zI w), .int (zI z_8)]) (rest := []) ⟨hx, hb, hml, hown, hts⟩ hK23 (c_L_join l hfl D cI cO cL A eE mi sa gL σ HK23 hK23.2.1 x0 hK23.1 hZL.1 k w z_8 ⟨(by omega), (by omega), (by omega)⟩) (vx_cwSW 4 hts gL_law_L_join rfl rfl rfl (by decide +kernel) ⟨(Nat.le_of_ble_eq_true rfl), (Nat.le_of_ble_eq_true rfl)⟩) ⟨rfl, rfl⟩ rfl hl.1 rfl (Nat.le_of_ble_eq_true rfl) dL_law_657 ⟨by show 110 + 250 * turn.toNat + 4 * n.toNat + 4 ≤ 675069; omega, by show 1500 + 1500 * turn.toNat + 24 * n.toNat + 24 ≤ 7076417; omega⟩ (fun z_24 g24 H24 locs24 aw24 hS24 => ?_)
                      have th24 : zth_join σ k w z_8 = 0 := by unfold zth_join; rw [if_neg (by omega), if_neg (by omega)]
                      rw [if_pos th24] at hS24
                      obtain rfl := aw24.1 th24
                      refine z_top (b := zst_join σ k w z_8 20 k) (by rfl) ?_
                      refine lv_iload hx hb dL_law_660 (lv_at hl 0 rfl) ?_
                      refine z_if_eq (tgt := 673) hx hb dL_law_662 (by decide) (by omega) (fun c_25 => ?_) (fun c_25 => ?_)
                      · exact absurd c_25 (by decide)
                      · refine lv_aload hx hb dL_law_665 (lv_at hl 10 rfl) ?_
                        refine lv_iload hx hb dL_law_667 (lv_at hl 14 rfl) ?_
                        refine l_ald hx hb hK hS24.2.2.1 5 (by decide) (by show 0 ≤ k ∧ k < ((10 : Nat) : Int); omega) dL_law_669 ?_
                        refine z_top (b := (zst_join σ k w z_8) 20 k) (by rw [hT2.t (i := k) (by omega)]) ?_
                        refine lv_goto (tgt := 676) hx hb dL_law_670 (by decide) ?_
                        refine z_same_ne (tgt := 683) hx hb dL_law_676 (by decide) ?_
                        refine z_iconst hx hb dL_law_679 ?_
                        refine lv_goto (tgt := 684) hx hb dL_law_680 (by decide) ?_
                        refine lv_istore (lv' := [(13, .int (zI 1)), (19, .int (zI 1)), (18, .int (zI z_8)), (17, .int (zI w)), (0, .ref b), (1, .ref x0), (2, .ref (la 0)), (3, .ref (la 1)), (4, .ref (la 2)), (5, .ref (la 3)), (6, .ref (la 4)), (7, .ref (la 5)), (8, .int (zI d)), (9, .int (zI turn)), (11, .int (zI u)), (12, .int (zI k)), (16, .int (zI n))]) hx hb dL_law_684 hl (by decide) rfl (fun ls hl => ?_)
                        refine z_iinc (lv' := [(16, .int (zI (n + 1))), (13, .int (zI 1)), (19, .int (zI 1)), (18, .int (zI z_8)), (17, .int (zI w)), (0, .ref b), (1, .ref x0), (2, .ref (la 0)), (3, .ref (la 1)), (4, .ref (la 2)), (5, .ref (la 3)), (6, .ref (la 4)), (7, .ref (la 5)), (8, .int (zI d)), (9, .int (zI turn)), (11, .int (zI u)), (12, .int (zI k))]) hx hb dL_law_686 hl (k := 16) rfl (by decide) rfl (fun ls hl => ?_)
                        refine lv_goto (tgt := 503) hx hb dL_law_689 (by decide) ?_
                        refine W.widen (k := 110 + 250 * turn.toNat + 4 * (n + 1).toNat) (n := 1500 + 1500 * turn.toNat + 24 * (n + 1).toNat) (by omega) (by omega) ?_
                        exact wo_hLj _ _ _ _ _ (ih_hLj (n + 1) ls _ _ _ _ _ (by omega) (zLaw_join hZL th24) (hT2) (by omega) (hS24) (by omega) (lv_sub hl [5, 6, 7, 8, 9, 10, 11, 12, 13, 14, 15, 16, 1, 0] rfl))
                  · exact absurd c_17 (by omega)
              · refine lv_iload hx hb dL_law_561 (lv_at hl 0 rfl) ?_
                refine z_iconst hx hb dL_law_563 ?_
                refine z_icmp_lt (tgt := 579) hx hb dL_law_564 (by decide) (by omega) (fun c_27 => ?_) (fun c_27 => ?_)
                · refine z_iconst hx hb dL_law_579 ?_
                  refine lv_goto (tgt := 584) hx hb dL_law_580 (by decide) ?_
                  refine lv_istore (lv' := [(19, .int (zI 1)), (18, .int (zI z_8)), (17, .int (zI w)), (0, .ref b), (1, .ref x0), (2, .ref (la 0)), (3, .ref (la 1)), (4, .ref (la 2)), (5, .ref (la 3)), (6, .ref (la 4)), (7, .ref (la 5)), (8, .int (zI d)), (9, .int (zI turn)), (11, .int (zI u)), (12, .int (zI k)), (13, .int (zI 1)), (16, .int (zI n))]) hx hb dL_law_584 hl (by decide) rfl (fun ls hl => ?_)
                  refine lv_iload hx hb dL_law_586 (lv_at hl 0 rfl) ?_
                  refine z_if_eq (tgt := 650) hx hb dL_law_588 (by decide) (by omega) (fun c_28 => ?_) (fun c_28 => ?_)
                  · exact absurd c_28 (by decide)
                  · refine lv_aload hx hb dL_law_591 (lv_at hl 8 rfl) ?_
                    refine lv_iload hx hb dL_law_593 (lv_at hl 14 rfl) ?_
                    refine lv_dup2_11 hx hb dL_law_595 rfl rfl ?_
                    refine l_ald hx hb hK hSL.2.2.1 3 (by decide) (by show 0 ≤ k ∧ k < ((10 : Nat) : Int); omega) dL_law_596 ?_
                    refine z_top (b := pC σ k) (by rw [hTL.c (i := k) (by omega)]) ?_
                    refine z_bipush hx hb dL_law_597 (by decide +kernel) ?_
                    refine lv_iload hx hb dL_law_599 (lv_at hl 2 rfl) ?_
                    refine l_shl8 hx hb hw dL_law_601 ?_
                    refine lv_iload hx hb dL_law_602 (lv_at hl 2 rfl) ?_
                    refine z_iconst hx hb dL_law_604 ?_
                    refine z_icmp_ne (tgt := 618) hx hb dL_law_605 (by decide) (by omega) (fun c_29 => ?_) (fun c_29 => ?_)
                    · exact absurd c_29 (by omega)
                    · refine lv_iload hx hb dL_law_608 (lv_at hl 1 rfl) ?_
                      refine z_iconst hx hb dL_law_610 ?_
                      refine z_iadd hx hb dL_law_611 ?_
                      refine z_bipush hx hb dL_law_612 (by decide +kernel) ?_
                      refine l_shl hx hb 6 (by decide +kernel) (by decide) dL_law_614 (show 0 ≤ z_8 + 1 ∧ (z_8 + 1) * (64 : Int) < 4294967296 by omega) ?_
                      refine z_top (b := (z_8 + 1) * 64) rfl ?_
                      refine lv_goto (tgt := 619) hx hb dL_law_615 (by decide) ?_
                      refine l_or2 hx hb (by omega) (by omega) dL_law_619 ?_
                      refine l_orP hx hb (zC32 hI hB hkL s0 (p2 (by omega)) (by rw [← show w = 2 by omega]; exact c_10)) (by omega) dL_law_620 ?_
                      refine l_put hx hb C0 hSL 3 (by decide) (by show 0 ≤ k ∧ k < ((10 : Nat) : Int); omega) dL_law_621 (fun HP30 locsP30 hP30 => ?_)
                      refine lv_aload hx hb dL_law_622 (lv_at hl 8 rfl) ?_
                      refine lv_iload hx hb dL_law_624 (lv_at hl 14 rfl) ?_
                      refine l_ald hx hb hK hP30.2.2.1 3 (by decide) (by show 0 ≤ k ∧ k < ((10 : Nat) : Int); omega) dL_law_626 ?_
                      refine z_top (b := (pC σ k + (32 + 64 * (z_8 + 1)))) (by rw [zup_s]) ?_
                      refine z_iconst hx hb dL_law_627 ?_
                      refine l_shr hx hb 3 (by omega) dL_law_628 (by have := pC_x hI hB hkL; have := zPw8 hw; omega) ?_
                      refine z_top (b := (pC σ k + (32 + 64 * (z_8 + 1))) / 8) rfl ?_
                      refine z_bipush hx hb dL_law_629 (by decide +kernel) ?_
                      refine l_and hx hb 3 (by decide +kernel) dL_law_631 (by have := pC_x hI hB hkL; have := zPw8 hw; omega) ?_
                      refine z_top (b := zSet (σ 17 k) w) (by exact zSetX (q := z_8) hI hB hkL hw (by omega) (by omega) (by first | rw [if_pos (by omega)] | rw [if_neg (by omega)])) ?_
                      refine z_bipush hx hb dL_law_632 (by decide +kernel) ?_
                      refine z_icmp_ne (tgt := 650) hx hb dL_law_634 (by decide) (by omega) (fun c_31 => ?_) (fun c_31 => ?_)
                      · have hT1 : Rl (zup τ 3 k (pC σ k + (32 + 64 * (z_8 + 1)))) (zjn σ k w z_8) := Rl_jn hTL hkL (by omega) p2 (by first | rw [if_pos (by omega)] | rw [if_neg (by omega)]) (by rw [zup_s]) (by intro t i h1; repeat (first | exact rfl | rw [zup_e2 (by omega)]))
                        have n14 : zst_join σ k w z_8 14 0 = σ 14 0 := zst_join_o (by omega)
                        have hT2 : Rl (zup τ 3 k (pC σ k + (32 + 64 * (z_8 + 1)))) (zst_join σ k w z_8) := by rw [zst_join_n c_31]; exact hT1
                        refine lv_aload_n hx hb dL_law_650 rfl (lv_at hl 4 rfl) ?_
                        refine lv_iload hx hb dL_law_651 (lv_at hl 14 rfl) ?_
                        refine lv_iload hx hb dL_law_653 (lv_at hl 2 rfl) ?_
                        refine lv_iload hx hb dL_law_655 (lv_at hl 1 rfl) ?_
                        refine l_call (mc := 4) (ms := 24) C0 (As := [.ref x0, .int (zI k), .int (zI w), .int (zI z_8)]) (rest := []) ⟨hx, hb, hml, hown, hts⟩ hP30 (c_L_join l hfl D cI cO cL A eE mi sa gL σ HP30 hP30.2.1 x0 hP30.1 hZL.1 k w z_8 ⟨(by omega), (by omega), (by omega)⟩) (vx_cwSW 4 hts gL_law_L_join rfl rfl rfl (by decide +kernel) ⟨(Nat.le_of_ble_eq_true rfl), (Nat.le_of_ble_eq_true rfl)⟩) ⟨rfl, rfl⟩ rfl hl.1 rfl (Nat.le_of_ble_eq_true rfl) dL_law_657 ⟨by show 110 + 250 * turn.toNat + 4 * n.toNat + 4 ≤ 675069; omega, by show 1500 + 1500 * turn.toNat + 24 * n.toNat + 24 ≤ 7076417; omega⟩ (fun z_32 g32 H32 locs32 aw32 hS32 => ?_)
                        have th32 : zth_join σ k w z_8 = 0 := by unfold zth_join; rw [if_neg (by omega), if_neg (by omega)]
                        rw [if_pos th32] at hS32
                        obtain rfl := aw32.1 th32
                        refine z_top (b := zst_join σ k w z_8 20 k) (by rfl) ?_
                        refine lv_iload hx hb dL_law_660 (lv_at hl 0 rfl) ?_
                        refine z_if_eq (tgt := 673) hx hb dL_law_662 (by decide) (by omega) (fun c_33 => ?_) (fun c_33 => ?_)
                        · exact absurd c_33 (by decide)
                        · refine lv_aload hx hb dL_law_665 (lv_at hl 10 rfl) ?_
                          refine lv_iload hx hb dL_law_667 (lv_at hl 14 rfl) ?_
                          refine l_ald hx hb hK hS32.2.2.1 5 (by decide) (by show 0 ≤ k ∧ k < ((10 : Nat) : Int); omega) dL_law_669 ?_
                          refine z_top (b := (zst_join σ k w z_8) 20 k) (by rw [hT2.t (i := k) (by omega)]) ?_
                          refine lv_goto (tgt := 676) hx hb dL_law_670 (by decide) ?_
                          refine z_same_ne (tgt := 683) hx hb dL_law_676 (by decide) ?_
                          refine z_iconst hx hb dL_law_679 ?_
                          refine lv_goto (tgt := 684) hx hb dL_law_680 (by decide) ?_
                          refine lv_istore (lv' := [(13, .int (zI 1)), (19, .int (zI 1)), (18, .int (zI z_8)), (17, .int (zI w)), (0, .ref b), (1, .ref x0), (2, .ref (la 0)), (3, .ref (la 1)), (4, .ref (la 2)), (5, .ref (la 3)), (6, .ref (la 4)), (7, .ref (la 5)), (8, .int (zI d)), (9, .int (zI turn)), (11, .int (zI u)), (12, .int (zI k)), (16, .int (zI n))]) hx hb dL_law_684 hl (by decide) rfl (fun ls hl => ?_)
                          refine z_iinc (lv' := [(16, .int (zI (n + 1))), (13, .int (zI 1)), (19, .int (zI 1)), (18, .int (zI z_8)), (17, .int (zI w)), (0, .ref b), (1, .ref x0), (2, .ref (la 0)), (3, .ref (la 1)), (4, .ref (la 2)), (5, .ref (la 3)), (6, .ref (la 4)), (7, .ref (la 5)), (8, .int (zI d)), (9, .int (zI turn)), (11, .int (zI u)), (12, .int (zI k))]) hx hb dL_law_686 hl (k := 16) rfl (by decide) rfl (fun ls hl => ?_)
                          refine lv_goto (tgt := 503) hx hb dL_law_689 (by decide) ?_
                          refine W.widen (k := 110 + 250 * turn.toNat + 4 * (n + 1).toNat) (n := 1500 + 1500 * turn.toNat + 24 * (n + 1).toNat) (by omega) (by omega) ?_
                          exact wo_hLj _ _ _ _ _ (ih_hLj (n + 1) ls _ _ _ _ _ (by omega) (zLaw_join hZL th32) (hT2) (by omega) (hS32) (by omega) (lv_sub hl [5, 6, 7, 8, 9, 10, 11, 12, 13, 14, 15, 16, 1, 0] rfl))
                      · have hT1 : Rl (zup τ 3 k (pC σ k + (32 + 64 * (z_8 + 1)))) (zjn σ k w z_8) := Rl_jn hTL hkL (by omega) p2 (by first | rw [if_pos (by omega)] | rw [if_neg (by omega)]) (by rw [zup_s]) (by intro t i h1; repeat (first | exact rfl | rw [zup_e2 (by omega)]))
                        have n14 : zst_join σ k w z_8 14 0 = σ 14 0 := zst_join_o (by omega)
                        refine lv_iload hx hb dL_law_637 (lv_at hl 14 rfl) ?_
                        refine lv_aload_n hx hb dL_law_639 rfl (lv_at hl 5 rfl) ?_
                        refine lv_aload_n hx hb dL_law_640 rfl (lv_at hl 6 rfl) ?_
                        refine lv_aload hx hb dL_law_641 (lv_at hl 8 rfl) ?_
                        refine lv_aload hx hb dL_law_643 (lv_at hl 9 rfl) ?_
                        refine lv_aload hx hb dL_law_645 (lv_at hl 10 rfl) ?_
                        refine l_looks C0 (As := [.int (zI k), .ref (la 0), .ref (la 1), .ref (la 3), .ref (la 4), .ref (la 5)]) (rest := []) ⟨hx, hb, hml, hown, hts⟩ hP30 (c_L_looks l D cI cO cL la hM (zup τ 3 k (pC σ k + (32 + 64 * (z_8 + 1)))) (zjn σ k w z_8) HP30 hP30.2.2.1 k (zInv_jn hI hkL hw (fun _ => by omega)) (zB_jn hB k w z_8) hT1 (by rw [zjn_e σ k w z_8 14 0 (Or.inl (by decide))]; exact hkL)) (va_cwS 6 hts gL_law_L_looks rfl rfl rfl (by decide +kernel) ⟨(Nat.le_of_ble_eq_true rfl), (Nat.le_of_ble_eq_true rfl)⟩) rfl hl.1 rfl (Nat.le_of_ble_eq_true rfl) dL_law_647 ⟨by show 110 + 250 * turn.toNat + 4 * n.toNat ≤ 675069; omega, by show 1500 + 1500 * turn.toNat + 24 * n.toNat ≤ 7076417; omega⟩ (fun τK35 HK35 locsK35 hpK35 hK35 => ?_)
                        have hT2 : Rl τK35 (zst_join σ k w z_8) := by rw [zst_join_7 c_31]; exact hpK35
                        refine lv_aload_n hx hb dL_law_650 rfl (lv_at hl 4 rfl) ?_
                        refine lv_iload hx hb dL_law_651 (lv_at hl 14 rfl) ?_
                        refine lv_iload hx hb dL_law_653 (lv_at hl 2 rfl) ?_
                        refine lv_iload hx hb dL_law_655 (lv_at hl 1 rfl) ?_
                        refine l_call (mc := 4) (ms := 24) C0 (As := [.ref x0, .int (zI k), .int (zI w), .int (zI z_8)]) (rest := []) ⟨hx, hb, hml, hown, hts⟩ hK35 (c_L_join l hfl D cI cO cL A eE mi sa gL σ HK35 hK35.2.1 x0 hK35.1 hZL.1 k w z_8 ⟨(by omega), (by omega), (by omega)⟩) (vx_cwSW 4 hts gL_law_L_join rfl rfl rfl (by decide +kernel) ⟨(Nat.le_of_ble_eq_true rfl), (Nat.le_of_ble_eq_true rfl)⟩) ⟨rfl, rfl⟩ rfl hl.1 rfl (Nat.le_of_ble_eq_true rfl) dL_law_657 ⟨by show 110 + 250 * turn.toNat + 4 * n.toNat + 4 ≤ 675069; omega, by show 1500 + 1500 * turn.toNat + 24 * n.toNat + 24 ≤ 7076417; omega⟩ (fun z_36 g36 H36 locs36 aw36 hS36 => ?_)
                        have th36 : zth_join σ k w z_8 = 0 := by unfold zth_join; rw [if_neg (by omega), if_neg (by omega)]
                        rw [if_pos th36] at hS36
                        obtain rfl := aw36.1 th36
                        refine z_top (b := zst_join σ k w z_8 20 k) (by rfl) ?_
                        refine lv_iload hx hb dL_law_660 (lv_at hl 0 rfl) ?_
                        refine z_if_eq (tgt := 673) hx hb dL_law_662 (by decide) (by omega) (fun c_37 => ?_) (fun c_37 => ?_)
                        · exact absurd c_37 (by decide)
                        · refine lv_aload hx hb dL_law_665 (lv_at hl 10 rfl) ?_
                          refine lv_iload hx hb dL_law_667 (lv_at hl 14 rfl) ?_
                          refine l_ald hx hb hK hS36.2.2.1 5 (by decide) (by show 0 ≤ k ∧ k < ((10 : Nat) : Int); omega) dL_law_669 ?_
                          refine z_top (b := (zst_join σ k w z_8) 20 k) (by rw [hT2.t (i := k) (by omega)]) ?_
                          refine lv_goto (tgt := 676) hx hb dL_law_670 (by decide) ?_
                          refine z_same_ne (tgt := 683) hx hb dL_law_676 (by decide) ?_
                          refine z_iconst hx hb dL_law_679 ?_
                          refine lv_goto (tgt := 684) hx hb dL_law_680 (by decide) ?_
                          refine lv_istore (lv' := [(13, .int (zI 1)), (19, .int (zI 1)), (18, .int (zI z_8)), (17, .int (zI w)), (0, .ref b), (1, .ref x0), (2, .ref (la 0)), (3, .ref (la 1)), (4, .ref (la 2)), (5, .ref (la 3)), (6, .ref (la 4)), (7, .ref (la 5)), (8, .int (zI d)), (9, .int (zI turn)), (11, .int (zI u)), (12, .int (zI k)), (16, .int (zI n))]) hx hb dL_law_684 hl (by decide) rfl (fun ls hl => ?_)
                          refine z_iinc (lv' := [(16, .int (zI (n + 1))), (13, .int (zI 1)), (19, .int (zI 1)), (18, .int (zI z_8)), (17, .int (zI w)), (0, .ref b), (1, .ref x0), (2, .ref (la 0)), (3, .ref (la 1)), (4, .ref (la 2)), (5, .ref (la 3)), (6, .ref (la 4)), (7, .ref (la 5)), (8, .int (zI d)), (9, .int (zI turn)), (11, .int (zI u)), (12, .int (zI k))]) hx hb dL_law_686 hl (k := 16) rfl (by decide) rfl (fun ls hl => ?_)
                          refine lv_goto (tgt := 503) hx hb dL_law_689 (by decide) ?_
                          refine W.widen (k := 110 + 250 * turn.toNat + 4 * (n + 1).toNat) (n := 1500 + 1500 * turn.toNat + 24 * (n + 1).toNat) (by omega) (by omega) ?_
                          exact wo_hLj _ _ _ _ _ (ih_hLj (n + 1) ls _ _ _ _ _ (by omega) (zLaw_join hZL th36) (hT2) (by omega) (hS36) (by omega) (lv_sub hl [5, 6, 7, 8, 9, 10, 11, 12, 13, 14, 15, 16, 1, 0] rfl))
                · refine lv_aload hx hb dL_law_567 (lv_at hl 7 rfl) ?_
                  refine lv_iload hx hb dL_law_569 (lv_at hl 13 rfl) ?_
                  refine l_ald hx hb hK hSL.2.2.1 3 (by decide) (by show 0 ≤ k ∧ k < ((10 : Nat) : Int); omega) dL_law_571 ?_
                  refine z_top (b := pC σ k) (by rw [hTL.c (i := k) (by omega)]) ?_
                  refine z_cs (As := [.int (zI (pC σ k))]) (rest := []) ⟨hx, hb, hml, hown, hts⟩ (c_L_shipOf l D cI cO cL HL (pC σ k) (pC_r hI hB (i := k) (by omega))) (va_cwS 1 hts gL_law_L_shipOf rfl rfl rfl (by decide +kernel) ⟨(Nat.le_of_ble_eq_true rfl), (Nat.le_of_ble_eq_true rfl)⟩) (zKK_mv D cI cO cL) (fun U _ hv => va_K.moved hv hK) rfl hl.1 rfl (Nat.le_of_ble_eq_true rfl) dL_law_572 ⟨by show 110 + 250 * turn.toNat + 4 * n.toNat ≤ 675069; omega, by show 1500 + 1500 * turn.toNat + 24 * n.toNat ≤ 7076417; omega⟩ (fun r_39 hr_39 => ?_)
                  rw [hr_39, pC_s hI hB (i := k) (by omega)]
                  refine z_iconst hx hb dL_law_575 ?_
                  refine z_icmp_ge (tgt := 583) hx hb dL_law_576 (by decide) (by omega) (fun c_40 => ?_) (fun c_40 => ?_)
                  · refine z_iconst hx hb dL_law_583 ?_
                    refine lv_istore (lv' := [(19, .int (zI 0)), (18, .int (zI z_8)), (17, .int (zI w)), (0, .ref b), (1, .ref x0), (2, .ref (la 0)), (3, .ref (la 1)), (4, .ref (la 2)), (5, .ref (la 3)), (6, .ref (la 4)), (7, .ref (la 5)), (8, .int (zI d)), (9, .int (zI turn)), (11, .int (zI u)), (12, .int (zI k)), (13, .int (zI 1)), (16, .int (zI n))]) hx hb dL_law_584 hl (by decide) rfl (fun ls hl => ?_)
                    refine lv_iload hx hb dL_law_586 (lv_at hl 0 rfl) ?_
                    refine z_if_eq (tgt := 650) hx hb dL_law_588 (by decide) (by omega) (fun c_41 => ?_) (fun c_41 => ?_)
                    · refine lv_aload_n hx hb dL_law_650 rfl (lv_at hl 4 rfl) ?_
                      refine lv_iload hx hb dL_law_651 (lv_at hl 14 rfl) ?_
                      refine lv_iload hx hb dL_law_653 (lv_at hl 2 rfl) ?_
                      refine lv_iload hx hb dL_law_655 (lv_at hl 1 rfl) ?_
                      refine l_call (mc := 4) (ms := 24) C0 (As := [.ref x0, .int (zI k), .int (zI w), .int (zI z_8)]) (rest := []) ⟨hx, hb, hml, hown, hts⟩ hSL (c_L_join l hfl D cI cO cL A eE mi sa gL σ HL hSL.2.1 x0 hSL.1 hZL.1 k w z_8 ⟨(by omega), (by omega), (by omega)⟩) (vx_cwSW 4 hts gL_law_L_join rfl rfl rfl (by decide +kernel) ⟨(Nat.le_of_ble_eq_true rfl), (Nat.le_of_ble_eq_true rfl)⟩) ⟨rfl, rfl⟩ rfl hl.1 rfl (Nat.le_of_ble_eq_true rfl) dL_law_657 ⟨by show 110 + 250 * turn.toNat + 4 * n.toNat + 4 ≤ 675069; omega, by show 1500 + 1500 * turn.toNat + 24 * n.toNat + 24 ≤ 7076417; omega⟩ (fun z_42 g42 H42 locs42 aw42 hS42 => ?_)
                      have th42 : zth_join σ k w z_8 = 2 := by unfold zth_join; rw [if_neg (by omega), if_pos (by omega)]
                      rw [if_neg (by omega)] at hS42
                      obtain rfl := aw42.2.2.1 th42
                      refine lv_iload hx hb dL_law_660 (lv_at hl 0 rfl) ?_
                      refine z_if_eq (tgt := 673) hx hb dL_law_662 (by decide) (by omega) (fun c_43 => ?_) (fun c_43 => ?_)
                      · refine z_sipush hx hb dL_law_673 (by decide +kernel) ?_
                        refine z_same_ne (tgt := 683) hx hb dL_law_676 (by decide) ?_
                        refine z_iconst hx hb dL_law_679 ?_
                        refine lv_goto (tgt := 684) hx hb dL_law_680 (by decide) ?_
                        refine lv_istore (lv' := [(13, .int (zI 1)), (19, .int (zI 0)), (18, .int (zI z_8)), (17, .int (zI w)), (0, .ref b), (1, .ref x0), (2, .ref (la 0)), (3, .ref (la 1)), (4, .ref (la 2)), (5, .ref (la 3)), (6, .ref (la 4)), (7, .ref (la 5)), (8, .int (zI d)), (9, .int (zI turn)), (11, .int (zI u)), (12, .int (zI k)), (16, .int (zI n))]) hx hb dL_law_684 hl (by decide) rfl (fun ls hl => ?_)
                        refine z_iinc (lv' := [(16, .int (zI (n + 1))), (13, .int (zI 1)), (19, .int (zI 0)), (18, .int (zI z_8)), (17, .int (zI w)), (0, .ref b), (1, .ref x0), (2, .ref (la 0)), (3, .ref (la 1)), (4, .ref (la 2)), (5, .ref (la 3)), (6, .ref (la 4)), (7, .ref (la 5)), (8, .int (zI d)), (9, .int (zI turn)), (11, .int (zI u)), (12, .int (zI k))]) hx hb dL_law_686 hl (k := 16) rfl (by decide) rfl (fun ls hl => ?_)
                        refine lv_goto (tgt := 503) hx hb dL_law_689 (by decide) ?_
                        refine W.widen (k := 110 + 250 * turn.toNat + 4 * (n + 1).toNat) (n := 1500 + 1500 * turn.toNat + 24 * (n + 1).toNat) (by omega) (by omega) ?_
                        exact wo_hLj _ _ _ _ _ (ih_hLj (n + 1) ls _ _ _ _ _ (by omega) (hZL) (hTL) (hkL) (hS42) (by omega) (lv_sub hl [5, 6, 7, 8, 9, 10, 11, 12, 13, 14, 15, 16, 1, 0] rfl))
                      · exact absurd c_43 (by decide)
                    · exact absurd c_41 (by decide)
                  · refine z_iconst hx hb dL_law_579 ?_
                    refine lv_goto (tgt := 584) hx hb dL_law_580 (by decide) ?_
                    refine lv_istore (lv' := [(19, .int (zI 1)), (18, .int (zI z_8)), (17, .int (zI w)), (0, .ref b), (1, .ref x0), (2, .ref (la 0)), (3, .ref (la 1)), (4, .ref (la 2)), (5, .ref (la 3)), (6, .ref (la 4)), (7, .ref (la 5)), (8, .int (zI d)), (9, .int (zI turn)), (11, .int (zI u)), (12, .int (zI k)), (13, .int (zI 1)), (16, .int (zI n))]) hx hb dL_law_584 hl (by decide) rfl (fun ls hl => ?_)
                    refine lv_iload hx hb dL_law_586 (lv_at hl 0 rfl) ?_
                    refine z_if_eq (tgt := 650) hx hb dL_law_588 (by decide) (by omega) (fun c_45 => ?_) (fun c_45 => ?_)
                    · exact absurd c_45 (by decide)
                    · refine lv_aload hx hb dL_law_591 (lv_at hl 8 rfl) ?_
                      refine lv_iload hx hb dL_law_593 (lv_at hl 14 rfl) ?_
                      refine lv_dup2_11 hx hb dL_law_595 rfl rfl ?_
                      refine l_ald hx hb hK hSL.2.2.1 3 (by decide) (by show 0 ≤ k ∧ k < ((10 : Nat) : Int); omega) dL_law_596 ?_
                      refine z_top (b := pC σ k) (by rw [hTL.c (i := k) (by omega)]) ?_
                      refine z_bipush hx hb dL_law_597 (by decide +kernel) ?_
                      refine lv_iload hx hb dL_law_599 (lv_at hl 2 rfl) ?_
                      refine l_shl8 hx hb hw dL_law_601 ?_
                      refine lv_iload hx hb dL_law_602 (lv_at hl 2 rfl) ?_
                      refine z_iconst hx hb dL_law_604 ?_
                      refine z_icmp_ne (tgt := 618) hx hb dL_law_605 (by decide) (by omega) (fun c_46 => ?_) (fun c_46 => ?_)
                      · exact absurd c_46 (by omega)
                      · refine lv_iload hx hb dL_law_608 (lv_at hl 1 rfl) ?_
                        refine z_iconst hx hb dL_law_610 ?_
                        refine z_iadd hx hb dL_law_611 ?_
                        refine z_bipush hx hb dL_law_612 (by decide +kernel) ?_
                        refine l_shl hx hb 6 (by decide +kernel) (by decide) dL_law_614 (show 0 ≤ z_8 + 1 ∧ (z_8 + 1) * (64 : Int) < 4294967296 by omega) ?_
                        refine z_top (b := (z_8 + 1) * 64) rfl ?_
                        refine lv_goto (tgt := 619) hx hb dL_law_615 (by decide) ?_
                        refine l_or2 hx hb (by omega) (by omega) dL_law_619 ?_
                        refine l_orP hx hb (zC32 hI hB hkL s0 (p2 (by omega)) (by rw [← show w = 2 by omega]; exact c_10)) (by omega) dL_law_620 ?_
                        refine l_put hx hb C0 hSL 3 (by decide) (by show 0 ≤ k ∧ k < ((10 : Nat) : Int); omega) dL_law_621 (fun HP47 locsP47 hP47 => ?_)
                        refine lv_aload hx hb dL_law_622 (lv_at hl 8 rfl) ?_
                        refine lv_iload hx hb dL_law_624 (lv_at hl 14 rfl) ?_
                        refine l_ald hx hb hK hP47.2.2.1 3 (by decide) (by show 0 ≤ k ∧ k < ((10 : Nat) : Int); omega) dL_law_626 ?_
                        refine z_top (b := (pC σ k + (32 + 64 * (z_8 + 1)))) (by rw [zup_s]) ?_
                        refine z_iconst hx hb dL_law_627 ?_
                        refine l_shr hx hb 3 (by omega) dL_law_628 (by have := pC_x hI hB hkL; have := zPw8 hw; omega) ?_
                        refine z_top (b := (pC σ k + (32 + 64 * (z_8 + 1))) / 8) rfl ?_
                        refine z_bipush hx hb dL_law_629 (by decide +kernel) ?_
                        refine l_and hx hb 3 (by decide +kernel) dL_law_631 (by have := pC_x hI hB hkL; have := zPw8 hw; omega) ?_
                        refine z_top (b := zSet (σ 17 k) w) (by exact zSetX (q := z_8) hI hB hkL hw (by omega) (by omega) (by first | rw [if_pos (by omega)] | rw [if_neg (by omega)])) ?_
                        refine z_bipush hx hb dL_law_632 (by decide +kernel) ?_
                        refine z_icmp_ne (tgt := 650) hx hb dL_law_634 (by decide) (by omega) (fun c_48 => ?_) (fun c_48 => ?_)
                        · have hT1 : Rl (zup τ 3 k (pC σ k + (32 + 64 * (z_8 + 1)))) (zjn σ k w z_8) := Rl_jn hTL hkL (by omega) p2 (by first | rw [if_pos (by omega)] | rw [if_neg (by omega)]) (by rw [zup_s]) (by intro t i h1; repeat (first | exact rfl | rw [zup_e2 (by omega)]))
                          have n14 : zst_join σ k w z_8 14 0 = σ 14 0 := zst_join_o (by omega)
                          have hT2 : Rl (zup τ 3 k (pC σ k + (32 + 64 * (z_8 + 1)))) (zst_join σ k w z_8) := by rw [zst_join_n c_48]; exact hT1
                          refine lv_aload_n hx hb dL_law_650 rfl (lv_at hl 4 rfl) ?_
                          refine lv_iload hx hb dL_law_651 (lv_at hl 14 rfl) ?_
                          refine lv_iload hx hb dL_law_653 (lv_at hl 2 rfl) ?_
                          refine lv_iload hx hb dL_law_655 (lv_at hl 1 rfl) ?_
                          refine l_call (mc := 4) (ms := 24) C0 (As := [.ref x0, .int (zI k), .int (zI w), .int (zI z_8)]) (rest := []) ⟨hx, hb, hml, hown, hts⟩ hP47 (c_L_join l hfl D cI cO cL A eE mi sa gL σ HP47 hP47.2.1 x0 hP47.1 hZL.1 k w z_8 ⟨(by omega), (by omega), (by omega)⟩) (vx_cwSW 4 hts gL_law_L_join rfl rfl rfl (by decide +kernel) ⟨(Nat.le_of_ble_eq_true rfl), (Nat.le_of_ble_eq_true rfl)⟩) ⟨rfl, rfl⟩ rfl hl.1 rfl (Nat.le_of_ble_eq_true rfl) dL_law_657 ⟨by show 110 + 250 * turn.toNat + 4 * n.toNat + 4 ≤ 675069; omega, by show 1500 + 1500 * turn.toNat + 24 * n.toNat + 24 ≤ 7076417; omega⟩ (fun z_49 g49 H49 locs49 aw49 hS49 => ?_)
                          have th49 : zth_join σ k w z_8 = 0 := by unfold zth_join; rw [if_neg (by omega), if_neg (by omega)]
                          rw [if_pos th49] at hS49
                          obtain rfl := aw49.1 th49
                          refine z_top (b := zst_join σ k w z_8 20 k) (by rfl) ?_
                          refine lv_iload hx hb dL_law_660 (lv_at hl 0 rfl) ?_
                          refine z_if_eq (tgt := 673) hx hb dL_law_662 (by decide) (by omega) (fun c_50 => ?_) (fun c_50 => ?_)
                          · exact absurd c_50 (by decide)
                          · refine lv_aload hx hb dL_law_665 (lv_at hl 10 rfl) ?_
                            refine lv_iload hx hb dL_law_667 (lv_at hl 14 rfl) ?_
                            refine l_ald hx hb hK hS49.2.2.1 5 (by decide) (by show 0 ≤ k ∧ k < ((10 : Nat) : Int); omega) dL_law_669 ?_
                            refine z_top (b := (zst_join σ k w z_8) 20 k) (by rw [hT2.t (i := k) (by omega)]) ?_
                            refine lv_goto (tgt := 676) hx hb dL_law_670 (by decide) ?_
                            refine z_same_ne (tgt := 683) hx hb dL_law_676 (by decide) ?_
                            refine z_iconst hx hb dL_law_679 ?_
                            refine lv_goto (tgt := 684) hx hb dL_law_680 (by decide) ?_
                            refine lv_istore (lv' := [(13, .int (zI 1)), (19, .int (zI 1)), (18, .int (zI z_8)), (17, .int (zI w)), (0, .ref b), (1, .ref x0), (2, .ref (la 0)), (3, .ref (la 1)), (4, .ref (la 2)), (5, .ref (la 3)), (6, .ref (la 4)), (7, .ref (la 5)), (8, .int (zI d)), (9, .int (zI turn)), (11, .int (zI u)), (12, .int (zI k)), (16, .int (zI n))]) hx hb dL_law_684 hl (by decide) rfl (fun ls hl => ?_)
                            refine z_iinc (lv' := [(16, .int (zI (n + 1))), (13, .int (zI 1)), (19, .int (zI 1)), (18, .int (zI z_8)), (17, .int (zI w)), (0, .ref b), (1, .ref x0), (2, .ref (la 0)), (3, .ref (la 1)), (4, .ref (la 2)), (5, .ref (la 3)), (6, .ref (la 4)), (7, .ref (la 5)), (8, .int (zI d)), (9, .int (zI turn)), (11, .int (zI u)), (12, .int (zI k))]) hx hb dL_law_686 hl (k := 16) rfl (by decide) rfl (fun ls hl => ?_)
                            refine lv_goto (tgt := 503) hx hb dL_law_689 (by decide) ?_
                            refine W.widen (k := 110 + 250 * turn.toNat + 4 * (n + 1).toNat) (n := 1500 + 1500 * turn.toNat + 24 * (n + 1).toNat) (by omega) (by omega) ?_
                            exact wo_hLj _ _ _ _ _ (ih_hLj (n + 1) ls _ _ _ _ _ (by omega) (zLaw_join hZL th49) (hT2) (by omega) (hS49) (by omega) (lv_sub hl [5, 6, 7, 8, 9, 10, 11, 12, 13, 14, 15, 16, 1, 0] rfl))
                        · have hT1 : Rl (zup τ 3 k (pC σ k + (32 + 64 * (z_8 + 1)))) (zjn σ k w z_8) := Rl_jn hTL hkL (by omega) p2 (by first | rw [if_pos (by omega)] | rw [if_neg (by omega)]) (by rw [zup_s]) (by intro t i h1; repeat (first | exact rfl | rw [zup_e2 (by omega)]))
                          have n14 : zst_join σ k w z_8 14 0 = σ 14 0 := zst_join_o (by omega)
                          refine lv_iload hx hb dL_law_637 (lv_at hl 14 rfl) ?_
                          refine lv_aload_n hx hb dL_law_639 rfl (lv_at hl 5 rfl) ?_
                          refine lv_aload_n hx hb dL_law_640 rfl (lv_at hl 6 rfl) ?_
                          refine lv_aload hx hb dL_law_641 (lv_at hl 8 rfl) ?_
                          refine lv_aload hx hb dL_law_643 (lv_at hl 9 rfl) ?_
                          refine lv_aload hx hb dL_law_645 (lv_at hl 10 rfl) ?_
                          refine l_looks C0 (As := [.int (zI k), .ref (la 0), .ref (la 1), .ref (la 3), .ref (la 4), .ref (la 5)]) (rest := []) ⟨hx, hb, hml, hown, hts⟩ hP47 (c_L_looks l D cI cO cL la hM (zup τ 3 k (pC σ k + (32 + 64 * (z_8 + 1)))) (zjn σ k w z_8) HP47 hP47.2.2.1 k (zInv_jn hI hkL hw (fun _ => by omega)) (zB_jn hB k w z_8) hT1 (by rw [zjn_e σ k w z_8 14 0 (Or.inl (by decide))]; exact hkL)) (va_cwS 6 hts gL_law_L_looks rfl rfl rfl (by decide +kernel) ⟨(Nat.le_of_ble_eq_true rfl), (Nat.le_of_ble_eq_true rfl)⟩) rfl hl.1 rfl (Nat.le_of_ble_eq_true rfl) dL_law_647 ⟨by show 110 + 250 * turn.toNat + 4 * n.toNat ≤ 675069; omega, by show 1500 + 1500 * turn.toNat + 24 * n.toNat ≤ 7076417; omega⟩ (fun τK52 HK52 locsK52 hpK52 hK52 => ?_)
                          have hT2 : Rl τK52 (zst_join σ k w z_8) := by rw [zst_join_7 c_48]; exact hpK52
                          refine lv_aload_n hx hb dL_law_650 rfl (lv_at hl 4 rfl) ?_
                          refine lv_iload hx hb dL_law_651 (lv_at hl 14 rfl) ?_
                          refine lv_iload hx hb dL_law_653 (lv_at hl 2 rfl) ?_
                          refine lv_iload hx hb dL_law_655 (lv_at hl 1 rfl) ?_
                          refine l_call (mc := 4) (ms := 24) C0 (As := [.ref x0, .int (zI k), .int (zI w), .int (zI z_8)]) (rest := []) ⟨hx, hb, hml, hown, hts⟩ hK52 (c_L_join l hfl D cI cO cL A eE mi sa gL σ HK52 hK52.2.1 x0 hK52.1 hZL.1 k w z_8 ⟨(by omega), (by omega), (by omega)⟩) (vx_cwSW 4 hts gL_law_L_join rfl rfl rfl (by decide +kernel) ⟨(Nat.le_of_ble_eq_true rfl), (Nat.le_of_ble_eq_true rfl)⟩) ⟨rfl, rfl⟩ rfl hl.1 rfl (Nat.le_of_ble_eq_true rfl) dL_law_657 ⟨by show 110 + 250 * turn.toNat + 4 * n.toNat + 4 ≤ 675069; omega, by show 1500 + 1500 * turn.toNat + 24 * n.toNat + 24 ≤ 7076417; omega⟩ (fun z_53 g53 H53 locs53 aw53 hS53 => ?_)
                          have th53 : zth_join σ k w z_8 = 0 := by unfold zth_join; rw [if_neg (by omega), if_neg (by omega)]
                          rw [if_pos th53] at hS53
                          obtain rfl := aw53.1 th53
                          refine z_top (b := zst_join σ k w z_8 20 k) (by rfl) ?_
                          refine lv_iload hx hb dL_law_660 (lv_at hl 0 rfl) ?_
                          refine z_if_eq (tgt := 673) hx hb dL_law_662 (by decide) (by omega) (fun c_54 => ?_) (fun c_54 => ?_)
                          · exact absurd c_54 (by decide)
                          · refine lv_aload hx hb dL_law_665 (lv_at hl 10 rfl) ?_
                            refine lv_iload hx hb dL_law_667 (lv_at hl 14 rfl) ?_
                            refine l_ald hx hb hK hS53.2.2.1 5 (by decide) (by show 0 ≤ k ∧ k < ((10 : Nat) : Int); omega) dL_law_669 ?_
                            refine z_top (b := (zst_join σ k w z_8) 20 k) (by rw [hT2.t (i := k) (by omega)]) ?_
                            refine lv_goto (tgt := 676) hx hb dL_law_670 (by decide) ?_
                            refine z_same_ne (tgt := 683) hx hb dL_law_676 (by decide) ?_
                            refine z_iconst hx hb dL_law_679 ?_
                            refine lv_goto (tgt := 684) hx hb dL_law_680 (by decide) ?_
                            refine lv_istore (lv' := [(13, .int (zI 1)), (19, .int (zI 1)), (18, .int (zI z_8)), (17, .int (zI w)), (0, .ref b), (1, .ref x0), (2, .ref (la 0)), (3, .ref (la 1)), (4, .ref (la 2)), (5, .ref (la 3)), (6, .ref (la 4)), (7, .ref (la 5)), (8, .int (zI d)), (9, .int (zI turn)), (11, .int (zI u)), (12, .int (zI k)), (16, .int (zI n))]) hx hb dL_law_684 hl (by decide) rfl (fun ls hl => ?_)
                            refine z_iinc (lv' := [(16, .int (zI (n + 1))), (13, .int (zI 1)), (19, .int (zI 1)), (18, .int (zI z_8)), (17, .int (zI w)), (0, .ref b), (1, .ref x0), (2, .ref (la 0)), (3, .ref (la 1)), (4, .ref (la 2)), (5, .ref (la 3)), (6, .ref (la 4)), (7, .ref (la 5)), (8, .int (zI d)), (9, .int (zI turn)), (11, .int (zI u)), (12, .int (zI k))]) hx hb dL_law_686 hl (k := 16) rfl (by decide) rfl (fun ls hl => ?_)
                            refine lv_goto (tgt := 503) hx hb dL_law_689 (by decide) ?_
                            refine W.widen (k := 110 + 250 * turn.toNat + 4 * (n + 1).toNat) (n := 1500 + 1500 * turn.toNat + 24 * (n + 1).toNat) (by omega) (by omega) ?_
                            exact wo_hLj _ _ _ _ _ (ih_hLj (n + 1) ls _ _ _ _ _ (by omega) (zLaw_join hZL th53) (hT2) (by omega) (hS53) (by omega) (lv_sub hl [5, 6, 7, 8, 9, 10, 11, 12, 13, 14, 15, 16, 1, 0] rfl))
    refine W.widen (k := 110 + 250 * turn.toNat + 4 * (0 : Int).toNat) (n := 1500 + 1500 * turn.toNat + 24 * (0 : Int).toNat) (by omega) (by omega) ?_
    exact wo_hLj _ _ _ _ _ (hLj _ 0 ls _ _ _ _ _ (by omega) (hZ) (hT) (hkk) (hS) (Nat.lt_succ_self _) (lv_sub hl [1, 2, 3, 4, 5, 6, 7, 8, 9, 10, 12, 13, 14, 0] rfl))
  · refine lv_goto (tgt := 1336) hx hb dL_law_497 (by decide) ?_
    exact W.widen (k := 110 + 250 * turn.toNat + 30) (n := 1500 + 1500 * turn.toNat + 200) (by omega) (by omega) (next d _ _ _ _ _ ls (by omega) (hZ) (hT) hS (lv_sub hl [0, 1, 2, 3, 4, 5, 6, 7, 8, 9, 11, 13] rfl))
