/-! the law, a case at a time -/
set_option maxRecDepth 100000 in
set_option maxHeartbeats 8000000 in
theorem law_drop {p : Program} {e : Env} {s : State} {m : MethodId} {below : List Frame} {meth : Method} {c : Code} (l : Launch) {b L : Nat} {xs : Nat → Int32} {D : va_G} {cI cO cL : ClassId} {A : Nat → Prop} {eE mi : Nat} {sa la : Nat → Nat} {x0 h3 : Nat} {Q : State → Prop} (C0 : LC l p s m c b L xs D cI cO cL A eE mi sa la h3) (d turn v u k : Int) (hd : 0 ≤ d ∧ d ≤ 14) (htn : 0 ≤ turn ∧ turn < 70) (hv : -2147483648 ≤ v ∧ v < 2147483648) (hu : -2147483648 ≤ u ∧ u < 2147483648) {τ σ : zT} {g : zG} {H : Heap} {locs : List Loc} {ls : Array Slot} (hZ : zLaw σ) (hT : Rl τ σ) (hS : zLV D cI cO A eE x0 la s h3 τ σ g H locs) (hk : (σ 14 0 = 0 ∧ k = 0) ∨ (0 ≤ k ∧ k < σ 14 0)) (hl : lv_has ls 25 [(0, .ref b), (1, .ref x0), (2, .ref (la 0)), (3, .ref (la 1)), (4, .ref (la 2)), (5, .ref (la 3)), (6, .ref (la 4)), (7, .ref (la 5)), (8, .int (zI d)), (9, .int (zI turn)), (10, .int (zI v)), (11, .int (zI u)), (12, .int (zI k)), (13, .int (zI 1))]) (next : ∀ (d : Int) (τ σ : zT) (g : zG) (H : Heap) (locs : List Loc) (ls : Array Slot), 0 ≤ d ∧ d ≤ 14 → zLaw σ → Rl τ σ → zLV D cI cO A eE x0 la s h3 τ σ g H locs → lv_has ls 25 [(0, .ref b), (1, .ref x0), (2, .ref (la 0)), (3, .ref (la 1)), (4, .ref (la 2)), (5, .ref (la 3)), (6, .ref (la 4)), (7, .ref (la 5)), (8, .int (zI d)), (9, .int (zI turn)), (11, .int (zI u)), (13, .int (zI 1))] → W p l e room_1 s m #[Value.ref b] below meth c H locs (110 + 250 * turn.toNat + 30) (1500 + 1500 * turn.toNat + 200) Q (F0 m 1336 ls [])) : W p l e room_1 s m #[Value.ref b] below meth c H locs (110 + 250 * turn.toNat) (1500 + 1500 * turn.toNat) Q (F0 m 776 ls []) := by
  obtain ⟨⟨hx, hb, hml, hown, hts⟩, ⟨hX, hbl, hL⟩, hK, hM, hfl, hpre, hAc, hAL, hs3⟩ := id C0
  have hI := hZ.i
  have hB := hZ.b
  have hJ := hZ.j
  have nn := hZ.n
  have f0 := hI.r
  refine lv_aload_n hx hb dL_law_776 rfl (lv_at hl 2 rfl) ?_
  refine z_iconst hx hb dL_law_777 ?_
  refine l_ald hx hb hK hS.2.2.1 0 (by decide) (by show 0 ≤ 4 ∧ 4 < ((6 : Nat) : Int); omega) dL_law_778 ?_
  refine z_top (b := σ 14 0) (by rw [hT.g4]) ?_
  refine z_if_eq (tgt := 1336) hx hb dL_law_779 (by decide) (by omega) (fun c_1 => ?_) (fun c_1 => ?_)
  · exact W.widen (k := 110 + 250 * turn.toNat + 30) (n := 1500 + 1500 * turn.toNat + 200) (by omega) (by omega) (next d _ _ _ _ _ ls (by omega) (hZ) (hT) hS (lv_sub hl [0, 1, 2, 3, 4, 5, 6, 7, 8, 9, 11, 13] rfl))
  · have hkk : 0 ≤ k ∧ k < σ 14 0 := by omega
    have fk := hI.c hkk
    have jk := hJ.c hkk
    refine lv_iload hx hb dL_law_782 (lv_at hl 8 rfl) ?_
    refine z_bipush hx hb dL_law_784 (by decide +kernel) ?_
    refine z_icmp_ne (tgt := 792) hx hb dL_law_786 (by decide) (by omega) (fun c_2 => ?_) (fun c_2 => ?_)
    · refine z_iinc (lv' := [(8, .int (zI (d + 1))), (0, .ref b), (1, .ref x0), (2, .ref (la 0)), (3, .ref (la 1)), (4, .ref (la 2)), (5, .ref (la 3)), (6, .ref (la 4)), (7, .ref (la 5)), (9, .int (zI turn)), (10, .int (zI v)), (11, .int (zI u)), (12, .int (zI k)), (13, .int (zI 1))]) hx hb dL_law_792 hl (k := 8) rfl (by decide) rfl (fun ls hl => ?_)
      refine lv_iload hx hb dL_law_795 (lv_at hl 11 rfl) ?_
      refine z_iconst hx hb dL_law_797 ?_
      refine z_cs (As := [.int (zI u), .int (zI 3)]) (rest := []) ⟨hx, hb, hml, hown, hts⟩ (c_L_low l D cI cO cL H u 3 (by omega)) (va_cwS 2 hts gL_law_L_low rfl rfl rfl (by decide +kernel) ⟨(Nat.le_of_ble_eq_true rfl), (Nat.le_of_ble_eq_true rfl)⟩) (zKK_mv D cI cO cL) (fun U _ hv => va_K.moved hv hK) rfl hl.1 rfl (Nat.le_of_ble_eq_true rfl) dL_law_798 ⟨by show 110 + 250 * turn.toNat ≤ 675069; omega, by show 1500 + 1500 * turn.toNat ≤ 7076417; omega⟩ (fun r_4 hr_4 => ?_)
      obtain ⟨z_3, ez_3, hz_3⟩ := hr_4
      rw [ez_3]
      have hw : 0 ≤ z_3 ∧ z_3 ≤ 2 := by omega
      have bz := zBit_r (σ 17 k) z_3
      have dv := zDivC hI hB hkk hw
      refine lv_istore (lv' := [(17, .int (zI z_3)), (8, .int (zI (d + 1))), (0, .ref b), (1, .ref x0), (2, .ref (la 0)), (3, .ref (la 1)), (4, .ref (la 2)), (5, .ref (la 3)), (6, .ref (la 4)), (7, .ref (la 5)), (9, .int (zI turn)), (10, .int (zI v)), (11, .int (zI u)), (12, .int (zI k)), (13, .int (zI 1))]) hx hb dL_law_801 hl (by decide) rfl (fun ls hl => ?_)
      refine lv_aload hx hb dL_law_803 (lv_at hl 7 rfl) ?_
      refine lv_iload hx hb dL_law_805 (lv_at hl 13 rfl) ?_
      refine l_ald hx hb hK hS.2.2.1 3 (by decide) (by show 0 ≤ k ∧ k < ((10 : Nat) : Int); omega) dL_law_807 ?_
      refine z_top (b := pC σ k) (by rw [hT.c (i := k) (by omega)]) ?_
      refine z_iconst hx hb dL_law_808 ?_
      refine lv_iload hx hb dL_law_809 (lv_at hl 0 rfl) ?_
      refine z_iadd hx hb dL_law_811 ?_
      refine l_shr3 hx hb hw dL_law_812 (pC_r hI hB hkk) ?_
      refine z_iconst hx hb dL_law_813 ?_
      refine l_and hx hb 1 (by decide +kernel) dL_law_814 dv ?_
      refine z_top (b := zBit (σ 17 k) z_3) (by exact zBitC hI hB hkk hw) ?_
      refine z_iconst hx hb dL_law_815 ?_
      refine z_icmp_ne (tgt := 835) hx hb dL_law_816 (by decide) (by omega) (fun c_5 => ?_) (fun c_5 => ?_)
      · refine z_iconst hx hb dL_law_835 ?_
        refine lv_istore (lv' := [(18, .int (zI 0)), (17, .int (zI z_3)), (8, .int (zI (d + 1))), (0, .ref b), (1, .ref x0), (2, .ref (la 0)), (3, .ref (la 1)), (4, .ref (la 2)), (5, .ref (la 3)), (6, .ref (la 4)), (7, .ref (la 5)), (9, .int (zI turn)), (10, .int (zI v)), (11, .int (zI u)), (12, .int (zI k)), (13, .int (zI 1))]) hx hb dL_law_836 hl (by decide) rfl (fun ls hl => ?_)
        refine lv_aload hx hb dL_law_838 (lv_at hl 8 rfl) ?_
        refine lv_iload hx hb dL_law_840 (lv_at hl 14 rfl) ?_
        refine l_ald hx hb hK hS.2.2.1 3 (by decide) (by show 0 ≤ k ∧ k < ((10 : Nat) : Int); omega) dL_law_842 ?_
        refine z_top (b := pC σ k) (by rw [hT.c (i := k) (by omega)]) ?_
        refine z_cs (As := [.int (zI (pC σ k))]) (rest := []) ⟨hx, hb, hml, hown, hts⟩ (c_L_stateOf l D cI cO cL H (pC σ k) (pC_r hI hB (i := k) (by omega))) (va_cwS 1 hts gL_law_L_stateOf rfl rfl rfl (by decide +kernel) ⟨(Nat.le_of_ble_eq_true rfl), (Nat.le_of_ble_eq_true rfl)⟩) (zKK_mv D cI cO cL) (fun U _ hv => va_K.moved hv hK) rfl hl.1 rfl (Nat.le_of_ble_eq_true rfl) dL_law_843 ⟨by show 110 + 250 * turn.toNat ≤ 675069; omega, by show 1500 + 1500 * turn.toNat ≤ 7076417; omega⟩ (fun r_6 hr_6 => ?_)
        rw [hr_6, pC_t hI hB (i := k) (by omega)]
        refine z_iconst hx hb dL_law_846 ?_
        refine z_icmp_ne (tgt := 854) hx hb dL_law_847 (by decide) (by omega) (fun c_7 => ?_) (fun c_7 => ?_)
        · refine z_iconst hx hb dL_law_854 ?_
          refine lv_istore (lv' := [(19, .int (zI 0)), (18, .int (zI 0)), (17, .int (zI z_3)), (8, .int (zI (d + 1))), (0, .ref b), (1, .ref x0), (2, .ref (la 0)), (3, .ref (la 1)), (4, .ref (la 2)), (5, .ref (la 3)), (6, .ref (la 4)), (7, .ref (la 5)), (9, .int (zI turn)), (10, .int (zI v)), (11, .int (zI u)), (12, .int (zI k)), (13, .int (zI 1))]) hx hb dL_law_855 hl (by decide) rfl (fun ls hl => ?_)
          refine z_iconst hx hb dL_law_857 ?_
          refine lv_istore (lv' := [(20, .int (zI 0)), (19, .int (zI 0)), (18, .int (zI 0)), (17, .int (zI z_3)), (8, .int (zI (d + 1))), (0, .ref b), (1, .ref x0), (2, .ref (la 0)), (3, .ref (la 1)), (4, .ref (la 2)), (5, .ref (la 3)), (6, .ref (la 4)), (7, .ref (la 5)), (9, .int (zI turn)), (10, .int (zI v)), (11, .int (zI u)), (12, .int (zI k)), (13, .int (zI 1))]) hx hb dL_law_858 hl (by decide) rfl (fun ls hl => ?_)
          refine lv_iload hx hb dL_law_860 (lv_at hl 2 rfl) ?_
          refine z_if_eq (tgt := 1002) hx hb dL_law_862 (by decide) (by omega) (fun c_8 => ?_) (fun c_8 => ?_)
          · refine lv_aload_n hx hb dL_law_1002 rfl (lv_at hl 6 rfl) ?_
            refine lv_iload hx hb dL_law_1003 (lv_at hl 16 rfl) ?_
            refine lv_iload hx hb dL_law_1005 (lv_at hl 3 rfl) ?_
            refine l_call (mc := 3) (ms := 18) C0 (As := [.ref x0, .int (zI k), .int (zI z_3)]) (rest := []) ⟨hx, hb, hml, hown, hts⟩ hS (c_L_drop l hfl D cI cO cL A eE mi sa g σ H hS.2.1 x0 hS.1 hZ.1 k z_3 ⟨(by omega), (by omega)⟩) (vx_cwSW 3 hts gL_law_L_drop rfl rfl rfl (by decide +kernel) ⟨(Nat.le_of_ble_eq_true rfl), (Nat.le_of_ble_eq_true rfl)⟩) ⟨rfl, rfl⟩ rfl hl.1 rfl (Nat.le_of_ble_eq_true rfl) dL_law_1007 ⟨by show 110 + 250 * turn.toNat + 3 ≤ 675069; omega, by show 1500 + 1500 * turn.toNat + 18 ≤ 7076417; omega⟩ (fun z_9 g9 H9 locs9 aw9 hS9 => ?_)
            have th9 : zth_drop σ k z_3 = 2 := by unfold zth_drop; rw [if_neg (by omega), if_pos (by omega)]
            rw [if_neg (by omega)] at hS9
            obtain rfl := aw9.2.2.1 th9
            refine lv_iload hx hb dL_law_1010 (lv_at hl 2 rfl) ?_
            refine z_if_eq (tgt := 1020) hx hb dL_law_1012 (by decide) (by omega) (fun c_10 => ?_) (fun c_10 => ?_)
            · refine z_sipush hx hb dL_law_1020 (by decide +kernel) ?_
              refine z_same_ne (tgt := 1030) hx hb dL_law_1023 (by decide) ?_
              refine z_iconst hx hb dL_law_1026 ?_
              refine lv_goto (tgt := 1031) hx hb dL_law_1027 (by decide) ?_
              refine lv_istore (lv' := [(13, .int (zI 1)), (20, .int (zI 0)), (19, .int (zI 0)), (18, .int (zI 0)), (17, .int (zI z_3)), (8, .int (zI (d + 1))), (0, .ref b), (1, .ref x0), (2, .ref (la 0)), (3, .ref (la 1)), (4, .ref (la 2)), (5, .ref (la 3)), (6, .ref (la 4)), (7, .ref (la 5)), (9, .int (zI turn)), (10, .int (zI v)), (11, .int (zI u)), (12, .int (zI k))]) hx hb dL_law_1031 hl (by decide) rfl (fun ls hl => ?_)
              refine lv_goto (tgt := 1336) hx hb dL_law_1033 (by decide) ?_
              exact W.widen (k := 110 + 250 * turn.toNat + 30) (n := 1500 + 1500 * turn.toNat + 200) (by omega) (by omega) (next (d + 1) _ _ _ _ _ ls (by omega) (hZ) (hT) hS9 (lv_sub hl [6, 7, 8, 9, 10, 11, 12, 13, 5, 14, 16, 0] rfl))
            · exact absurd c_10 (by decide)
          · exact absurd c_8 (by decide)
        · refine z_iconst hx hb dL_law_850 ?_
          refine lv_goto (tgt := 855) hx hb dL_law_851 (by decide) ?_
          refine lv_istore (lv' := [(19, .int (zI 1)), (18, .int (zI 0)), (17, .int (zI z_3)), (8, .int (zI (d + 1))), (0, .ref b), (1, .ref x0), (2, .ref (la 0)), (3, .ref (la 1)), (4, .ref (la 2)), (5, .ref (la 3)), (6, .ref (la 4)), (7, .ref (la 5)), (9, .int (zI turn)), (10, .int (zI v)), (11, .int (zI u)), (12, .int (zI k)), (13, .int (zI 1))]) hx hb dL_law_855 hl (by decide) rfl (fun ls hl => ?_)
          refine z_iconst hx hb dL_law_857 ?_
          refine lv_istore (lv' := [(20, .int (zI 0)), (19, .int (zI 1)), (18, .int (zI 0)), (17, .int (zI z_3)), (8, .int (zI (d + 1))), (0, .ref b), (1, .ref x0), (2, .ref (la 0)), (3, .ref (la 1)), (4, .ref (la 2)), (5, .ref (la 3)), (6, .ref (la 4)), (7, .ref (la 5)), (9, .int (zI turn)), (10, .int (zI v)), (11, .int (zI u)), (12, .int (zI k)), (13, .int (zI 1))]) hx hb dL_law_858 hl (by decide) rfl (fun ls hl => ?_)
          refine lv_iload hx hb dL_law_860 (lv_at hl 2 rfl) ?_
          refine z_if_eq (tgt := 1002) hx hb dL_law_862 (by decide) (by omega) (fun c_12 => ?_) (fun c_12 => ?_)
          · refine lv_aload_n hx hb dL_law_1002 rfl (lv_at hl 6 rfl) ?_
            refine lv_iload hx hb dL_law_1003 (lv_at hl 16 rfl) ?_
            refine lv_iload hx hb dL_law_1005 (lv_at hl 3 rfl) ?_
            refine l_call (mc := 3) (ms := 18) C0 (As := [.ref x0, .int (zI k), .int (zI z_3)]) (rest := []) ⟨hx, hb, hml, hown, hts⟩ hS (c_L_drop l hfl D cI cO cL A eE mi sa g σ H hS.2.1 x0 hS.1 hZ.1 k z_3 ⟨(by omega), (by omega)⟩) (vx_cwSW 3 hts gL_law_L_drop rfl rfl rfl (by decide +kernel) ⟨(Nat.le_of_ble_eq_true rfl), (Nat.le_of_ble_eq_true rfl)⟩) ⟨rfl, rfl⟩ rfl hl.1 rfl (Nat.le_of_ble_eq_true rfl) dL_law_1007 ⟨by show 110 + 250 * turn.toNat + 3 ≤ 675069; omega, by show 1500 + 1500 * turn.toNat + 18 ≤ 7076417; omega⟩ (fun z_13 g13 H13 locs13 aw13 hS13 => ?_)
            have th13 : zth_drop σ k z_3 = 2 := by unfold zth_drop; rw [if_neg (by omega), if_pos (by omega)]
            rw [if_neg (by omega)] at hS13
            obtain rfl := aw13.2.2.1 th13
            refine lv_iload hx hb dL_law_1010 (lv_at hl 2 rfl) ?_
            refine z_if_eq (tgt := 1020) hx hb dL_law_1012 (by decide) (by omega) (fun c_14 => ?_) (fun c_14 => ?_)
            · refine z_sipush hx hb dL_law_1020 (by decide +kernel) ?_
              refine z_same_ne (tgt := 1030) hx hb dL_law_1023 (by decide) ?_
              refine z_iconst hx hb dL_law_1026 ?_
              refine lv_goto (tgt := 1031) hx hb dL_law_1027 (by decide) ?_
              refine lv_istore (lv' := [(13, .int (zI 1)), (20, .int (zI 0)), (19, .int (zI 1)), (18, .int (zI 0)), (17, .int (zI z_3)), (8, .int (zI (d + 1))), (0, .ref b), (1, .ref x0), (2, .ref (la 0)), (3, .ref (la 1)), (4, .ref (la 2)), (5, .ref (la 3)), (6, .ref (la 4)), (7, .ref (la 5)), (9, .int (zI turn)), (10, .int (zI v)), (11, .int (zI u)), (12, .int (zI k))]) hx hb dL_law_1031 hl (by decide) rfl (fun ls hl => ?_)
              refine lv_goto (tgt := 1336) hx hb dL_law_1033 (by decide) ?_
              exact W.widen (k := 110 + 250 * turn.toNat + 30) (n := 1500 + 1500 * turn.toNat + 200) (by omega) (by omega) (next (d + 1) _ _ _ _ _ ls (by omega) (hZ) (hT) hS13 (lv_sub hl [6, 7, 8, 9, 10, 11, 12, 13, 5, 14, 16, 0] rfl))
            · exact absurd c_14 (by decide)
          · exact absurd c_12 (by decide)
      · refine lv_aload hx hb dL_law_819 (lv_at hl 7 rfl) ?_
        refine lv_iload hx hb dL_law_821 (lv_at hl 13 rfl) ?_
        refine l_ald hx hb hK hS.2.2.1 3 (by decide) (by show 0 ≤ k ∧ k < ((10 : Nat) : Int); omega) dL_law_823 ?_
        refine z_top (b := pC σ k) (by rw [hT.c (i := k) (by omega)]) ?_
        refine z_cs (As := [.int (zI (pC σ k))]) (rest := []) ⟨hx, hb, hml, hown, hts⟩ (c_L_stateOf l D cI cO cL H (pC σ k) (pC_r hI hB (i := k) (by omega))) (va_cwS 1 hts gL_law_L_stateOf rfl rfl rfl (by decide +kernel) ⟨(Nat.le_of_ble_eq_true rfl), (Nat.le_of_ble_eq_true rfl)⟩) (zKK_mv D cI cO cL) (fun U _ hv => va_K.moved hv hK) rfl hl.1 rfl (Nat.le_of_ble_eq_true rfl) dL_law_824 ⟨by show 110 + 250 * turn.toNat ≤ 675069; omega, by show 1500 + 1500 * turn.toNat ≤ 7076417; omega⟩ (fun r_16 hr_16 => ?_)
        rw [hr_16, pC_t hI hB (i := k) (by omega)]
        refine z_iconst hx hb dL_law_827 ?_
        refine z_icmp_ge (tgt := 835) hx hb dL_law_828 (by decide) (by omega) (fun c_17 => ?_) (fun c_17 => ?_)
        · refine z_iconst hx hb dL_law_835 ?_
          refine lv_istore (lv' := [(18, .int (zI 0)), (17, .int (zI z_3)), (8, .int (zI (d + 1))), (0, .ref b), (1, .ref x0), (2, .ref (la 0)), (3, .ref (la 1)), (4, .ref (la 2)), (5, .ref (la 3)), (6, .ref (la 4)), (7, .ref (la 5)), (9, .int (zI turn)), (10, .int (zI v)), (11, .int (zI u)), (12, .int (zI k)), (13, .int (zI 1))]) hx hb dL_law_836 hl (by decide) rfl (fun ls hl => ?_)
          refine lv_aload hx hb dL_law_838 (lv_at hl 8 rfl) ?_
          refine lv_iload hx hb dL_law_840 (lv_at hl 14 rfl) ?_
          refine l_ald hx hb hK hS.2.2.1 3 (by decide) (by show 0 ≤ k ∧ k < ((10 : Nat) : Int); omega) dL_law_842 ?_
          refine z_top (b := pC σ k) (by rw [hT.c (i := k) (by omega)]) ?_
          refine z_cs (As := [.int (zI (pC σ k))]) (rest := []) ⟨hx, hb, hml, hown, hts⟩ (c_L_stateOf l D cI cO cL H (pC σ k) (pC_r hI hB (i := k) (by omega))) (va_cwS 1 hts gL_law_L_stateOf rfl rfl rfl (by decide +kernel) ⟨(Nat.le_of_ble_eq_true rfl), (Nat.le_of_ble_eq_true rfl)⟩) (zKK_mv D cI cO cL) (fun U _ hv => va_K.moved hv hK) rfl hl.1 rfl (Nat.le_of_ble_eq_true rfl) dL_law_843 ⟨by show 110 + 250 * turn.toNat ≤ 675069; omega, by show 1500 + 1500 * turn.toNat ≤ 7076417; omega⟩ (fun r_18 hr_18 => ?_)
          rw [hr_18, pC_t hI hB (i := k) (by omega)]
          refine z_iconst hx hb dL_law_846 ?_
          refine z_icmp_ne (tgt := 854) hx hb dL_law_847 (by decide) (by omega) (fun c_19 => ?_) (fun c_19 => ?_)
          · refine z_iconst hx hb dL_law_854 ?_
            refine lv_istore (lv' := [(19, .int (zI 0)), (18, .int (zI 0)), (17, .int (zI z_3)), (8, .int (zI (d + 1))), (0, .ref b), (1, .ref x0), (2, .ref (la 0)), (3, .ref (la 1)), (4, .ref (la 2)), (5, .ref (la 3)), (6, .ref (la 4)), (7, .ref (la 5)), (9, .int (zI turn)), (10, .int (zI v)), (11, .int (zI u)), (12, .int (zI k)), (13, .int (zI 1))]) hx hb dL_law_855 hl (by decide) rfl (fun ls hl => ?_)
            refine z_iconst hx hb dL_law_857 ?_
            refine lv_istore (lv' := [(20, .int (zI 0)), (19, .int (zI 0)), (18, .int (zI 0)), (17, .int (zI z_3)), (8, .int (zI (d + 1))), (0, .ref b), (1, .ref x0), (2, .ref (la 0)), (3, .ref (la 1)), (4, .ref (la 2)), (5, .ref (la 3)), (6, .ref (la 4)), (7, .ref (la 5)), (9, .int (zI turn)), (10, .int (zI v)), (11, .int (zI u)), (12, .int (zI k)), (13, .int (zI 1))]) hx hb dL_law_858 hl (by decide) rfl (fun ls hl => ?_)
            refine lv_iload hx hb dL_law_860 (lv_at hl 2 rfl) ?_
            refine z_if_eq (tgt := 1002) hx hb dL_law_862 (by decide) (by omega) (fun c_20 => ?_) (fun c_20 => ?_)
            · refine lv_aload_n hx hb dL_law_1002 rfl (lv_at hl 6 rfl) ?_
              refine lv_iload hx hb dL_law_1003 (lv_at hl 16 rfl) ?_
              refine lv_iload hx hb dL_law_1005 (lv_at hl 3 rfl) ?_
              refine l_call (mc := 3) (ms := 18) C0 (As := [.ref x0, .int (zI k), .int (zI z_3)]) (rest := []) ⟨hx, hb, hml, hown, hts⟩ hS (c_L_drop l hfl D cI cO cL A eE mi sa g σ H hS.2.1 x0 hS.1 hZ.1 k z_3 ⟨(by omega), (by omega)⟩) (vx_cwSW 3 hts gL_law_L_drop rfl rfl rfl (by decide +kernel) ⟨(Nat.le_of_ble_eq_true rfl), (Nat.le_of_ble_eq_true rfl)⟩) ⟨rfl, rfl⟩ rfl hl.1 rfl (Nat.le_of_ble_eq_true rfl) dL_law_1007 ⟨by show 110 + 250 * turn.toNat + 3 ≤ 675069; omega, by show 1500 + 1500 * turn.toNat + 18 ≤ 7076417; omega⟩ (fun z_21 g21 H21 locs21 aw21 hS21 => ?_)
              have th21 : zth_drop σ k z_3 = 2 := by unfold zth_drop; rw [if_neg (by omega), if_pos (by omega)]
              rw [if_neg (by omega)] at hS21
              obtain rfl := aw21.2.2.1 th21
              refine lv_iload hx hb dL_law_1010 (lv_at hl 2 rfl) ?_
              refine z_if_eq (tgt := 1020) hx hb dL_law_1012 (by decide) (by omega) (fun c_22 => ?_) (fun c_22 => ?_)
              · refine z_sipush hx hb dL_law_1020 (by decide +kernel) ?_
                refine z_same_ne (tgt := 1030) hx hb dL_law_1023 (by decide) ?_
                refine z_iconst hx hb dL_law_1026 ?_
                refine lv_goto (tgt := 1031) hx hb dL_law_1027 (by decide) ?_
                refine lv_istore (lv' := [(13, .int (zI 1)), (20, .int (zI 0)), (19, .int (zI 0)), (18, .int (zI 0)), (17, .int (zI z_3)), (8, .int (zI (d + 1))), (0, .ref b), (1, .ref x0), (2, .ref (la 0)), (3, .ref (la 1)), (4, .ref (la 2)), (5, .ref (la 3)), (6, .ref (la 4)), (7, .ref (la 5)), (9, .int (zI turn)), (10, .int (zI v)), (11, .int (zI u)), (12, .int (zI k))]) hx hb dL_law_1031 hl (by decide) rfl (fun ls hl => ?_)
                refine lv_goto (tgt := 1336) hx hb dL_law_1033 (by decide) ?_
                exact W.widen (k := 110 + 250 * turn.toNat + 30) (n := 1500 + 1500 * turn.toNat + 200) (by omega) (by omega) (next (d + 1) _ _ _ _ _ ls (by omega) (hZ) (hT) hS21 (lv_sub hl [6, 7, 8, 9, 10, 11, 12, 13, 5, 14, 16, 0] rfl))
              · exact absurd c_22 (by decide)
            · exact absurd c_20 (by decide)
          · refine z_iconst hx hb dL_law_850 ?_
            refine lv_goto (tgt := 855) hx hb dL_law_851 (by decide) ?_
            refine lv_istore (lv' := [(19, .int (zI 1)), (18, .int (zI 0)), (17, .int (zI z_3)), (8, .int (zI (d + 1))), (0, .ref b), (1, .ref x0), (2, .ref (la 0)), (3, .ref (la 1)), (4, .ref (la 2)), (5, .ref (la 3)), (6, .ref (la 4)), (7, .ref (la 5)), (9, .int (zI turn)), (10, .int (zI v)), (11, .int (zI u)), (12, .int (zI k)), (13, .int (zI 1))]) hx hb dL_law_855 hl (by decide) rfl (fun ls hl => ?_)
            refine z_iconst hx hb dL_law_857 ?_
            refine lv_istore (lv' := [(20, .int (zI 0)), (19, .int (zI 1)), (18, .int (zI 0)), (17, .int (zI z_3)), (8, .int (zI (d + 1))), (0, .ref b), (1, .ref x0), (2, .ref (la 0)), (3, .ref (la 1)), (4, .ref (la 2)), (5, .ref (la 3)), (6, .ref (la 4)), (7, .ref (la 5)), (9, .int (zI turn)), (10, .int (zI v)), (11, .int (zI u)), (12, .int (zI k)), (13, .int (zI 1))]) hx hb dL_law_858 hl (by decide) rfl (fun ls hl => ?_)
            refine lv_iload hx hb dL_law_860 (lv_at hl 2 rfl) ?_
            refine z_if_eq (tgt := 1002) hx hb dL_law_862 (by decide) (by omega) (fun c_24 => ?_) (fun c_24 => ?_)
            · refine lv_aload_n hx hb dL_law_1002 rfl (lv_at hl 6 rfl) ?_
              refine lv_iload hx hb dL_law_1003 (lv_at hl 16 rfl) ?_
              refine lv_iload hx hb dL_law_1005 (lv_at hl 3 rfl) ?_
              refine l_call (mc := 3) (ms := 18) C0 (As := [.ref x0, .int (zI k), .int (zI z_3)]) (rest := []) ⟨hx, hb, hml, hown, hts⟩ hS (c_L_drop l hfl D cI cO cL A eE mi sa g σ H hS.2.1 x0 hS.1 hZ.1 k z_3 ⟨(by omega), (by omega)⟩) (vx_cwSW 3 hts gL_law_L_drop rfl rfl rfl (by decide +kernel) ⟨(Nat.le_of_ble_eq_true rfl), (Nat.le_of_ble_eq_true rfl)⟩) ⟨rfl, rfl⟩ rfl hl.1 rfl (Nat.le_of_ble_eq_true rfl) dL_law_1007 ⟨by show 110 + 250 * turn.toNat + 3 ≤ 675069; omega, by show 1500 + 1500 * turn.toNat + 18 ≤ 7076417; omega⟩ (fun z_25 g25 H25 locs25 aw25 hS25 => ?_)
              have th25 : zth_drop σ k z_3 = 2 := by unfold zth_drop; rw [if_neg (by omega), if_pos (by omega)]
              rw [if_neg (by omega)] at hS25
              obtain rfl := aw25.2.2.1 th25
              refine lv_iload hx hb dL_law_1010 (lv_at hl 2 rfl) ?_
              refine z_if_eq (tgt := 1020) hx hb dL_law_1012 (by decide) (by omega) (fun c_26 => ?_) (fun c_26 => ?_)
              · refine z_sipush hx hb dL_law_1020 (by decide +kernel) ?_
                refine z_same_ne (tgt := 1030) hx hb dL_law_1023 (by decide) ?_
                refine z_iconst hx hb dL_law_1026 ?_
                refine lv_goto (tgt := 1031) hx hb dL_law_1027 (by decide) ?_
                refine lv_istore (lv' := [(13, .int (zI 1)), (20, .int (zI 0)), (19, .int (zI 1)), (18, .int (zI 0)), (17, .int (zI z_3)), (8, .int (zI (d + 1))), (0, .ref b), (1, .ref x0), (2, .ref (la 0)), (3, .ref (la 1)), (4, .ref (la 2)), (5, .ref (la 3)), (6, .ref (la 4)), (7, .ref (la 5)), (9, .int (zI turn)), (10, .int (zI v)), (11, .int (zI u)), (12, .int (zI k))]) hx hb dL_law_1031 hl (by decide) rfl (fun ls hl => ?_)
                refine lv_goto (tgt := 1336) hx hb dL_law_1033 (by decide) ?_
                exact W.widen (k := 110 + 250 * turn.toNat + 30) (n := 1500 + 1500 * turn.toNat + 200) (by omega) (by omega) (next (d + 1) _ _ _ _ _ ls (by omega) (hZ) (hT) hS25 (lv_sub hl [6, 7, 8, 9, 10, 11, 12, 13, 5, 14, 16, 0] rfl))
              · exact absurd c_26 (by decide)
            · exact absurd c_24 (by decide)
        · refine z_iconst hx hb dL_law_831 ?_
          refine lv_goto (tgt := 836) hx hb dL_law_832 (by decide) ?_
          refine lv_istore (lv' := [(18, .int (zI 1)), (17, .int (zI z_3)), (8, .int (zI (d + 1))), (0, .ref b), (1, .ref x0), (2, .ref (la 0)), (3, .ref (la 1)), (4, .ref (la 2)), (5, .ref (la 3)), (6, .ref (la 4)), (7, .ref (la 5)), (9, .int (zI turn)), (10, .int (zI v)), (11, .int (zI u)), (12, .int (zI k)), (13, .int (zI 1))]) hx hb dL_law_836 hl (by decide) rfl (fun ls hl => ?_)
          refine lv_aload hx hb dL_law_838 (lv_at hl 8 rfl) ?_
          refine lv_iload hx hb dL_law_840 (lv_at hl 14 rfl) ?_
          refine l_ald hx hb hK hS.2.2.1 3 (by decide) (by show 0 ≤ k ∧ k < ((10 : Nat) : Int); omega) dL_law_842 ?_
          refine z_top (b := pC σ k) (by rw [hT.c (i := k) (by omega)]) ?_
          refine z_cs (As := [.int (zI (pC σ k))]) (rest := []) ⟨hx, hb, hml, hown, hts⟩ (c_L_stateOf l D cI cO cL H (pC σ k) (pC_r hI hB (i := k) (by omega))) (va_cwS 1 hts gL_law_L_stateOf rfl rfl rfl (by decide +kernel) ⟨(Nat.le_of_ble_eq_true rfl), (Nat.le_of_ble_eq_true rfl)⟩) (zKK_mv D cI cO cL) (fun U _ hv => va_K.moved hv hK) rfl hl.1 rfl (Nat.le_of_ble_eq_true rfl) dL_law_843 ⟨by show 110 + 250 * turn.toNat ≤ 675069; omega, by show 1500 + 1500 * turn.toNat ≤ 7076417; omega⟩ (fun r_28 hr_28 => ?_)
          rw [hr_28, pC_t hI hB (i := k) (by omega)]
          refine z_iconst hx hb dL_law_846 ?_
          refine z_icmp_ne (tgt := 854) hx hb dL_law_847 (by decide) (by omega) (fun c_29 => ?_) (fun c_29 => ?_)
          · refine z_iconst hx hb dL_law_854 ?_
            refine lv_istore (lv' := [(19, .int (zI 0)), (18, .int (zI 1)), (17, .int (zI z_3)), (8, .int (zI (d + 1))), (0, .ref b), (1, .ref x0), (2, .ref (la 0)), (3, .ref (la 1)), (4, .ref (la 2)), (5, .ref (la 3)), (6, .ref (la 4)), (7, .ref (la 5)), (9, .int (zI turn)), (10, .int (zI v)), (11, .int (zI u)), (12, .int (zI k)), (13, .int (zI 1))]) hx hb dL_law_855 hl (by decide) rfl (fun ls hl => ?_)
            refine z_iconst hx hb dL_law_857 ?_
            refine lv_istore (lv' := [(20, .int (zI 0)), (19, .int (zI 0)), (18, .int (zI 1)), (17, .int (zI z_3)), (8, .int (zI (d + 1))), (0, .ref b), (1, .ref x0), (2, .ref (la 0)), (3, .ref (la 1)), (4, .ref (la 2)), (5, .ref (la 3)), (6, .ref (la 4)), (7, .ref (la 5)), (9, .int (zI turn)), (10, .int (zI v)), (11, .int (zI u)), (12, .int (zI k)), (13, .int (zI 1))]) hx hb dL_law_858 hl (by decide) rfl (fun ls hl => ?_)
            refine lv_iload hx hb dL_law_860 (lv_at hl 2 rfl) ?_
            refine z_if_eq (tgt := 1002) hx hb dL_law_862 (by decide) (by omega) (fun c_30 => ?_) (fun c_30 => ?_)
            · exact absurd c_30 (by decide)
            · refine lv_aload hx hb dL_law_865 (lv_at hl 10 rfl) ?_
              refine lv_iload hx hb dL_law_867 (lv_at hl 16 rfl) ?_
              refine lv_dup2_11 hx hb dL_law_869 rfl rfl ?_
              refine l_ald hx hb hK hS.2.2.1 3 (by decide) (by show 0 ≤ k ∧ k < ((10 : Nat) : Int); omega) dL_law_870 ?_
              refine z_top (b := pC σ k) (by rw [hT.c (i := k) (by omega)]) ?_
              refine z_bipush hx hb dL_law_871 (by decide +kernel) ?_
              refine lv_iload hx hb dL_law_873 (lv_at hl 3 rfl) ?_
              refine l_shl8 hx hb hw dL_law_875 ?_
              refine z_iconst hx hb dL_law_876 ?_
              refine l_not8 hx hb hw dL_law_877 ?_
              refine z_sipush hx hb dL_law_878 (by decide +kernel) ?_
              refine l_not9 hx hb hw dL_law_881 ?_
              refine lv_iload hx hb dL_law_882 (lv_at hl 3 rfl) ?_
              refine z_iconst hx hb dL_law_884 ?_
              refine z_icmp_ne (tgt := 893) hx hb dL_law_885 (by decide) (by omega) (fun c_31 => ?_) (fun c_31 => ?_)
              · refine z_sipush hx hb dL_law_893 (by decide +kernel) ?_
                refine l_m1023 hx hb hw dL_law_896 ?_
                refine l_clr1 hx hb (zC1024 (n := 3) hI hB hkk (by omega)) (by omega) (by rw [pC_i hI hB hkk]; omega) dL_law_897 ?_
                refine l_put hx hb C0 hS 3 (by decide) (by show 0 ≤ k ∧ k < ((10 : Nat) : Int); omega) dL_law_898 (fun HP32 locsP32 hP32 => ?_)
                refine lv_aload hx hb dL_law_899 (lv_at hl 12 rfl) ?_
                refine lv_iload hx hb dL_law_901 (lv_at hl 16 rfl) ?_
                refine z_iconst hx hb dL_law_903 ?_
                refine l_put hx hb C0 hP32 5 (by decide) (by show 0 ≤ k ∧ k < ((10 : Nat) : Int); omega) dL_law_904 (fun HP33 locsP33 hP33 => ?_)
                refine z_iconst hx hb dL_law_905 ?_
                refine lv_istore (lv' := [(21, .int (zI 0)), (20, .int (zI 0)), (19, .int (zI 0)), (18, .int (zI 1)), (17, .int (zI z_3)), (8, .int (zI (d + 1))), (0, .ref b), (1, .ref x0), (2, .ref (la 0)), (3, .ref (la 1)), (4, .ref (la 2)), (5, .ref (la 3)), (6, .ref (la 4)), (7, .ref (la 5)), (9, .int (zI turn)), (10, .int (zI v)), (11, .int (zI u)), (12, .int (zI k)), (13, .int (zI 1))]) hx hb dL_law_906 hl (by decide) rfl (fun ls hl => ?_)
                have hT1 : Rl (zup (zup τ 3 k (pC σ k % 1024 - 8 * zPw z_3)) 5 k (-1)) (zdr σ k z_3) := Rl_dr hT hI hB hkk hw (by omega) (by first | rw [if_pos (by omega)] | rw [if_neg (by omega)]) (by rw [zup_t (t := 5) (t' := 3) (by decide), zup_s]) (by rw [zup_s]) (by intro t i h1; repeat (first | exact rfl | rw [zup_e2 (by omega)]))
                have n14 : (zdr σ k z_3) 14 0 = σ 14 0 := rfl
                refine lv_iload hx hb dL_law_908 (lv_at hl 0 rfl) ?_
                refine lv_aload_n hx hb dL_law_910 rfl (lv_at hl 8 rfl) ?_
                refine z_iconst hx hb dL_law_911 ?_
                refine l_ald hx hb hK hP33.2.2.1 0 (by decide) (by show 0 ≤ 4 ∧ 4 < ((6 : Nat) : Int); omega) dL_law_912 ?_
                refine z_top (b := (zdr σ k z_3) 14 0) (by rw [hT1.g4]) ?_
                refine z_icmp_ge (tgt := 994) hx hb dL_law_913 (by decide) (by omega) (fun c_34 => ?_) (fun c_34 => ?_)
                · refine lv_aload_n hx hb dL_law_994 rfl (lv_at hl 8 rfl) ?_
                  refine z_iconst hx hb dL_law_995 ?_
                  refine lv_dup2_11 hx hb dL_law_996 rfl rfl ?_
                  refine l_ald hx hb hK hP33.2.2.1 0 (by decide) (by show 0 ≤ 5 ∧ 5 < ((6 : Nat) : Int); omega) dL_law_997 ?_
                  refine z_top (b := (zdr σ k z_3) 21 0) (by rw [hT1.g5]) ?_
                  refine lv_iload hx hb dL_law_998 (lv_at hl 1 rfl) ?_
                  refine z_iadd hx hb dL_law_1000 ?_
                  refine l_put hx hb C0 hP33 0 (by decide) (by show 0 ≤ 5 ∧ 5 < ((6 : Nat) : Int); omega) dL_law_1001 (fun HP35 locsP35 hP35 => ?_)
                  refine lv_aload_n hx hb dL_law_1002 rfl (lv_at hl 7 rfl) ?_
                  refine lv_iload hx hb dL_law_1003 (lv_at hl 17 rfl) ?_
                  refine lv_iload hx hb dL_law_1005 (lv_at hl 4 rfl) ?_
                  refine l_call (mc := 3) (ms := 18) C0 (As := [.ref x0, .int (zI k), .int (zI z_3)]) (rest := []) ⟨hx, hb, hml, hown, hts⟩ hP35 (c_L_drop l hfl D cI cO cL A eE mi sa g σ HP35 hP35.2.1 x0 hP35.1 hZ.1 k z_3 ⟨(by omega), (by omega)⟩) (vx_cwSW 3 hts gL_law_L_drop rfl rfl rfl (by decide +kernel) ⟨(Nat.le_of_ble_eq_true rfl), (Nat.le_of_ble_eq_true rfl)⟩) ⟨rfl, rfl⟩ rfl hl.1 rfl (Nat.le_of_ble_eq_true rfl) dL_law_1007 ⟨by show 110 + 250 * turn.toNat + 3 ≤ 675069; omega, by show 1500 + 1500 * turn.toNat + 18 ≤ 7076417; omega⟩ (fun z_36 g36 H36 locs36 aw36 hS36 => ?_)
                  have th36 : zth_drop σ k z_3 = 0 := by unfold zth_drop; rw [if_neg (by omega), if_neg (by omega)]
                  rw [if_pos th36] at hS36
                  obtain rfl := aw36.1 th36
                  refine z_top (b := 0) (by unfold zan_drop; rw [if_neg c_29]) ?_
                  refine lv_iload hx hb dL_law_1010 (lv_at hl 3 rfl) ?_
                  refine z_if_eq (tgt := 1020) hx hb dL_law_1012 (by decide) (by omega) (fun c_37 => ?_) (fun c_37 => ?_)
                  · exact absurd c_37 (by decide)
                  · refine lv_iload hx hb dL_law_1015 (lv_at hl 1 rfl) ?_
                    refine lv_goto (tgt := 1023) hx hb dL_law_1017 (by decide) ?_
                    refine z_same_ne (tgt := 1030) hx hb dL_law_1023 (by decide) ?_
                    refine z_iconst hx hb dL_law_1026 ?_
                    refine lv_goto (tgt := 1031) hx hb dL_law_1027 (by decide) ?_
                    refine lv_istore (lv' := [(13, .int (zI 1)), (21, .int (zI 0)), (20, .int (zI 0)), (19, .int (zI 0)), (18, .int (zI 1)), (17, .int (zI z_3)), (8, .int (zI (d + 1))), (0, .ref b), (1, .ref x0), (2, .ref (la 0)), (3, .ref (la 1)), (4, .ref (la 2)), (5, .ref (la 3)), (6, .ref (la 4)), (7, .ref (la 5)), (9, .int (zI turn)), (10, .int (zI v)), (11, .int (zI u)), (12, .int (zI k))]) hx hb dL_law_1031 hl (by decide) rfl (fun ls hl => ?_)
                    refine lv_goto (tgt := 1336) hx hb dL_law_1033 (by decide) ?_
                    have han : zan_drop σ k z_3 = 0 := by unfold zan_drop; rw [if_neg c_29]
                    have hXd : zst_drop σ k z_3 = zup (zdr σ k z_3) 21 0 (σ 21 0 + zan_drop σ k z_3) := by unfold zst_drop; rw [if_neg c_29]
                    exact W.widen (k := 110 + 250 * turn.toNat + 30) (n := 1500 + 1500 * turn.toNat + 200) (by omega) (by omega) (next (d + 1) _ _ _ _ _ ls (by omega) (zLaw_drop hZ th36) (by rw [hXd]; exact Rl_moved hT1 (by rw [han]; rfl)) hS36 (lv_sub hl [7, 8, 9, 10, 11, 12, 13, 14, 6, 15, 17, 0] rfl))
                · refine lv_iload hx hb dL_law_916 (lv_at hl 2 rfl) ?_
                  refine z_if_eq (tgt := 994) hx hb dL_law_918 (by decide) (by omega) (fun c_39 => ?_) (fun c_39 => ?_)
                  · refine lv_aload_n hx hb dL_law_994 rfl (lv_at hl 8 rfl) ?_
                    refine z_iconst hx hb dL_law_995 ?_
                    refine lv_dup2_11 hx hb dL_law_996 rfl rfl ?_
                    refine l_ald hx hb hK hP33.2.2.1 0 (by decide) (by show 0 ≤ 5 ∧ 5 < ((6 : Nat) : Int); omega) dL_law_997 ?_
                    refine z_top (b := (zdr σ k z_3) 21 0) (by rw [hT1.g5]) ?_
                    refine lv_iload hx hb dL_law_998 (lv_at hl 1 rfl) ?_
                    refine z_iadd hx hb dL_law_1000 ?_
                    refine l_put hx hb C0 hP33 0 (by decide) (by show 0 ≤ 5 ∧ 5 < ((6 : Nat) : Int); omega) dL_law_1001 (fun HP40 locsP40 hP40 => ?_)
                    refine lv_aload_n hx hb dL_law_1002 rfl (lv_at hl 7 rfl) ?_
                    refine lv_iload hx hb dL_law_1003 (lv_at hl 17 rfl) ?_
                    refine lv_iload hx hb dL_law_1005 (lv_at hl 4 rfl) ?_
                    refine l_call (mc := 3) (ms := 18) C0 (As := [.ref x0, .int (zI k), .int (zI z_3)]) (rest := []) ⟨hx, hb, hml, hown, hts⟩ hP40 (c_L_drop l hfl D cI cO cL A eE mi sa g σ HP40 hP40.2.1 x0 hP40.1 hZ.1 k z_3 ⟨(by omega), (by omega)⟩) (vx_cwSW 3 hts gL_law_L_drop rfl rfl rfl (by decide +kernel) ⟨(Nat.le_of_ble_eq_true rfl), (Nat.le_of_ble_eq_true rfl)⟩) ⟨rfl, rfl⟩ rfl hl.1 rfl (Nat.le_of_ble_eq_true rfl) dL_law_1007 ⟨by show 110 + 250 * turn.toNat + 3 ≤ 675069; omega, by show 1500 + 1500 * turn.toNat + 18 ≤ 7076417; omega⟩ (fun z_41 g41 H41 locs41 aw41 hS41 => ?_)
                    have th41 : zth_drop σ k z_3 = 0 := by unfold zth_drop; rw [if_neg (by omega), if_neg (by omega)]
                    rw [if_pos th41] at hS41
                    obtain rfl := aw41.1 th41
                    refine z_top (b := 0) (by unfold zan_drop; rw [if_neg c_29]) ?_
                    refine lv_iload hx hb dL_law_1010 (lv_at hl 3 rfl) ?_
                    refine z_if_eq (tgt := 1020) hx hb dL_law_1012 (by decide) (by omega) (fun c_42 => ?_) (fun c_42 => ?_)
                    · exact absurd c_42 (by decide)
                    · refine lv_iload hx hb dL_law_1015 (lv_at hl 1 rfl) ?_
                      refine lv_goto (tgt := 1023) hx hb dL_law_1017 (by decide) ?_
                      refine z_same_ne (tgt := 1030) hx hb dL_law_1023 (by decide) ?_
                      refine z_iconst hx hb dL_law_1026 ?_
                      refine lv_goto (tgt := 1031) hx hb dL_law_1027 (by decide) ?_
                      refine lv_istore (lv' := [(13, .int (zI 1)), (21, .int (zI 0)), (20, .int (zI 0)), (19, .int (zI 0)), (18, .int (zI 1)), (17, .int (zI z_3)), (8, .int (zI (d + 1))), (0, .ref b), (1, .ref x0), (2, .ref (la 0)), (3, .ref (la 1)), (4, .ref (la 2)), (5, .ref (la 3)), (6, .ref (la 4)), (7, .ref (la 5)), (9, .int (zI turn)), (10, .int (zI v)), (11, .int (zI u)), (12, .int (zI k))]) hx hb dL_law_1031 hl (by decide) rfl (fun ls hl => ?_)
                      refine lv_goto (tgt := 1336) hx hb dL_law_1033 (by decide) ?_
                      have han : zan_drop σ k z_3 = 0 := by unfold zan_drop; rw [if_neg c_29]
                      have hXd : zst_drop σ k z_3 = zup (zdr σ k z_3) 21 0 (σ 21 0 + zan_drop σ k z_3) := by unfold zst_drop; rw [if_neg c_29]
                      exact W.widen (k := 110 + 250 * turn.toNat + 30) (n := 1500 + 1500 * turn.toNat + 200) (by omega) (by omega) (next (d + 1) _ _ _ _ _ ls (by omega) (zLaw_drop hZ th41) (by rw [hXd]; exact Rl_moved hT1 (by rw [han]; rfl)) hS41 (lv_sub hl [7, 8, 9, 10, 11, 12, 13, 14, 6, 15, 17, 0] rfl))
                  · exact absurd c_39 (by decide)
              · refine z_bipush hx hb dL_law_888 (by decide +kernel) ?_
                refine lv_goto (tgt := 896) hx hb dL_law_890 (by decide) ?_
                refine l_m63 hx hb (by omega) dL_law_896 ?_
                refine l_and hx hb 5 (by decide +kernel) dL_law_897 (pC_r hI hB hkk) ?_
                refine z_top (b := pC σ k % 32) rfl ?_
                refine l_put hx hb C0 hS 3 (by decide) (by show 0 ≤ k ∧ k < ((10 : Nat) : Int); omega) dL_law_898 (fun HP44 locsP44 hP44 => ?_)
                refine lv_aload hx hb dL_law_899 (lv_at hl 12 rfl) ?_
                refine lv_iload hx hb dL_law_901 (lv_at hl 16 rfl) ?_
                refine z_iconst hx hb dL_law_903 ?_
                refine l_put hx hb C0 hP44 5 (by decide) (by show 0 ≤ k ∧ k < ((10 : Nat) : Int); omega) dL_law_904 (fun HP45 locsP45 hP45 => ?_)
                refine z_iconst hx hb dL_law_905 ?_
                refine lv_istore (lv' := [(21, .int (zI 0)), (20, .int (zI 0)), (19, .int (zI 0)), (18, .int (zI 1)), (17, .int (zI z_3)), (8, .int (zI (d + 1))), (0, .ref b), (1, .ref x0), (2, .ref (la 0)), (3, .ref (la 1)), (4, .ref (la 2)), (5, .ref (la 3)), (6, .ref (la 4)), (7, .ref (la 5)), (9, .int (zI turn)), (10, .int (zI v)), (11, .int (zI u)), (12, .int (zI k)), (13, .int (zI 1))]) hx hb dL_law_906 hl (by decide) rfl (fun ls hl => ?_)
                have hT1 : Rl (zup (zup τ 3 k (pC σ k % 32)) 5 k (-1)) (zdr σ k z_3) := Rl_dr hT hI hB hkk hw (by omega) (by first | rw [if_pos (by omega)] | rw [if_neg (by omega)]) (by rw [zup_t (t := 5) (t' := 3) (by decide), zup_s]) (by rw [zup_s]) (by intro t i h1; repeat (first | exact rfl | rw [zup_e2 (by omega)]))
                have n14 : (zdr σ k z_3) 14 0 = σ 14 0 := rfl
                refine lv_iload hx hb dL_law_908 (lv_at hl 0 rfl) ?_
                refine lv_aload_n hx hb dL_law_910 rfl (lv_at hl 8 rfl) ?_
                refine z_iconst hx hb dL_law_911 ?_
                refine l_ald hx hb hK hP45.2.2.1 0 (by decide) (by show 0 ≤ 4 ∧ 4 < ((6 : Nat) : Int); omega) dL_law_912 ?_
                refine z_top (b := (zdr σ k z_3) 14 0) (by rw [hT1.g4]) ?_
                refine z_icmp_ge (tgt := 994) hx hb dL_law_913 (by decide) (by omega) (fun c_46 => ?_) (fun c_46 => ?_)
                · refine lv_aload_n hx hb dL_law_994 rfl (lv_at hl 8 rfl) ?_
                  refine z_iconst hx hb dL_law_995 ?_
                  refine lv_dup2_11 hx hb dL_law_996 rfl rfl ?_
                  refine l_ald hx hb hK hP45.2.2.1 0 (by decide) (by show 0 ≤ 5 ∧ 5 < ((6 : Nat) : Int); omega) dL_law_997 ?_
                  refine z_top (b := (zdr σ k z_3) 21 0) (by rw [hT1.g5]) ?_
                  refine lv_iload hx hb dL_law_998 (lv_at hl 1 rfl) ?_
                  refine z_iadd hx hb dL_law_1000 ?_
                  refine l_put hx hb C0 hP45 0 (by decide) (by show 0 ≤ 5 ∧ 5 < ((6 : Nat) : Int); omega) dL_law_1001 (fun HP47 locsP47 hP47 => ?_)
                  refine lv_aload_n hx hb dL_law_1002 rfl (lv_at hl 7 rfl) ?_
                  refine lv_iload hx hb dL_law_1003 (lv_at hl 17 rfl) ?_
                  refine lv_iload hx hb dL_law_1005 (lv_at hl 4 rfl) ?_
                  refine l_call (mc := 3) (ms := 18) C0 (As := [.ref x0, .int (zI k), .int (zI z_3)]) (rest := []) ⟨hx, hb, hml, hown, hts⟩ hP47 (c_L_drop l hfl D cI cO cL A eE mi sa g σ HP47 hP47.2.1 x0 hP47.1 hZ.1 k z_3 ⟨(by omega), (by omega)⟩) (vx_cwSW 3 hts gL_law_L_drop rfl rfl rfl (by decide +kernel) ⟨(Nat.le_of_ble_eq_true rfl), (Nat.le_of_ble_eq_true rfl)⟩) ⟨rfl, rfl⟩ rfl hl.1 rfl (Nat.le_of_ble_eq_true rfl) dL_law_1007 ⟨by show 110 + 250 * turn.toNat + 3 ≤ 675069; omega, by show 1500 + 1500 * turn.toNat + 18 ≤ 7076417; omega⟩ (fun z_48 g48 H48 locs48 aw48 hS48 => ?_)
                  have th48 : zth_drop σ k z_3 = 0 := by unfold zth_drop; rw [if_neg (by omega), if_neg (by omega)]
                  rw [if_pos th48] at hS48
                  obtain rfl := aw48.1 th48
                  refine z_top (b := 0) (by unfold zan_drop; rw [if_neg c_29]) ?_
                  refine lv_iload hx hb dL_law_1010 (lv_at hl 3 rfl) ?_
                  refine z_if_eq (tgt := 1020) hx hb dL_law_1012 (by decide) (by omega) (fun c_49 => ?_) (fun c_49 => ?_)
                  · exact absurd c_49 (by decide)
                  · refine lv_iload hx hb dL_law_1015 (lv_at hl 1 rfl) ?_
                    refine lv_goto (tgt := 1023) hx hb dL_law_1017 (by decide) ?_
                    refine z_same_ne (tgt := 1030) hx hb dL_law_1023 (by decide) ?_
                    refine z_iconst hx hb dL_law_1026 ?_
                    refine lv_goto (tgt := 1031) hx hb dL_law_1027 (by decide) ?_
                    refine lv_istore (lv' := [(13, .int (zI 1)), (21, .int (zI 0)), (20, .int (zI 0)), (19, .int (zI 0)), (18, .int (zI 1)), (17, .int (zI z_3)), (8, .int (zI (d + 1))), (0, .ref b), (1, .ref x0), (2, .ref (la 0)), (3, .ref (la 1)), (4, .ref (la 2)), (5, .ref (la 3)), (6, .ref (la 4)), (7, .ref (la 5)), (9, .int (zI turn)), (10, .int (zI v)), (11, .int (zI u)), (12, .int (zI k))]) hx hb dL_law_1031 hl (by decide) rfl (fun ls hl => ?_)
                    refine lv_goto (tgt := 1336) hx hb dL_law_1033 (by decide) ?_
                    have han : zan_drop σ k z_3 = 0 := by unfold zan_drop; rw [if_neg c_29]
                    have hXd : zst_drop σ k z_3 = zup (zdr σ k z_3) 21 0 (σ 21 0 + zan_drop σ k z_3) := by unfold zst_drop; rw [if_neg c_29]
                    exact W.widen (k := 110 + 250 * turn.toNat + 30) (n := 1500 + 1500 * turn.toNat + 200) (by omega) (by omega) (next (d + 1) _ _ _ _ _ ls (by omega) (zLaw_drop hZ th48) (by rw [hXd]; exact Rl_moved hT1 (by rw [han]; rfl)) hS48 (lv_sub hl [7, 8, 9, 10, 11, 12, 13, 14, 6, 15, 17, 0] rfl))
                · refine lv_iload hx hb dL_law_916 (lv_at hl 2 rfl) ?_
                  refine z_if_eq (tgt := 994) hx hb dL_law_918 (by decide) (by omega) (fun c_51 => ?_) (fun c_51 => ?_)
                  · refine lv_aload_n hx hb dL_law_994 rfl (lv_at hl 8 rfl) ?_
                    refine z_iconst hx hb dL_law_995 ?_
                    refine lv_dup2_11 hx hb dL_law_996 rfl rfl ?_
                    refine l_ald hx hb hK hP45.2.2.1 0 (by decide) (by show 0 ≤ 5 ∧ 5 < ((6 : Nat) : Int); omega) dL_law_997 ?_
                    refine z_top (b := (zdr σ k z_3) 21 0) (by rw [hT1.g5]) ?_
                    refine lv_iload hx hb dL_law_998 (lv_at hl 1 rfl) ?_
                    refine z_iadd hx hb dL_law_1000 ?_
                    refine l_put hx hb C0 hP45 0 (by decide) (by show 0 ≤ 5 ∧ 5 < ((6 : Nat) : Int); omega) dL_law_1001 (fun HP52 locsP52 hP52 => ?_)
                    refine lv_aload_n hx hb dL_law_1002 rfl (lv_at hl 7 rfl) ?_
                    refine lv_iload hx hb dL_law_1003 (lv_at hl 17 rfl) ?_
                    refine lv_iload hx hb dL_law_1005 (lv_at hl 4 rfl) ?_
                    refine l_call (mc := 3) (ms := 18) C0 (As := [.ref x0, .int (zI k), .int (zI z_3)]) (rest := []) ⟨hx, hb, hml, hown, hts⟩ hP52 (c_L_drop l hfl D cI cO cL A eE mi sa g σ HP52 hP52.2.1 x0 hP52.1 hZ.1 k z_3 ⟨(by omega), (by omega)⟩) (vx_cwSW 3 hts gL_law_L_drop rfl rfl rfl (by decide +kernel) ⟨(Nat.le_of_ble_eq_true rfl), (Nat.le_of_ble_eq_true rfl)⟩) ⟨rfl, rfl⟩ rfl hl.1 rfl (Nat.le_of_ble_eq_true rfl) dL_law_1007 ⟨by show 110 + 250 * turn.toNat + 3 ≤ 675069; omega, by show 1500 + 1500 * turn.toNat + 18 ≤ 7076417; omega⟩ (fun z_53 g53 H53 locs53 aw53 hS53 => ?_)
                    have th53 : zth_drop σ k z_3 = 0 := by unfold zth_drop; rw [if_neg (by omega), if_neg (by omega)]
                    rw [if_pos th53] at hS53
                    obtain rfl := aw53.1 th53
                    refine z_top (b := 0) (by unfold zan_drop; rw [if_neg c_29]) ?_
                    refine lv_iload hx hb dL_law_1010 (lv_at hl 3 rfl) ?_
                    refine z_if_eq (tgt := 1020) hx hb dL_law_1012 (by decide) (by omega) (fun c_54 => ?_) (fun c_54 => ?_)
                    · exact absurd c_54 (by decide)
                    · refine lv_iload hx hb dL_law_1015 (lv_at hl 1 rfl) ?_
                      refine lv_goto (tgt := 1023) hx hb dL_law_1017 (by decide) ?_
                      refine z_same_ne (tgt := 1030) hx hb dL_law_1023 (by decide) ?_
                      refine z_iconst hx hb dL_law_1026 ?_
                      refine lv_goto (tgt := 1031) hx hb dL_law_1027 (by decide) ?_
                      refine lv_istore (lv' := [(13, .int (zI 1)), (21, .int (zI 0)), (20, .int (zI 0)), (19, .int (zI 0)), (18, .int (zI 1)), (17, .int (zI z_3)), (8, .int (zI (d + 1))), (0, .ref b), (1, .ref x0), (2, .ref (la 0)), (3, .ref (la 1)), (4, .ref (la 2)), (5, .ref (la 3)), (6, .ref (la 4)), (7, .ref (la 5)), (9, .int (zI turn)), (10, .int (zI v)), (11, .int (zI u)), (12, .int (zI k))]) hx hb dL_law_1031 hl (by decide) rfl (fun ls hl => ?_)
                      refine lv_goto (tgt := 1336) hx hb dL_law_1033 (by decide) ?_
                      have han : zan_drop σ k z_3 = 0 := by unfold zan_drop; rw [if_neg c_29]
                      have hXd : zst_drop σ k z_3 = zup (zdr σ k z_3) 21 0 (σ 21 0 + zan_drop σ k z_3) := by unfold zst_drop; rw [if_neg c_29]
                      exact W.widen (k := 110 + 250 * turn.toNat + 30) (n := 1500 + 1500 * turn.toNat + 200) (by omega) (by omega) (next (d + 1) _ _ _ _ _ ls (by omega) (zLaw_drop hZ th53) (by rw [hXd]; exact Rl_moved hT1 (by rw [han]; rfl)) hS53 (lv_sub hl [7, 8, 9, 10, 11, 12, 13, 14, 6, 15, 17, 0] rfl))
                  · exact absurd c_51 (by decide)
          · refine z_iconst hx hb dL_law_850 ?_
            refine lv_goto (tgt := 855) hx hb dL_law_851 (by decide) ?_
            refine lv_istore (lv' := [(19, .int (zI 1)), (18, .int (zI 1)), (17, .int (zI z_3)), (8, .int (zI (d + 1))), (0, .ref b), (1, .ref x0), (2, .ref (la 0)), (3, .ref (la 1)), (4, .ref (la 2)), (5, .ref (la 3)), (6, .ref (la 4)), (7, .ref (la 5)), (9, .int (zI turn)), (10, .int (zI v)), (11, .int (zI u)), (12, .int (zI k)), (13, .int (zI 1))]) hx hb dL_law_855 hl (by decide) rfl (fun ls hl => ?_)
            refine z_iconst hx hb dL_law_857 ?_
            refine lv_istore (lv' := [(20, .int (zI 0)), (19, .int (zI 1)), (18, .int (zI 1)), (17, .int (zI z_3)), (8, .int (zI (d + 1))), (0, .ref b), (1, .ref x0), (2, .ref (la 0)), (3, .ref (la 1)), (4, .ref (la 2)), (5, .ref (la 3)), (6, .ref (la 4)), (7, .ref (la 5)), (9, .int (zI turn)), (10, .int (zI v)), (11, .int (zI u)), (12, .int (zI k)), (13, .int (zI 1))]) hx hb dL_law_858 hl (by decide) rfl (fun ls hl => ?_)
            refine lv_iload hx hb dL_law_860 (lv_at hl 2 rfl) ?_
            refine z_if_eq (tgt := 1002) hx hb dL_law_862 (by decide) (by omega) (fun c_56 => ?_) (fun c_56 => ?_)
            · exact absurd c_56 (by decide)
            · refine lv_aload hx hb dL_law_865 (lv_at hl 10 rfl) ?_
              refine lv_iload hx hb dL_law_867 (lv_at hl 16 rfl) ?_
              refine lv_dup2_11 hx hb dL_law_869 rfl rfl ?_
              refine l_ald hx hb hK hS.2.2.1 3 (by decide) (by show 0 ≤ k ∧ k < ((10 : Nat) : Int); omega) dL_law_870 ?_
              refine z_top (b := pC σ k) (by rw [hT.c (i := k) (by omega)]) ?_
              refine z_bipush hx hb dL_law_871 (by decide +kernel) ?_
              refine lv_iload hx hb dL_law_873 (lv_at hl 3 rfl) ?_
              refine l_shl8 hx hb hw dL_law_875 ?_
              refine z_iconst hx hb dL_law_876 ?_
              refine l_not8 hx hb hw dL_law_877 ?_
              refine z_sipush hx hb dL_law_878 (by decide +kernel) ?_
              refine l_not9 hx hb hw dL_law_881 ?_
              refine lv_iload hx hb dL_law_882 (lv_at hl 3 rfl) ?_
              refine z_iconst hx hb dL_law_884 ?_
              refine z_icmp_ne (tgt := 893) hx hb dL_law_885 (by decide) (by omega) (fun c_57 => ?_) (fun c_57 => ?_)
              · refine z_sipush hx hb dL_law_893 (by decide +kernel) ?_
                refine l_m1023 hx hb hw dL_law_896 ?_
                refine l_clr1 hx hb (zC1024 (n := 3) hI hB hkk (by omega)) (by omega) (by rw [pC_i hI hB hkk]; omega) dL_law_897 ?_
                refine l_put hx hb C0 hS 3 (by decide) (by show 0 ≤ k ∧ k < ((10 : Nat) : Int); omega) dL_law_898 (fun HP58 locsP58 hP58 => ?_)
                refine lv_aload hx hb dL_law_899 (lv_at hl 12 rfl) ?_
                refine lv_iload hx hb dL_law_901 (lv_at hl 16 rfl) ?_
                refine z_iconst hx hb dL_law_903 ?_
                refine l_put hx hb C0 hP58 5 (by decide) (by show 0 ≤ k ∧ k < ((10 : Nat) : Int); omega) dL_law_904 (fun HP59 locsP59 hP59 => ?_)
                refine z_iconst hx hb dL_law_905 ?_
                refine lv_istore (lv' := [(21, .int (zI 0)), (20, .int (zI 0)), (19, .int (zI 1)), (18, .int (zI 1)), (17, .int (zI z_3)), (8, .int (zI (d + 1))), (0, .ref b), (1, .ref x0), (2, .ref (la 0)), (3, .ref (la 1)), (4, .ref (la 2)), (5, .ref (la 3)), (6, .ref (la 4)), (7, .ref (la 5)), (9, .int (zI turn)), (10, .int (zI v)), (11, .int (zI u)), (12, .int (zI k)), (13, .int (zI 1))]) hx hb dL_law_906 hl (by decide) rfl (fun ls hl => ?_)
                have hT1 : Rl (zup (zup τ 3 k (pC σ k % 1024 - 8 * zPw z_3)) 5 k (-1)) (zdr σ k z_3) := Rl_dr hT hI hB hkk hw (by omega) (by first | rw [if_pos (by omega)] | rw [if_neg (by omega)]) (by rw [zup_t (t := 5) (t' := 3) (by decide), zup_s]) (by rw [zup_s]) (by intro t i h1; repeat (first | exact rfl | rw [zup_e2 (by omega)]))
                refine z_cap (fun WW_hLd wi_hLd wo_hLd => ?_)
                have hLd : ∀ (nN : Nat) (mv i : Int) (ls : Array Slot) (τi : zT) (HL : Heap) (locsL : List Loc), mv = (zDrops (zdr σ k z_3) i.toNat).2 → (0 ≤ i ∧ i ≤ σ 14 0) → Rl τi (zDrops (zdr σ k z_3) i.toNat).1 → zLV D cI cO A eE x0 la s h3 τi σ g HL locsL → (σ 14 0 - i).toNat < nN → lv_has ls 25 [(19, .int (zI 1)), (18, .int (zI 1)), (17, .int (zI z_3)), (8, .int (zI (d + 1))), (0, .ref b), (1, .ref x0), (2, .ref (la 0)), (3, .ref (la 1)), (4, .ref (la 2)), (5, .ref (la 3)), (6, .ref (la 4)), (7, .ref (la 5)), (9, .int (zI turn)), (11, .int (zI u)), (12, .int (zI k)), (13, .int (zI 1)), (20, .int (zI mv)), (21, .int (zI i))] → WW_hLd HL locsL (110 + 250 * turn.toNat) (1500 + 1500 * turn.toNat) (F0 m 908 ls []) := by
                  intro n_hLd
                  induction n_hLd with
                  | zero => intro mv i ls τi HL locsL hmv hi hTL hSL hm; exact absurd hm (Nat.not_lt_zero _)
                  | succ n_hLd ih_hLd =>
                    intro mv i ls τi HL locsL hmv hi hTL hSL hm hl
                    refine wi_hLd _ _ _ _ _ ?_
                    obtain ⟨ρ, hρ⟩ : ∃ ρ, (zDrops (zdr σ k z_3) i.toNat).1 = ρ := ⟨_, rfl⟩
                    rw [hρ] at hTL
                    have n14 : ρ 14 0 = σ 14 0 := by rw [← hρ]; exact zDrops_o (by decide) (by decide) _
                    have n21 : ρ 21 0 = σ 21 0 := by rw [← hρ]; exact zDrops_o (by decide) (by decide) _
                    have hIρ : zInv ρ := by rw [← hρ]; exact zInv_drops (zInv_dr hI hkk hw) _ (by rw [zdr_14]; omega)
                    have hBρ : zB ρ := by rw [← hρ]; exact zB_drops (zB_dr hB k z_3) _
                    have f0ρ := hIρ.r
                    refine lv_iload hx hb dL_law_908 (lv_at hl 17 rfl) ?_
                    refine lv_aload_n hx hb dL_law_910 rfl (lv_at hl 6 rfl) ?_
                    refine z_iconst hx hb dL_law_911 ?_
                    refine l_ald hx hb hK hSL.2.2.1 0 (by decide) (by show 0 ≤ 4 ∧ 4 < ((6 : Nat) : Int); omega) dL_law_912 ?_
                    refine z_top (b := ρ 14 0) (by rw [hTL.g4]) ?_
                    refine z_icmp_ge (tgt := 994) hx hb dL_law_913 (by decide) (by omega) (fun c_60 => ?_) (fun c_60 => ?_)
                    · refine lv_aload_n hx hb dL_law_994 rfl (lv_at hl 6 rfl) ?_
                      refine z_iconst hx hb dL_law_995 ?_
                      refine lv_dup2_11 hx hb dL_law_996 rfl rfl ?_
                      refine l_ald hx hb hK hSL.2.2.1 0 (by decide) (by show 0 ≤ 5 ∧ 5 < ((6 : Nat) : Int); omega) dL_law_997 ?_
                      refine z_top (b := ρ 21 0) (by rw [hTL.g5]) ?_
                      refine lv_iload hx hb dL_law_998 (lv_at hl 16 rfl) ?_
                      refine z_iadd hx hb dL_law_1000 ?_
                      refine l_put hx hb C0 hSL 0 (by decide) (by show 0 ≤ 5 ∧ 5 < ((6 : Nat) : Int); omega) dL_law_1001 (fun HP61 locsP61 hP61 => ?_)
                      refine lv_aload_n hx hb dL_law_1002 rfl (lv_at hl 5 rfl) ?_
                      refine lv_iload hx hb dL_law_1003 (lv_at hl 14 rfl) ?_
                      refine lv_iload hx hb dL_law_1005 (lv_at hl 2 rfl) ?_
                      refine l_call (mc := 3) (ms := 18) C0 (As := [.ref x0, .int (zI k), .int (zI z_3)]) (rest := []) ⟨hx, hb, hml, hown, hts⟩ hP61 (c_L_drop l hfl D cI cO cL A eE mi sa g σ HP61 hP61.2.1 x0 hP61.1 hZ.1 k z_3 ⟨(by omega), (by omega)⟩) (vx_cwSW 3 hts gL_law_L_drop rfl rfl rfl (by decide +kernel) ⟨(Nat.le_of_ble_eq_true rfl), (Nat.le_of_ble_eq_true rfl)⟩) ⟨rfl, rfl⟩ rfl hl.1 rfl (Nat.le_of_ble_eq_true rfl) dL_law_1007 ⟨by show 110 + 250 * turn.toNat + 3 ≤ 675069; omega, by show 1500 + 1500 * turn.toNat + 18 ≤ 7076417; omega⟩ (fun z_62 g62 H62 locs62 aw62 hS62 => ?_)
                      have th62 : zth_drop σ k z_3 = 0 := by unfold zth_drop; rw [if_neg (by omega), if_neg (by omega)]
                      rw [if_pos th62] at hS62
                      obtain rfl := aw62.1 th62
                      refine z_top (b := mv) (by unfold zan_drop; rw [if_pos c_29, hmv, show i = σ 14 0 by omega]) ?_
                      refine lv_iload hx hb dL_law_1010 (lv_at hl 1 rfl) ?_
                      refine z_if_eq (tgt := 1020) hx hb dL_law_1012 (by decide) (by omega) (fun c_63 => ?_) (fun c_63 => ?_)
                      · exact absurd c_63 (by decide)
                      · refine lv_iload hx hb dL_law_1015 (lv_at hl 16 rfl) ?_
                        refine lv_goto (tgt := 1023) hx hb dL_law_1017 (by decide) ?_
                        refine z_same_ne (tgt := 1030) hx hb dL_law_1023 (by decide) ?_
                        refine z_iconst hx hb dL_law_1026 ?_
                        refine lv_goto (tgt := 1031) hx hb dL_law_1027 (by decide) ?_
                        refine lv_istore (lv' := [(13, .int (zI 1)), (19, .int (zI 1)), (18, .int (zI 1)), (17, .int (zI z_3)), (8, .int (zI (d + 1))), (0, .ref b), (1, .ref x0), (2, .ref (la 0)), (3, .ref (la 1)), (4, .ref (la 2)), (5, .ref (la 3)), (6, .ref (la 4)), (7, .ref (la 5)), (9, .int (zI turn)), (11, .int (zI u)), (12, .int (zI k)), (20, .int (zI mv)), (21, .int (zI i))]) hx hb dL_law_1031 hl (by decide) rfl (fun ls hl => ?_)
                        refine lv_goto (tgt := 1336) hx hb dL_law_1033 (by decide) ?_
                        have han : zan_drop σ k z_3 = mv := by unfold zan_drop; rw [if_pos c_29, hmv, show i = σ 14 0 by omega]
                        have hXd : zst_drop σ k z_3 = zup ρ 21 0 (σ 21 0 + zan_drop σ k z_3) := by unfold zst_drop; rw [if_pos c_29, ← show i = σ 14 0 by omega, hρ]
                        exact W.widen (k := 110 + 250 * turn.toNat + 30) (n := 1500 + 1500 * turn.toNat + 200) (by omega) (by omega) (next (d + 1) _ _ _ _ _ ls (by omega) (zLaw_drop hZ th62) (by rw [hXd]; exact Rl_moved hTL (by rw [han]; omega)) hS62 (lv_sub hl [5, 6, 7, 8, 9, 10, 11, 12, 4, 13, 14, 0] rfl))
                    · have fi := hIρ.c (i := i) (by omega)
                      refine lv_iload hx hb dL_law_916 (lv_at hl 0 rfl) ?_
                      refine z_if_eq (tgt := 994) hx hb dL_law_918 (by decide) (by omega) (fun c_65 => ?_) (fun c_65 => ?_)
                      · exact absurd c_65 (by decide)
                      · refine lv_aload hx hb dL_law_921 (lv_at hl 9 rfl) ?_
                        refine lv_iload hx hb dL_law_923 (lv_at hl 17 rfl) ?_
                        refine l_ald hx hb hK hSL.2.2.1 3 (by decide) (by show 0 ≤ i ∧ i < ((10 : Nat) : Int); omega) dL_law_925 ?_
                        refine z_top (b := pC ρ i) (by rw [hTL.c (i := i) (by omega)]) ?_
                        refine z_cs (As := [.int (zI (pC ρ i))]) (rest := []) ⟨hx, hb, hml, hown, hts⟩ (c_L_stateOf l D cI cO cL HL (pC ρ i) (pC_r hIρ hBρ (i := i) (by omega))) (va_cwS 1 hts gL_law_L_stateOf rfl rfl rfl (by decide +kernel) ⟨(Nat.le_of_ble_eq_true rfl), (Nat.le_of_ble_eq_true rfl)⟩) (zKK_mv D cI cO cL) (fun U _ hv => va_K.moved hv hK) rfl hl.1 rfl (Nat.le_of_ble_eq_true rfl) dL_law_926 ⟨by show 110 + 250 * turn.toNat ≤ 675069; omega, by show 1500 + 1500 * turn.toNat ≤ 7076417; omega⟩ (fun r_66 hr_66 => ?_)
                        rw [hr_66, pC_t hIρ hBρ (i := i) (by omega)]
                        refine z_iconst hx hb dL_law_929 ?_
                        refine z_icmp_eq (tgt := 948) hx hb dL_law_930 (by decide) (by omega) (fun c_67 => ?_) (fun c_67 => ?_)
                        · refine lv_aload hx hb dL_law_948 (lv_at hl 11 rfl) ?_
                          refine lv_iload hx hb dL_law_950 (lv_at hl 17 rfl) ?_
                          refine l_ald hx hb hK hSL.2.2.1 5 (by decide) (by show 0 ≤ i ∧ i < ((10 : Nat) : Int); omega) dL_law_952 ?_
                          refine z_top (b := ρ 20 i) (by rw [hTL.t (i := i) (by omega)]) ?_
                          refine lv_istore (lv' := [(22, .int (zI (ρ 20 i))), (19, .int (zI 1)), (18, .int (zI 1)), (17, .int (zI z_3)), (8, .int (zI (d + 1))), (0, .ref b), (1, .ref x0), (2, .ref (la 0)), (3, .ref (la 1)), (4, .ref (la 2)), (5, .ref (la 3)), (6, .ref (la 4)), (7, .ref (la 5)), (9, .int (zI turn)), (11, .int (zI u)), (12, .int (zI k)), (13, .int (zI 1)), (20, .int (zI mv)), (21, .int (zI i))]) hx hb dL_law_953 hl (by decide) rfl (fun ls hl => ?_)
                          refine lv_iload hx hb dL_law_955 (lv_at hl 18 rfl) ?_
                          refine lv_aload_n hx hb dL_law_957 rfl (lv_at hl 7 rfl) ?_
                          refine lv_aload_n hx hb dL_law_958 rfl (lv_at hl 8 rfl) ?_
                          refine lv_aload hx hb dL_law_959 (lv_at hl 10 rfl) ?_
                          refine lv_aload hx hb dL_law_961 (lv_at hl 11 rfl) ?_
                          refine lv_aload hx hb dL_law_963 (lv_at hl 12 rfl) ?_
                          refine l_looks C0 (As := [.int (zI i), .ref (la 0), .ref (la 1), .ref (la 3), .ref (la 4), .ref (la 5)]) (rest := []) ⟨hx, hb, hml, hown, hts⟩ hSL (c_L_looks l D cI cO cL la hM τi ρ HL hSL.2.2.1 i hIρ hBρ hTL (by omega)) (va_cwS 6 hts gL_law_L_looks rfl rfl rfl (by decide +kernel) ⟨(Nat.le_of_ble_eq_true rfl), (Nat.le_of_ble_eq_true rfl)⟩) rfl hl.1 rfl (Nat.le_of_ble_eq_true rfl) dL_law_965 ⟨by show 110 + 250 * turn.toNat ≤ 675069; omega, by show 1500 + 1500 * turn.toNat ≤ 7076417; omega⟩ (fun τK68 HK68 locsK68 hpK68 hK68 => ?_)
                          have n14b : zLook ρ i 14 0 = ρ 14 0 := zLook_o (by decide) (by decide)
                          have flk := (zInv_look hIρ (k := i) (by omega)).c (i := i) (by omega)
                          refine lv_iload hx hb dL_law_968 (lv_at hl 17 rfl) ?_
                          refine lv_aload hx hb dL_law_970 (lv_at hl 12 rfl) ?_
                          refine lv_iload hx hb dL_law_972 (lv_at hl 18 rfl) ?_
                          refine l_ald hx hb hK hK68.2.2.1 5 (by decide) (by show 0 ≤ i ∧ i < ((10 : Nat) : Int); omega) dL_law_974 ?_
                          refine z_top (b := (zLook ρ i) 20 i) (by rw [hpK68.t (i := i) (by omega)]) ?_
                          refine lv_iload hx hb dL_law_975 (lv_at hl 0 rfl) ?_
                          refine z_icmp_ne (tgt := 984) hx hb dL_law_977 (by decide) (by omega) (fun c_69 => ?_) (fun c_69 => ?_)
                          · refine z_iconst hx hb dL_law_984 ?_
                            refine z_iadd hx hb dL_law_985 ?_
                            refine lv_istore (lv' := [(20, .int (zI (mv + 1))), (22, .int (zI (ρ 20 i))), (19, .int (zI 1)), (18, .int (zI 1)), (17, .int (zI z_3)), (8, .int (zI (d + 1))), (0, .ref b), (1, .ref x0), (2, .ref (la 0)), (3, .ref (la 1)), (4, .ref (la 2)), (5, .ref (la 3)), (6, .ref (la 4)), (7, .ref (la 5)), (9, .int (zI turn)), (11, .int (zI u)), (12, .int (zI k)), (13, .int (zI 1)), (21, .int (zI i))]) hx hb dL_law_986 hl (by decide) rfl (fun ls hl => ?_)
                            refine z_iinc (lv' := [(21, .int (zI (i + 1))), (20, .int (zI (mv + 1))), (22, .int (zI (ρ 20 i))), (19, .int (zI 1)), (18, .int (zI 1)), (17, .int (zI z_3)), (8, .int (zI (d + 1))), (0, .ref b), (1, .ref x0), (2, .ref (la 0)), (3, .ref (la 1)), (4, .ref (la 2)), (5, .ref (la 3)), (6, .ref (la 4)), (7, .ref (la 5)), (9, .int (zI turn)), (11, .int (zI u)), (12, .int (zI k)), (13, .int (zI 1))]) hx hb dL_law_988 hl (k := 18) rfl (by decide) rfl (fun ls hl => ?_)
                            refine lv_goto (tgt := 908) hx hb dL_law_991 (by decide) ?_
                            exact wo_hLd _ _ _ _ _ (ih_hLd (mv + 1) (i + 1) ls _ _ _ (by rw [zDrops_i _ hi.1, if_pos (by rw [hρ]; omega), hρ]; show _ = (zDrops (zdr σ k z_3) i.toNat).2 + (if zLook ρ i 20 i = ρ 20 i then 0 else 1); first | (rw [if_pos (by assumption)]; omega) | (rw [if_neg (by assumption)]; omega)) (by omega) (by rw [zDrops_i _ hi.1, if_pos (by rw [hρ]; omega), hρ]; exact hpK68) (hK68) (by omega) (lv_sub hl [3, 4, 5, 6, 7, 8, 9, 10, 11, 12, 13, 14, 15, 16, 17, 18, 1, 0] rfl))
                          · refine z_iconst hx hb dL_law_980 ?_
                            refine lv_goto (tgt := 985) hx hb dL_law_981 (by decide) ?_
                            refine z_iadd hx hb dL_law_985 ?_
                            refine lv_istore (lv' := [(20, .int (zI (mv + 0))), (22, .int (zI (ρ 20 i))), (19, .int (zI 1)), (18, .int (zI 1)), (17, .int (zI z_3)), (8, .int (zI (d + 1))), (0, .ref b), (1, .ref x0), (2, .ref (la 0)), (3, .ref (la 1)), (4, .ref (la 2)), (5, .ref (la 3)), (6, .ref (la 4)), (7, .ref (la 5)), (9, .int (zI turn)), (11, .int (zI u)), (12, .int (zI k)), (13, .int (zI 1)), (21, .int (zI i))]) hx hb dL_law_986 hl (by decide) rfl (fun ls hl => ?_)
                            refine z_iinc (lv' := [(21, .int (zI (i + 1))), (20, .int (zI (mv + 0))), (22, .int (zI (ρ 20 i))), (19, .int (zI 1)), (18, .int (zI 1)), (17, .int (zI z_3)), (8, .int (zI (d + 1))), (0, .ref b), (1, .ref x0), (2, .ref (la 0)), (3, .ref (la 1)), (4, .ref (la 2)), (5, .ref (la 3)), (6, .ref (la 4)), (7, .ref (la 5)), (9, .int (zI turn)), (11, .int (zI u)), (12, .int (zI k)), (13, .int (zI 1))]) hx hb dL_law_988 hl (k := 18) rfl (by decide) rfl (fun ls hl => ?_)
                            refine lv_goto (tgt := 908) hx hb dL_law_991 (by decide) ?_
                            exact wo_hLd _ _ _ _ _ (ih_hLd (mv + 0) (i + 1) ls _ _ _ (by rw [zDrops_i _ hi.1, if_pos (by rw [hρ]; omega), hρ]; show _ = (zDrops (zdr σ k z_3) i.toNat).2 + (if zLook ρ i 20 i = ρ 20 i then 0 else 1); first | (rw [if_pos (by assumption)]; omega) | (rw [if_neg (by assumption)]; omega)) (by omega) (by rw [zDrops_i _ hi.1, if_pos (by rw [hρ]; omega), hρ]; exact hpK68) (hK68) (by omega) (lv_sub hl [3, 4, 5, 6, 7, 8, 9, 10, 11, 12, 13, 14, 15, 16, 17, 18, 1, 0] rfl))
                        · refine lv_aload hx hb dL_law_933 (lv_at hl 9 rfl) ?_
                          refine lv_iload hx hb dL_law_935 (lv_at hl 17 rfl) ?_
                          refine l_ald hx hb hK hSL.2.2.1 3 (by decide) (by show 0 ≤ i ∧ i < ((10 : Nat) : Int); omega) dL_law_937 ?_
                          refine z_top (b := pC ρ i) (by rw [hTL.c (i := i) (by omega)]) ?_
                          refine z_cs (As := [.int (zI (pC ρ i))]) (rest := []) ⟨hx, hb, hml, hown, hts⟩ (c_L_stateOf l D cI cO cL HL (pC ρ i) (pC_r hIρ hBρ (i := i) (by omega))) (va_cwS 1 hts gL_law_L_stateOf rfl rfl rfl (by decide +kernel) ⟨(Nat.le_of_ble_eq_true rfl), (Nat.le_of_ble_eq_true rfl)⟩) (zKK_mv D cI cO cL) (fun U _ hv => va_K.moved hv hK) rfl hl.1 rfl (Nat.le_of_ble_eq_true rfl) dL_law_938 ⟨by show 110 + 250 * turn.toNat ≤ 675069; omega, by show 1500 + 1500 * turn.toNat ≤ 7076417; omega⟩ (fun r_70 hr_70 => ?_)
                          rw [hr_70, pC_t hIρ hBρ (i := i) (by omega)]
                          refine z_iconst hx hb dL_law_941 ?_
                          refine z_icmp_eq (tgt := 948) hx hb dL_law_942 (by decide) (by omega) (fun c_71 => ?_) (fun c_71 => ?_)
                          · refine lv_aload hx hb dL_law_948 (lv_at hl 11 rfl) ?_
                            refine lv_iload hx hb dL_law_950 (lv_at hl 17 rfl) ?_
                            refine l_ald hx hb hK hSL.2.2.1 5 (by decide) (by show 0 ≤ i ∧ i < ((10 : Nat) : Int); omega) dL_law_952 ?_
                            refine z_top (b := ρ 20 i) (by rw [hTL.t (i := i) (by omega)]) ?_
                            refine lv_istore (lv' := [(22, .int (zI (ρ 20 i))), (19, .int (zI 1)), (18, .int (zI 1)), (17, .int (zI z_3)), (8, .int (zI (d + 1))), (0, .ref b), (1, .ref x0), (2, .ref (la 0)), (3, .ref (la 1)), (4, .ref (la 2)), (5, .ref (la 3)), (6, .ref (la 4)), (7, .ref (la 5)), (9, .int (zI turn)), (11, .int (zI u)), (12, .int (zI k)), (13, .int (zI 1)), (20, .int (zI mv)), (21, .int (zI i))]) hx hb dL_law_953 hl (by decide) rfl (fun ls hl => ?_)
                            refine lv_iload hx hb dL_law_955 (lv_at hl 18 rfl) ?_
                            refine lv_aload_n hx hb dL_law_957 rfl (lv_at hl 7 rfl) ?_
                            refine lv_aload_n hx hb dL_law_958 rfl (lv_at hl 8 rfl) ?_
                            refine lv_aload hx hb dL_law_959 (lv_at hl 10 rfl) ?_
                            refine lv_aload hx hb dL_law_961 (lv_at hl 11 rfl) ?_
                            refine lv_aload hx hb dL_law_963 (lv_at hl 12 rfl) ?_
                            refine l_looks C0 (As := [.int (zI i), .ref (la 0), .ref (la 1), .ref (la 3), .ref (la 4), .ref (la 5)]) (rest := []) ⟨hx, hb, hml, hown, hts⟩ hSL (c_L_looks l D cI cO cL la hM τi ρ HL hSL.2.2.1 i hIρ hBρ hTL (by omega)) (va_cwS 6 hts gL_law_L_looks rfl rfl rfl (by decide +kernel) ⟨(Nat.le_of_ble_eq_true rfl), (Nat.le_of_ble_eq_true rfl)⟩) rfl hl.1 rfl (Nat.le_of_ble_eq_true rfl) dL_law_965 ⟨by show 110 + 250 * turn.toNat ≤ 675069; omega, by show 1500 + 1500 * turn.toNat ≤ 7076417; omega⟩ (fun τK72 HK72 locsK72 hpK72 hK72 => ?_)
                            have n14b : zLook ρ i 14 0 = ρ 14 0 := zLook_o (by decide) (by decide)
                            have flk := (zInv_look hIρ (k := i) (by omega)).c (i := i) (by omega)
                            refine lv_iload hx hb dL_law_968 (lv_at hl 17 rfl) ?_
                            refine lv_aload hx hb dL_law_970 (lv_at hl 12 rfl) ?_
                            refine lv_iload hx hb dL_law_972 (lv_at hl 18 rfl) ?_
                            refine l_ald hx hb hK hK72.2.2.1 5 (by decide) (by show 0 ≤ i ∧ i < ((10 : Nat) : Int); omega) dL_law_974 ?_
                            refine z_top (b := (zLook ρ i) 20 i) (by rw [hpK72.t (i := i) (by omega)]) ?_
                            refine lv_iload hx hb dL_law_975 (lv_at hl 0 rfl) ?_
                            refine z_icmp_ne (tgt := 984) hx hb dL_law_977 (by decide) (by omega) (fun c_73 => ?_) (fun c_73 => ?_)
                            · refine z_iconst hx hb dL_law_984 ?_
                              refine z_iadd hx hb dL_law_985 ?_
                              refine lv_istore (lv' := [(20, .int (zI (mv + 1))), (22, .int (zI (ρ 20 i))), (19, .int (zI 1)), (18, .int (zI 1)), (17, .int (zI z_3)), (8, .int (zI (d + 1))), (0, .ref b), (1, .ref x0), (2, .ref (la 0)), (3, .ref (la 1)), (4, .ref (la 2)), (5, .ref (la 3)), (6, .ref (la 4)), (7, .ref (la 5)), (9, .int (zI turn)), (11, .int (zI u)), (12, .int (zI k)), (13, .int (zI 1)), (21, .int (zI i))]) hx hb dL_law_986 hl (by decide) rfl (fun ls hl => ?_)
                              refine z_iinc (lv' := [(21, .int (zI (i + 1))), (20, .int (zI (mv + 1))), (22, .int (zI (ρ 20 i))), (19, .int (zI 1)), (18, .int (zI 1)), (17, .int (zI z_3)), (8, .int (zI (d + 1))), (0, .ref b), (1, .ref x0), (2, .ref (la 0)), (3, .ref (la 1)), (4, .ref (la 2)), (5, .ref (la 3)), (6, .ref (la 4)), (7, .ref (la 5)), (9, .int (zI turn)), (11, .int (zI u)), (12, .int (zI k)), (13, .int (zI 1))]) hx hb dL_law_988 hl (k := 18) rfl (by decide) rfl (fun ls hl => ?_)
                              refine lv_goto (tgt := 908) hx hb dL_law_991 (by decide) ?_
                              exact wo_hLd _ _ _ _ _ (ih_hLd (mv + 1) (i + 1) ls _ _ _ (by rw [zDrops_i _ hi.1, if_pos (by rw [hρ]; omega), hρ]; show _ = (zDrops (zdr σ k z_3) i.toNat).2 + (if zLook ρ i 20 i = ρ 20 i then 0 else 1); first | (rw [if_pos (by assumption)]; omega) | (rw [if_neg (by assumption)]; omega)) (by omega) (by rw [zDrops_i _ hi.1, if_pos (by rw [hρ]; omega), hρ]; exact hpK72) (hK72) (by omega) (lv_sub hl [3, 4, 5, 6, 7, 8, 9, 10, 11, 12, 13, 14, 15, 16, 17, 18, 1, 0] rfl))
                            · refine z_iconst hx hb dL_law_980 ?_
                              refine lv_goto (tgt := 985) hx hb dL_law_981 (by decide) ?_
                              refine z_iadd hx hb dL_law_985 ?_
                              refine lv_istore (lv' := [(20, .int (zI (mv + 0))), (22, .int (zI (ρ 20 i))), (19, .int (zI 1)), (18, .int (zI 1)), (17, .int (zI z_3)), (8, .int (zI (d + 1))), (0, .ref b), (1, .ref x0), (2, .ref (la 0)), (3, .ref (la 1)), (4, .ref (la 2)), (5, .ref (la 3)), (6, .ref (la 4)), (7, .ref (la 5)), (9, .int (zI turn)), (11, .int (zI u)), (12, .int (zI k)), (13, .int (zI 1)), (21, .int (zI i))]) hx hb dL_law_986 hl (by decide) rfl (fun ls hl => ?_)
                              refine z_iinc (lv' := [(21, .int (zI (i + 1))), (20, .int (zI (mv + 0))), (22, .int (zI (ρ 20 i))), (19, .int (zI 1)), (18, .int (zI 1)), (17, .int (zI z_3)), (8, .int (zI (d + 1))), (0, .ref b), (1, .ref x0), (2, .ref (la 0)), (3, .ref (la 1)), (4, .ref (la 2)), (5, .ref (la 3)), (6, .ref (la 4)), (7, .ref (la 5)), (9, .int (zI turn)), (11, .int (zI u)), (12, .int (zI k)), (13, .int (zI 1))]) hx hb dL_law_988 hl (k := 18) rfl (by decide) rfl (fun ls hl => ?_)
                              refine lv_goto (tgt := 908) hx hb dL_law_991 (by decide) ?_
                              exact wo_hLd _ _ _ _ _ (ih_hLd (mv + 0) (i + 1) ls _ _ _ (by rw [zDrops_i _ hi.1, if_pos (by rw [hρ]; omega), hρ]; show _ = (zDrops (zdr σ k z_3) i.toNat).2 + (if zLook ρ i 20 i = ρ 20 i then 0 else 1); first | (rw [if_pos (by assumption)]; omega) | (rw [if_neg (by assumption)]; omega)) (by omega) (by rw [zDrops_i _ hi.1, if_pos (by rw [hρ]; omega), hρ]; exact hpK72) (hK72) (by omega) (lv_sub hl [3, 4, 5, 6, 7, 8, 9, 10, 11, 12, 13, 14, 15, 16, 17, 18, 1, 0] rfl))
                          · refine lv_goto (tgt := 988) hx hb dL_law_945 (by decide) ?_
                            refine z_iinc (lv' := [(21, .int (zI (i + 1))), (19, .int (zI 1)), (18, .int (zI 1)), (17, .int (zI z_3)), (8, .int (zI (d + 1))), (0, .ref b), (1, .ref x0), (2, .ref (la 0)), (3, .ref (la 1)), (4, .ref (la 2)), (5, .ref (la 3)), (6, .ref (la 4)), (7, .ref (la 5)), (9, .int (zI turn)), (11, .int (zI u)), (12, .int (zI k)), (13, .int (zI 1)), (20, .int (zI mv))]) hx hb dL_law_988 hl (k := 17) rfl (by decide) rfl (fun ls hl => ?_)
                            refine lv_goto (tgt := 908) hx hb dL_law_991 (by decide) ?_
                            exact wo_hLd _ _ _ _ _ (ih_hLd mv (i + 1) ls _ _ _ (by rw [zDrops_i _ hi.1, if_neg (by rw [hρ]; omega)]; exact hmv) (by omega) (by rw [zDrops_i _ hi.1, if_neg (by rw [hρ]; omega), hρ]; exact hTL) (hSL) (by omega) (lv_sub hl [1, 2, 3, 4, 5, 6, 7, 8, 9, 10, 11, 12, 13, 14, 15, 16, 17, 0] rfl))
                exact wo_hLd _ _ _ _ _ (hLd _ 0 0 ls _ _ _ (by rfl) (by omega) (by exact hT1) (hP59) (Nat.lt_succ_self _) (lv_sub hl [2, 3, 4, 5, 6, 7, 8, 9, 10, 11, 12, 13, 14, 16, 17, 18, 1, 0] rfl))
              · refine z_bipush hx hb dL_law_888 (by decide +kernel) ?_
                refine lv_goto (tgt := 896) hx hb dL_law_890 (by decide) ?_
                refine l_m63 hx hb (by omega) dL_law_896 ?_
                refine l_and hx hb 5 (by decide +kernel) dL_law_897 (pC_r hI hB hkk) ?_
                refine z_top (b := pC σ k % 32) rfl ?_
                refine l_put hx hb C0 hS 3 (by decide) (by show 0 ≤ k ∧ k < ((10 : Nat) : Int); omega) dL_law_898 (fun HP74 locsP74 hP74 => ?_)
                refine lv_aload hx hb dL_law_899 (lv_at hl 12 rfl) ?_
                refine lv_iload hx hb dL_law_901 (lv_at hl 16 rfl) ?_
                refine z_iconst hx hb dL_law_903 ?_
                refine l_put hx hb C0 hP74 5 (by decide) (by show 0 ≤ k ∧ k < ((10 : Nat) : Int); omega) dL_law_904 (fun HP75 locsP75 hP75 => ?_)
                refine z_iconst hx hb dL_law_905 ?_
                refine lv_istore (lv' := [(21, .int (zI 0)), (20, .int (zI 0)), (19, .int (zI 1)), (18, .int (zI 1)), (17, .int (zI z_3)), (8, .int (zI (d + 1))), (0, .ref b), (1, .ref x0), (2, .ref (la 0)), (3, .ref (la 1)), (4, .ref (la 2)), (5, .ref (la 3)), (6, .ref (la 4)), (7, .ref (la 5)), (9, .int (zI turn)), (10, .int (zI v)), (11, .int (zI u)), (12, .int (zI k)), (13, .int (zI 1))]) hx hb dL_law_906 hl (by decide) rfl (fun ls hl => ?_)
                have hT1 : Rl (zup (zup τ 3 k (pC σ k % 32)) 5 k (-1)) (zdr σ k z_3) := Rl_dr hT hI hB hkk hw (by omega) (by first | rw [if_pos (by omega)] | rw [if_neg (by omega)]) (by rw [zup_t (t := 5) (t' := 3) (by decide), zup_s]) (by rw [zup_s]) (by intro t i h1; repeat (first | exact rfl | rw [zup_e2 (by omega)]))
                refine z_cap (fun WW_hLd wi_hLd wo_hLd => ?_)
                have hLd : ∀ (nN : Nat) (mv i : Int) (ls : Array Slot) (τi : zT) (HL : Heap) (locsL : List Loc), mv = (zDrops (zdr σ k z_3) i.toNat).2 → (0 ≤ i ∧ i ≤ σ 14 0) → Rl τi (zDrops (zdr σ k z_3) i.toNat).1 → zLV D cI cO A eE x0 la s h3 τi σ g HL locsL → (σ 14 0 - i).toNat < nN → lv_has ls 25 [(19, .int (zI 1)), (18, .int (zI 1)), (17, .int (zI z_3)), (8, .int (zI (d + 1))), (0, .ref b), (1, .ref x0), (2, .ref (la 0)), (3, .ref (la 1)), (4, .ref (la 2)), (5, .ref (la 3)), (6, .ref (la 4)), (7, .ref (la 5)), (9, .int (zI turn)), (11, .int (zI u)), (12, .int (zI k)), (13, .int (zI 1)), (20, .int (zI mv)), (21, .int (zI i))] → WW_hLd HL locsL (110 + 250 * turn.toNat) (1500 + 1500 * turn.toNat) (F0 m 908 ls []) := by
                  intro n_hLd
                  induction n_hLd with
                  | zero => intro mv i ls τi HL locsL hmv hi hTL hSL hm; exact absurd hm (Nat.not_lt_zero _)
                  | succ n_hLd ih_hLd =>
                    intro mv i ls τi HL locsL hmv hi hTL hSL hm hl
                    refine wi_hLd _ _ _ _ _ ?_
                    obtain ⟨ρ, hρ⟩ : ∃ ρ, (zDrops (zdr σ k z_3) i.toNat).1 = ρ := ⟨_, rfl⟩
                    rw [hρ] at hTL
                    have n14 : ρ 14 0 = σ 14 0 := by rw [← hρ]; exact zDrops_o (by decide) (by decide) _
                    have n21 : ρ 21 0 = σ 21 0 := by rw [← hρ]; exact zDrops_o (by decide) (by decide) _
                    have hIρ : zInv ρ := by rw [← hρ]; exact zInv_drops (zInv_dr hI hkk hw) _ (by rw [zdr_14]; omega)
                    have hBρ : zB ρ := by rw [← hρ]; exact zB_drops (zB_dr hB k z_3) _
                    have f0ρ := hIρ.r
                    refine lv_iload hx hb dL_law_908 (lv_at hl 17 rfl) ?_
                    refine lv_aload_n hx hb dL_law_910 rfl (lv_at hl 6 rfl) ?_
                    refine z_iconst hx hb dL_law_911 ?_
                    refine l_ald hx hb hK hSL.2.2.1 0 (by decide) (by show 0 ≤ 4 ∧ 4 < ((6 : Nat) : Int); omega) dL_law_912 ?_
                    refine z_top (b := ρ 14 0) (by rw [hTL.g4]) ?_
                    refine z_icmp_ge (tgt := 994) hx hb dL_law_913 (by decide) (by omega) (fun c_76 => ?_) (fun c_76 => ?_)
                    · refine lv_aload_n hx hb dL_law_994 rfl (lv_at hl 6 rfl) ?_
                      refine z_iconst hx hb dL_law_995 ?_
                      refine lv_dup2_11 hx hb dL_law_996 rfl rfl ?_
                      refine l_ald hx hb hK hSL.2.2.1 0 (by decide) (by show 0 ≤ 5 ∧ 5 < ((6 : Nat) : Int); omega) dL_law_997 ?_
                      refine z_top (b := ρ 21 0) (by rw [hTL.g5]) ?_
                      refine lv_iload hx hb dL_law_998 (lv_at hl 16 rfl) ?_
                      refine z_iadd hx hb dL_law_1000 ?_
                      refine l_put hx hb C0 hSL 0 (by decide) (by show 0 ≤ 5 ∧ 5 < ((6 : Nat) : Int); omega) dL_law_1001 (fun HP77 locsP77 hP77 => ?_)
                      refine lv_aload_n hx hb dL_law_1002 rfl (lv_at hl 5 rfl) ?_
                      refine lv_iload hx hb dL_law_1003 (lv_at hl 14 rfl) ?_
                      refine lv_iload hx hb dL_law_1005 (lv_at hl 2 rfl) ?_
                      refine l_call (mc := 3) (ms := 18) C0 (As := [.ref x0, .int (zI k), .int (zI z_3)]) (rest := []) ⟨hx, hb, hml, hown, hts⟩ hP77 (c_L_drop l hfl D cI cO cL A eE mi sa g σ HP77 hP77.2.1 x0 hP77.1 hZ.1 k z_3 ⟨(by omega), (by omega)⟩) (vx_cwSW 3 hts gL_law_L_drop rfl rfl rfl (by decide +kernel) ⟨(Nat.le_of_ble_eq_true rfl), (Nat.le_of_ble_eq_true rfl)⟩) ⟨rfl, rfl⟩ rfl hl.1 rfl (Nat.le_of_ble_eq_true rfl) dL_law_1007 ⟨by show 110 + 250 * turn.toNat + 3 ≤ 675069; omega, by show 1500 + 1500 * turn.toNat + 18 ≤ 7076417; omega⟩ (fun z_78 g78 H78 locs78 aw78 hS78 => ?_)
                      have th78 : zth_drop σ k z_3 = 0 := by unfold zth_drop; rw [if_neg (by omega), if_neg (by omega)]
                      rw [if_pos th78] at hS78
                      obtain rfl := aw78.1 th78
                      refine z_top (b := mv) (by unfold zan_drop; rw [if_pos c_29, hmv, show i = σ 14 0 by omega]) ?_
                      refine lv_iload hx hb dL_law_1010 (lv_at hl 1 rfl) ?_
                      refine z_if_eq (tgt := 1020) hx hb dL_law_1012 (by decide) (by omega) (fun c_79 => ?_) (fun c_79 => ?_)
                      · exact absurd c_79 (by decide)
                      · refine lv_iload hx hb dL_law_1015 (lv_at hl 16 rfl) ?_
                        refine lv_goto (tgt := 1023) hx hb dL_law_1017 (by decide) ?_
                        refine z_same_ne (tgt := 1030) hx hb dL_law_1023 (by decide) ?_
                        refine z_iconst hx hb dL_law_1026 ?_
                        refine lv_goto (tgt := 1031) hx hb dL_law_1027 (by decide) ?_
                        refine lv_istore (lv' := [(13, .int (zI 1)), (19, .int (zI 1)), (18, .int (zI 1)), (17, .int (zI z_3)), (8, .int (zI (d + 1))), (0, .ref b), (1, .ref x0), (2, .ref (la 0)), (3, .ref (la 1)), (4, .ref (la 2)), (5, .ref (la 3)), (6, .ref (la 4)), (7, .ref (la 5)), (9, .int (zI turn)), (11, .int (zI u)), (12, .int (zI k)), (20, .int (zI mv)), (21, .int (zI i))]) hx hb dL_law_1031 hl (by decide) rfl (fun ls hl => ?_)
                        refine lv_goto (tgt := 1336) hx hb dL_law_1033 (by decide) ?_
                        have han : zan_drop σ k z_3 = mv := by unfold zan_drop; rw [if_pos c_29, hmv, show i = σ 14 0 by omega]
                        have hXd : zst_drop σ k z_3 = zup ρ 21 0 (σ 21 0 + zan_drop σ k z_3) := by unfold zst_drop; rw [if_pos c_29, ← show i = σ 14 0 by omega, hρ]
                        exact W.widen (k := 110 + 250 * turn.toNat + 30) (n := 1500 + 1500 * turn.toNat + 200) (by omega) (by omega) (next (d + 1) _ _ _ _ _ ls (by omega) (zLaw_drop hZ th78) (by rw [hXd]; exact Rl_moved hTL (by rw [han]; omega)) hS78 (lv_sub hl [5, 6, 7, 8, 9, 10, 11, 12, 4, 13, 14, 0] rfl))
                    · have fi := hIρ.c (i := i) (by omega)
                      refine lv_iload hx hb dL_law_916 (lv_at hl 0 rfl) ?_
                      refine z_if_eq (tgt := 994) hx hb dL_law_918 (by decide) (by omega) (fun c_81 => ?_) (fun c_81 => ?_)
                      · exact absurd c_81 (by decide)
                      · refine lv_aload hx hb dL_law_921 (lv_at hl 9 rfl) ?_
                        refine lv_iload hx hb dL_law_923 (lv_at hl 17 rfl) ?_
                        refine l_ald hx hb hK hSL.2.2.1 3 (by decide) (by show 0 ≤ i ∧ i < ((10 : Nat) : Int); omega) dL_law_925 ?_
                        refine z_top (b := pC ρ i) (by rw [hTL.c (i := i) (by omega)]) ?_
                        refine z_cs (As := [.int (zI (pC ρ i))]) (rest := []) ⟨hx, hb, hml, hown, hts⟩ (c_L_stateOf l D cI cO cL HL (pC ρ i) (pC_r hIρ hBρ (i := i) (by omega))) (va_cwS 1 hts gL_law_L_stateOf rfl rfl rfl (by decide +kernel) ⟨(Nat.le_of_ble_eq_true rfl), (Nat.le_of_ble_eq_true rfl)⟩) (zKK_mv D cI cO cL) (fun U _ hv => va_K.moved hv hK) rfl hl.1 rfl (Nat.le_of_ble_eq_true rfl) dL_law_926 ⟨by show 110 + 250 * turn.toNat ≤ 675069; omega, by show 1500 + 1500 * turn.toNat ≤ 7076417; omega⟩ (fun r_82 hr_82 => ?_)
                        rw [hr_82, pC_t hIρ hBρ (i := i) (by omega)]
                        refine z_iconst hx hb dL_law_929 ?_
                        refine z_icmp_eq (tgt := 948) hx hb dL_law_930 (by decide) (by omega) (fun c_83 => ?_) (fun c_83 => ?_)
                        · refine lv_aload hx hb dL_law_948 (lv_at hl 11 rfl) ?_
                          refine lv_iload hx hb dL_law_950 (lv_at hl 17 rfl) ?_
                          refine l_ald hx hb hK hSL.2.2.1 5 (by decide) (by show 0 ≤ i ∧ i < ((10 : Nat) : Int); omega) dL_law_952 ?_
                          refine z_top (b := ρ 20 i) (by rw [hTL.t (i := i) (by omega)]) ?_
                          refine lv_istore (lv' := [(22, .int (zI (ρ 20 i))), (19, .int (zI 1)), (18, .int (zI 1)), (17, .int (zI z_3)), (8, .int (zI (d + 1))), (0, .ref b), (1, .ref x0), (2, .ref (la 0)), (3, .ref (la 1)), (4, .ref (la 2)), (5, .ref (la 3)), (6, .ref (la 4)), (7, .ref (la 5)), (9, .int (zI turn)), (11, .int (zI u)), (12, .int (zI k)), (13, .int (zI 1)), (20, .int (zI mv)), (21, .int (zI i))]) hx hb dL_law_953 hl (by decide) rfl (fun ls hl => ?_)
                          refine lv_iload hx hb dL_law_955 (lv_at hl 18 rfl) ?_
                          refine lv_aload_n hx hb dL_law_957 rfl (lv_at hl 7 rfl) ?_
                          refine lv_aload_n hx hb dL_law_958 rfl (lv_at hl 8 rfl) ?_
                          refine lv_aload hx hb dL_law_959 (lv_at hl 10 rfl) ?_
                          refine lv_aload hx hb dL_law_961 (lv_at hl 11 rfl) ?_
                          refine lv_aload hx hb dL_law_963 (lv_at hl 12 rfl) ?_
                          refine l_looks C0 (As := [.int (zI i), .ref (la 0), .ref (la 1), .ref (la 3), .ref (la 4), .ref (la 5)]) (rest := []) ⟨hx, hb, hml, hown, hts⟩ hSL (c_L_looks l D cI cO cL la hM τi ρ HL hSL.2.2.1 i hIρ hBρ hTL (by omega)) (va_cwS 6 hts gL_law_L_looks rfl rfl rfl (by decide +kernel) ⟨(Nat.le_of_ble_eq_true rfl), (Nat.le_of_ble_eq_true rfl)⟩) rfl hl.1 rfl (Nat.le_of_ble_eq_true rfl) dL_law_965 ⟨by show 110 + 250 * turn.toNat ≤ 675069; omega, by show 1500 + 1500 * turn.toNat ≤ 7076417; omega⟩ (fun τK84 HK84 locsK84 hpK84 hK84 => ?_)
                          have n14b : zLook ρ i 14 0 = ρ 14 0 := zLook_o (by decide) (by decide)
                          have flk := (zInv_look hIρ (k := i) (by omega)).c (i := i) (by omega)
                          refine lv_iload hx hb dL_law_968 (lv_at hl 17 rfl) ?_
                          refine lv_aload hx hb dL_law_970 (lv_at hl 12 rfl) ?_
                          refine lv_iload hx hb dL_law_972 (lv_at hl 18 rfl) ?_
                          refine l_ald hx hb hK hK84.2.2.1 5 (by decide) (by show 0 ≤ i ∧ i < ((10 : Nat) : Int); omega) dL_law_974 ?_
                          refine z_top (b := (zLook ρ i) 20 i) (by rw [hpK84.t (i := i) (by omega)]) ?_
                          refine lv_iload hx hb dL_law_975 (lv_at hl 0 rfl) ?_
                          refine z_icmp_ne (tgt := 984) hx hb dL_law_977 (by decide) (by omega) (fun c_85 => ?_) (fun c_85 => ?_)
                          · refine z_iconst hx hb dL_law_984 ?_
                            refine z_iadd hx hb dL_law_985 ?_
                            refine lv_istore (lv' := [(20, .int (zI (mv + 1))), (22, .int (zI (ρ 20 i))), (19, .int (zI 1)), (18, .int (zI 1)), (17, .int (zI z_3)), (8, .int (zI (d + 1))), (0, .ref b), (1, .ref x0), (2, .ref (la 0)), (3, .ref (la 1)), (4, .ref (la 2)), (5, .ref (la 3)), (6, .ref (la 4)), (7, .ref (la 5)), (9, .int (zI turn)), (11, .int (zI u)), (12, .int (zI k)), (13, .int (zI 1)), (21, .int (zI i))]) hx hb dL_law_986 hl (by decide) rfl (fun ls hl => ?_)
                            refine z_iinc (lv' := [(21, .int (zI (i + 1))), (20, .int (zI (mv + 1))), (22, .int (zI (ρ 20 i))), (19, .int (zI 1)), (18, .int (zI 1)), (17, .int (zI z_3)), (8, .int (zI (d + 1))), (0, .ref b), (1, .ref x0), (2, .ref (la 0)), (3, .ref (la 1)), (4, .ref (la 2)), (5, .ref (la 3)), (6, .ref (la 4)), (7, .ref (la 5)), (9, .int (zI turn)), (11, .int (zI u)), (12, .int (zI k)), (13, .int (zI 1))]) hx hb dL_law_988 hl (k := 18) rfl (by decide) rfl (fun ls hl => ?_)
                            refine lv_goto (tgt := 908) hx hb dL_law_991 (by decide) ?_
                            exact wo_hLd _ _ _ _ _ (ih_hLd (mv + 1) (i + 1) ls _ _ _ (by rw [zDrops_i _ hi.1, if_pos (by rw [hρ]; omega), hρ]; show _ = (zDrops (zdr σ k z_3) i.toNat).2 + (if zLook ρ i 20 i = ρ 20 i then 0 else 1); first | (rw [if_pos (by assumption)]; omega) | (rw [if_neg (by assumption)]; omega)) (by omega) (by rw [zDrops_i _ hi.1, if_pos (by rw [hρ]; omega), hρ]; exact hpK84) (hK84) (by omega) (lv_sub hl [3, 4, 5, 6, 7, 8, 9, 10, 11, 12, 13, 14, 15, 16, 17, 18, 1, 0] rfl))
                          · refine z_iconst hx hb dL_law_980 ?_
                            refine lv_goto (tgt := 985) hx hb dL_law_981 (by decide) ?_
                            refine z_iadd hx hb dL_law_985 ?_
                            refine lv_istore (lv' := [(20, .int (zI (mv + 0))), (22, .int (zI (ρ 20 i))), (19, .int (zI 1)), (18, .int (zI 1)), (17, .int (zI z_3)), (8, .int (zI (d + 1))), (0, .ref b), (1, .ref x0), (2, .ref (la 0)), (3, .ref (la 1)), (4, .ref (la 2)), (5, .ref (la 3)), (6, .ref (la 4)), (7, .ref (la 5)), (9, .int (zI turn)), (11, .int (zI u)), (12, .int (zI k)), (13, .int (zI 1)), (21, .int (zI i))]) hx hb dL_law_986 hl (by decide) rfl (fun ls hl => ?_)
                            refine z_iinc (lv' := [(21, .int (zI (i + 1))), (20, .int (zI (mv + 0))), (22, .int (zI (ρ 20 i))), (19, .int (zI 1)), (18, .int (zI 1)), (17, .int (zI z_3)), (8, .int (zI (d + 1))), (0, .ref b), (1, .ref x0), (2, .ref (la 0)), (3, .ref (la 1)), (4, .ref (la 2)), (5, .ref (la 3)), (6, .ref (la 4)), (7, .ref (la 5)), (9, .int (zI turn)), (11, .int (zI u)), (12, .int (zI k)), (13, .int (zI 1))]) hx hb dL_law_988 hl (k := 18) rfl (by decide) rfl (fun ls hl => ?_)
                            refine lv_goto (tgt := 908) hx hb dL_law_991 (by decide) ?_
                            exact wo_hLd _ _ _ _ _ (ih_hLd (mv + 0) (i + 1) ls _ _ _ (by rw [zDrops_i _ hi.1, if_pos (by rw [hρ]; omega), hρ]; show _ = (zDrops (zdr σ k z_3) i.toNat).2 + (if zLook ρ i 20 i = ρ 20 i then 0 else 1); first | (rw [if_pos (by assumption)]; omega) | (rw [if_neg (by assumption)]; omega)) (by omega) (by rw [zDrops_i _ hi.1, if_pos (by rw [hρ]; omega), hρ]; exact hpK84) (hK84) (by omega) (lv_sub hl [3, 4, 5, 6, 7, 8, 9, 10, 11, 12, 13, 14, 15, 16, 17, 18, 1, 0] rfl))
                        · refine lv_aload hx hb dL_law_933 (lv_at hl 9 rfl) ?_
                          refine lv_iload hx hb dL_law_935 (lv_at hl 17 rfl) ?_
                          refine l_ald hx hb hK hSL.2.2.1 3 (by decide) (by show 0 ≤ i ∧ i < ((10 : Nat) : Int); omega) dL_law_937 ?_
                          refine z_top (b := pC ρ i) (by rw [hTL.c (i := i) (by omega)]) ?_
                          refine z_cs (As := [.int (zI (pC ρ i))]) (rest := []) ⟨hx, hb, hml, hown, hts⟩ (c_L_stateOf l D cI cO cL HL (pC ρ i) (pC_r hIρ hBρ (i := i) (by omega))) (va_cwS 1 hts gL_law_L_stateOf rfl rfl rfl (by decide +kernel) ⟨(Nat.le_of_ble_eq_true rfl), (Nat.le_of_ble_eq_true rfl)⟩) (zKK_mv D cI cO cL) (fun U _ hv => va_K.moved hv hK) rfl hl.1 rfl (Nat.le_of_ble_eq_true rfl) dL_law_938 ⟨by show 110 + 250 * turn.toNat ≤ 675069; omega, by show 1500 + 1500 * turn.toNat ≤ 7076417; omega⟩ (fun r_86 hr_86 => ?_)
                          rw [hr_86, pC_t hIρ hBρ (i := i) (by omega)]
                          refine z_iconst hx hb dL_law_941 ?_
                          refine z_icmp_eq (tgt := 948) hx hb dL_law_942 (by decide) (by omega) (fun c_87 => ?_) (fun c_87 => ?_)
                          · refine lv_aload hx hb dL_law_948 (lv_at hl 11 rfl) ?_
                            refine lv_iload hx hb dL_law_950 (lv_at hl 17 rfl) ?_
                            refine l_ald hx hb hK hSL.2.2.1 5 (by decide) (by show 0 ≤ i ∧ i < ((10 : Nat) : Int); omega) dL_law_952 ?_
                            refine z_top (b := ρ 20 i) (by rw [hTL.t (i := i) (by omega)]) ?_
                            refine lv_istore (lv' := [(22, .int (zI (ρ 20 i))), (19, .int (zI 1)), (18, .int (zI 1)), (17, .int (zI z_3)), (8, .int (zI (d + 1))), (0, .ref b), (1, .ref x0), (2, .ref (la 0)), (3, .ref (la 1)), (4, .ref (la 2)), (5, .ref (la 3)), (6, .ref (la 4)), (7, .ref (la 5)), (9, .int (zI turn)), (11, .int (zI u)), (12, .int (zI k)), (13, .int (zI 1)), (20, .int (zI mv)), (21, .int (zI i))]) hx hb dL_law_953 hl (by decide) rfl (fun ls hl => ?_)
                            refine lv_iload hx hb dL_law_955 (lv_at hl 18 rfl) ?_
                            refine lv_aload_n hx hb dL_law_957 rfl (lv_at hl 7 rfl) ?_
                            refine lv_aload_n hx hb dL_law_958 rfl (lv_at hl 8 rfl) ?_
                            refine lv_aload hx hb dL_law_959 (lv_at hl 10 rfl) ?_
                            refine lv_aload hx hb dL_law_961 (lv_at hl 11 rfl) ?_
                            refine lv_aload hx hb dL_law_963 (lv_at hl 12 rfl) ?_
                            refine l_looks C0 (As := [.int (zI i), .ref (la 0), .ref (la 1), .ref (la 3), .ref (la 4), .ref (la 5)]) (rest := []) ⟨hx, hb, hml, hown, hts⟩ hSL (c_L_looks l D cI cO cL la hM τi ρ HL hSL.2.2.1 i hIρ hBρ hTL (by omega)) (va_cwS 6 hts gL_law_L_looks rfl rfl rfl (by decide +kernel) ⟨(Nat.le_of_ble_eq_true rfl), (Nat.le_of_ble_eq_true rfl)⟩) rfl hl.1 rfl (Nat.le_of_ble_eq_true rfl) dL_law_965 ⟨by show 110 + 250 * turn.toNat ≤ 675069; omega, by show 1500 + 1500 * turn.toNat ≤ 7076417; omega⟩ (fun τK88 HK88 locsK88 hpK88 hK88 => ?_)
                            have n14b : zLook ρ i 14 0 = ρ 14 0 := zLook_o (by decide) (by decide)
                            have flk := (zInv_look hIρ (k := i) (by omega)).c (i := i) (by omega)
                            refine lv_iload hx hb dL_law_968 (lv_at hl 17 rfl) ?_
                            refine lv_aload hx hb dL_law_970 (lv_at hl 12 rfl) ?_
                            refine lv_iload hx hb dL_law_972 (lv_at hl 18 rfl) ?_
                            refine l_ald hx hb hK hK88.2.2.1 5 (by decide) (by show 0 ≤ i ∧ i < ((10 : Nat) : Int); omega) dL_law_974 ?_
                            refine z_top (b := (zLook ρ i) 20 i) (by rw [hpK88.t (i := i) (by omega)]) ?_
                            refine lv_iload hx hb dL_law_975 (lv_at hl 0 rfl) ?_
                            refine z_icmp_ne (tgt := 984) hx hb dL_law_977 (by decide) (by omega) (fun c_89 => ?_) (fun c_89 => ?_)
                            · refine z_iconst hx hb dL_law_984 ?_
                              refine z_iadd hx hb dL_law_985 ?_
                              refine lv_istore (lv' := [(20, .int (zI (mv + 1))), (22, .int (zI (ρ 20 i))), (19, .int (zI 1)), (18, .int (zI 1)), (17, .int (zI z_3)), (8, .int (zI (d + 1))), (0, .ref b), (1, .ref x0), (2, .ref (la 0)), (3, .ref (la 1)), (4, .ref (la 2)), (5, .ref (la 3)), (6, .ref (la 4)), (7, .ref (la 5)), (9, .int (zI turn)), (11, .int (zI u)), (12, .int (zI k)), (13, .int (zI 1)), (21, .int (zI i))]) hx hb dL_law_986 hl (by decide) rfl (fun ls hl => ?_)
                              refine z_iinc (lv' := [(21, .int (zI (i + 1))), (20, .int (zI (mv + 1))), (22, .int (zI (ρ 20 i))), (19, .int (zI 1)), (18, .int (zI 1)), (17, .int (zI z_3)), (8, .int (zI (d + 1))), (0, .ref b), (1, .ref x0), (2, .ref (la 0)), (3, .ref (la 1)), (4, .ref (la 2)), (5, .ref (la 3)), (6, .ref (la 4)), (7, .ref (la 5)), (9, .int (zI turn)), (11, .int (zI u)), (12, .int (zI k)), (13, .int (zI 1))]) hx hb dL_law_988 hl (k := 18) rfl (by decide) rfl (fun ls hl => ?_)
                              refine lv_goto (tgt := 908) hx hb dL_law_991 (by decide) ?_
                              exact wo_hLd _ _ _ _ _ (ih_hLd (mv + 1) (i + 1) ls _ _ _ (by rw [zDrops_i _ hi.1, if_pos (by rw [hρ]; omega), hρ]; show _ = (zDrops (zdr σ k z_3) i.toNat).2 + (if zLook ρ i 20 i = ρ 20 i then 0 else 1); first | (rw [if_pos (by assumption)]; omega) | (rw [if_neg (by assumption)]; omega)) (by omega) (by rw [zDrops_i _ hi.1, if_pos (by rw [hρ]; omega), hρ]; exact hpK88) (hK88) (by omega) (lv_sub hl [3, 4, 5, 6, 7, 8, 9, 10, 11, 12, 13, 14, 15, 16, 17, 18, 1, 0] rfl))
                            · refine z_iconst hx hb dL_law_980 ?_
                              refine lv_goto (tgt := 985) hx hb dL_law_981 (by decide) ?_
                              refine z_iadd hx hb dL_law_985 ?_
                              refine lv_istore (lv' := [(20, .int (zI (mv + 0))), (22, .int (zI (ρ 20 i))), (19, .int (zI 1)), (18, .int (zI 1)), (17, .int (zI z_3)), (8, .int (zI (d + 1))), (0, .ref b), (1, .ref x0), (2, .ref (la 0)), (3, .ref (la 1)), (4, .ref (la 2)), (5, .ref (la 3)), (6, .ref (la 4)), (7, .ref (la 5)), (9, .int (zI turn)), (11, .int (zI u)), (12, .int (zI k)), (13, .int (zI 1)), (21, .int (zI i))]) hx hb dL_law_986 hl (by decide) rfl (fun ls hl => ?_)
                              refine z_iinc (lv' := [(21, .int (zI (i + 1))), (20, .int (zI (mv + 0))), (22, .int (zI (ρ 20 i))), (19, .int (zI 1)), (18, .int (zI 1)), (17, .int (zI z_3)), (8, .int (zI (d + 1))), (0, .ref b), (1, .ref x0), (2, .ref (la 0)), (3, .ref (la 1)), (4, .ref (la 2)), (5, .ref (la 3)), (6, .ref (la 4)), (7, .ref (la 5)), (9, .int (zI turn)), (11, .int (zI u)), (12, .int (zI k)), (13, .int (zI 1))]) hx hb dL_law_988 hl (k := 18) rfl (by decide) rfl (fun ls hl => ?_)
                              refine lv_goto (tgt := 908) hx hb dL_law_991 (by decide) ?_
                              exact wo_hLd _ _ _ _ _ (ih_hLd (mv + 0) (i + 1) ls _ _ _ (by rw [zDrops_i _ hi.1, if_pos (by rw [hρ]; omega), hρ]; show _ = (zDrops (zdr σ k z_3) i.toNat).2 + (if zLook ρ i 20 i = ρ 20 i then 0 else 1); first | (rw [if_pos (by assumption)]; omega) | (rw [if_neg (by assumption)]; omega)) (by omega) (by rw [zDrops_i _ hi.1, if_pos (by rw [hρ]; omega), hρ]; exact hpK88) (hK88) (by omega) (lv_sub hl [3, 4, 5, 6, 7, 8, 9, 10, 11, 12, 13, 14, 15, 16, 17, 18, 1, 0] rfl))
                          · refine lv_goto (tgt := 988) hx hb dL_law_945 (by decide) ?_
                            refine z_iinc (lv' := [(21, .int (zI (i + 1))), (19, .int (zI 1)), (18, .int (zI 1)), (17, .int (zI z_3)), (8, .int (zI (d + 1))), (0, .ref b), (1, .ref x0), (2, .ref (la 0)), (3, .ref (la 1)), (4, .ref (la 2)), (5, .ref (la 3)), (6, .ref (la 4)), (7, .ref (la 5)), (9, .int (zI turn)), (11, .int (zI u)), (12, .int (zI k)), (13, .int (zI 1)), (20, .int (zI mv))]) hx hb dL_law_988 hl (k := 17) rfl (by decide) rfl (fun ls hl => ?_)
                            refine lv_goto (tgt := 908) hx hb dL_law_991 (by decide) ?_
                            exact wo_hLd _ _ _ _ _ (ih_hLd mv (i + 1) ls _ _ _ (by rw [zDrops_i _ hi.1, if_neg (by rw [hρ]; omega)]; exact hmv) (by omega) (by rw [zDrops_i _ hi.1, if_neg (by rw [hρ]; omega), hρ]; exact hTL) (hSL) (by omega) (lv_sub hl [1, 2, 3, 4, 5, 6, 7, 8, 9, 10, 11, 12, 13, 14, 15, 16, 17, 0] rfl))
                exact wo_hLd _ _ _ _ _ (hLd _ 0 0 ls _ _ _ (by rfl) (by omega) (by exact hT1) (hP75) (Nat.lt_succ_self _) (lv_sub hl [2, 3, 4, 5, 6, 7, 8, 9, 10, 11, 12, 13, 14, 16, 17, 18, 1, 0] rfl))
    · refine lv_goto (tgt := 1336) hx hb dL_law_789 (by decide) ?_
      exact W.widen (k := 110 + 250 * turn.toNat + 30) (n := 1500 + 1500 * turn.toNat + 200) (by omega) (by omega) (next d _ _ _ _ _ ls (by omega) (hZ) (hT) hS (lv_sub hl [0, 1, 2, 3, 4, 5, 6, 7, 8, 9, 11, 13] rfl))
