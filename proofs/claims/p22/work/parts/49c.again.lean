/-! the law, a case at a time -/
set_option maxRecDepth 100000 in
set_option maxHeartbeats 8000000 in
theorem law_again {p : Program} {e : Env} {s : State} {m : MethodId} {below : List Frame} {meth : Method} {c : Code} (l : Launch) {b L : Nat} {xs : Nat → Int32} {D : va_G} {cI cO cL : ClassId} {A : Nat → Prop} {eE mi : Nat} {sa la : Nat → Nat} {x0 h3 : Nat} {Q : State → Prop} (C0 : LC l p s m c b L xs D cI cO cL A eE mi sa la h3) (d turn v u k : Int) (hd : 0 ≤ d ∧ d ≤ 14) (htn : 0 ≤ turn ∧ turn < 70) (hv : -2147483648 ≤ v ∧ v < 2147483648) (hu : -2147483648 ≤ u ∧ u < 2147483648) {τ σ : zT} {g : zG} {H : Heap} {locs : List Loc} {ls : Array Slot} (hZ : zLaw σ) (hT : Rl τ σ) (hS : zLV D cI cO A eE x0 la s h3 τ σ g H locs) (hk : (σ 14 0 = 0 ∧ k = 0) ∨ (0 ≤ k ∧ k < σ 14 0)) (hl : lv_has ls 25 [(0, .ref b), (1, .ref x0), (2, .ref (la 0)), (3, .ref (la 1)), (4, .ref (la 2)), (5, .ref (la 3)), (6, .ref (la 4)), (7, .ref (la 5)), (8, .int (zI d)), (9, .int (zI turn)), (10, .int (zI v)), (11, .int (zI u)), (12, .int (zI k)), (13, .int (zI 1))]) (next : ∀ (d : Int) (τ σ : zT) (g : zG) (H : Heap) (locs : List Loc) (ls : Array Slot), 0 ≤ d ∧ d ≤ 14 → zLaw σ → Rl τ σ → zLV D cI cO A eE x0 la s h3 τ σ g H locs → lv_has ls 25 [(0, .ref b), (1, .ref x0), (2, .ref (la 0)), (3, .ref (la 1)), (4, .ref (la 2)), (5, .ref (la 3)), (6, .ref (la 4)), (7, .ref (la 5)), (8, .int (zI d)), (9, .int (zI turn)), (11, .int (zI u)), (13, .int (zI 1))] → W p l e room_1 s m #[Value.ref b] below meth c H locs (110 + 250 * turn.toNat + 30) (1500 + 1500 * turn.toNat + 200) Q (F0 m 1336 ls [])) : W p l e room_1 s m #[Value.ref b] below meth c H locs (110 + 250 * turn.toNat) (1500 + 1500 * turn.toNat) Q (F0 m 695 ls []) := by
  obtain ⟨⟨hx, hb, hml, hown, hts⟩, ⟨hX, hbl, hL⟩, hK, hM, hfl, hpre, hAc, hAL, hs3⟩ := id C0
  have hI := hZ.i
  have hB := hZ.b
  have hJ := hZ.j
  have nn := hZ.n
  have f0 := hI.r
  refine lv_aload_n hx hb dL_law_695 rfl (lv_at hl 2 rfl) ?_
  refine z_iconst hx hb dL_law_696 ?_
  refine l_ald hx hb hK hS.2.2.1 0 (by decide) (by show 0 ≤ 4 ∧ 4 < ((6 : Nat) : Int); omega) dL_law_697 ?_
  refine z_top (b := σ 14 0) (by rw [hT.g4]) ?_
  refine z_if_ne (tgt := 704) hx hb dL_law_698 (by decide) (by omega) (fun c_1 => ?_) (fun c_1 => ?_)
  · have hkk : 0 ≤ k ∧ k < σ 14 0 := by omega
    have fk := hI.c hkk
    refine lv_aload hx hb dL_law_704 (lv_at hl 5 rfl) ?_
    refine lv_iload hx hb dL_law_706 (lv_at hl 12 rfl) ?_
    refine l_ald hx hb hK hS.2.2.1 3 (by decide) (by show 0 ≤ k ∧ k < ((10 : Nat) : Int); omega) dL_law_708 ?_
    refine z_top (b := pC σ k) (by rw [hT.c (i := k) (by omega)]) ?_
    refine z_cs (As := [.int (zI (pC σ k))]) (rest := []) ⟨hx, hb, hml, hown, hts⟩ (c_L_stateOf l D cI cO cL H (pC σ k) (pC_r hI hB (i := k) (by omega))) (va_cwS 1 hts gL_law_L_stateOf rfl rfl rfl (by decide +kernel) ⟨(Nat.le_of_ble_eq_true rfl), (Nat.le_of_ble_eq_true rfl)⟩) (zKK_mv D cI cO cL) (fun U _ hv => va_K.moved hv hK) rfl hl.1 rfl (Nat.le_of_ble_eq_true rfl) dL_law_709 ⟨by show 110 + 250 * turn.toNat ≤ 675069; omega, by show 1500 + 1500 * turn.toNat ≤ 7076417; omega⟩ (fun r_2 hr_2 => ?_)
    rw [hr_2, pC_t hI hB (i := k) (by omega)]
    refine z_iconst hx hb dL_law_712 ?_
    refine z_icmp_ne (tgt := 720) hx hb dL_law_713 (by decide) (by omega) (fun c_3 => ?_) (fun c_3 => ?_)
    · refine z_iconst hx hb dL_law_720 ?_
      refine lv_istore (lv' := [(16, .int (zI 0)), (0, .ref b), (1, .ref x0), (2, .ref (la 0)), (3, .ref (la 1)), (4, .ref (la 2)), (5, .ref (la 3)), (6, .ref (la 4)), (7, .ref (la 5)), (8, .int (zI d)), (9, .int (zI turn)), (10, .int (zI v)), (11, .int (zI u)), (12, .int (zI k)), (13, .int (zI 1))]) hx hb dL_law_721 hl (by decide) rfl (fun ls hl => ?_)
      refine lv_iload hx hb dL_law_723 (lv_at hl 0 rfl) ?_
      refine z_if_eq (tgt := 741) hx hb dL_law_725 (by decide) (by omega) (fun c_4 => ?_) (fun c_4 => ?_)
      · refine lv_aload_n hx hb dL_law_741 rfl (lv_at hl 2 rfl) ?_
        refine lv_iload hx hb dL_law_742 (lv_at hl 13 rfl) ?_
        refine l_call (mc := 2) (ms := 12) C0 (As := [.ref x0, .int (zI k)]) (rest := []) ⟨hx, hb, hml, hown, hts⟩ hS (c_L_again l hfl D cI cO cL A eE mi sa g σ H hS.2.1 x0 hS.1 hZ.1 k (by omega)) (vx_cwSW 2 hts gL_law_L_again rfl rfl rfl (by decide +kernel) ⟨(Nat.le_of_ble_eq_true rfl), (Nat.le_of_ble_eq_true rfl)⟩) ⟨rfl, rfl⟩ rfl hl.1 rfl (Nat.le_of_ble_eq_true rfl) dL_law_744 ⟨by show 110 + 250 * turn.toNat + 2 ≤ 675069; omega, by show 1500 + 1500 * turn.toNat + 12 ≤ 7076417; omega⟩ (fun z_5 g5 H5 locs5 aw5 hS5 => ?_)
        have th5 : zth_again σ k = 2 := by unfold zth_again; rw [if_neg (by omega), if_neg (by omega)]
        rw [if_neg (by omega)] at hS5
        obtain rfl := aw5.2.2.1 th5
        refine lv_iload hx hb dL_law_747 (lv_at hl 0 rfl) ?_
        refine z_if_eq (tgt := 760) hx hb dL_law_749 (by decide) (by omega) (fun c_6 => ?_) (fun c_6 => ?_)
        · refine z_sipush hx hb dL_law_760 (by decide +kernel) ?_
          refine z_same_ne (tgt := 770) hx hb dL_law_763 (by decide) ?_
          refine z_iconst hx hb dL_law_766 ?_
          refine lv_goto (tgt := 771) hx hb dL_law_767 (by decide) ?_
          refine lv_istore (lv' := [(13, .int (zI 1)), (16, .int (zI 0)), (0, .ref b), (1, .ref x0), (2, .ref (la 0)), (3, .ref (la 1)), (4, .ref (la 2)), (5, .ref (la 3)), (6, .ref (la 4)), (7, .ref (la 5)), (8, .int (zI d)), (9, .int (zI turn)), (10, .int (zI v)), (11, .int (zI u)), (12, .int (zI k))]) hx hb dL_law_771 hl (by decide) rfl (fun ls hl => ?_)
          refine lv_goto (tgt := 1336) hx hb dL_law_773 (by decide) ?_
          exact W.widen (k := 110 + 250 * turn.toNat + 30) (n := 1500 + 1500 * turn.toNat + 200) (by omega) (by omega) (next d _ _ _ _ _ ls (by omega) (hZ) (hT) hS5 (lv_sub hl [2, 3, 4, 5, 6, 7, 8, 9, 10, 11, 13, 0] rfl))
        · exact absurd c_6 (by decide)
      · exact absurd c_4 (by decide)
    · refine z_iconst hx hb dL_law_716 ?_
      refine lv_goto (tgt := 721) hx hb dL_law_717 (by decide) ?_
      refine lv_istore (lv' := [(16, .int (zI 1)), (0, .ref b), (1, .ref x0), (2, .ref (la 0)), (3, .ref (la 1)), (4, .ref (la 2)), (5, .ref (la 3)), (6, .ref (la 4)), (7, .ref (la 5)), (8, .int (zI d)), (9, .int (zI turn)), (10, .int (zI v)), (11, .int (zI u)), (12, .int (zI k)), (13, .int (zI 1))]) hx hb dL_law_721 hl (by decide) rfl (fun ls hl => ?_)
      refine lv_iload hx hb dL_law_723 (lv_at hl 0 rfl) ?_
      refine z_if_eq (tgt := 741) hx hb dL_law_725 (by decide) (by omega) (fun c_8 => ?_) (fun c_8 => ?_)
      · exact absurd c_8 (by decide)
      · refine lv_iload hx hb dL_law_728 (lv_at hl 13 rfl) ?_
        refine lv_aload_n hx hb dL_law_730 rfl (lv_at hl 3 rfl) ?_
        refine lv_aload_n hx hb dL_law_731 rfl (lv_at hl 4 rfl) ?_
        refine lv_aload hx hb dL_law_732 (lv_at hl 6 rfl) ?_
        refine lv_aload hx hb dL_law_734 (lv_at hl 7 rfl) ?_
        refine lv_aload hx hb dL_law_736 (lv_at hl 8 rfl) ?_
        refine l_looks C0 (As := [.int (zI k), .ref (la 0), .ref (la 1), .ref (la 3), .ref (la 4), .ref (la 5)]) (rest := []) ⟨hx, hb, hml, hown, hts⟩ hS (c_L_looks l D cI cO cL la hM τ σ H hS.2.2.1 k hI hB hT hkk) (va_cwS 6 hts gL_law_L_looks rfl rfl rfl (by decide +kernel) ⟨(Nat.le_of_ble_eq_true rfl), (Nat.le_of_ble_eq_true rfl)⟩) rfl hl.1 rfl (Nat.le_of_ble_eq_true rfl) dL_law_738 ⟨by show 110 + 250 * turn.toNat ≤ 675069; omega, by show 1500 + 1500 * turn.toNat ≤ 7076417; omega⟩ (fun τK9 HK9 locsK9 hpK9 hK9 => ?_)
        have hT2 : Rl τK9 (zst_again σ k) := hpK9
        have n14 : zst_again σ k 14 0 = σ 14 0 := zLook_o (by decide) (by decide)
        refine lv_aload_n hx hb dL_law_741 rfl (lv_at hl 2 rfl) ?_
        refine lv_iload hx hb dL_law_742 (lv_at hl 13 rfl) ?_
        refine l_call (mc := 2) (ms := 12) C0 (As := [.ref x0, .int (zI k)]) (rest := []) ⟨hx, hb, hml, hown, hts⟩ hK9 (c_L_again l hfl D cI cO cL A eE mi sa g σ HK9 hK9.2.1 x0 hK9.1 hZ.1 k (by omega)) (vx_cwSW 2 hts gL_law_L_again rfl rfl rfl (by decide +kernel) ⟨(Nat.le_of_ble_eq_true rfl), (Nat.le_of_ble_eq_true rfl)⟩) ⟨rfl, rfl⟩ rfl hl.1 rfl (Nat.le_of_ble_eq_true rfl) dL_law_744 ⟨by show 110 + 250 * turn.toNat + 2 ≤ 675069; omega, by show 1500 + 1500 * turn.toNat + 12 ≤ 7076417; omega⟩ (fun z_10 g10 H10 locs10 aw10 hS10 => ?_)
        have th10 : zth_again σ k = 0 := by unfold zth_again; rw [if_neg (by omega), if_pos (by omega)]
        rw [if_pos th10] at hS10
        obtain rfl := aw10.1 th10
        refine z_top (b := zst_again σ k 20 k) (by rfl) ?_
        refine lv_iload hx hb dL_law_747 (lv_at hl 0 rfl) ?_
        refine z_if_eq (tgt := 760) hx hb dL_law_749 (by decide) (by omega) (fun c_11 => ?_) (fun c_11 => ?_)
        · exact absurd c_11 (by decide)
        · refine lv_aload hx hb dL_law_752 (lv_at hl 8 rfl) ?_
          refine lv_iload hx hb dL_law_754 (lv_at hl 13 rfl) ?_
          refine l_ald hx hb hK hS10.2.2.1 5 (by decide) (by show 0 ≤ k ∧ k < ((10 : Nat) : Int); omega) dL_law_756 ?_
          refine z_top (b := (zst_again σ k) 20 k) (by rw [hT2.t (i := k) (by omega)]) ?_
          refine lv_goto (tgt := 763) hx hb dL_law_757 (by decide) ?_
          refine z_same_ne (tgt := 770) hx hb dL_law_763 (by decide) ?_
          refine z_iconst hx hb dL_law_766 ?_
          refine lv_goto (tgt := 771) hx hb dL_law_767 (by decide) ?_
          refine lv_istore (lv' := [(13, .int (zI 1)), (16, .int (zI 1)), (0, .ref b), (1, .ref x0), (2, .ref (la 0)), (3, .ref (la 1)), (4, .ref (la 2)), (5, .ref (la 3)), (6, .ref (la 4)), (7, .ref (la 5)), (8, .int (zI d)), (9, .int (zI turn)), (10, .int (zI v)), (11, .int (zI u)), (12, .int (zI k))]) hx hb dL_law_771 hl (by decide) rfl (fun ls hl => ?_)
          refine lv_goto (tgt := 1336) hx hb dL_law_773 (by decide) ?_
          exact W.widen (k := 110 + 250 * turn.toNat + 30) (n := 1500 + 1500 * turn.toNat + 200) (by omega) (by omega) (next d _ _ _ _ _ ls (by omega) (zLaw_again hZ th10) (hT2) hS10 (lv_sub hl [2, 3, 4, 5, 6, 7, 8, 9, 10, 11, 13, 0] rfl))
  · refine lv_goto (tgt := 1336) hx hb dL_law_701 (by decide) ?_
    exact W.widen (k := 110 + 250 * turn.toNat + 30) (n := 1500 + 1500 * turn.toNat + 200) (by omega) (by omega) (next d _ _ _ _ _ ls (by omega) (hZ) (hT) hS (lv_sub hl [0, 1, 2, 3, 4, 5, 6, 7, 8, 9, 11, 13] rfl))
