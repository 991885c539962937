/-! the law, a case at a time -/
set_option maxRecDepth 100000 in
set_option maxHeartbeats 8000000 in
theorem law_ten {p : Program} {e : Env} {s : State} {m : MethodId} {below : List Frame} {meth : Method} {c : Code} (l : Launch) {b L : Nat} {xs : Nat → Int32} {D : va_G} {cI cO cL : ClassId} {A : Nat → Prop} {eE mi : Nat} {sa la : Nat → Nat} {x0 h3 : Nat} {Q : State → Prop} (C0 : LC l p s m c b L xs D cI cO cL A eE mi sa la h3) (d turn v u k : Int) (hd : 0 ≤ d ∧ d ≤ 14) (htn : 0 ≤ turn ∧ turn < 70) (hv : -2147483648 ≤ v ∧ v < 2147483648) (hu : -2147483648 ≤ u ∧ u < 2147483648) {τ σ : zT} {g : zG} {H : Heap} {locs : List Loc} {ls : Array Slot} (hZ : zLaw σ) (hT : Rl τ σ) (hS : zLV D cI cO A eE x0 la s h3 τ σ g H locs) (hk : (σ 14 0 = 0 ∧ k = 0) ∨ (0 ≤ k ∧ k < σ 14 0)) (hl : lv_has ls 25 [(0, .ref b), (1, .ref x0), (2, .ref (la 0)), (3, .ref (la 1)), (4, .ref (la 2)), (5, .ref (la 3)), (6, .ref (la 4)), (7, .ref (la 5)), (8, .int (zI d)), (9, .int (zI turn)), (10, .int (zI v)), (11, .int (zI u)), (12, .int (zI k)), (13, .int (zI 1))]) (next : ∀ (d : Int) (τ σ : zT) (g : zG) (H : Heap) (locs : List Loc) (ls : Array Slot), 0 ≤ d ∧ d ≤ 14 → zLaw σ → Rl τ σ → zLV D cI cO A eE x0 la s h3 τ σ g H locs → lv_has ls 25 [(0, .ref b), (1, .ref x0), (2, .ref (la 0)), (3, .ref (la 1)), (4, .ref (la 2)), (5, .ref (la 3)), (6, .ref (la 4)), (7, .ref (la 5)), (8, .int (zI d)), (9, .int (zI turn)), (11, .int (zI u)), (13, .int (zI 1))] → W p l e room_1 s m #[Value.ref b] below meth c H locs (110 + 250 * turn.toNat + 30) (1500 + 1500 * turn.toNat + 200) Q (F0 m 1336 ls [])) : W p l e room_1 s m #[Value.ref b] below meth c H locs (110 + 250 * turn.toNat) (1500 + 1500 * turn.toNat) Q (F0 m 1036 ls []) := by
  obtain ⟨⟨hx, hb, hml, hown, hts⟩, ⟨hX, hbl, hL⟩, hK, hM, hfl, hpre, hAc, hAL, hs3⟩ := id C0
  have hI := hZ.i
  have hB := hZ.b
  have hJ := hZ.j
  have nn := hZ.n
  have f0 := hI.r
  refine lv_iload hx hb dL_law_1036 (lv_at hl 11 rfl) ?_
  refine z_iconst hx hb dL_law_1038 ?_
  refine lv_iand hx hb dL_law_1039 ?_
  refine z_nm (fun z_1 hz_1 => ?_)
  refine z_if_ne (tgt := 1094) hx hb dL_law_1040 (by decide) (by omega) (fun c_2 => ?_) (fun c_2 => ?_)
  · refine lv_iload hx hb dL_law_1094 (lv_at hl 11 rfl) ?_
    refine z_iconst hx hb dL_law_1096 ?_
    refine lv_ishr hx hb dL_law_1097 ?_
    refine z_nm (fun z_3 hz_3 => ?_)
    refine z_bipush hx hb dL_law_1098 (by decide +kernel) ?_
    refine z_cs (As := [.int (zI z_3), .int (zI 7)]) (rest := []) ⟨hx, hb, hml, hown, hts⟩ (c_L_low l D cI cO cL H z_3 7 (by omega)) (va_cwS 2 hts gL_law_L_low rfl rfl rfl (by decide +kernel) ⟨(Nat.le_of_ble_eq_true rfl), (Nat.le_of_ble_eq_true rfl)⟩) (zKK_mv D cI cO cL) (fun U _ hv => va_K.moved hv hK) rfl hl.1 rfl (Nat.le_of_ble_eq_true rfl) dL_law_1100 ⟨by show 110 + 250 * turn.toNat ≤ 675069; omega, by show 1500 + 1500 * turn.toNat ≤ 7076417; omega⟩ (fun r_5 hr_5 => ?_)
    obtain ⟨z_4, ez_4, hz_4⟩ := hr_5
    rw [ez_4]
    refine lv_istore (lv' := [(21, .int (zI z_4)), (0, .ref b), (1, .ref x0), (2, .ref (la 0)), (3, .ref (la 1)), (4, .ref (la 2)), (5, .ref (la 3)), (6, .ref (la 4)), (7, .ref (la 5)), (8, .int (zI d)), (9, .int (zI turn)), (10, .int (zI v)), (11, .int (zI u)), (12, .int (zI k)), (13, .int (zI 1))]) hx hb dL_law_1103 hl (by decide) rfl (fun ls hl => ?_)
    refine lv_aload_n hx hb dL_law_1105 rfl (lv_at hl 2 rfl) ?_
    refine lv_iload hx hb dL_law_1106 (lv_at hl 0 rfl) ?_
    refine l_call (mc := 1) (ms := 6) C0 (As := [.ref x0, .int (zI z_4)]) (rest := []) ⟨hx, hb, hml, hown, hts⟩ hS (c_L_tugs l hfl D cI cO cL A eE mi sa g σ H hS.2.1 x0 hS.1 hZ.1 z_4 (by omega)) (vx_cwSW 2 hts gL_law_L_tugs rfl rfl rfl (by decide +kernel) ⟨(Nat.le_of_ble_eq_true rfl), (Nat.le_of_ble_eq_true rfl)⟩) ⟨rfl, rfl⟩ rfl hl.1 rfl (Nat.le_of_ble_eq_true rfl) dL_law_1108 ⟨by show 110 + 250 * turn.toNat + 1 ≤ 675069; omega, by show 1500 + 1500 * turn.toNat + 6 ≤ 7076417; omega⟩ (fun z_6 g6 H6 locs6 aw6 hS6 => ?_)
    have th6 : zth_tugs z_4 = 0 := by unfold zth_tugs; rw [if_pos (by omega)]
    rw [if_pos th6] at hS6
    obtain rfl := aw6.1 th6
    refine z_top (b := σ 4 0) (by rfl) ?_
    refine lv_aload_n hx hb dL_law_1111 rfl (lv_at hl 3 rfl) ?_
    refine z_iconst hx hb dL_law_1112 ?_
    refine l_ald hx hb hK hS6.2.2.1 0 (by decide) (by show 0 ≤ 3 ∧ 3 < ((6 : Nat) : Int); omega) dL_law_1113 ?_
    refine z_top (b := σ 4 0) (by rw [hT.g3]) ?_
    refine z_same_ne (tgt := 1121) hx hb dL_law_1114 (by decide) ?_
    refine z_iconst hx hb dL_law_1117 ?_
    refine lv_goto (tgt := 1122) hx hb dL_law_1118 (by decide) ?_
    refine lv_istore (lv' := [(13, .int (zI 1)), (21, .int (zI z_4)), (0, .ref b), (1, .ref x0), (2, .ref (la 0)), (3, .ref (la 1)), (4, .ref (la 2)), (5, .ref (la 3)), (6, .ref (la 4)), (7, .ref (la 5)), (8, .int (zI d)), (9, .int (zI turn)), (10, .int (zI v)), (11, .int (zI u)), (12, .int (zI k))]) hx hb dL_law_1122 hl (by decide) rfl (fun ls hl => ?_)
    refine lv_aload_n hx hb dL_law_1124 rfl (lv_at hl 4 rfl) ?_
    refine z_iconst hx hb dL_law_1125 ?_
    refine lv_iload hx hb dL_law_1126 (lv_at hl 1 rfl) ?_
    refine l_put hx hb C0 hS6 0 (by decide) (by show 0 ≤ 3 ∧ 3 < ((6 : Nat) : Int); omega) dL_law_1128 (fun HP8 locsP8 hP8 => ?_)
    refine lv_goto (tgt := 1336) hx hb dL_law_1129 (by decide) ?_
    exact W.widen (k := 110 + 250 * turn.toNat + 30) (n := 1500 + 1500 * turn.toNat + 200) (by omega) (by omega) (next d _ _ _ _ _ ls (by omega) (zLaw_tugs hZ th6) (Rl_tugs hT z_4) hP8 (lv_sub hl [2, 3, 4, 5, 6, 7, 8, 9, 10, 11, 13, 0] rfl))
  · refine lv_aload_n hx hb dL_law_1043 rfl (lv_at hl 2 rfl) ?_
    refine z_iconst hx hb dL_law_1044 ?_
    refine z_bipush hx hb dL_law_1045 (by decide +kernel) ?_
    refine lv_iload hx hb dL_law_1047 (lv_at hl 11 rfl) ?_
    refine z_iconst hx hb dL_law_1049 ?_
    refine lv_ishr hx hb dL_law_1050 ?_
    refine z_nm (fun z_9 hz_9 => ?_)
    refine z_bipush hx hb dL_law_1051 (by decide +kernel) ?_
    refine z_cs (As := [.int (zI z_9), .int (zI 60)]) (rest := [.int (zI 80), .int (zI 1), .ref (la 0)]) ⟨hx, hb, hml, hown, hts⟩ (c_L_low l D cI cO cL H z_9 60 (by omega)) (va_cwS 2 hts gL_law_L_low rfl rfl rfl (by decide +kernel) ⟨(Nat.le_of_ble_eq_true rfl), (Nat.le_of_ble_eq_true rfl)⟩) (zKK_mv D cI cO cL) (fun U _ hv => va_K.moved hv hK) rfl hl.1 rfl (Nat.le_of_ble_eq_true rfl) dL_law_1053 ⟨by show 110 + 250 * turn.toNat ≤ 675069; omega, by show 1500 + 1500 * turn.toNat ≤ 7076417; omega⟩ (fun r_11 hr_11 => ?_)
    obtain ⟨z_10, ez_10, hz_10⟩ := hr_11
    rw [ez_10]
    refine z_iadd hx hb dL_law_1056 ?_
    refine l_put hx hb C0 hS 0 (by decide) (by show 0 ≤ 1 ∧ 1 < ((6 : Nat) : Int); omega) dL_law_1057 (fun HP12 locsP12 hP12 => ?_)
    refine lv_aload_n hx hb dL_law_1058 rfl (lv_at hl 2 rfl) ?_
    refine z_iconst hx hb dL_law_1059 ?_
    refine lv_iload hx hb dL_law_1060 (lv_at hl 11 rfl) ?_
    refine z_bipush hx hb dL_law_1062 (by decide +kernel) ?_
    refine lv_ishr hx hb dL_law_1064 ?_
    refine z_nm (fun z_13 hz_13 => ?_)
    refine z_bipush hx hb dL_law_1065 (by decide +kernel) ?_
    refine z_cs (As := [.int (zI z_13), .int (zI 61)]) (rest := [.int (zI 2), .ref (la 0)]) ⟨hx, hb, hml, hown, hts⟩ (c_L_low l D cI cO cL HP12 z_13 61 (by omega)) (va_cwS 2 hts gL_law_L_low rfl rfl rfl (by decide +kernel) ⟨(Nat.le_of_ble_eq_true rfl), (Nat.le_of_ble_eq_true rfl)⟩) (zKK_mv D cI cO cL) (fun U _ hv => va_K.moved hv hK) rfl hl.1 rfl (Nat.le_of_ble_eq_true rfl) dL_law_1067 ⟨by show 110 + 250 * turn.toNat ≤ 675069; omega, by show 1500 + 1500 * turn.toNat ≤ 7076417; omega⟩ (fun r_15 hr_15 => ?_)
    obtain ⟨z_14, ez_14, hz_14⟩ := hr_15
    rw [ez_14]
    refine l_put hx hb C0 hP12 0 (by decide) (by show 0 ≤ 2 ∧ 2 < ((6 : Nat) : Int); omega) dL_law_1070 (fun HP16 locsP16 hP16 => ?_)
    refine lv_aload_n hx hb dL_law_1071 rfl (lv_at hl 1 rfl) ?_
    refine lv_aload_n hx hb dL_law_1072 rfl (lv_at hl 2 rfl) ?_
    refine z_iconst hx hb dL_law_1073 ?_
    refine l_ald hx hb hK hP16.2.2.1 0 (by decide) (by show 0 ≤ 1 ∧ 1 < ((6 : Nat) : Int); omega) dL_law_1074 ?_
    refine z_top (b := (80 + z_10)) (by rw [zup_i (t := 0) (i := 2) (i' := 1) (by omega), zup_s]) ?_
    refine lv_aload_n hx hb dL_law_1075 rfl (lv_at hl 2 rfl) ?_
    refine z_iconst hx hb dL_law_1076 ?_
    refine l_ald hx hb hK hP16.2.2.1 0 (by decide) (by show 0 ≤ 2 ∧ 2 < ((6 : Nat) : Int); omega) dL_law_1077 ?_
    refine z_top (b := z_14) (by rw [zup_s]) ?_
    refine l_call (mc := 2) (ms := 12) C0 (As := [.ref x0, .int (zI (80 + z_10)), .int (zI z_14)]) (rest := []) ⟨hx, hb, hml, hown, hts⟩ hP16 (c_L_tide l hfl D cI cO cL A eE mi sa g σ HP16 hP16.2.1 x0 hP16.1 hZ.1 (80 + z_10) z_14 ⟨(by omega), (by omega)⟩) (vx_cwSW 3 hts gL_law_L_tide rfl rfl rfl (by decide +kernel) ⟨(Nat.le_of_ble_eq_true rfl), (Nat.le_of_ble_eq_true rfl)⟩) ⟨rfl, rfl⟩ rfl hl.1 rfl (Nat.le_of_ble_eq_true rfl) dL_law_1078 ⟨by show 110 + 250 * turn.toNat + 2 ≤ 675069; omega, by show 1500 + 1500 * turn.toNat + 12 ≤ 7076417; omega⟩ (fun z_17 g17 H17 locs17 aw17 hS17 => ?_)
    have th17 : zth_tide (80 + z_10) z_14 = 0 := by unfold zth_tide; rw [if_pos (by omega)]
    rw [if_pos th17] at hS17
    obtain rfl := aw17.1 th17
    refine z_if_ne (tgt := 1088) hx hb dL_law_1081 (by decide) (by omega) (fun c_18 => ?_) (fun c_18 => ?_)
    · exact absurd c_18 (by decide)
    · refine z_iconst hx hb dL_law_1084 ?_
      refine lv_goto (tgt := 1089) hx hb dL_law_1085 (by decide) ?_
      refine lv_istore (lv' := [(13, .int (zI 1)), (0, .ref b), (1, .ref x0), (2, .ref (la 0)), (3, .ref (la 1)), (4, .ref (la 2)), (5, .ref (la 3)), (6, .ref (la 4)), (7, .ref (la 5)), (8, .int (zI d)), (9, .int (zI turn)), (10, .int (zI v)), (11, .int (zI u)), (12, .int (zI k))]) hx hb dL_law_1089 hl (by decide) rfl (fun ls hl => ?_)
      refine lv_goto (tgt := 1336) hx hb dL_law_1091 (by decide) ?_
      exact W.widen (k := 110 + 250 * turn.toNat + 30) (n := 1500 + 1500 * turn.toNat + 200) (by omega) (by omega) (next d _ _ _ _ _ ls (by omega) (zLaw_tide hZ th17) (Rl_tide hT (80 + z_10) z_14) hS17 (lv_sub hl [1, 2, 3, 4, 5, 6, 7, 8, 9, 10, 12, 0] rfl))
