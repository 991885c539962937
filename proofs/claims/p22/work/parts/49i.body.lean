/-! the law: its ships, its pilots -/
set_option maxRecDepth 100000 in
set_option maxHeartbeats 8000000 in
theorem law_body {p : Program} {e : Env} {s : State} {m : MethodId} {below : List Frame} {meth : Method} {c : Code} (l : Launch) {b L : Nat} {xs : Nat → Int32} {D : va_G} {cI cO cL : ClassId} {A : Nat → Prop} {eE mi : Nat} {sa la : Nat → Nat} {x0 h3 : Nat} {Q : State → Prop} (C0 : LC l p s m c b L xs D cI cO cL A eE mi sa la h3) (fin : ∀ (H : Heap) (ls : Array Slot), W p l e room_1 s m #[Value.ref b] below meth c H [] (675069) (7076417) Q (F0 m 1396 ls [.int 1])) {τ : zT} {g : zG} {H : Heap} {ls : Array Slot} (hτ : ∀ i, τ 0 i = 0) (hS : zLV D cI cO A eE x0 la s h3 τ zInit g H []) (hl : lv_has ls 25 [(0, .ref b), (1, .ref x0), (2, .ref (la 0)), (3, .ref (la 1)), (4, .ref (la 2)), (5, .ref (la 3)), (6, .ref (la 4)), (7, .ref (la 5))]) : W p l e room_1 s m #[Value.ref b] below meth c H [] (20) (100) Q (F0 m 41 ls []) := by
  obtain ⟨⟨hx, hb, hml, hown, hts⟩, ⟨hX, hbl, hL⟩, hK, hM, hfl, hpre, hAc, hAL, hs3⟩ := id C0
  refine lv_aload_n hx hb dL_law_41 rfl (lv_at hl 2 rfl) ?_
  refine z_iconst hx hb dL_law_42 ?_
  refine z_bipush hx hb dL_law_43 (by decide +kernel) ?_
  refine l_put hx hb C0 hS 0 (by decide) (by show 0 ≤ 1 ∧ 1 < ((6 : Nat) : Int); omega) dL_law_45 (fun HP1 locsP1 hP1 => ?_)
  refine lv_aload_n hx hb dL_law_46 rfl (lv_at hl 2 rfl) ?_
  refine z_iconst hx hb dL_law_47 ?_
  refine z_bipush hx hb dL_law_48 (by decide +kernel) ?_
  refine l_put hx hb C0 hP1 0 (by decide) (by show 0 ≤ 2 ∧ 2 < ((6 : Nat) : Int); omega) dL_law_50 (fun HP2 locsP2 hP2 => ?_)
  refine lv_aload_n hx hb dL_law_51 rfl (lv_at hl 2 rfl) ?_
  refine z_iconst hx hb dL_law_52 ?_
  refine z_iconst hx hb dL_law_53 ?_
  refine l_put hx hb C0 hP2 0 (by decide) (by show 0 ≤ 3 ∧ 3 < ((6 : Nat) : Int); omega) dL_law_54 (fun HP3 locsP3 hP3 => ?_)
  refine z_iconst hx hb dL_law_55 ?_
  refine lv_istore (lv' := [(8, .int (zI 0)), (0, .ref b), (1, .ref x0), (2, .ref (la 0)), (3, .ref (la 1)), (4, .ref (la 2)), (5, .ref (la 3)), (6, .ref (la 4)), (7, .ref (la 5))]) hx hb dL_law_56 hl (by decide) rfl (fun ls hl => ?_)
  refine z_cap (fun WW_hLs wi_hLs wo_hLs => ?_)
  have hLs : ∀ (nN : Nat) (i : Int) (ls : Array Slot) (τ : zT) (σ : zT) (gL : zG) (HL : Heap) (locsL : List Loc), (0 ≤ i ∧ i ≤ 6) → zPre σ → σ 5 0 = i → σ 11 0 = 0 → Rl τ σ → zLV D cI cO A eE x0 la s h3 τ σ gL HL locsL → (6 - i).toNat < nN → lv_has ls 25 [(0, .ref b), (1, .ref x0), (2, .ref (la 0)), (3, .ref (la 1)), (4, .ref (la 2)), (5, .ref (la 3)), (6, .ref (la 4)), (7, .ref (la 5)), (8, .int (zI i))] → WW_hLs HL locsL (20 + 7 * i.toNat) (100 + 96 * i.toNat) (F0 m 58 ls []) := by
    intro n_hLs
    induction n_hLs with
    | zero => intro i ls τ σ gL HL locsL hi hZ hx0 hx1 hT hS hm; exact absurd hm (Nat.not_lt_zero _)
    | succ n_hLs ih_hLs =>
      intro i ls τ σ gL HL locsL hi hZ hx0 hx1 hT hS hm hl
      refine wi_hLs _ _ _ _ _ ?_
      have hI := hZ.1.1
      have f0 := hI.r
      refine lv_iload hx hb dL_law_58 (lv_at hl 8 rfl) ?_
      refine z_bipush hx hb dL_law_60 (by decide +kernel) ?_
      refine z_icmp_ge (tgt := 162) hx hb dL_law_62 (by decide) (by omega) (fun c_4 => ?_) (fun c_4 => ?_)
      · refine z_iconst hx hb dL_law_162 ?_
        refine lv_istore (lv' := [(8, .int (zI 0)), (0, .ref b), (1, .ref x0), (2, .ref (la 0)), (3, .ref (la 1)), (4, .ref (la 2)), (5, .ref (la 3)), (6, .ref (la 4)), (7, .ref (la 5))]) hx hb dL_law_163 hl (by decide) rfl (fun ls hl => ?_)
        refine z_cap (fun WW_hLp wi_hLp wo_hLp => ?_)
        have hLp : ∀ (nN : Nat) (i : Int) (ls : Array Slot) (τ : zT) (σ : zT) (gL : zG) (HL : Heap) (locsL : List Loc), (0 ≤ i ∧ i ≤ 4) → zPre σ → σ 11 0 = i → σ 5 0 = 6 → Rl τ σ → zLV D cI cO A eE x0 la s h3 τ σ gL HL locsL → (4 - i).toNat < nN → lv_has ls 25 [(0, .ref b), (1, .ref x0), (2, .ref (la 0)), (3, .ref (la 1)), (4, .ref (la 2)), (5, .ref (la 3)), (6, .ref (la 4)), (7, .ref (la 5)), (8, .int (zI i))] → WW_hLp HL locsL (62 + 5 * i.toNat) (676 + 83 * i.toNat) (F0 m 165 ls []) := by
          intro n_hLp
          induction n_hLp with
          | zero => intro i ls τ σ gL HL locsL hi hZ hx0 hx1 hT hS hm; exact absurd hm (Nat.not_lt_zero _)
          | succ n_hLp ih_hLp =>
            intro i ls τ σ gL HL locsL hi hZ hx0 hx1 hT hS hm hl
            refine wi_hLp _ _ _ _ _ ?_
            have hI := hZ.1.1
            have f0 := hI.r
            refine lv_iload hx hb dL_law_165 (lv_at hl 8 rfl) ?_
            refine z_iconst hx hb dL_law_167 ?_
            refine z_icmp_ge (tgt := 229) hx hb dL_law_168 (by decide) (by omega) (fun c_5 => ?_) (fun c_5 => ?_)
            · refine z_iconst hx hb dL_law_229 ?_
              refine lv_istore (lv' := [(8, .int (zI 0)), (0, .ref b), (1, .ref x0), (2, .ref (la 0)), (3, .ref (la 1)), (4, .ref (la 2)), (5, .ref (la 3)), (6, .ref (la 4)), (7, .ref (la 5))]) hx hb dL_law_230 hl (by decide) rfl (fun ls hl => ?_)
              refine z_iconst hx hb dL_law_232 ?_
              refine lv_istore (lv' := [(9, .int (zI 0)), (8, .int (zI 0)), (0, .ref b), (1, .ref x0), (2, .ref (la 0)), (3, .ref (la 1)), (4, .ref (la 2)), (5, .ref (la 3)), (6, .ref (la 4)), (7, .ref (la 5))]) hx hb dL_law_233 hl (by decide) rfl (fun ls hl => ?_)
              refine l_forget hS ?_
              refine W.widen (k := 110 + 250 * (0 : Int).toNat) (n := 1500 + 1500 * (0 : Int).toNat) (by omega) (by omega) ?_
              exact law_turns l C0 fin 71 0 0 _ _ _ _ ls (by decide) (by decide) (by decide) (hZ.law (by omega) (by omega)) hT hS.fg (lv_sub hl [2, 3, 4, 5, 6, 7, 8, 9, 1, 0] rfl)
            · refine lv_aload hx hb dL_law_171 (lv_at hl 4 rfl) ?_
              refine lv_iload hx hb dL_law_173 (lv_at hl 8 rfl) ?_
              refine z_iconst hx hb dL_law_175 ?_
              refine lv_aload_n hx hb dL_law_176 rfl (lv_at hl 0 rfl) ?_
              refine z_bipush hx hb dL_law_177 (by decide +kernel) ?_
              refine lv_iload hx hb dL_law_179 (lv_at hl 8 rfl) ?_
              refine z_iadd hx hb dL_law_181 ?_
              refine z_cs (As := [.ref b, .int (zI (6 + i))]) (rest := [.int (zI 1), .int (zI i), .ref (la 2)]) ⟨hx, hb, hml, hown, hts⟩ (c_L_cell l b L xs HL (6 + i) (by exact ⟨by omega, hL, hS.bl C0⟩)) (va_cwS 2 hts gL_law_L_cell rfl rfl rfl (by decide +kernel) ⟨(Nat.le_of_ble_eq_true rfl), (Nat.le_of_ble_eq_true rfl)⟩) (zX_mv b L xs) (hS.x C0) rfl hl.1 rfl (Nat.le_of_ble_eq_true rfl) dL_law_182 ⟨by show 62 + 5 * i.toNat ≤ 675069; omega, by show 676 + 83 * i.toNat ≤ 7076417; omega⟩ (fun r_7 hr_7 => ?_)
              obtain ⟨z_6, ez_6, hz_6⟩ := hr_7
              rw [ez_6]
              refine z_bipush hx hb dL_law_185 (by decide +kernel) ?_
              refine z_cs (As := [.int (zI z_6), .int (zI 50)]) (rest := [.int (zI 1), .int (zI i), .ref (la 2)]) ⟨hx, hb, hml, hown, hts⟩ (c_L_low l D cI cO cL HL z_6 50 (by omega)) (va_cwS 2 hts gL_law_L_low rfl rfl rfl (by decide +kernel) ⟨(Nat.le_of_ble_eq_true rfl), (Nat.le_of_ble_eq_true rfl)⟩) (zKK_mv D cI cO cL) (fun U _ hv => va_K.moved hv hK) rfl hl.1 rfl (Nat.le_of_ble_eq_true rfl) dL_law_187 ⟨by show 62 + 5 * i.toNat ≤ 675069; omega, by show 676 + 83 * i.toNat ≤ 7076417; omega⟩ (fun r_9 hr_9 => ?_)
              obtain ⟨z_8, ez_8, hz_8⟩ := hr_9
              rw [ez_8]
              refine z_iadd hx hb dL_law_190 ?_
              refine l_put hx hb C0 hS 2 (by decide) (by show 0 ≤ i ∧ i < ((4 : Nat) : Int); omega) dL_law_191 (fun HP10 locsP10 hP10 => ?_)
              refine lv_aload_n hx hb dL_law_192 rfl (lv_at hl 1 rfl) ?_
              refine lv_iload hx hb dL_law_193 (lv_at hl 8 rfl) ?_
              refine z_iconst hx hb dL_law_195 ?_
              refine z_icmp_ne (tgt := 205) hx hb dL_law_196 (by decide) (by omega) (fun c_11 => ?_) (fun c_11 => ?_)
              · refine z_sipush hx hb dL_law_205 (by decide +kernel) ?_
                refine lv_aload hx hb dL_law_208 (lv_at hl 4 rfl) ?_
                refine lv_iload hx hb dL_law_210 (lv_at hl 8 rfl) ?_
                refine l_ald hx hb hK hP10.2.2.1 2 (by decide) (by show 0 ≤ i ∧ i < ((4 : Nat) : Int); omega) dL_law_212 ?_
                refine z_top (b := (1 + z_8)) (by rw [zup_s]) ?_
                refine l_call (mc := 5) (ms := 83) C0 (As := [.ref x0, .int (zI 9999), .int (zI (1 + z_8))]) (rest := []) ⟨hx, hb, hml, hown, hts⟩ hP10 (c_L_pilot l hfl D cI cO cL A eE mi sa gL σ HP10 hP10.2.1 x0 hP10.1 hZ.1 9999 (1 + z_8) ⟨(by omega), (by omega)⟩) (vx_cwSW 3 hts gL_law_L_pilot rfl rfl rfl (by decide +kernel) ⟨(Nat.le_of_ble_eq_true rfl), (Nat.le_of_ble_eq_true rfl)⟩) ⟨rfl, rfl⟩ rfl hl.1 rfl (Nat.le_of_ble_eq_true rfl) dL_law_213 ⟨by show 62 + 5 * i.toNat + 5 ≤ 675069; omega, by show 676 + 83 * i.toNat + 83 ≤ 7076417; omega⟩ (fun z_12 g12 H12 locs12 aw12 hS12 => ?_)
                have th12 : zth_pilot σ 9999 (1 + z_8) = 0 := by unfold zth_pilot; rw [if_neg (by omega), if_neg (by omega)]
                rw [if_pos th12] at hS12
                obtain rfl := aw12.1 th12
                refine z_top (b := i) (by show σ 11 0 = i; omega) ?_
                refine lv_iload hx hb dL_law_216 (lv_at hl 8 rfl) ?_
                refine z_same_eq (tgt := 223) hx hb dL_law_218 (by decide) ?_
                refine z_iinc (lv' := [(8, .int (zI (i + 1))), (0, .ref b), (1, .ref x0), (2, .ref (la 0)), (3, .ref (la 1)), (4, .ref (la 2)), (5, .ref (la 3)), (6, .ref (la 4)), (7, .ref (la 5))]) hx hb dL_law_223 hl (k := 8) rfl (by decide) rfl (fun ls hl => ?_)
                refine lv_goto (tgt := 165) hx hb dL_law_226 (by decide) ?_
                refine W.widen (k := 62 + 5 * (i + 1).toNat) (n := 676 + 83 * (i + 1).toNat) (by omega) (by omega) ?_
                exact wo_hLp _ _ _ _ _ (ih_hLp (i + 1) ls _ _ _ _ _ (by omega) (zPre_pilot hZ th12 (by first | rw [if_pos (by omega)] | rw [if_neg (by omega)])) (by first | (simp [zst_pilot, zup]; done) | (simp [zst_pilot, zup]; omega)) (by first | (simp [zst_pilot, zup]; done) | (simp [zst_pilot, zup]; omega)) (Rl_pilot hT hZ.2.1 (by omega)) (hS12) (by omega) (lv_sub hl [1, 2, 3, 4, 5, 6, 7, 8, 0] rfl))
              · refine z_sipush hx hb dL_law_199 (by decide +kernel) ?_
                refine lv_goto (tgt := 208) hx hb dL_law_202 (by decide) ?_
                refine lv_aload hx hb dL_law_208 (lv_at hl 4 rfl) ?_
                refine lv_iload hx hb dL_law_210 (lv_at hl 8 rfl) ?_
                refine l_ald hx hb hK hP10.2.2.1 2 (by decide) (by show 0 ≤ i ∧ i < ((4 : Nat) : Int); omega) dL_law_212 ?_
                refine z_top (b := (1 + z_8)) (by rw [zup_s]) ?_
                refine l_call (mc := 5) (ms := 83) C0 (As := [.ref x0, .int (zI 201), .int (zI (1 + z_8))]) (rest := []) ⟨hx, hb, hml, hown, hts⟩ hP10 (c_L_pilot l hfl D cI cO cL A eE mi sa gL σ HP10 hP10.2.1 x0 hP10.1 hZ.1 201 (1 + z_8) ⟨(by omega), (by omega)⟩) (vx_cwSW 3 hts gL_law_L_pilot rfl rfl rfl (by decide +kernel) ⟨(Nat.le_of_ble_eq_true rfl), (Nat.le_of_ble_eq_true rfl)⟩) ⟨rfl, rfl⟩ rfl hl.1 rfl (Nat.le_of_ble_eq_true rfl) dL_law_213 ⟨by show 62 + 5 * i.toNat + 5 ≤ 675069; omega, by show 676 + 83 * i.toNat + 83 ≤ 7076417; omega⟩ (fun z_14 g14 H14 locs14 aw14 hS14 => ?_)
                have th14 : zth_pilot σ 201 (1 + z_8) = 0 := by unfold zth_pilot; rw [if_neg (by omega), if_neg (by omega)]
                rw [if_pos th14] at hS14
                obtain rfl := aw14.1 th14
                refine z_top (b := i) (by show σ 11 0 = i; omega) ?_
                refine lv_iload hx hb dL_law_216 (lv_at hl 8 rfl) ?_
                refine z_same_eq (tgt := 223) hx hb dL_law_218 (by decide) ?_
                refine z_iinc (lv' := [(8, .int (zI (i + 1))), (0, .ref b), (1, .ref x0), (2, .ref (la 0)), (3, .ref (la 1)), (4, .ref (la 2)), (5, .ref (la 3)), (6, .ref (la 4)), (7, .ref (la 5))]) hx hb dL_law_223 hl (k := 8) rfl (by decide) rfl (fun ls hl => ?_)
                refine lv_goto (tgt := 165) hx hb dL_law_226 (by decide) ?_
                refine W.widen (k := 62 + 5 * (i + 1).toNat) (n := 676 + 83 * (i + 1).toNat) (by omega) (by omega) ?_
                exact wo_hLp _ _ _ _ _ (ih_hLp (i + 1) ls _ _ _ _ _ (by omega) (zPre_pilot hZ th14 (by first | rw [if_pos (by omega)] | rw [if_neg (by omega)])) (by first | (simp [zst_pilot, zup]; done) | (simp [zst_pilot, zup]; omega)) (by first | (simp [zst_pilot, zup]; done) | (simp [zst_pilot, zup]; omega)) (Rl_pilot hT hZ.2.1 (by omega)) (hS14) (by omega) (lv_sub hl [1, 2, 3, 4, 5, 6, 7, 8, 0] rfl))
        refine W.widen (k := 62 + 5 * (0 : Int).toNat) (n := 676 + 83 * (0 : Int).toNat) (by omega) (by omega) ?_
        exact wo_hLp _ _ _ _ _ (hLp _ 0 ls _ _ _ _ _ (by omega) (hZ) (by omega) (by omega) (hT) (hS) (Nat.lt_succ_self _) (lv_sub hl [1, 2, 3, 4, 5, 6, 7, 8, 0] rfl))
      · refine lv_aload_n hx hb dL_law_65 rfl (lv_at hl 0 rfl) ?_
        refine lv_iload hx hb dL_law_66 (lv_at hl 8 rfl) ?_
        refine z_cs (As := [.ref b, .int (zI i)]) (rest := []) ⟨hx, hb, hml, hown, hts⟩ (c_L_cell l b L xs HL i (by exact ⟨by omega, hL, hS.bl C0⟩)) (va_cwS 2 hts gL_law_L_cell rfl rfl rfl (by decide +kernel) ⟨(Nat.le_of_ble_eq_true rfl), (Nat.le_of_ble_eq_true rfl)⟩) (zX_mv b L xs) (hS.x C0) rfl hl.1 rfl (Nat.le_of_ble_eq_true rfl) dL_law_68 ⟨by show 20 + 7 * i.toNat ≤ 675069; omega, by show 100 + 96 * i.toNat ≤ 7076417; omega⟩ (fun r_17 hr_17 => ?_)
        obtain ⟨z_16, ez_16, hz_16⟩ := hr_17
        rw [ez_16]
        refine lv_istore (lv' := [(9, .int (zI z_16)), (0, .ref b), (1, .ref x0), (2, .ref (la 0)), (3, .ref (la 1)), (4, .ref (la 2)), (5, .ref (la 3)), (6, .ref (la 4)), (7, .ref (la 5)), (8, .int (zI i))]) hx hb dL_law_71 hl (by decide) rfl (fun ls hl => ?_)
        refine lv_aload_n hx hb dL_law_73 rfl (lv_at hl 4 rfl) ?_
        refine lv_iload hx hb dL_law_74 (lv_at hl 9 rfl) ?_
        refine z_bipush hx hb dL_law_76 (by decide +kernel) ?_
        refine lv_iload hx hb dL_law_78 (lv_at hl 0 rfl) ?_
        refine z_bipush hx hb dL_law_80 (by decide +kernel) ?_
        refine z_cs (As := [.int (zI z_16), .int (zI 60)]) (rest := [.int (zI 70), .int (zI i), .ref (la 1)]) ⟨hx, hb, hml, hown, hts⟩ (c_L_low l D cI cO cL HL z_16 60 (by omega)) (va_cwS 2 hts gL_law_L_low rfl rfl rfl (by decide +kernel) ⟨(Nat.le_of_ble_eq_true rfl), (Nat.le_of_ble_eq_true rfl)⟩) (zKK_mv D cI cO cL) (fun U _ hv => va_K.moved hv hK) rfl hl.1 rfl (Nat.le_of_ble_eq_true rfl) dL_law_82 ⟨by show 20 + 7 * i.toNat ≤ 675069; omega, by show 100 + 96 * i.toNat ≤ 7076417; omega⟩ (fun r_19 hr_19 => ?_)
        obtain ⟨z_18, ez_18, hz_18⟩ := hr_19
        rw [ez_18]
        refine z_iadd hx hb dL_law_85 ?_
        refine z_bipush hx hb dL_law_86 (by decide +kernel) ?_
        refine lv_iload hx hb dL_law_88 (lv_at hl 0 rfl) ?_
        refine z_bipush hx hb dL_law_90 (by decide +kernel) ?_
        refine lv_ishr hx hb dL_law_92 ?_
        refine z_nm (fun z_20 hz_20 => ?_)
        refine z_bipush hx hb dL_law_93 (by decide +kernel) ?_
        refine z_cs (As := [.int (zI z_20), .int (zI 111)]) (rest := [.int (zI 10), .int (zI (70 + z_18)), .int (zI i), .ref (la 1)]) ⟨hx, hb, hml, hown, hts⟩ (c_L_low l D cI cO cL HL z_20 111 (by omega)) (va_cwS 2 hts gL_law_L_low rfl rfl rfl (by decide +kernel) ⟨(Nat.le_of_ble_eq_true rfl), (Nat.le_of_ble_eq_true rfl)⟩) (zKK_mv D cI cO cL) (fun U _ hv => va_K.moved hv hK) rfl hl.1 rfl (Nat.le_of_ble_eq_true rfl) dL_law_95 ⟨by show 20 + 7 * i.toNat ≤ 675069; omega, by show 100 + 96 * i.toNat ≤ 7076417; omega⟩ (fun r_22 hr_22 => ?_)
        obtain ⟨z_21, ez_21, hz_21⟩ := hr_22
        rw [ez_21]
        refine z_iadd hx hb dL_law_98 ?_
        refine z_bipush hx hb dL_law_99 (by decide +kernel) ?_
        refine l_shl hx hb 9 (by decide +kernel) (by decide) dL_law_101 (show 0 ≤ (10 + z_21) ∧ ((10 + z_21)) * (512 : Int) < 4294967296 by omega) ?_
        refine z_top (b := ((10 + z_21)) * 512) rfl ?_
        refine l_or hx hb 9 ((10 + z_21)) (by decide) (by show _ = (512 : Int) * _; omega) (by show 0 ≤ _ ∧ _ < (512 : Int); omega) (by show 0 ≤ _ ∧ (512 : Int) * _ < _; omega) dL_law_102 ?_
        refine z_top (b := (70 + z_18) + 512 * ((10 + z_21))) rfl ?_
        refine lv_iload hx hb dL_law_103 (lv_at hl 0 rfl) ?_
        refine z_bipush hx hb dL_law_105 (by decide +kernel) ?_
        refine lv_ishr hx hb dL_law_107 ?_
        refine z_nm (fun z_23 hz_23 => ?_)
        refine z_iconst hx hb dL_law_108 ?_
        refine z_cs (As := [.int (zI z_23), .int (zI 4)]) (rest := [.int (zI ((70 + z_18) + 512 * ((10 + z_21)))), .int (zI i), .ref (la 1)]) ⟨hx, hb, hml, hown, hts⟩ (c_L_low l D cI cO cL HL z_23 4 (by omega)) (va_cwS 2 hts gL_law_L_low rfl rfl rfl (by decide +kernel) ⟨(Nat.le_of_ble_eq_true rfl), (Nat.le_of_ble_eq_true rfl)⟩) (zKK_mv D cI cO cL) (fun U _ hv => va_K.moved hv hK) rfl hl.1 rfl (Nat.le_of_ble_eq_true rfl) dL_law_109 ⟨by show 20 + 7 * i.toNat ≤ 675069; omega, by show 100 + 96 * i.toNat ≤ 7076417; omega⟩ (fun r_25 hr_25 => ?_)
        obtain ⟨z_24, ez_24, hz_24⟩ := hr_25
        rw [ez_24]
        refine z_bipush hx hb dL_law_112 (by decide +kernel) ?_
        refine l_shl hx hb 16 (by decide +kernel) (by decide) dL_law_114 (show 0 ≤ z_24 ∧ (z_24) * (65536 : Int) < 4294967296 by omega) ?_
        refine z_top (b := (z_24) * 65536) rfl ?_
        refine l_or hx hb 16 (z_24) (by decide) (by show _ = (65536 : Int) * _; omega) (by show 0 ≤ _ ∧ _ < (65536 : Int); omega) (by show 0 ≤ _ ∧ (65536 : Int) * _ < _; omega) dL_law_115 ?_
        refine z_top (b := ((70 + z_18) + 512 * ((10 + z_21))) + 65536 * (z_24)) rfl ?_
        refine l_put hx hb C0 hS 1 (by decide) (by show 0 ≤ i ∧ i < ((6 : Nat) : Int); omega) dL_law_116 (fun HP26 locsP26 hP26 => ?_)
        refine lv_aload_n hx hb dL_law_117 rfl (lv_at hl 2 rfl) ?_
        refine lv_aload_n hx hb dL_law_118 rfl (lv_at hl 4 rfl) ?_
        refine lv_iload hx hb dL_law_119 (lv_at hl 9 rfl) ?_
        refine l_ald hx hb hK hP26.2.2.1 1 (by decide) (by show 0 ≤ i ∧ i < ((6 : Nat) : Int); omega) dL_law_121 ?_
        refine z_top (b := (((70 + z_18) + 512 * ((10 + z_21))) + 65536 * (z_24))) (by rw [zup_s]) ?_
        refine z_cs (As := [.int (zI (((70 + z_18) + 512 * ((10 + z_21))) + 65536 * (z_24)))]) (rest := [.ref x0]) ⟨hx, hb, hml, hown, hts⟩ (c_L_draught l D cI cO cL HP26 (((70 + z_18) + 512 * ((10 + z_21))) + 65536 * (z_24)) (by omega)) (va_cwS 1 hts gL_law_L_draught rfl rfl rfl (by decide +kernel) ⟨(Nat.le_of_ble_eq_true rfl), (Nat.le_of_ble_eq_true rfl)⟩) (zKK_mv D cI cO cL) (fun U _ hv => va_K.moved hv hK) rfl hl.1 rfl (Nat.le_of_ble_eq_true rfl) dL_law_122 ⟨by show 20 + 7 * i.toNat ≤ 675069; omega, by show 100 + 96 * i.toNat ≤ 7076417; omega⟩ (fun r_27 hr_27 => ?_)
        rw [hr_27]
        refine z_top (b := 70 + z_18) (by omega) ?_
        refine z_bipush hx hb dL_law_125 (by decide +kernel) ?_
        refine lv_iload hx hb dL_law_127 (lv_at hl 9 rfl) ?_
        refine z_imul hx hb dL_law_129 ?_
        refine z_iconst hx hb dL_law_130 ?_
        refine z_iadd hx hb dL_law_131 ?_
        refine lv_aload_n hx hb dL_law_132 rfl (lv_at hl 4 rfl) ?_
        refine lv_iload hx hb dL_law_133 (lv_at hl 9 rfl) ?_
        refine l_ald hx hb hK hP26.2.2.1 1 (by decide) (by show 0 ≤ i ∧ i < ((6 : Nat) : Int); omega) dL_law_135 ?_
        refine z_top (b := (((70 + z_18) + 512 * ((10 + z_21))) + 65536 * (z_24))) (by rw [zup_s]) ?_
        refine z_cs (As := [.int (zI (((70 + z_18) + 512 * ((10 + z_21))) + 65536 * (z_24)))]) (rest := [.int (zI ((100 * i) + 1)), .int (zI (70 + z_18)), .ref x0]) ⟨hx, hb, hml, hown, hts⟩ (c_L_takes l D cI cO cL HP26 (((70 + z_18) + 512 * ((10 + z_21))) + 65536 * (z_24)) (by omega)) (va_cwS 1 hts gL_law_L_takes rfl rfl rfl (by decide +kernel) ⟨(Nat.le_of_ble_eq_true rfl), (Nat.le_of_ble_eq_true rfl)⟩) (zKK_mv D cI cO cL) (fun U _ hv => va_K.moved hv hK) rfl hl.1 rfl (Nat.le_of_ble_eq_true rfl) dL_law_136 ⟨by show 20 + 7 * i.toNat ≤ 675069; omega, by show 100 + 96 * i.toNat ≤ 7076417; omega⟩ (fun r_28 hr_28 => ?_)
        rw [hr_28]
        refine z_top (b := 10 + z_21) (by omega) ?_
        refine lv_aload_n hx hb dL_law_139 rfl (lv_at hl 4 rfl) ?_
        refine lv_iload hx hb dL_law_140 (lv_at hl 9 rfl) ?_
        refine l_ald hx hb hK hP26.2.2.1 1 (by decide) (by show 0 ≤ i ∧ i < ((6 : Nat) : Int); omega) dL_law_142 ?_
        refine z_top (b := (((70 + z_18) + 512 * ((10 + z_21))) + 65536 * (z_24))) (by rw [zup_s]) ?_
        refine z_cs (As := [.int (zI (((70 + z_18) + 512 * ((10 + z_21))) + 65536 * (z_24)))]) (rest := [.int (zI (10 + z_21)), .int (zI ((100 * i) + 1)), .int (zI (70 + z_18)), .ref x0]) ⟨hx, hb, hml, hown, hts⟩ (c_L_needs l D cI cO cL HP26 (((70 + z_18) + 512 * ((10 + z_21))) + 65536 * (z_24)) (by omega)) (va_cwS 1 hts gL_law_L_needs rfl rfl rfl (by decide +kernel) ⟨(Nat.le_of_ble_eq_true rfl), (Nat.le_of_ble_eq_true rfl)⟩) (zKK_mv D cI cO cL) (fun U _ hv => va_K.moved hv hK) rfl hl.1 rfl (Nat.le_of_ble_eq_true rfl) dL_law_143 ⟨by show 20 + 7 * i.toNat ≤ 675069; omega, by show 100 + 96 * i.toNat ≤ 7076417; omega⟩ (fun r_29 hr_29 => ?_)
        rw [hr_29]
        refine z_top (b := z_24) (by omega) ?_
        refine l_call (mc := 7) (ms := 96) C0 (As := [.ref x0, .int (zI (70 + z_18)), .int (zI ((100 * i) + 1)), .int (zI (10 + z_21)), .int (zI z_24)]) (rest := []) ⟨hx, hb, hml, hown, hts⟩ hP26 (c_L_ship l hfl D cI cO cL A eE mi sa gL σ HP26 hP26.2.1 x0 hP26.1 hZ.1 (70 + z_18) ((100 * i) + 1) (10 + z_21) z_24 ⟨(by omega), (by omega), (by omega), (by omega)⟩) (vx_cwSW 5 hts gL_law_L_ship rfl rfl rfl (by decide +kernel) ⟨(Nat.le_of_ble_eq_true rfl), (Nat.le_of_ble_eq_true rfl)⟩) ⟨rfl, rfl⟩ rfl hl.1 rfl (Nat.le_of_ble_eq_true rfl) dL_law_146 ⟨by show 20 + 7 * i.toNat + 7 ≤ 675069; omega, by show 100 + 96 * i.toNat + 96 ≤ 7076417; omega⟩ (fun z_30 g30 H30 locs30 aw30 hS30 => ?_)
        have th30 : zth_ship σ (70 + z_18) ((100 * i) + 1) (10 + z_21) z_24 = 0 := by unfold zth_ship; rw [if_neg (by omega), if_neg (by omega)]
        rw [if_pos th30] at hS30
        obtain rfl := aw30.1 th30
        refine z_top (b := i) (by show σ 5 0 = i; omega) ?_
        refine lv_iload hx hb dL_law_149 (lv_at hl 9 rfl) ?_
        refine z_same_eq (tgt := 156) hx hb dL_law_151 (by decide) ?_
        refine z_iinc (lv' := [(8, .int (zI (i + 1))), (9, .int (zI z_16)), (0, .ref b), (1, .ref x0), (2, .ref (la 0)), (3, .ref (la 1)), (4, .ref (la 2)), (5, .ref (la 3)), (6, .ref (la 4)), (7, .ref (la 5))]) hx hb dL_law_156 hl (k := 9) rfl (by decide) rfl (fun ls hl => ?_)
        refine lv_goto (tgt := 58) hx hb dL_law_159 (by decide) ?_
        refine W.widen (k := 20 + 7 * (i + 1).toNat) (n := 100 + 96 * (i + 1).toNat) (by omega) (by omega) ?_
        exact wo_hLs _ _ _ _ _ (ih_hLs (i + 1) ls _ _ _ _ _ (by omega) (zPre_ship hZ th30 (by omega)) (by first | (simp [zst_ship, zup]; done) | (simp [zst_ship, zup]; omega)) (by first | (simp [zst_ship, zup]; done) | (simp [zst_ship, zup]; omega)) (Rl_ship hT hZ.2.1 (by omega) (by omega)) (hS30) (by omega) (lv_sub hl [2, 3, 4, 5, 6, 7, 8, 9, 0] rfl))
  refine W.widen (k := 20 + 7 * (0 : Int).toNat) (n := 100 + 96 * (0 : Int).toNat) (by omega) (by omega) ?_
  exact wo_hLs _ _ _ _ _ (hLs _ 0 ls _ _ _ _ _ (by omega) (zPre_0) (by first | rfl | omega) (by first | rfl | omega) (Rl_0 ⟨(by rw [zup_i (by decide), zup_i (by decide), zup_i (by decide)]; exact hτ 0), (by rw [zup_i (by decide), zup_i (by decide), zup_s]), (by rw [zup_i (by decide), zup_s]), (by rw [zup_s]), (by rw [zup_i (by decide), zup_i (by decide), zup_i (by decide)]; exact hτ 4), (by rw [zup_i (by decide), zup_i (by decide), zup_i (by decide)]; exact hτ 5)⟩) (hP3) (Nat.lt_succ_self _) (lv_sub hl [1, 2, 3, 4, 5, 6, 7, 8, 0] rfl))
