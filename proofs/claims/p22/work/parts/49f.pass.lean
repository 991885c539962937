/-! the law, a case at a time -/
set_option maxRecDepth 100000 in
set_option maxHeartbeats 8000000 in
theorem law_pass {p : Program} {e : Env} {s : State} {m : MethodId} {below : List Frame} {meth : Method} {c : Code} (l : Launch) {b L : Nat} {xs : Nat → Int32} {D : va_G} {cI cO cL : ClassId} {A : Nat → Prop} {eE mi : Nat} {sa la : Nat → Nat} {x0 h3 : Nat} {Q : State → Prop} (C0 : LC l p s m c b L xs D cI cO cL A eE mi sa la h3) (d turn v u k : Int) (hd : 0 ≤ d ∧ d ≤ 14) (htn : 0 ≤ turn ∧ turn < 70) (hv : -2147483648 ≤ v ∧ v < 2147483648) (hu : -2147483648 ≤ u ∧ u < 2147483648) {τ σ : zT} {g : zG} {H : Heap} {locs : List Loc} {ls : Array Slot} (hZ : zLaw σ) (hT : Rl τ σ) (hS : zLV D cI cO A eE x0 la s h3 τ σ g H locs) (hk : (σ 14 0 = 0 ∧ k = 0) ∨ (0 ≤ k ∧ k < σ 14 0)) (hl : lv_has ls 25 [(0, .ref b), (1, .ref x0), (2, .ref (la 0)), (3, .ref (la 1)), (4, .ref (la 2)), (5, .ref (la 3)), (6, .ref (la 4)), (7, .ref (la 5)), (8, .int (zI d)), (9, .int (zI turn)), (10, .int (zI v)), (11, .int (zI u)), (12, .int (zI k)), (13, .int (zI 1))]) (next : ∀ (d : Int) (τ σ : zT) (g : zG) (H : Heap) (locs : List Loc) (ls : Array Slot), 0 ≤ d ∧ d ≤ 14 → zLaw σ → Rl τ σ → zLV D cI cO A eE x0 la s h3 τ σ g H locs → lv_has ls 25 [(0, .ref b), (1, .ref x0), (2, .ref (la 0)), (3, .ref (la 1)), (4, .ref (la 2)), (5, .ref (la 3)), (6, .ref (la 4)), (7, .ref (la 5)), (8, .int (zI d)), (9, .int (zI turn)), (11, .int (zI u)), (13, .int (zI 1))] → W p l e room_1 s m #[Value.ref b] below meth c H locs (110 + 250 * turn.toNat + 30) (1500 + 1500 * turn.toNat + 200) Q (F0 m 1336 ls [])) : W p l e room_1 s m #[Value.ref b] below meth c H locs (110 + 250 * turn.toNat) (1500 + 1500 * turn.toNat) Q (F0 m 1132 ls []) := by
  obtain ⟨⟨hx, hb, hml, hown, hts⟩, ⟨hX, hbl, hL⟩, hK, hM, hfl, hpre, hAc, hAL, hs3⟩ := id C0
  have hI := hZ.i
  have hB := hZ.b
  have hJ := hZ.j
  have nn := hZ.n
  have f0 := hI.r
  refine z_iconst hx hb dL_law_1132 ?_
  refine lv_iload hx hb dL_law_1133 (lv_at hl 11 rfl) ?_
  refine lv_iload hx hb dL_law_1135 (lv_at hl 10 rfl) ?_
  refine z_sipush hx hb dL_law_1137 (by decide +kernel) ?_
  refine lv_iand hx hb dL_law_1140 ?_
  refine z_nm (fun z_1 hz_1 => ?_)
  refine z_if_ne (tgt := 1150) hx hb dL_law_1141 (by decide) (by omega) (fun c_2 => ?_) (fun c_2 => ?_)
  · refine z_bipush hx hb dL_law_1150 (by decide +kernel) ?_
    refine z_cs (As := [.int (zI u), .int (zI 40)]) (rest := [.int (zI 1)]) ⟨hx, hb, hml, hown, hts⟩ (c_L_low l D cI cO cL H u 40 (by omega)) (va_cwS 2 hts gL_law_L_low rfl rfl rfl (by decide +kernel) ⟨(Nat.le_of_ble_eq_true rfl), (Nat.le_of_ble_eq_true rfl)⟩) (zKK_mv D cI cO cL) (fun U _ hv => va_K.moved hv hK) rfl hl.1 rfl (Nat.le_of_ble_eq_true rfl) dL_law_1152 ⟨by show 110 + 250 * turn.toNat ≤ 675069; omega, by show 1500 + 1500 * turn.toNat ≤ 7076417; omega⟩ (fun r_4 hr_4 => ?_)
    obtain ⟨z_3, ez_3, hz_3⟩ := hr_4
    rw [ez_3]
    refine z_iadd hx hb dL_law_1155 ?_
    refine lv_istore (lv' := [(21, .int (zI (1 + z_3))), (0, .ref b), (1, .ref x0), (2, .ref (la 0)), (3, .ref (la 1)), (4, .ref (la 2)), (5, .ref (la 3)), (6, .ref (la 4)), (7, .ref (la 5)), (8, .int (zI d)), (9, .int (zI turn)), (10, .int (zI v)), (11, .int (zI u)), (12, .int (zI k)), (13, .int (zI 1))]) hx hb dL_law_1156 hl (by decide) rfl (fun ls hl => ?_)
    refine lv_aload_n hx hb dL_law_1158 rfl (lv_at hl 3 rfl) ?_
    refine z_iconst hx hb dL_law_1159 ?_
    refine l_ald hx hb hK hS.2.2.1 0 (by decide) (by show 0 ≤ 0 ∧ 0 < ((6 : Nat) : Int); omega) dL_law_1160 ?_
    refine z_top (b := σ 1 0) (by rw [hT.g0]) ?_
    refine lv_iload hx hb dL_law_1161 (lv_at hl 0 rfl) ?_
    refine z_iadd hx hb dL_law_1163 ?_
    refine z_sipush hx hb dL_law_1164 (by decide +kernel) ?_
    refine z_icmp_le (tgt := 1173) hx hb dL_law_1167 (by decide) (by omega) (fun c_5 => ?_) (fun c_5 => ?_)
    · refine z_iconst hx hb dL_law_1173 ?_
      refine lv_istore (lv' := [(22, .int (zI 0)), (21, .int (zI (1 + z_3))), (0, .ref b), (1, .ref x0), (2, .ref (la 0)), (3, .ref (la 1)), (4, .ref (la 2)), (5, .ref (la 3)), (6, .ref (la 4)), (7, .ref (la 5)), (8, .int (zI d)), (9, .int (zI turn)), (10, .int (zI v)), (11, .int (zI u)), (12, .int (zI k)), (13, .int (zI 1))]) hx hb dL_law_1174 hl (by decide) rfl (fun ls hl => ?_)
      refine z_iconst hx hb dL_law_1176 ?_
      refine lv_istore (lv' := [(23, .int (zI 0)), (22, .int (zI 0)), (21, .int (zI (1 + z_3))), (0, .ref b), (1, .ref x0), (2, .ref (la 0)), (3, .ref (la 1)), (4, .ref (la 2)), (5, .ref (la 3)), (6, .ref (la 4)), (7, .ref (la 5)), (8, .int (zI d)), (9, .int (zI turn)), (10, .int (zI v)), (11, .int (zI u)), (12, .int (zI k)), (13, .int (zI 1))]) hx hb dL_law_1177 hl (by decide) rfl (fun ls hl => ?_)
      refine z_cap (fun WW_hLo wi_hLo wo_hLo => ?_)
      have hLo : ∀ (nN : Nat) (dn n : Int) (ls : Array Slot) (τn : zT) (HL : Heap) (locsL : List Loc), dn = zSum (fun c => zNewV σ (σ 1 0 + n) c True 1) (σ 14 0).toNat → (0 ≤ n ∧ n ≤ (1 + z_3)) → Rl τn (zAdv σ (σ 14 0) (σ 1 0 + n)) → zLV D cI cO A eE x0 la s h3 τn σ g HL locsL → ((1 + z_3) - n).toNat < nN → lv_has ls 25 [(21, .int (zI (1 + z_3))), (0, .ref b), (1, .ref x0), (2, .ref (la 0)), (3, .ref (la 1)), (4, .ref (la 2)), (5, .ref (la 3)), (6, .ref (la 4)), (7, .ref (la 5)), (8, .int (zI d)), (9, .int (zI turn)), (11, .int (zI u)), (12, .int (zI k)), (13, .int (zI 1)), (22, .int (zI dn)), (23, .int (zI n))] → WW_hLo HL locsL (110 + 250 * turn.toNat) (1500 + 1500 * turn.toNat) (F0 m 1179 ls []) := by
        intro n_hLo
        induction n_hLo with
        | zero => intro dn n ls τn HL locsL hdn hn hTL hSL hm; exact absurd hm (Nat.not_lt_zero _)
        | succ n_hLo ih_hLo =>
          intro dn n ls τn HL locsL hdn hn hTL hSL hm hl
          refine wi_hLo _ _ _ _ _ ?_
          obtain ⟨ρ, hρ⟩ : ∃ ρ, zAdv σ (σ 14 0) (σ 1 0 + n) = ρ := ⟨_, rfl⟩
          have hρ0 := hρ.symm
          rw [hρ] at hTL
          have n14 : ρ 14 0 = σ 14 0 := by rw [← hρ]; rfl
          have n1 : ρ 1 0 = σ 1 0 + n := by rw [← hρ]; rfl
          have hIρ : zInv ρ := by rw [← hρ]; exact zInv_adv hI hJ (by omega)
          have hJρ : zInv2 ρ := by rw [← hρ]; exact zInv2_adv hI hJ (by omega)
          have hBρ : zB ρ := by rw [← hρ]; exact zB_adv hB _ _
          have b0ρ : ρ 5 0 ≤ 6 ∧ ρ 11 0 ≤ 4 ∧ ρ 14 0 ≤ 10 := hBρ
          refine lv_iload hx hb dL_law_1179 (lv_at hl 15 rfl) ?_
          refine lv_iload hx hb dL_law_1181 (lv_at hl 0 rfl) ?_
          refine z_icmp_ge (tgt := 1318) hx hb dL_law_1183 (by decide) (by omega) (fun c_6 => ?_) (fun c_6 => ?_)
          · refine lv_aload_n hx hb dL_law_1318 rfl (lv_at hl 2 rfl) ?_
            refine lv_iload hx hb dL_law_1319 (lv_at hl 0 rfl) ?_
            refine l_call (mc := 2) (ms := 12) C0 (As := [.ref x0, .int (zI (1 + z_3))]) (rest := []) ⟨hx, hb, hml, hown, hts⟩ hSL (c_L_pass l hfl D cI cO cL A eE mi sa g σ HL hSL.2.1 x0 hSL.1 hZ.1 (1 + z_3) (by omega)) (vx_cwSW 2 hts gL_law_L_pass rfl rfl rfl (by decide +kernel) ⟨(Nat.le_of_ble_eq_true rfl), (Nat.le_of_ble_eq_true rfl)⟩) ⟨rfl, rfl⟩ rfl hl.1 rfl (Nat.le_of_ble_eq_true rfl) dL_law_1321 ⟨by show 110 + 250 * turn.toNat + 2 ≤ 675069; omega, by show 1500 + 1500 * turn.toNat + 12 ≤ 7076417; omega⟩ (fun z_7 g7 H7 locs7 aw7 hS7 => ?_)
            have th7 : zth_pass σ (1 + z_3) = 0 := by unfold zth_pass; rw [if_neg (by omega), if_neg (by omega)]
            rw [if_pos th7] at hS7
            obtain rfl := aw7.1 th7
            refine z_top (b := dn) (by rw [hdn, show n = (1 + z_3) by omega]; rfl) ?_
            refine lv_iload hx hb dL_law_1324 (lv_at hl 14 rfl) ?_
            refine z_same_ne (tgt := 1333) hx hb dL_law_1326 (by decide) ?_
            refine z_iconst hx hb dL_law_1329 ?_
            refine lv_goto (tgt := 1334) hx hb dL_law_1330 (by decide) ?_
            refine lv_istore (lv' := [(13, .int (zI 1)), (21, .int (zI (1 + z_3))), (0, .ref b), (1, .ref x0), (2, .ref (la 0)), (3, .ref (la 1)), (4, .ref (la 2)), (5, .ref (la 3)), (6, .ref (la 4)), (7, .ref (la 5)), (8, .int (zI d)), (9, .int (zI turn)), (11, .int (zI u)), (12, .int (zI k)), (22, .int (zI dn)), (23, .int (zI n))]) hx hb dL_law_1334 hl (by decide) rfl (fun ls hl => ?_)
            exact W.widen (k := 110 + 250 * turn.toNat + 30) (n := 1500 + 1500 * turn.toNat + 200) (by omega) (by omega) (next d _ _ _ _ _ ls (by omega) (zLaw_pass hZ th7) (by rw [hρ0, show n = (1 + z_3) by omega] at hTL; exact hTL) hS7 (lv_sub hl [2, 3, 4, 5, 6, 7, 8, 9, 10, 11, 12, 0] rfl))
          · refine lv_aload_n hx hb dL_law_1186 rfl (lv_at hl 3 rfl) ?_
            refine z_iconst hx hb dL_law_1187 ?_
            refine lv_dup2_11 hx hb dL_law_1188 rfl rfl ?_
            refine l_ald hx hb hK hSL.2.2.1 0 (by decide) (by show 0 ≤ 0 ∧ 0 < ((6 : Nat) : Int); omega) dL_law_1189 ?_
            refine z_top (b := ρ 1 0) (by rw [hTL.g0]) ?_
            refine z_iconst hx hb dL_law_1190 ?_
            refine z_iadd hx hb dL_law_1191 ?_
            refine l_put hx hb C0 hSL 0 (by decide) (by show 0 ≤ 0 ∧ 0 < ((6 : Nat) : Int); omega) dL_law_1192 (fun HP9 locsP9 hP9 => ?_)
            refine z_iconst hx hb dL_law_1193 ?_
            refine lv_istore (lv' := [(24, .int (zI 0)), (21, .int (zI (1 + z_3))), (0, .ref b), (1, .ref x0), (2, .ref (la 0)), (3, .ref (la 1)), (4, .ref (la 2)), (5, .ref (la 3)), (6, .ref (la 4)), (7, .ref (la 5)), (8, .int (zI d)), (9, .int (zI turn)), (11, .int (zI u)), (12, .int (zI k)), (13, .int (zI 1)), (22, .int (zI dn)), (23, .int (zI n))]) hx hb dL_law_1194 hl (by decide) rfl (fun ls hl => ?_)
            refine z_cap (fun WW_hLi wi_hLi wo_hLi => ?_)
            have hLi : ∀ (nN : Nat) (d2 i : Int) (ls : Array Slot) (τi : zT) (HL : Heap) (locsL : List Loc), d2 = dn + zSum (fun c => zNewV ρ (ρ 1 0 + 1) c True 1) i.toNat → (0 ≤ i ∧ i ≤ σ 14 0) → Rl τi (zAdv ρ i (ρ 1 0 + 1)) → zLV D cI cO A eE x0 la s h3 τi σ g HL locsL → (σ 14 0 - i).toNat < nN → lv_has ls 25 [(21, .int (zI (1 + z_3))), (0, .ref b), (1, .ref x0), (2, .ref (la 0)), (3, .ref (la 1)), (4, .ref (la 2)), (5, .ref (la 3)), (6, .ref (la 4)), (7, .ref (la 5)), (8, .int (zI d)), (9, .int (zI turn)), (11, .int (zI u)), (12, .int (zI k)), (13, .int (zI 1)), (23, .int (zI n)), (22, .int (zI d2)), (24, .int (zI i))] → WW_hLi HL locsL (110 + 250 * turn.toNat) (1500 + 1500 * turn.toNat) (F0 m 1196 ls []) := by
              intro n_hLi
              induction n_hLi with
              | zero => intro d2 i ls τi HL locsL hd2 hi hTi hSi hm; exact absurd hm (Nat.not_lt_zero _)
              | succ n_hLi ih_hLi =>
                intro d2 i ls τi HL locsL hd2 hi hTi hSi hm hl
                refine wi_hLi _ _ _ _ _ ?_
                have rg4 : τi 0 4 = σ 14 0 := hTi.g4.trans n14
                have rg0 : τi 0 0 = ρ 1 0 + 1 := hTi.g0
                refine lv_iload hx hb dL_law_1196 (lv_at hl 16 rfl) ?_
                refine lv_aload_n hx hb dL_law_1198 rfl (lv_at hl 3 rfl) ?_
                refine z_iconst hx hb dL_law_1199 ?_
                refine l_ald hx hb hK hSi.2.2.1 0 (by decide) (by show 0 ≤ 4 ∧ 4 < ((6 : Nat) : Int); omega) dL_law_1200 ?_
                refine z_top (b := σ 14 0) (by rw [rg4]) ?_
                refine z_icmp_ge (tgt := 1312) hx hb dL_law_1201 (by decide) (by omega) (fun c_10 => ?_) (fun c_10 => ?_)
                · refine z_iinc (lv' := [(23, .int (zI (n + 1))), (21, .int (zI (1 + z_3))), (0, .ref b), (1, .ref x0), (2, .ref (la 0)), (3, .ref (la 1)), (4, .ref (la 2)), (5, .ref (la 3)), (6, .ref (la 4)), (7, .ref (la 5)), (8, .int (zI d)), (9, .int (zI turn)), (11, .int (zI u)), (12, .int (zI k)), (13, .int (zI 1)), (22, .int (zI d2)), (24, .int (zI i))]) hx hb dL_law_1312 hl (k := 14) rfl (by decide) rfl (fun ls hl => ?_)
                  refine lv_goto (tgt := 1179) hx hb dL_law_1315 (by decide) ?_
                  exact wo_hLo _ _ _ _ _ (ih_hLo d2 (n + 1) ls _ _ _ (by rw [← zNew_add hI hJ (by omega) hρ (i := i) (by omega), ← hdn]; exact hd2) (by omega) (Rl_minute hI hJ (by omega) hρ (by omega) hTi) (hSi) (by omega) (lv_sub hl [1, 2, 3, 4, 5, 6, 7, 8, 9, 10, 11, 12, 13, 14, 15, 0] rfl))
                · have ri : 0 ≤ i ∧ i < ρ 14 0 := by omega
                  have fi := hIρ.c ri
                  have ji := hJρ.c ri
                  have gi := hIρ.s (i := ρ 15 i) (by omega)
                  have r3 : τi 3 i = pC ρ i := (hTi.c (i := i) ri).trans (pC_adv ρ i _)
                  have r5 : τi 5 i = ρ 20 i := hTi.t (i := i) ri
                  have rs : τi 1 (ρ 15 i) = pS ρ (ρ 15 i) := hTi.s (i := ρ 15 i) fi.1
                  have pci := pC_x hIρ hBρ ri
                  refine lv_aload hx hb dL_law_1204 (lv_at hl 6 rfl) ?_
                  refine lv_iload hx hb dL_law_1206 (lv_at hl 16 rfl) ?_
                  refine l_ald hx hb hK hSi.2.2.1 3 (by decide) (by show 0 ≤ i ∧ i < ((10 : Nat) : Int); omega) dL_law_1208 ?_
                  refine z_top (b := pC ρ i) (by rw [r3]) ?_
                  refine z_cs (As := [.int (zI (pC ρ i))]) (rest := []) ⟨hx, hb, hml, hown, hts⟩ (c_L_stateOf l D cI cO cL HL (pC ρ i) (pC_r hIρ hBρ (i := i) (by omega))) (va_cwS 1 hts gL_law_L_stateOf rfl rfl rfl (by decide +kernel) ⟨(Nat.le_of_ble_eq_true rfl), (Nat.le_of_ble_eq_true rfl)⟩) (zKK_mv D cI cO cL) (fun U _ hv => va_K.moved hv hK) rfl hl.1 rfl (Nat.le_of_ble_eq_true rfl) dL_law_1209 ⟨by show 110 + 250 * turn.toNat ≤ 675069; omega, by show 1500 + 1500 * turn.toNat ≤ 7076417; omega⟩ (fun r_11 hr_11 => ?_)
                  rw [hr_11, pC_t hIρ hBρ (i := i) (by omega)]
                  refine z_iconst hx hb dL_law_1212 ?_
                  refine z_icmp_ne (tgt := 1245) hx hb dL_law_1213 (by decide) (by omega) (fun c_12 => ?_) (fun c_12 => ?_)
                  · refine lv_aload hx hb dL_law_1245 (lv_at hl 6 rfl) ?_
                    refine lv_iload hx hb dL_law_1247 (lv_at hl 16 rfl) ?_
                    refine l_ald hx hb hK hSi.2.2.1 3 (by decide) (by show 0 ≤ i ∧ i < ((10 : Nat) : Int); omega) dL_law_1249 ?_
                    refine z_top (b := pC ρ i) (by rw [r3]) ?_
                    refine z_cs (As := [.int (zI (pC ρ i))]) (rest := []) ⟨hx, hb, hml, hown, hts⟩ (c_L_stateOf l D cI cO cL HL (pC ρ i) (pC_r hIρ hBρ (i := i) (by omega))) (va_cwS 1 hts gL_law_L_stateOf rfl rfl rfl (by decide +kernel) ⟨(Nat.le_of_ble_eq_true rfl), (Nat.le_of_ble_eq_true rfl)⟩) (zKK_mv D cI cO cL) (fun U _ hv => va_K.moved hv hK) rfl hl.1 rfl (Nat.le_of_ble_eq_true rfl) dL_law_1250 ⟨by show 110 + 250 * turn.toNat ≤ 675069; omega, by show 1500 + 1500 * turn.toNat ≤ 7076417; omega⟩ (fun r_13 hr_13 => ?_)
                    rw [hr_13, pC_t hIρ hBρ (i := i) (by omega)]
                    refine z_iconst hx hb dL_law_1253 ?_
                    refine z_icmp_ne (tgt := 1306) hx hb dL_law_1254 (by decide) (by omega) (fun c_14 => ?_) (fun c_14 => ?_)
                    · have hst : zSt ρ (i + 1) (ρ 1 0 + 1) i = ρ 19 i := by rw [zSt_i hi.1]; (repeat' split) <;> omega
                      refine z_iinc (lv' := [(24, .int (zI (i + 1))), (21, .int (zI (1 + z_3))), (0, .ref b), (1, .ref x0), (2, .ref (la 0)), (3, .ref (la 1)), (4, .ref (la 2)), (5, .ref (la 3)), (6, .ref (la 4)), (7, .ref (la 5)), (8, .int (zI d)), (9, .int (zI turn)), (11, .int (zI u)), (12, .int (zI k)), (13, .int (zI 1)), (23, .int (zI n)), (22, .int (zI d2))]) hx hb dL_law_1306 hl (k := 16) rfl (by decide) rfl (fun ls hl => ?_)
                      refine lv_goto (tgt := 1196) hx hb dL_law_1309 (by decide) ?_
                      exact wo_hLi _ _ _ _ _ (ih_hLi d2 (i + 1) ls _ _ _ (by rw [zSum_i _ hi.1, zNewV_f (by omega)]; omega) (by omega) (by exact Rl_adv hTi (by omega) (by intro t j h1; repeat (first | exact rfl | rw [zup_e2 (by omega)])) (by rw [r3, hst]; have := pC_t hIρ hBρ (i := i) (by omega); omega) hIρ hBρ) (hSi) (by omega) (lv_sub hl [1, 2, 3, 4, 5, 6, 7, 8, 9, 10, 11, 12, 13, 14, 15, 16, 0] rfl))
                    · refine lv_aload hx hb dL_law_1257 (lv_at hl 8 rfl) ?_
                      refine lv_iload hx hb dL_law_1259 (lv_at hl 16 rfl) ?_
                      refine l_ald hx hb hK hSi.2.2.1 5 (by decide) (by show 0 ≤ i ∧ i < ((10 : Nat) : Int); omega) dL_law_1261 ?_
                      refine z_top (b := ρ 20 i) (by rw [r5]) ?_
                      refine lv_aload_n hx hb dL_law_1262 rfl (lv_at hl 4 rfl) ?_
                      refine lv_aload hx hb dL_law_1263 (lv_at hl 6 rfl) ?_
                      refine lv_iload hx hb dL_law_1265 (lv_at hl 16 rfl) ?_
                      refine l_ald hx hb hK hSi.2.2.1 3 (by decide) (by show 0 ≤ i ∧ i < ((10 : Nat) : Int); omega) dL_law_1267 ?_
                      refine z_top (b := pC ρ i) (by rw [r3]) ?_
                      refine z_cs (As := [.int (zI (pC ρ i))]) (rest := [.ref (la 1), .int (zI (ρ 20 i))]) ⟨hx, hb, hml, hown, hts⟩ (c_L_shipOf l D cI cO cL HL (pC ρ i) (pC_r hIρ hBρ (i := i) (by omega))) (va_cwS 1 hts gL_law_L_shipOf rfl rfl rfl (by decide +kernel) ⟨(Nat.le_of_ble_eq_true rfl), (Nat.le_of_ble_eq_true rfl)⟩) (zKK_mv D cI cO cL) (fun U _ hv => va_K.moved hv hK) rfl hl.1 rfl (Nat.le_of_ble_eq_true rfl) dL_law_1268 ⟨by show 110 + 250 * turn.toNat ≤ 675069; omega, by show 1500 + 1500 * turn.toNat ≤ 7076417; omega⟩ (fun r_15 hr_15 => ?_)
                      rw [hr_15, pC_s hIρ hBρ (i := i) (by omega)]
                      refine l_ald hx hb hK hSi.2.2.1 1 (by decide) (by show 0 ≤ (ρ 15 i) ∧ (ρ 15 i) < ((6 : Nat) : Int); omega) dL_law_1271 ?_
                      refine z_top (b := pS ρ (ρ 15 i)) (by rw [rs]) ?_
                      refine z_cs (As := [.int (zI (pS ρ (ρ 15 i)))]) (rest := [.int (zI (ρ 20 i))]) ⟨hx, hb, hml, hown, hts⟩ (c_L_takes l D cI cO cL HL (pS ρ (ρ 15 i)) (pS_r hIρ (i := (ρ 15 i)) (by omega))) (va_cwS 1 hts gL_law_L_takes rfl rfl rfl (by decide +kernel) ⟨(Nat.le_of_ble_eq_true rfl), (Nat.le_of_ble_eq_true rfl)⟩) (zKK_mv D cI cO cL) (fun U _ hv => va_K.moved hv hK) rfl hl.1 rfl (Nat.le_of_ble_eq_true rfl) dL_law_1272 ⟨by show 110 + 250 * turn.toNat ≤ 675069; omega, by show 1500 + 1500 * turn.toNat ≤ 7076417; omega⟩ (fun r_16 hr_16 => ?_)
                      rw [hr_16, pS_t hIρ (i := (ρ 15 i)) (by omega)]
                      refine z_iadd hx hb dL_law_1275 ?_
                      refine lv_aload_n hx hb dL_law_1276 rfl (lv_at hl 3 rfl) ?_
                      refine z_iconst hx hb dL_law_1277 ?_
                      refine l_ald hx hb hK hSi.2.2.1 0 (by decide) (by show 0 ≤ 0 ∧ 0 < ((6 : Nat) : Int); omega) dL_law_1278 ?_
                      refine z_top (b := ρ 1 0 + 1) (by rw [rg0]) ?_
                      refine z_icmp_le (tgt := 1285) hx hb dL_law_1279 (by decide) (by omega) (fun c_17 => ?_) (fun c_17 => ?_)
                      · refine lv_aload hx hb dL_law_1285 (lv_at hl 6 rfl) ?_
                        refine lv_iload hx hb dL_law_1287 (lv_at hl 16 rfl) ?_
                        refine lv_aload hx hb dL_law_1289 (lv_at hl 6 rfl) ?_
                        refine lv_iload hx hb dL_law_1291 (lv_at hl 16 rfl) ?_
                        refine l_ald hx hb hK hSi.2.2.1 3 (by decide) (by show 0 ≤ i ∧ i < ((10 : Nat) : Int); omega) dL_law_1293 ?_
                        refine z_top (b := pC ρ i) (by rw [r3]) ?_
                        refine z_sipush hx hb dL_law_1294 (by decide +kernel) ?_
                        refine l_and hx hb 10 (by decide +kernel) dL_law_1297 (by have := pC_r hIρ hBρ (i := i) (by omega); omega) ?_
                        refine z_top (b := pC ρ i % 1024) (by show _ % (1024 : Int) = _; omega) ?_
                        refine z_sipush hx hb dL_law_1298 (by decide +kernel) ?_
                        refine l_or hx hb 10 4 (by decide) (by decide) (by show 0 ≤ _ ∧ _ < (1024 : Int); omega) (by decide) dL_law_1301 ?_
                        refine z_top (b := pC ρ i % 1024 + 1024 * 4) rfl ?_
                        refine l_put hx hb C0 hSi 3 (by decide) (by show 0 ≤ i ∧ i < ((10 : Nat) : Int); omega) dL_law_1302 (fun HP18 locsP18 hP18 => ?_)
                        refine z_iinc (lv' := [(22, .int (zI (d2 + 1))), (21, .int (zI (1 + z_3))), (0, .ref b), (1, .ref x0), (2, .ref (la 0)), (3, .ref (la 1)), (4, .ref (la 2)), (5, .ref (la 3)), (6, .ref (la 4)), (7, .ref (la 5)), (8, .int (zI d)), (9, .int (zI turn)), (11, .int (zI u)), (12, .int (zI k)), (13, .int (zI 1)), (23, .int (zI n)), (24, .int (zI i))]) hx hb dL_law_1303 hl (k := 15) rfl (by decide) rfl (fun ls hl => ?_)
                        have hst : zSt ρ (i + 1) (ρ 1 0 + 1) i = 4 := by rw [zSt_i hi.1]; (repeat' split) <;> omega
                        refine z_iinc (lv' := [(24, .int (zI (i + 1))), (22, .int (zI (d2 + 1))), (21, .int (zI (1 + z_3))), (0, .ref b), (1, .ref x0), (2, .ref (la 0)), (3, .ref (la 1)), (4, .ref (la 2)), (5, .ref (la 3)), (6, .ref (la 4)), (7, .ref (la 5)), (8, .int (zI d)), (9, .int (zI turn)), (11, .int (zI u)), (12, .int (zI k)), (13, .int (zI 1)), (23, .int (zI n))]) hx hb dL_law_1306 hl (k := 16) rfl (by decide) rfl (fun ls hl => ?_)
                        refine lv_goto (tgt := 1196) hx hb dL_law_1309 (by decide) ?_
                        exact wo_hLi _ _ _ _ _ (ih_hLi (d2 + 1) (i + 1) ls _ _ _ (by rw [zSum_i _ hi.1, zNewV_t ⟨by omega, by omega⟩ trivial]; omega) (by omega) (by exact Rl_adv hTi (by omega) (by intro t j h1; repeat (first | exact rfl | rw [zup_e2 (by omega)])) (by rw [zup_s, hst]) hIρ hBρ) (hP18) (by omega) (lv_sub hl [2, 3, 4, 5, 6, 7, 8, 9, 10, 11, 12, 13, 14, 15, 16, 1, 0] rfl))
                      · refine lv_goto (tgt := 1306) hx hb dL_law_1282 (by decide) ?_
                        have hst : zSt ρ (i + 1) (ρ 1 0 + 1) i = ρ 19 i := by rw [zSt_i hi.1]; (repeat' split) <;> omega
                        refine z_iinc (lv' := [(24, .int (zI (i + 1))), (21, .int (zI (1 + z_3))), (0, .ref b), (1, .ref x0), (2, .ref (la 0)), (3, .ref (la 1)), (4, .ref (la 2)), (5, .ref (la 3)), (6, .ref (la 4)), (7, .ref (la 5)), (8, .int (zI d)), (9, .int (zI turn)), (11, .int (zI u)), (12, .int (zI k)), (13, .int (zI 1)), (23, .int (zI n)), (22, .int (zI d2))]) hx hb dL_law_1306 hl (k := 16) rfl (by decide) rfl (fun ls hl => ?_)
                        refine lv_goto (tgt := 1196) hx hb dL_law_1309 (by decide) ?_
                        exact wo_hLi _ _ _ _ _ (ih_hLi d2 (i + 1) ls _ _ _ (by rw [zSum_i _ hi.1, zNewV_f (by omega)]; omega) (by omega) (by exact Rl_adv hTi (by omega) (by intro t j h1; repeat (first | exact rfl | rw [zup_e2 (by omega)])) (by rw [r3, hst]; have := pC_t hIρ hBρ (i := i) (by omega); omega) hIρ hBρ) (hSi) (by omega) (lv_sub hl [1, 2, 3, 4, 5, 6, 7, 8, 9, 10, 11, 12, 13, 14, 15, 16, 0] rfl))
                  · refine lv_aload hx hb dL_law_1216 (lv_at hl 8 rfl) ?_
                    refine lv_iload hx hb dL_law_1218 (lv_at hl 16 rfl) ?_
                    refine l_ald hx hb hK hSi.2.2.1 5 (by decide) (by show 0 ≤ i ∧ i < ((10 : Nat) : Int); omega) dL_law_1220 ?_
                    refine z_top (b := ρ 20 i) (by rw [r5]) ?_
                    refine lv_aload_n hx hb dL_law_1221 rfl (lv_at hl 3 rfl) ?_
                    refine z_iconst hx hb dL_law_1222 ?_
                    refine l_ald hx hb hK hSi.2.2.1 0 (by decide) (by show 0 ≤ 0 ∧ 0 < ((6 : Nat) : Int); omega) dL_law_1223 ?_
                    refine z_top (b := ρ 1 0 + 1) (by rw [rg0]) ?_
                    refine z_icmp_ne (tgt := 1245) hx hb dL_law_1224 (by decide) (by omega) (fun c_19 => ?_) (fun c_19 => ?_)
                    · refine lv_aload hx hb dL_law_1245 (lv_at hl 6 rfl) ?_
                      refine lv_iload hx hb dL_law_1247 (lv_at hl 16 rfl) ?_
                      refine l_ald hx hb hK hSi.2.2.1 3 (by decide) (by show 0 ≤ i ∧ i < ((10 : Nat) : Int); omega) dL_law_1249 ?_
                      refine z_top (b := pC ρ i) (by rw [r3]) ?_
                      refine z_cs (As := [.int (zI (pC ρ i))]) (rest := []) ⟨hx, hb, hml, hown, hts⟩ (c_L_stateOf l D cI cO cL HL (pC ρ i) (pC_r hIρ hBρ (i := i) (by omega))) (va_cwS 1 hts gL_law_L_stateOf rfl rfl rfl (by decide +kernel) ⟨(Nat.le_of_ble_eq_true rfl), (Nat.le_of_ble_eq_true rfl)⟩) (zKK_mv D cI cO cL) (fun U _ hv => va_K.moved hv hK) rfl hl.1 rfl (Nat.le_of_ble_eq_true rfl) dL_law_1250 ⟨by show 110 + 250 * turn.toNat ≤ 675069; omega, by show 1500 + 1500 * turn.toNat ≤ 7076417; omega⟩ (fun r_20 hr_20 => ?_)
                      rw [hr_20, pC_t hIρ hBρ (i := i) (by omega)]
                      refine z_iconst hx hb dL_law_1253 ?_
                      refine z_icmp_ne (tgt := 1306) hx hb dL_law_1254 (by decide) (by omega) (fun c_21 => ?_) (fun c_21 => ?_)
                      · have hst : zSt ρ (i + 1) (ρ 1 0 + 1) i = ρ 19 i := by rw [zSt_i hi.1]; (repeat' split) <;> omega
                        refine z_iinc (lv' := [(24, .int (zI (i + 1))), (21, .int (zI (1 + z_3))), (0, .ref b), (1, .ref x0), (2, .ref (la 0)), (3, .ref (la 1)), (4, .ref (la 2)), (5, .ref (la 3)), (6, .ref (la 4)), (7, .ref (la 5)), (8, .int (zI d)), (9, .int (zI turn)), (11, .int (zI u)), (12, .int (zI k)), (13, .int (zI 1)), (23, .int (zI n)), (22, .int (zI d2))]) hx hb dL_law_1306 hl (k := 16) rfl (by decide) rfl (fun ls hl => ?_)
                        refine lv_goto (tgt := 1196) hx hb dL_law_1309 (by decide) ?_
                        exact wo_hLi _ _ _ _ _ (ih_hLi d2 (i + 1) ls _ _ _ (by rw [zSum_i _ hi.1, zNewV_f (by omega)]; omega) (by omega) (by exact Rl_adv hTi (by omega) (by intro t j h1; repeat (first | exact rfl | rw [zup_e2 (by omega)])) (by rw [r3, hst]; have := pC_t hIρ hBρ (i := i) (by omega); omega) hIρ hBρ) (hSi) (by omega) (lv_sub hl [1, 2, 3, 4, 5, 6, 7, 8, 9, 10, 11, 12, 13, 14, 15, 16, 0] rfl))
                      · refine lv_aload hx hb dL_law_1257 (lv_at hl 8 rfl) ?_
                        refine lv_iload hx hb dL_law_1259 (lv_at hl 16 rfl) ?_
                        refine l_ald hx hb hK hSi.2.2.1 5 (by decide) (by show 0 ≤ i ∧ i < ((10 : Nat) : Int); omega) dL_law_1261 ?_
                        refine z_top (b := ρ 20 i) (by rw [r5]) ?_
                        refine lv_aload_n hx hb dL_law_1262 rfl (lv_at hl 4 rfl) ?_
                        refine lv_aload hx hb dL_law_1263 (lv_at hl 6 rfl) ?_
                        refine lv_iload hx hb dL_law_1265 (lv_at hl 16 rfl) ?_
                        refine l_ald hx hb hK hSi.2.2.1 3 (by decide) (by show 0 ≤ i ∧ i < ((10 : Nat) : Int); omega) dL_law_1267 ?_
                        refine z_top (b := pC ρ i) (by rw [r3]) ?_
                        refine z_cs (As := [.int (zI (pC ρ i))]) (rest := [.ref (la 1), .int (zI (ρ 20 i))]) ⟨hx, hb, hml, hown, hts⟩ (c_L_shipOf l D cI cO cL HL (pC ρ i) (pC_r hIρ hBρ (i := i) (by omega))) (va_cwS 1 hts gL_law_L_shipOf rfl rfl rfl (by decide +kernel) ⟨(Nat.le_of_ble_eq_true rfl), (Nat.le_of_ble_eq_true rfl)⟩) (zKK_mv D cI cO cL) (fun U _ hv => va_K.moved hv hK) rfl hl.1 rfl (Nat.le_of_ble_eq_true rfl) dL_law_1268 ⟨by show 110 + 250 * turn.toNat ≤ 675069; omega, by show 1500 + 1500 * turn.toNat ≤ 7076417; omega⟩ (fun r_22 hr_22 => ?_)
                        rw [hr_22, pC_s hIρ hBρ (i := i) (by omega)]
                        refine l_ald hx hb hK hSi.2.2.1 1 (by decide) (by show 0 ≤ (ρ 15 i) ∧ (ρ 15 i) < ((6 : Nat) : Int); omega) dL_law_1271 ?_
                        refine z_top (b := pS ρ (ρ 15 i)) (by rw [rs]) ?_
                        refine z_cs (As := [.int (zI (pS ρ (ρ 15 i)))]) (rest := [.int (zI (ρ 20 i))]) ⟨hx, hb, hml, hown, hts⟩ (c_L_takes l D cI cO cL HL (pS ρ (ρ 15 i)) (pS_r hIρ (i := (ρ 15 i)) (by omega))) (va_cwS 1 hts gL_law_L_takes rfl rfl rfl (by decide +kernel) ⟨(Nat.le_of_ble_eq_true rfl), (Nat.le_of_ble_eq_true rfl)⟩) (zKK_mv D cI cO cL) (fun U _ hv => va_K.moved hv hK) rfl hl.1 rfl (Nat.le_of_ble_eq_true rfl) dL_law_1272 ⟨by show 110 + 250 * turn.toNat ≤ 675069; omega, by show 1500 + 1500 * turn.toNat ≤ 7076417; omega⟩ (fun r_23 hr_23 => ?_)
                        rw [hr_23, pS_t hIρ (i := (ρ 15 i)) (by omega)]
                        refine z_iadd hx hb dL_law_1275 ?_
                        refine lv_aload_n hx hb dL_law_1276 rfl (lv_at hl 3 rfl) ?_
                        refine z_iconst hx hb dL_law_1277 ?_
                        refine l_ald hx hb hK hSi.2.2.1 0 (by decide) (by show 0 ≤ 0 ∧ 0 < ((6 : Nat) : Int); omega) dL_law_1278 ?_
                        refine z_top (b := ρ 1 0 + 1) (by rw [rg0]) ?_
                        refine z_icmp_le (tgt := 1285) hx hb dL_law_1279 (by decide) (by omega) (fun c_24 => ?_) (fun c_24 => ?_)
                        · refine lv_aload hx hb dL_law_1285 (lv_at hl 6 rfl) ?_
                          refine lv_iload hx hb dL_law_1287 (lv_at hl 16 rfl) ?_
                          refine lv_aload hx hb dL_law_1289 (lv_at hl 6 rfl) ?_
                          refine lv_iload hx hb dL_law_1291 (lv_at hl 16 rfl) ?_
                          refine l_ald hx hb hK hSi.2.2.1 3 (by decide) (by show 0 ≤ i ∧ i < ((10 : Nat) : Int); omega) dL_law_1293 ?_
                          refine z_top (b := pC ρ i) (by rw [r3]) ?_
                          refine z_sipush hx hb dL_law_1294 (by decide +kernel) ?_
                          refine l_and hx hb 10 (by decide +kernel) dL_law_1297 (by have := pC_r hIρ hBρ (i := i) (by omega); omega) ?_
                          refine z_top (b := pC ρ i % 1024) (by show _ % (1024 : Int) = _; omega) ?_
                          refine z_sipush hx hb dL_law_1298 (by decide +kernel) ?_
                          refine l_or hx hb 10 4 (by decide) (by decide) (by show 0 ≤ _ ∧ _ < (1024 : Int); omega) (by decide) dL_law_1301 ?_
                          refine z_top (b := pC ρ i % 1024 + 1024 * 4) rfl ?_
                          refine l_put hx hb C0 hSi 3 (by decide) (by show 0 ≤ i ∧ i < ((10 : Nat) : Int); omega) dL_law_1302 (fun HP25 locsP25 hP25 => ?_)
                          refine z_iinc (lv' := [(22, .int (zI (d2 + 1))), (21, .int (zI (1 + z_3))), (0, .ref b), (1, .ref x0), (2, .ref (la 0)), (3, .ref (la 1)), (4, .ref (la 2)), (5, .ref (la 3)), (6, .ref (la 4)), (7, .ref (la 5)), (8, .int (zI d)), (9, .int (zI turn)), (11, .int (zI u)), (12, .int (zI k)), (13, .int (zI 1)), (23, .int (zI n)), (24, .int (zI i))]) hx hb dL_law_1303 hl (k := 15) rfl (by decide) rfl (fun ls hl => ?_)
                          have hst : zSt ρ (i + 1) (ρ 1 0 + 1) i = 4 := by rw [zSt_i hi.1]; (repeat' split) <;> omega
                          refine z_iinc (lv' := [(24, .int (zI (i + 1))), (22, .int (zI (d2 + 1))), (21, .int (zI (1 + z_3))), (0, .ref b), (1, .ref x0), (2, .ref (la 0)), (3, .ref (la 1)), (4, .ref (la 2)), (5, .ref (la 3)), (6, .ref (la 4)), (7, .ref (la 5)), (8, .int (zI d)), (9, .int (zI turn)), (11, .int (zI u)), (12, .int (zI k)), (13, .int (zI 1)), (23, .int (zI n))]) hx hb dL_law_1306 hl (k := 16) rfl (by decide) rfl (fun ls hl => ?_)
                          refine lv_goto (tgt := 1196) hx hb dL_law_1309 (by decide) ?_
                          exact wo_hLi _ _ _ _ _ (ih_hLi (d2 + 1) (i + 1) ls _ _ _ (by rw [zSum_i _ hi.1, zNewV_t ⟨by omega, by omega⟩ trivial]; omega) (by omega) (by exact Rl_adv hTi (by omega) (by intro t j h1; repeat (first | exact rfl | rw [zup_e2 (by omega)])) (by rw [zup_s, hst]) hIρ hBρ) (hP25) (by omega) (lv_sub hl [2, 3, 4, 5, 6, 7, 8, 9, 10, 11, 12, 13, 14, 15, 16, 1, 0] rfl))
                        · refine lv_goto (tgt := 1306) hx hb dL_law_1282 (by decide) ?_
                          have hst : zSt ρ (i + 1) (ρ 1 0 + 1) i = ρ 19 i := by rw [zSt_i hi.1]; (repeat' split) <;> omega
                          refine z_iinc (lv' := [(24, .int (zI (i + 1))), (21, .int (zI (1 + z_3))), (0, .ref b), (1, .ref x0), (2, .ref (la 0)), (3, .ref (la 1)), (4, .ref (la 2)), (5, .ref (la 3)), (6, .ref (la 4)), (7, .ref (la 5)), (8, .int (zI d)), (9, .int (zI turn)), (11, .int (zI u)), (12, .int (zI k)), (13, .int (zI 1)), (23, .int (zI n)), (22, .int (zI d2))]) hx hb dL_law_1306 hl (k := 16) rfl (by decide) rfl (fun ls hl => ?_)
                          refine lv_goto (tgt := 1196) hx hb dL_law_1309 (by decide) ?_
                          exact wo_hLi _ _ _ _ _ (ih_hLi d2 (i + 1) ls _ _ _ (by rw [zSum_i _ hi.1, zNewV_f (by omega)]; omega) (by omega) (by exact Rl_adv hTi (by omega) (by intro t j h1; repeat (first | exact rfl | rw [zup_e2 (by omega)])) (by rw [r3, hst]; have := pC_t hIρ hBρ (i := i) (by omega); omega) hIρ hBρ) (hSi) (by omega) (lv_sub hl [1, 2, 3, 4, 5, 6, 7, 8, 9, 10, 11, 12, 13, 14, 15, 16, 0] rfl))
                    · refine lv_aload hx hb dL_law_1227 (lv_at hl 6 rfl) ?_
                      refine lv_iload hx hb dL_law_1229 (lv_at hl 16 rfl) ?_
                      refine lv_aload hx hb dL_law_1231 (lv_at hl 6 rfl) ?_
                      refine lv_iload hx hb dL_law_1233 (lv_at hl 16 rfl) ?_
                      refine l_ald hx hb hK hSi.2.2.1 3 (by decide) (by show 0 ≤ i ∧ i < ((10 : Nat) : Int); omega) dL_law_1235 ?_
                      refine z_top (b := pC ρ i) (by rw [r3]) ?_
                      refine z_sipush hx hb dL_law_1236 (by decide +kernel) ?_
                      refine l_and hx hb 10 (by decide +kernel) dL_law_1239 (by have := pC_r hIρ hBρ (i := i) (by omega); omega) ?_
                      refine z_top (b := pC ρ i % 1024) (by show _ % (1024 : Int) = _; omega) ?_
                      refine z_sipush hx hb dL_law_1240 (by decide +kernel) ?_
                      refine l_or hx hb 10 3 (by decide) (by decide) (by show 0 ≤ _ ∧ _ < (1024 : Int); omega) (by decide) dL_law_1243 ?_
                      refine z_top (b := pC ρ i % 1024 + 1024 * 3) rfl ?_
                      refine l_put hx hb C0 hSi 3 (by decide) (by show 0 ≤ i ∧ i < ((10 : Nat) : Int); omega) dL_law_1244 (fun HP26 locsP26 hP26 => ?_)
                      refine lv_aload hx hb dL_law_1245 (lv_at hl 6 rfl) ?_
                      refine lv_iload hx hb dL_law_1247 (lv_at hl 16 rfl) ?_
                      refine l_ald hx hb hK hP26.2.2.1 3 (by decide) (by show 0 ≤ i ∧ i < ((10 : Nat) : Int); omega) dL_law_1249 ?_
                      refine z_top (b := (pC ρ i % 1024 + 1024 * 3)) (by rw [zup_s]) ?_
                      refine z_cs (As := [.int (zI (pC ρ i % 1024 + 1024 * 3))]) (rest := []) ⟨hx, hb, hml, hown, hts⟩ (c_L_stateOf l D cI cO cL HP26 (pC ρ i % 1024 + 1024 * 3) (by omega)) (va_cwS 1 hts gL_law_L_stateOf rfl rfl rfl (by decide +kernel) ⟨(Nat.le_of_ble_eq_true rfl), (Nat.le_of_ble_eq_true rfl)⟩) (zKK_mv D cI cO cL) (fun U _ hv => va_K.moved hv hK) rfl hl.1 rfl (Nat.le_of_ble_eq_true rfl) dL_law_1250 ⟨by show 110 + 250 * turn.toNat ≤ 675069; omega, by show 1500 + 1500 * turn.toNat ≤ 7076417; omega⟩ (fun r_27 hr_27 => ?_)
                      rw [hr_27]
                      refine z_top (b := 3) (by omega) ?_
                      refine z_iconst hx hb dL_law_1253 ?_
                      refine z_same_ne (tgt := 1306) hx hb dL_law_1254 (by decide) ?_
                      refine lv_aload hx hb dL_law_1257 (lv_at hl 8 rfl) ?_
                      refine lv_iload hx hb dL_law_1259 (lv_at hl 16 rfl) ?_
                      refine l_ald hx hb hK hP26.2.2.1 5 (by decide) (by show 0 ≤ i ∧ i < ((10 : Nat) : Int); omega) dL_law_1261 ?_
                      refine z_top (b := ρ 20 i) (by rw [zup_t (t := 3) (t' := 5) (by decide), r5]) ?_
                      refine lv_aload_n hx hb dL_law_1262 rfl (lv_at hl 4 rfl) ?_
                      refine lv_aload hx hb dL_law_1263 (lv_at hl 6 rfl) ?_
                      refine lv_iload hx hb dL_law_1265 (lv_at hl 16 rfl) ?_
                      refine l_ald hx hb hK hP26.2.2.1 3 (by decide) (by show 0 ≤ i ∧ i < ((10 : Nat) : Int); omega) dL_law_1267 ?_
                      refine z_top (b := (pC ρ i % 1024 + 1024 * 3)) (by rw [zup_s]) ?_
                      refine z_cs (As := [.int (zI (pC ρ i % 1024 + 1024 * 3))]) (rest := [.ref (la 1), .int (zI (ρ 20 i))]) ⟨hx, hb, hml, hown, hts⟩ (c_L_shipOf l D cI cO cL HP26 (pC ρ i % 1024 + 1024 * 3) (by omega)) (va_cwS 1 hts gL_law_L_shipOf rfl rfl rfl (by decide +kernel) ⟨(Nat.le_of_ble_eq_true rfl), (Nat.le_of_ble_eq_true rfl)⟩) (zKK_mv D cI cO cL) (fun U _ hv => va_K.moved hv hK) rfl hl.1 rfl (Nat.le_of_ble_eq_true rfl) dL_law_1268 ⟨by show 110 + 250 * turn.toNat ≤ 675069; omega, by show 1500 + 1500 * turn.toNat ≤ 7076417; omega⟩ (fun r_29 hr_29 => ?_)
                      rw [hr_29]
                      refine z_top (b := ρ 15 i) (by have := pC_s hIρ hBρ (i := i) (by omega); omega) ?_
                      refine l_ald hx hb hK hP26.2.2.1 1 (by decide) (by show 0 ≤ (ρ 15 i) ∧ (ρ 15 i) < ((6 : Nat) : Int); omega) dL_law_1271 ?_
                      refine z_top (b := pS ρ (ρ 15 i)) (by rw [zup_t (t := 3) (t' := 1) (by decide), rs]) ?_
                      refine z_cs (As := [.int (zI (pS ρ (ρ 15 i)))]) (rest := [.int (zI (ρ 20 i))]) ⟨hx, hb, hml, hown, hts⟩ (c_L_takes l D cI cO cL HP26 (pS ρ (ρ 15 i)) (pS_r hIρ (i := (ρ 15 i)) (by omega))) (va_cwS 1 hts gL_law_L_takes rfl rfl rfl (by decide +kernel) ⟨(Nat.le_of_ble_eq_true rfl), (Nat.le_of_ble_eq_true rfl)⟩) (zKK_mv D cI cO cL) (fun U _ hv => va_K.moved hv hK) rfl hl.1 rfl (Nat.le_of_ble_eq_true rfl) dL_law_1272 ⟨by show 110 + 250 * turn.toNat ≤ 675069; omega, by show 1500 + 1500 * turn.toNat ≤ 7076417; omega⟩ (fun r_30 hr_30 => ?_)
                      rw [hr_30, pS_t hIρ (i := (ρ 15 i)) (by omega)]
                      refine z_iadd hx hb dL_law_1275 ?_
                      refine lv_aload_n hx hb dL_law_1276 rfl (lv_at hl 3 rfl) ?_
                      refine z_iconst hx hb dL_law_1277 ?_
                      refine l_ald hx hb hK hP26.2.2.1 0 (by decide) (by show 0 ≤ 0 ∧ 0 < ((6 : Nat) : Int); omega) dL_law_1278 ?_
                      refine z_top (b := ρ 1 0 + 1) (by rw [zup_t (t := 3) (t' := 0) (by decide), rg0]) ?_
                      refine z_icmp_le (tgt := 1285) hx hb dL_law_1279 (by decide) (by omega) (fun c_31 => ?_) (fun c_31 => ?_)
                      · refine lv_aload hx hb dL_law_1285 (lv_at hl 6 rfl) ?_
                        refine lv_iload hx hb dL_law_1287 (lv_at hl 16 rfl) ?_
                        refine lv_aload hx hb dL_law_1289 (lv_at hl 6 rfl) ?_
                        refine lv_iload hx hb dL_law_1291 (lv_at hl 16 rfl) ?_
                        refine l_ald hx hb hK hP26.2.2.1 3 (by decide) (by show 0 ≤ i ∧ i < ((10 : Nat) : Int); omega) dL_law_1293 ?_
                        refine z_top (b := (pC ρ i % 1024 + 1024 * 3)) (by rw [zup_s]) ?_
                        refine z_sipush hx hb dL_law_1294 (by decide +kernel) ?_
                        refine l_and hx hb 10 (by decide +kernel) dL_law_1297 (by have := pC_r hIρ hBρ (i := i) (by omega); omega) ?_
                        refine z_top (b := pC ρ i % 1024) (by show _ % (1024 : Int) = _; omega) ?_
                        refine z_sipush hx hb dL_law_1298 (by decide +kernel) ?_
                        refine l_or hx hb 10 4 (by decide) (by decide) (by show 0 ≤ _ ∧ _ < (1024 : Int); omega) (by decide) dL_law_1301 ?_
                        refine z_top (b := pC ρ i % 1024 + 1024 * 4) rfl ?_
                        refine l_put hx hb C0 hP26 3 (by decide) (by show 0 ≤ i ∧ i < ((10 : Nat) : Int); omega) dL_law_1302 (fun HP32 locsP32 hP32 => ?_)
                        rw [zup_2] at hP32
                        refine z_iinc (lv' := [(22, .int (zI (d2 + 1))), (21, .int (zI (1 + z_3))), (0, .ref b), (1, .ref x0), (2, .ref (la 0)), (3, .ref (la 1)), (4, .ref (la 2)), (5, .ref (la 3)), (6, .ref (la 4)), (7, .ref (la 5)), (8, .int (zI d)), (9, .int (zI turn)), (11, .int (zI u)), (12, .int (zI k)), (13, .int (zI 1)), (23, .int (zI n)), (24, .int (zI i))]) hx hb dL_law_1303 hl (k := 15) rfl (by decide) rfl (fun ls hl => ?_)
                        have hst : zSt ρ (i + 1) (ρ 1 0 + 1) i = 4 := by rw [zSt_i hi.1]; (repeat' split) <;> omega
                        refine z_iinc (lv' := [(24, .int (zI (i + 1))), (22, .int (zI (d2 + 1))), (21, .int (zI (1 + z_3))), (0, .ref b), (1, .ref x0), (2, .ref (la 0)), (3, .ref (la 1)), (4, .ref (la 2)), (5, .ref (la 3)), (6, .ref (la 4)), (7, .ref (la 5)), (8, .int (zI d)), (9, .int (zI turn)), (11, .int (zI u)), (12, .int (zI k)), (13, .int (zI 1)), (23, .int (zI n))]) hx hb dL_law_1306 hl (k := 16) rfl (by decide) rfl (fun ls hl => ?_)
                        refine lv_goto (tgt := 1196) hx hb dL_law_1309 (by decide) ?_
                        exact wo_hLi _ _ _ _ _ (ih_hLi (d2 + 1) (i + 1) ls _ _ _ (by rw [zSum_i _ hi.1, zNewV_t ⟨by omega, by omega⟩ trivial]; omega) (by omega) (by exact Rl_adv hTi (by omega) (by intro t j h1; repeat (first | exact rfl | rw [zup_e2 (by omega)])) (by rw [zup_s, hst]) hIρ hBρ) (hP32) (by omega) (lv_sub hl [2, 3, 4, 5, 6, 7, 8, 9, 10, 11, 12, 13, 14, 15, 16, 1, 0] rfl))
                      · refine lv_goto (tgt := 1306) hx hb dL_law_1282 (by decide) ?_
                        have hst : zSt ρ (i + 1) (ρ 1 0 + 1) i = 3 := by rw [zSt_i hi.1]; (repeat' split) <;> omega
                        refine z_iinc (lv' := [(24, .int (zI (i + 1))), (21, .int (zI (1 + z_3))), (0, .ref b), (1, .ref x0), (2, .ref (la 0)), (3, .ref (la 1)), (4, .ref (la 2)), (5, .ref (la 3)), (6, .ref (la 4)), (7, .ref (la 5)), (8, .int (zI d)), (9, .int (zI turn)), (11, .int (zI u)), (12, .int (zI k)), (13, .int (zI 1)), (23, .int (zI n)), (22, .int (zI d2))]) hx hb dL_law_1306 hl (k := 16) rfl (by decide) rfl (fun ls hl => ?_)
                        refine lv_goto (tgt := 1196) hx hb dL_law_1309 (by decide) ?_
                        exact wo_hLi _ _ _ _ _ (ih_hLi d2 (i + 1) ls _ _ _ (by rw [zSum_i _ hi.1, zNewV_f (by omega)]; omega) (by omega) (by exact Rl_adv hTi (by omega) (by intro t j h1; repeat (first | exact rfl | rw [zup_e2 (by omega)])) (by rw [zup_s, hst]) hIρ hBρ) (hP26) (by omega) (lv_sub hl [1, 2, 3, 4, 5, 6, 7, 8, 9, 10, 11, 12, 13, 14, 15, 16, 0] rfl))
            exact wo_hLi _ _ _ _ _ (hLi _ dn 0 ls _ _ _ (by show _ = _ + (0 : Int); omega) (by omega) (by exact Rl_tick hTL (by rw [zup_s]) (fun t j h1 => zup_e2 h1)) (hP9) (Nat.lt_succ_self _) (lv_sub hl [1, 2, 3, 4, 5, 6, 7, 8, 9, 10, 11, 12, 13, 14, 16, 15, 0] rfl))
      exact wo_hLo _ _ _ _ _ (hLo _ 0 0 ls _ _ _ (by rw [show σ 1 0 + 0 = σ 1 0 by omega]; exact (zSum_z (fun c a b => zNewV_0 hI hJ True ⟨a, by omega⟩)).symm) (by omega) (hT.eqS (fun t i _ _ _ => by rw [show σ 1 0 + 0 = σ 1 0 by omega]; exact zAdv_now hI hJ t i)) (hS) (Nat.lt_succ_self _) (lv_sub hl [2, 3, 4, 5, 6, 7, 8, 9, 10, 11, 12, 14, 15, 16, 1, 0] rfl))
    · refine lv_goto (tgt := 1336) hx hb dL_law_1170 (by decide) ?_
      exact W.widen (k := 110 + 250 * turn.toNat + 30) (n := 1500 + 1500 * turn.toNat + 200) (by omega) (by omega) (next d _ _ _ _ _ ls (by omega) (hZ) (hT) hS (lv_sub hl [1, 2, 3, 4, 5, 6, 7, 8, 9, 10, 12, 14] rfl))
  · refine z_sipush hx hb dL_law_1144 (by decide +kernel) ?_
    refine lv_goto (tgt := 1152) hx hb dL_law_1147 (by decide) ?_
    refine z_cs (As := [.int (zI u), .int (zI 300)]) (rest := [.int (zI 1)]) ⟨hx, hb, hml, hown, hts⟩ (c_L_low l D cI cO cL H u 300 (by omega)) (va_cwS 2 hts gL_law_L_low rfl rfl rfl (by decide +kernel) ⟨(Nat.le_of_ble_eq_true rfl), (Nat.le_of_ble_eq_true rfl)⟩) (zKK_mv D cI cO cL) (fun U _ hv => va_K.moved hv hK) rfl hl.1 rfl (Nat.le_of_ble_eq_true rfl) dL_law_1152 ⟨by show 110 + 250 * turn.toNat ≤ 675069; omega, by show 1500 + 1500 * turn.toNat ≤ 7076417; omega⟩ (fun r_34 hr_34 => ?_)
    obtain ⟨z_33, ez_33, hz_33⟩ := hr_34
    rw [ez_33]
    refine z_iadd hx hb dL_law_1155 ?_
    refine lv_istore (lv' := [(21, .int (zI (1 + z_33))), (0, .ref b), (1, .ref x0), (2, .ref (la 0)), (3, .ref (la 1)), (4, .ref (la 2)), (5, .ref (la 3)), (6, .ref (la 4)), (7, .ref (la 5)), (8, .int (zI d)), (9, .int (zI turn)), (10, .int (zI v)), (11, .int (zI u)), (12, .int (zI k)), (13, .int (zI 1))]) hx hb dL_law_1156 hl (by decide) rfl (fun ls hl => ?_)
    refine lv_aload_n hx hb dL_law_1158 rfl (lv_at hl 3 rfl) ?_
    refine z_iconst hx hb dL_law_1159 ?_
    refine l_ald hx hb hK hS.2.2.1 0 (by decide) (by show 0 ≤ 0 ∧ 0 < ((6 : Nat) : Int); omega) dL_law_1160 ?_
    refine z_top (b := σ 1 0) (by rw [hT.g0]) ?_
    refine lv_iload hx hb dL_law_1161 (lv_at hl 0 rfl) ?_
    refine z_iadd hx hb dL_law_1163 ?_
    refine z_sipush hx hb dL_law_1164 (by decide +kernel) ?_
    refine z_icmp_le (tgt := 1173) hx hb dL_law_1167 (by decide) (by omega) (fun c_35 => ?_) (fun c_35 => ?_)
    · refine z_iconst hx hb dL_law_1173 ?_
      refine lv_istore (lv' := [(22, .int (zI 0)), (21, .int (zI (1 + z_33))), (0, .ref b), (1, .ref x0), (2, .ref (la 0)), (3, .ref (la 1)), (4, .ref (la 2)), (5, .ref (la 3)), (6, .ref (la 4)), (7, .ref (la 5)), (8, .int (zI d)), (9, .int (zI turn)), (10, .int (zI v)), (11, .int (zI u)), (12, .int (zI k)), (13, .int (zI 1))]) hx hb dL_law_1174 hl (by decide) rfl (fun ls hl => ?_)
      refine z_iconst hx hb dL_law_1176 ?_
      refine lv_istore (lv' := [(23, .int (zI 0)), (22, .int (zI 0)), (21, .int (zI (1 + z_33))), (0, .ref b), (1, .ref x0), (2, .ref (la 0)), (3, .ref (la 1)), (4, .ref (la 2)), (5, .ref (la 3)), (6, .ref (la 4)), (7, .ref (la 5)), (8, .int (zI d)), (9, .int (zI turn)), (10, .int (zI v)), (11, .int (zI u)), (12, .int (zI k)), (13, .int (zI 1))]) hx hb dL_law_1177 hl (by decide) rfl (fun ls hl => ?_)
      refine z_cap (fun WW_hLo wi_hLo wo_hLo => ?_)
      have hLo : ∀ (nN : Nat) (dn n : Int) (ls : Array Slot) (τn : zT) (HL : Heap) (locsL : List Loc), dn = zSum (fun c => zNewV σ (σ 1 0 + n) c True 1) (σ 14 0).toNat → (0 ≤ n ∧ n ≤ (1 + z_33)) → Rl τn (zAdv σ (σ 14 0) (σ 1 0 + n)) → zLV D cI cO A eE x0 la s h3 τn σ g HL locsL → ((1 + z_33) - n).toNat < nN → lv_has ls 25 [(21, .int (zI (1 + z_33))), (0, .ref b), (1, .ref x0), (2, .ref (la 0)), (3, .ref (la 1)), (4, .ref (la 2)), (5, .ref (la 3)), (6, .ref (la 4)), (7, .ref (la 5)), (8, .int (zI d)), (9, .int (zI turn)), (11, .int (zI u)), (12, .int (zI k)), (13, .int (zI 1)), (22, .int (zI dn)), (23, .int (zI n))] → WW_hLo HL locsL (110 + 250 * turn.toNat) (1500 + 1500 * turn.toNat) (F0 m 1179 ls []) := by
        intro n_hLo
        induction n_hLo with
        | zero => intro dn n ls τn HL locsL hdn hn hTL hSL hm; exact absurd hm (Nat.not_lt_zero _)
        | succ n_hLo ih_hLo =>
          intro dn n ls τn HL locsL hdn hn hTL hSL hm hl
          refine wi_hLo _ _ _ _ _ ?_
          obtain ⟨ρ, hρ⟩ : ∃ ρ, zAdv σ (σ 14 0) (σ 1 0 + n) = ρ := ⟨_, rfl⟩
          have hρ0 := hρ.symm
          rw [hρ] at hTL
          have n14 : ρ 14 0 = σ 14 0 := by rw [← hρ]; rfl
          have n1 : ρ 1 0 = σ 1 0 + n := by rw [← hρ]; rfl
          have hIρ : zInv ρ := by rw [← hρ]; exact zInv_adv hI hJ (by omega)
          have hJρ : zInv2 ρ := by rw [← hρ]; exact zInv2_adv hI hJ (by omega)
          have hBρ : zB ρ := by rw [← hρ]; exact zB_adv hB _ _
          have b0ρ : ρ 5 0 ≤ 6 ∧ ρ 11 0 ≤ 4 ∧ ρ 14 0 ≤ 10 := hBρ
          refine lv_iload hx hb dL_law_1179 (lv_at hl 15 rfl) ?_
          refine lv_iload hx hb dL_law_1181 (lv_at hl 0 rfl) ?_
          refine z_icmp_ge (tgt := 1318) hx hb dL_law_1183 (by decide) (by omega) (fun c_36 => ?_) (fun c_36 => ?_)
          · refine lv_aload_n hx hb dL_law_1318 rfl (lv_at hl 2 rfl) ?_
            refine lv_iload hx hb dL_law_1319 (lv_at hl 0 rfl) ?_
            refine l_call (mc := 2) (ms := 12) C0 (As := [.ref x0, .int (zI (1 + z_33))]) (rest := []) ⟨hx, hb, hml, hown, hts⟩ hSL (c_L_pass l hfl D cI cO cL A eE mi sa g σ HL hSL.2.1 x0 hSL.1 hZ.1 (1 + z_33) (by omega)) (vx_cwSW 2 hts gL_law_L_pass rfl rfl rfl (by decide +kernel) ⟨(Nat.le_of_ble_eq_true rfl), (Nat.le_of_ble_eq_true rfl)⟩) ⟨rfl, rfl⟩ rfl hl.1 rfl (Nat.le_of_ble_eq_true rfl) dL_law_1321 ⟨by show 110 + 250 * turn.toNat + 2 ≤ 675069; omega, by show 1500 + 1500 * turn.toNat + 12 ≤ 7076417; omega⟩ (fun z_37 g37 H37 locs37 aw37 hS37 => ?_)
            have th37 : zth_pass σ (1 + z_33) = 0 := by unfold zth_pass; rw [if_neg (by omega), if_neg (by omega)]
            rw [if_pos th37] at hS37
            obtain rfl := aw37.1 th37
            refine z_top (b := dn) (by rw [hdn, show n = (1 + z_33) by omega]; rfl) ?_
            refine lv_iload hx hb dL_law_1324 (lv_at hl 14 rfl) ?_
            refine z_same_ne (tgt := 1333) hx hb dL_law_1326 (by decide) ?_
            refine z_iconst hx hb dL_law_1329 ?_
            refine lv_goto (tgt := 1334) hx hb dL_law_1330 (by decide) ?_
            refine lv_istore (lv' := [(13, .int (zI 1)), (21, .int (zI (1 + z_33))), (0, .ref b), (1, .ref x0), (2, .ref (la 0)), (3, .ref (la 1)), (4, .ref (la 2)), (5, .ref (la 3)), (6, .ref (la 4)), (7, .ref (la 5)), (8, .int (zI d)), (9, .int (zI turn)), (11, .int (zI u)), (12, .int (zI k)), (22, .int (zI dn)), (23, .int (zI n))]) hx hb dL_law_1334 hl (by decide) rfl (fun ls hl => ?_)
            exact W.widen (k := 110 + 250 * turn.toNat + 30) (n := 1500 + 1500 * turn.toNat + 200) (by omega) (by omega) (next d _ _ _ _ _ ls (by omega) (zLaw_pass hZ th37) (by rw [hρ0, show n = (1 + z_33) by omega] at hTL; exact hTL) hS37 (lv_sub hl [2, 3, 4, 5, 6, 7, 8, 9, 10, 11, 12, 0] rfl))
          · refine lv_aload_n hx hb dL_law_1186 rfl (lv_at hl 3 rfl) ?_
            refine z_iconst hx hb dL_law_1187 ?_
            refine lv_dup2_11 hx hb dL_law_1188 rfl rfl ?_
            refine l_ald hx hb hK hSL.2.2.1 0 (by decide) (by show 0 ≤ 0 ∧ 0 < ((6 : Nat) : Int); omega) dL_law_1189 ?_
            refine z_top (b := ρ 1 0) (by rw [hTL.g0]) ?_
            refine z_iconst hx hb dL_law_1190 ?_
            refine z_iadd hx hb dL_law_1191 ?_
            refine l_put hx hb C0 hSL 0 (by decide) (by show 0 ≤ 0 ∧ 0 < ((6 : Nat) : Int); omega) dL_law_1192 (fun HP39 locsP39 hP39 => ?_)
            refine z_iconst hx hb dL_law_1193 ?_
            refine lv_istore (lv' := [(24, .int (zI 0)), (21, .int (zI (1 + z_33))), (0, .ref b), (1, .ref x0), (2, .ref (la 0)), (3, .ref (la 1)), (4, .ref (la 2)), (5, .ref (la 3)), (6, .ref (la 4)), (7, .ref (la 5)), (8, .int (zI d)), (9, .int (zI turn)), (11, .int (zI u)), (12, .int (zI k)), (13, .int (zI 1)), (22, .int (zI dn)), (23, .int (zI n))]) hx hb dL_law_1194 hl (by decide) rfl (fun ls hl => ?_)
            refine z_cap (fun WW_hLi wi_hLi wo_hLi => ?_)
            have hLi : ∀ (nN : Nat) (d2 i : Int) (ls : Array Slot) (τi : zT) (HL : Heap) (locsL : List Loc), d2 = dn + zSum (fun c => zNewV ρ (ρ 1 0 + 1) c True 1) i.toNat → (0 ≤ i ∧ i ≤ σ 14 0) → Rl τi (zAdv ρ i (ρ 1 0 + 1)) → zLV D cI cO A eE x0 la s h3 τi σ g HL locsL → (σ 14 0 - i).toNat < nN → lv_has ls 25 [(21, .int (zI (1 + z_33))), (0, .ref b), (1, .ref x0), (2, .ref (la 0)), (3, .ref (la 1)), (4, .ref (la 2)), (5, .ref (la 3)), (6, .ref (la 4)), (7, .ref (la 5)), (8, .int (zI d)), (9, .int (zI turn)), (11, .int (zI u)), (12, .int (zI k)), (13, .int (zI 1)), (23, .int (zI n)), (22, .int (zI d2)), (24, .int (zI i))] → WW_hLi HL locsL (110 + 250 * turn.toNat) (1500 + 1500 * turn.toNat) (F0 m 1196 ls []) := by
              intro n_hLi
              induction n_hLi with
              | zero => intro d2 i ls τi HL locsL hd2 hi hTi hSi hm; exact absurd hm (Nat.not_lt_zero _)
              | succ n_hLi ih_hLi =>
                intro d2 i ls τi HL locsL hd2 hi hTi hSi hm hl
                refine wi_hLi _ _ _ _ _ ?_
                have rg4 : τi 0 4 = σ 14 0 := hTi.g4.trans n14
                have rg0 : τi 0 0 = ρ 1 0 + 1 := hTi.g0
                refine lv_iload hx hb dL_law_1196 (lv_at hl 16 rfl) ?_
                refine lv_aload_n hx hb dL_law_1198 rfl (lv_at hl 3 rfl) ?_
                refine z_iconst hx hb dL_law_1199 ?_
                refine l_ald hx hb hK hSi.2.2.1 0 (by decide) (by show 0 ≤ 4 ∧ 4 < ((6 : Nat) : Int); omega) dL_law_1200 ?_
                refine z_top (b := σ 14 0) (by rw [rg4]) ?_
                refine z_icmp_ge (tgt := 1312) hx hb dL_law_1201 (by decide) (by omega) (fun c_40 => ?_) (fun c_40 => ?_)
                · refine z_iinc (lv' := [(23, .int (zI (n + 1))), (21, .int (zI (1 + z_33))), (0, .ref b), (1, .ref x0), (2, .ref (la 0)), (3, .ref (la 1)), (4, .ref (la 2)), (5, .ref (la 3)), (6, .ref (la 4)), (7, .ref (la 5)), (8, .int (zI d)), (9, .int (zI turn)), (11, .int (zI u)), (12, .int (zI k)), (13, .int (zI 1)), (22, .int (zI d2)), (24, .int (zI i))]) hx hb dL_law_1312 hl (k := 14) rfl (by decide) rfl (fun ls hl => ?_)
                  refine lv_goto (tgt := 1179) hx hb dL_law_1315 (by decide) ?_
                  exact wo_hLo _ _ _ _ _ (ih_hLo d2 (n + 1) ls _ _ _ (by rw [← zNew_add hI hJ (by omega) hρ (i := i) (by omega), ← hdn]; exact hd2) (by omega) (Rl_minute hI hJ (by omega) hρ (by omega) hTi) (hSi) (by omega) (lv_sub hl [1, 2, 3, 4, 5, 6, 7, 8, 9, 10, 11, 12, 13, 14, 15, 0] rfl))
                · have ri : 0 ≤ i ∧ i < ρ 14 0 := by omega
                  have fi := hIρ.c ri
                  have ji := hJρ.c ri
                  have gi := hIρ.s (i := ρ 15 i) (by omega)
                  have r3 : τi 3 i = pC ρ i := (hTi.c (i := i) ri).trans (pC_adv ρ i _)
                  have r5 : τi 5 i = ρ 20 i := hTi.t (i := i) ri
                  have rs : τi 1 (ρ 15 i) = pS ρ (ρ 15 i) := hTi.s (i := ρ 15 i) fi.1
                  have pci := pC_x hIρ hBρ ri
                  refine lv_aload hx hb dL_law_1204 (lv_at hl 6 rfl) ?_
                  refine lv_iload hx hb dL_law_1206 (lv_at hl 16 rfl) ?_
                  refine l_ald hx hb hK hSi.2.2.1 3 (by decide) (by show 0 ≤ i ∧ i < ((10 : Nat) : Int); omega) dL_law_1208 ?_
                  refine z_top (b := pC ρ i) (by rw [r3]) ?_
                  refine z_cs (As := [.int (zI (pC ρ i))]) (rest := []) ⟨hx, hb, hml, hown, hts⟩ (c_L_stateOf l D cI cO cL HL (pC ρ i) (pC_r hIρ hBρ (i := i) (by omega))) (va_cwS 1 hts gL_law_L_stateOf rfl rfl rfl (by decide +kernel) ⟨(Nat.le_of_ble_eq_true rfl), (Nat.le_of_ble_eq_true rfl)⟩) (zKK_mv D cI cO cL) (fun U _ hv => va_K.moved hv hK) rfl hl.1 rfl (Nat.le_of_ble_eq_true rfl) dL_law_1209 ⟨by show 110 + 250 * turn.toNat ≤ 675069; omega, by show 1500 + 1500 * turn.toNat ≤ 7076417; omega⟩ (fun r_41 hr_41 => ?_)
                  rw [hr_41, pC_t hIρ hBρ (i := i) (by omega)]
                  refine z_iconst hx hb dL_law_1212 ?_
                  refine z_icmp_ne (tgt := 1245) hx hb dL_law_1213 (by decide) (by omega) (fun c_42 => ?_) (fun c_42 => ?_)
                  · refine lv_aload hx hb dL_law_1245 (lv_at hl 6 rfl) ?_
                    refine lv_iload hx hb dL_law_1247 (lv_at hl 16 rfl) ?_
                    refine l_ald hx hb hK hSi.2.2.1 3 (by decide) (by show 0 ≤ i ∧ i < ((10 : Nat) : Int); omega) dL_law_1249 ?_
                    refine z_top (b := pC ρ i) (by rw [r3]) ?_
                    refine z_cs (As := [.int (zI (pC ρ i))]) (rest := []) ⟨hx, hb, hml, hown, hts⟩ (c_L_stateOf l D cI cO cL HL (pC ρ i) (pC_r hIρ hBρ (i := i) (by omega))) (va_cwS 1 hts gL_law_L_stateOf rfl rfl rfl (by decide +kernel) ⟨(Nat.le_of_ble_eq_true rfl), (Nat.le_of_ble_eq_true rfl)⟩) (zKK_mv D cI cO cL) (fun U _ hv => va_K.moved hv hK) rfl hl.1 rfl (Nat.le_of_ble_eq_true rfl) dL_law_1250 ⟨by show 110 + 250 * turn.toNat ≤ 675069; omega, by show 1500 + 1500 * turn.toNat ≤ 7076417; omega⟩ (fun r_43 hr_43 => ?_)
                    rw [hr_43, pC_t hIρ hBρ (i := i) (by omega)]
                    refine z_iconst hx hb dL_law_1253 ?_
                    refine z_icmp_ne (tgt := 1306) hx hb dL_law_1254 (by decide) (by omega) (fun c_44 => ?_) (fun c_44 => ?_)
                    · have hst : zSt ρ (i + 1) (ρ 1 0 + 1) i = ρ 19 i := by rw [zSt_i hi.1]; (repeat' split) <;> omega
                      refine z_iinc (lv' := [(24, .int (zI (i + 1))), (21, .int (zI (1 + z_33))), (0, .ref b), (1, .ref x0), (2, .ref (la 0)), (3, .ref (la 1)), (4, .ref (la 2)), (5, .ref (la 3)), (6, .ref (la 4)), (7, .ref (la 5)), (8, .int (zI d)), (9, .int (zI turn)), (11, .int (zI u)), (12, .int (zI k)), (13, .int (zI 1)), (23, .int (zI n)), (22, .int (zI d2))]) hx hb dL_law_1306 hl (k := 16) rfl (by decide) rfl (fun ls hl => ?_)
                      refine lv_goto (tgt := 1196) hx hb dL_law_1309 (by decide) ?_
                      exact wo_hLi _ _ _ _ _ (ih_hLi d2 (i + 1) ls _ _ _ (by rw [zSum_i _ hi.1, zNewV_f (by omega)]; omega) (by omega) (by exact Rl_adv hTi (by omega) (by intro t j h1; repeat (first | exact rfl | rw [zup_e2 (by omega)])) (by rw [r3, hst]; have := pC_t hIρ hBρ (i := i) (by omega); omega) hIρ hBρ) (hSi) (by omega) (lv_sub hl [1, 2, 3, 4, 5, 6, 7, 8, 9, 10, 11, 12, 13, 14, 15, 16, 0] rfl))
                    · refine lv_aload hx hb dL_law_1257 (lv_at hl 8 rfl) ?_
                      refine lv_iload hx hb dL_law_1259 (lv_at hl 16 rfl) ?_
                      refine l_ald hx hb hK hSi.2.2.1 5 (by decide) (by show 0 ≤ i ∧ i < ((10 : Nat) : Int); omega) dL_law_1261 ?_
                      refine z_top (b := ρ 20 i) (by rw [r5]) ?_
                      refine lv_aload_n hx hb dL_law_1262 rfl (lv_at hl 4 rfl) ?_
                      refine lv_aload hx hb dL_law_1263 (lv_at hl 6 rfl) ?_
                      refine lv_iload hx hb dL_law_1265 (lv_at hl 16 rfl) ?_
                      refine l_ald hx hb hK hSi.2.2.1 3 (by decide) (by show 0 ≤ i ∧ i < ((10 : Nat) : Int); omega) dL_law_1267 ?_
                      refine z_top (b := pC ρ i) (by rw [r3]) ?_
                      refine z_cs (As := [.int (zI (pC ρ i))]) (rest := [.ref (la 1), .int (zI (ρ 20 i))]) ⟨hx, hb, hml, hown, hts⟩ (c_L_shipOf l D cI cO cL HL (pC ρ i) (pC_r hIρ hBρ (i := i) (by omega))) (va_cwS 1 hts gL_law_L_shipOf rfl rfl rfl (by decide +kernel) ⟨(Nat.le_of_ble_eq_true rfl), (Nat.le_of_ble_eq_true rfl)⟩) (zKK_mv D cI cO cL) (fun U _ hv => va_K.moved hv hK) rfl hl.1 rfl (Nat.le_of_ble_eq_true rfl) dL_law_1268 ⟨by show 110 + 250 * turn.toNat ≤ 675069; omega, by show 1500 + 1500 * turn.toNat ≤ 7076417; omega⟩ (fun r_45 hr_45 => ?_)
                      rw [hr_45, pC_s hIρ hBρ (i := i) (by omega)]
                      refine l_ald hx hb hK hSi.2.2.1 1 (by decide) (by show 0 ≤ (ρ 15 i) ∧ (ρ 15 i) < ((6 : Nat) : Int); omega) dL_law_1271 ?_
                      refine z_top (b := pS ρ (ρ 15 i)) (by rw [rs]) ?_
                      refine z_cs (As := [.int (zI (pS ρ (ρ 15 i)))]) (rest := [.int (zI (ρ 20 i))]) ⟨hx, hb, hml, hown, hts⟩ (c_L_takes l D cI cO cL HL (pS ρ (ρ 15 i)) (pS_r hIρ (i := (ρ 15 i)) (by omega))) (va_cwS 1 hts gL_law_L_takes rfl rfl rfl (by decide +kernel) ⟨(Nat.le_of_ble_eq_true rfl), (Nat.le_of_ble_eq_true rfl)⟩) (zKK_mv D cI cO cL) (fun U _ hv => va_K.moved hv hK) rfl hl.1 rfl (Nat.le_of_ble_eq_true rfl) dL_law_1272 ⟨by show 110 + 250 * turn.toNat ≤ 675069; omega, by show 1500 + 1500 * turn.toNat ≤ 7076417; omega⟩ (fun r_46 hr_46 => ?_)
                      rw [hr_46, pS_t hIρ (i := (ρ 15 i)) (by omega)]
                      refine z_iadd hx hb dL_law_1275 ?_
                      refine lv_aload_n hx hb dL_law_1276 rfl (lv_at hl 3 rfl) ?_
                      refine z_iconst hx hb dL_law_1277 ?_
                      refine l_ald hx hb hK hSi.2.2.1 0 (by decide) (by show 0 ≤ 0 ∧ 0 < ((6 : Nat) : Int); omega) dL_law_1278 ?_
                      refine z_top (b := ρ 1 0 + 1) (by rw [rg0]) ?_
                      refine z_icmp_le (tgt := 1285) hx hb dL_law_1279 (by decide) (by omega) (fun c_47 => ?_) (fun c_47 => ?_)
                      · refine lv_aload hx hb dL_law_1285 (lv_at hl 6 rfl) ?_
                        refine lv_iload hx hb dL_law_1287 (lv_at hl 16 rfl) ?_
                        refine lv_aload hx hb dL_law_1289 (lv_at hl 6 rfl) ?_
                        refine lv_iload hx hb dL_law_1291 (lv_at hl 16 rfl) ?_
                        refine l_ald hx hb hK hSi.2.2.1 3 (by decide) (by show 0 ≤ i ∧ i < ((10 : Nat) : Int); omega) dL_law_1293 ?_
                        refine z_top (b := pC ρ i) (by rw [r3]) ?_
                        refine z_sipush hx hb dL_law_1294 (by decide +kernel) ?_
                        refine l_and hx hb 10 (by decide +kernel) dL_law_1297 (by have := pC_r hIρ hBρ (i := i) (by omega); omega) ?_
                        refine z_top (b := pC ρ i % 1024) (by show _ % (1024 : Int) = _; omega) ?_
                        refine z_sipush hx hb dL_law_1298 (by decide +kernel) ?_
                        refine l_or hx hb 10 4 (by decide) (by decide) (by show 0 ≤ _ ∧ _ < (1024 : Int); omega) (by decide) dL_law_1301 ?_
                        refine z_top (b := pC ρ i % 1024 + 1024 * 4) rfl ?_
                        refine l_put hx hb C0 hSi 3 (by decide) (by show 0 ≤ i ∧ i < ((10 : Nat) : Int); omega) dL_law_1302 (fun HP48 locsP48 hP48 => ?_)
                        refine z_iinc (lv' := [(22, .int (zI (d2 + 1))), (21, .int (zI (1 + z_33))), (0, .ref b), (1, .ref x0), (2, .ref (la 0)), (3, .ref (la 1)), (4, .ref (la 2)), (5, .ref (la 3)), (6, .ref (la 4)), (7, .ref (la 5)), (8, .int (zI d)), (9, .int (zI turn)), (11, .int (zI u)), (12, .int (zI k)), (13, .int (zI 1)), (23, .int (zI n)), (24, .int (zI i))]) hx hb dL_law_1303 hl (k := 15) rfl (by decide) rfl (fun ls hl => ?_)
                        have hst : zSt ρ (i + 1) (ρ 1 0 + 1) i = 4 := by rw [zSt_i hi.1]; (repeat' split) <;> omega
                        refine z_iinc (lv' := [(24, .int (zI (i + 1))), (22, .int (zI (d2 + 1))), (21, .int (zI (1 + z_33))), (0, .ref b), (1, .ref x0), (2, .ref (la 0)), (3, .ref (la 1)), (4, .ref (la 2)), (5, .ref (la 3)), (6, .ref (la 4)), (7, .ref (la 5)), (8, .int (zI d)), (9, .int (zI turn)), (11, .int (zI u)), (12, .int (zI k)), (13, .int (zI 1)), (23, .int (zI n))]) hx hb dL_law_1306 hl (k := 16) rfl (by decide) rfl (fun ls hl => ?_)
                        refine lv_goto (tgt := 1196) hx hb dL_law_1309 (by decide) ?_
                        exact wo_hLi _ _ _ _ _ (ih_hLi (d2 + 1) (i + 1) ls _ _ _ (by rw [zSum_i _ hi.1, zNewV_t ⟨by omega, by omega⟩ trivial]; omega) (by omega) (by exact Rl_adv hTi (by omega) (by intro t j h1; repeat (first | exact rfl | rw [zup_e2 (by omega)])) (by rw [zup_s, hst]) hIρ hBρ) (hP48) (by omega) (lv_sub hl [2, 3, 4, 5, 6, 7, 8, 9, 10, 11, 12, 13, 14, 15, 16, 1, 0] rfl))
                      · refine lv_goto (tgt := 1306) hx hb dL_law_1282 (by decide) ?_
                        have hst : zSt ρ (i + 1) (ρ 1 0 + 1) i = ρ 19 i := by rw [zSt_i hi.1]; (repeat' split) <;> omega
                        refine z_iinc (lv' := [(24, .int (zI (i + 1))), (21, .int (zI (1 + z_33))), (0, .ref b), (1, .ref x0), (2, .ref (la 0)), (3, .ref (la 1)), (4, .ref (la 2)), (5, .ref (la 3)), (6, .ref (la 4)), (7, .ref (la 5)), (8, .int (zI d)), (9, .int (zI turn)), (11, .int (zI u)), (12, .int (zI k)), (13, .int (zI 1)), (23, .int (zI n)), (22, .int (zI d2))]) hx hb dL_law_1306 hl (k := 16) rfl (by decide) rfl (fun ls hl => ?_)
                        refine lv_goto (tgt := 1196) hx hb dL_law_1309 (by decide) ?_
                        exact wo_hLi _ _ _ _ _ (ih_hLi d2 (i + 1) ls _ _ _ (by rw [zSum_i _ hi.1, zNewV_f (by omega)]; omega) (by omega) (by exact Rl_adv hTi (by omega) (by intro t j h1; repeat (first | exact rfl | rw [zup_e2 (by omega)])) (by rw [r3, hst]; have := pC_t hIρ hBρ (i := i) (by omega); omega) hIρ hBρ) (hSi) (by omega) (lv_sub hl [1, 2, 3, 4, 5, 6, 7, 8, 9, 10, 11, 12, 13, 14, 15, 16, 0] rfl))
                  · refine lv_aload hx hb dL_law_1216 (lv_at hl 8 rfl) ?_
                    refine lv_iload hx hb dL_law_1218 (lv_at hl 16 rfl) ?_
                    refine l_ald hx hb hK hSi.2.2.1 5 (by decide) (by show 0 ≤ i ∧ i < ((10 : Nat) : Int); omega) dL_law_1220 ?_
                    refine z_top (b := ρ 20 i) (by rw [r5]) ?_
                    refine lv_aload_n hx hb dL_law_1221 rfl (lv_at hl 3 rfl) ?_
                    refine z_iconst hx hb dL_law_1222 ?_
                    refine l_ald hx hb hK hSi.2.2.1 0 (by decide) (by show 0 ≤ 0 ∧ 0 < ((6 : Nat) : Int); omega) dL_law_1223 ?_
                    refine z_top (b := ρ 1 0 + 1) (by rw [rg0]) ?_
                    refine z_icmp_ne (tgt := 1245) hx hb dL_law_1224 (by decide) (by omega) (fun c_49 => ?_) (fun c_49 => ?_)
                    · refine lv_aload hx hb dL_law_1245 (lv_at hl 6 rfl) ?_
                      refine lv_iload hx hb dL_law_1247 (lv_at hl 16 rfl) ?_
                      refine l_ald hx hb hK hSi.2.2.1 3 (by decide) (by show 0 ≤ i ∧ i < ((10 : Nat) : Int); omega) dL_law_1249 ?_
                      refine z_top (b := pC ρ i) (by rw [r3]) ?_
                      refine z_cs (As := [.int (zI (pC ρ i))]) (rest := []) ⟨hx, hb, hml, hown, hts⟩ (c_L_stateOf l D cI cO cL HL (pC ρ i) (pC_r hIρ hBρ (i := i) (by omega))) (va_cwS 1 hts gL_law_L_stateOf rfl rfl rfl (by decide +kernel) ⟨(Nat.le_of_ble_eq_true rfl), (Nat.le_of_ble_eq_true rfl)⟩) (zKK_mv D cI cO cL) (fun U _ hv => va_K.moved hv hK) rfl hl.1 rfl (Nat.le_of_ble_eq_true rfl) dL_law_1250 ⟨by show 110 + 250 * turn.toNat ≤ 675069; omega, by show 1500 + 1500 * turn.toNat ≤ 7076417; omega⟩ (fun r_50 hr_50 => ?_)
                      rw [hr_50, pC_t hIρ hBρ (i := i) (by omega)]
                      refine z_iconst hx hb dL_law_1253 ?_
                      refine z_icmp_ne (tgt := 1306) hx hb dL_law_1254 (by decide) (by omega) (fun c_51 => ?_) (fun c_51 => ?_)
                      · have hst : zSt ρ (i + 1) (ρ 1 0 + 1) i = ρ 19 i := by rw [zSt_i hi.1]; (repeat' split) <;> omega
                        refine z_iinc (lv' := [(24, .int (zI (i + 1))), (21, .int (zI (1 + z_33))), (0, .ref b), (1, .ref x0), (2, .ref (la 0)), (3, .ref (la 1)), (4, .ref (la 2)), (5, .ref (la 3)), (6, .ref (la 4)), (7, .ref (la 5)), (8, .int (zI d)), (9, .int (zI turn)), (11, .int (zI u)), (12, .int (zI k)), (13, .int (zI 1)), (23, .int (zI n)), (22, .int (zI d2))]) hx hb dL_law_1306 hl (k := 16) rfl (by decide) rfl (fun ls hl => ?_)
                        refine lv_goto (tgt := 1196) hx hb dL_law_1309 (by decide) ?_
                        exact wo_hLi _ _ _ _ _ (ih_hLi d2 (i + 1) ls _ _ _ (by rw [zSum_i _ hi.1, zNewV_f (by omega)]; omega) (by omega) (by exact Rl_adv hTi (by omega) (by intro t j h1; repeat (first | exact rfl | rw [zup_e2 (by omega)])) (by rw [r3, hst]; have := pC_t hIρ hBρ (i := i) (by omega); omega) hIρ hBρ) (hSi) (by omega) (lv_sub hl [1, 2, 3, 4, 5, 6, 7, 8, 9, 10, 11, 12, 13, 14, 15, 16, 0] rfl))
                      · refine lv_aload hx hb dL_law_1257 (lv_at hl 8 rfl) ?_
                        refine lv_iload hx hb dL_law_1259 (lv_at hl 16 rfl) ?_
                        refine l_ald hx hb hK hSi.2.2.1 5 (by decide) (by show 0 ≤ i ∧ i < ((10 : Nat) : Int); omega) dL_law_1261 ?_
                        refine z_top (b := ρ 20 i) (by rw [r5]) ?_
                        refine lv_aload_n hx hb dL_law_1262 rfl (lv_at hl 4 rfl) ?_
                        refine lv_aload hx hb dL_law_1263 (lv_at hl 6 rfl) ?_
                        refine lv_iload hx hb dL_law_1265 (lv_at hl 16 rfl) ?_
                        refine l_ald hx hb hK hSi.2.2.1 3 (by decide) (by show 0 ≤ i ∧ i < ((10 : Nat) : Int); omega) dL_law_1267 ?_
                        refine z_top (b := pC ρ i) (by rw [r3]) ?_
                        refine z_cs (As := [.int (zI (pC ρ i))]) (rest := [.ref (la 1), .int (zI (ρ 20 i))]) ⟨hx, hb, hml, hown, hts⟩ (c_L_shipOf l D cI cO cL HL (pC ρ i) (pC_r hIρ hBρ (i := i) (by omega))) (va_cwS 1 hts gL_law_L_shipOf rfl rfl rfl (by decide +kernel) ⟨(Nat.le_of_ble_eq_true rfl), (Nat.le_of_ble_eq_true rfl)⟩) (zKK_mv D cI cO cL) (fun U _ hv => va_K.moved hv hK) rfl hl.1 rfl (Nat.le_of_ble_eq_true rfl) dL_law_1268 ⟨by show 110 + 250 * turn.toNat ≤ 675069; omega, by show 1500 + 1500 * turn.toNat ≤ 7076417; omega⟩ (fun r_52 hr_52 => ?_)
                        rw [hr_52, pC_s hIρ hBρ (i := i) (by omega)]
                        refine l_ald hx hb hK hSi.2.2.1 1 (by decide) (by show 0 ≤ (ρ 15 i) ∧ (ρ 15 i) < ((6 : Nat) : Int); omega) dL_law_1271 ?_
                        refine z_top (b := pS ρ (ρ 15 i)) (by rw [rs]) ?_
                        refine z_cs (As := [.int (zI (pS ρ (ρ 15 i)))]) (rest := [.int (zI (ρ 20 i))]) ⟨hx, hb, hml, hown, hts⟩ (c_L_takes l D cI cO cL HL (pS ρ (ρ 15 i)) (pS_r hIρ (i := (ρ 15 i)) (by omega))) (va_cwS 1 hts gL_law_L_takes rfl rfl rfl (by decide +kernel) ⟨(Nat.le_of_ble_eq_true rfl), (Nat.le_of_ble_eq_true rfl)⟩) (zKK_mv D cI cO cL) (fun U _ hv => va_K.moved hv hK) rfl hl.1 rfl (Nat.le_of_ble_eq_true rfl) dL_law_1272 ⟨by show 110 + 250 * turn.toNat ≤ 675069; omega, by show 1500 + 1500 * turn.toNat ≤ 7076417; omega⟩ (fun r_53 hr_53 => ?_)
                        rw [hr_53, pS_t hIρ (i := (ρ 15 i)) (by omega)]
                        refine z_iadd hx hb dL_law_1275 ?_
                        refine lv_aload_n hx hb dL_law_1276 rfl (lv_at hl 3 rfl) ?_
                        refine z_iconst hx hb dL_law_1277 ?_
                        refine l_ald hx hb hK hSi.2.2.1 0 (by decide) (by show 0 ≤ 0 ∧ 0 < ((6 : Nat) : Int); omega) dL_law_1278 ?_
                        refine z_top (b := ρ 1 0 + 1) (by rw [rg0]) ?_
                        refine z_icmp_le (tgt := 1285) hx hb dL_law_1279 (by decide) (by omega) (fun c_54 => ?_) (fun c_54 => ?_)
                        · refine lv_aload hx hb dL_law_1285 (lv_at hl 6 rfl) ?_
                          refine lv_iload hx hb dL_law_1287 (lv_at hl 16 rfl) ?_
                          refine lv_aload hx hb dL_law_1289 (lv_at hl 6 rfl) ?_
                          refine lv_iload hx hb dL_law_1291 (lv_at hl 16 rfl) ?_
                          refine l_ald hx hb hK hSi.2.2.1 3 (by decide) (by show 0 ≤ i ∧ i < ((10 : Nat) : Int); omega) dL_law_1293 ?_
                          refine z_top (b := pC ρ i) (by rw [r3]) ?_
                          refine z_sipush hx hb dL_law_1294 (by decide +kernel) ?_
                          refine l_and hx hb 10 (by decide +kernel) dL_law_1297 (by have := pC_r hIρ hBρ (i := i) (by omega); omega) ?_
                          refine z_top (b := pC ρ i % 1024) (by show _ % (1024 : Int) = _; omega) ?_
                          refine z_sipush hx hb dL_law_1298 (by decide +kernel) ?_
                          refine l_or hx hb 10 4 (by decide) (by decide) (by show 0 ≤ _ ∧ _ < (1024 : Int); omega) (by decide) dL_law_1301 ?_
                          refine z_top (b := pC ρ i % 1024 + 1024 * 4) rfl ?_
                          refine l_put hx hb C0 hSi 3 (by decide) (by show 0 ≤ i ∧ i < ((10 : Nat) : Int); omega) dL_law_1302 (fun HP55 locsP55 hP55 => ?_)
                          refine z_iinc (lv' := [(22, .int (zI (d2 + 1))), (21, .int (zI (1 + z_33))), (0, .ref b), (1, .ref x0), (2, .ref (la 0)), (3, .ref (la 1)), (4, .ref (la 2)), (5, .ref (la 3)), (6, .ref (la 4)), (7, .ref (la 5)), (8, .int (zI d)), (9, .int (zI turn)), (11, .int (zI u)), (12, .int (zI k)), (13, .int (zI 1)), (23, .int (zI n)), (24, .int (zI i))]) hx hb dL_law_1303 hl (k := 15) rfl (by decide) rfl (fun ls hl => ?_)
                          have hst : zSt ρ (i + 1) (ρ 1 0 + 1) i = 4 := by rw [zSt_i hi.1]; (repeat' split) <;> omega
                          refine z_iinc (lv' := [(24, .int (zI (i + 1))), (22, .int (zI (d2 + 1))), (21, .int (zI (1 + z_33))), (0, .ref b), (1, .ref x0), (2, .ref (la 0)), (3, .ref (la 1)), (4, .ref (la 2)), (5, .ref (la 3)), (6, .ref (la 4)), (7, .ref (la 5)), (8, .int (zI d)), (9, .int (zI turn)), (11, .int (zI u)), (12, .int (zI k)), (13, .int (zI 1)), (23, .int (zI n))]) hx hb dL_law_1306 hl (k := 16) rfl (by decide) rfl (fun ls hl => ?_)
                          refine lv_goto (tgt := 1196) hx hb dL_law_1309 (by decide) ?_
                          exact wo_hLi _ _ _ _ _ (ih_hLi (d2 + 1) (i + 1) ls _ _ _ (by rw [zSum_i _ hi.1, zNewV_t ⟨by omega, by omega⟩ trivial]; omega) (by omega) (by exact Rl_adv hTi (by omega) (by intro t j h1; repeat (first | exact rfl | rw [zup_e2 (by omega)])) (by rw [zup_s, hst]) hIρ hBρ) (hP55) (by omega) (lv_sub hl [2, 3, 4, 5, 6, 7, 8, 9, 10, 11, 12, 13, 14, 15, 16, 1, 0] rfl))
                        · refine lv_goto (tgt := 1306) hx hb dL_law_1282 (by decide) ?_
                          have hst : zSt ρ (i + 1) (ρ 1 0 + 1) i = ρ 19 i := by rw [zSt_i hi.1]; (repeat' split) <;> omega
                          refine z_iinc (lv' := [(24, .int (zI (i + 1))), (21, .int (zI (1 + z_33))), (0, .ref b), (1, .ref x0), (2, .ref (la 0)), (3, .ref (la 1)), (4, .ref (la 2)), (5, .ref (la 3)), (6, .ref (la 4)), (7, .ref (la 5)), (8, .int (zI d)), (9, .int (zI turn)), (11, .int (zI u)), (12, .int (zI k)), (13, .int (zI 1)), (23, .int (zI n)), (22, .int (zI d2))]) hx hb dL_law_1306 hl (k := 16) rfl (by decide) rfl (fun ls hl => ?_)
                          refine lv_goto (tgt := 1196) hx hb dL_law_1309 (by decide) ?_
                          exact wo_hLi _ _ _ _ _ (ih_hLi d2 (i + 1) ls _ _ _ (by rw [zSum_i _ hi.1, zNewV_f (by omega)]; omega) (by omega) (by exact Rl_adv hTi (by omega) (by intro t j h1; repeat (first | exact rfl | rw [zup_e2 (by omega)])) (by rw [r3, hst]; have := pC_t hIρ hBρ (i := i) (by omega); omega) hIρ hBρ) (hSi) (by omega) (lv_sub hl [1, 2, 3, 4, 5, 6, 7, 8, 9, 10, 11, 12, 13, 14, 15, 16, 0] rfl))
                    · refine lv_aload hx hb dL_law_1227 (lv_at hl 6 rfl) ?_
                      refine lv_iload hx hb dL_law_1229 (lv_at hl 16 rfl) ?_
                      refine lv_aload hx hb dL_law_1231 (lv_at hl 6 rfl) ?_
                      refine lv_iload hx hb dL_law_1233 (lv_at hl 16 rfl) ?_
                      refine l_ald hx hb hK hSi.2.2.1 3 (by decide) (by show 0 ≤ i ∧ i < ((10 : Nat) : Int); omega) dL_law_1235 ?_
                      refine z_top (b := pC ρ i) (by rw [r3]) ?_
                      refine z_sipush hx hb dL_law_1236 (by decide +kernel) ?_
                      refine l_and hx hb 10 (by decide +kernel) dL_law_1239 (by have := pC_r hIρ hBρ (i := i) (by omega); omega) ?_
                      refine z_top (b := pC ρ i % 1024) (by show _ % (1024 : Int) = _; omega) ?_
                      refine z_sipush hx hb dL_law_1240 (by decide +kernel) ?_
                      refine l_or hx hb 10 3 (by decide) (by decide) (by show 0 ≤ _ ∧ _ < (1024 : Int); omega) (by decide) dL_law_1243 ?_
                      refine z_top (b := pC ρ i % 1024 + 1024 * 3) rfl ?_
                      refine l_put hx hb C0 hSi 3 (by decide) (by show 0 ≤ i ∧ i < ((10 : Nat) : Int); omega) dL_law_1244 (fun HP56 locsP56 hP56 => ?_)
                      refine lv_aload hx hb dL_law_1245 (lv_at hl 6 rfl) ?_
                      refine lv_iload hx hb dL_law_1247 (lv_at hl 16 rfl) ?_
                      refine l_ald hx hb hK hP56.2.2.1 3 (by decide) (by show 0 ≤ i ∧ i < ((10 : Nat) : Int); omega) dL_law_1249 ?_
                      refine z_top (b := (pC ρ i % 1024 + 1024 * 3)) (by rw [zup_s]) ?_
                      refine z_cs (As := [.int (zI (pC ρ i % 1024 + 1024 * 3))]) (rest := []) ⟨hx, hb, hml, hown, hts⟩ (c_L_stateOf l D cI cO cL HP56 (pC ρ i % 1024 + 1024 * 3) (by omega)) (va_cwS 1 hts gL_law_L_stateOf rfl rfl rfl (by decide +kernel) ⟨(Nat.le_of_ble_eq_true rfl), (Nat.le_of_ble_eq_true rfl)⟩) (zKK_mv D cI cO cL) (fun U _ hv => va_K.moved hv hK) rfl hl.1 rfl (Nat.le_of_ble_eq_true rfl) dL_law_1250 ⟨by show 110 + 250 * turn.toNat ≤ 675069; omega, by show 1500 + 1500 * turn.toNat ≤ 7076417; omega⟩ (fun r_57 hr_57 => ?_)
                      rw [hr_57]
                      refine z_top (b := 3) (by omega) ?_
                      refine z_iconst hx hb dL_law_1253 ?_
                      refine z_same_ne (tgt := 1306) hx hb dL_law_1254 (by decide) ?_
                      refine lv_aload hx hb dL_law_1257 (lv_at hl 8 rfl) ?_
                      refine lv_iload hx hb dL_law_1259 (lv_at hl 16 rfl) ?_
                      refine l_ald hx hb hK hP56.2.2.1 5 (by decide) (by show 0 ≤ i ∧ i < ((10 : Nat) : Int); omega) dL_law_1261 ?_
                      refine z_top (b := ρ 20 i) (by rw [zup_t (t := 3) (t' := 5) (by decide), r5]) ?_
                      refine lv_aload_n hx hb dL_law_1262 rfl (lv_at hl 4 rfl) ?_
                      refine lv_aload hx hb dL_law_1263 (lv_at hl 6 rfl) ?_
                      refine lv_iload hx hb dL_law_1265 (lv_at hl 16 rfl) ?_
                      refine l_ald hx hb hK hP56.2.2.1 3 (by decide) (by show 0 ≤ i ∧ i < ((10 : Nat) : Int); omega) dL_law_1267 ?_
                      refine z_top (b := (pC ρ i % 1024 + 1024 * 3)) (by rw [zup_s]) ?_
                      refine z_cs (As := [.int (zI (pC ρ i % 1024 + 1024 * 3))]) (rest := [.ref (la 1), .int (zI (ρ 20 i))]) ⟨hx, hb, hml, hown, hts⟩ (c_L_shipOf l D cI cO cL HP56 (pC ρ i % 1024 + 1024 * 3) (by omega)) (va_cwS 1 hts gL_law_L_shipOf rfl rfl rfl (by decide +kernel) ⟨(Nat.le_of_ble_eq_true rfl), (Nat.le_of_ble_eq_true rfl)⟩) (zKK_mv D cI cO cL) (fun U _ hv => va_K.moved hv hK) rfl hl.1 rfl (Nat.le_of_ble_eq_true rfl) dL_law_1268 ⟨by show 110 + 250 * turn.toNat ≤ 675069; omega, by show 1500 + 1500 * turn.toNat ≤ 7076417; omega⟩ (fun r_59 hr_59 => ?_)
                      rw [hr_59]
                      refine z_top (b := ρ 15 i) (by have := pC_s hIρ hBρ (i := i) (by omega); omega) ?_
                      refine l_ald hx hb hK hP56.2.2.1 1 (by decide) (by show 0 ≤ (ρ 15 i) ∧ (ρ 15 i) < ((6 : Nat) : Int); omega) dL_law_1271 ?_
                      refine z_top (b := pS ρ (ρ 15 i)) (by rw [zup_t (t := 3) (t' := 1) (by decide), rs]) ?_
                      refine z_cs (As := [.int (zI (pS ρ (ρ 15 i)))]) (rest := [.int (zI (ρ 20 i))]) ⟨hx, hb, hml, hown, hts⟩ (c_L_takes l D cI cO cL HP56 (pS ρ (ρ 15 i)) (pS_r hIρ (i := (ρ 15 i)) (by omega))) (va_cwS 1 hts gL_law_L_takes rfl rfl rfl (by decide +kernel) ⟨(Nat.le_of_ble_eq_true rfl), (Nat.le_of_ble_eq_true rfl)⟩) (zKK_mv D cI cO cL) (fun U _ hv => va_K.moved hv hK) rfl hl.1 rfl (Nat.le_of_ble_eq_true rfl) dL_law_1272 ⟨by show 110 + 250 * turn.toNat ≤ 675069; omega, by show 1500 + 1500 * turn.toNat ≤ 7076417; omega⟩ (fun r_60 hr_60 => ?_)
                      rw [hr_60, pS_t hIρ (i := (ρ 15 i)) (by omega)]
                      refine z_iadd hx hb dL_law_1275 ?_
                      refine lv_aload_n hx hb dL_law_1276 rfl (lv_at hl 3 rfl) ?_
                      refine z_iconst hx hb dL_law_1277 ?_
                      refine l_ald hx hb hK hP56.2.2.1 0 (by decide) (by show 0 ≤ 0 ∧ 0 < ((6 : Nat) : Int); omega) dL_law_1278 ?_
                      refine z_top (b := ρ 1 0 + 1) (by rw [zup_t (t := 3) (t' := 0) (by decide), rg0]) ?_
                      refine z_icmp_le (tgt := 1285) hx hb dL_law_1279 (by decide) (by omega) (fun c_61 => ?_) (fun c_61 => ?_)
                      · refine lv_aload hx hb dL_law_1285 (lv_at hl 6 rfl) ?_
                        refine lv_iload hx hb dL_law_1287 (lv_at hl 16 rfl) ?_
                        refine lv_aload hx hb dL_law_1289 (lv_at hl 6 rfl) ?_
                        refine lv_iload hx hb dL_law_1291 (lv_at hl 16 rfl) ?_
                        refine l_ald hx hb hK hP56.2.2.1 3 (by decide) (by show 0 ≤ i ∧ i < ((10 : Nat) : Int); omega) dL_law_1293 ?_
                        refine z_top (b := (pC ρ i % 1024 + 1024 * 3)) (by rw [zup_s]) ?_
                        refine z_sipush hx hb dL_law_1294 (by decide +kernel) ?_
                        refine l_and hx hb 10 (by decide +kernel) dL_law_1297 (by have := pC_r hIρ hBρ (i := i) (by omega); omega) ?_
                        refine z_top (b := pC ρ i % 1024) (by show _ % (1024 : Int) = _; omega) ?_
                        refine z_sipush hx hb dL_law_1298 (by decide +kernel) ?_
                        refine l_or hx hb 10 4 (by decide) (by decide) (by show 0 ≤ _ ∧ _ < (1024 : Int); omega) (by decide) dL_law_1301 ?_
                        refine z_top (b := pC ρ i % 1024 + 1024 * 4) rfl ?_
                        refine l_put hx hb C0 hP56 3 (by decide) (by show 0 ≤ i ∧ i < ((10 : Nat) : Int); omega) dL_law_1302 (fun HP62 locsP62 hP62 => ?_)
                        rw [zup_2] at hP62
                        refine z_iinc (lv' := [(22, .int (zI (d2 + 1))), (21, .int (zI (1 + z_33))), (0, .ref b), (1, .ref x0), (2, .ref (la 0)), (3, .ref (la 1)), (4, .ref (la 2)), (5, .ref (la 3)), (6, .ref (la 4)), (7, .ref (la 5)), (8, .int (zI d)), (9, .int (zI turn)), (11, .int (zI u)), (12, .int (zI k)), (13, .int (zI 1)), (23, .int (zI n)), (24, .int (zI i))]) hx hb dL_law_1303 hl (k := 15) rfl (by decide) rfl (fun ls hl => ?_)
                        have hst : zSt ρ (i + 1) (ρ 1 0 + 1) i = 4 := by rw [zSt_i hi.1]; (repeat' split) <;> omega
                        refine z_iinc (lv' := [(24, .int (zI (i + 1))), (22, .int (zI (d2 + 1))), (21, .int (zI (1 + z_33))), (0, .ref b), (1, .ref x0), (2, .ref (la 0)), (3, .ref (la 1)), (4, .ref (la 2)), (5, .ref (la 3)), (6, .ref (la 4)), (7, .ref (la 5)), (8, .int (zI d)), (9, .int (zI turn)), (11, .int (zI u)), (12, .int (zI k)), (13, .int (zI 1)), (23, .int (zI n))]) hx hb dL_law_1306 hl (k := 16) rfl (by decide) rfl (fun ls hl => ?_)
                        refine lv_goto (tgt := 1196) hx hb dL_law_1309 (by decide) ?_
                        exact wo_hLi _ _ _ _ _ (ih_hLi (d2 + 1) (i + 1) ls _ _ _ (by rw [zSum_i _ hi.1, zNewV_t ⟨by omega, by omega⟩ trivial]; omega) (by omega) (by exact Rl_adv hTi (by omega) (by intro t j h1; repeat (first | exact rfl | rw [zup_e2 (by omega)])) (by rw [zup_s, hst]) hIρ hBρ) (hP62) (by omega) (lv_sub hl [2, 3, 4, 5, 6, 7, 8, 9, 10, 11, 12, 13, 14, 15, 16, 1, 0] rfl))
                      · refine lv_goto (tgt := 1306) hx hb dL_law_1282 (by decide) ?_
                        have hst : zSt ρ (i + 1) (ρ 1 0 + 1) i = 3 := by rw [zSt_i hi.1]; (repeat' split) <;> omega
                        refine z_iinc (lv' := [(24, .int (zI (i + 1))), (21, .int (zI (1 + z_33))), (0, .ref b), (1, .ref x0), (2, .ref (la 0)), (3, .ref (la 1)), (4, .ref (la 2)), (5, .ref (la 3)), (6, .ref (la 4)), (7, .ref (la 5)), (8, .int (zI d)), (9, .int (zI turn)), (11, .int (zI u)), (12, .int (zI k)), (13, .int (zI 1)), (23, .int (zI n)), (22, .int (zI d2))]) hx hb dL_law_1306 hl (k := 16) rfl (by decide) rfl (fun ls hl => ?_)
                        refine lv_goto (tgt := 1196) hx hb dL_law_1309 (by decide) ?_
                        exact wo_hLi _ _ _ _ _ (ih_hLi d2 (i + 1) ls _ _ _ (by rw [zSum_i _ hi.1, zNewV_f (by omega)]; omega) (by omega) (by exact Rl_adv hTi (by omega) (by intro t j h1; repeat (first | exact rfl | rw [zup_e2 (by omega)])) (by rw [zup_s, hst]) hIρ hBρ) (hP56) (by omega) (lv_sub hl [1, 2, 3, 4, 5, 6, 7, 8, 9, 10, 11, 12, 13, 14, 15, 16, 0] rfl))
            exact wo_hLi _ _ _ _ _ (hLi _ dn 0 ls _ _ _ (by show _ = _ + (0 : Int); omega) (by omega) (by exact Rl_tick hTL (by rw [zup_s]) (fun t j h1 => zup_e2 h1)) (hP39) (Nat.lt_succ_self _) (lv_sub hl [1, 2, 3, 4, 5, 6, 7, 8, 9, 10, 11, 12, 13, 14, 16, 15, 0] rfl))
      exact wo_hLo _ _ _ _ _ (hLo _ 0 0 ls _ _ _ (by rw [show σ 1 0 + 0 = σ 1 0 by omega]; exact (zSum_z (fun c a b => zNewV_0 hI hJ True ⟨a, by omega⟩)).symm) (by omega) (hT.eqS (fun t i _ _ _ => by rw [show σ 1 0 + 0 = σ 1 0 by omega]; exact zAdv_now hI hJ t i)) (hS) (Nat.lt_succ_self _) (lv_sub hl [2, 3, 4, 5, 6, 7, 8, 9, 10, 11, 12, 14, 15, 16, 1, 0] rfl))
    · refine lv_goto (tgt := 1336) hx hb dL_law_1170 (by decide) ?_
      exact W.widen (k := 110 + 250 * turn.toNat + 30) (n := 1500 + 1500 * turn.toNat + 200) (by omega) (by omega) (next d _ _ _ _ _ ls (by omega) (hZ) (hT) hS (lv_sub hl [1, 2, 3, 4, 5, 6, 7, 8, 9, 10, 12, 14] rfl))
