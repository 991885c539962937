/-! isTold: all answers are as the table says -/
theorem lk_told_a : Cond.arrayClass .int ∈ wsL_isTold := by decide +kernel
set_option maxRecDepth 100000 in
set_option maxHeartbeats 8000000 in
theorem c_L_isTold (l : Launch) (hfl : l.stackTraces = false) (D : va_G) (cI cO cL : ClassId) (A : Nat → Prop) (eE mi : Nat) (sa : Nat → Nat) (g : zG) (σ τ : zT) (la : Nat → Nat) (H0 : Heap) (hR : RX D cO A eE g σ H0) (x0 : Nat) (hx0 : g 0 0 = x0) (hRA : RA D cI la τ H0) (hAl : ∀ q, AL la q → ¬ A q) (hZ : zLaw σ) (hT : Rl τ σ) (u : Int) (hu : -2147483648 ≤ u ∧ u < 2147483648) : zLM l yL_isTold wsL_isTold ({ frames := 9, cells := 200, slots := 1200, locals := 162 }) D cI cO cL A eE mi sa [.ref x0, .int (zI u), .ref (la 0), .ref (la 1), .ref (la 2), .ref (la 3), .ref (la 5)] H0 (fun r H => r = some (.int (zI 1)) ∧ ∃ g' : zG, g' 0 0 = g 0 0 ∧ RX D cO A eE g' σ H) := by
  refine vx_ofW (cc := cL_isTold) (maxL := 19) (ret := (some .boolean)) (by decide) rfl ?_
  intro p e s m args below meth c s₁ B hml hno hv
  obtain ⟨rfl, hH, hG⟩ := hv
  subst hH
  have hK := hG.1.k
  have hx := B.exec
  have hb := B.bytes
  have hr := B.returns
  have hts := atoms_spec (ws := wsL_isTold) B.pre
  have hown : s.vm.findClass RL = some m.cls := findClass_of_methodNamed B.named
  have hlocks := B.notSynchronized
  have hl := lv_entry ([.ref x0, .int (zI u), .ref (la 0), .ref (la 1), .ref (la 2), .ref (la 3), .ref (la 5)]) (n := 19) (Nat.le_of_ble_eq_true rfl)
  rw [lg_entry_eq]
  generalize (lg_sl ([.ref x0, .int (zI u), .ref (la 0), .ref (la 1), .ref (la 2), .ref (la 3), .ref (la 5)]) ++ List.replicate (19 - (lg_sl ([.ref x0, .int (zI u), .ref (la 0), .ref (la 1), .ref (la 2), .ref (la 3), .ref (la 5)])).length) Slot.unset).toArray = ls at hl ⊢
  have hl : lv_has ls 19 [(0, .ref x0), (1, .int (zI u)), (2, .ref (la 0)), (3, .ref (la 1)), (4, .ref (la 2)), (5, .ref (la 3)), (6, .ref (la 5))] := hl
  have hI := hZ.i
  have hB := hZ.b
  have hJ := hZ.j
  have nn := hZ.n
  have f0 := hI.r
  have b0 : σ 5 0 ≤ 6 ∧ σ 11 0 ≤ 4 ∧ σ 14 0 ≤ 10 := hB
  refine z_iconst hx hb dL_isTold_0 ?_
  refine z_newaI (n := 5) hx hb dL_isTold_1 (hts _ lk_told_a) hK (va_S.rf (A := A)) (fun q hq => hG.1.2.2.2.2.1 q hq) ⟨by decide, by decide⟩ (Nat.le_of_ble_eq_true rfl) (Nat.le_of_ble_eq_true rfl) (fun H1 hN1 hz1 ho1 hS1 => ?_)
  have hTS0 : TS D cI cO A eE x0 la τ σ s.heap.size s.heap (fun j => zCnt σ 0 j) g H1 [] := ⟨hx0, (hR.weaken (fun q h1 h2 => ⟨h1, by have h3 : q < s.heap.size := h2; omega⟩)).kept (fun q hq _ => ho1 q hq), hRA.kept (fun q hq => ho1 q (hRA.lt hq)), hN1, hS1⟩
  refine lv_astore (lv' := [(7, .ref s.heap.size), (0, .ref x0), (1, .int (zI u)), (2, .ref (la 0)), (3, .ref (la 1)), (4, .ref (la 2)), (5, .ref (la 3)), (6, .ref (la 5))]) hx hb dL_isTold_3 hl (by decide) rfl (fun ls hl => ?_)
  refine z_iconst hx hb dL_isTold_5 ?_
  refine lv_istore (lv' := [(8, .int (zI 0)), (7, .ref s.heap.size), (0, .ref x0), (1, .int (zI u)), (2, .ref (la 0)), (3, .ref (la 1)), (4, .ref (la 2)), (5, .ref (la 3)), (6, .ref (la 5))]) hx hb dL_isTold_6 hl (by decide) rfl (fun ls hl => ?_)
  refine z_iconst hx hb dL_isTold_8 ?_
  refine lv_istore (lv' := [(9, .int (zI 0)), (8, .int (zI 0)), (7, .ref s.heap.size), (0, .ref x0), (1, .int (zI u)), (2, .ref (la 0)), (3, .ref (la 1)), (4, .ref (la 2)), (5, .ref (la 3)), (6, .ref (la 5))]) hx hb dL_isTold_9 hl (by decide) rfl (fun ls hl => ?_)
  refine z_iconst hx hb dL_isTold_11 ?_
  refine lv_istore (lv' := [(10, .int (zI 0)), (9, .int (zI 0)), (8, .int (zI 0)), (7, .ref s.heap.size), (0, .ref x0), (1, .int (zI u)), (2, .ref (la 0)), (3, .ref (la 1)), (4, .ref (la 2)), (5, .ref (la 3)), (6, .ref (la 5))]) hx hb dL_isTold_12 hl (by decide) rfl (fun ls hl => ?_)
  refine z_cap (fun WW_hL wi_hL wo_hL => ?_)
  have hL : ∀ (n : Nat) (vo i : Int) (ls : Array Slot) (gL : zG) (HL : Heap) (locsL : List Loc), vo = zSum (fun c => if σ 19 c = 3 then σ 9 (σ 15 c) else 0) i.toNat → (0 ≤ i ∧ i ≤ σ 14 0) → TS D cI cO A eE x0 la τ σ s.heap.size s.heap (fun j => zCnt σ i j) gL HL locsL → (σ 14 0 - i).toNat < n → lv_has ls 19 [(9, .int (zI 0)), (7, .ref s.heap.size), (0, .ref x0), (1, .int (zI u)), (2, .ref (la 0)), (3, .ref (la 1)), (4, .ref (la 2)), (5, .ref (la 3)), (6, .ref (la 5)), (8, .int (zI vo)), (10, .int (zI i))] → WW_hL HL locsL (1 + 10 * i.toNat) (5 + 60 * i.toNat) (F0 m 14 ls []) := by
    intro n_hL
    induction n_hL with
    | zero => intro vo i ls gL HL locsL hvo hi hTL hm; exact absurd hm (Nat.not_lt_zero _)
    | succ n_hL ih_hL =>
      intro vo i ls gL HL locsL hvo hi hTL hm hl
      refine wi_hL _ _ _ _ _ ?_
      refine lv_iload hx hb dL_isTold_14 (lv_at hl 10 rfl) ?_
      refine lv_aload_n hx hb dL_isTold_16 rfl (lv_at hl 4 rfl) ?_
      refine z_iconst hx hb dL_isTold_17 ?_
      refine l_ald hx hb hK hTL.2.2.1 0 (by decide) (by show 0 ≤ 4 ∧ 4 < ((6 : Nat) : Int); omega) dL_isTold_18 ?_
      refine z_top (b := σ 14 0) (by rw [hT.g4]) ?_
      refine z_icmp_ge (tgt := 182) hx hb dL_isTold_19 (by decide) (by omega) (fun c_1 => ?_) (fun c_1 => ?_)
      · have ei : i = σ 14 0 := by omega
        have hTm : TS D cI cO A eE x0 la τ σ s.heap.size s.heap (fun j => zCnt σ (σ 14 0) j) gL HL locsL := by rw [← ei]; exact hTL
        refine z_iconst hx hb dL_isTold_182 ?_
        refine lv_istore (lv' := [(10, .int (zI 0)), (9, .int (zI 0)), (7, .ref s.heap.size), (0, .ref x0), (1, .int (zI u)), (2, .ref (la 0)), (3, .ref (la 1)), (4, .ref (la 2)), (5, .ref (la 3)), (6, .ref (la 5)), (8, .int (zI vo))]) hx hb dL_isTold_183 hl (by decide) rfl (fun ls hl => ?_)
        refine z_cap (fun WW_hL2 wi_hL2 wo_hL2 => ?_)
        have hL2 : ∀ (n : Nat) (j : Int) (ls : Array Slot) (gL : zG) (HL : Heap) (locsL : List Loc), (0 ≤ j ∧ j ≤ 5) → TS D cI cO A eE x0 la τ σ s.heap.size s.heap (fun j => zCnt σ (σ 14 0) j) gL HL locsL → (5 - j).toNat < n → lv_has ls 19 [(9, .int (zI 0)), (7, .ref s.heap.size), (0, .ref x0), (1, .int (zI u)), (2, .ref (la 0)), (3, .ref (la 1)), (4, .ref (la 2)), (5, .ref (la 3)), (6, .ref (la 5)), (8, .int (zI vo)), (10, .int (zI j))] → WW_hL2 HL locsL (101 + 1 * j.toNat) (605 + 6 * j.toNat) (F0 m 185 ls []) := by
          intro n_hL2
          induction n_hL2 with
          | zero => intro j ls gL HL locsL hj hTL hm; exact absurd hm (Nat.not_lt_zero _)
          | succ n_hL2 ih_hL2 =>
            intro j ls gL HL locsL hj hTL hm hl
            refine wi_hL2 _ _ _ _ _ ?_
            refine lv_iload hx hb dL_isTold_185 (lv_at hl 10 rfl) ?_
            refine z_iconst hx hb dL_isTold_187 ?_
            refine z_icmp_ge (tgt := 213) hx hb dL_isTold_188 (by decide) (by omega) (fun c_2 => ?_) (fun c_2 => ?_)
            · refine z_iconst hx hb dL_isTold_213 ?_
              refine lv_istore (lv' := [(10, .int (zI 0)), (9, .int (zI 0)), (7, .ref s.heap.size), (0, .ref x0), (1, .int (zI u)), (2, .ref (la 0)), (3, .ref (la 1)), (4, .ref (la 2)), (5, .ref (la 3)), (6, .ref (la 5)), (8, .int (zI vo))]) hx hb dL_isTold_214 hl (by decide) rfl (fun ls hl => ?_)
              refine z_cap (fun WW_hL3 wi_hL3 wo_hL3 => ?_)
              have hL3 : ∀ (n : Nat) (vb k : Int) (ls : Array Slot) (gL : zG) (HL : Heap) (locsL : List Loc), vb = zSum (zPB σ) k.toNat → (0 ≤ k ∧ k ≤ 4) → TS D cI cO A eE x0 la τ σ s.heap.size s.heap (fun j => zCnt σ (σ 14 0) j) gL HL locsL → (4 - k).toNat < n → lv_has ls 19 [(7, .ref s.heap.size), (0, .ref x0), (1, .int (zI u)), (2, .ref (la 0)), (3, .ref (la 1)), (4, .ref (la 2)), (5, .ref (la 3)), (6, .ref (la 5)), (8, .int (zI vo)), (9, .int (zI vb)), (10, .int (zI k))] → WW_hL3 HL locsL (106 + 10 * k.toNat) (635 + 60 * k.toNat) (F0 m 216 ls []) := by
                intro n_hL3
                induction n_hL3 with
                | zero => intro vb k ls gL HL locsL hvb hk hTL hm; exact absurd hm (Nat.not_lt_zero _)
                | succ n_hL3 ih_hL3 =>
                  intro vb k ls gL HL locsL hvb hk hTL hm hl
                  refine wi_hL3 _ _ _ _ _ ?_
                  refine lv_iload hx hb dL_isTold_216 (lv_at hl 10 rfl) ?_
                  refine z_iconst hx hb dL_isTold_218 ?_
                  refine z_icmp_ge (tgt := 501) hx hb dL_isTold_219 (by decide) (by omega) (fun c_3 => ?_) (fun c_3 => ?_)
                  · refine z_iconst hx hb dL_isTold_501 ?_
                    refine lv_istore (lv' := [(10, .int (zI 0)), (7, .ref s.heap.size), (0, .ref x0), (1, .int (zI u)), (2, .ref (la 0)), (3, .ref (la 1)), (4, .ref (la 2)), (5, .ref (la 3)), (6, .ref (la 5)), (8, .int (zI vo)), (9, .int (zI vb))]) hx hb dL_isTold_502 hl (by decide) rfl (fun ls hl => ?_)
                    refine z_cap (fun WW_hL5 wi_hL5 wo_hL5 => ?_)
                    have hL5 : ∀ (n : Nat) (vb j : Int) (ls : Array Slot) (gL : zG) (HL : Heap) (locsL : List Loc), vb = zSum (zPB σ) 4 - zSum (σ 10) j.toNat → (0 ≤ j ∧ j ≤ 6) → TS D cI cO A eE x0 la τ σ s.heap.size s.heap (fun j => zCnt σ (σ 14 0) j) gL HL locsL → (6 - j).toNat < n → lv_has ls 19 [(7, .ref s.heap.size), (0, .ref x0), (1, .int (zI u)), (2, .ref (la 0)), (3, .ref (la 1)), (4, .ref (la 2)), (5, .ref (la 3)), (6, .ref (la 5)), (8, .int (zI vo)), (9, .int (zI vb)), (10, .int (zI j))] → WW_hL5 HL locsL (146 + 1 * j.toNat) (875 + 6 * j.toNat) (F0 m 504 ls []) := by
                      intro n_hL5
                      induction n_hL5 with
                      | zero => intro vb j ls gL HL locsL hvb hj hTL hm; exact absurd hm (Nat.not_lt_zero _)
                      | succ n_hL5 ih_hL5 =>
                        intro vb j ls gL HL locsL hvb hj hTL hm hl
                        refine wi_hL5 _ _ _ _ _ ?_
                        refine lv_iload hx hb dL_isTold_504 (lv_at hl 10 rfl) ?_
                        refine z_bipush hx hb dL_isTold_506 (by decide +kernel) ?_
                        refine z_icmp_ge (tgt := 528) hx hb dL_isTold_508 (by decide) (by omega) (fun c_4 => ?_) (fun c_4 => ?_)
                        · have hv0 : vb = 0 := by rw [hvb, show j = 6 by omega]; show _ - zSum (σ 10) 6 = 0; rw [zPB_all hZ]; omega
                          subst hv0
                          refine lv_aload_n hx hb dL_isTold_528 rfl (lv_at hl 3 rfl) ?_
                          refine z_iconst hx hb dL_isTold_529 ?_
                          refine l_ald hx hb hK hTL.2.2.1 0 (by decide) (by show 0 ≤ 4 ∧ 4 < ((6 : Nat) : Int); omega) dL_isTold_530 ?_
                          refine z_top (b := σ 14 0) (by rw [hT.g4]) ?_
                          refine z_if_le (tgt := 602) hx hb dL_isTold_531 (by decide) (by omega) (fun c_5 => ?_) (fun c_5 => ?_)
                          · refine lv_iload_n hx hb dL_isTold_602 rfl (lv_at hl 2 rfl) ?_
                            refine z_iconst hx hb dL_isTold_603 ?_
                            refine lv_ishr hx hb dL_isTold_604 ?_
                            refine z_nm (fun z_6 hz_6 => ?_)
                            refine z_sipush hx hb dL_isTold_605 (by decide +kernel) ?_
                            refine z_cs (As := [.int (zI z_6), .int (zI 21000)]) (rest := []) ⟨hx, hb, hml, hown, hts⟩ (c_L_low l D cI cO cL HL z_6 21000 (by omega)) (va_cwS 2 hts gL_isTold_L_low rfl rfl rfl (by decide +kernel) ⟨(Nat.le_of_ble_eq_true rfl), (Nat.le_of_ble_eq_true rfl)⟩) (zKK_mv D cI cO cL) (fun U _ hv => va_K.moved hv hK) rfl hl.1 rfl (Nat.le_of_ble_eq_true rfl) dL_isTold_608 ⟨by show 146 + 1 * j.toNat ≤ 200; omega, by show 875 + 6 * j.toNat ≤ 1200; omega⟩ (fun r_8 hr_8 => ?_)
                            obtain ⟨z_7, ez_7, hz_7⟩ := hr_8
                            rw [ez_7]
                            refine lv_istore (lv' := [(10, .int (zI z_7)), (7, .ref s.heap.size), (0, .ref x0), (1, .int (zI u)), (2, .ref (la 0)), (3, .ref (la 1)), (4, .ref (la 2)), (5, .ref (la 3)), (6, .ref (la 5)), (8, .int (zI vo)), (9, .int (zI 0))]) hx hb dL_isTold_611 hl (by decide) rfl (fun ls hl => ?_)
                            refine lv_iload hx hb dL_isTold_613 (lv_at hl 10 rfl) ?_
                            refine z_if_ne (tgt := 683) hx hb dL_isTold_615 (by decide) (by omega) (fun c_9 => ?_) (fun c_9 => ?_)
                            · exact absurd c_9 (by decide)
                            · refine lv_aload_n hx hb dL_isTold_618 rfl (lv_at hl 2 rfl) ?_
                              refine z_iconst hx hb dL_isTold_619 ?_
                              refine t_call (mc := 1) (ms := 6) (As := [.ref x0, .int (zI 5)]) (rest := []) ⟨hx, hb, hml, hown, hts⟩ hG hAl hTL (c_L_count l hfl D cI cO cL _ eE mi sa gL σ HL hTL.2.1 x0 hTL.1 hZ.1 5 (by omega)) (vx_cwSW 2 hts gL_isTold_L_count rfl rfl rfl (by decide +kernel) ⟨(Nat.le_of_ble_eq_true rfl), (Nat.le_of_ble_eq_true rfl)⟩) ⟨rfl, rfl⟩ rfl hl.1 rfl (Nat.le_of_ble_eq_true rfl) dL_isTold_620 ⟨by show 146 + 1 * j.toNat + 1 ≤ 200; omega, by show 875 + 6 * j.toNat + 6 ≤ 1200; omega⟩ (fun z_10 g10 H10 locs10 aw10 hTS10 => ?_)
                              obtain rfl := aw10.1 (by unfold zth_count; rw [if_pos (by omega)])
                              refine z_top (b := vo) (by rw [hvo, show i = σ 14 0 by omega]; rfl) ?_
                              refine lv_iload hx hb dL_isTold_623 (lv_at hl 9 rfl) ?_
                              refine z_same_ne (tgt := 683) hx hb dL_isTold_625 (by decide) ?_
                              refine lv_aload_n hx hb dL_isTold_628 rfl (lv_at hl 2 rfl) ?_
                              refine z_bipush hx hb dL_isTold_629 (by decide +kernel) ?_
                              refine t_call (mc := 1) (ms := 6) (As := [.ref x0, .int (zI 7)]) (rest := []) ⟨hx, hb, hml, hown, hts⟩ hG hAl hTS10 (c_L_count l hfl D cI cO cL _ eE mi sa g10 σ H10 hTS10.2.1 x0 hTS10.1 hZ.1 7 (by omega)) (vx_cwSW 2 hts gL_isTold_L_count rfl rfl rfl (by decide +kernel) ⟨(Nat.le_of_ble_eq_true rfl), (Nat.le_of_ble_eq_true rfl)⟩) ⟨rfl, rfl⟩ rfl hl.1 rfl (Nat.le_of_ble_eq_true rfl) dL_isTold_631 ⟨by show 146 + 1 * j.toNat + 1 + 1 ≤ 200; omega, by show 875 + 6 * j.toNat + 6 + 6 ≤ 1200; omega⟩ (fun z_12 g12 H12 locs12 aw12 hTS12 => ?_)
                              obtain rfl := aw12.1 (by unfold zth_count; rw [if_pos (by omega)])
                              refine z_top (b := σ 21 0) (by rfl) ?_
                              refine lv_aload_n hx hb dL_isTold_634 rfl (lv_at hl 4 rfl) ?_
                              refine z_iconst hx hb dL_isTold_635 ?_
                              refine l_ald hx hb hK hTS12.2.2.1 0 (by decide) (by show 0 ≤ 5 ∧ 5 < ((6 : Nat) : Int); omega) dL_isTold_636 ?_
                              refine z_top (b := σ 21 0) (by rw [hT.g5]) ?_
                              refine z_same_ne (tgt := 683) hx hb dL_isTold_637 (by decide) ?_
                              refine lv_aload_n hx hb dL_isTold_640 rfl (lv_at hl 2 rfl) ?_
                              refine z_cv (As := []) (rest := []) ⟨hx, hb, hml, hown, hts⟩ (show zPM l yX4_minute wsX4_minute _ (zKK D cI cO cL) [.ref x0] H12 _ by rw [← hTS12.1]; exact c_X4_minute l D cI cO cL _ eE g12 σ H12 hTS12.2.1) (cwV 0 hts gL_isTold_X4_minute rfl rfl rfl (by decide +kernel) ⟨(Nat.le_of_ble_eq_true rfl), (Nat.le_of_ble_eq_true rfl)⟩) (zKK_mv D cI cO cL) (fun U _ hv => va_K.moved hv hK) (by rw [← hTS12.1]; exact z_recv hK hTS12.2.1.x (q := (RX4, TX4, 7)) rfl) rfl hl.1 rfl (Nat.le_of_ble_eq_true rfl) dL_isTold_641 ⟨by show 146 + 1 * j.toNat + 1 + 1 ≤ 200; omega, by show 875 + 6 * j.toNat + 6 + 6 ≤ 1200; omega⟩ (fun r_14 hr_14 => ?_)
                              rw [hr_14]
                              refine lv_aload_n hx hb dL_isTold_644 rfl (lv_at hl 4 rfl) ?_
                              refine z_iconst hx hb dL_isTold_645 ?_
                              refine l_ald hx hb hK hTS12.2.2.1 0 (by decide) (by show 0 ≤ 0 ∧ 0 < ((6 : Nat) : Int); omega) dL_isTold_646 ?_
                              refine z_top (b := σ 1 0) (by rw [hT.g0]) ?_
                              refine z_same_ne (tgt := 683) hx hb dL_isTold_647 (by decide) ?_
                              refine lv_aload_n hx hb dL_isTold_650 rfl (lv_at hl 2 rfl) ?_
                              refine lv_iload hx hb dL_isTold_651 (lv_at hl 0 rfl) ?_
                              refine t_call (mc := 1) (ms := 6) (As := [.ref x0, .int (zI z_7)]) (rest := []) ⟨hx, hb, hml, hown, hts⟩ hG hAl hTS12 (c_L_level l hfl D cI cO cL _ eE mi sa g12 σ H12 hTS12.2.1 x0 hTS12.1 hZ.1 z_7 (by omega)) (vx_cwSW 2 hts gL_isTold_L_level rfl rfl rfl (by decide +kernel) ⟨(Nat.le_of_ble_eq_true rfl), (Nat.le_of_ble_eq_true rfl)⟩) ⟨rfl, rfl⟩ rfl hl.1 rfl (Nat.le_of_ble_eq_true rfl) dL_isTold_653 ⟨by show 146 + 1 * j.toNat + 1 + 1 + 1 ≤ 200; omega, by show 875 + 6 * j.toNat + 6 + 6 + 6 ≤ 1200; omega⟩ (fun z_16 g16 H16 locs16 aw16 hTS16 => ?_)
                              obtain rfl := aw16.1 (by unfold zth_level; rw [if_pos (by omega)])
                              refine lv_iload hx hb dL_isTold_656 (lv_at hl 0 rfl) ?_
                              refine lv_aload_n hx hb dL_isTold_658 rfl (lv_at hl 4 rfl) ?_
                              refine z_cs (As := [.int (zI z_7), .ref (la 0)]) (rest := [.int (zI (zLev σ z_7))]) ⟨hx, hb, hml, hown, hts⟩ (c_L_tideAt l D cI cO cL la τ σ H16 hTS16.2.2.1 z_7 hI hT (by omega)) (va_cwS 2 hts gL_isTold_L_tideAt rfl rfl rfl (by decide +kernel) ⟨(Nat.le_of_ble_eq_true rfl), (Nat.le_of_ble_eq_true rfl)⟩) (zKK_mv D cI cO cL) (fun U _ hv => va_K.moved hv hK) rfl hl.1 rfl (Nat.le_of_ble_eq_true rfl) dL_isTold_659 ⟨by show 146 + 1 * j.toNat + 1 + 1 + 1 ≤ 200; omega, by show 875 + 6 * j.toNat + 6 + 6 + 6 ≤ 1200; omega⟩ (fun r_17 hr_17 => ?_)
                              rw [hr_17]
                              refine z_same_ne (tgt := 683) hx hb dL_isTold_662 (by decide) ?_
                              refine lv_aload_n hx hb dL_isTold_665 rfl (lv_at hl 2 rfl) ?_
                              refine lv_aload_n hx hb dL_isTold_666 rfl (lv_at hl 4 rfl) ?_
                              refine z_iconst hx hb dL_isTold_667 ?_
                              refine l_ald hx hb hK hTS16.2.2.1 0 (by decide) (by show 0 ≤ 4 ∧ 4 < ((6 : Nat) : Int); omega) dL_isTold_668 ?_
                              refine z_top (b := σ 14 0) (by rw [hT.g4]) ?_
                              refine z_iconst hx hb dL_isTold_669 ?_
                              refine t_call (mc := 2) (ms := 12) (As := [.ref x0, .int (zI (σ 14 0)), .int (zI 0)]) (rest := []) ⟨hx, hb, hml, hown, hts⟩ hG hAl hTS16 (c_L_ofConference l hfl D cI cO cL _ eE mi sa g16 σ H16 hTS16.2.1 x0 hTS16.1 hZ.1 (σ 14 0) 0 ⟨(by omega), (by omega)⟩) (vx_cwSW 3 hts gL_isTold_L_ofConference rfl rfl rfl (by decide +kernel) ⟨(Nat.le_of_ble_eq_true rfl), (Nat.le_of_ble_eq_true rfl)⟩) ⟨rfl, rfl⟩ rfl hl.1 rfl (Nat.le_of_ble_eq_true rfl) dL_isTold_670 ⟨by show 146 + 1 * j.toNat + 1 + 1 + 1 + 2 ≤ 200; omega, by show 875 + 6 * j.toNat + 6 + 6 + 6 + 12 ≤ 1200; omega⟩ (fun z_19 g19 H19 locs19 aw19 hTS19 => ?_)
                              obtain rfl := aw19.2.1 (by unfold zth_ofC; rw [if_neg (by omega)])
                              refine z_sipush hx hb dL_isTold_673 (by decide +kernel) ?_
                              refine z_same_ne (tgt := 683) hx hb dL_isTold_676 (by decide) ?_
                              refine z_iconst hx hb dL_isTold_679 ?_
                              refine lv_goto (tgt := 684) hx hb dL_isTold_680 (by decide) ?_
                              exact vx_ret (W.widen (k := 200) (n := 1200) (by omega) (by omega) (W.zret hx hb hr rfl (z_endL (P := fun r H => r = some (.int (zI 1)) ∧ ∃ g' : zG, g' 0 0 = g 0 0 ∧ RX D cO A eE g' σ H) (v := some (.int (zI 1))) ⟨rfl, g19, hTS19.1.trans hx0.symm, hTS19.2.1.weaken (fun q hq _ => hq.1)⟩ hTS19.2.2.2.2) hTS19.2.2.2.2.2.2 dL_isTold_684))
                          · refine lv_iload_n hx hb dL_isTold_534 rfl (lv_at hl 2 rfl) ?_
                            refine lv_aload_n hx hb dL_isTold_535 rfl (lv_at hl 3 rfl) ?_
                            refine z_iconst hx hb dL_isTold_536 ?_
                            refine l_ald hx hb hK hTL.2.2.1 0 (by decide) (by show 0 ≤ 4 ∧ 4 < ((6 : Nat) : Int); omega) dL_isTold_537 ?_
                            refine z_top (b := σ 14 0) (by rw [hT.g4]) ?_
                            refine z_cs (As := [.int (zI u), .int (zI (σ 14 0))]) (rest := []) ⟨hx, hb, hml, hown, hts⟩ (c_L_low l D cI cO cL HL u (σ 14 0) (by omega)) (va_cwS 2 hts gL_isTold_L_low rfl rfl rfl (by decide +kernel) ⟨(Nat.le_of_ble_eq_true rfl), (Nat.le_of_ble_eq_true rfl)⟩) (zKK_mv D cI cO cL) (fun U _ hv => va_K.moved hv hK) rfl hl.1 rfl (Nat.le_of_ble_eq_true rfl) dL_isTold_538 ⟨by show 146 + 1 * j.toNat ≤ 200; omega, by show 875 + 6 * j.toNat ≤ 1200; omega⟩ (fun r_22 hr_22 => ?_)
                            obtain ⟨z_21, ez_21, hz_21⟩ := hr_22
                            rw [ez_21]
                            refine lv_istore (lv' := [(10, .int (zI z_21)), (7, .ref s.heap.size), (0, .ref x0), (1, .int (zI u)), (2, .ref (la 0)), (3, .ref (la 1)), (4, .ref (la 2)), (5, .ref (la 3)), (6, .ref (la 5)), (8, .int (zI vo)), (9, .int (zI 0))]) hx hb dL_isTold_541 hl (by decide) rfl (fun ls hl => ?_)
                            refine lv_aload_n hx hb dL_isTold_543 rfl (lv_at hl 4 rfl) ?_
                            refine z_iconst hx hb dL_isTold_544 ?_
                            refine l_ald hx hb hK hTL.2.2.1 0 (by decide) (by show 0 ≤ 0 ∧ 0 < ((6 : Nat) : Int); omega) dL_isTold_545 ?_
                            refine z_top (b := σ 1 0) (by rw [hT.g0]) ?_
                            refine lv_iload_n hx hb dL_isTold_546 rfl (lv_at hl 3 rfl) ?_
                            refine z_iconst hx hb dL_isTold_547 ?_
                            refine lv_ishr hx hb dL_isTold_548 ?_
                            refine z_nm (fun z_23 hz_23 => ?_)
                            refine z_sipush hx hb dL_isTold_549 (by decide +kernel) ?_
                            refine z_cs (As := [.int (zI z_23), .int (zI 600)]) (rest := [.int (zI (σ 1 0))]) ⟨hx, hb, hml, hown, hts⟩ (c_L_low l D cI cO cL HL z_23 600 (by omega)) (va_cwS 2 hts gL_isTold_L_low rfl rfl rfl (by decide +kernel) ⟨(Nat.le_of_ble_eq_true rfl), (Nat.le_of_ble_eq_true rfl)⟩) (zKK_mv D cI cO cL) (fun U _ hv => va_K.moved hv hK) rfl hl.1 rfl (Nat.le_of_ble_eq_true rfl) dL_isTold_552 ⟨by show 146 + 1 * j.toNat ≤ 200; omega, by show 875 + 6 * j.toNat ≤ 1200; omega⟩ (fun r_25 hr_25 => ?_)
                            obtain ⟨z_24, ez_24, hz_24⟩ := hr_25
                            rw [ez_24]
                            refine z_iadd hx hb dL_isTold_555 ?_
                            refine lv_istore (lv' := [(11, .int (zI ((σ 1 0) + z_24))), (10, .int (zI z_21)), (7, .ref s.heap.size), (0, .ref x0), (1, .int (zI u)), (2, .ref (la 0)), (3, .ref (la 1)), (4, .ref (la 2)), (5, .ref (la 3)), (6, .ref (la 5)), (8, .int (zI vo)), (9, .int (zI 0))]) hx hb dL_isTold_556 hl (by decide) rfl (fun ls hl => ?_)
                            refine lv_aload_n hx hb dL_isTold_558 rfl (lv_at hl 3 rfl) ?_
                            refine lv_iload hx hb dL_isTold_559 (lv_at hl 1 rfl) ?_
                            refine lv_iload hx hb dL_isTold_561 (lv_at hl 0 rfl) ?_
                            refine t_call (mc := 3) (ms := 18) (As := [.ref x0, .int (zI z_21), .int (zI ((σ 1 0) + z_24))]) (rest := []) ⟨hx, hb, hml, hown, hts⟩ hG hAl hTL (c_L_why l hfl D cI cO cL _ eE mi sa gL σ HL hTL.2.1 x0 hTL.1 hZ.1 z_21 ((σ 1 0) + z_24) ⟨(by omega), (by omega)⟩) (vx_cwSW 3 hts gL_isTold_L_why rfl rfl rfl (by decide +kernel) ⟨(Nat.le_of_ble_eq_true rfl), (Nat.le_of_ble_eq_true rfl)⟩) ⟨rfl, rfl⟩ rfl hl.1 rfl (Nat.le_of_ble_eq_true rfl) dL_isTold_563 ⟨by show 146 + 1 * j.toNat + 3 ≤ 200; omega, by show 875 + 6 * j.toNat + 18 ≤ 1200; omega⟩ (fun z_26 g26 H26 locs26 aw26 hTS26 => ?_)
                            refine lv_aload hx hb dL_isTold_566 (lv_at hl 8 rfl) ?_
                            refine lv_iload hx hb dL_isTold_568 (lv_at hl 1 rfl) ?_
                            refine l_ald hx hb hK hTS26.2.2.1 3 (by decide) (by show 0 ≤ z_21 ∧ z_21 < ((10 : Nat) : Int); omega) dL_isTold_570 ?_
                            refine z_top (b := pC σ z_21) (by rw [hT.c (i := z_21) (by omega)]) ?_
                            refine z_cs (As := [.int (zI (pC σ z_21))]) (rest := [.int (zI z_26)]) ⟨hx, hb, hml, hown, hts⟩ (c_L_pilotOf l D cI cO cL H26 (pC σ z_21) (pC_r hI hB (i := z_21) (by omega))) (va_cwS 1 hts gL_isTold_L_pilotOf rfl rfl rfl (by decide +kernel) ⟨(Nat.le_of_ble_eq_true rfl), (Nat.le_of_ble_eq_true rfl)⟩) (zKK_mv D cI cO cL) (fun U _ hv => va_K.moved hv hK) rfl hl.1 rfl (Nat.le_of_ble_eq_true rfl) dL_isTold_571 ⟨by show 146 + 1 * j.toNat + 3 ≤ 200; omega, by show 875 + 6 * j.toNat + 18 ≤ 1200; omega⟩ (fun r_27 hr_27 => ?_)
                            rw [hr_27, pC_p hI hB (i := z_21) (by omega)]
                            refine z_iconst hx hb dL_isTold_574 ?_
                            refine z_icmp_ne (tgt := 584) hx hb dL_isTold_575 (by decide) (by have f9 := hI.c (i := z_21) (by omega); omega) (fun c_28 => ?_) (fun c_28 => ?_)
                            · obtain rfl := aw26.1 (by unfold zth_why; rw [if_neg (by omega), if_neg (by omega), if_neg (by omega)])
                              refine lv_iload hx hb dL_isTold_584 (lv_at hl 1 rfl) ?_
                              refine lv_iload hx hb dL_isTold_586 (lv_at hl 0 rfl) ?_
                              refine lv_aload_n hx hb dL_isTold_588 rfl (lv_at hl 5 rfl) ?_
                              refine lv_aload_n hx hb dL_isTold_589 rfl (lv_at hl 6 rfl) ?_
                              refine lv_aload hx hb dL_isTold_590 (lv_at hl 8 rfl) ?_
                              refine lv_aload hx hb dL_isTold_592 (lv_at hl 9 rfl) ?_
                              refine z_cs (As := [.int (zI z_21), .int (zI ((σ 1 0) + z_24)), .ref (la 0), .ref (la 1), .ref (la 3), .ref (la 5)]) (rest := [.int (zI (zan_why σ z_21 ((σ 1 0) + z_24)))]) ⟨hx, hb, hml, hown, hts⟩ (c_L_reason l D cI cO cL la τ σ H26 hTS26.2.2.1 z_21 ((σ 1 0) + z_24) hI hB hT (by omega) (by omega)) (va_cwS 6 hts gL_isTold_L_reason rfl rfl rfl (by decide +kernel) ⟨(Nat.le_of_ble_eq_true rfl), (Nat.le_of_ble_eq_true rfl)⟩) (zKK_mv D cI cO cL) (fun U _ hv => va_K.moved hv hK) rfl hl.1 rfl (Nat.le_of_ble_eq_true rfl) dL_isTold_594 ⟨by show 146 + 1 * j.toNat + 3 ≤ 200; omega, by show 875 + 6 * j.toNat + 18 ≤ 1200; omega⟩ (fun r_29 hr_29 => ?_)
                              rw [hr_29]
                              refine z_same_eq (tgt := 602) hx hb dL_isTold_597 (by decide) ?_
                              refine lv_iload_n hx hb dL_isTold_602 rfl (lv_at hl 4 rfl) ?_
                              refine z_iconst hx hb dL_isTold_603 ?_
                              refine lv_ishr hx hb dL_isTold_604 ?_
                              refine z_nm (fun z_31 hz_31 => ?_)
                              refine z_sipush hx hb dL_isTold_605 (by decide +kernel) ?_
                              refine z_cs (As := [.int (zI z_31), .int (zI 21000)]) (rest := []) ⟨hx, hb, hml, hown, hts⟩ (c_L_low l D cI cO cL H26 z_31 21000 (by omega)) (va_cwS 2 hts gL_isTold_L_low rfl rfl rfl (by decide +kernel) ⟨(Nat.le_of_ble_eq_true rfl), (Nat.le_of_ble_eq_true rfl)⟩) (zKK_mv D cI cO cL) (fun U _ hv => va_K.moved hv hK) rfl hl.1 rfl (Nat.le_of_ble_eq_true rfl) dL_isTold_608 ⟨by show 146 + 1 * j.toNat + 3 ≤ 200; omega, by show 875 + 6 * j.toNat + 18 ≤ 1200; omega⟩ (fun r_33 hr_33 => ?_)
                              obtain ⟨z_32, ez_32, hz_32⟩ := hr_33
                              rw [ez_32]
                              refine lv_istore (lv' := [(10, .int (zI z_32)), (11, .int (zI ((σ 1 0) + z_24))), (7, .ref s.heap.size), (0, .ref x0), (1, .int (zI u)), (2, .ref (la 0)), (3, .ref (la 1)), (4, .ref (la 2)), (5, .ref (la 3)), (6, .ref (la 5)), (8, .int (zI vo)), (9, .int (zI 0))]) hx hb dL_isTold_611 hl (by decide) rfl (fun ls hl => ?_)
                              refine lv_iload hx hb dL_isTold_613 (lv_at hl 11 rfl) ?_
                              refine z_if_ne (tgt := 683) hx hb dL_isTold_615 (by decide) (by omega) (fun c_34 => ?_) (fun c_34 => ?_)
                              · exact absurd c_34 (by decide)
                              · refine lv_aload_n hx hb dL_isTold_618 rfl (lv_at hl 3 rfl) ?_
                                refine z_iconst hx hb dL_isTold_619 ?_
                                refine t_call (mc := 1) (ms := 6) (As := [.ref x0, .int (zI 5)]) (rest := []) ⟨hx, hb, hml, hown, hts⟩ hG hAl hTS26 (c_L_count l hfl D cI cO cL _ eE mi sa g26 σ H26 hTS26.2.1 x0 hTS26.1 hZ.1 5 (by omega)) (vx_cwSW 2 hts gL_isTold_L_count rfl rfl rfl (by decide +kernel) ⟨(Nat.le_of_ble_eq_true rfl), (Nat.le_of_ble_eq_true rfl)⟩) ⟨rfl, rfl⟩ rfl hl.1 rfl (Nat.le_of_ble_eq_true rfl) dL_isTold_620 ⟨by show 146 + 1 * j.toNat + 3 + 1 ≤ 200; omega, by show 875 + 6 * j.toNat + 18 + 6 ≤ 1200; omega⟩ (fun z_35 g35 H35 locs35 aw35 hTS35 => ?_)
                                obtain rfl := aw35.1 (by unfold zth_count; rw [if_pos (by omega)])
                                refine z_top (b := vo) (by rw [hvo, show i = σ 14 0 by omega]; rfl) ?_
                                refine lv_iload hx hb dL_isTold_623 (lv_at hl 10 rfl) ?_
                                refine z_same_ne (tgt := 683) hx hb dL_isTold_625 (by decide) ?_
                                refine lv_aload_n hx hb dL_isTold_628 rfl (lv_at hl 3 rfl) ?_
                                refine z_bipush hx hb dL_isTold_629 (by decide +kernel) ?_
                                refine t_call (mc := 1) (ms := 6) (As := [.ref x0, .int (zI 7)]) (rest := []) ⟨hx, hb, hml, hown, hts⟩ hG hAl hTS35 (c_L_count l hfl D cI cO cL _ eE mi sa g35 σ H35 hTS35.2.1 x0 hTS35.1 hZ.1 7 (by omega)) (vx_cwSW 2 hts gL_isTold_L_count rfl rfl rfl (by decide +kernel) ⟨(Nat.le_of_ble_eq_true rfl), (Nat.le_of_ble_eq_true rfl)⟩) ⟨rfl, rfl⟩ rfl hl.1 rfl (Nat.le_of_ble_eq_true rfl) dL_isTold_631 ⟨by show 146 + 1 * j.toNat + 3 + 1 + 1 ≤ 200; omega, by show 875 + 6 * j.toNat + 18 + 6 + 6 ≤ 1200; omega⟩ (fun z_37 g37 H37 locs37 aw37 hTS37 => ?_)
                                obtain rfl := aw37.1 (by unfold zth_count; rw [if_pos (by omega)])
                                refine z_top (b := σ 21 0) (by rfl) ?_
                                refine lv_aload_n hx hb dL_isTold_634 rfl (lv_at hl 5 rfl) ?_
                                refine z_iconst hx hb dL_isTold_635 ?_
                                refine l_ald hx hb hK hTS37.2.2.1 0 (by decide) (by show 0 ≤ 5 ∧ 5 < ((6 : Nat) : Int); omega) dL_isTold_636 ?_
                                refine z_top (b := σ 21 0) (by rw [hT.g5]) ?_
                                refine z_same_ne (tgt := 683) hx hb dL_isTold_637 (by decide) ?_
                                refine lv_aload_n hx hb dL_isTold_640 rfl (lv_at hl 3 rfl) ?_
                                refine z_cv (As := []) (rest := []) ⟨hx, hb, hml, hown, hts⟩ (show zPM l yX4_minute wsX4_minute _ (zKK D cI cO cL) [.ref x0] H37 _ by rw [← hTS37.1]; exact c_X4_minute l D cI cO cL _ eE g37 σ H37 hTS37.2.1) (cwV 0 hts gL_isTold_X4_minute rfl rfl rfl (by decide +kernel) ⟨(Nat.le_of_ble_eq_true rfl), (Nat.le_of_ble_eq_true rfl)⟩) (zKK_mv D cI cO cL) (fun U _ hv => va_K.moved hv hK) (by rw [← hTS37.1]; exact z_recv hK hTS37.2.1.x (q := (RX4, TX4, 7)) rfl) rfl hl.1 rfl (Nat.le_of_ble_eq_true rfl) dL_isTold_641 ⟨by show 146 + 1 * j.toNat + 3 + 1 + 1 ≤ 200; omega, by show 875 + 6 * j.toNat + 18 + 6 + 6 ≤ 1200; omega⟩ (fun r_39 hr_39 => ?_)
                                rw [hr_39]
                                refine lv_aload_n hx hb dL_isTold_644 rfl (lv_at hl 5 rfl) ?_
                                refine z_iconst hx hb dL_isTold_645 ?_
                                refine l_ald hx hb hK hTS37.2.2.1 0 (by decide) (by show 0 ≤ 0 ∧ 0 < ((6 : Nat) : Int); omega) dL_isTold_646 ?_
                                refine z_top (b := σ 1 0) (by rw [hT.g0]) ?_
                                refine z_same_ne (tgt := 683) hx hb dL_isTold_647 (by decide) ?_
                                refine lv_aload_n hx hb dL_isTold_650 rfl (lv_at hl 3 rfl) ?_
                                refine lv_iload hx hb dL_isTold_651 (lv_at hl 0 rfl) ?_
                                refine t_call (mc := 1) (ms := 6) (As := [.ref x0, .int (zI z_32)]) (rest := []) ⟨hx, hb, hml, hown, hts⟩ hG hAl hTS37 (c_L_level l hfl D cI cO cL _ eE mi sa g37 σ H37 hTS37.2.1 x0 hTS37.1 hZ.1 z_32 (by omega)) (vx_cwSW 2 hts gL_isTold_L_level rfl rfl rfl (by decide +kernel) ⟨(Nat.le_of_ble_eq_true rfl), (Nat.le_of_ble_eq_true rfl)⟩) ⟨rfl, rfl⟩ rfl hl.1 rfl (Nat.le_of_ble_eq_true rfl) dL_isTold_653 ⟨by show 146 + 1 * j.toNat + 3 + 1 + 1 + 1 ≤ 200; omega, by show 875 + 6 * j.toNat + 18 + 6 + 6 + 6 ≤ 1200; omega⟩ (fun z_41 g41 H41 locs41 aw41 hTS41 => ?_)
                                obtain rfl := aw41.1 (by unfold zth_level; rw [if_pos (by omega)])
                                refine lv_iload hx hb dL_isTold_656 (lv_at hl 0 rfl) ?_
                                refine lv_aload_n hx hb dL_isTold_658 rfl (lv_at hl 5 rfl) ?_
                                refine z_cs (As := [.int (zI z_32), .ref (la 0)]) (rest := [.int (zI (zLev σ z_32))]) ⟨hx, hb, hml, hown, hts⟩ (c_L_tideAt l D cI cO cL la τ σ H41 hTS41.2.2.1 z_32 hI hT (by omega)) (va_cwS 2 hts gL_isTold_L_tideAt rfl rfl rfl (by decide +kernel) ⟨(Nat.le_of_ble_eq_true rfl), (Nat.le_of_ble_eq_true rfl)⟩) (zKK_mv D cI cO cL) (fun U _ hv => va_K.moved hv hK) rfl hl.1 rfl (Nat.le_of_ble_eq_true rfl) dL_isTold_659 ⟨by show 146 + 1 * j.toNat + 3 + 1 + 1 + 1 ≤ 200; omega, by show 875 + 6 * j.toNat + 18 + 6 + 6 + 6 ≤ 1200; omega⟩ (fun r_42 hr_42 => ?_)
                                rw [hr_42]
                                refine z_same_ne (tgt := 683) hx hb dL_isTold_662 (by decide) ?_
                                refine lv_aload_n hx hb dL_isTold_665 rfl (lv_at hl 3 rfl) ?_
                                refine lv_aload_n hx hb dL_isTold_666 rfl (lv_at hl 5 rfl) ?_
                                refine z_iconst hx hb dL_isTold_667 ?_
                                refine l_ald hx hb hK hTS41.2.2.1 0 (by decide) (by show 0 ≤ 4 ∧ 4 < ((6 : Nat) : Int); omega) dL_isTold_668 ?_
                                refine z_top (b := σ 14 0) (by rw [hT.g4]) ?_
                                refine z_iconst hx hb dL_isTold_669 ?_
                                refine t_call (mc := 2) (ms := 12) (As := [.ref x0, .int (zI (σ 14 0)), .int (zI 0)]) (rest := []) ⟨hx, hb, hml, hown, hts⟩ hG hAl hTS41 (c_L_ofConference l hfl D cI cO cL _ eE mi sa g41 σ H41 hTS41.2.1 x0 hTS41.1 hZ.1 (σ 14 0) 0 ⟨(by omega), (by omega)⟩) (vx_cwSW 3 hts gL_isTold_L_ofConference rfl rfl rfl (by decide +kernel) ⟨(Nat.le_of_ble_eq_true rfl), (Nat.le_of_ble_eq_true rfl)⟩) ⟨rfl, rfl⟩ rfl hl.1 rfl (Nat.le_of_ble_eq_true rfl) dL_isTold_670 ⟨by show 146 + 1 * j.toNat + 3 + 1 + 1 + 1 + 2 ≤ 200; omega, by show 875 + 6 * j.toNat + 18 + 6 + 6 + 6 + 12 ≤ 1200; omega⟩ (fun z_44 g44 H44 locs44 aw44 hTS44 => ?_)
                                obtain rfl := aw44.2.1 (by unfold zth_ofC; rw [if_neg (by omega)])
                                refine z_sipush hx hb dL_isTold_673 (by decide +kernel) ?_
                                refine z_same_ne (tgt := 683) hx hb dL_isTold_676 (by decide) ?_
                                refine z_iconst hx hb dL_isTold_679 ?_
                                refine lv_goto (tgt := 684) hx hb dL_isTold_680 (by decide) ?_
                                exact vx_ret (W.widen (k := 200) (n := 1200) (by omega) (by omega) (W.zret hx hb hr rfl (z_endL (P := fun r H => r = some (.int (zI 1)) ∧ ∃ g' : zG, g' 0 0 = g 0 0 ∧ RX D cO A eE g' σ H) (v := some (.int (zI 1))) ⟨rfl, g44, hTS44.1.trans hx0.symm, hTS44.2.1.weaken (fun q hq _ => hq.1)⟩ hTS44.2.2.2.2) hTS44.2.2.2.2.2.2 dL_isTold_684))
                            · obtain rfl := aw26.2.2.2 (by unfold zth_why; rw [if_neg (by omega), if_neg (by omega), if_pos (by omega)])
                              refine z_sipush hx hb dL_isTold_578 (by decide +kernel) ?_
                              refine lv_goto (tgt := 597) hx hb dL_isTold_581 (by decide) ?_
                              refine z_same_eq (tgt := 602) hx hb dL_isTold_597 (by decide) ?_
                              refine lv_iload_n hx hb dL_isTold_602 rfl (lv_at hl 4 rfl) ?_
                              refine z_iconst hx hb dL_isTold_603 ?_
                              refine lv_ishr hx hb dL_isTold_604 ?_
                              refine z_nm (fun z_47 hz_47 => ?_)
                              refine z_sipush hx hb dL_isTold_605 (by decide +kernel) ?_
                              refine z_cs (As := [.int (zI z_47), .int (zI 21000)]) (rest := []) ⟨hx, hb, hml, hown, hts⟩ (c_L_low l D cI cO cL H26 z_47 21000 (by omega)) (va_cwS 2 hts gL_isTold_L_low rfl rfl rfl (by decide +kernel) ⟨(Nat.le_of_ble_eq_true rfl), (Nat.le_of_ble_eq_true rfl)⟩) (zKK_mv D cI cO cL) (fun U _ hv => va_K.moved hv hK) rfl hl.1 rfl (Nat.le_of_ble_eq_true rfl) dL_isTold_608 ⟨by show 146 + 1 * j.toNat + 3 ≤ 200; omega, by show 875 + 6 * j.toNat + 18 ≤ 1200; omega⟩ (fun r_49 hr_49 => ?_)
                              obtain ⟨z_48, ez_48, hz_48⟩ := hr_49
                              rw [ez_48]
                              refine lv_istore (lv' := [(10, .int (zI z_48)), (11, .int (zI ((σ 1 0) + z_24))), (7, .ref s.heap.size), (0, .ref x0), (1, .int (zI u)), (2, .ref (la 0)), (3, .ref (la 1)), (4, .ref (la 2)), (5, .ref (la 3)), (6, .ref (la 5)), (8, .int (zI vo)), (9, .int (zI 0))]) hx hb dL_isTold_611 hl (by decide) rfl (fun ls hl => ?_)
                              refine lv_iload hx hb dL_isTold_613 (lv_at hl 11 rfl) ?_
                              refine z_if_ne (tgt := 683) hx hb dL_isTold_615 (by decide) (by omega) (fun c_50 => ?_) (fun c_50 => ?_)
                              · exact absurd c_50 (by decide)
                              · refine lv_aload_n hx hb dL_isTold_618 rfl (lv_at hl 3 rfl) ?_
                                refine z_iconst hx hb dL_isTold_619 ?_
                                refine t_call (mc := 1) (ms := 6) (As := [.ref x0, .int (zI 5)]) (rest := []) ⟨hx, hb, hml, hown, hts⟩ hG hAl hTS26 (c_L_count l hfl D cI cO cL _ eE mi sa g26 σ H26 hTS26.2.1 x0 hTS26.1 hZ.1 5 (by omega)) (vx_cwSW 2 hts gL_isTold_L_count rfl rfl rfl (by decide +kernel) ⟨(Nat.le_of_ble_eq_true rfl), (Nat.le_of_ble_eq_true rfl)⟩) ⟨rfl, rfl⟩ rfl hl.1 rfl (Nat.le_of_ble_eq_true rfl) dL_isTold_620 ⟨by show 146 + 1 * j.toNat + 3 + 1 ≤ 200; omega, by show 875 + 6 * j.toNat + 18 + 6 ≤ 1200; omega⟩ (fun z_51 g51 H51 locs51 aw51 hTS51 => ?_)
                                obtain rfl := aw51.1 (by unfold zth_count; rw [if_pos (by omega)])
                                refine z_top (b := vo) (by rw [hvo, show i = σ 14 0 by omega]; rfl) ?_
                                refine lv_iload hx hb dL_isTold_623 (lv_at hl 10 rfl) ?_
                                refine z_same_ne (tgt := 683) hx hb dL_isTold_625 (by decide) ?_
                                refine lv_aload_n hx hb dL_isTold_628 rfl (lv_at hl 3 rfl) ?_
                                refine z_bipush hx hb dL_isTold_629 (by decide +kernel) ?_
                                refine t_call (mc := 1) (ms := 6) (As := [.ref x0, .int (zI 7)]) (rest := []) ⟨hx, hb, hml, hown, hts⟩ hG hAl hTS51 (c_L_count l hfl D cI cO cL _ eE mi sa g51 σ H51 hTS51.2.1 x0 hTS51.1 hZ.1 7 (by omega)) (vx_cwSW 2 hts gL_isTold_L_count rfl rfl rfl (by decide +kernel) ⟨(Nat.le_of_ble_eq_true rfl), (Nat.le_of_ble_eq_true rfl)⟩) ⟨rfl, rfl⟩ rfl hl.1 rfl (Nat.le_of_ble_eq_true rfl) dL_isTold_631 ⟨by show 146 + 1 * j.toNat + 3 + 1 + 1 ≤ 200; omega, by show 875 + 6 * j.toNat + 18 + 6 + 6 ≤ 1200; omega⟩ (fun z_53 g53 H53 locs53 aw53 hTS53 => ?_)
                                obtain rfl := aw53.1 (by unfold zth_count; rw [if_pos (by omega)])
                                refine z_top (b := σ 21 0) (by rfl) ?_
                                refine lv_aload_n hx hb dL_isTold_634 rfl (lv_at hl 5 rfl) ?_
                                refine z_iconst hx hb dL_isTold_635 ?_
                                refine l_ald hx hb hK hTS53.2.2.1 0 (by decide) (by show 0 ≤ 5 ∧ 5 < ((6 : Nat) : Int); omega) dL_isTold_636 ?_
                                refine z_top (b := σ 21 0) (by rw [hT.g5]) ?_
                                refine z_same_ne (tgt := 683) hx hb dL_isTold_637 (by decide) ?_
                                refine lv_aload_n hx hb dL_isTold_640 rfl (lv_at hl 3 rfl) ?_
                                refine z_cv (As := []) (rest := []) ⟨hx, hb, hml, hown, hts⟩ (show zPM l yX4_minute wsX4_minute _ (zKK D cI cO cL) [.ref x0] H53 _ by rw [← hTS53.1]; exact c_X4_minute l D cI cO cL _ eE g53 σ H53 hTS53.2.1) (cwV 0 hts gL_isTold_X4_minute rfl rfl rfl (by decide +kernel) ⟨(Nat.le_of_ble_eq_true rfl), (Nat.le_of_ble_eq_true rfl)⟩) (zKK_mv D cI cO cL) (fun U _ hv => va_K.moved hv hK) (by rw [← hTS53.1]; exact z_recv hK hTS53.2.1.x (q := (RX4, TX4, 7)) rfl) rfl hl.1 rfl (Nat.le_of_ble_eq_true rfl) dL_isTold_641 ⟨by show 146 + 1 * j.toNat + 3 + 1 + 1 ≤ 200; omega, by show 875 + 6 * j.toNat + 18 + 6 + 6 ≤ 1200; omega⟩ (fun r_55 hr_55 => ?_)
                                rw [hr_55]
                                refine lv_aload_n hx hb dL_isTold_644 rfl (lv_at hl 5 rfl) ?_
                                refine z_iconst hx hb dL_isTold_645 ?_
                                refine l_ald hx hb hK hTS53.2.2.1 0 (by decide) (by show 0 ≤ 0 ∧ 0 < ((6 : Nat) : Int); omega) dL_isTold_646 ?_
                                refine z_top (b := σ 1 0) (by rw [hT.g0]) ?_
                                refine z_same_ne (tgt := 683) hx hb dL_isTold_647 (by decide) ?_
                                refine lv_aload_n hx hb dL_isTold_650 rfl (lv_at hl 3 rfl) ?_
                                refine lv_iload hx hb dL_isTold_651 (lv_at hl 0 rfl) ?_
                                refine t_call (mc := 1) (ms := 6) (As := [.ref x0, .int (zI z_48)]) (rest := []) ⟨hx, hb, hml, hown, hts⟩ hG hAl hTS53 (c_L_level l hfl D cI cO cL _ eE mi sa g53 σ H53 hTS53.2.1 x0 hTS53.1 hZ.1 z_48 (by omega)) (vx_cwSW 2 hts gL_isTold_L_level rfl rfl rfl (by decide +kernel) ⟨(Nat.le_of_ble_eq_true rfl), (Nat.le_of_ble_eq_true rfl)⟩) ⟨rfl, rfl⟩ rfl hl.1 rfl (Nat.le_of_ble_eq_true rfl) dL_isTold_653 ⟨by show 146 + 1 * j.toNat + 3 + 1 + 1 + 1 ≤ 200; omega, by show 875 + 6 * j.toNat + 18 + 6 + 6 + 6 ≤ 1200; omega⟩ (fun z_57 g57 H57 locs57 aw57 hTS57 => ?_)
                                obtain rfl := aw57.1 (by unfold zth_level; rw [if_pos (by omega)])
                                refine lv_iload hx hb dL_isTold_656 (lv_at hl 0 rfl) ?_
                                refine lv_aload_n hx hb dL_isTold_658 rfl (lv_at hl 5 rfl) ?_
                                refine z_cs (As := [.int (zI z_48), .ref (la 0)]) (rest := [.int (zI (zLev σ z_48))]) ⟨hx, hb, hml, hown, hts⟩ (c_L_tideAt l D cI cO cL la τ σ H57 hTS57.2.2.1 z_48 hI hT (by omega)) (va_cwS 2 hts gL_isTold_L_tideAt rfl rfl rfl (by decide +kernel) ⟨(Nat.le_of_ble_eq_true rfl), (Nat.le_of_ble_eq_true rfl)⟩) (zKK_mv D cI cO cL) (fun U _ hv => va_K.moved hv hK) rfl hl.1 rfl (Nat.le_of_ble_eq_true rfl) dL_isTold_659 ⟨by show 146 + 1 * j.toNat + 3 + 1 + 1 + 1 ≤ 200; omega, by show 875 + 6 * j.toNat + 18 + 6 + 6 + 6 ≤ 1200; omega⟩ (fun r_58 hr_58 => ?_)
                                rw [hr_58]
                                refine z_same_ne (tgt := 683) hx hb dL_isTold_662 (by decide) ?_
                                refine lv_aload_n hx hb dL_isTold_665 rfl (lv_at hl 3 rfl) ?_
                                refine lv_aload_n hx hb dL_isTold_666 rfl (lv_at hl 5 rfl) ?_
                                refine z_iconst hx hb dL_isTold_667 ?_
                                refine l_ald hx hb hK hTS57.2.2.1 0 (by decide) (by show 0 ≤ 4 ∧ 4 < ((6 : Nat) : Int); omega) dL_isTold_668 ?_
                                refine z_top (b := σ 14 0) (by rw [hT.g4]) ?_
                                refine z_iconst hx hb dL_isTold_669 ?_
                                refine t_call (mc := 2) (ms := 12) (As := [.ref x0, .int (zI (σ 14 0)), .int (zI 0)]) (rest := []) ⟨hx, hb, hml, hown, hts⟩ hG hAl hTS57 (c_L_ofConference l hfl D cI cO cL _ eE mi sa g57 σ H57 hTS57.2.1 x0 hTS57.1 hZ.1 (σ 14 0) 0 ⟨(by omega), (by omega)⟩) (vx_cwSW 3 hts gL_isTold_L_ofConference rfl rfl rfl (by decide +kernel) ⟨(Nat.le_of_ble_eq_true rfl), (Nat.le_of_ble_eq_true rfl)⟩) ⟨rfl, rfl⟩ rfl hl.1 rfl (Nat.le_of_ble_eq_true rfl) dL_isTold_670 ⟨by show 146 + 1 * j.toNat + 3 + 1 + 1 + 1 + 2 ≤ 200; omega, by show 875 + 6 * j.toNat + 18 + 6 + 6 + 6 + 12 ≤ 1200; omega⟩ (fun z_60 g60 H60 locs60 aw60 hTS60 => ?_)
                                obtain rfl := aw60.2.1 (by unfold zth_ofC; rw [if_neg (by omega)])
                                refine z_sipush hx hb dL_isTold_673 (by decide +kernel) ?_
                                refine z_same_ne (tgt := 683) hx hb dL_isTold_676 (by decide) ?_
                                refine z_iconst hx hb dL_isTold_679 ?_
                                refine lv_goto (tgt := 684) hx hb dL_isTold_680 (by decide) ?_
                                exact vx_ret (W.widen (k := 200) (n := 1200) (by omega) (by omega) (W.zret hx hb hr rfl (z_endL (P := fun r H => r = some (.int (zI 1)) ∧ ∃ g' : zG, g' 0 0 = g 0 0 ∧ RX D cO A eE g' σ H) (v := some (.int (zI 1))) ⟨rfl, g60, hTS60.1.trans hx0.symm, hTS60.2.1.weaken (fun q hq _ => hq.1)⟩ hTS60.2.2.2.2) hTS60.2.2.2.2.2.2 dL_isTold_684))
                        · refine lv_iload hx hb dL_isTold_511 (lv_at hl 9 rfl) ?_
                          refine lv_aload_n hx hb dL_isTold_513 rfl (lv_at hl 1 rfl) ?_
                          refine lv_iload hx hb dL_isTold_514 (lv_at hl 10 rfl) ?_
                          refine t_call (mc := 1) (ms := 6) (As := [.ref x0, .int (zI j)]) (rest := [.int (zI vb)]) ⟨hx, hb, hml, hown, hts⟩ hG hAl hTL (c_L_bill l hfl D cI cO cL _ eE mi sa gL σ HL hTL.2.1 x0 hTL.1 hZ.1 j (by omega)) (vx_cwSW 2 hts gL_isTold_L_bill rfl rfl rfl (by decide +kernel) ⟨(Nat.le_of_ble_eq_true rfl), (Nat.le_of_ble_eq_true rfl)⟩) ⟨rfl, rfl⟩ rfl hl.1 rfl (Nat.le_of_ble_eq_true rfl) dL_isTold_516 ⟨by show 146 + 1 * j.toNat + 1 ≤ 200; omega, by show 875 + 6 * j.toNat + 6 ≤ 1200; omega⟩ (fun z_62 g62 H62 locs62 aw62 hTS62 => ?_)
                          obtain rfl := aw62.1 (by unfold zth_bill; rw [if_pos (by omega)])
                          refine z_isub hx hb dL_isTold_519 ?_
                          refine lv_istore (lv' := [(9, .int (zI (vb - (σ 10 j)))), (7, .ref s.heap.size), (0, .ref x0), (1, .int (zI u)), (2, .ref (la 0)), (3, .ref (la 1)), (4, .ref (la 2)), (5, .ref (la 3)), (6, .ref (la 5)), (8, .int (zI vo)), (10, .int (zI j))]) hx hb dL_isTold_520 hl (by decide) rfl (fun ls hl => ?_)
                          refine z_iinc (lv' := [(10, .int (zI (j + 1))), (9, .int (zI (vb - (σ 10 j)))), (7, .ref s.heap.size), (0, .ref x0), (1, .int (zI u)), (2, .ref (la 0)), (3, .ref (la 1)), (4, .ref (la 2)), (5, .ref (la 3)), (6, .ref (la 5)), (8, .int (zI vo))]) hx hb dL_isTold_522 hl (k := 10) rfl (by decide) rfl (fun ls hl => ?_)
                          refine lv_goto (tgt := 504) hx hb dL_isTold_525 (by decide) ?_
                          refine W.widen (k := 146 + 1 * (j + 1).toNat) (n := 875 + 6 * (j + 1).toNat) (by omega) (by omega) ?_
                          exact wo_hL5 _ _ _ _ _ (ih_hL5 (vb - (σ 10 j)) (j + 1) ls g62 _ _ (by rw [zSum_i _ (by omega)]; omega) (by omega) hTS62 (by omega) (lv_sub hl [2, 3, 4, 5, 6, 7, 8, 9, 10, 1, 0] rfl))
                    refine W.widen (k := 146 + 1 * (0 : Int).toNat) (n := 875 + 6 * (0 : Int).toNat) (by omega) (by omega) ?_
                    exact wo_hL5 _ _ _ _ _ (hL5 _ vb 0 ls gL _ _ (by rw [hvb, show k = 4 by omega]; show _ = _ - (0 : Int); show zSum (zPB σ) 4 = _; omega) (by omega) hTL (Nat.lt_succ_self _) (lv_sub hl [1, 2, 3, 4, 5, 6, 7, 8, 9, 10, 0] rfl))
                  · refine lv_aload_n hx hb dL_isTold_222 rfl (lv_at hl 3 rfl) ?_
                    refine z_iconst hx hb dL_isTold_223 ?_
                    refine l_ald hx hb hK hTL.2.2.1 0 (by decide) (by show 0 ≤ 0 ∧ 0 < ((6 : Nat) : Int); omega) dL_isTold_224 ?_
                    refine z_top (b := σ 1 0) (by rw [hT.g0]) ?_
                    refine lv_istore (lv' := [(11, .int (zI (σ 1 0))), (7, .ref s.heap.size), (0, .ref x0), (1, .int (zI u)), (2, .ref (la 0)), (3, .ref (la 1)), (4, .ref (la 2)), (5, .ref (la 3)), (6, .ref (la 5)), (8, .int (zI vo)), (9, .int (zI vb)), (10, .int (zI k))]) hx hb dL_isTold_225 hl (by decide) rfl (fun ls hl => ?_)
                    refine z_iconst hx hb dL_isTold_227 ?_
                    refine lv_istore (lv' := [(12, .int (zI 0)), (11, .int (zI (σ 1 0))), (7, .ref s.heap.size), (0, .ref x0), (1, .int (zI u)), (2, .ref (la 0)), (3, .ref (la 1)), (4, .ref (la 2)), (5, .ref (la 3)), (6, .ref (la 5)), (8, .int (zI vo)), (9, .int (zI vb)), (10, .int (zI k))]) hx hb dL_isTold_228 hl (by decide) rfl (fun ls hl => ?_)
                    refine z_iconst hx hb dL_isTold_230 ?_
                    refine lv_istore (lv' := [(13, .int (zI 0)), (12, .int (zI 0)), (11, .int (zI (σ 1 0))), (7, .ref s.heap.size), (0, .ref x0), (1, .int (zI u)), (2, .ref (la 0)), (3, .ref (la 1)), (4, .ref (la 2)), (5, .ref (la 3)), (6, .ref (la 5)), (8, .int (zI vo)), (9, .int (zI vb)), (10, .int (zI k))]) hx hb dL_isTold_231 hl (by decide) rfl (fun ls hl => ?_)
                    refine z_iconst hx hb dL_isTold_233 ?_
                    refine lv_istore (lv' := [(14, .int (zI 0)), (13, .int (zI 0)), (12, .int (zI 0)), (11, .int (zI (σ 1 0))), (7, .ref s.heap.size), (0, .ref x0), (1, .int (zI u)), (2, .ref (la 0)), (3, .ref (la 1)), (4, .ref (la 2)), (5, .ref (la 3)), (6, .ref (la 5)), (8, .int (zI vo)), (9, .int (zI vb)), (10, .int (zI k))]) hx hb dL_isTold_234 hl (by decide) rfl (fun ls hl => ?_)
                    refine z_iconst hx hb dL_isTold_236 ?_
                    refine lv_istore (lv' := [(15, .int (zI 0)), (14, .int (zI 0)), (13, .int (zI 0)), (12, .int (zI 0)), (11, .int (zI (σ 1 0))), (7, .ref s.heap.size), (0, .ref x0), (1, .int (zI u)), (2, .ref (la 0)), (3, .ref (la 1)), (4, .ref (la 2)), (5, .ref (la 3)), (6, .ref (la 5)), (8, .int (zI vo)), (9, .int (zI vb)), (10, .int (zI k))]) hx hb dL_isTold_237 hl (by decide) rfl (fun ls hl => ?_)
                    refine z_iconst hx hb dL_isTold_239 ?_
                    refine lv_istore (lv' := [(16, .int (zI 0)), (15, .int (zI 0)), (14, .int (zI 0)), (13, .int (zI 0)), (12, .int (zI 0)), (11, .int (zI (σ 1 0))), (7, .ref s.heap.size), (0, .ref x0), (1, .int (zI u)), (2, .ref (la 0)), (3, .ref (la 1)), (4, .ref (la 2)), (5, .ref (la 3)), (6, .ref (la 5)), (8, .int (zI vo)), (9, .int (zI vb)), (10, .int (zI k))]) hx hb dL_isTold_240 hl (by decide) rfl (fun ls hl => ?_)
                    refine z_cap (fun WW_hL4 wi_hL4 wo_hL4 => ?_)
                    have hL4 : ∀ (n : Nat) (vc vr vm vn vw va ii : Int) (ls : Array Slot), vr = zRsd σ k ii.toNat → vm = zSum (fun c => zP1 σ k 4 1 c) ii.toNat → vn = zSum (fun c => zP1 σ k 4 (σ 8 (σ 15 c)) c) ii.toNat → vw = zSum (fun c => zP1 σ k 4 (σ 8 (σ 15 c) * σ 13 k) c) ii.toNat → ((va = 1 ∧ 0 < zSum (fun c => zP1 σ k 3 1 c) ii.toNat) ∨ (va = 0 ∧ zSum (fun c => zP1 σ k 3 1 c) ii.toNat ≤ 0)) → vc = vb + zSum (fun c => zP1 σ k 4 (100 * σ 9 (σ 15 c)) c) ii.toNat → (0 ≤ ii ∧ ii ≤ σ 14 0) → (0 ≤ vr ∧ vr ≤ 22000) → (σ 14 0 - ii).toNat < n → lv_has ls 19 [(7, .ref s.heap.size), (0, .ref x0), (1, .int (zI u)), (2, .ref (la 0)), (3, .ref (la 1)), (4, .ref (la 2)), (5, .ref (la 3)), (6, .ref (la 5)), (8, .int (zI vo)), (10, .int (zI k)), (9, .int (zI vc)), (11, .int (zI vr)), (12, .int (zI vm)), (13, .int (zI vn)), (14, .int (zI vw)), (15, .int (zI va)), (16, .int (zI ii))] → WW_hL4 HL locsL (106 + 10 * k.toNat) (635 + 60 * k.toNat) (F0 m 242 ls []) := by
                      intro n_hL4
                      induction n_hL4 with
                      | zero => intro vc vr vm vn vw va ii ls hvr hvm hvn hvw hva hvc hii hrr hm; exact absurd hm (Nat.not_lt_zero _)
                      | succ n_hL4 ih_hL4 =>
                        intro vc vr vm vn vw va ii ls hvr hvm hvn hvw hva hvc hii hrr hm hl
                        refine wi_hL4 _ _ _ _ _ ?_
                        refine lv_iload hx hb dL_isTold_242 (lv_at hl 16 rfl) ?_
                        refine lv_aload_n hx hb dL_isTold_244 rfl (lv_at hl 3 rfl) ?_
                        refine z_iconst hx hb dL_isTold_245 ?_
                        refine l_ald hx hb hK hTL.2.2.1 0 (by decide) (by show 0 ≤ 4 ∧ 4 < ((6 : Nat) : Int); omega) dL_isTold_246 ?_
                        refine z_top (b := σ 14 0) (by rw [hT.g4]) ?_
                        refine z_icmp_ge (tgt := 416) hx hb dL_isTold_247 (by decide) (by omega) (fun c_63 => ?_) (fun c_63 => ?_)
                        · refine lv_iload hx hb dL_isTold_416 (lv_at hl 10 rfl) ?_
                          refine lv_iload hx hb dL_isTold_418 (lv_at hl 14 rfl) ?_
                          refine z_iadd hx hb dL_isTold_420 ?_
                          refine lv_istore (lv' := [(9, .int (zI (vc + vw))), (7, .ref s.heap.size), (0, .ref x0), (1, .int (zI u)), (2, .ref (la 0)), (3, .ref (la 1)), (4, .ref (la 2)), (5, .ref (la 3)), (6, .ref (la 5)), (8, .int (zI vo)), (10, .int (zI k)), (11, .int (zI vr)), (12, .int (zI vm)), (13, .int (zI vn)), (14, .int (zI vw)), (15, .int (zI va)), (16, .int (zI ii))]) hx hb dL_isTold_421 hl (by decide) rfl (fun ls hl => ?_)
                          refine lv_aload_n hx hb dL_isTold_423 rfl (lv_at hl 2 rfl) ?_
                          refine lv_iload hx hb dL_isTold_424 (lv_at hl 10 rfl) ?_
                          refine t_call (mc := 1) (ms := 6) (As := [.ref x0, .int (zI k)]) (rest := []) ⟨hx, hb, hml, hown, hts⟩ hG hAl hTL (c_L_rested l hfl D cI cO cL _ eE mi sa gL σ HL hTL.2.1 x0 hTL.1 hZ.1 k (by omega)) (vx_cwSW 2 hts gL_isTold_L_rested rfl rfl rfl (by decide +kernel) ⟨(Nat.le_of_ble_eq_true rfl), (Nat.le_of_ble_eq_true rfl)⟩) ⟨rfl, rfl⟩ rfl hl.1 rfl (Nat.le_of_ble_eq_true rfl) dL_isTold_426 ⟨by show 106 + 10 * k.toNat + 1 ≤ 200; omega, by show 635 + 60 * k.toNat + 6 ≤ 1200; omega⟩ (fun z_64 g64 H64 locs64 aw64 hTS64 => ?_)
                          obtain rfl := aw64.1 (by unfold zth_pil; rw [if_pos (by omega)])
                          refine z_top (b := vr) (by rw [hvr, show ii = σ 14 0 by omega]; rfl) ?_
                          refine lv_iload hx hb dL_isTold_429 (lv_at hl 11 rfl) ?_
                          refine z_same_ne (tgt := 493) hx hb dL_isTold_431 (by decide) ?_
                          refine lv_aload_n hx hb dL_isTold_434 rfl (lv_at hl 2 rfl) ?_
                          refine lv_iload hx hb dL_isTold_435 (lv_at hl 10 rfl) ?_
                          refine t_call (mc := 1) (ms := 6) (As := [.ref x0, .int (zI k)]) (rest := []) ⟨hx, hb, hml, hown, hts⟩ hG hAl hTS64 (c_L_restedAnew l hfl D cI cO cL _ eE mi sa g64 σ H64 hTS64.2.1 x0 hTS64.1 hZ.1 k (by omega)) (vx_cwSW 2 hts gL_isTold_L_restedAnew rfl rfl rfl (by decide +kernel) ⟨(Nat.le_of_ble_eq_true rfl), (Nat.le_of_ble_eq_true rfl)⟩) ⟨rfl, rfl⟩ rfl hl.1 rfl (Nat.le_of_ble_eq_true rfl) dL_isTold_437 ⟨by show 106 + 10 * k.toNat + 1 + 1 ≤ 200; omega, by show 635 + 60 * k.toNat + 6 + 6 ≤ 1200; omega⟩ (fun z_66 g66 H66 locs66 aw66 hTS66 => ?_)
                          obtain rfl := aw66.1 (by unfold zth_pil; rw [if_pos (by omega)])
                          refine z_top (b := vr) (by rw [hvr, show ii = σ 14 0 by omega]; rfl) ?_
                          refine lv_iload hx hb dL_isTold_440 (lv_at hl 11 rfl) ?_
                          refine z_same_ne (tgt := 493) hx hb dL_isTold_442 (by decide) ?_
                          refine lv_aload_n hx hb dL_isTold_445 rfl (lv_at hl 2 rfl) ?_
                          refine lv_iload hx hb dL_isTold_446 (lv_at hl 10 rfl) ?_
                          refine z_iconst hx hb dL_isTold_448 ?_
                          refine t_call (mc := 2) (ms := 12) (As := [.ref x0, .int (zI k), .int (zI 0)]) (rest := []) ⟨hx, hb, hml, hown, hts⟩ hG hAl hTS66 (c_L_ofPilot l hfl D cI cO cL _ eE mi sa g66 σ H66 hTS66.2.1 x0 hTS66.1 hZ.1 k 0 ⟨(by omega), (by omega)⟩) (vx_cwSW 3 hts gL_isTold_L_ofPilot rfl rfl rfl (by decide +kernel) ⟨(Nat.le_of_ble_eq_true rfl), (Nat.le_of_ble_eq_true rfl)⟩) ⟨rfl, rfl⟩ rfl hl.1 rfl (Nat.le_of_ble_eq_true rfl) dL_isTold_449 ⟨by show 106 + 10 * k.toNat + 1 + 1 + 2 ≤ 200; omega, by show 635 + 60 * k.toNat + 6 + 6 + 12 ≤ 1200; omega⟩ (fun z_68 g68 H68 locs68 aw68 hTS68 => ?_)
                          obtain rfl := aw68.1 (by unfold zth_ofP; rw [if_pos (by omega)])
                          refine z_top (b := vm) (by rw [hvm, show ii = σ 14 0 by omega]; rfl) ?_
                          refine lv_iload hx hb dL_isTold_452 (lv_at hl 12 rfl) ?_
                          refine z_same_ne (tgt := 493) hx hb dL_isTold_454 (by decide) ?_
                          refine lv_aload_n hx hb dL_isTold_457 rfl (lv_at hl 2 rfl) ?_
                          refine lv_iload hx hb dL_isTold_458 (lv_at hl 10 rfl) ?_
                          refine z_iconst hx hb dL_isTold_460 ?_
                          refine t_call (mc := 2) (ms := 12) (As := [.ref x0, .int (zI k), .int (zI 1)]) (rest := []) ⟨hx, hb, hml, hown, hts⟩ hG hAl hTS68 (c_L_ofPilot l hfl D cI cO cL _ eE mi sa g68 σ H68 hTS68.2.1 x0 hTS68.1 hZ.1 k 1 ⟨(by omega), (by omega)⟩) (vx_cwSW 3 hts gL_isTold_L_ofPilot rfl rfl rfl (by decide +kernel) ⟨(Nat.le_of_ble_eq_true rfl), (Nat.le_of_ble_eq_true rfl)⟩) ⟨rfl, rfl⟩ rfl hl.1 rfl (Nat.le_of_ble_eq_true rfl) dL_isTold_461 ⟨by show 106 + 10 * k.toNat + 1 + 1 + 2 + 2 ≤ 200; omega, by show 635 + 60 * k.toNat + 6 + 6 + 12 + 12 ≤ 1200; omega⟩ (fun z_70 g70 H70 locs70 aw70 hTS70 => ?_)
                          obtain rfl := aw70.1 (by unfold zth_ofP; rw [if_pos (by omega)])
                          refine z_top (b := vn) (by rw [hvn, show ii = σ 14 0 by omega]; rfl) ?_
                          refine lv_iload hx hb dL_isTold_464 (lv_at hl 13 rfl) ?_
                          refine z_same_ne (tgt := 493) hx hb dL_isTold_466 (by decide) ?_
                          refine lv_aload_n hx hb dL_isTold_469 rfl (lv_at hl 2 rfl) ?_
                          refine lv_iload hx hb dL_isTold_470 (lv_at hl 10 rfl) ?_
                          refine z_iconst hx hb dL_isTold_472 ?_
                          refine t_call (mc := 2) (ms := 12) (As := [.ref x0, .int (zI k), .int (zI 2)]) (rest := []) ⟨hx, hb, hml, hown, hts⟩ hG hAl hTS70 (c_L_ofPilot l hfl D cI cO cL _ eE mi sa g70 σ H70 hTS70.2.1 x0 hTS70.1 hZ.1 k 2 ⟨(by omega), (by omega)⟩) (vx_cwSW 3 hts gL_isTold_L_ofPilot rfl rfl rfl (by decide +kernel) ⟨(Nat.le_of_ble_eq_true rfl), (Nat.le_of_ble_eq_true rfl)⟩) ⟨rfl, rfl⟩ rfl hl.1 rfl (Nat.le_of_ble_eq_true rfl) dL_isTold_473 ⟨by show 106 + 10 * k.toNat + 1 + 1 + 2 + 2 + 2 ≤ 200; omega, by show 635 + 60 * k.toNat + 6 + 6 + 12 + 12 + 12 ≤ 1200; omega⟩ (fun z_72 g72 H72 locs72 aw72 hTS72 => ?_)
                          obtain rfl := aw72.1 (by unfold zth_ofP; rw [if_pos (by omega)])
                          refine z_top (b := va) (by rw [show ii = σ 14 0 by omega] at hva; show (if 0 < zSum (fun c => zP1 σ k 3 1 c) (σ 14 0).toNat then (1 : Int) else 0) = va; split <;> omega) ?_
                          refine lv_iload hx hb dL_isTold_476 (lv_at hl 15 rfl) ?_
                          refine z_same_ne (tgt := 493) hx hb dL_isTold_478 (by decide) ?_
                          refine lv_aload_n hx hb dL_isTold_481 rfl (lv_at hl 2 rfl) ?_
                          refine lv_iload hx hb dL_isTold_482 (lv_at hl 10 rfl) ?_
                          refine z_iconst hx hb dL_isTold_484 ?_
                          refine t_call (mc := 2) (ms := 12) (As := [.ref x0, .int (zI k), .int (zI 3)]) (rest := []) ⟨hx, hb, hml, hown, hts⟩ hG hAl hTS72 (c_L_ofPilot l hfl D cI cO cL _ eE mi sa g72 σ H72 hTS72.2.1 x0 hTS72.1 hZ.1 k 3 ⟨(by omega), (by omega)⟩) (vx_cwSW 3 hts gL_isTold_L_ofPilot rfl rfl rfl (by decide +kernel) ⟨(Nat.le_of_ble_eq_true rfl), (Nat.le_of_ble_eq_true rfl)⟩) ⟨rfl, rfl⟩ rfl hl.1 rfl (Nat.le_of_ble_eq_true rfl) dL_isTold_485 ⟨by show 106 + 10 * k.toNat + 1 + 1 + 2 + 2 + 2 + 2 ≤ 200; omega, by show 635 + 60 * k.toNat + 6 + 6 + 12 + 12 + 12 + 12 ≤ 1200; omega⟩ (fun z_74 g74 H74 locs74 aw74 hTS74 => ?_)
                          obtain rfl := aw74.1 (by unfold zth_ofP; rw [if_pos (by omega)])
                          refine z_top (b := vw) (by rw [hvw, show ii = σ 14 0 by omega]; rfl) ?_
                          refine lv_iload hx hb dL_isTold_488 (lv_at hl 14 rfl) ?_
                          refine z_same_eq (tgt := 495) hx hb dL_isTold_490 (by decide) ?_
                          refine z_iinc (lv' := [(10, .int (zI (k + 1))), (9, .int (zI (vc + vw))), (7, .ref s.heap.size), (0, .ref x0), (1, .int (zI u)), (2, .ref (la 0)), (3, .ref (la 1)), (4, .ref (la 2)), (5, .ref (la 3)), (6, .ref (la 5)), (8, .int (zI vo)), (11, .int (zI vr)), (12, .int (zI vm)), (13, .int (zI vn)), (14, .int (zI vw)), (15, .int (zI va)), (16, .int (zI ii))]) hx hb dL_isTold_495 hl (k := 10) rfl (by decide) rfl (fun ls hl => ?_)
                          refine lv_goto (tgt := 216) hx hb dL_isTold_498 (by decide) ?_
                          refine W.widen (k := 106 + 10 * (k + 1).toNat) (n := 635 + 60 * (k + 1).toNat) (by omega) (by omega) ?_
                          exact wo_hL3 _ _ _ _ _ (ih_hL3 (vc + vw) (k + 1) ls g74 _ _ (by rw [zSum_i _ (by omega), ← hvb, show zPB σ k = zSum (fun c => zP1 σ k 4 (100 * σ 9 (σ 15 c)) c) (σ 14 0).toNat + zSum (fun c => zP1 σ k 4 (σ 8 (σ 15 c) * σ 13 k) c) (σ 14 0).toNat from rfl]; rw [show ii = σ 14 0 by omega] at hvw hvc; omega) (by omega) hTS74 (by omega) (lv_sub hl [2, 3, 4, 5, 6, 7, 8, 9, 10, 1, 0] rfl))
                        · have fi2 := hI.c (i := ii) (by omega)
                          have gi2 := hI.s (i := σ 15 ii) (by omega)
                          have sa0 : 0 ≤ zSum (fun c => zP1 σ k 3 1 c) ii.toNat := zSum_1 (zP1_0 σ k 3) ii.toNat
                          refine lv_aload hx hb dL_isTold_250 (lv_at hl 6 rfl) ?_
                          refine lv_iload hx hb dL_isTold_252 (lv_at hl 16 rfl) ?_
                          refine l_ald hx hb hK hTL.2.2.1 3 (by decide) (by show 0 ≤ ii ∧ ii < ((10 : Nat) : Int); omega) dL_isTold_254 ?_
                          refine z_top (b := pC σ ii) (by rw [hT.c (i := ii) (by omega)]) ?_
                          refine z_cs (As := [.int (zI (pC σ ii))]) (rest := []) ⟨hx, hb, hml, hown, hts⟩ (c_L_pilotOf l D cI cO cL HL (pC σ ii) (pC_r hI hB (i := ii) (by omega))) (va_cwS 1 hts gL_isTold_L_pilotOf rfl rfl rfl (by decide +kernel) ⟨(Nat.le_of_ble_eq_true rfl), (Nat.le_of_ble_eq_true rfl)⟩) (zKK_mv D cI cO cL) (fun U _ hv => va_K.moved hv hK) rfl hl.1 rfl (Nat.le_of_ble_eq_true rfl) dL_isTold_255 ⟨by show 106 + 10 * k.toNat ≤ 200; omega, by show 635 + 60 * k.toNat ≤ 1200; omega⟩ (fun r_76 hr_76 => ?_)
                          rw [hr_76, pC_p hI hB (i := ii) (by omega)]
                          refine lv_iload hx hb dL_isTold_258 (lv_at hl 9 rfl) ?_
                          refine z_icmp_ne (tgt := 410) hx hb dL_isTold_260 (by decide) (by omega) (fun c_77 => ?_) (fun c_77 => ?_)
                          · refine z_iinc (lv' := [(16, .int (zI (ii + 1))), (7, .ref s.heap.size), (0, .ref x0), (1, .int (zI u)), (2, .ref (la 0)), (3, .ref (la 1)), (4, .ref (la 2)), (5, .ref (la 3)), (6, .ref (la 5)), (8, .int (zI vo)), (10, .int (zI k)), (9, .int (zI vc)), (11, .int (zI vr)), (12, .int (zI vm)), (13, .int (zI vn)), (14, .int (zI vw)), (15, .int (zI va))]) hx hb dL_isTold_410 hl (k := 16) rfl (by decide) rfl (fun ls hl => ?_)
                            refine lv_goto (tgt := 242) hx hb dL_isTold_413 (by decide) ?_
                            exact wo_hL4 _ _ _ _ _ (ih_hL4 vc vr vm vn vw va (ii + 1) ls (by rw [zRsd_i _ _ (by omega), ← hvr]; simp only [zOv, zTk, zRest]; (repeat' split) <;> omega) (by rw [zSum_i _ (by omega), ← hvm]; first | (rw [zP1_t (by omega)]) | (rw [zP1_f (by omega)]; omega)) (by rw [zSum_i _ (by omega), ← hvn]; first | (rw [zP1_t (by omega)]) | (rw [zP1_f (by omega)]; omega)) (by rw [zSum_i _ (by omega), ← hvw]; first | (rw [zP1_t (by omega)]) | (rw [zP1_f (by omega)]; omega)) (by rw [zSum_i _ (by omega)]; first | (rw [zP1_t (by omega)]; omega) | (rw [zP1_f (by omega)]; omega)) (by rw [zSum_i _ (by omega)]; first | (rw [zP1_t (by omega)]; omega) | (rw [zP1_f (by omega)]; omega)) (by omega) (by omega) (by omega) (lv_sub hl [1, 2, 3, 4, 5, 6, 7, 8, 9, 10, 11, 12, 13, 14, 15, 16, 0] rfl))
                          · refine lv_aload hx hb dL_isTold_263 (lv_at hl 6 rfl) ?_
                            refine lv_iload hx hb dL_isTold_265 (lv_at hl 16 rfl) ?_
                            refine l_ald hx hb hK hTL.2.2.1 3 (by decide) (by show 0 ≤ ii ∧ ii < ((10 : Nat) : Int); omega) dL_isTold_267 ?_
                            refine z_top (b := pC σ ii) (by rw [hT.c (i := ii) (by omega)]) ?_
                            refine z_cs (As := [.int (zI (pC σ ii))]) (rest := []) ⟨hx, hb, hml, hown, hts⟩ (c_L_stateOf l D cI cO cL HL (pC σ ii) (pC_r hI hB (i := ii) (by omega))) (va_cwS 1 hts gL_isTold_L_stateOf rfl rfl rfl (by decide +kernel) ⟨(Nat.le_of_ble_eq_true rfl), (Nat.le_of_ble_eq_true rfl)⟩) (zKK_mv D cI cO cL) (fun U _ hv => va_K.moved hv hK) rfl hl.1 rfl (Nat.le_of_ble_eq_true rfl) dL_isTold_268 ⟨by show 106 + 10 * k.toNat ≤ 200; omega, by show 635 + 60 * k.toNat ≤ 1200; omega⟩ (fun r_78 hr_78 => ?_)
                            rw [hr_78, pC_t hI hB (i := ii) (by omega)]
                            refine z_iconst hx hb dL_isTold_271 ?_
                            refine z_icmp_ge (tgt := 278) hx hb dL_isTold_272 (by decide) (by omega) (fun c_79 => ?_) (fun c_79 => ?_)
                            · refine lv_aload_n hx hb dL_isTold_278 rfl (lv_at hl 4 rfl) ?_
                              refine lv_aload hx hb dL_isTold_279 (lv_at hl 6 rfl) ?_
                              refine lv_iload hx hb dL_isTold_281 (lv_at hl 16 rfl) ?_
                              refine l_ald hx hb hK hTL.2.2.1 3 (by decide) (by show 0 ≤ ii ∧ ii < ((10 : Nat) : Int); omega) dL_isTold_283 ?_
                              refine z_top (b := pC σ ii) (by rw [hT.c (i := ii) (by omega)]) ?_
                              refine z_cs (As := [.int (zI (pC σ ii))]) (rest := [.ref (la 1)]) ⟨hx, hb, hml, hown, hts⟩ (c_L_shipOf l D cI cO cL HL (pC σ ii) (pC_r hI hB (i := ii) (by omega))) (va_cwS 1 hts gL_isTold_L_shipOf rfl rfl rfl (by decide +kernel) ⟨(Nat.le_of_ble_eq_true rfl), (Nat.le_of_ble_eq_true rfl)⟩) (zKK_mv D cI cO cL) (fun U _ hv => va_K.moved hv hK) rfl hl.1 rfl (Nat.le_of_ble_eq_true rfl) dL_isTold_284 ⟨by show 106 + 10 * k.toNat ≤ 200; omega, by show 635 + 60 * k.toNat ≤ 1200; omega⟩ (fun r_80 hr_80 => ?_)
                              rw [hr_80, pC_s hI hB (i := ii) (by omega)]
                              refine l_ald hx hb hK hTL.2.2.1 1 (by decide) (by show 0 ≤ (σ 15 ii) ∧ (σ 15 ii) < ((6 : Nat) : Int); omega) dL_isTold_287 ?_
                              refine z_top (b := pS σ (σ 15 ii)) (by rw [hT.s (i := (σ 15 ii)) (by omega)]) ?_
                              refine z_cs (As := [.int (zI (pS σ (σ 15 ii)))]) (rest := []) ⟨hx, hb, hml, hown, hts⟩ (c_L_takes l D cI cO cL HL (pS σ (σ 15 ii)) (pS_r hI (i := (σ 15 ii)) (by omega))) (va_cwS 1 hts gL_isTold_L_takes rfl rfl rfl (by decide +kernel) ⟨(Nat.le_of_ble_eq_true rfl), (Nat.le_of_ble_eq_true rfl)⟩) (zKK_mv D cI cO cL) (fun U _ hv => va_K.moved hv hK) rfl hl.1 rfl (Nat.le_of_ble_eq_true rfl) dL_isTold_288 ⟨by show 106 + 10 * k.toNat ≤ 200; omega, by show 635 + 60 * k.toNat ≤ 1200; omega⟩ (fun r_81 hr_81 => ?_)
                              rw [hr_81, pS_t hI (i := (σ 15 ii)) (by omega)]
                              refine lv_istore (lv' := [(17, .int (zI (σ 8 (σ 15 ii)))), (7, .ref s.heap.size), (0, .ref x0), (1, .int (zI u)), (2, .ref (la 0)), (3, .ref (la 1)), (4, .ref (la 2)), (5, .ref (la 3)), (6, .ref (la 5)), (8, .int (zI vo)), (10, .int (zI k)), (9, .int (zI vc)), (11, .int (zI vr)), (12, .int (zI vm)), (13, .int (zI vn)), (14, .int (zI vw)), (15, .int (zI va)), (16, .int (zI ii))]) hx hb dL_isTold_291 hl (by decide) rfl (fun ls hl => ?_)
                              refine lv_aload hx hb dL_isTold_293 (lv_at hl 8 rfl) ?_
                              refine lv_iload hx hb dL_isTold_295 (lv_at hl 17 rfl) ?_
                              refine l_ald hx hb hK hTL.2.2.1 5 (by decide) (by show 0 ≤ ii ∧ ii < ((10 : Nat) : Int); omega) dL_isTold_297 ?_
                              refine z_top (b := σ 20 ii) (by rw [hT.t (i := ii) (by omega)]) ?_
                              refine lv_iload hx hb dL_isTold_298 (lv_at hl 0 rfl) ?_
                              refine z_bipush hx hb dL_isTold_300 (by decide +kernel) ?_
                              refine z_icmp_ge (tgt := 313) hx hb dL_isTold_302 (by decide) (by omega) (fun c_82 => ?_) (fun c_82 => ?_)
                              · refine z_iconst hx hb dL_isTold_313 ?_
                                refine lv_iload hx hb dL_isTold_314 (lv_at hl 0 rfl) ?_
                                refine z_imul hx hb dL_isTold_316 ?_
                                refine z_iadd hx hb dL_isTold_317 ?_
                                refine lv_istore (lv' := [(18, .int (zI ((σ 20 ii) + (2 * (σ 8 (σ 15 ii)))))), (17, .int (zI (σ 8 (σ 15 ii)))), (7, .ref s.heap.size), (0, .ref x0), (1, .int (zI u)), (2, .ref (la 0)), (3, .ref (la 1)), (4, .ref (la 2)), (5, .ref (la 3)), (6, .ref (la 5)), (8, .int (zI vo)), (10, .int (zI k)), (9, .int (zI vc)), (11, .int (zI vr)), (12, .int (zI vm)), (13, .int (zI vn)), (14, .int (zI vw)), (15, .int (zI va)), (16, .int (zI ii))]) hx hb dL_isTold_318 hl (by decide) rfl (fun ls hl => ?_)
                                refine lv_iload hx hb dL_isTold_320 (lv_at hl 0 rfl) ?_
                                refine lv_iload hx hb dL_isTold_322 (lv_at hl 13 rfl) ?_
                                refine z_icmp_le (tgt := 332) hx hb dL_isTold_324 (by decide) (by omega) (fun c_83 => ?_) (fun c_83 => ?_)
                                · refine lv_iload hx hb dL_isTold_332 (lv_at hl 13 rfl) ?_
                                  refine lv_istore (lv' := [(11, .int (zI vr)), (18, .int (zI ((σ 20 ii) + (2 * (σ 8 (σ 15 ii)))))), (17, .int (zI (σ 8 (σ 15 ii)))), (7, .ref s.heap.size), (0, .ref x0), (1, .int (zI u)), (2, .ref (la 0)), (3, .ref (la 1)), (4, .ref (la 2)), (5, .ref (la 3)), (6, .ref (la 5)), (8, .int (zI vo)), (10, .int (zI k)), (9, .int (zI vc)), (12, .int (zI vm)), (13, .int (zI vn)), (14, .int (zI vw)), (15, .int (zI va)), (16, .int (zI ii))]) hx hb dL_isTold_334 hl (by decide) rfl (fun ls hl => ?_)
                                  refine lv_aload hx hb dL_isTold_336 (lv_at hl 9 rfl) ?_
                                  refine lv_iload hx hb dL_isTold_338 (lv_at hl 18 rfl) ?_
                                  refine l_ald hx hb hK hTL.2.2.1 3 (by decide) (by show 0 ≤ ii ∧ ii < ((10 : Nat) : Int); omega) dL_isTold_340 ?_
                                  refine z_top (b := pC σ ii) (by rw [hT.c (i := ii) (by omega)]) ?_
                                  refine z_cs (As := [.int (zI (pC σ ii))]) (rest := []) ⟨hx, hb, hml, hown, hts⟩ (c_L_stateOf l D cI cO cL HL (pC σ ii) (pC_r hI hB (i := ii) (by omega))) (va_cwS 1 hts gL_isTold_L_stateOf rfl rfl rfl (by decide +kernel) ⟨(Nat.le_of_ble_eq_true rfl), (Nat.le_of_ble_eq_true rfl)⟩) (zKK_mv D cI cO cL) (fun U _ hv => va_K.moved hv hK) rfl hl.1 rfl (Nat.le_of_ble_eq_true rfl) dL_isTold_341 ⟨by show 106 + 10 * k.toNat ≤ 200; omega, by show 635 + 60 * k.toNat ≤ 1200; omega⟩ (fun r_84 hr_84 => ?_)
                                  rw [hr_84, pC_t hI hB (i := ii) (by omega)]
                                  refine z_iconst hx hb dL_isTold_344 ?_
                                  refine z_icmp_ne (tgt := 351) hx hb dL_isTold_345 (by decide) (by omega) (fun c_85 => ?_) (fun c_85 => ?_)
                                  · refine lv_aload hx hb dL_isTold_351 (lv_at hl 9 rfl) ?_
                                    refine lv_iload hx hb dL_isTold_353 (lv_at hl 18 rfl) ?_
                                    refine l_ald hx hb hK hTL.2.2.1 3 (by decide) (by show 0 ≤ ii ∧ ii < ((10 : Nat) : Int); omega) dL_isTold_355 ?_
                                    refine z_top (b := pC σ ii) (by rw [hT.c (i := ii) (by omega)]) ?_
                                    refine z_cs (As := [.int (zI (pC σ ii))]) (rest := []) ⟨hx, hb, hml, hown, hts⟩ (c_L_stateOf l D cI cO cL HL (pC σ ii) (pC_r hI hB (i := ii) (by omega))) (va_cwS 1 hts gL_isTold_L_stateOf rfl rfl rfl (by decide +kernel) ⟨(Nat.le_of_ble_eq_true rfl), (Nat.le_of_ble_eq_true rfl)⟩) (zKK_mv D cI cO cL) (fun U _ hv => va_K.moved hv hK) rfl hl.1 rfl (Nat.le_of_ble_eq_true rfl) dL_isTold_356 ⟨by show 106 + 10 * k.toNat ≤ 200; omega, by show 635 + 60 * k.toNat ≤ 1200; omega⟩ (fun r_86 hr_86 => ?_)
                                    rw [hr_86, pC_t hI hB (i := ii) (by omega)]
                                    refine z_iconst hx hb dL_isTold_359 ?_
                                    refine z_icmp_eq (tgt := 366) hx hb dL_isTold_360 (by decide) (by omega) (fun c_87 => ?_) (fun c_87 => ?_)
                                    · refine z_iinc (lv' := [(12, .int (zI (vm + 1))), (11, .int (zI vr)), (18, .int (zI ((σ 20 ii) + (2 * (σ 8 (σ 15 ii)))))), (17, .int (zI (σ 8 (σ 15 ii)))), (7, .ref s.heap.size), (0, .ref x0), (1, .int (zI u)), (2, .ref (la 0)), (3, .ref (la 1)), (4, .ref (la 2)), (5, .ref (la 3)), (6, .ref (la 5)), (8, .int (zI vo)), (10, .int (zI k)), (9, .int (zI vc)), (13, .int (zI vn)), (14, .int (zI vw)), (15, .int (zI va)), (16, .int (zI ii))]) hx hb dL_isTold_366 hl (k := 14) rfl (by decide) rfl (fun ls hl => ?_)
                                      refine lv_iload hx hb dL_isTold_369 (lv_at hl 15 rfl) ?_
                                      refine lv_iload hx hb dL_isTold_371 (lv_at hl 3 rfl) ?_
                                      refine z_iadd hx hb dL_isTold_373 ?_
                                      refine lv_istore (lv' := [(13, .int (zI (vn + (σ 8 (σ 15 ii))))), (12, .int (zI (vm + 1))), (11, .int (zI vr)), (18, .int (zI ((σ 20 ii) + (2 * (σ 8 (σ 15 ii)))))), (17, .int (zI (σ 8 (σ 15 ii)))), (7, .ref s.heap.size), (0, .ref x0), (1, .int (zI u)), (2, .ref (la 0)), (3, .ref (la 1)), (4, .ref (la 2)), (5, .ref (la 3)), (6, .ref (la 5)), (8, .int (zI vo)), (10, .int (zI k)), (9, .int (zI vc)), (14, .int (zI vw)), (15, .int (zI va)), (16, .int (zI ii))]) hx hb dL_isTold_374 hl (by decide) rfl (fun ls hl => ?_)
                                      refine lv_iload hx hb dL_isTold_376 (lv_at hl 16 rfl) ?_
                                      refine lv_iload hx hb dL_isTold_378 (lv_at hl 4 rfl) ?_
                                      refine lv_aload hx hb dL_isTold_380 (lv_at hl 10 rfl) ?_
                                      refine lv_iload hx hb dL_isTold_382 (lv_at hl 14 rfl) ?_
                                      refine l_ald hx hb hK hTL.2.2.1 2 (by decide) (by show 0 ≤ k ∧ k < ((4 : Nat) : Int); omega) dL_isTold_384 ?_
                                      refine z_top (b := σ 13 k) (by rw [hT.p (i := k) (by omega)]) ?_
                                      refine z_imul hx hb dL_isTold_385 ?_
                                      refine z_iadd hx hb dL_isTold_386 ?_
                                      refine lv_istore (lv' := [(14, .int (zI (vw + ((σ 8 (σ 15 ii)) * (σ 13 k))))), (13, .int (zI (vn + (σ 8 (σ 15 ii))))), (12, .int (zI (vm + 1))), (11, .int (zI vr)), (18, .int (zI ((σ 20 ii) + (2 * (σ 8 (σ 15 ii)))))), (17, .int (zI (σ 8 (σ 15 ii)))), (7, .ref s.heap.size), (0, .ref x0), (1, .int (zI u)), (2, .ref (la 0)), (3, .ref (la 1)), (4, .ref (la 2)), (5, .ref (la 3)), (6, .ref (la 5)), (8, .int (zI vo)), (10, .int (zI k)), (9, .int (zI vc)), (15, .int (zI va)), (16, .int (zI ii))]) hx hb dL_isTold_387 hl (by decide) rfl (fun ls hl => ?_)
                                      refine lv_iload hx hb dL_isTold_389 (lv_at hl 16 rfl) ?_
                                      refine z_bipush hx hb dL_isTold_391 (by decide +kernel) ?_
                                      refine lv_aload_n hx hb dL_isTold_393 rfl (lv_at hl 10 rfl) ?_
                                      refine lv_aload hx hb dL_isTold_394 (lv_at hl 12 rfl) ?_
                                      refine lv_iload hx hb dL_isTold_396 (lv_at hl 18 rfl) ?_
                                      refine l_ald hx hb hK hTL.2.2.1 3 (by decide) (by show 0 ≤ ii ∧ ii < ((10 : Nat) : Int); omega) dL_isTold_398 ?_
                                      refine z_top (b := pC σ ii) (by rw [hT.c (i := ii) (by omega)]) ?_
                                      refine z_cs (As := [.int (zI (pC σ ii))]) (rest := [.ref (la 1), .int (zI 100), .int (zI vc)]) ⟨hx, hb, hml, hown, hts⟩ (c_L_shipOf l D cI cO cL HL (pC σ ii) (pC_r hI hB (i := ii) (by omega))) (va_cwS 1 hts gL_isTold_L_shipOf rfl rfl rfl (by decide +kernel) ⟨(Nat.le_of_ble_eq_true rfl), (Nat.le_of_ble_eq_true rfl)⟩) (zKK_mv D cI cO cL) (fun U _ hv => va_K.moved hv hK) rfl hl.1 rfl (Nat.le_of_ble_eq_true rfl) dL_isTold_399 ⟨by show 106 + 10 * k.toNat ≤ 200; omega, by show 635 + 60 * k.toNat ≤ 1200; omega⟩ (fun r_88 hr_88 => ?_)
                                      rw [hr_88, pC_s hI hB (i := ii) (by omega)]
                                      refine l_ald hx hb hK hTL.2.2.1 1 (by decide) (by show 0 ≤ (σ 15 ii) ∧ (σ 15 ii) < ((6 : Nat) : Int); omega) dL_isTold_402 ?_
                                      refine z_top (b := pS σ (σ 15 ii)) (by rw [hT.s (i := (σ 15 ii)) (by omega)]) ?_
                                      refine z_cs (As := [.int (zI (pS σ (σ 15 ii)))]) (rest := [.int (zI 100), .int (zI vc)]) ⟨hx, hb, hml, hown, hts⟩ (c_L_needs l D cI cO cL HL (pS σ (σ 15 ii)) (pS_r hI (i := (σ 15 ii)) (by omega))) (va_cwS 1 hts gL_isTold_L_needs rfl rfl rfl (by decide +kernel) ⟨(Nat.le_of_ble_eq_true rfl), (Nat.le_of_ble_eq_true rfl)⟩) (zKK_mv D cI cO cL) (fun U _ hv => va_K.moved hv hK) rfl hl.1 rfl (Nat.le_of_ble_eq_true rfl) dL_isTold_403 ⟨by show 106 + 10 * k.toNat ≤ 200; omega, by show 635 + 60 * k.toNat ≤ 1200; omega⟩ (fun r_89 hr_89 => ?_)
                                      rw [hr_89, pS_n hI (i := (σ 15 ii)) (by omega)]
                                      refine z_imul hx hb dL_isTold_406 ?_
                                      refine z_iadd hx hb dL_isTold_407 ?_
                                      refine lv_istore (lv' := [(9, .int (zI (vc + (100 * (σ 9 (σ 15 ii)))))), (14, .int (zI (vw + ((σ 8 (σ 15 ii)) * (σ 13 k))))), (13, .int (zI (vn + (σ 8 (σ 15 ii))))), (12, .int (zI (vm + 1))), (11, .int (zI vr)), (18, .int (zI ((σ 20 ii) + (2 * (σ 8 (σ 15 ii)))))), (17, .int (zI (σ 8 (σ 15 ii)))), (7, .ref s.heap.size), (0, .ref x0), (1, .int (zI u)), (2, .ref (la 0)), (3, .ref (la 1)), (4, .ref (la 2)), (5, .ref (la 3)), (6, .ref (la 5)), (8, .int (zI vo)), (10, .int (zI k)), (15, .int (zI va)), (16, .int (zI ii))]) hx hb dL_isTold_408 hl (by decide) rfl (fun ls hl => ?_)
                                      refine z_iinc (lv' := [(16, .int (zI (ii + 1))), (9, .int (zI (vc + (100 * (σ 9 (σ 15 ii)))))), (14, .int (zI (vw + ((σ 8 (σ 15 ii)) * (σ 13 k))))), (13, .int (zI (vn + (σ 8 (σ 15 ii))))), (12, .int (zI (vm + 1))), (11, .int (zI vr)), (18, .int (zI ((σ 20 ii) + (2 * (σ 8 (σ 15 ii)))))), (17, .int (zI (σ 8 (σ 15 ii)))), (7, .ref s.heap.size), (0, .ref x0), (1, .int (zI u)), (2, .ref (la 0)), (3, .ref (la 1)), (4, .ref (la 2)), (5, .ref (la 3)), (6, .ref (la 5)), (8, .int (zI vo)), (10, .int (zI k)), (15, .int (zI va))]) hx hb dL_isTold_410 hl (k := 18) rfl (by decide) rfl (fun ls hl => ?_)
                                      refine lv_goto (tgt := 242) hx hb dL_isTold_413 (by decide) ?_
                                      exact wo_hL4 _ _ _ _ _ (ih_hL4 (vc + (100 * (σ 9 (σ 15 ii)))) vr (vm + 1) (vn + (σ 8 (σ 15 ii))) (vw + ((σ 8 (σ 15 ii)) * (σ 13 k))) va (ii + 1) ls (by rw [zRsd_i _ _ (by omega), ← hvr]; simp only [zOv, zTk, zRest]; (repeat' split) <;> omega) (by rw [zSum_i _ (by omega), ← hvm]; first | (rw [zP1_t (by omega)]) | (rw [zP1_f (by omega)]; omega)) (by rw [zSum_i _ (by omega), ← hvn]; first | (rw [zP1_t (by omega)]) | (rw [zP1_f (by omega)]; omega)) (by rw [zSum_i _ (by omega), ← hvw]; first | (rw [zP1_t (by omega)]) | (rw [zP1_f (by omega)]; omega)) (by rw [zSum_i _ (by omega)]; first | (rw [zP1_t (by omega)]; omega) | (rw [zP1_f (by omega)]; omega)) (by rw [zSum_i _ (by omega)]; first | (rw [zP1_t (by omega)]; omega) | (rw [zP1_f (by omega)]; omega)) (by omega) (by omega) (by omega) (lv_sub hl [8, 9, 10, 11, 12, 13, 14, 15, 16, 17, 1, 5, 4, 3, 2, 18, 0] rfl))
                                    · refine lv_goto (tgt := 410) hx hb dL_isTold_363 (by decide) ?_
                                      refine z_iinc (lv' := [(16, .int (zI (ii + 1))), (11, .int (zI vr)), (18, .int (zI ((σ 20 ii) + (2 * (σ 8 (σ 15 ii)))))), (17, .int (zI (σ 8 (σ 15 ii)))), (7, .ref s.heap.size), (0, .ref x0), (1, .int (zI u)), (2, .ref (la 0)), (3, .ref (la 1)), (4, .ref (la 2)), (5, .ref (la 3)), (6, .ref (la 5)), (8, .int (zI vo)), (10, .int (zI k)), (9, .int (zI vc)), (12, .int (zI vm)), (13, .int (zI vn)), (14, .int (zI vw)), (15, .int (zI va))]) hx hb dL_isTold_410 hl (k := 18) rfl (by decide) rfl (fun ls hl => ?_)
                                      refine lv_goto (tgt := 242) hx hb dL_isTold_413 (by decide) ?_
                                      exact wo_hL4 _ _ _ _ _ (ih_hL4 vc vr vm vn vw va (ii + 1) ls (by rw [zRsd_i _ _ (by omega), ← hvr]; simp only [zOv, zTk, zRest]; (repeat' split) <;> omega) (by rw [zSum_i _ (by omega), ← hvm]; first | (rw [zP1_t (by omega)]) | (rw [zP1_f (by omega)]; omega)) (by rw [zSum_i _ (by omega), ← hvn]; first | (rw [zP1_t (by omega)]) | (rw [zP1_f (by omega)]; omega)) (by rw [zSum_i _ (by omega), ← hvw]; first | (rw [zP1_t (by omega)]) | (rw [zP1_f (by omega)]; omega)) (by rw [zSum_i _ (by omega)]; first | (rw [zP1_t (by omega)]; omega) | (rw [zP1_f (by omega)]; omega)) (by rw [zSum_i _ (by omega)]; first | (rw [zP1_t (by omega)]; omega) | (rw [zP1_f (by omega)]; omega)) (by omega) (by omega) (by omega) (lv_sub hl [4, 5, 6, 7, 8, 9, 10, 11, 12, 13, 14, 1, 15, 16, 17, 18, 0] rfl))
                                  · refine z_iconst hx hb dL_isTold_348 ?_
                                    refine lv_istore (lv' := [(15, .int (zI 1)), (11, .int (zI vr)), (18, .int (zI ((σ 20 ii) + (2 * (σ 8 (σ 15 ii)))))), (17, .int (zI (σ 8 (σ 15 ii)))), (7, .ref s.heap.size), (0, .ref x0), (1, .int (zI u)), (2, .ref (la 0)), (3, .ref (la 1)), (4, .ref (la 2)), (5, .ref (la 3)), (6, .ref (la 5)), (8, .int (zI vo)), (10, .int (zI k)), (9, .int (zI vc)), (12, .int (zI vm)), (13, .int (zI vn)), (14, .int (zI vw)), (16, .int (zI ii))]) hx hb dL_isTold_349 hl (by decide) rfl (fun ls hl => ?_)
                                    refine lv_aload hx hb dL_isTold_351 (lv_at hl 10 rfl) ?_
                                    refine lv_iload hx hb dL_isTold_353 (lv_at hl 18 rfl) ?_
                                    refine l_ald hx hb hK hTL.2.2.1 3 (by decide) (by show 0 ≤ ii ∧ ii < ((10 : Nat) : Int); omega) dL_isTold_355 ?_
                                    refine z_top (b := pC σ ii) (by rw [hT.c (i := ii) (by omega)]) ?_
                                    refine z_cs (As := [.int (zI (pC σ ii))]) (rest := []) ⟨hx, hb, hml, hown, hts⟩ (c_L_stateOf l D cI cO cL HL (pC σ ii) (pC_r hI hB (i := ii) (by omega))) (va_cwS 1 hts gL_isTold_L_stateOf rfl rfl rfl (by decide +kernel) ⟨(Nat.le_of_ble_eq_true rfl), (Nat.le_of_ble_eq_true rfl)⟩) (zKK_mv D cI cO cL) (fun U _ hv => va_K.moved hv hK) rfl hl.1 rfl (Nat.le_of_ble_eq_true rfl) dL_isTold_356 ⟨by show 106 + 10 * k.toNat ≤ 200; omega, by show 635 + 60 * k.toNat ≤ 1200; omega⟩ (fun r_90 hr_90 => ?_)
                                    rw [hr_90, pC_t hI hB (i := ii) (by omega)]
                                    refine z_iconst hx hb dL_isTold_359 ?_
                                    refine z_icmp_eq (tgt := 366) hx hb dL_isTold_360 (by decide) (by omega) (fun c_91 => ?_) (fun c_91 => ?_)
                                    · refine z_iinc (lv' := [(12, .int (zI (vm + 1))), (15, .int (zI 1)), (11, .int (zI vr)), (18, .int (zI ((σ 20 ii) + (2 * (σ 8 (σ 15 ii)))))), (17, .int (zI (σ 8 (σ 15 ii)))), (7, .ref s.heap.size), (0, .ref x0), (1, .int (zI u)), (2, .ref (la 0)), (3, .ref (la 1)), (4, .ref (la 2)), (5, .ref (la 3)), (6, .ref (la 5)), (8, .int (zI vo)), (10, .int (zI k)), (9, .int (zI vc)), (13, .int (zI vn)), (14, .int (zI vw)), (16, .int (zI ii))]) hx hb dL_isTold_366 hl (k := 15) rfl (by decide) rfl (fun ls hl => ?_)
                                      refine lv_iload hx hb dL_isTold_369 (lv_at hl 16 rfl) ?_
                                      refine lv_iload hx hb dL_isTold_371 (lv_at hl 4 rfl) ?_
                                      refine z_iadd hx hb dL_isTold_373 ?_
                                      refine lv_istore (lv' := [(13, .int (zI (vn + (σ 8 (σ 15 ii))))), (12, .int (zI (vm + 1))), (15, .int (zI 1)), (11, .int (zI vr)), (18, .int (zI ((σ 20 ii) + (2 * (σ 8 (σ 15 ii)))))), (17, .int (zI (σ 8 (σ 15 ii)))), (7, .ref s.heap.size), (0, .ref x0), (1, .int (zI u)), (2, .ref (la 0)), (3, .ref (la 1)), (4, .ref (la 2)), (5, .ref (la 3)), (6, .ref (la 5)), (8, .int (zI vo)), (10, .int (zI k)), (9, .int (zI vc)), (14, .int (zI vw)), (16, .int (zI ii))]) hx hb dL_isTold_374 hl (by decide) rfl (fun ls hl => ?_)
                                      refine lv_iload hx hb dL_isTold_376 (lv_at hl 17 rfl) ?_
                                      refine lv_iload hx hb dL_isTold_378 (lv_at hl 5 rfl) ?_
                                      refine lv_aload hx hb dL_isTold_380 (lv_at hl 11 rfl) ?_
                                      refine lv_iload hx hb dL_isTold_382 (lv_at hl 15 rfl) ?_
                                      refine l_ald hx hb hK hTL.2.2.1 2 (by decide) (by show 0 ≤ k ∧ k < ((4 : Nat) : Int); omega) dL_isTold_384 ?_
                                      refine z_top (b := σ 13 k) (by rw [hT.p (i := k) (by omega)]) ?_
                                      refine z_imul hx hb dL_isTold_385 ?_
                                      refine z_iadd hx hb dL_isTold_386 ?_
                                      refine lv_istore (lv' := [(14, .int (zI (vw + ((σ 8 (σ 15 ii)) * (σ 13 k))))), (13, .int (zI (vn + (σ 8 (σ 15 ii))))), (12, .int (zI (vm + 1))), (15, .int (zI 1)), (11, .int (zI vr)), (18, .int (zI ((σ 20 ii) + (2 * (σ 8 (σ 15 ii)))))), (17, .int (zI (σ 8 (σ 15 ii)))), (7, .ref s.heap.size), (0, .ref x0), (1, .int (zI u)), (2, .ref (la 0)), (3, .ref (la 1)), (4, .ref (la 2)), (5, .ref (la 3)), (6, .ref (la 5)), (8, .int (zI vo)), (10, .int (zI k)), (9, .int (zI vc)), (16, .int (zI ii))]) hx hb dL_isTold_387 hl (by decide) rfl (fun ls hl => ?_)
                                      refine lv_iload hx hb dL_isTold_389 (lv_at hl 17 rfl) ?_
                                      refine z_bipush hx hb dL_isTold_391 (by decide +kernel) ?_
                                      refine lv_aload_n hx hb dL_isTold_393 rfl (lv_at hl 11 rfl) ?_
                                      refine lv_aload hx hb dL_isTold_394 (lv_at hl 13 rfl) ?_
                                      refine lv_iload hx hb dL_isTold_396 (lv_at hl 18 rfl) ?_
                                      refine l_ald hx hb hK hTL.2.2.1 3 (by decide) (by show 0 ≤ ii ∧ ii < ((10 : Nat) : Int); omega) dL_isTold_398 ?_
                                      refine z_top (b := pC σ ii) (by rw [hT.c (i := ii) (by omega)]) ?_
                                      refine z_cs (As := [.int (zI (pC σ ii))]) (rest := [.ref (la 1), .int (zI 100), .int (zI vc)]) ⟨hx, hb, hml, hown, hts⟩ (c_L_shipOf l D cI cO cL HL (pC σ ii) (pC_r hI hB (i := ii) (by omega))) (va_cwS 1 hts gL_isTold_L_shipOf rfl rfl rfl (by decide +kernel) ⟨(Nat.le_of_ble_eq_true rfl), (Nat.le_of_ble_eq_true rfl)⟩) (zKK_mv D cI cO cL) (fun U _ hv => va_K.moved hv hK) rfl hl.1 rfl (Nat.le_of_ble_eq_true rfl) dL_isTold_399 ⟨by show 106 + 10 * k.toNat ≤ 200; omega, by show 635 + 60 * k.toNat ≤ 1200; omega⟩ (fun r_92 hr_92 => ?_)
                                      rw [hr_92, pC_s hI hB (i := ii) (by omega)]
                                      refine l_ald hx hb hK hTL.2.2.1 1 (by decide) (by show 0 ≤ (σ 15 ii) ∧ (σ 15 ii) < ((6 : Nat) : Int); omega) dL_isTold_402 ?_
                                      refine z_top (b := pS σ (σ 15 ii)) (by rw [hT.s (i := (σ 15 ii)) (by omega)]) ?_
                                      refine z_cs (As := [.int (zI (pS σ (σ 15 ii)))]) (rest := [.int (zI 100), .int (zI vc)]) ⟨hx, hb, hml, hown, hts⟩ (c_L_needs l D cI cO cL HL (pS σ (σ 15 ii)) (pS_r hI (i := (σ 15 ii)) (by omega))) (va_cwS 1 hts gL_isTold_L_needs rfl rfl rfl (by decide +kernel) ⟨(Nat.le_of_ble_eq_true rfl), (Nat.le_of_ble_eq_true rfl)⟩) (zKK_mv D cI cO cL) (fun U _ hv => va_K.moved hv hK) rfl hl.1 rfl (Nat.le_of_ble_eq_true rfl) dL_isTold_403 ⟨by show 106 + 10 * k.toNat ≤ 200; omega, by show 635 + 60 * k.toNat ≤ 1200; omega⟩ (fun r_93 hr_93 => ?_)
                                      rw [hr_93, pS_n hI (i := (σ 15 ii)) (by omega)]
                                      refine z_imul hx hb dL_isTold_406 ?_
                                      refine z_iadd hx hb dL_isTold_407 ?_
                                      refine lv_istore (lv' := [(9, .int (zI (vc + (100 * (σ 9 (σ 15 ii)))))), (14, .int (zI (vw + ((σ 8 (σ 15 ii)) * (σ 13 k))))), (13, .int (zI (vn + (σ 8 (σ 15 ii))))), (12, .int (zI (vm + 1))), (15, .int (zI 1)), (11, .int (zI vr)), (18, .int (zI ((σ 20 ii) + (2 * (σ 8 (σ 15 ii)))))), (17, .int (zI (σ 8 (σ 15 ii)))), (7, .ref s.heap.size), (0, .ref x0), (1, .int (zI u)), (2, .ref (la 0)), (3, .ref (la 1)), (4, .ref (la 2)), (5, .ref (la 3)), (6, .ref (la 5)), (8, .int (zI vo)), (10, .int (zI k)), (16, .int (zI ii))]) hx hb dL_isTold_408 hl (by decide) rfl (fun ls hl => ?_)
                                      refine z_iinc (lv' := [(16, .int (zI (ii + 1))), (9, .int (zI (vc + (100 * (σ 9 (σ 15 ii)))))), (14, .int (zI (vw + ((σ 8 (σ 15 ii)) * (σ 13 k))))), (13, .int (zI (vn + (σ 8 (σ 15 ii))))), (12, .int (zI (vm + 1))), (15, .int (zI 1)), (11, .int (zI vr)), (18, .int (zI ((σ 20 ii) + (2 * (σ 8 (σ 15 ii)))))), (17, .int (zI (σ 8 (σ 15 ii)))), (7, .ref s.heap.size), (0, .ref x0), (1, .int (zI u)), (2, .ref (la 0)), (3, .ref (la 1)), (4, .ref (la 2)), (5, .ref (la 3)), (6, .ref (la 5)), (8, .int (zI vo)), (10, .int (zI k))]) hx hb dL_isTold_410 hl (k := 18) rfl (by decide) rfl (fun ls hl => ?_)
                                      refine lv_goto (tgt := 242) hx hb dL_isTold_413 (by decide) ?_
                                      exact wo_hL4 _ _ _ _ _ (ih_hL4 (vc + (100 * (σ 9 (σ 15 ii)))) vr (vm + 1) (vn + (σ 8 (σ 15 ii))) (vw + ((σ 8 (σ 15 ii)) * (σ 13 k))) 1 (ii + 1) ls (by rw [zRsd_i _ _ (by omega), ← hvr]; simp only [zOv, zTk, zRest]; (repeat' split) <;> omega) (by rw [zSum_i _ (by omega), ← hvm]; first | (rw [zP1_t (by omega)]) | (rw [zP1_f (by omega)]; omega)) (by rw [zSum_i _ (by omega), ← hvn]; first | (rw [zP1_t (by omega)]) | (rw [zP1_f (by omega)]; omega)) (by rw [zSum_i _ (by omega), ← hvw]; first | (rw [zP1_t (by omega)]) | (rw [zP1_f (by omega)]; omega)) (by rw [zSum_i _ (by omega)]; first | (rw [zP1_t (by omega)]; omega) | (rw [zP1_f (by omega)]; omega)) (by rw [zSum_i _ (by omega)]; first | (rw [zP1_t (by omega)]; omega) | (rw [zP1_f (by omega)]; omega)) (by omega) (by omega) (by omega) (lv_sub hl [9, 10, 11, 12, 13, 14, 15, 16, 17, 18, 1, 6, 4, 3, 2, 5, 0] rfl))
                                    · refine lv_goto (tgt := 410) hx hb dL_isTold_363 (by decide) ?_
                                      refine z_iinc (lv' := [(16, .int (zI (ii + 1))), (15, .int (zI 1)), (11, .int (zI vr)), (18, .int (zI ((σ 20 ii) + (2 * (σ 8 (σ 15 ii)))))), (17, .int (zI (σ 8 (σ 15 ii)))), (7, .ref s.heap.size), (0, .ref x0), (1, .int (zI u)), (2, .ref (la 0)), (3, .ref (la 1)), (4, .ref (la 2)), (5, .ref (la 3)), (6, .ref (la 5)), (8, .int (zI vo)), (10, .int (zI k)), (9, .int (zI vc)), (12, .int (zI vm)), (13, .int (zI vn)), (14, .int (zI vw))]) hx hb dL_isTold_410 hl (k := 18) rfl (by decide) rfl (fun ls hl => ?_)
                                      refine lv_goto (tgt := 242) hx hb dL_isTold_413 (by decide) ?_
                                      exact wo_hL4 _ _ _ _ _ (ih_hL4 vc vr vm vn vw 1 (ii + 1) ls (by rw [zRsd_i _ _ (by omega), ← hvr]; simp only [zOv, zTk, zRest]; (repeat' split) <;> omega) (by rw [zSum_i _ (by omega), ← hvm]; first | (rw [zP1_t (by omega)]) | (rw [zP1_f (by omega)]; omega)) (by rw [zSum_i _ (by omega), ← hvn]; first | (rw [zP1_t (by omega)]) | (rw [zP1_f (by omega)]; omega)) (by rw [zSum_i _ (by omega), ← hvw]; first | (rw [zP1_t (by omega)]) | (rw [zP1_f (by omega)]; omega)) (by rw [zSum_i _ (by omega)]; first | (rw [zP1_t (by omega)]; omega) | (rw [zP1_f (by omega)]; omega)) (by rw [zSum_i _ (by omega)]; first | (rw [zP1_t (by omega)]; omega) | (rw [zP1_f (by omega)]; omega)) (by omega) (by omega) (by omega) (lv_sub hl [5, 6, 7, 8, 9, 10, 11, 12, 13, 14, 15, 2, 16, 17, 18, 1, 0] rfl))
                                · refine lv_iload hx hb dL_isTold_327 (lv_at hl 0 rfl) ?_
                                  refine lv_goto (tgt := 334) hx hb dL_isTold_329 (by decide) ?_
                                  refine lv_istore (lv' := [(11, .int (zI ((σ 20 ii) + (2 * (σ 8 (σ 15 ii)))))), (18, .int (zI ((σ 20 ii) + (2 * (σ 8 (σ 15 ii)))))), (17, .int (zI (σ 8 (σ 15 ii)))), (7, .ref s.heap.size), (0, .ref x0), (1, .int (zI u)), (2, .ref (la 0)), (3, .ref (la 1)), (4, .ref (la 2)), (5, .ref (la 3)), (6, .ref (la 5)), (8, .int (zI vo)), (10, .int (zI k)), (9, .int (zI vc)), (12, .int (zI vm)), (13, .int (zI vn)), (14, .int (zI vw)), (15, .int (zI va)), (16, .int (zI ii))]) hx hb dL_isTold_334 hl (by decide) rfl (fun ls hl => ?_)
                                  refine lv_aload hx hb dL_isTold_336 (lv_at hl 9 rfl) ?_
                                  refine lv_iload hx hb dL_isTold_338 (lv_at hl 18 rfl) ?_
                                  refine l_ald hx hb hK hTL.2.2.1 3 (by decide) (by show 0 ≤ ii ∧ ii < ((10 : Nat) : Int); omega) dL_isTold_340 ?_
                                  refine z_top (b := pC σ ii) (by rw [hT.c (i := ii) (by omega)]) ?_
                                  refine z_cs (As := [.int (zI (pC σ ii))]) (rest := []) ⟨hx, hb, hml, hown, hts⟩ (c_L_stateOf l D cI cO cL HL (pC σ ii) (pC_r hI hB (i := ii) (by omega))) (va_cwS 1 hts gL_isTold_L_stateOf rfl rfl rfl (by decide +kernel) ⟨(Nat.le_of_ble_eq_true rfl), (Nat.le_of_ble_eq_true rfl)⟩) (zKK_mv D cI cO cL) (fun U _ hv => va_K.moved hv hK) rfl hl.1 rfl (Nat.le_of_ble_eq_true rfl) dL_isTold_341 ⟨by show 106 + 10 * k.toNat ≤ 200; omega, by show 635 + 60 * k.toNat ≤ 1200; omega⟩ (fun r_94 hr_94 => ?_)
                                  rw [hr_94, pC_t hI hB (i := ii) (by omega)]
                                  refine z_iconst hx hb dL_isTold_344 ?_
                                  refine z_icmp_ne (tgt := 351) hx hb dL_isTold_345 (by decide) (by omega) (fun c_95 => ?_) (fun c_95 => ?_)
                                  · refine lv_aload hx hb dL_isTold_351 (lv_at hl 9 rfl) ?_
                                    refine lv_iload hx hb dL_isTold_353 (lv_at hl 18 rfl) ?_
                                    refine l_ald hx hb hK hTL.2.2.1 3 (by decide) (by show 0 ≤ ii ∧ ii < ((10 : Nat) : Int); omega) dL_isTold_355 ?_
                                    refine z_top (b := pC σ ii) (by rw [hT.c (i := ii) (by omega)]) ?_
                                    refine z_cs (As := [.int (zI (pC σ ii))]) (rest := []) ⟨hx, hb, hml, hown, hts⟩ (c_L_stateOf l D cI cO cL HL (pC σ ii) (pC_r hI hB (i := ii) (by omega))) (va_cwS 1 hts gL_isTold_L_stateOf rfl rfl rfl (by decide +kernel) ⟨(Nat.le_of_ble_eq_true rfl), (Nat.le_of_ble_eq_true rfl)⟩) (zKK_mv D cI cO cL) (fun U _ hv => va_K.moved hv hK) rfl hl.1 rfl (Nat.le_of_ble_eq_true rfl) dL_isTold_356 ⟨by show 106 + 10 * k.toNat ≤ 200; omega, by show 635 + 60 * k.toNat ≤ 1200; omega⟩ (fun r_96 hr_96 => ?_)
                                    rw [hr_96, pC_t hI hB (i := ii) (by omega)]
                                    refine z_iconst hx hb dL_isTold_359 ?_
                                    refine z_icmp_eq (tgt := 366) hx hb dL_isTold_360 (by decide) (by omega) (fun c_97 => ?_) (fun c_97 => ?_)
                                    · refine z_iinc (lv' := [(12, .int (zI (vm + 1))), (11, .int (zI ((σ 20 ii) + (2 * (σ 8 (σ 15 ii)))))), (18, .int (zI ((σ 20 ii) + (2 * (σ 8 (σ 15 ii)))))), (17, .int (zI (σ 8 (σ 15 ii)))), (7, .ref s.heap.size), (0, .ref x0), (1, .int (zI u)), (2, .ref (la 0)), (3, .ref (la 1)), (4, .ref (la 2)), (5, .ref (la 3)), (6, .ref (la 5)), (8, .int (zI vo)), (10, .int (zI k)), (9, .int (zI vc)), (13, .int (zI vn)), (14, .int (zI vw)), (15, .int (zI va)), (16, .int (zI ii))]) hx hb dL_isTold_366 hl (k := 14) rfl (by decide) rfl (fun ls hl => ?_)
                                      refine lv_iload hx hb dL_isTold_369 (lv_at hl 15 rfl) ?_
                                      refine lv_iload hx hb dL_isTold_371 (lv_at hl 3 rfl) ?_
                                      refine z_iadd hx hb dL_isTold_373 ?_
                                      refine lv_istore (lv' := [(13, .int (zI (vn + (σ 8 (σ 15 ii))))), (12, .int (zI (vm + 1))), (11, .int (zI ((σ 20 ii) + (2 * (σ 8 (σ 15 ii)))))), (18, .int (zI ((σ 20 ii) + (2 * (σ 8 (σ 15 ii)))))), (17, .int (zI (σ 8 (σ 15 ii)))), (7, .ref s.heap.size), (0, .ref x0), (1, .int (zI u)), (2, .ref (la 0)), (3, .ref (la 1)), (4, .ref (la 2)), (5, .ref (la 3)), (6, .ref (la 5)), (8, .int (zI vo)), (10, .int (zI k)), (9, .int (zI vc)), (14, .int (zI vw)), (15, .int (zI va)), (16, .int (zI ii))]) hx hb dL_isTold_374 hl (by decide) rfl (fun ls hl => ?_)
                                      refine lv_iload hx hb dL_isTold_376 (lv_at hl 16 rfl) ?_
                                      refine lv_iload hx hb dL_isTold_378 (lv_at hl 4 rfl) ?_
                                      refine lv_aload hx hb dL_isTold_380 (lv_at hl 10 rfl) ?_
                                      refine lv_iload hx hb dL_isTold_382 (lv_at hl 14 rfl) ?_
                                      refine l_ald hx hb hK hTL.2.2.1 2 (by decide) (by show 0 ≤ k ∧ k < ((4 : Nat) : Int); omega) dL_isTold_384 ?_
                                      refine z_top (b := σ 13 k) (by rw [hT.p (i := k) (by omega)]) ?_
                                      refine z_imul hx hb dL_isTold_385 ?_
                                      refine z_iadd hx hb dL_isTold_386 ?_
                                      refine lv_istore (lv' := [(14, .int (zI (vw + ((σ 8 (σ 15 ii)) * (σ 13 k))))), (13, .int (zI (vn + (σ 8 (σ 15 ii))))), (12, .int (zI (vm + 1))), (11, .int (zI ((σ 20 ii) + (2 * (σ 8 (σ 15 ii)))))), (18, .int (zI ((σ 20 ii) + (2 * (σ 8 (σ 15 ii)))))), (17, .int (zI (σ 8 (σ 15 ii)))), (7, .ref s.heap.size), (0, .ref x0), (1, .int (zI u)), (2, .ref (la 0)), (3, .ref (la 1)), (4, .ref (la 2)), (5, .ref (la 3)), (6, .ref (la 5)), (8, .int (zI vo)), (10, .int (zI k)), (9, .int (zI vc)), (15, .int (zI va)), (16, .int (zI ii))]) hx hb dL_isTold_387 hl (by decide) rfl (fun ls hl => ?_)
                                      refine lv_iload hx hb dL_isTold_389 (lv_at hl 16 rfl) ?_
                                      refine z_bipush hx hb dL_isTold_391 (by decide +kernel) ?_
                                      refine lv_aload_n hx hb dL_isTold_393 rfl (lv_at hl 10 rfl) ?_
                                      refine lv_aload hx hb dL_isTold_394 (lv_at hl 12 rfl) ?_
                                      refine lv_iload hx hb dL_isTold_396 (lv_at hl 18 rfl) ?_
                                      refine l_ald hx hb hK hTL.2.2.1 3 (by decide) (by show 0 ≤ ii ∧ ii < ((10 : Nat) : Int); omega) dL_isTold_398 ?_
                                      refine z_top (b := pC σ ii) (by rw [hT.c (i := ii) (by omega)]) ?_
                                      refine z_cs (As := [.int (zI (pC σ ii))]) (rest := [.ref (la 1), .int (zI 100), .int (zI vc)]) ⟨hx, hb, hml, hown, hts⟩ (c_L_shipOf l D cI cO cL HL (pC σ ii) (pC_r hI hB (i := ii) (by omega))) (va_cwS 1 hts gL_isTold_L_shipOf rfl rfl rfl (by decide +kernel) ⟨(Nat.le_of_ble_eq_true rfl), (Nat.le_of_ble_eq_true rfl)⟩) (zKK_mv D cI cO cL) (fun U _ hv => va_K.moved hv hK) rfl hl.1 rfl (Nat.le_of_ble_eq_true rfl) dL_isTold_399 ⟨by show 106 + 10 * k.toNat ≤ 200; omega, by show 635 + 60 * k.toNat ≤ 1200; omega⟩ (fun r_98 hr_98 => ?_)
                                      rw [hr_98, pC_s hI hB (i := ii) (by omega)]
                                      refine l_ald hx hb hK hTL.2.2.1 1 (by decide) (by show 0 ≤ (σ 15 ii) ∧ (σ 15 ii) < ((6 : Nat) : Int); omega) dL_isTold_402 ?_
                                      refine z_top (b := pS σ (σ 15 ii)) (by rw [hT.s (i := (σ 15 ii)) (by omega)]) ?_
                                      refine z_cs (As := [.int (zI (pS σ (σ 15 ii)))]) (rest := [.int (zI 100), .int (zI vc)]) ⟨hx, hb, hml, hown, hts⟩ (c_L_needs l D cI cO cL HL (pS σ (σ 15 ii)) (pS_r hI (i := (σ 15 ii)) (by omega))) (va_cwS 1 hts gL_isTold_L_needs rfl rfl rfl (by decide +kernel) ⟨(Nat.le_of_ble_eq_true rfl), (Nat.le_of_ble_eq_true rfl)⟩) (zKK_mv D cI cO cL) (fun U _ hv => va_K.moved hv hK) rfl hl.1 rfl (Nat.le_of_ble_eq_true rfl) dL_isTold_403 ⟨by show 106 + 10 * k.toNat ≤ 200; omega, by show 635 + 60 * k.toNat ≤ 1200; omega⟩ (fun r_99 hr_99 => ?_)
                                      rw [hr_99, pS_n hI (i := (σ 15 ii)) (by omega)]
                                      refine z_imul hx hb dL_isTold_406 ?_
                                      refine z_iadd hx hb dL_isTold_407 ?_
                                      refine lv_istore (lv' := [(9, .int (zI (vc + (100 * (σ 9 (σ 15 ii)))))), (14, .int (zI (vw + ((σ 8 (σ 15 ii)) * (σ 13 k))))), (13, .int (zI (vn + (σ 8 (σ 15 ii))))), (12, .int (zI (vm + 1))), (11, .int (zI ((σ 20 ii) + (2 * (σ 8 (σ 15 ii)))))), (18, .int (zI ((σ 20 ii) + (2 * (σ 8 (σ 15 ii)))))), (17, .int (zI (σ 8 (σ 15 ii)))), (7, .ref s.heap.size), (0, .ref x0), (1, .int (zI u)), (2, .ref (la 0)), (3, .ref (la 1)), (4, .ref (la 2)), (5, .ref (la 3)), (6, .ref (la 5)), (8, .int (zI vo)), (10, .int (zI k)), (15, .int (zI va)), (16, .int (zI ii))]) hx hb dL_isTold_408 hl (by decide) rfl (fun ls hl => ?_)
                                      refine z_iinc (lv' := [(16, .int (zI (ii + 1))), (9, .int (zI (vc + (100 * (σ 9 (σ 15 ii)))))), (14, .int (zI (vw + ((σ 8 (σ 15 ii)) * (σ 13 k))))), (13, .int (zI (vn + (σ 8 (σ 15 ii))))), (12, .int (zI (vm + 1))), (11, .int (zI ((σ 20 ii) + (2 * (σ 8 (σ 15 ii)))))), (18, .int (zI ((σ 20 ii) + (2 * (σ 8 (σ 15 ii)))))), (17, .int (zI (σ 8 (σ 15 ii)))), (7, .ref s.heap.size), (0, .ref x0), (1, .int (zI u)), (2, .ref (la 0)), (3, .ref (la 1)), (4, .ref (la 2)), (5, .ref (la 3)), (6, .ref (la 5)), (8, .int (zI vo)), (10, .int (zI k)), (15, .int (zI va))]) hx hb dL_isTold_410 hl (k := 18) rfl (by decide) rfl (fun ls hl => ?_)
                                      refine lv_goto (tgt := 242) hx hb dL_isTold_413 (by decide) ?_
                                      exact wo_hL4 _ _ _ _ _ (ih_hL4 (vc + (100 * (σ 9 (σ 15 ii)))) ((σ 20 ii) + (2 * (σ 8 (σ 15 ii)))) (vm + 1) (vn + (σ 8 (σ 15 ii))) (vw + ((σ 8 (σ 15 ii)) * (σ 13 k))) va (ii + 1) ls (by rw [zRsd_i _ _ (by omega), ← hvr]; simp only [zOv, zTk, zRest]; (repeat' split) <;> omega) (by rw [zSum_i _ (by omega), ← hvm]; first | (rw [zP1_t (by omega)]) | (rw [zP1_f (by omega)]; omega)) (by rw [zSum_i _ (by omega), ← hvn]; first | (rw [zP1_t (by omega)]) | (rw [zP1_f (by omega)]; omega)) (by rw [zSum_i _ (by omega), ← hvw]; first | (rw [zP1_t (by omega)]) | (rw [zP1_f (by omega)]; omega)) (by rw [zSum_i _ (by omega)]; first | (rw [zP1_t (by omega)]; omega) | (rw [zP1_f (by omega)]; omega)) (by rw [zSum_i _ (by omega)]; first | (rw [zP1_t (by omega)]; omega) | (rw [zP1_f (by omega)]; omega)) (by omega) (by omega) (by omega) (lv_sub hl [8, 9, 10, 11, 12, 13, 14, 15, 16, 17, 1, 5, 4, 3, 2, 18, 0] rfl))
                                    · refine lv_goto (tgt := 410) hx hb dL_isTold_363 (by decide) ?_
                                      refine z_iinc (lv' := [(16, .int (zI (ii + 1))), (11, .int (zI ((σ 20 ii) + (2 * (σ 8 (σ 15 ii)))))), (18, .int (zI ((σ 20 ii) + (2 * (σ 8 (σ 15 ii)))))), (17, .int (zI (σ 8 (σ 15 ii)))), (7, .ref s.heap.size), (0, .ref x0), (1, .int (zI u)), (2, .ref (la 0)), (3, .ref (la 1)), (4, .ref (la 2)), (5, .ref (la 3)), (6, .ref (la 5)), (8, .int (zI vo)), (10, .int (zI k)), (9, .int (zI vc)), (12, .int (zI vm)), (13, .int (zI vn)), (14, .int (zI vw)), (15, .int (zI va))]) hx hb dL_isTold_410 hl (k := 18) rfl (by decide) rfl (fun ls hl => ?_)
                                      refine lv_goto (tgt := 242) hx hb dL_isTold_413 (by decide) ?_
                                      exact wo_hL4 _ _ _ _ _ (ih_hL4 vc ((σ 20 ii) + (2 * (σ 8 (σ 15 ii)))) vm vn vw va (ii + 1) ls (by rw [zRsd_i _ _ (by omega), ← hvr]; simp only [zOv, zTk, zRest]; (repeat' split) <;> omega) (by rw [zSum_i _ (by omega), ← hvm]; first | (rw [zP1_t (by omega)]) | (rw [zP1_f (by omega)]; omega)) (by rw [zSum_i _ (by omega), ← hvn]; first | (rw [zP1_t (by omega)]) | (rw [zP1_f (by omega)]; omega)) (by rw [zSum_i _ (by omega), ← hvw]; first | (rw [zP1_t (by omega)]) | (rw [zP1_f (by omega)]; omega)) (by rw [zSum_i _ (by omega)]; first | (rw [zP1_t (by omega)]; omega) | (rw [zP1_f (by omega)]; omega)) (by rw [zSum_i _ (by omega)]; first | (rw [zP1_t (by omega)]; omega) | (rw [zP1_f (by omega)]; omega)) (by omega) (by omega) (by omega) (lv_sub hl [4, 5, 6, 7, 8, 9, 10, 11, 12, 13, 14, 1, 15, 16, 17, 18, 0] rfl))
                                  · refine z_iconst hx hb dL_isTold_348 ?_
                                    refine lv_istore (lv' := [(15, .int (zI 1)), (11, .int (zI ((σ 20 ii) + (2 * (σ 8 (σ 15 ii)))))), (18, .int (zI ((σ 20 ii) + (2 * (σ 8 (σ 15 ii)))))), (17, .int (zI (σ 8 (σ 15 ii)))), (7, .ref s.heap.size), (0, .ref x0), (1, .int (zI u)), (2, .ref (la 0)), (3, .ref (la 1)), (4, .ref (la 2)), (5, .ref (la 3)), (6, .ref (la 5)), (8, .int (zI vo)), (10, .int (zI k)), (9, .int (zI vc)), (12, .int (zI vm)), (13, .int (zI vn)), (14, .int (zI vw)), (16, .int (zI ii))]) hx hb dL_isTold_349 hl (by decide) rfl (fun ls hl => ?_)
                                    refine lv_aload hx hb dL_isTold_351 (lv_at hl 10 rfl) ?_
                                    refine lv_iload hx hb dL_isTold_353 (lv_at hl 18 rfl) ?_
                                    refine l_ald hx hb hK hTL.2.2.1 3 (by decide) (by show 0 ≤ ii ∧ ii < ((10 : Nat) : Int); omega) dL_isTold_355 ?_
                                    refine z_top (b := pC σ ii) (by rw [hT.c (i := ii) (by omega)]) ?_
                                    refine z_cs (As := [.int (zI (pC σ ii))]) (rest := []) ⟨hx, hb, hml, hown, hts⟩ (c_L_stateOf l D cI cO cL HL (pC σ ii) (pC_r hI hB (i := ii) (by omega))) (va_cwS 1 hts gL_isTold_L_stateOf rfl rfl rfl (by decide +kernel) ⟨(Nat.le_of_ble_eq_true rfl), (Nat.le_of_ble_eq_true rfl)⟩) (zKK_mv D cI cO cL) (fun U _ hv => va_K.moved hv hK) rfl hl.1 rfl (Nat.le_of_ble_eq_true rfl) dL_isTold_356 ⟨by show 106 + 10 * k.toNat ≤ 200; omega, by show 635 + 60 * k.toNat ≤ 1200; omega⟩ (fun r_100 hr_100 => ?_)
                                    rw [hr_100, pC_t hI hB (i := ii) (by omega)]
                                    refine z_iconst hx hb dL_isTold_359 ?_
                                    refine z_icmp_eq (tgt := 366) hx hb dL_isTold_360 (by decide) (by omega) (fun c_101 => ?_) (fun c_101 => ?_)
                                    · refine z_iinc (lv' := [(12, .int (zI (vm + 1))), (15, .int (zI 1)), (11, .int (zI ((σ 20 ii) + (2 * (σ 8 (σ 15 ii)))))), (18, .int (zI ((σ 20 ii) + (2 * (σ 8 (σ 15 ii)))))), (17, .int (zI (σ 8 (σ 15 ii)))), (7, .ref s.heap.size), (0, .ref x0), (1, .int (zI u)), (2, .ref (la 0)), (3, .ref (la 1)), (4, .ref (la 2)), (5, .ref (la 3)), (6, .ref (la 5)), (8, .int (zI vo)), (10, .int (zI k)), (9, .int (zI vc)), (13, .int (zI vn)), (14, .int (zI vw)), (16, .int (zI ii))]) hx hb dL_isTold_366 hl (k := 15) rfl (by decide) rfl (fun ls hl => ?_)
                                      refine lv_iload hx hb dL_isTold_369 (lv_at hl 16 rfl) ?_
                                      refine lv_iload hx hb dL_isTold_371 (lv_at hl 4 rfl) ?_
                                      refine z_iadd hx hb dL_isTold_373 ?_
                                      refine lv_istore (lv' := [(13, .int (zI (vn + (σ 8 (σ 15 ii))))), (12, .int (zI (vm + 1))), (15, .int (zI 1)), (11, .int (zI ((σ 20 ii) + (2 * (σ 8 (σ 15 ii)))))), (18, .int (zI ((σ 20 ii) + (2 * (σ 8 (σ 15 ii)))))), (17, .int (zI (σ 8 (σ 15 ii)))), (7, .ref s.heap.size), (0, .ref x0), (1, .int (zI u)), (2, .ref (la 0)), (3, .ref (la 1)), (4, .ref (la 2)), (5, .ref (la 3)), (6, .ref (la 5)), (8, .int (zI vo)), (10, .int (zI k)), (9, .int (zI vc)), (14, .int (zI vw)), (16, .int (zI ii))]) hx hb dL_isTold_374 hl (by decide) rfl (fun ls hl => ?_)
                                      refine lv_iload hx hb dL_isTold_376 (lv_at hl 17 rfl) ?_
                                      refine lv_iload hx hb dL_isTold_378 (lv_at hl 5 rfl) ?_
                                      refine lv_aload hx hb dL_isTold_380 (lv_at hl 11 rfl) ?_
                                      refine lv_iload hx hb dL_isTold_382 (lv_at hl 15 rfl) ?_
                                      refine l_ald hx hb hK hTL.2.2.1 2 (by decide) (by show 0 ≤ k ∧ k < ((4 : Nat) : Int); omega) dL_isTold_384 ?_
                                      refine z_top (b := σ 13 k) (by rw [hT.p (i := k) (by omega)]) ?_
                                      refine z_imul hx hb dL_isTold_385 ?_
                                      refine z_iadd hx hb dL_isTold_386 ?_
                                      refine lv_istore (lv' := [(14, .int (zI (vw + ((σ 8 (σ 15 ii)) * (σ 13 k))))), (13, .int (zI (vn + (σ 8 (σ 15 ii))))), (12, .int (zI (vm + 1))), (15, .int (zI 1)), (11, .int (zI ((σ 20 ii) + (2 * (σ 8 (σ 15 ii)))))), (18, .int (zI ((σ 20 ii) + (2 * (σ 8 (σ 15 ii)))))), (17, .int (zI (σ 8 (σ 15 ii)))), (7, .ref s.heap.size), (0, .ref x0), (1, .int (zI u)), (2, .ref (la 0)), (3, .ref (la 1)), (4, .ref (la 2)), (5, .ref (la 3)), (6, .ref (la 5)), (8, .int (zI vo)), (10, .int (zI k)), (9, .int (zI vc)), (16, .int (zI ii))]) hx hb dL_isTold_387 hl (by decide) rfl (fun ls hl => ?_)
                                      refine lv_iload hx hb dL_isTold_389 (lv_at hl 17 rfl) ?_
                                      refine z_bipush hx hb dL_isTold_391 (by decide +kernel) ?_
                                      refine lv_aload_n hx hb dL_isTold_393 rfl (lv_at hl 11 rfl) ?_
                                      refine lv_aload hx hb dL_isTold_394 (lv_at hl 13 rfl) ?_
                                      refine lv_iload hx hb dL_isTold_396 (lv_at hl 18 rfl) ?_
                                      refine l_ald hx hb hK hTL.2.2.1 3 (by decide) (by show 0 ≤ ii ∧ ii < ((10 : Nat) : Int); omega) dL_isTold_398 ?_
                                      refine z_top (b := pC σ ii) (by rw [hT.c (i := ii) (by omega)]) ?_
                                      refine z_cs (As := [.int (zI (pC σ ii))]) (rest := [.ref (la 1), .int (zI 100), .int (zI vc)]) ⟨hx, hb, hml, hown, hts⟩ (c_L_shipOf l D cI cO cL HL (pC σ ii) (pC_r hI hB (i := ii) (by omega))) (va_cwS 1 hts gL_isTold_L_shipOf rfl rfl rfl (by decide +kernel) ⟨(Nat.le_of_ble_eq_true rfl), (Nat.le_of_ble_eq_true rfl)⟩) (zKK_mv D cI cO cL) (fun U _ hv => va_K.moved hv hK) rfl hl.1 rfl (Nat.le_of_ble_eq_true rfl) dL_isTold_399 ⟨by show 106 + 10 * k.toNat ≤ 200; omega, by show 635 + 60 * k.toNat ≤ 1200; omega⟩ (fun r_102 hr_102 => ?_)
                                      rw [hr_102, pC_s hI hB (i := ii) (by omega)]
                                      refine l_ald hx hb hK hTL.2.2.1 1 (by decide) (by show 0 ≤ (σ 15 ii) ∧ (σ 15 ii) < ((6 : Nat) : Int); omega) dL_isTold_402 ?_
                                      refine z_top (b := pS σ (σ 15 ii)) (by rw [hT.s (i := (σ 15 ii)) (by omega)]) ?_
                                      refine z_cs (As := [.int (zI (pS σ (σ 15 ii)))]) (rest := [.int (zI 100), .int (zI vc)]) ⟨hx, hb, hml, hown, hts⟩ (c_L_needs l D cI cO cL HL (pS σ (σ 15 ii)) (pS_r hI (i := (σ 15 ii)) (by omega))) (va_cwS 1 hts gL_isTold_L_needs rfl rfl rfl (by decide +kernel) ⟨(Nat.le_of_ble_eq_true rfl), (Nat.le_of_ble_eq_true rfl)⟩) (zKK_mv D cI cO cL) (fun U _ hv => va_K.moved hv hK) rfl hl.1 rfl (Nat.le_of_ble_eq_true rfl) dL_isTold_403 ⟨by show 106 + 10 * k.toNat ≤ 200; omega, by show 635 + 60 * k.toNat ≤ 1200; omega⟩ (fun r_103 hr_103 => ?_)
                                      rw [hr_103, pS_n hI (i := (σ 15 ii)) (by omega)]
                                      refine z_imul hx hb dL_isTold_406 ?_
                                      refine z_iadd hx hb dL_isTold_407 ?_
                                      refine lv_istore (lv' := [(9, .int (zI (vc + (100 * (σ 9 (σ 15 ii)))))), (14, .int (zI (vw + ((σ 8 (σ 15 ii)) * (σ 13 k))))), (13, .int (zI (vn + (σ 8 (σ 15 ii))))), (12, .int (zI (vm + 1))), (15, .int (zI 1)), (11, .int (zI ((σ 20 ii) + (2 * (σ 8 (σ 15 ii)))))), (18, .int (zI ((σ 20 ii) + (2 * (σ 8 (σ 15 ii)))))), (17, .int (zI (σ 8 (σ 15 ii)))), (7, .ref s.heap.size), (0, .ref x0), (1, .int (zI u)), (2, .ref (la 0)), (3, .ref (la 1)), (4, .ref (la 2)), (5, .ref (la 3)), (6, .ref (la 5)), (8, .int (zI vo)), (10, .int (zI k)), (16, .int (zI ii))]) hx hb dL_isTold_408 hl (by decide) rfl (fun ls hl => ?_)
                                      refine z_iinc (lv' := [(16, .int (zI (ii + 1))), (9, .int (zI (vc + (100 * (σ 9 (σ 15 ii)))))), (14, .int (zI (vw + ((σ 8 (σ 15 ii)) * (σ 13 k))))), (13, .int (zI (vn + (σ 8 (σ 15 ii))))), (12, .int (zI (vm + 1))), (15, .int (zI 1)), (11, .int (zI ((σ 20 ii) + (2 * (σ 8 (σ 15 ii)))))), (18, .int (zI ((σ 20 ii) + (2 * (σ 8 (σ 15 ii)))))), (17, .int (zI (σ 8 (σ 15 ii)))), (7, .ref s.heap.size), (0, .ref x0), (1, .int (zI u)), (2, .ref (la 0)), (3, .ref (la 1)), (4, .ref (la 2)), (5, .ref (la 3)), (6, .ref (la 5)), (8, .int (zI vo)), (10, .int (zI k))]) hx hb dL_isTold_410 hl (k := 18) rfl (by decide) rfl (fun ls hl => ?_)
                                      refine lv_goto (tgt := 242) hx hb dL_isTold_413 (by decide) ?_
                                      exact wo_hL4 _ _ _ _ _ (ih_hL4 (vc + (100 * (σ 9 (σ 15 ii)))) ((σ 20 ii) + (2 * (σ 8 (σ 15 ii)))) (vm + 1) (vn + (σ 8 (σ 15 ii))) (vw + ((σ 8 (σ 15 ii)) * (σ 13 k))) 1 (ii + 1) ls (by rw [zRsd_i _ _ (by omega), ← hvr]; simp only [zOv, zTk, zRest]; (repeat' split) <;> omega) (by rw [zSum_i _ (by omega), ← hvm]; first | (rw [zP1_t (by omega)]) | (rw [zP1_f (by omega)]; omega)) (by rw [zSum_i _ (by omega), ← hvn]; first | (rw [zP1_t (by omega)]) | (rw [zP1_f (by omega)]; omega)) (by rw [zSum_i _ (by omega), ← hvw]; first | (rw [zP1_t (by omega)]) | (rw [zP1_f (by omega)]; omega)) (by rw [zSum_i _ (by omega)]; first | (rw [zP1_t (by omega)]; omega) | (rw [zP1_f (by omega)]; omega)) (by rw [zSum_i _ (by omega)]; first | (rw [zP1_t (by omega)]; omega) | (rw [zP1_f (by omega)]; omega)) (by omega) (by omega) (by omega) (lv_sub hl [9, 10, 11, 12, 13, 14, 15, 16, 17, 18, 1, 6, 4, 3, 2, 5, 0] rfl))
                                    · refine lv_goto (tgt := 410) hx hb dL_isTold_363 (by decide) ?_
                                      refine z_iinc (lv' := [(16, .int (zI (ii + 1))), (15, .int (zI 1)), (11, .int (zI ((σ 20 ii) + (2 * (σ 8 (σ 15 ii)))))), (18, .int (zI ((σ 20 ii) + (2 * (σ 8 (σ 15 ii)))))), (17, .int (zI (σ 8 (σ 15 ii)))), (7, .ref s.heap.size), (0, .ref x0), (1, .int (zI u)), (2, .ref (la 0)), (3, .ref (la 1)), (4, .ref (la 2)), (5, .ref (la 3)), (6, .ref (la 5)), (8, .int (zI vo)), (10, .int (zI k)), (9, .int (zI vc)), (12, .int (zI vm)), (13, .int (zI vn)), (14, .int (zI vw))]) hx hb dL_isTold_410 hl (k := 18) rfl (by decide) rfl (fun ls hl => ?_)
                                      refine lv_goto (tgt := 242) hx hb dL_isTold_413 (by decide) ?_
                                      exact wo_hL4 _ _ _ _ _ (ih_hL4 vc ((σ 20 ii) + (2 * (σ 8 (σ 15 ii)))) vm vn vw 1 (ii + 1) ls (by rw [zRsd_i _ _ (by omega), ← hvr]; simp only [zOv, zTk, zRest]; (repeat' split) <;> omega) (by rw [zSum_i _ (by omega), ← hvm]; first | (rw [zP1_t (by omega)]) | (rw [zP1_f (by omega)]; omega)) (by rw [zSum_i _ (by omega), ← hvn]; first | (rw [zP1_t (by omega)]) | (rw [zP1_f (by omega)]; omega)) (by rw [zSum_i _ (by omega), ← hvw]; first | (rw [zP1_t (by omega)]) | (rw [zP1_f (by omega)]; omega)) (by rw [zSum_i _ (by omega)]; first | (rw [zP1_t (by omega)]; omega) | (rw [zP1_f (by omega)]; omega)) (by rw [zSum_i _ (by omega)]; first | (rw [zP1_t (by omega)]; omega) | (rw [zP1_f (by omega)]; omega)) (by omega) (by omega) (by omega) (lv_sub hl [5, 6, 7, 8, 9, 10, 11, 12, 13, 14, 15, 2, 16, 17, 18, 1, 0] rfl))
                              · refine lv_iload hx hb dL_isTold_305 (lv_at hl 0 rfl) ?_
                                refine z_bipush hx hb dL_isTold_307 (by decide +kernel) ?_
                                refine z_iadd hx hb dL_isTold_309 ?_
                                refine lv_goto (tgt := 317) hx hb dL_isTold_310 (by decide) ?_
                                refine z_iadd hx hb dL_isTold_317 ?_
                                refine lv_istore (lv' := [(18, .int (zI ((σ 20 ii) + ((σ 8 (σ 15 ii)) + 60)))), (17, .int (zI (σ 8 (σ 15 ii)))), (7, .ref s.heap.size), (0, .ref x0), (1, .int (zI u)), (2, .ref (la 0)), (3, .ref (la 1)), (4, .ref (la 2)), (5, .ref (la 3)), (6, .ref (la 5)), (8, .int (zI vo)), (10, .int (zI k)), (9, .int (zI vc)), (11, .int (zI vr)), (12, .int (zI vm)), (13, .int (zI vn)), (14, .int (zI vw)), (15, .int (zI va)), (16, .int (zI ii))]) hx hb dL_isTold_318 hl (by decide) rfl (fun ls hl => ?_)
                                refine lv_iload hx hb dL_isTold_320 (lv_at hl 0 rfl) ?_
                                refine lv_iload hx hb dL_isTold_322 (lv_at hl 13 rfl) ?_
                                refine z_icmp_le (tgt := 332) hx hb dL_isTold_324 (by decide) (by omega) (fun c_104 => ?_) (fun c_104 => ?_)
                                · refine lv_iload hx hb dL_isTold_332 (lv_at hl 13 rfl) ?_
                                  refine lv_istore (lv' := [(11, .int (zI vr)), (18, .int (zI ((σ 20 ii) + ((σ 8 (σ 15 ii)) + 60)))), (17, .int (zI (σ 8 (σ 15 ii)))), (7, .ref s.heap.size), (0, .ref x0), (1, .int (zI u)), (2, .ref (la 0)), (3, .ref (la 1)), (4, .ref (la 2)), (5, .ref (la 3)), (6, .ref (la 5)), (8, .int (zI vo)), (10, .int (zI k)), (9, .int (zI vc)), (12, .int (zI vm)), (13, .int (zI vn)), (14, .int (zI vw)), (15, .int (zI va)), (16, .int (zI ii))]) hx hb dL_isTold_334 hl (by decide) rfl (fun ls hl => ?_)
                                  refine lv_aload hx hb dL_isTold_336 (lv_at hl 9 rfl) ?_
                                  refine lv_iload hx hb dL_isTold_338 (lv_at hl 18 rfl) ?_
                                  refine l_ald hx hb hK hTL.2.2.1 3 (by decide) (by show 0 ≤ ii ∧ ii < ((10 : Nat) : Int); omega) dL_isTold_340 ?_
                                  refine z_top (b := pC σ ii) (by rw [hT.c (i := ii) (by omega)]) ?_
                                  refine z_cs (As := [.int (zI (pC σ ii))]) (rest := []) ⟨hx, hb, hml, hown, hts⟩ (c_L_stateOf l D cI cO cL HL (pC σ ii) (pC_r hI hB (i := ii) (by omega))) (va_cwS 1 hts gL_isTold_L_stateOf rfl rfl rfl (by decide +kernel) ⟨(Nat.le_of_ble_eq_true rfl), (Nat.le_of_ble_eq_true rfl)⟩) (zKK_mv D cI cO cL) (fun U _ hv => va_K.moved hv hK) rfl hl.1 rfl (Nat.le_of_ble_eq_true rfl) dL_isTold_341 ⟨by show 106 + 10 * k.toNat ≤ 200; omega, by show 635 + 60 * k.toNat ≤ 1200; omega⟩ (fun r_105 hr_105 => ?_)
                                  rw [hr_105, pC_t hI hB (i := ii) (by omega)]
                                  refine z_iconst hx hb dL_isTold_344 ?_
                                  refine z_icmp_ne (tgt := 351) hx hb dL_isTold_345 (by decide) (by omega) (fun c_106 => ?_) (fun c_106 => ?_)
                                  · refine lv_aload hx hb dL_isTold_351 (lv_at hl 9 rfl) ?_
                                    refine lv_iload hx hb dL_isTold_353 (lv_at hl 18 rfl) ?_
                                    refine l_ald hx hb hK hTL.2.2.1 3 (by decide) (by show 0 ≤ ii ∧ ii < ((10 : Nat) : Int); omega) dL_isTold_355 ?_
                                    refine z_top (b := pC σ ii) (by rw [hT.c (i := ii) (by omega)]) ?_
                                    refine z_cs (As := [.int (zI (pC σ ii))]) (rest := []) ⟨hx, hb, hml, hown, hts⟩ (c_L_stateOf l D cI cO cL HL (pC σ ii) (pC_r hI hB (i := ii) (by omega))) (va_cwS 1 hts gL_isTold_L_stateOf rfl rfl rfl (by decide +kernel) ⟨(Nat.le_of_ble_eq_true rfl), (Nat.le_of_ble_eq_true rfl)⟩) (zKK_mv D cI cO cL) (fun U _ hv => va_K.moved hv hK) rfl hl.1 rfl (Nat.le_of_ble_eq_true rfl) dL_isTold_356 ⟨by show 106 + 10 * k.toNat ≤ 200; omega, by show 635 + 60 * k.toNat ≤ 1200; omega⟩ (fun r_107 hr_107 => ?_)
                                    rw [hr_107, pC_t hI hB (i := ii) (by omega)]
                                    refine z_iconst hx hb dL_isTold_359 ?_
                                    refine z_icmp_eq (tgt := 366) hx hb dL_isTold_360 (by decide) (by omega) (fun c_108 => ?_) (fun c_108 => ?_)
                                    · refine z_iinc (lv' := [(12, .int (zI (vm + 1))), (11, .int (zI vr)), (18, .int (zI ((σ 20 ii) + ((σ 8 (σ 15 ii)) + 60)))), (17, .int (zI (σ 8 (σ 15 ii)))), (7, .ref s.heap.size), (0, .ref x0), (1, .int (zI u)), (2, .ref (la 0)), (3, .ref (la 1)), (4, .ref (la 2)), (5, .ref (la 3)), (6, .ref (la 5)), (8, .int (zI vo)), (10, .int (zI k)), (9, .int (zI vc)), (13, .int (zI vn)), (14, .int (zI vw)), (15, .int (zI va)), (16, .int (zI ii))]) hx hb dL_isTold_366 hl (k := 14) rfl (by decide) rfl (fun ls hl => ?_)
                                      refine lv_iload hx hb dL_isTold_369 (lv_at hl 15 rfl) ?_
                                      refine lv_iload hx hb dL_isTold_371 (lv_at hl 3 rfl) ?_
                                      refine z_iadd hx hb dL_isTold_373 ?_
                                      refine lv_istore (lv' := [(13, .int (zI (vn + (σ 8 (σ 15 ii))))), (12, .int (zI (vm + 1))), (11, .int (zI vr)), (18, .int (zI ((σ 20 ii) + ((σ 8 (σ 15 ii)) + 60)))), (17, .int (zI (σ 8 (σ 15 ii)))), (7, .ref s.heap.size), (0, .ref x0), (1, .int (zI u)), (2, .ref (la 0)), (3, .ref (la 1)), (4, .ref (la 2)), (5, .ref (la 3)), (6, .ref (la 5)), (8, .int (zI vo)), (10, .int (zI k)), (9, .int (zI vc)), (14, .int (zI vw)), (15, .int (zI va)), (16, .int (zI ii))]) hx hb dL_isTold_374 hl (by decide) rfl (fun ls hl => ?_)
                                      refine lv_iload hx hb dL_isTold_376 (lv_at hl 16 rfl) ?_
                                      refine lv_iload hx hb dL_isTold_378 (lv_at hl 4 rfl) ?_
                                      refine lv_aload hx hb dL_isTold_380 (lv_at hl 10 rfl) ?_
                                      refine lv_iload hx hb dL_isTold_382 (lv_at hl 14 rfl) ?_
                                      refine l_ald hx hb hK hTL.2.2.1 2 (by decide) (by show 0 ≤ k ∧ k < ((4 : Nat) : Int); omega) dL_isTold_384 ?_
                                      refine z_top (b := σ 13 k) (by rw [hT.p (i := k) (by omega)]) ?_
                                      refine z_imul hx hb dL_isTold_385 ?_
                                      refine z_iadd hx hb dL_isTold_386 ?_
                                      refine lv_istore (lv' := [(14, .int (zI (vw + ((σ 8 (σ 15 ii)) * (σ 13 k))))), (13, .int (zI (vn + (σ 8 (σ 15 ii))))), (12, .int (zI (vm + 1))), (11, .int (zI vr)), (18, .int (zI ((σ 20 ii) + ((σ 8 (σ 15 ii)) + 60)))), (17, .int (zI (σ 8 (σ 15 ii)))), (7, .ref s.heap.size), (0, .ref x0), (1, .int (zI u)), (2, .ref (la 0)), (3, .ref (la 1)), (4, .ref (la 2)), (5, .ref (la 3)), (6, .ref (la 5)), (8, .int (zI vo)), (10, .int (zI k)), (9, .int (zI vc)), (15, .int (zI va)), (16, .int (zI ii))]) hx hb dL_isTold_387 hl (by decide) rfl (fun ls hl => ?_)
                                      refine lv_iload hx hb dL_isTold_389 (lv_at hl 16 rfl) ?_
                                      refine z_bipush hx hb dL_isTold_391 (by decide +kernel) ?_
                                      refine lv_aload_n hx hb dL_isTold_393 rfl (lv_at hl 10 rfl) ?_
                                      refine lv_aload hx hb dL_isTold_394 (lv_at hl 12 rfl) ?_
                                      refine lv_iload hx hb dL_isTold_396 (lv_at hl 18 rfl) ?_
                                      refine l_ald hx hb hK hTL.2.2.1 3 (by decide) (by show 0 ≤ ii ∧ ii < ((10 : Nat) : Int); omega) dL_isTold_398 ?_
                                      refine z_top (b := pC σ ii) (by rw [hT.c (i := ii) (by omega)]) ?_
                                      refine z_cs (As := [.int (zI (pC σ ii))]) (rest := [.ref (la 1), .int (zI 100), .int (zI vc)]) ⟨hx, hb, hml, hown, hts⟩ (c_L_shipOf l D cI cO cL HL (pC σ ii) (pC_r hI hB (i := ii) (by omega))) (va_cwS 1 hts gL_isTold_L_shipOf rfl rfl rfl (by decide +kernel) ⟨(Nat.le_of_ble_eq_true rfl), (Nat.le_of_ble_eq_true rfl)⟩) (zKK_mv D cI cO cL) (fun U _ hv => va_K.moved hv hK) rfl hl.1 rfl (Nat.le_of_ble_eq_true rfl) dL_isTold_399 ⟨by show 106 + 10 * k.toNat ≤ 200; omega, by show 635 + 60 * k.toNat ≤ 1200; omega⟩ (fun r_109 hr_109 => ?_)
                                      rw [hr_109, pC_s hI hB (i := ii) (by omega)]
                                      refine l_ald hx hb hK hTL.2.2.1 1 (by decide) (by show 0 ≤ (σ 15 ii) ∧ (σ 15 ii) < ((6 : Nat) : Int); omega) dL_isTold_402 ?_
                                      refine z_top (b := pS σ (σ 15 ii)) (by rw [hT.s (i := (σ 15 ii)) (by omega)]) ?_
                                      refine z_cs (As := [.int (zI (pS σ (σ 15 ii)))]) (rest := [.int (zI 100), .int (zI vc)]) ⟨hx, hb, hml, hown, hts⟩ (c_L_needs l D cI cO cL HL (pS σ (σ 15 ii)) (pS_r hI (i := (σ 15 ii)) (by omega))) (va_cwS 1 hts gL_isTold_L_needs rfl rfl rfl (by decide +kernel) ⟨(Nat.le_of_ble_eq_true rfl), (Nat.le_of_ble_eq_true rfl)⟩) (zKK_mv D cI cO cL) (fun U _ hv => va_K.moved hv hK) rfl hl.1 rfl (Nat.le_of_ble_eq_true rfl) dL_isTold_403 ⟨by show 106 + 10 * k.toNat ≤ 200; omega, by show 635 + 60 * k.toNat ≤ 1200; omega⟩ (fun r_110 hr_110 => ?_)
                                      rw [hr_110, pS_n hI (i := (σ 15 ii)) (by omega)]
                                      refine z_imul hx hb dL_isTold_406 ?_
                                      refine z_iadd hx hb dL_isTold_407 ?_
                                      refine lv_istore (lv' := [(9, .int (zI (vc + (100 * (σ 9 (σ 15 ii)))))), (14, .int (zI (vw + ((σ 8 (σ 15 ii)) * (σ 13 k))))), (13, .int (zI (vn + (σ 8 (σ 15 ii))))), (12, .int (zI (vm + 1))), (11, .int (zI vr)), (18, .int (zI ((σ 20 ii) + ((σ 8 (σ 15 ii)) + 60)))), (17, .int (zI (σ 8 (σ 15 ii)))), (7, .ref s.heap.size), (0, .ref x0), (1, .int (zI u)), (2, .ref (la 0)), (3, .ref (la 1)), (4, .ref (la 2)), (5, .ref (la 3)), (6, .ref (la 5)), (8, .int (zI vo)), (10, .int (zI k)), (15, .int (zI va)), (16, .int (zI ii))]) hx hb dL_isTold_408 hl (by decide) rfl (fun ls hl => ?_)
                                      refine z_iinc (lv' := [(16, .int (zI (ii + 1))), (9, .int (zI (vc + (100 * (σ 9 (σ 15 ii)))))), (14, .int (zI (vw + ((σ 8 (σ 15 ii)) * (σ 13 k))))), (13, .int (zI (vn + (σ 8 (σ 15 ii))))), (12, .int (zI (vm + 1))), (11, .int (zI vr)), (18, .int (zI ((σ 20 ii) + ((σ 8 (σ 15 ii)) + 60)))), (17, .int (zI (σ 8 (σ 15 ii)))), (7, .ref s.heap.size), (0, .ref x0), (1, .int (zI u)), (2, .ref (la 0)), (3, .ref (la 1)), (4, .ref (la 2)), (5, .ref (la 3)), (6, .ref (la 5)), (8, .int (zI vo)), (10, .int (zI k)), (15, .int (zI va))]) hx hb dL_isTold_410 hl (k := 18) rfl (by decide) rfl (fun ls hl => ?_)
                                      refine lv_goto (tgt := 242) hx hb dL_isTold_413 (by decide) ?_
                                      exact wo_hL4 _ _ _ _ _ (ih_hL4 (vc + (100 * (σ 9 (σ 15 ii)))) vr (vm + 1) (vn + (σ 8 (σ 15 ii))) (vw + ((σ 8 (σ 15 ii)) * (σ 13 k))) va (ii + 1) ls (by rw [zRsd_i _ _ (by omega), ← hvr]; simp only [zOv, zTk, zRest]; (repeat' split) <;> omega) (by rw [zSum_i _ (by omega), ← hvm]; first | (rw [zP1_t (by omega)]) | (rw [zP1_f (by omega)]; omega)) (by rw [zSum_i _ (by omega), ← hvn]; first | (rw [zP1_t (by omega)]) | (rw [zP1_f (by omega)]; omega)) (by rw [zSum_i _ (by omega), ← hvw]; first | (rw [zP1_t (by omega)]) | (rw [zP1_f (by omega)]; omega)) (by rw [zSum_i _ (by omega)]; first | (rw [zP1_t (by omega)]; omega) | (rw [zP1_f (by omega)]; omega)) (by rw [zSum_i _ (by omega)]; first | (rw [zP1_t (by omega)]; omega) | (rw [zP1_f (by omega)]; omega)) (by omega) (by omega) (by omega) (lv_sub hl [8, 9, 10, 11, 12, 13, 14, 15, 16, 17, 1, 5, 4, 3, 2, 18, 0] rfl))
                                    · refine lv_goto (tgt := 410) hx hb dL_isTold_363 (by decide) ?_
                                      refine z_iinc (lv' := [(16, .int (zI (ii + 1))), (11, .int (zI vr)), (18, .int (zI ((σ 20 ii) + ((σ 8 (σ 15 ii)) + 60)))), (17, .int (zI (σ 8 (σ 15 ii)))), (7, .ref s.heap.size), (0, .ref x0), (1, .int (zI u)), (2, .ref (la 0)), (3, .ref (la 1)), (4, .ref (la 2)), (5, .ref (la 3)), (6, .ref (la 5)), (8, .int (zI vo)), (10, .int (zI k)), (9, .int (zI vc)), (12, .int (zI vm)), (13, .int (zI vn)), (14, .int (zI vw)), (15, .int (zI va))]) hx hb dL_isTold_410 hl (k := 18) rfl (by decide) rfl (fun ls hl => ?_)
                                      refine lv_goto (tgt := 242) hx hb dL_isTold_413 (by decide) ?_
                                      exact wo_hL4 _ _ _ _ _ (ih_hL4 vc vr vm vn vw va (ii + 1) ls (by rw [zRsd_i _ _ (by omega), ← hvr]; simp only [zOv, zTk, zRest]; (repeat' split) <;> omega) (by rw [zSum_i _ (by omega), ← hvm]; first | (rw [zP1_t (by omega)]) | (rw [zP1_f (by omega)]; omega)) (by rw [zSum_i _ (by omega), ← hvn]; first | (rw [zP1_t (by omega)]) | (rw [zP1_f (by omega)]; omega)) (by rw [zSum_i _ (by omega), ← hvw]; first | (rw [zP1_t (by omega)]) | (rw [zP1_f (by omega)]; omega)) (by rw [zSum_i _ (by omega)]; first | (rw [zP1_t (by omega)]; omega) | (rw [zP1_f (by omega)]; omega)) (by rw [zSum_i _ (by omega)]; first | (rw [zP1_t (by omega)]; omega) | (rw [zP1_f (by omega)]; omega)) (by omega) (by omega) (by omega) (lv_sub hl [4, 5, 6, 7, 8, 9, 10, 11, 12, 13, 14, 1, 15, 16, 17, 18, 0] rfl))
                                  · refine z_iconst hx hb dL_isTold_348 ?_
                                    refine lv_istore (lv' := [(15, .int (zI 1)), (11, .int (zI vr)), (18, .int (zI ((σ 20 ii) + ((σ 8 (σ 15 ii)) + 60)))), (17, .int (zI (σ 8 (σ 15 ii)))), (7, .ref s.heap.size), (0, .ref x0), (1, .int (zI u)), (2, .ref (la 0)), (3, .ref (la 1)), (4, .ref (la 2)), (5, .ref (la 3)), (6, .ref (la 5)), (8, .int (zI vo)), (10, .int (zI k)), (9, .int (zI vc)), (12, .int (zI vm)), (13, .int (zI vn)), (14, .int (zI vw)), (16, .int (zI ii))]) hx hb dL_isTold_349 hl (by decide) rfl (fun ls hl => ?_)
                                    refine lv_aload hx hb dL_isTold_351 (lv_at hl 10 rfl) ?_
                                    refine lv_iload hx hb dL_isTold_353 (lv_at hl 18 rfl) ?_
                                    refine l_ald hx hb hK hTL.2.2.1 3 (by decide) (by show 0 ≤ ii ∧ ii < ((10 : Nat) : Int); omega) dL_isTold_355 ?_
                                    refine z_top (b := pC σ ii) (by rw [hT.c (i := ii) (by omega)]) ?_
                                    refine z_cs (As := [.int (zI (pC σ ii))]) (rest := []) ⟨hx, hb, hml, hown, hts⟩ (c_L_stateOf l D cI cO cL HL (pC σ ii) (pC_r hI hB (i := ii) (by omega))) (va_cwS 1 hts gL_isTold_L_stateOf rfl rfl rfl (by decide +kernel) ⟨(Nat.le_of_ble_eq_true rfl), (Nat.le_of_ble_eq_true rfl)⟩) (zKK_mv D cI cO cL) (fun U _ hv => va_K.moved hv hK) rfl hl.1 rfl (Nat.le_of_ble_eq_true rfl) dL_isTold_356 ⟨by show 106 + 10 * k.toNat ≤ 200; omega, by show 635 + 60 * k.toNat ≤ 1200; omega⟩ (fun r_111 hr_111 => ?_)
                                    rw [hr_111, pC_t hI hB (i := ii) (by omega)]
                                    refine z_iconst hx hb dL_isTold_359 ?_
                                    refine z_icmp_eq (tgt := 366) hx hb dL_isTold_360 (by decide) (by omega) (fun c_112 => ?_) (fun c_112 => ?_)
                                    · refine z_iinc (lv' := [(12, .int (zI (vm + 1))), (15, .int (zI 1)), (11, .int (zI vr)), (18, .int (zI ((σ 20 ii) + ((σ 8 (σ 15 ii)) + 60)))), (17, .int (zI (σ 8 (σ 15 ii)))), (7, .ref s.heap.size), (0, .ref x0), (1, .int (zI u)), (2, .ref (la 0)), (3, .ref (la 1)), (4, .ref (la 2)), (5, .ref (la 3)), (6, .ref (la 5)), (8, .int (zI vo)), (10, .int (zI k)), (9, .int (zI vc)), (13, .int (zI vn)), (14, .int (zI vw)), (16, .int (zI ii))]) hx hb dL_isTold_366 hl (k := 15) rfl (by decide) rfl (fun ls hl => ?_)
                                      refine lv_iload hx hb dL_isTold_369 (lv_at hl 16 rfl) ?_
                                      refine lv_iload hx hb dL_isTold_371 (lv_at hl 4 rfl) ?_
                                      refine z_iadd hx hb dL_isTold_373 ?_
                                      refine lv_istore (lv' := [(13, .int (zI (vn + (σ 8 (σ 15 ii))))), (12, .int (zI (vm + 1))), (15, .int (zI 1)), (11, .int (zI vr)), (18, .int (zI ((σ 20 ii) + ((σ 8 (σ 15 ii)) + 60)))), (17, .int (zI (σ 8 (σ 15 ii)))), (7, .ref s.heap.size), (0, .ref x0), (1, .int (zI u)), (2, .ref (la 0)), (3, .ref (la 1)), (4, .ref (la 2)), (5, .ref (la 3)), (6, .ref (la 5)), (8, .int (zI vo)), (10, .int (zI k)), (9, .int (zI vc)), (14, .int (zI vw)), (16, .int (zI ii))]) hx hb dL_isTold_374 hl (by decide) rfl (fun ls hl => ?_)
                                      refine lv_iload hx hb dL_isTold_376 (lv_at hl 17 rfl) ?_
                                      refine lv_iload hx hb dL_isTold_378 (lv_at hl 5 rfl) ?_
                                      refine lv_aload hx hb dL_isTold_380 (lv_at hl 11 rfl) ?_
                                      refine lv_iload hx hb dL_isTold_382 (lv_at hl 15 rfl) ?_
                                      refine l_ald hx hb hK hTL.2.2.1 2 (by decide) (by show 0 ≤ k ∧ k < ((4 : Nat) : Int); omega) dL_isTold_384 ?_
                                      refine z_top (b := σ 13 k) (by rw [hT.p (i := k) (by omega)]) ?_
                                      refine z_imul hx hb dL_isTold_385 ?_
                                      refine z_iadd hx hb dL_isTold_386 ?_
                                      refine lv_istore (lv' := [(14, .int (zI (vw + ((σ 8 (σ 15 ii)) * (σ 13 k))))), (13, .int (zI (vn + (σ 8 (σ 15 ii))))), (12, .int (zI (vm + 1))), (15, .int (zI 1)), (11, .int (zI vr)), (18, .int (zI ((σ 20 ii) + ((σ 8 (σ 15 ii)) + 60)))), (17, .int (zI (σ 8 (σ 15 ii)))), (7, .ref s.heap.size), (0, .ref x0), (1, .int (zI u)), (2, .ref (la 0)), (3, .ref (la 1)), (4, .ref (la 2)), (5, .ref (la 3)), (6, .ref (la 5)), (8, .int (zI vo)), (10, .int (zI k)), (9, .int (zI vc)), (16, .int (zI ii))]) hx hb dL_isTold_387 hl (by decide) rfl (fun ls hl => ?_)
                                      refine lv_iload hx hb dL_isTold_389 (lv_at hl 17 rfl) ?_
                                      refine z_bipush hx hb dL_isTold_391 (by decide +kernel) ?_
                                      refine lv_aload_n hx hb dL_isTold_393 rfl (lv_at hl 11 rfl) ?_
                                      refine lv_aload hx hb dL_isTold_394 (lv_at hl 13 rfl) ?_
                                      refine lv_iload hx hb dL_isTold_396 (lv_at hl 18 rfl) ?_
                                      refine l_ald hx hb hK hTL.2.2.1 3 (by decide) (by show 0 ≤ ii ∧ ii < ((10 : Nat) : Int); omega) dL_isTold_398 ?_
                                      refine z_top (b := pC σ ii) (by rw [hT.c (i := ii) (by omega)]) ?_
                                      refine z_cs (As := [.int (zI (pC σ ii))]) (rest := [.ref (la 1), .int (zI 100), .int (zI vc)]) ⟨hx, hb, hml, hown, hts⟩ (c_L_shipOf l D cI cO cL HL (pC σ ii) (pC_r hI hB (i := ii) (by omega))) (va_cwS 1 hts gL_isTold_L_shipOf rfl rfl rfl (by decide +kernel) ⟨(Nat.le_of_ble_eq_true rfl), (Nat.le_of_ble_eq_true rfl)⟩) (zKK_mv D cI cO cL) (fun U _ hv => va_K.moved hv hK) rfl hl.1 rfl (Nat.le_of_ble_eq_true rfl) dL_isTold_399 ⟨by show 106 + 10 * k.toNat ≤ 200; omega, by show 635 + 60 * k.toNat ≤ 1200; omega⟩ (fun r_113 hr_113 => ?_)
                                      rw [hr_113, pC_s hI hB (i := ii) (by omega)]
                                      refine l_ald hx hb hK hTL.2.2.1 1 (by decide) (by show 0 ≤ (σ 15 ii) ∧ (σ 15 ii) < ((6 : Nat) : Int); omega) dL_isTold_402 ?_
                                      refine z_top (b := pS σ (σ 15 ii)) (by rw [hT.s (i := (σ 15 ii)) (by omega)]) ?_
                                      refine z_cs (As := [.int (zI (pS σ (σ 15 ii)))]) (rest := [.int (zI 100), .int (zI vc)]) ⟨hx, hb, hml, hown, hts⟩ (c_L_needs l D cI cO cL HL (pS σ (σ 15 ii)) (pS_r hI (i := (σ 15 ii)) (by omega))) (va_cwS 1 hts gL_isTold_L_needs rfl rfl rfl (by decide +kernel) ⟨(Nat.le_of_ble_eq_true rfl), (Nat.le_of_ble_eq_true rfl)⟩) (zKK_mv D cI cO cL) (fun U _ hv => va_K.moved hv hK) rfl hl.1 rfl (Nat.le_of_ble_eq_true rfl) dL_isTold_403 ⟨by show 106 + 10 * k.toNat ≤ 200; omega, by show 635 + 60 * k.toNat ≤ 1200; omega⟩ (fun r_114 hr_114 => ?_)
                                      rw [hr_114, pS_n hI (i := (σ 15 ii)) (by omega)]
                                      refine z_imul hx hb dL_isTold_406 ?_
                                      refine z_iadd hx hb dL_isTold_407 ?_
                                      refine lv_istore (lv' := [(9, .int (zI (vc + (100 * (σ 9 (σ 15 ii)))))), (14, .int (zI (vw + ((σ 8 (σ 15 ii)) * (σ 13 k))))), (13, .int (zI (vn + (σ 8 (σ 15 ii))))), (12, .int (zI (vm + 1))), (15, .int (zI 1)), (11, .int (zI vr)), (18, .int (zI ((σ 20 ii) + ((σ 8 (σ 15 ii)) + 60)))), (17, .int (zI (σ 8 (σ 15 ii)))), (7, .ref s.heap.size), (0, .ref x0), (1, .int (zI u)), (2, .ref (la 0)), (3, .ref (la 1)), (4, .ref (la 2)), (5, .ref (la 3)), (6, .ref (la 5)), (8, .int (zI vo)), (10, .int (zI k)), (16, .int (zI ii))]) hx hb dL_isTold_408 hl (by decide) rfl (fun ls hl => ?_)
                                      refine z_iinc (lv' := [(16, .int (zI (ii + 1))), (9, .int (zI (vc + (100 * (σ 9 (σ 15 ii)))))), (14, .int (zI (vw + ((σ 8 (σ 15 ii)) * (σ 13 k))))), (13, .int (zI (vn + (σ 8 (σ 15 ii))))), (12, .int (zI (vm + 1))), (15, .int (zI 1)), (11, .int (zI vr)), (18, .int (zI ((σ 20 ii) + ((σ 8 (σ 15 ii)) + 60)))), (17, .int (zI (σ 8 (σ 15 ii)))), (7, .ref s.heap.size), (0, .ref x0), (1, .int (zI u)), (2, .ref (la 0)), (3, .ref (la 1)), (4, .ref (la 2)), (5, .ref (la 3)), (6, .ref (la 5)), (8, .int (zI vo)), (10, .int (zI k))]) hx hb dL_isTold_410 hl (k := 18) rfl (by decide) rfl (fun ls hl => ?_)
                                      refine lv_goto (tgt := 242) hx hb dL_isTold_413 (by decide) ?_
                                      exact wo_hL4 _ _ _ _ _ (ih_hL4 (vc + (100 * (σ 9 (σ 15 ii)))) vr (vm + 1) (vn + (σ 8 (σ 15 ii))) (vw + ((σ 8 (σ 15 ii)) * (σ 13 k))) 1 (ii + 1) ls (by rw [zRsd_i _ _ (by omega), ← hvr]; simp only [zOv, zTk, zRest]; (repeat' split) <;> omega) (by rw [zSum_i _ (by omega), ← hvm]; first | (rw [zP1_t (by omega)]) | (rw [zP1_f (by omega)]; omega)) (by rw [zSum_i _ (by omega), ← hvn]; first | (rw [zP1_t (by omega)]) | (rw [zP1_f (by omega)]; omega)) (by rw [zSum_i _ (by omega), ← hvw]; first | (rw [zP1_t (by omega)]) | (rw [zP1_f (by omega)]; omega)) (by rw [zSum_i _ (by omega)]; first | (rw [zP1_t (by omega)]; omega) | (rw [zP1_f (by omega)]; omega)) (by rw [zSum_i _ (by omega)]; first | (rw [zP1_t (by omega)]; omega) | (rw [zP1_f (by omega)]; omega)) (by omega) (by omega) (by omega) (lv_sub hl [9, 10, 11, 12, 13, 14, 15, 16, 17, 18, 1, 6, 4, 3, 2, 5, 0] rfl))
                                    · refine lv_goto (tgt := 410) hx hb dL_isTold_363 (by decide) ?_
                                      refine z_iinc (lv' := [(16, .int (zI (ii + 1))), (15, .int (zI 1)), (11, .int (zI vr)), (18, .int (zI ((σ 20 ii) + ((σ 8 (σ 15 ii)) + 60)))), (17, .int (zI (σ 8 (σ 15 ii)))), (7, .ref s.heap.size), (0, .ref x0), (1, .int (zI u)), (2, .ref (la 0)), (3, .ref (la 1)), (4, .ref (la 2)), (5, .ref (la 3)), (6, .ref (la 5)), (8, .int (zI vo)), (10, .int (zI k)), (9, .int (zI vc)), (12, .int (zI vm)), (13, .int (zI vn)), (14, .int (zI vw))]) hx hb dL_isTold_410 hl (k := 18) rfl (by decide) rfl (fun ls hl => ?_)
                                      refine lv_goto (tgt := 242) hx hb dL_isTold_413 (by decide) ?_
                                      exact wo_hL4 _ _ _ _ _ (ih_hL4 vc vr vm vn vw 1 (ii + 1) ls (by rw [zRsd_i _ _ (by omega), ← hvr]; simp only [zOv, zTk, zRest]; (repeat' split) <;> omega) (by rw [zSum_i _ (by omega), ← hvm]; first | (rw [zP1_t (by omega)]) | (rw [zP1_f (by omega)]; omega)) (by rw [zSum_i _ (by omega), ← hvn]; first | (rw [zP1_t (by omega)]) | (rw [zP1_f (by omega)]; omega)) (by rw [zSum_i _ (by omega), ← hvw]; first | (rw [zP1_t (by omega)]) | (rw [zP1_f (by omega)]; omega)) (by rw [zSum_i _ (by omega)]; first | (rw [zP1_t (by omega)]; omega) | (rw [zP1_f (by omega)]; omega)) (by rw [zSum_i _ (by omega)]; first | (rw [zP1_t (by omega)]; omega) | (rw [zP1_f (by omega)]; omega)) (by omega) (by omega) (by omega) (lv_sub hl [5, 6, 7, 8, 9, 10, 11, 12, 13, 14, 15, 2, 16, 17, 18, 1, 0] rfl))
                                · refine lv_iload hx hb dL_isTold_327 (lv_at hl 0 rfl) ?_
                                  refine lv_goto (tgt := 334) hx hb dL_isTold_329 (by decide) ?_
                                  refine lv_istore (lv' := [(11, .int (zI ((σ 20 ii) + ((σ 8 (σ 15 ii)) + 60)))), (18, .int (zI ((σ 20 ii) + ((σ 8 (σ 15 ii)) + 60)))), (17, .int (zI (σ 8 (σ 15 ii)))), (7, .ref s.heap.size), (0, .ref x0), (1, .int (zI u)), (2, .ref (la 0)), (3, .ref (la 1)), (4, .ref (la 2)), (5, .ref (la 3)), (6, .ref (la 5)), (8, .int (zI vo)), (10, .int (zI k)), (9, .int (zI vc)), (12, .int (zI vm)), (13, .int (zI vn)), (14, .int (zI vw)), (15, .int (zI va)), (16, .int (zI ii))]) hx hb dL_isTold_334 hl (by decide) rfl (fun ls hl => ?_)
                                  refine lv_aload hx hb dL_isTold_336 (lv_at hl 9 rfl) ?_
                                  refine lv_iload hx hb dL_isTold_338 (lv_at hl 18 rfl) ?_
                                  refine l_ald hx hb hK hTL.2.2.1 3 (by decide) (by show 0 ≤ ii ∧ ii < ((10 : Nat) : Int); omega) dL_isTold_340 ?_
                                  refine z_top (b := pC σ ii) (by rw [hT.c (i := ii) (by omega)]) ?_
                                  refine z_cs (As := [.int (zI (pC σ ii))]) (rest := []) ⟨hx, hb, hml, hown, hts⟩ (c_L_stateOf l D cI cO cL HL (pC σ ii) (pC_r hI hB (i := ii) (by omega))) (va_cwS 1 hts gL_isTold_L_stateOf rfl rfl rfl (by decide +kernel) ⟨(Nat.le_of_ble_eq_true rfl), (Nat.le_of_ble_eq_true rfl)⟩) (zKK_mv D cI cO cL) (fun U _ hv => va_K.moved hv hK) rfl hl.1 rfl (Nat.le_of_ble_eq_true rfl) dL_isTold_341 ⟨by show 106 + 10 * k.toNat ≤ 200; omega, by show 635 + 60 * k.toNat ≤ 1200; omega⟩ (fun r_115 hr_115 => ?_)
                                  rw [hr_115, pC_t hI hB (i := ii) (by omega)]
                                  refine z_iconst hx hb dL_isTold_344 ?_
                                  refine z_icmp_ne (tgt := 351) hx hb dL_isTold_345 (by decide) (by omega) (fun c_116 => ?_) (fun c_116 => ?_)
                                  · refine lv_aload hx hb dL_isTold_351 (lv_at hl 9 rfl) ?_
                                    refine lv_iload hx hb dL_isTold_353 (lv_at hl 18 rfl) ?_
                                    refine l_ald hx hb hK hTL.2.2.1 3 (by decide) (by show 0 ≤ ii ∧ ii < ((10 : Nat) : Int); omega) dL_isTold_355 ?_
                                    refine z_top (b := pC σ ii) (by rw [hT.c (i := ii) (by omega)]) ?_
                                    refine z_cs (As := [.int (zI (pC σ ii))]) (rest := []) ⟨hx, hb, hml, hown, hts⟩ (c_L_stateOf l D cI cO cL HL (pC σ ii) (pC_r hI hB (i := ii) (by omega))) (va_cwS 1 hts gL_isTold_L_stateOf rfl rfl rfl (by decide +kernel) ⟨(Nat.le_of_ble_eq_true rfl), (Nat.le_of_ble_eq_true rfl)⟩) (zKK_mv D cI cO cL) (fun U _ hv => va_K.moved hv hK) rfl hl.1 rfl (Nat.le_of_ble_eq_true rfl) dL_isTold_356 ⟨by show 106 + 10 * k.toNat ≤ 200; omega, by show 635 + 60 * k.toNat ≤ 1200; omega⟩ (fun r_117 hr_117 => ?_)
                                    rw [hr_117, pC_t hI hB (i := ii) (by omega)]
                                    refine z_iconst hx hb dL_isTold_359 ?_
                                    refine z_icmp_eq (tgt := 366) hx hb dL_isTold_360 (by decide) (by omega) (fun c_118 => ?_) (fun c_118 => ?_)
                                    · refine z_iinc (lv' := [(12, .int (zI (vm + 1))), (11, .int (zI ((σ 20 ii) + ((σ 8 (σ 15 ii)) + 60)))), (18, .int (zI ((σ 20 ii) + ((σ 8 (σ 15 ii)) + 60)))), (17, .int (zI (σ 8 (σ 15 ii)))), (7, .ref s.heap.size), (0, .ref x0), (1, .int (zI u)), (2, .ref (la 0)), (3, .ref (la 1)), (4, .ref (la 2)), (5, .ref (la 3)), (6, .ref (la 5)), (8, .int (zI vo)), (10, .int (zI k)), (9, .int (zI vc)), (13, .int (zI vn)), (14, .int (zI vw)), (15, .int (zI va)), (16, .int (zI ii))]) hx hb dL_isTold_366 hl (k := 14) rfl (by decide) rfl (fun ls hl => ?_)
                                      refine lv_iload hx hb dL_isTold_369 (lv_at hl 15 rfl) ?_
                                      refine lv_iload hx hb dL_isTold_371 (lv_at hl 3 rfl) ?_
                                      refine z_iadd hx hb dL_isTold_373 ?_
                                      refine lv_istore (lv' := [(13, .int (zI (vn + (σ 8 (σ 15 ii))))), (12, .int (zI (vm + 1))), (11, .int (zI ((σ 20 ii) + ((σ 8 (σ 15 ii)) + 60)))), (18, .int (zI ((σ 20 ii) + ((σ 8 (σ 15 ii)) + 60)))), (17, .int (zI (σ 8 (σ 15 ii)))), (7, .ref s.heap.size), (0, .ref x0), (1, .int (zI u)), (2, .ref (la 0)), (3, .ref (la 1)), (4, .ref (la 2)), (5, .ref (la 3)), (6, .ref (la 5)), (8, .int (zI vo)), (10, .int (zI k)), (9, .int (zI vc)), (14, .int (zI vw)), (15, .int (zI va)), (16, .int (zI ii))]) hx hb dL_isTold_374 hl (by decide) rfl (fun ls hl => ?_)
                                      refine lv_iload hx hb dL_isTold_376 (lv_at hl 16 rfl) ?_
                                      refine lv_iload hx hb dL_isTold_378 (lv_at hl 4 rfl) ?_
                                      refine lv_aload hx hb dL_isTold_380 (lv_at hl 10 rfl) ?_
                                      refine lv_iload hx hb dL_isTold_382 (lv_at hl 14 rfl) ?_
                                      refine l_ald hx hb hK hTL.2.2.1 2 (by decide) (by show 0 ≤ k ∧ k < ((4 : Nat) : Int); omega) dL_isTold_384 ?_
                                      refine z_top (b := σ 13 k) (by rw [hT.p (i := k) (by omega)]) ?_
                                      refine z_imul hx hb dL_isTold_385 ?_
                                      refine z_iadd hx hb dL_isTold_386 ?_
                                      refine lv_istore (lv' := [(14, .int (zI (vw + ((σ 8 (σ 15 ii)) * (σ 13 k))))), (13, .int (zI (vn + (σ 8 (σ 15 ii))))), (12, .int (zI (vm + 1))), (11, .int (zI ((σ 20 ii) + ((σ 8 (σ 15 ii)) + 60)))), (18, .int (zI ((σ 20 ii) + ((σ 8 (σ 15 ii)) + 60)))), (17, .int (zI (σ 8 (σ 15 ii)))), (7, .ref s.heap.size), (0, .ref x0), (1, .int (zI u)), (2, .ref (la 0)), (3, .ref (la 1)), (4, .ref (la 2)), (5, .ref (la 3)), (6, .ref (la 5)), (8, .int (zI vo)), (10, .int (zI k)), (9, .int (zI vc)), (15, .int (zI va)), (16, .int (zI ii))]) hx hb dL_isTold_387 hl (by decide) rfl (fun ls hl => ?_)
                                      refine lv_iload hx hb dL_isTold_389 (lv_at hl 16 rfl) ?_
                                      refine z_bipush hx hb dL_isTold_391 (by decide +kernel) ?_
                                      refine lv_aload_n hx hb dL_isTold_393 rfl (lv_at hl 10 rfl) ?_
                                      refine lv_aload hx hb dL_isTold_394 (lv_at hl 12 rfl) ?_
                                      refine lv_iload hx hb dL_isTold_396 (lv_at hl 18 rfl) ?_
                                      refine l_ald hx hb hK hTL.2.2.1 3 (by decide) (by show 0 ≤ ii ∧ ii < ((10 : Nat) : Int); omega) dL_isTold_398 ?_
                                      refine z_top (b := pC σ ii) (by rw [hT.c (i := ii) (by omega)]) ?_
                                      refine z_cs (As := [.int (zI (pC σ ii))]) (rest := [.ref (la 1), .int (zI 100), .int (zI vc)]) ⟨hx, hb, hml, hown, hts⟩ (c_L_shipOf l D cI cO cL HL (pC σ ii) (pC_r hI hB (i := ii) (by omega))) (va_cwS 1 hts gL_isTold_L_shipOf rfl rfl rfl (by decide +kernel) ⟨(Nat.le_of_ble_eq_true rfl), (Nat.le_of_ble_eq_true rfl)⟩) (zKK_mv D cI cO cL) (fun U _ hv => va_K.moved hv hK) rfl hl.1 rfl (Nat.le_of_ble_eq_true rfl) dL_isTold_399 ⟨by show 106 + 10 * k.toNat ≤ 200; omega, by show 635 + 60 * k.toNat ≤ 1200; omega⟩ (fun r_119 hr_119 => ?_)
                                      rw [hr_119, pC_s hI hB (i := ii) (by omega)]
                                      refine l_ald hx hb hK hTL.2.2.1 1 (by decide) (by show 0 ≤ (σ 15 ii) ∧ (σ 15 ii) < ((6 : Nat) : Int); omega) dL_isTold_402 ?_
                                      refine z_top (b := pS σ (σ 15 ii)) (by rw [hT.s (i := (σ 15 ii)) (by omega)]) ?_
                                      refine z_cs (As := [.int (zI (pS σ (σ 15 ii)))]) (rest := [.int (zI 100), .int (zI vc)]) ⟨hx, hb, hml, hown, hts⟩ (c_L_needs l D cI cO cL HL (pS σ (σ 15 ii)) (pS_r hI (i := (σ 15 ii)) (by omega))) (va_cwS 1 hts gL_isTold_L_needs rfl rfl rfl (by decide +kernel) ⟨(Nat.le_of_ble_eq_true rfl), (Nat.le_of_ble_eq_true rfl)⟩) (zKK_mv D cI cO cL) (fun U _ hv => va_K.moved hv hK) rfl hl.1 rfl (Nat.le_of_ble_eq_true rfl) dL_isTold_403 ⟨by show 106 + 10 * k.toNat ≤ 200; omega, by show 635 + 60 * k.toNat ≤ 1200; omega⟩ (fun r_120 hr_120 => ?_)
                                      rw [hr_120, pS_n hI (i := (σ 15 ii)) (by omega)]
                                      refine z_imul hx hb dL_isTold_406 ?_
                                      refine z_iadd hx hb dL_isTold_407 ?_
                                      refine lv_istore (lv' := [(9, .int (zI (vc + (100 * (σ 9 (σ 15 ii)))))), (14, .int (zI (vw + ((σ 8 (σ 15 ii)) * (σ 13 k))))), (13, .int (zI (vn + (σ 8 (σ 15 ii))))), (12, .int (zI (vm + 1))), (11, .int (zI ((σ 20 ii) + ((σ 8 (σ 15 ii)) + 60)))), (18, .int (zI ((σ 20 ii) + ((σ 8 (σ 15 ii)) + 60)))), (17, .int (zI (σ 8 (σ 15 ii)))), (7, .ref s.heap.size), (0, .ref x0), (1, .int (zI u)), (2, .ref (la 0)), (3, .ref (la 1)), (4, .ref (la 2)), (5, .ref (la 3)), (6, .ref (la 5)), (8, .int (zI vo)), (10, .int (zI k)), (15, .int (zI va)), (16, .int (zI ii))]) hx hb dL_isTold_408 hl (by decide) rfl (fun ls hl => ?_)
                                      refine z_iinc (lv' := [(16, .int (zI (ii + 1))), (9, .int (zI (vc + (100 * (σ 9 (σ 15 ii)))))), (14, .int (zI (vw + ((σ 8 (σ 15 ii)) * (σ 13 k))))), (13, .int (zI (vn + (σ 8 (σ 15 ii))))), (12, .int (zI (vm + 1))), (11, .int (zI ((σ 20 ii) + ((σ 8 (σ 15 ii)) + 60)))), (18, .int (zI ((σ 20 ii) + ((σ 8 (σ 15 ii)) + 60)))), (17, .int (zI (σ 8 (σ 15 ii)))), (7, .ref s.heap.size), (0, .ref x0), (1, .int (zI u)), (2, .ref (la 0)), (3, .ref (la 1)), (4, .ref (la 2)), (5, .ref (la 3)), (6, .ref (la 5)), (8, .int (zI vo)), (10, .int (zI k)), (15, .int (zI va))]) hx hb dL_isTold_410 hl (k := 18) rfl (by decide) rfl (fun ls hl => ?_)
                                      refine lv_goto (tgt := 242) hx hb dL_isTold_413 (by decide) ?_
                                      exact wo_hL4 _ _ _ _ _ (ih_hL4 (vc + (100 * (σ 9 (σ 15 ii)))) ((σ 20 ii) + ((σ 8 (σ 15 ii)) + 60)) (vm + 1) (vn + (σ 8 (σ 15 ii))) (vw + ((σ 8 (σ 15 ii)) * (σ 13 k))) va (ii + 1) ls (by rw [zRsd_i _ _ (by omega), ← hvr]; simp only [zOv, zTk, zRest]; (repeat' split) <;> omega) (by rw [zSum_i _ (by omega), ← hvm]; first | (rw [zP1_t (by omega)]) | (rw [zP1_f (by omega)]; omega)) (by rw [zSum_i _ (by omega), ← hvn]; first | (rw [zP1_t (by omega)]) | (rw [zP1_f (by omega)]; omega)) (by rw [zSum_i _ (by omega), ← hvw]; first | (rw [zP1_t (by omega)]) | (rw [zP1_f (by omega)]; omega)) (by rw [zSum_i _ (by omega)]; first | (rw [zP1_t (by omega)]; omega) | (rw [zP1_f (by omega)]; omega)) (by rw [zSum_i _ (by omega)]; first | (rw [zP1_t (by omega)]; omega) | (rw [zP1_f (by omega)]; omega)) (by omega) (by omega) (by omega) (lv_sub hl [8, 9, 10, 11, 12, 13, 14, 15, 16, 17, 1, 5, 4, 3, 2, 18, 0] rfl))
                                    · refine lv_goto (tgt := 410) hx hb dL_isTold_363 (by decide) ?_
                                      refine z_iinc (lv' := [(16, .int (zI (ii + 1))), (11, .int (zI ((σ 20 ii) + ((σ 8 (σ 15 ii)) + 60)))), (18, .int (zI ((σ 20 ii) + ((σ 8 (σ 15 ii)) + 60)))), (17, .int (zI (σ 8 (σ 15 ii)))), (7, .ref s.heap.size), (0, .ref x0), (1, .int (zI u)), (2, .ref (la 0)), (3, .ref (la 1)), (4, .ref (la 2)), (5, .ref (la 3)), (6, .ref (la 5)), (8, .int (zI vo)), (10, .int (zI k)), (9, .int (zI vc)), (12, .int (zI vm)), (13, .int (zI vn)), (14, .int (zI vw)), (15, .int (zI va))]) hx hb dL_isTold_410 hl (k := 18) rfl (by decide) rfl (fun ls hl => ?_)
                                      refine lv_goto (tgt := 242) hx hb dL_isTold_413 (by decide) ?_
                                      exact wo_hL4 _ _ _ _ _ (ih_hL4 vc ((σ 20 ii) + ((σ 8 (σ 15 ii)) + 60)) vm vn vw va (ii + 1) ls (by rw [zRsd_i _ _ (by omega), ← hvr]; simp only [zOv, zTk, zRest]; (repeat' split) <;> omega) (by rw [zSum_i _ (by omega), ← hvm]; first | (rw [zP1_t (by omega)]) | (rw [zP1_f (by omega)]; omega)) (by rw [zSum_i _ (by omega), ← hvn]; first | (rw [zP1_t (by omega)]) | (rw [zP1_f (by omega)]; omega)) (by rw [zSum_i _ (by omega), ← hvw]; first | (rw [zP1_t (by omega)]) | (rw [zP1_f (by omega)]; omega)) (by rw [zSum_i _ (by omega)]; first | (rw [zP1_t (by omega)]; omega) | (rw [zP1_f (by omega)]; omega)) (by rw [zSum_i _ (by omega)]; first | (rw [zP1_t (by omega)]; omega) | (rw [zP1_f (by omega)]; omega)) (by omega) (by omega) (by omega) (lv_sub hl [4, 5, 6, 7, 8, 9, 10, 11, 12, 13, 14, 1, 15, 16, 17, 18, 0] rfl))
                                  · refine z_iconst hx hb dL_isTold_348 ?_
                                    refine lv_istore (lv' := [(15, .int (zI 1)), (11, .int (zI ((σ 20 ii) + ((σ 8 (σ 15 ii)) + 60)))), (18, .int (zI ((σ 20 ii) + ((σ 8 (σ 15 ii)) + 60)))), (17, .int (zI (σ 8 (σ 15 ii)))), (7, .ref s.heap.size), (0, .ref x0), (1, .int (zI u)), (2, .ref (la 0)), (3, .ref (la 1)), (4, .ref (la 2)), (5, .ref (la 3)), (6, .ref (la 5)), (8, .int (zI vo)), (10, .int (zI k)), (9, .int (zI vc)), (12, .int (zI vm)), (13, .int (zI vn)), (14, .int (zI vw)), (16, .int (zI ii))]) hx hb dL_isTold_349 hl (by decide) rfl (fun ls hl => ?_)
                                    refine lv_aload hx hb dL_isTold_351 (lv_at hl 10 rfl) ?_
                                    refine lv_iload hx hb dL_isTold_353 (lv_at hl 18 rfl) ?_
                                    refine l_ald hx hb hK hTL.2.2.1 3 (by decide) (by show 0 ≤ ii ∧ ii < ((10 : Nat) : Int); omega) dL_isTold_355 ?_
                                    refine z_top (b := pC σ ii) (by rw [hT.c (i := ii) (by omega)]) ?_
                                    refine z_cs (As := [.int (zI (pC σ ii))]) (rest := []) ⟨hx, hb, hml, hown, hts⟩ (c_L_stateOf l D cI cO cL HL (pC σ ii) (pC_r hI hB (i := ii) (by omega))) (va_cwS 1 hts gL_isTold_L_stateOf rfl rfl rfl (by decide +kernel) ⟨(Nat.le_of_ble_eq_true rfl), (Nat.le_of_ble_eq_true rfl)⟩) (zKK_mv D cI cO cL) (fun U _ hv => va_K.moved hv hK) rfl hl.1 rfl (Nat.le_of_ble_eq_true rfl) dL_isTold_356 ⟨by show 106 + 10 * k.toNat ≤ 200; omega, by show 635 + 60 * k.toNat ≤ 1200; omega⟩ (fun r_121 hr_121 => ?_)
                                    rw [hr_121, pC_t hI hB (i := ii) (by omega)]
                                    refine z_iconst hx hb dL_isTold_359 ?_
                                    refine z_icmp_eq (tgt := 366) hx hb dL_isTold_360 (by decide) (by omega) (fun c_122 => ?_) (fun c_122 => ?_)
                                    · refine z_iinc (lv' := [(12, .int (zI (vm + 1))), (15, .int (zI 1)), (11, .int (zI ((σ 20 ii) + ((σ 8 (σ 15 ii)) + 60)))), (18, .int (zI ((σ 20 ii) + ((σ 8 (σ 15 ii)) + 60)))), (17, .int (zI (σ 8 (σ 15 ii)))), (7, .ref s.heap.size), (0, .ref x0), (1, .int (zI u)), (2, .ref (la 0)), (3, .ref (la 1)), (4, .ref (la 2)), (5, .ref (la 3)), (6, .ref (la 5)), (8, .int (zI vo)), (10, .int (zI k)), (9, .int (zI vc)), (13, .int (zI vn)), (14, .int (zI vw)), (16, .int (zI ii))]) hx hb dL_isTold_366 hl (k := 15) rfl (by decide) rfl (fun ls hl => ?_)
                                      refine lv_iload hx hb dL_isTold_369 (lv_at hl 16 rfl) ?_
                                      refine lv_iload hx hb dL_isTold_371 (lv_at hl 4 rfl) ?_
                                      refine z_iadd hx hb dL_isTold_373 ?_
                                      refine lv_istore (lv' := [(13, .int (zI (vn + (σ 8 (σ 15 ii))))), (12, .int (zI (vm + 1))), (15, .int (zI 1)), (11, .int (zI ((σ 20 ii) + ((σ 8 (σ 15 ii)) + 60)))), (18, .int (zI ((σ 20 ii) + ((σ 8 (σ 15 ii)) + 60)))), (17, .int (zI (σ 8 (σ 15 ii)))), (7, .ref s.heap.size), (0, .ref x0), (1, .int (zI u)), (2, .ref (la 0)), (3, .ref (la 1)), (4, .ref (la 2)), (5, .ref (la 3)), (6, .ref (la 5)), (8, .int (zI vo)), (10, .int (zI k)), (9, .int (zI vc)), (14, .int (zI vw)), (16, .int (zI ii))]) hx hb dL_isTold_374 hl (by decide) rfl (fun ls hl => ?_)
                                      refine lv_iload hx hb dL_isTold_376 (lv_at hl 17 rfl) ?_
                                      refine lv_iload hx hb dL_isTold_378 (lv_at hl 5 rfl) ?_
                                      refine lv_aload hx hb dL_isTold_380 (lv_at hl 11 rfl) ?_
                                      refine lv_iload hx hb dL_isTold_382 (lv_at hl 15 rfl) ?_
                                      refine l_ald hx hb hK hTL.2.2.1 2 (by decide) (by show 0 ≤ k ∧ k < ((4 : Nat) : Int); omega) dL_isTold_384 ?_
                                      refine z_top (b := σ 13 k) (by rw [hT.p (i := k) (by omega)]) ?_
                                      refine z_imul hx hb dL_isTold_385 ?_
                                      refine z_iadd hx hb dL_isTold_386 ?_
                                      refine lv_istore (lv' := [(14, .int (zI (vw + ((σ 8 (σ 15 ii)) * (σ 13 k))))), (13, .int (zI (vn + (σ 8 (σ 15 ii))))), (12, .int (zI (vm + 1))), (15, .int (zI 1)), (11, .int (zI ((σ 20 ii) + ((σ 8 (σ 15 ii)) + 60)))), (18, .int (zI ((σ 20 ii) + ((σ 8 (σ 15 ii)) + 60)))), (17, .int (zI (σ 8 (σ 15 ii)))), (7, .ref s.heap.size), (0, .ref x0), (1, .int (zI u)), (2, .ref (la 0)), (3, .ref (la 1)), (4, .ref (la 2)), (5, .ref (la 3)), (6, .ref (la 5)), (8, .int (zI vo)), (10, .int (zI k)), (9, .int (zI vc)), (16, .int (zI ii))]) hx hb dL_isTold_387 hl (by decide) rfl (fun ls hl => ?_)
                                      refine lv_iload hx hb dL_isTold_389 (lv_at hl 17 rfl) ?_
                                      refine z_bipush hx hb dL_isTold_391 (by decide +kernel) ?_
                                      refine lv_aload_n hx hb dL_isTold_393 rfl (lv_at hl 11 rfl) ?_
                                      refine lv_aload hx hb dL_isTold_394 (lv_at hl 13 rfl) ?_
                                      refine lv_iload hx hb dL_isTold_396 (lv_at hl 18 rfl) ?_
                                      refine l_ald hx hb hK hTL.2.2.1 3 (by decide) (by show 0 ≤ ii ∧ ii < ((10 : Nat) : Int); omega) dL_isTold_398 ?_
                                      refine z_top (b := pC σ ii) (by rw [hT.c (i := ii) (by omega)]) ?_
                                      refine z_cs (As := [.int (zI (pC σ ii))]) (rest := [.ref (la 1), .int (zI 100), .int (zI vc)]) ⟨hx, hb, hml, hown, hts⟩ (c_L_shipOf l D cI cO cL HL (pC σ ii) (pC_r hI hB (i := ii) (by omega))) (va_cwS 1 hts gL_isTold_L_shipOf rfl rfl rfl (by decide +kernel) ⟨(Nat.le_of_ble_eq_true rfl), (Nat.le_of_ble_eq_true rfl)⟩) (zKK_mv D cI cO cL) (fun U _ hv => va_K.moved hv hK) rfl hl.1 rfl (Nat.le_of_ble_eq_true rfl) dL_isTold_399 ⟨by show 106 + 10 * k.toNat ≤ 200; omega, by show 635 + 60 * k.toNat ≤ 1200; omega⟩ (fun r_123 hr_123 => ?_)
                                      rw [hr_123, pC_s hI hB (i := ii) (by omega)]
                                      refine l_ald hx hb hK hTL.2.2.1 1 (by decide) (by show 0 ≤ (σ 15 ii) ∧ (σ 15 ii) < ((6 : Nat) : Int); omega) dL_isTold_402 ?_
                                      refine z_top (b := pS σ (σ 15 ii)) (by rw [hT.s (i := (σ 15 ii)) (by omega)]) ?_
                                      refine z_cs (As := [.int (zI (pS σ (σ 15 ii)))]) (rest := [.int (zI 100), .int (zI vc)]) ⟨hx, hb, hml, hown, hts⟩ (c_L_needs l D cI cO cL HL (pS σ (σ 15 ii)) (pS_r hI (i := (σ 15 ii)) (by omega))) (va_cwS 1 hts gL_isTold_L_needs rfl rfl rfl (by decide +kernel) ⟨(Nat.le_of_ble_eq_true rfl), (Nat.le_of_ble_eq_true rfl)⟩) (zKK_mv D cI cO cL) (fun U _ hv => va_K.moved hv hK) rfl hl.1 rfl (Nat.le_of_ble_eq_true rfl) dL_isTold_403 ⟨by show 106 + 10 * k.toNat ≤ 200; omega, by show 635 + 60 * k.toNat ≤ 1200; omega⟩ (fun r_124 hr_124 => ?_)
                                      rw [hr_124, pS_n hI (i := (σ 15 ii)) (by omega)]
                                      refine z_imul hx hb dL_isTold_406 ?_
                                      refine z_iadd hx hb dL_isTold_407 ?_
                                      refine lv_istore (lv' := [(9, .int (zI (vc + (100 * (σ 9 (σ 15 ii)))))), (14, .int (zI (vw + ((σ 8 (σ 15 ii)) * (σ 13 k))))), (13, .int (zI (vn + (σ 8 (σ 15 ii))))), (12, .int (zI (vm + 1))), (15, .int (zI 1)), (11, .int (zI ((σ 20 ii) + ((σ 8 (σ 15 ii)) + 60)))), (18, .int (zI ((σ 20 ii) + ((σ 8 (σ 15 ii)) + 60)))), (17, .int (zI (σ 8 (σ 15 ii)))), (7, .ref s.heap.size), (0, .ref x0), (1, .int (zI u)), (2, .ref (la 0)), (3, .ref (la 1)), (4, .ref (la 2)), (5, .ref (la 3)), (6, .ref (la 5)), (8, .int (zI vo)), (10, .int (zI k)), (16, .int (zI ii))]) hx hb dL_isTold_408 hl (by decide) rfl (fun ls hl => ?_)
                                      refine z_iinc (lv' := [(16, .int (zI (ii + 1))), (9, .int (zI (vc + (100 * (σ 9 (σ 15 ii)))))), (14, .int (zI (vw + ((σ 8 (σ 15 ii)) * (σ 13 k))))), (13, .int (zI (vn + (σ 8 (σ 15 ii))))), (12, .int (zI (vm + 1))), (15, .int (zI 1)), (11, .int (zI ((σ 20 ii) + ((σ 8 (σ 15 ii)) + 60)))), (18, .int (zI ((σ 20 ii) + ((σ 8 (σ 15 ii)) + 60)))), (17, .int (zI (σ 8 (σ 15 ii)))), (7, .ref s.heap.size), (0, .ref x0), (1, .int (zI u)), (2, .ref (la 0)), (3, .ref (la 1)), (4, .ref (la 2)), (5, .ref (la 3)), (6, .ref (la 5)), (8, .int (zI vo)), (10, .int (zI k))]) hx hb dL_isTold_410 hl (k := 18) rfl (by decide) rfl (fun ls hl => ?_)
                                      refine lv_goto (tgt := 242) hx hb dL_isTold_413 (by decide) ?_
                                      exact wo_hL4 _ _ _ _ _ (ih_hL4 (vc + (100 * (σ 9 (σ 15 ii)))) ((σ 20 ii) + ((σ 8 (σ 15 ii)) + 60)) (vm + 1) (vn + (σ 8 (σ 15 ii))) (vw + ((σ 8 (σ 15 ii)) * (σ 13 k))) 1 (ii + 1) ls (by rw [zRsd_i _ _ (by omega), ← hvr]; simp only [zOv, zTk, zRest]; (repeat' split) <;> omega) (by rw [zSum_i _ (by omega), ← hvm]; first | (rw [zP1_t (by omega)]) | (rw [zP1_f (by omega)]; omega)) (by rw [zSum_i _ (by omega), ← hvn]; first | (rw [zP1_t (by omega)]) | (rw [zP1_f (by omega)]; omega)) (by rw [zSum_i _ (by omega), ← hvw]; first | (rw [zP1_t (by omega)]) | (rw [zP1_f (by omega)]; omega)) (by rw [zSum_i _ (by omega)]; first | (rw [zP1_t (by omega)]; omega) | (rw [zP1_f (by omega)]; omega)) (by rw [zSum_i _ (by omega)]; first | (rw [zP1_t (by omega)]; omega) | (rw [zP1_f (by omega)]; omega)) (by omega) (by omega) (by omega) (lv_sub hl [9, 10, 11, 12, 13, 14, 15, 16, 17, 18, 1, 6, 4, 3, 2, 5, 0] rfl))
                                    · refine lv_goto (tgt := 410) hx hb dL_isTold_363 (by decide) ?_
                                      refine z_iinc (lv' := [(16, .int (zI (ii + 1))), (15, .int (zI 1)), (11, .int (zI ((σ 20 ii) + ((σ 8 (σ 15 ii)) + 60)))), (18, .int (zI ((σ 20 ii) + ((σ 8 (σ 15 ii)) + 60)))), (17, .int (zI (σ 8 (σ 15 ii)))), (7, .ref s.heap.size), (0, .ref x0), (1, .int (zI u)), (2, .ref (la 0)), (3, .ref (la 1)), (4, .ref (la 2)), (5, .ref (la 3)), (6, .ref (la 5)), (8, .int (zI vo)), (10, .int (zI k)), (9, .int (zI vc)), (12, .int (zI vm)), (13, .int (zI vn)), (14, .int (zI vw))]) hx hb dL_isTold_410 hl (k := 18) rfl (by decide) rfl (fun ls hl => ?_)
                                      refine lv_goto (tgt := 242) hx hb dL_isTold_413 (by decide) ?_
                                      exact wo_hL4 _ _ _ _ _ (ih_hL4 vc ((σ 20 ii) + ((σ 8 (σ 15 ii)) + 60)) vm vn vw 1 (ii + 1) ls (by rw [zRsd_i _ _ (by omega), ← hvr]; simp only [zOv, zTk, zRest]; (repeat' split) <;> omega) (by rw [zSum_i _ (by omega), ← hvm]; first | (rw [zP1_t (by omega)]) | (rw [zP1_f (by omega)]; omega)) (by rw [zSum_i _ (by omega), ← hvn]; first | (rw [zP1_t (by omega)]) | (rw [zP1_f (by omega)]; omega)) (by rw [zSum_i _ (by omega), ← hvw]; first | (rw [zP1_t (by omega)]) | (rw [zP1_f (by omega)]; omega)) (by rw [zSum_i _ (by omega)]; first | (rw [zP1_t (by omega)]; omega) | (rw [zP1_f (by omega)]; omega)) (by rw [zSum_i _ (by omega)]; first | (rw [zP1_t (by omega)]; omega) | (rw [zP1_f (by omega)]; omega)) (by omega) (by omega) (by omega) (lv_sub hl [5, 6, 7, 8, 9, 10, 11, 12, 13, 14, 15, 2, 16, 17, 18, 1, 0] rfl))
                            · refine lv_goto (tgt := 410) hx hb dL_isTold_275 (by decide) ?_
                              refine z_iinc (lv' := [(16, .int (zI (ii + 1))), (7, .ref s.heap.size), (0, .ref x0), (1, .int (zI u)), (2, .ref (la 0)), (3, .ref (la 1)), (4, .ref (la 2)), (5, .ref (la 3)), (6, .ref (la 5)), (8, .int (zI vo)), (10, .int (zI k)), (9, .int (zI vc)), (11, .int (zI vr)), (12, .int (zI vm)), (13, .int (zI vn)), (14, .int (zI vw)), (15, .int (zI va))]) hx hb dL_isTold_410 hl (k := 16) rfl (by decide) rfl (fun ls hl => ?_)
                              refine lv_goto (tgt := 242) hx hb dL_isTold_413 (by decide) ?_
                              exact wo_hL4 _ _ _ _ _ (ih_hL4 vc vr vm vn vw va (ii + 1) ls (by rw [zRsd_i _ _ (by omega), ← hvr]; simp only [zOv, zTk, zRest]; (repeat' split) <;> omega) (by rw [zSum_i _ (by omega), ← hvm]; first | (rw [zP1_t (by omega)]) | (rw [zP1_f (by omega)]; omega)) (by rw [zSum_i _ (by omega), ← hvn]; first | (rw [zP1_t (by omega)]) | (rw [zP1_f (by omega)]; omega)) (by rw [zSum_i _ (by omega), ← hvw]; first | (rw [zP1_t (by omega)]) | (rw [zP1_f (by omega)]; omega)) (by rw [zSum_i _ (by omega)]; first | (rw [zP1_t (by omega)]; omega) | (rw [zP1_f (by omega)]; omega)) (by rw [zSum_i _ (by omega)]; first | (rw [zP1_t (by omega)]; omega) | (rw [zP1_f (by omega)]; omega)) (by omega) (by omega) (by omega) (lv_sub hl [1, 2, 3, 4, 5, 6, 7, 8, 9, 10, 11, 12, 13, 14, 15, 16, 0] rfl))
                    exact wo_hL4 _ _ _ _ _ (hL4 _ vb (σ 1 0) 0 0 0 0 0 ls (by rfl) (by rfl) (by rfl) (by rfl) (by exact Or.inr ⟨rfl, Int.le_refl _⟩) (by show _ = _ + (0 : Int); omega) (by omega) (by omega) (Nat.lt_succ_self _) (lv_sub hl [6, 7, 8, 9, 10, 11, 12, 13, 14, 16, 15, 5, 4, 3, 2, 1, 0] rfl))
              refine W.widen (k := 106 + 10 * (0 : Int).toNat) (n := 635 + 60 * (0 : Int).toNat) (by omega) (by omega) ?_
              exact wo_hL3 _ _ _ _ _ (hL3 _ 0 0 ls gL _ _ (by rfl) (by omega) hTL (Nat.lt_succ_self _) (lv_sub hl [2, 3, 4, 5, 6, 7, 8, 9, 10, 1, 0] rfl))
            · refine lv_aload_n hx hb dL_isTold_191 rfl (lv_at hl 2 rfl) ?_
              refine lv_iload hx hb dL_isTold_192 (lv_at hl 10 rfl) ?_
              refine t_call (mc := 1) (ms := 6) (As := [.ref x0, .int (zI j)]) (rest := []) ⟨hx, hb, hml, hown, hts⟩ hG hAl hTL (c_L_count l hfl D cI cO cL _ eE mi sa gL σ HL hTL.2.1 x0 hTL.1 hZ.1 j (by omega)) (vx_cwSW 2 hts gL_isTold_L_count rfl rfl rfl (by decide +kernel) ⟨(Nat.le_of_ble_eq_true rfl), (Nat.le_of_ble_eq_true rfl)⟩) ⟨rfl, rfl⟩ rfl hl.1 rfl (Nat.le_of_ble_eq_true rfl) dL_isTold_194 ⟨by show 101 + 1 * j.toNat + 1 ≤ 200; omega, by show 605 + 6 * j.toNat + 6 ≤ 1200; omega⟩ (fun z_125 g125 H125 locs125 aw125 hTS125 => ?_)
              obtain rfl := aw125.1 (by unfold zth_count; rw [if_pos (by omega)])
              refine z_top (b := zCnt σ (σ 14 0) j) (by unfold zan_count; rw [if_neg (by omega), if_neg (by omega), if_neg (by omega)]; rfl) ?_
              refine lv_aload hx hb dL_isTold_197 (lv_at hl 1 rfl) ?_
              refine lv_iload hx hb dL_isTold_199 (lv_at hl 10 rfl) ?_
              refine t_ald hx hb hK hTS125 (by omega) dL_isTold_201 ?_
              refine z_top (b := zCnt σ (σ 14 0) j) rfl ?_
              refine z_same_eq (tgt := 207) hx hb dL_isTold_202 (by decide) ?_
              refine z_iinc (lv' := [(10, .int (zI (j + 1))), (9, .int (zI 0)), (7, .ref s.heap.size), (0, .ref x0), (1, .int (zI u)), (2, .ref (la 0)), (3, .ref (la 1)), (4, .ref (la 2)), (5, .ref (la 3)), (6, .ref (la 5)), (8, .int (zI vo))]) hx hb dL_isTold_207 hl (k := 10) rfl (by decide) rfl (fun ls hl => ?_)
              refine lv_goto (tgt := 185) hx hb dL_isTold_210 (by decide) ?_
              refine W.widen (k := 101 + 1 * (j + 1).toNat) (n := 605 + 6 * (j + 1).toNat) (by omega) (by omega) ?_
              exact wo_hL2 _ _ _ _ _ (ih_hL2 (j + 1) ls g125 _ _ (by omega) hTS125 (by omega) (lv_sub hl [1, 2, 3, 4, 5, 6, 7, 8, 9, 10, 0] rfl))
        refine W.widen (k := 101 + 1 * (0 : Int).toNat) (n := 605 + 6 * (0 : Int).toNat) (by omega) (by omega) ?_
        exact wo_hL2 _ _ _ _ _ (hL2 _ 0 ls gL _ _ (by omega) hTm (Nat.lt_succ_self _) (lv_sub hl [1, 2, 3, 4, 5, 6, 7, 8, 9, 10, 0] rfl))
      · have fi := hI.c (i := i) (by omega)
        have gi := hI.s (i := σ 15 i) (by omega)
        refine lv_aload hx hb dL_isTold_22 (lv_at hl 7 rfl) ?_
        refine lv_iload hx hb dL_isTold_24 (lv_at hl 10 rfl) ?_
        refine l_ald hx hb hK hTL.2.2.1 3 (by decide) (by show 0 ≤ i ∧ i < ((10 : Nat) : Int); omega) dL_isTold_26 ?_
        refine z_top (b := pC σ i) (by rw [hT.c (i := i) (by omega)]) ?_
        refine z_iconst hx hb dL_isTold_27 ?_
        refine l_shr hx hb 3 (by omega) dL_isTold_28 (pC_r hI hB (i := i) (by omega)) ?_
        refine z_top (b := pC σ i / 8) rfl ?_
        refine z_bipush hx hb dL_isTold_29 (by decide +kernel) ?_
        refine l_and hx hb 3 (by decide +kernel) dL_isTold_31 (by have := pC_r hI hB (i := i) (by omega); omega) ?_
        refine z_top (b := σ 17 i) (by exact pC_i hI hB (i := i) (by omega)) ?_
        refine lv_istore (lv' := [(11, .int (zI (σ 17 i))), (9, .int (zI 0)), (7, .ref s.heap.size), (0, .ref x0), (1, .int (zI u)), (2, .ref (la 0)), (3, .ref (la 1)), (4, .ref (la 2)), (5, .ref (la 3)), (6, .ref (la 5)), (8, .int (zI vo)), (10, .int (zI i))]) hx hb dL_isTold_32 hl (by decide) rfl (fun ls hl => ?_)
        refine lv_aload_n hx hb dL_isTold_34 rfl (lv_at hl 3 rfl) ?_
        refine lv_iload hx hb dL_isTold_35 (lv_at hl 11 rfl) ?_
        refine z_iconst hx hb dL_isTold_37 ?_
        refine t_call (mc := 2) (ms := 12) (As := [.ref x0, .int (zI i), .int (zI 0)]) (rest := []) ⟨hx, hb, hml, hown, hts⟩ hG hAl hTL (c_L_ofConference l hfl D cI cO cL _ eE mi sa gL σ HL hTL.2.1 x0 hTL.1 hZ.1 i 0 ⟨(by omega), (by omega)⟩) (vx_cwSW 3 hts gL_isTold_L_ofConference rfl rfl rfl (by decide +kernel) ⟨(Nat.le_of_ble_eq_true rfl), (Nat.le_of_ble_eq_true rfl)⟩) ⟨rfl, rfl⟩ rfl hl.1 rfl (Nat.le_of_ble_eq_true rfl) dL_isTold_38 ⟨by show 1 + 10 * i.toNat + 2 ≤ 200; omega, by show 5 + 60 * i.toNat + 12 ≤ 1200; omega⟩ (fun z_127 g127 H127 locs127 aw127 hTS127 => ?_)
        obtain rfl := aw127.1 (by unfold zth_ofC; rw [if_pos (by omega)])
        refine z_top (b := σ 19 i) (by rfl) ?_
        refine lv_aload hx hb dL_isTold_41 (lv_at hl 8 rfl) ?_
        refine lv_iload hx hb dL_isTold_43 (lv_at hl 11 rfl) ?_
        refine l_ald hx hb hK hTS127.2.2.1 3 (by decide) (by show 0 ≤ i ∧ i < ((10 : Nat) : Int); omega) dL_isTold_45 ?_
        refine z_top (b := pC σ i) (by rw [hT.c (i := i) (by omega)]) ?_
        refine z_cs (As := [.int (zI (pC σ i))]) (rest := [.int (zI (σ 19 i))]) ⟨hx, hb, hml, hown, hts⟩ (c_L_stateOf l D cI cO cL H127 (pC σ i) (pC_r hI hB (i := i) (by omega))) (va_cwS 1 hts gL_isTold_L_stateOf rfl rfl rfl (by decide +kernel) ⟨(Nat.le_of_ble_eq_true rfl), (Nat.le_of_ble_eq_true rfl)⟩) (zKK_mv D cI cO cL) (fun U _ hv => va_K.moved hv hK) rfl hl.1 rfl (Nat.le_of_ble_eq_true rfl) dL_isTold_46 ⟨by show 1 + 10 * i.toNat + 2 ≤ 200; omega, by show 5 + 60 * i.toNat + 12 ≤ 1200; omega⟩ (fun r_128 hr_128 => ?_)
        rw [hr_128, pC_t hI hB (i := i) (by omega)]
        refine z_same_ne (tgt := 129) hx hb dL_isTold_49 (by decide) ?_
        refine lv_aload_n hx hb dL_isTold_52 rfl (lv_at hl 3 rfl) ?_
        refine lv_iload hx hb dL_isTold_53 (lv_at hl 11 rfl) ?_
        refine z_iconst hx hb dL_isTold_55 ?_
        refine t_call (mc := 2) (ms := 12) (As := [.ref x0, .int (zI i), .int (zI 1)]) (rest := []) ⟨hx, hb, hml, hown, hts⟩ hG hAl hTS127 (c_L_ofConference l hfl D cI cO cL _ eE mi sa g127 σ H127 hTS127.2.1 x0 hTS127.1 hZ.1 i 1 ⟨(by omega), (by omega)⟩) (vx_cwSW 3 hts gL_isTold_L_ofConference rfl rfl rfl (by decide +kernel) ⟨(Nat.le_of_ble_eq_true rfl), (Nat.le_of_ble_eq_true rfl)⟩) ⟨rfl, rfl⟩ rfl hl.1 rfl (Nat.le_of_ble_eq_true rfl) dL_isTold_56 ⟨by show 1 + 10 * i.toNat + 2 + 2 ≤ 200; omega, by show 5 + 60 * i.toNat + 12 + 12 ≤ 1200; omega⟩ (fun z_130 g130 H130 locs130 aw130 hTS130 => ?_)
        obtain rfl := aw130.1 (by unfold zth_ofC; rw [if_pos (by omega)])
        refine z_top (b := σ 20 i) (by rfl) ?_
        refine lv_aload hx hb dL_isTold_59 (lv_at hl 9 rfl) ?_
        refine lv_iload hx hb dL_isTold_61 (lv_at hl 11 rfl) ?_
        refine l_ald hx hb hK hTS130.2.2.1 5 (by decide) (by show 0 ≤ i ∧ i < ((10 : Nat) : Int); omega) dL_isTold_63 ?_
        refine z_top (b := σ 20 i) (by rw [hT.t (i := i) (by omega)]) ?_
        refine z_same_ne (tgt := 129) hx hb dL_isTold_64 (by decide) ?_
        refine lv_aload_n hx hb dL_isTold_67 rfl (lv_at hl 3 rfl) ?_
        refine lv_iload hx hb dL_isTold_68 (lv_at hl 11 rfl) ?_
        refine z_iconst hx hb dL_isTold_70 ?_
        refine t_call (mc := 2) (ms := 12) (As := [.ref x0, .int (zI i), .int (zI 2)]) (rest := []) ⟨hx, hb, hml, hown, hts⟩ hG hAl hTS130 (c_L_ofConference l hfl D cI cO cL _ eE mi sa g130 σ H130 hTS130.2.1 x0 hTS130.1 hZ.1 i 2 ⟨(by omega), (by omega)⟩) (vx_cwSW 3 hts gL_isTold_L_ofConference rfl rfl rfl (by decide +kernel) ⟨(Nat.le_of_ble_eq_true rfl), (Nat.le_of_ble_eq_true rfl)⟩) ⟨rfl, rfl⟩ rfl hl.1 rfl (Nat.le_of_ble_eq_true rfl) dL_isTold_71 ⟨by show 1 + 10 * i.toNat + 2 + 2 + 2 ≤ 200; omega, by show 5 + 60 * i.toNat + 12 + 12 + 12 ≤ 1200; omega⟩ (fun z_132 g132 H132 locs132 aw132 hTS132 => ?_)
        obtain rfl := aw132.1 (by unfold zth_ofC; rw [if_pos (by omega)])
        refine z_top (b := σ 18 i) (by rfl) ?_
        refine lv_aload hx hb dL_isTold_74 (lv_at hl 8 rfl) ?_
        refine lv_iload hx hb dL_isTold_76 (lv_at hl 11 rfl) ?_
        refine l_ald hx hb hK hTS132.2.2.1 3 (by decide) (by show 0 ≤ i ∧ i < ((10 : Nat) : Int); omega) dL_isTold_78 ?_
        refine z_top (b := pC σ i) (by rw [hT.c (i := i) (by omega)]) ?_
        refine z_cs (As := [.int (zI (pC σ i))]) (rest := [.int (zI (σ 18 i))]) ⟨hx, hb, hml, hown, hts⟩ (c_L_pilotOf l D cI cO cL H132 (pC σ i) (pC_r hI hB (i := i) (by omega))) (va_cwS 1 hts gL_isTold_L_pilotOf rfl rfl rfl (by decide +kernel) ⟨(Nat.le_of_ble_eq_true rfl), (Nat.le_of_ble_eq_true rfl)⟩) (zKK_mv D cI cO cL) (fun U _ hv => va_K.moved hv hK) rfl hl.1 rfl (Nat.le_of_ble_eq_true rfl) dL_isTold_79 ⟨by show 1 + 10 * i.toNat + 2 + 2 + 2 ≤ 200; omega, by show 5 + 60 * i.toNat + 12 + 12 + 12 ≤ 1200; omega⟩ (fun r_133 hr_133 => ?_)
        rw [hr_133, pC_p hI hB (i := i) (by omega)]
        refine z_same_ne (tgt := 129) hx hb dL_isTold_82 (by decide) ?_
        refine lv_aload_n hx hb dL_isTold_85 rfl (lv_at hl 3 rfl) ?_
        refine lv_iload hx hb dL_isTold_86 (lv_at hl 11 rfl) ?_
        refine z_iconst hx hb dL_isTold_88 ?_
        refine t_call (mc := 2) (ms := 12) (As := [.ref x0, .int (zI i), .int (zI 3)]) (rest := []) ⟨hx, hb, hml, hown, hts⟩ hG hAl hTS132 (c_L_ofConference l hfl D cI cO cL _ eE mi sa g132 σ H132 hTS132.2.1 x0 hTS132.1 hZ.1 i 3 ⟨(by omega), (by omega)⟩) (vx_cwSW 3 hts gL_isTold_L_ofConference rfl rfl rfl (by decide +kernel) ⟨(Nat.le_of_ble_eq_true rfl), (Nat.le_of_ble_eq_true rfl)⟩) ⟨rfl, rfl⟩ rfl hl.1 rfl (Nat.le_of_ble_eq_true rfl) dL_isTold_89 ⟨by show 1 + 10 * i.toNat + 2 + 2 + 2 + 2 ≤ 200; omega, by show 5 + 60 * i.toNat + 12 + 12 + 12 + 12 ≤ 1200; omega⟩ (fun z_135 g135 H135 locs135 aw135 hTS135 => ?_)
        obtain rfl := aw135.1 (by unfold zth_ofC; rw [if_pos (by omega)])
        refine z_top (b := σ 17 i % 2 + σ 17 i / 2 % 2 + σ 17 i / 4) (by show zMany (σ 17 i) = _; unfold zMany; omega) ?_
        refine lv_iload hx hb dL_isTold_92 (lv_at hl 0 rfl) ?_
        refine z_iconst hx hb dL_isTold_94 ?_
        refine l_and hx hb 1 (by decide +kernel) dL_isTold_95 (by omega) ?_
        refine z_top (b := (σ 17 i) % 2) rfl ?_
        refine lv_iload hx hb dL_isTold_96 (lv_at hl 0 rfl) ?_
        refine z_iconst hx hb dL_isTold_98 ?_
        refine l_shr hx hb 1 (by omega) dL_isTold_99 (by omega) ?_
        refine z_top (b := (σ 17 i) / 2) rfl ?_
        refine z_iconst hx hb dL_isTold_100 ?_
        refine l_and hx hb 1 (by decide +kernel) dL_isTold_101 (by omega) ?_
        refine z_top (b := ((σ 17 i) / 2) % 2) rfl ?_
        refine z_iadd hx hb dL_isTold_102 ?_
        refine lv_iload hx hb dL_isTold_103 (lv_at hl 0 rfl) ?_
        refine z_iconst hx hb dL_isTold_105 ?_
        refine l_shr hx hb 2 (by omega) dL_isTold_106 (by omega) ?_
        refine z_top (b := (σ 17 i) / 4) rfl ?_
        refine z_iadd hx hb dL_isTold_107 ?_
        refine z_same_ne (tgt := 129) hx hb dL_isTold_108 (by decide) ?_
        refine lv_aload_n hx hb dL_isTold_111 rfl (lv_at hl 3 rfl) ?_
        refine lv_iload hx hb dL_isTold_112 (lv_at hl 11 rfl) ?_
        refine z_iconst hx hb dL_isTold_114 ?_
        refine t_call (mc := 2) (ms := 12) (As := [.ref x0, .int (zI i), .int (zI 4)]) (rest := []) ⟨hx, hb, hml, hown, hts⟩ hG hAl hTS135 (c_L_ofConference l hfl D cI cO cL _ eE mi sa g135 σ H135 hTS135.2.1 x0 hTS135.1 hZ.1 i 4 ⟨(by omega), (by omega)⟩) (vx_cwSW 3 hts gL_isTold_L_ofConference rfl rfl rfl (by decide +kernel) ⟨(Nat.le_of_ble_eq_true rfl), (Nat.le_of_ble_eq_true rfl)⟩) ⟨rfl, rfl⟩ rfl hl.1 rfl (Nat.le_of_ble_eq_true rfl) dL_isTold_115 ⟨by show 1 + 10 * i.toNat + 2 + 2 + 2 + 2 + 2 ≤ 200; omega, by show 5 + 60 * i.toNat + 12 + 12 + 12 + 12 + 12 ≤ 1200; omega⟩ (fun z_137 g137 H137 locs137 aw137 hTS137 => ?_)
        obtain rfl := aw137.1 (by unfold zth_ofC; rw [if_pos (by omega)])
        refine z_top (b := σ 15 i) (by rfl) ?_
        refine lv_aload hx hb dL_isTold_118 (lv_at hl 8 rfl) ?_
        refine lv_iload hx hb dL_isTold_120 (lv_at hl 11 rfl) ?_
        refine l_ald hx hb hK hTS137.2.2.1 3 (by decide) (by show 0 ≤ i ∧ i < ((10 : Nat) : Int); omega) dL_isTold_122 ?_
        refine z_top (b := pC σ i) (by rw [hT.c (i := i) (by omega)]) ?_
        refine z_cs (As := [.int (zI (pC σ i))]) (rest := [.int (zI (σ 15 i))]) ⟨hx, hb, hml, hown, hts⟩ (c_L_shipOf l D cI cO cL H137 (pC σ i) (pC_r hI hB (i := i) (by omega))) (va_cwS 1 hts gL_isTold_L_shipOf rfl rfl rfl (by decide +kernel) ⟨(Nat.le_of_ble_eq_true rfl), (Nat.le_of_ble_eq_true rfl)⟩) (zKK_mv D cI cO cL) (fun U _ hv => va_K.moved hv hK) rfl hl.1 rfl (Nat.le_of_ble_eq_true rfl) dL_isTold_123 ⟨by show 1 + 10 * i.toNat + 2 + 2 + 2 + 2 + 2 ≤ 200; omega, by show 5 + 60 * i.toNat + 12 + 12 + 12 + 12 + 12 ≤ 1200; omega⟩ (fun r_138 hr_138 => ?_)
        rw [hr_138, pC_s hI hB (i := i) (by omega)]
        refine z_same_eq (tgt := 131) hx hb dL_isTold_126 (by decide) ?_
        refine lv_aload hx hb dL_isTold_131 (lv_at hl 2 rfl) ?_
        refine lv_aload hx hb dL_isTold_133 (lv_at hl 8 rfl) ?_
        refine lv_iload hx hb dL_isTold_135 (lv_at hl 11 rfl) ?_
        refine l_ald hx hb hK hTS137.2.2.1 3 (by decide) (by show 0 ≤ i ∧ i < ((10 : Nat) : Int); omega) dL_isTold_137 ?_
        refine z_top (b := pC σ i) (by rw [hT.c (i := i) (by omega)]) ?_
        refine z_cs (As := [.int (zI (pC σ i))]) (rest := [.ref s.heap.size]) ⟨hx, hb, hml, hown, hts⟩ (c_L_stateOf l D cI cO cL H137 (pC σ i) (pC_r hI hB (i := i) (by omega))) (va_cwS 1 hts gL_isTold_L_stateOf rfl rfl rfl (by decide +kernel) ⟨(Nat.le_of_ble_eq_true rfl), (Nat.le_of_ble_eq_true rfl)⟩) (zKK_mv D cI cO cL) (fun U _ hv => va_K.moved hv hK) rfl hl.1 rfl (Nat.le_of_ble_eq_true rfl) dL_isTold_138 ⟨by show 1 + 10 * i.toNat + 2 + 2 + 2 + 2 + 2 ≤ 200; omega, by show 5 + 60 * i.toNat + 12 + 12 + 12 + 12 + 12 ≤ 1200; omega⟩ (fun r_140 hr_140 => ?_)
        rw [hr_140, pC_t hI hB (i := i) (by omega)]
        refine lv_dup2_11 hx hb dL_isTold_141 rfl rfl ?_
        refine t_ald hx hb hK hTS137 (by omega) dL_isTold_142 ?_
        refine z_top (b := zCnt σ i (σ 19 i)) rfl ?_
        refine z_iconst hx hb dL_isTold_143 ?_
        refine z_iadd hx hb dL_isTold_144 ?_
        refine t_ast hx hb hK hTS137 (hG.1.2.2.2.2.1 _ (Nat.le_refl _)) hAl (fun j => zCnt σ (i + 1) j) (fun j => zCnt_s σ (by omega) j) (by omega) dL_isTold_145 (fun HN_141 locsN_141 hTSN_141 => ?_)
        refine lv_aload hx hb dL_isTold_146 (lv_at hl 8 rfl) ?_
        refine lv_iload hx hb dL_isTold_148 (lv_at hl 11 rfl) ?_
        refine l_ald hx hb hK hTSN_141.2.2.1 3 (by decide) (by show 0 ≤ i ∧ i < ((10 : Nat) : Int); omega) dL_isTold_150 ?_
        refine z_top (b := pC σ i) (by rw [hT.c (i := i) (by omega)]) ?_
        refine z_cs (As := [.int (zI (pC σ i))]) (rest := []) ⟨hx, hb, hml, hown, hts⟩ (c_L_stateOf l D cI cO cL HN_141 (pC σ i) (pC_r hI hB (i := i) (by omega))) (va_cwS 1 hts gL_isTold_L_stateOf rfl rfl rfl (by decide +kernel) ⟨(Nat.le_of_ble_eq_true rfl), (Nat.le_of_ble_eq_true rfl)⟩) (zKK_mv D cI cO cL) (fun U _ hv => va_K.moved hv hK) rfl hl.1 rfl (Nat.le_of_ble_eq_true rfl) dL_isTold_151 ⟨by show 1 + 10 * i.toNat + 2 + 2 + 2 + 2 + 2 ≤ 200; omega, by show 5 + 60 * i.toNat + 12 + 12 + 12 + 12 + 12 ≤ 1200; omega⟩ (fun r_142 hr_142 => ?_)
        rw [hr_142, pC_t hI hB (i := i) (by omega)]
        refine z_iconst hx hb dL_isTold_154 ?_
        refine z_icmp_ne (tgt := 176) hx hb dL_isTold_155 (by decide) (by omega) (fun c_143 => ?_) (fun c_143 => ?_)
        · refine z_iinc (lv' := [(10, .int (zI (i + 1))), (11, .int (zI (σ 17 i))), (9, .int (zI 0)), (7, .ref s.heap.size), (0, .ref x0), (1, .int (zI u)), (2, .ref (la 0)), (3, .ref (la 1)), (4, .ref (la 2)), (5, .ref (la 3)), (6, .ref (la 5)), (8, .int (zI vo))]) hx hb dL_isTold_176 hl (k := 11) rfl (by decide) rfl (fun ls hl => ?_)
          refine lv_goto (tgt := 14) hx hb dL_isTold_179 (by decide) ?_
          refine W.widen (k := 1 + 10 * (i + 1).toNat) (n := 5 + 60 * (i + 1).toNat) (by omega) (by omega) ?_
          exact wo_hL _ _ _ _ _ (ih_hL vo (i + 1) ls g137 _ _ (by rw [zSum_i _ (by omega), ← hvo]; first | rw [if_pos (by omega)] | (rw [if_neg (by omega)]; omega)) (by omega) hTSN_141 (by omega) (lv_sub hl [2, 3, 4, 5, 6, 7, 8, 9, 10, 11, 0] rfl))
        · refine lv_iload hx hb dL_isTold_158 (lv_at hl 10 rfl) ?_
          refine lv_aload_n hx hb dL_isTold_160 rfl (lv_at hl 6 rfl) ?_
          refine lv_aload hx hb dL_isTold_161 (lv_at hl 8 rfl) ?_
          refine lv_iload hx hb dL_isTold_163 (lv_at hl 11 rfl) ?_
          refine l_ald hx hb hK hTSN_141.2.2.1 3 (by decide) (by show 0 ≤ i ∧ i < ((10 : Nat) : Int); omega) dL_isTold_165 ?_
          refine z_top (b := pC σ i) (by rw [hT.c (i := i) (by omega)]) ?_
          refine z_cs (As := [.int (zI (pC σ i))]) (rest := [.ref (la 1), .int (zI vo)]) ⟨hx, hb, hml, hown, hts⟩ (c_L_shipOf l D cI cO cL HN_141 (pC σ i) (pC_r hI hB (i := i) (by omega))) (va_cwS 1 hts gL_isTold_L_shipOf rfl rfl rfl (by decide +kernel) ⟨(Nat.le_of_ble_eq_true rfl), (Nat.le_of_ble_eq_true rfl)⟩) (zKK_mv D cI cO cL) (fun U _ hv => va_K.moved hv hK) rfl hl.1 rfl (Nat.le_of_ble_eq_true rfl) dL_isTold_166 ⟨by show 1 + 10 * i.toNat + 2 + 2 + 2 + 2 + 2 ≤ 200; omega, by show 5 + 60 * i.toNat + 12 + 12 + 12 + 12 + 12 ≤ 1200; omega⟩ (fun r_144 hr_144 => ?_)
          rw [hr_144, pC_s hI hB (i := i) (by omega)]
          refine l_ald hx hb hK hTSN_141.2.2.1 1 (by decide) (by show 0 ≤ (σ 15 i) ∧ (σ 15 i) < ((6 : Nat) : Int); omega) dL_isTold_169 ?_
          refine z_top (b := pS σ (σ 15 i)) (by rw [hT.s (i := (σ 15 i)) (by omega)]) ?_
          refine z_cs (As := [.int (zI (pS σ (σ 15 i)))]) (rest := [.int (zI vo)]) ⟨hx, hb, hml, hown, hts⟩ (c_L_needs l D cI cO cL HN_141 (pS σ (σ 15 i)) (pS_r hI (i := (σ 15 i)) (by omega))) (va_cwS 1 hts gL_isTold_L_needs rfl rfl rfl (by decide +kernel) ⟨(Nat.le_of_ble_eq_true rfl), (Nat.le_of_ble_eq_true rfl)⟩) (zKK_mv D cI cO cL) (fun U _ hv => va_K.moved hv hK) rfl hl.1 rfl (Nat.le_of_ble_eq_true rfl) dL_isTold_170 ⟨by show 1 + 10 * i.toNat + 2 + 2 + 2 + 2 + 2 ≤ 200; omega, by show 5 + 60 * i.toNat + 12 + 12 + 12 + 12 + 12 ≤ 1200; omega⟩ (fun r_145 hr_145 => ?_)
          rw [hr_145, pS_n hI (i := (σ 15 i)) (by omega)]
          refine z_iadd hx hb dL_isTold_173 ?_
          refine lv_istore (lv' := [(8, .int (zI (vo + (σ 9 (σ 15 i))))), (11, .int (zI (σ 17 i))), (9, .int (zI 0)), (7, .ref s.heap.size), (0, .ref x0), (1, .int (zI u)), (2, .ref (la 0)), (3, .ref (la 1)), (4, .ref (la 2)), (5, .ref (la 3)), (6, .ref (la 5)), (10, .int (zI i))]) hx hb dL_isTold_174 hl (by decide) rfl (fun ls hl => ?_)
          refine z_iinc (lv' := [(10, .int (zI (i + 1))), (8, .int (zI (vo + (σ 9 (σ 15 i))))), (11, .int (zI (σ 17 i))), (9, .int (zI 0)), (7, .ref s.heap.size), (0, .ref x0), (1, .int (zI u)), (2, .ref (la 0)), (3, .ref (la 1)), (4, .ref (la 2)), (5, .ref (la 3)), (6, .ref (la 5))]) hx hb dL_isTold_176 hl (k := 11) rfl (by decide) rfl (fun ls hl => ?_)
          refine lv_goto (tgt := 14) hx hb dL_isTold_179 (by decide) ?_
          refine W.widen (k := 1 + 10 * (i + 1).toNat) (n := 5 + 60 * (i + 1).toNat) (by omega) (by omega) ?_
          exact wo_hL _ _ _ _ _ (ih_hL (vo + (σ 9 (σ 15 i))) (i + 1) ls g137 _ _ (by rw [zSum_i _ (by omega), ← hvo]; first | rw [if_pos (by omega)] | (rw [if_neg (by omega)]; omega)) (by omega) hTSN_141 (by omega) (lv_sub hl [3, 4, 5, 6, 7, 8, 9, 10, 11, 1, 0] rfl))
  refine W.widen (k := 1 + 10 * (0 : Int).toNat) (n := 5 + 60 * (0 : Int).toNat) (by omega) (by omega) ?_
  exact wo_hL _ _ _ _ _ (hL _ 0 0 ls g _ _ (by rfl) (by omega) hTS0 (Nat.lt_succ_self _) (lv_sub hl [1, 3, 4, 5, 6, 7, 8, 9, 10, 2, 0] rfl))
