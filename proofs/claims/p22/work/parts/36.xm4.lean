/-! the class: ship, pilot, call -/
theorem lk_X4_ship_19 : Cond.fieldLink RX4 19 "HarbourPilotline" "ships" "Ljava/util/ArrayList;" ∈ wsX4_ship := by decide +kernel
theorem ck_X4_ship_51 : Cond.classLink RX4 51 RX2 ∈ wsX4_ship := by decide +kernel
theorem ci_X4_ship_51 : Cond.instantiable RX2 6 ∈ wsX4_ship := by decide +kernel
theorem cj_X4_ship_51 : Cond.initialized RX2 ∈ wsX4_ship := by decide +kernel
theorem cl_X4_ship_53 : Cond.methodLink RX4 53 yX2_init ∈ wsX4_ship ∧ Cond.instanceMethod yX2_init ∈ wsX4_ship ∧ Cond.initialized RX2 ∈ wsX4_ship := by decide +kernel
theorem in_X4_ship_X2 : ∀ w ∈ wsX20, w ∈ wsX4_ship := by decide +kernel
theorem in_X4_ship_X4 : ∀ w ∈ wsX40, w ∈ wsX4_ship := by decide +kernel
set_option maxRecDepth 100000 in
set_option maxHeartbeats 4000000 in
theorem c_X4_ship (l : Launch) (hfl : l.stackTraces = false) (D : va_G) (cI cO cL : ClassId) (A : Nat → Prop) (eE mi : Nat) (sa : Nat → Nat) (g : zG) (σ : zT) (H0 : Heap) (hR : RX D cO A eE g σ H0) (d t n gg : Int) (hI : zInv σ) (h10 : σ 10 (σ 5 0) = 0) (hA : (-2147483648 ≤ d ∧ d < 2147483648) ∧ (-2147483648 ≤ t ∧ t < 2147483648) ∧ (-2147483648 ≤ n ∧ n < 2147483648) ∧ (-2147483648 ≤ gg ∧ gg < 2147483648)) : zXM l yX4_ship wsX4_ship ({ frames := 7, cells := 7, slots := 96, locals := 221 }) D cI cO cL A eE mi sa g σ [.ref (g 0 0), .int (zI d), .int (zI t), .int (zI n), .int (zI gg)] H0 (fun rv σ' g' => (zth_ship σ d t n gg = 0 ∧ rv = some (.int (zI (zan_ship σ))) ∧ σ' = zst_ship σ d t n gg) ∧ g' 0 0 = g 0 0) (fun E => (zth_ship σ d t n gg = 1 ∧ E = xIA) ∨ (zth_ship σ d t n gg = 2 ∧ E = xIS)) := by
  refine vx_ofW (cc := cX4_ship) (maxL := 6) (ret := (some .int)) (by decide) rfl ?_
  intro p e s m args below meth c s₁ B hml hno hv
  obtain ⟨rfl, hH, hG⟩ := hv
  subst hH
  have hK := hG.k
  have hx := B.exec
  have hb := B.bytes
  have hr := B.returns
  have hts := atoms_spec (ws := wsX4_ship) B.pre
  have hown : s.vm.findClass RX4 = some m.cls := findClass_of_methodNamed B.named
  have hlocks := B.notSynchronized
  have hl := lv_entry ([.ref (g 0 0), .int (zI d), .int (zI t), .int (zI n), .int (zI gg)]) (n := 6) (Nat.le_of_ble_eq_true rfl)
  rw [lg_entry_eq]
  generalize (lg_sl ([.ref (g 0 0), .int (zI d), .int (zI t), .int (zI n), .int (zI gg)]) ++ List.replicate (6 - (lg_sl ([.ref (g 0 0), .int (zI d), .int (zI t), .int (zI n), .int (zI gg)])).length) Slot.unset).toArray = ls at hl ⊢
  have hl : lv_has ls 6 [(0, .ref (g 0 0)), (1, .int (zI d)), (2, .int (zI t)), (3, .int (zI n)), (4, .int (zI gg))] := hl
  have f0 := hI.r
  refine lv_iload_n hx hb dX4_ship_0 rfl (lv_at hl 1 rfl) ?_
  refine z_iconst hx hb dX4_ship_1 ?_
  refine z_sipush hx hb dX4_ship_2 (by decide +kernel) ?_
  refine z_xmS (As := [.int (zI d), .int (zI 1), .int (zI 400)]) (rest := []) ⟨hx, hb, hml, hown, hts⟩ (c_X4_demandWithin l hfl D cI cO cL A eE mi sa g σ s.heap hR d 1 400 (by omega)) (va_cwS 3 hts gX4_ship_X4_demandWithin rfl rfl rfl (by decide +kernel) ⟨Nat.le_of_ble_eq_true rfl, Nat.le_of_ble_eq_true rfl⟩) hG va_S.rf rfl hl.1 rfl (Nat.le_of_ble_eq_true rfl) dX4_ship_5 ⟨Nat.le_of_ble_eq_true rfl, Nat.le_of_ble_eq_true rfl⟩ (fun E ce q9 H1 locs1 hpx hRx hzx hkx hSx hcx hvx hclx => by
    obtain ⟨hn, rfl⟩ := hpx
    exact z_xout (px' := fun E => (zth_ship σ d t n gg = 1 ∧ E = xIA) ∨ (zth_ship σ d t n gg = 2 ∧ E = xIS)) hno hlocks hcx hvx hclx (Or.inl ⟨by unfold zth_ship; (repeat' split) <;> omega, rfl⟩) hRx hSx ⟨Nat.le_of_ble_eq_true rfl, Nat.le_of_ble_eq_true rfl⟩) (fun rH_1 σH_1 gH_1 H_1 locsH_1 hpH_1 hRH_1 hzH_1 hkH_1 hSH_1 => ?_)
  obtain ⟨hdH_1, erH_1, esH_1, egH_1⟩ := hpH_1
  rw [esH_1, egH_1] at hRH_1
  rw [erH_1]
  refine lv_iload_n hx hb dX4_ship_8 rfl (lv_at hl 2 rfl) ?_
  refine z_iconst hx hb dX4_ship_9 ?_
  refine z_sipush hx hb dX4_ship_10 (by decide +kernel) ?_
  refine z_xmS (As := [.int (zI t), .int (zI 1), .int (zI 9999)]) (rest := []) ⟨hx, hb, hml, hown, hts⟩ (c_X4_demandWithin l hfl D cI cO cL A eE mi sa g σ H_1 hRH_1 t 1 9999 (by omega)) (va_cwS 3 hts gX4_ship_X4_demandWithin rfl rfl rfl (by decide +kernel) ⟨Nat.le_of_ble_eq_true rfl, Nat.le_of_ble_eq_true rfl⟩) hG hSH_1 rfl hl.1 rfl (Nat.le_of_ble_eq_true rfl) dX4_ship_13 ⟨Nat.le_of_ble_eq_true rfl, Nat.le_of_ble_eq_true rfl⟩ (fun E ce q9 H1 locs1 hpx hRx hzx hkx hSx hcx hvx hclx => by
    obtain ⟨hn, rfl⟩ := hpx
    exact z_xout (px' := fun E => (zth_ship σ d t n gg = 1 ∧ E = xIA) ∨ (zth_ship σ d t n gg = 2 ∧ E = xIS)) hno hlocks hcx hvx hclx (Or.inl ⟨by unfold zth_ship; (repeat' split) <;> omega, rfl⟩) hRx hSx ⟨Nat.le_of_ble_eq_true rfl, Nat.le_of_ble_eq_true rfl⟩) (fun rH_2 σH_2 gH_2 H_2 locsH_2 hpH_2 hRH_2 hzH_2 hkH_2 hSH_2 => ?_)
  obtain ⟨hdH_2, erH_2, esH_2, egH_2⟩ := hpH_2
  rw [esH_2, egH_2] at hRH_2
  rw [erH_2]
  refine lv_iload_n hx hb dX4_ship_16 rfl (lv_at hl 3 rfl) ?_
  refine z_bipush hx hb dX4_ship_17 (by decide +kernel) ?_
  refine z_bipush hx hb dX4_ship_19 (by decide +kernel) ?_
  refine z_xmS (As := [.int (zI n), .int (zI 10), .int (zI 120)]) (rest := []) ⟨hx, hb, hml, hown, hts⟩ (c_X4_demandWithin l hfl D cI cO cL A eE mi sa g σ H_2 hRH_2 n 10 120 (by omega)) (va_cwS 3 hts gX4_ship_X4_demandWithin rfl rfl rfl (by decide +kernel) ⟨Nat.le_of_ble_eq_true rfl, Nat.le_of_ble_eq_true rfl⟩) hG hSH_2 rfl hl.1 rfl (Nat.le_of_ble_eq_true rfl) dX4_ship_21 ⟨Nat.le_of_ble_eq_true rfl, Nat.le_of_ble_eq_true rfl⟩ (fun E ce q9 H1 locs1 hpx hRx hzx hkx hSx hcx hvx hclx => by
    obtain ⟨hn, rfl⟩ := hpx
    exact z_xout (px' := fun E => (zth_ship σ d t n gg = 1 ∧ E = xIA) ∨ (zth_ship σ d t n gg = 2 ∧ E = xIS)) hno hlocks hcx hvx hclx (Or.inl ⟨by unfold zth_ship; (repeat' split) <;> omega, rfl⟩) hRx hSx ⟨Nat.le_of_ble_eq_true rfl, Nat.le_of_ble_eq_true rfl⟩) (fun rH_3 σH_3 gH_3 H_3 locsH_3 hpH_3 hRH_3 hzH_3 hkH_3 hSH_3 => ?_)
  obtain ⟨hdH_3, erH_3, esH_3, egH_3⟩ := hpH_3
  rw [esH_3, egH_3] at hRH_3
  rw [erH_3]
  refine lv_iload hx hb dX4_ship_24 (lv_at hl 4 rfl) ?_
  refine z_iconst hx hb dX4_ship_26 ?_
  refine z_iconst hx hb dX4_ship_27 ?_
  refine z_xmS (As := [.int (zI gg), .int (zI 0), .int (zI 3)]) (rest := []) ⟨hx, hb, hml, hown, hts⟩ (c_X4_demandWithin l hfl D cI cO cL A eE mi sa g σ H_3 hRH_3 gg 0 3 (by omega)) (va_cwS 3 hts gX4_ship_X4_demandWithin rfl rfl rfl (by decide +kernel) ⟨Nat.le_of_ble_eq_true rfl, Nat.le_of_ble_eq_true rfl⟩) hG hSH_3 rfl hl.1 rfl (Nat.le_of_ble_eq_true rfl) dX4_ship_28 ⟨Nat.le_of_ble_eq_true rfl, Nat.le_of_ble_eq_true rfl⟩ (fun E ce q9 H1 locs1 hpx hRx hzx hkx hSx hcx hvx hclx => by
    obtain ⟨hn, rfl⟩ := hpx
    exact z_xout (px' := fun E => (zth_ship σ d t n gg = 1 ∧ E = xIA) ∨ (zth_ship σ d t n gg = 2 ∧ E = xIS)) hno hlocks hcx hvx hclx (Or.inl ⟨by unfold zth_ship; (repeat' split) <;> omega, rfl⟩) hRx hSx ⟨Nat.le_of_ble_eq_true rfl, Nat.le_of_ble_eq_true rfl⟩) (fun rH_4 σH_4 gH_4 H_4 locsH_4 hpH_4 hRH_4 hzH_4 hkH_4 hSH_4 => ?_)
  obtain ⟨hdH_4, erH_4, esH_4, egH_4⟩ := hpH_4
  rw [esH_4, egH_4] at hRH_4
  rw [erH_4]
  refine lv_aload_n hx hb dX4_ship_31 rfl (lv_at hl 0 rfl) ?_
  refine z_get hx hb hts in_X4_ship_X4 hown hK hRH_4.x rfl 1 (by decide) lk_X4_ship_19 rfl rfl dX4_ship_32 ?_
  refine z_cv (As := []) (rest := []) ⟨hx, hb, hml, hown, hts⟩ (c_size l cI cL hRH_4 (i := 0) (by decide)) (cwV 0 hts gX4_ship_Jx4a65c_size_8abf5 rfl rfl rfl (by decide +kernel) ⟨Nat.le_of_ble_eq_true rfl, Nat.le_of_ble_eq_true rfl⟩) (zKK_mv D cI cO cL) (fun U _ hv => va_K.moved hv hK) (z_recv hK (hRH_4.l (i := 0) (by decide)) rfl) rfl hl.1 rfl (Nat.le_of_ble_eq_true rfl) dX4_ship_35 ⟨Nat.le_of_ble_eq_true rfl, Nat.le_of_ble_eq_true rfl⟩ (fun r_5 hr_5 => ?_)
  rw [hr_5]
  refine z_top (b := σ 5 0) rfl ?_
  refine lv_istore (lv' := [(5, .int (zI (σ 5 0))), (0, .ref (g 0 0)), (1, .int (zI d)), (2, .int (zI t)), (3, .int (zI n)), (4, .int (zI gg))]) hx hb dX4_ship_38 hl (by decide) rfl (fun ls hl => ?_)
  refine lv_iload hx hb dX4_ship_40 (lv_at hl 0 rfl) ?_
  refine z_bipush hx hb dX4_ship_42 (by decide +kernel) ?_
  refine z_xmS (As := [.int (zI (σ 5 0)), .int (zI 12)]) (rest := []) ⟨hx, hb, hml, hown, hts⟩ (c_X4_demandRoom l hfl D cI cO cL A eE mi sa g σ H_4 hRH_4 (σ 5 0) 12 (by omega)) (va_cwS 2 hts gX4_ship_X4_demandRoom rfl rfl rfl (by decide +kernel) ⟨Nat.le_of_ble_eq_true rfl, Nat.le_of_ble_eq_true rfl⟩) hG hSH_4 rfl hl.1 rfl (Nat.le_of_ble_eq_true rfl) dX4_ship_44 ⟨Nat.le_of_ble_eq_true rfl, Nat.le_of_ble_eq_true rfl⟩ (fun E ce q9 H1 locs1 hpx hRx hzx hkx hSx hcx hvx hclx => by
    obtain ⟨hn, rfl⟩ := hpx
    exact z_xout (px' := fun E => (zth_ship σ d t n gg = 1 ∧ E = xIA) ∨ (zth_ship σ d t n gg = 2 ∧ E = xIS)) hno hlocks hcx hvx hclx (Or.inr (⟨by unfold zth_ship; (repeat' split) <;> omega, rfl⟩)) hRx hSx ⟨Nat.le_of_ble_eq_true rfl, Nat.le_of_ble_eq_true rfl⟩) (fun rH_6 σH_6 gH_6 H_6 locsH_6 hpH_6 hRH_6 hzH_6 hkH_6 hSH_6 => ?_)
  obtain ⟨hdH_6, erH_6, esH_6, egH_6⟩ := hpH_6
  rw [esH_6, egH_6] at hRH_6
  rw [erH_6]
  refine lv_aload_n hx hb dX4_ship_47 rfl (lv_at hl 1 rfl) ?_
  refine z_get hx hb hts in_X4_ship_X4 hown hK hRH_6.x rfl 1 (by decide) lk_X4_ship_19 rfl rfl dX4_ship_48 ?_
  refine z_new hx hb hts in_X4_ship_X2 tyX2 tyX2_ok hown ck_X4_ship_51 ci_X4_ship_51 cj_X4_ship_51 hK hSH_6 (ci := 3) rfl (fs := [.int (zI 0), .int (zI 0), .int (zI 0), .int (zI 0), .int (zI 0), .int (zI 0)]) (by intro j hj; match j, hj with | 0, _ => rfl | 1, _ => rfl | 2, _ => rfl | 3, _ => rfl | 4, _ => rfl | 5, _ => rfl | n9 + 6, h9 => exact absurd h9 (by omega)) (Nat.le_of_ble_eq_true rfl) (Nat.le_of_ble_eq_true rfl) dX4_ship_51 (fun HN hO1 hzN hoN hSN => ?_)
  have hRN := hRH_6.kept (fun q h1 _ => hoN q h1)
  refine lv_dup hx hb dX4_ship_54 rfl ?_
  refine lv_iload hx hb dX4_ship_55 (lv_at hl 0 rfl) ?_
  refine lv_iload_n hx hb dX4_ship_57 rfl (lv_at hl 2 rfl) ?_
  refine lv_iload_n hx hb dX4_ship_58 rfl (lv_at hl 3 rfl) ?_
  refine lv_iload_n hx hb dX4_ship_59 rfl (lv_at hl 4 rfl) ?_
  refine lv_iload hx hb dX4_ship_60 (lv_at hl 5 rfl) ?_
  refine z_gI (As := [.int (zI (σ 5 0)), .int (zI d), .int (zI t), .int (zI n), .int (zI gg)]) (rest := [.ref H_6.size, .ref (g 2 0)]) ⟨hx, hb, hml, hown, hts⟩ (c_X2_init l D cI cO cL A eE mi sa HN H_6.size (σ 5 0) d t n gg hO1) (cwI 5 hts gX4_ship_X2_init rfl rfl rfl (hts _ cl_X4_ship_53.2.2) (hts _ cl_X4_ship_53.1) (hts _ cl_X4_ship_53.2.1) rfl (by decide +kernel) ⟨Nat.le_of_ble_eq_true rfl, Nat.le_of_ble_eq_true rfl⟩) hG hSN rfl hl.1 rfl (Nat.le_of_ble_eq_true rfl) dX4_ship_62 ⟨Nat.le_of_ble_eq_true rfl, Nat.le_of_ble_eq_true rfl⟩ (fun r2 HI LI hpI hLI => ?_)
  obtain ⟨eI, hOI, hzI, hkI⟩ := hpI
  rw [eI]
  have hAV : A H_6.size := hG.2.2.2.2.1 _ (hSH_6.1)
  have hSI : va_S A s.heap HI (locsH_6 ++ LI) := ⟨by rw [hzI]; exact hSN.1, fun q h1 h2 => (hkI q (fun z => by rw [z] at h2; exact h2 hAV)).trans (hSN.2.1 q h1 h2), fun q hq => by
    rcases List.mem_append.mp hq with z | z
    · exact hSN.2.2 q z
    · have z2 : q.base = H_6.size := hLI q z
      rw [z2]; exact hAV⟩
  have hRI := hRH_6.kept (H1 := HI) (fun q h1 _ => (hkI q (by omega)).trans (hoN q h1))
  have hcp := hRI.2.2.2 0 (by decide) (by decide)
  have hcn : zCn σ 0 = σ 5 0 := rfl
  have hlt : ∀ t j, xVal g σ t j → g t j < H_6.size := fun t j hv => z_lt (hRH_6.1 t j hv)
  have hFA : ∀ q : Nat, (q = g 2 0 ∨ (0 < g 7 0 ∧ q = g 3 0) ∨ HI.size ≤ q) → A q := fun q hq => by
    rcases hq with z | z | z
    · rw [z]; exact hRI.ow (t := 2) (i := 0) (by show 0 ≤ (0 : Int) ∧ (0 : Int) < 3; decide)
    · rw [z.2]; exact hRI.ow (t := 3) (i := 0) ⟨by decide, z.1⟩
    · exact hG.2.2.2.2.1 q (Nat.le_trans hSI.1 z)
  have hE : (g 7 0 = 0 ∧ g 3 0 = eE) ∨ (0 < g 7 0 ∧ va_at D vwCl (g 3 0, zQ cO (g 7 0) (xAr g σ 0)) HI) := by
    by_cases z : 0 < g 7 0
    · exact Or.inr ⟨z, hRI.a (by decide) z⟩
    · exact Or.inl ⟨by omega, hcp.2.2 (by omega)⟩
  have hel : ∀ j y, xAr g σ 0 j = some y → xIsE D HI y := fun j y hy => by
    have hy2 : (if (j : Int) < σ 5 0 then some (g 4 j) else none) = some y := hy
    split at hy2
    · cases hy2; exact ⟨3, _, by decide, hRI.1 4 j (show 0 ≤ (j : Int) ∧ (j : Int) < σ 5 0 by omega)⟩
    · cases hy2
  have hne : g 2 0 ≠ g 3 0 := fun z => by
    by_cases w : 0 < g 7 0
    · exact absurd (hRI.2.1 2 0 3 0 (by show 0 ≤ (0 : Int) ∧ (0 : Int) < 3; decide) ⟨by decide, w⟩ z).1 (by decide)
    · exact hG.2.2.2.1 (by rw [← hcp.2.2 (by omega), ← z]; exact hRI.ow (t := 2) (i := 0) (by show 0 ≤ (0 : Int) ∧ (0 : Int) < 3; decide))
  refine z_gV (As := [.ref H_6.size]) (rest := []) ⟨hx, hb, hml, hown, hts⟩ (c_Jx4a65c_add_9ea2d l D cI cO cL A eE mi sa HI (g 2 0) (g 8 0) (g 3 0) (g 7 0) H_6.size (zCn σ 0) (xAr g σ 0) (hRI.l (by decide)) hE (by omega) (fun j hj => if_neg (by omega)) hel ⟨3, _, by decide, hOI⟩ ⟨hne, fun z => by have := hlt 2 0 (by show 0 ≤ (0 : Int) ∧ (0 : Int) < 3; decide); omega⟩ hFA) (cwV 1 hts gX4_ship_Jx4a65c_add_9ea2d rfl rfl rfl (by decide +kernel) ⟨Nat.le_of_ble_eq_true rfl, Nat.le_of_ble_eq_true rfl⟩) hG hSI (z_recv hK (hRI.l (by decide)) rfl) rfl hl.1 rfl (Nat.le_of_ble_eq_true rfl) dX4_ship_65 ⟨Nat.le_of_ble_eq_true rfl, Nat.le_of_ble_eq_true rfl⟩ (fun r3 HA LA hpA hLA => ?_)
  obtain ⟨ea2, cap2, eA, hA2, hA3, hA4, hA5, hA6, hA7⟩ := hpA
  rw [eA]
  have hAe : A ea2 := by
    rcases hA5 with z | z
    · exact hG.2.2.2.2.1 _ (Nat.le_trans hSI.1 z)
    · rw [z.1]; exact hFA _ (Or.inr (Or.inl ⟨z.2, rfl⟩))
  have hRA : RX D cO A eE (gAdd g 0 (σ 5 0) 4 H_6.size ea2 cap2) (zst_ship σ d t n gg) HA := RX_add0 (σ' := zst_ship σ d t n gg) hRI (by omega) (by simp [zst_ship, zup]) (⟨by simp [zst_ship, zup], by simp [zst_ship, zup]⟩) (fun t j hv h2 h3 => by
      match t, hv with
      | 0, hv => rfl
      | 1, hv => rfl
      | 2, hv => exact absurd rfl h2
      | 3, hv => exact absurd rfl h3
      | 4, hv =>
        have hv2 : 0 ≤ j ∧ j < σ 5 0 := hv
        have q : j ≠ σ 5 0 := by omega
        simp [xE, zst_ship, zup, q]
      | 5, hv => rfl
      | 6, hv => 
        have hv2 : 0 ≤ j ∧ j < σ 14 0 := hv
        have cj := hI.c hv2
        have e4 : (gAdd g 0 (σ 5 0) 4 (H_6.size) ea2 cap2) 4 (σ 15 j) = g 4 (σ 15 j) := gAdd_o (fun z => by omega) (by omega) (by decide) (by decide)
        have e5 : (if σ 18 j = -1 then none else some ((gAdd g 0 (σ 5 0) 4 (H_6.size) ea2 cap2) 5 (σ 18 j))) = (if σ 18 j = -1 then none else some (g 5 (σ 18 j))) := by
          by_cases z : σ 18 j = -1
          · rw [if_pos z, if_pos z]
          · rw [if_neg z, if_neg z, gAdd_o (fun w => by omega) (by omega) (by decide) (by decide)]
        show (Sum.inr (1, [.ref ((gAdd g 0 (σ 5 0) 4 (H_6.size) ea2 cap2) 4 (σ 15 j)), .int (zI (σ 16 j)), .int (zI (σ 17 j % 2)), .int (zI (σ 17 j / 2 % 2)), va_rf (if σ 18 j = -1 then none else some ((gAdd g 0 (σ 5 0) 4 (H_6.size) ea2 cap2) 5 (σ 18 j))), .int (zI (σ 19 j)), .int (zI (σ 20 j))]) : va_E) = _
        rw [e4, e5]; rfl) (by omega) (fun t j hv => by have := hlt t j hv; omega) hAV hAe (by simp [xE, zst_ship, zup, h10]; exact hOI) hA2 hA3 hA4 hA5 hA7
  have hSA : va_S A s.heap HA ((locsH_6 ++ LI) ++ LA) := ⟨Nat.le_trans hSI.1 hA6, fun q h1 h2 => (hA7 q (Nat.lt_of_lt_of_le h1 hSI.1) (fun z => h2 (hFA q (Or.inl z))) (fun z => h2 (hFA q (Or.inr (Or.inl z))))).trans (hSI.2.1 q h1 h2), fun q hq => by
    rcases List.mem_append.mp hq with z | z
    · exact hSI.2.2 q z
    · exact hFA _ (hLA q z)⟩
  refine lv_pop hx hb dX4_ship_68 rfl ?_
  refine lv_iload hx hb dX4_ship_69 (lv_at hl 0 rfl) ?_
  exact vx_ret (W.widen (k := 7) (n := 96) (Nat.le_of_ble_eq_true rfl) (Nat.le_of_ble_eq_true rfl) (W.iret hx hb hr (z_endG (post := fun rv σ' g' => (zth_ship σ d t n gg = 0 ∧ rv = some (.int (zI (zan_ship σ))) ∧ σ' = zst_ship σ d t n gg) ∧ g' 0 0 = g 0 0) (σ' := zst_ship σ d t n gg) (g' := (gAdd g 0 (σ 5 0) 4 H_6.size ea2 cap2)) (v := (some (.int (zI (σ 5 0))))) ⟨⟨(by unfold zth_ship; (repeat' split) <;> omega), rfl, rfl⟩, gAdd_o (by omega) (by omega) (by decide) (by decide)⟩ hRA hSA) hSA.2.2 dX4_ship_71))

theorem lk_X4_pilot_23 : Cond.fieldLink RX4 23 "HarbourPilotline" "pilots" "Ljava/util/ArrayList;" ∈ wsX4_pilot := by decide +kernel
theorem ck_X4_pilot_60 : Cond.classLink RX4 60 RX1 ∈ wsX4_pilot := by decide +kernel
theorem ci_X4_pilot_60 : Cond.instantiable RX1 5 ∈ wsX4_pilot := by decide +kernel
theorem cj_X4_pilot_60 : Cond.initialized RX1 ∈ wsX4_pilot := by decide +kernel
theorem cl_X4_pilot_62 : Cond.methodLink RX4 62 yX1_init ∈ wsX4_pilot ∧ Cond.instanceMethod yX1_init ∈ wsX4_pilot ∧ Cond.initialized RX1 ∈ wsX4_pilot := by decide +kernel
theorem in_X4_pilot_X1 : ∀ w ∈ wsX10, w ∈ wsX4_pilot := by decide +kernel
theorem in_X4_pilot_X4 : ∀ w ∈ wsX40, w ∈ wsX4_pilot := by decide +kernel
set_option maxRecDepth 100000 in
set_option maxHeartbeats 4000000 in
theorem c_X4_pilot (l : Launch) (hfl : l.stackTraces = false) (D : va_G) (cI cO cL : ClassId) (A : Nat → Prop) (eE mi : Nat) (sa : Nat → Nat) (g : zG) (σ : zT) (H0 : Heap) (hR : RX D cO A eE g σ H0) (a b : Int) (hI : zInv σ) (h30 : σ 30 (σ 11 0) = 0 ∧ σ 31 (σ 11 0) = 0) (hA : (-2147483648 ≤ a ∧ a < 2147483648) ∧ (-2147483648 ≤ b ∧ b < 2147483648)) : zXM l yX4_pilot wsX4_pilot ({ frames := 7, cells := 5, slots := 83, locals := 221 }) D cI cO cL A eE mi sa g σ [.ref (g 0 0), .int (zI a), .int (zI b)] H0 (fun rv σ' g' => (zth_pilot σ a b = 0 ∧ rv = some (.int (zI (zan_pilot σ))) ∧ σ' = zst_pilot σ a b) ∧ g' 0 0 = g 0 0) (fun E => (zth_pilot σ a b = 1 ∧ E = xIA) ∨ (zth_pilot σ a b = 2 ∧ E = xIS)) := by
  refine vx_ofW (cc := cX4_pilot) (maxL := 4) (ret := (some .int)) (by decide) rfl ?_
  intro p e s m args below meth c s₁ B hml hno hv
  obtain ⟨rfl, hH, hG⟩ := hv
  subst hH
  have hK := hG.k
  have hx := B.exec
  have hb := B.bytes
  have hr := B.returns
  have hts := atoms_spec (ws := wsX4_pilot) B.pre
  have hown : s.vm.findClass RX4 = some m.cls := findClass_of_methodNamed B.named
  have hlocks := B.notSynchronized
  have hl := lv_entry ([.ref (g 0 0), .int (zI a), .int (zI b)]) (n := 4) (Nat.le_of_ble_eq_true rfl)
  rw [lg_entry_eq]
  generalize (lg_sl ([.ref (g 0 0), .int (zI a), .int (zI b)]) ++ List.replicate (4 - (lg_sl ([.ref (g 0 0), .int (zI a), .int (zI b)])).length) Slot.unset).toArray = ls at hl ⊢
  have hl : lv_has ls 4 [(0, .ref (g 0 0)), (1, .int (zI a)), (2, .int (zI b))] := hl
  have f0 := hI.r
  refine lv_iload_n hx hb dX4_pilot_0 rfl (lv_at hl 1 rfl) ?_
  refine z_iconst hx hb dX4_pilot_1 ?_
  refine z_sipush hx hb dX4_pilot_2 (by decide +kernel) ?_
  refine z_xmS (As := [.int (zI a), .int (zI 1), .int (zI 9999)]) (rest := []) ⟨hx, hb, hml, hown, hts⟩ (c_X4_demandWithin l hfl D cI cO cL A eE mi sa g σ s.heap hR a 1 9999 (by omega)) (va_cwS 3 hts gX4_pilot_X4_demandWithin rfl rfl rfl (by decide +kernel) ⟨Nat.le_of_ble_eq_true rfl, Nat.le_of_ble_eq_true rfl⟩) hG va_S.rf rfl hl.1 rfl (Nat.le_of_ble_eq_true rfl) dX4_pilot_5 ⟨Nat.le_of_ble_eq_true rfl, Nat.le_of_ble_eq_true rfl⟩ (fun E ce q9 H1 locs1 hpx hRx hzx hkx hSx hcx hvx hclx => by
    obtain ⟨hn, rfl⟩ := hpx
    exact z_xout (px' := fun E => (zth_pilot σ a b = 1 ∧ E = xIA) ∨ (zth_pilot σ a b = 2 ∧ E = xIS)) hno hlocks hcx hvx hclx (Or.inl ⟨by unfold zth_pilot; (repeat' split) <;> omega, rfl⟩) hRx hSx ⟨Nat.le_of_ble_eq_true rfl, Nat.le_of_ble_eq_true rfl⟩) (fun rH_1 σH_1 gH_1 H_1 locsH_1 hpH_1 hRH_1 hzH_1 hkH_1 hSH_1 => ?_)
  obtain ⟨hdH_1, erH_1, esH_1, egH_1⟩ := hpH_1
  rw [esH_1, egH_1] at hRH_1
  rw [erH_1]
  refine lv_iload_n hx hb dX4_pilot_8 rfl (lv_at hl 2 rfl) ?_
  refine z_iconst hx hb dX4_pilot_9 ?_
  refine z_bipush hx hb dX4_pilot_10 (by decide +kernel) ?_
  refine z_xmS (As := [.int (zI b), .int (zI 1), .int (zI 50)]) (rest := []) ⟨hx, hb, hml, hown, hts⟩ (c_X4_demandWithin l hfl D cI cO cL A eE mi sa g σ H_1 hRH_1 b 1 50 (by omega)) (va_cwS 3 hts gX4_pilot_X4_demandWithin rfl rfl rfl (by decide +kernel) ⟨Nat.le_of_ble_eq_true rfl, Nat.le_of_ble_eq_true rfl⟩) hG hSH_1 rfl hl.1 rfl (Nat.le_of_ble_eq_true rfl) dX4_pilot_12 ⟨Nat.le_of_ble_eq_true rfl, Nat.le_of_ble_eq_true rfl⟩ (fun E ce q9 H1 locs1 hpx hRx hzx hkx hSx hcx hvx hclx => by
    obtain ⟨hn, rfl⟩ := hpx
    exact z_xout (px' := fun E => (zth_pilot σ a b = 1 ∧ E = xIA) ∨ (zth_pilot σ a b = 2 ∧ E = xIS)) hno hlocks hcx hvx hclx (Or.inl ⟨by unfold zth_pilot; (repeat' split) <;> omega, rfl⟩) hRx hSx ⟨Nat.le_of_ble_eq_true rfl, Nat.le_of_ble_eq_true rfl⟩) (fun rH_2 σH_2 gH_2 H_2 locsH_2 hpH_2 hRH_2 hzH_2 hkH_2 hSH_2 => ?_)
  obtain ⟨hdH_2, erH_2, esH_2, egH_2⟩ := hpH_2
  rw [esH_2, egH_2] at hRH_2
  rw [erH_2]
  refine lv_aload_n hx hb dX4_pilot_15 rfl (lv_at hl 0 rfl) ?_
  refine z_get hx hb hts in_X4_pilot_X4 hown hK hRH_2.x rfl 2 (by decide) lk_X4_pilot_23 rfl rfl dX4_pilot_16 ?_
  refine z_cv (As := []) (rest := []) ⟨hx, hb, hml, hown, hts⟩ (c_size l cI cL hRH_2 (i := 1) (by decide)) (cwV 0 hts gX4_pilot_Jx4a65c_size_8abf5 rfl rfl rfl (by decide +kernel) ⟨Nat.le_of_ble_eq_true rfl, Nat.le_of_ble_eq_true rfl⟩) (zKK_mv D cI cO cL) (fun U _ hv => va_K.moved hv hK) (z_recv hK (hRH_2.l (i := 1) (by decide)) rfl) rfl hl.1 rfl (Nat.le_of_ble_eq_true rfl) dX4_pilot_19 ⟨Nat.le_of_ble_eq_true rfl, Nat.le_of_ble_eq_true rfl⟩ (fun r_3 hr_3 => ?_)
  rw [hr_3]
  refine z_top (b := σ 11 0) rfl ?_
  refine lv_istore_n (lv' := [(3, .int (zI (σ 11 0))), (0, .ref (g 0 0)), (1, .int (zI a)), (2, .int (zI b))]) hx hb dX4_pilot_22 rfl hl (by decide) rfl (fun ls hl => ?_)
  refine lv_iload_n hx hb dX4_pilot_23 rfl (lv_at hl 0 rfl) ?_
  refine z_bipush hx hb dX4_pilot_24 (by decide +kernel) ?_
  refine z_xmS (As := [.int (zI (σ 11 0)), .int (zI 8)]) (rest := []) ⟨hx, hb, hml, hown, hts⟩ (c_X4_demandRoom l hfl D cI cO cL A eE mi sa g σ H_2 hRH_2 (σ 11 0) 8 (by omega)) (va_cwS 2 hts gX4_pilot_X4_demandRoom rfl rfl rfl (by decide +kernel) ⟨Nat.le_of_ble_eq_true rfl, Nat.le_of_ble_eq_true rfl⟩) hG hSH_2 rfl hl.1 rfl (Nat.le_of_ble_eq_true rfl) dX4_pilot_26 ⟨Nat.le_of_ble_eq_true rfl, Nat.le_of_ble_eq_true rfl⟩ (fun E ce q9 H1 locs1 hpx hRx hzx hkx hSx hcx hvx hclx => by
    obtain ⟨hn, rfl⟩ := hpx
    exact z_xout (px' := fun E => (zth_pilot σ a b = 1 ∧ E = xIA) ∨ (zth_pilot σ a b = 2 ∧ E = xIS)) hno hlocks hcx hvx hclx (Or.inr (⟨by unfold zth_pilot; (repeat' split) <;> omega, rfl⟩)) hRx hSx ⟨Nat.le_of_ble_eq_true rfl, Nat.le_of_ble_eq_true rfl⟩) (fun rH_4 σH_4 gH_4 H_4 locsH_4 hpH_4 hRH_4 hzH_4 hkH_4 hSH_4 => ?_)
  obtain ⟨hdH_4, erH_4, esH_4, egH_4⟩ := hpH_4
  rw [esH_4, egH_4] at hRH_4
  rw [erH_4]
  refine lv_aload_n hx hb dX4_pilot_29 rfl (lv_at hl 1 rfl) ?_
  refine z_get hx hb hts in_X4_pilot_X4 hown hK hRH_4.x rfl 2 (by decide) lk_X4_pilot_23 rfl rfl dX4_pilot_30 ?_
  refine z_new hx hb hts in_X4_pilot_X1 tyX1 tyX1_ok hown ck_X4_pilot_60 ci_X4_pilot_60 cj_X4_pilot_60 hK hSH_4 (ci := 2) rfl (fs := [.int (zI 0), .int (zI 0), .int (zI 0), .int (zI 0), .int (zI 0)]) (by intro j hj; match j, hj with | 0, _ => rfl | 1, _ => rfl | 2, _ => rfl | 3, _ => rfl | 4, _ => rfl | n9 + 5, h9 => exact absurd h9 (by omega)) (Nat.le_of_ble_eq_true rfl) (Nat.le_of_ble_eq_true rfl) dX4_pilot_33 (fun HN hO1 hzN hoN hSN => ?_)
  have hRN := hRH_4.kept (fun q h1 _ => hoN q h1)
  refine lv_dup hx hb dX4_pilot_36 rfl ?_
  refine lv_iload_n hx hb dX4_pilot_37 rfl (lv_at hl 0 rfl) ?_
  refine lv_iload_n hx hb dX4_pilot_38 rfl (lv_at hl 2 rfl) ?_
  refine lv_iload_n hx hb dX4_pilot_39 rfl (lv_at hl 3 rfl) ?_
  refine z_gI (As := [.int (zI (σ 11 0)), .int (zI a), .int (zI b)]) (rest := [.ref H_4.size, .ref (g 2 1)]) ⟨hx, hb, hml, hown, hts⟩ (c_X1_init l D cI cO cL A eE mi sa HN H_4.size (σ 11 0) a b hO1) (cwI 3 hts gX4_pilot_X1_init rfl rfl rfl (hts _ cl_X4_pilot_62.2.2) (hts _ cl_X4_pilot_62.1) (hts _ cl_X4_pilot_62.2.1) rfl (by decide +kernel) ⟨Nat.le_of_ble_eq_true rfl, Nat.le_of_ble_eq_true rfl⟩) hG hSN rfl hl.1 rfl (Nat.le_of_ble_eq_true rfl) dX4_pilot_40 ⟨Nat.le_of_ble_eq_true rfl, Nat.le_of_ble_eq_true rfl⟩ (fun r2 HI LI hpI hLI => ?_)
  obtain ⟨eI, hOI, hzI, hkI⟩ := hpI
  rw [eI]
  have hAV : A H_4.size := hG.2.2.2.2.1 _ (hSH_4.1)
  have hSI : va_S A s.heap HI (locsH_4 ++ LI) := ⟨by rw [hzI]; exact hSN.1, fun q h1 h2 => (hkI q (fun z => by rw [z] at h2; exact h2 hAV)).trans (hSN.2.1 q h1 h2), fun q hq => by
    rcases List.mem_append.mp hq with z | z
    · exact hSN.2.2 q z
    · have z2 : q.base = H_4.size := hLI q z
      rw [z2]; exact hAV⟩
  have hRI := hRH_4.kept (H1 := HI) (fun q h1 _ => (hkI q (by omega)).trans (hoN q h1))
  have hcp := hRI.2.2.2 1 (by decide) (by decide)
  have hcn : zCn σ 1 = σ 11 0 := rfl
  have hlt : ∀ t j, xVal g σ t j → g t j < H_4.size := fun t j hv => z_lt (hRH_4.1 t j hv)
  have hFA : ∀ q : Nat, (q = g 2 1 ∨ (0 < g 7 1 ∧ q = g 3 1) ∨ HI.size ≤ q) → A q := fun q hq => by
    rcases hq with z | z | z
    · rw [z]; exact hRI.ow (t := 2) (i := 1) (by show 0 ≤ (1 : Int) ∧ (1 : Int) < 3; decide)
    · rw [z.2]; exact hRI.ow (t := 3) (i := 1) ⟨by decide, z.1⟩
    · exact hG.2.2.2.2.1 q (Nat.le_trans hSI.1 z)
  have hE : (g 7 1 = 0 ∧ g 3 1 = eE) ∨ (0 < g 7 1 ∧ va_at D vwCl (g 3 1, zQ cO (g 7 1) (xAr g σ 1)) HI) := by
    by_cases z : 0 < g 7 1
    · exact Or.inr ⟨z, hRI.a (by decide) z⟩
    · exact Or.inl ⟨by omega, hcp.2.2 (by omega)⟩
  have hel : ∀ j y, xAr g σ 1 j = some y → xIsE D HI y := fun j y hy => by
    have hy2 : (if (j : Int) < σ 11 0 then some (g 5 j) else none) = some y := hy
    split at hy2
    · cases hy2; exact ⟨2, _, by decide, hRI.1 5 j (show 0 ≤ (j : Int) ∧ (j : Int) < σ 11 0 by omega)⟩
    · cases hy2
  have hne : g 2 1 ≠ g 3 1 := fun z => by
    by_cases w : 0 < g 7 1
    · exact absurd (hRI.2.1 2 1 3 1 (by show 0 ≤ (1 : Int) ∧ (1 : Int) < 3; decide) ⟨by decide, w⟩ z).1 (by decide)
    · exact hG.2.2.2.1 (by rw [← hcp.2.2 (by omega), ← z]; exact hRI.ow (t := 2) (i := 1) (by show 0 ≤ (1 : Int) ∧ (1 : Int) < 3; decide))
  refine z_gV (As := [.ref H_4.size]) (rest := []) ⟨hx, hb, hml, hown, hts⟩ (c_Jx4a65c_add_9ea2d l D cI cO cL A eE mi sa HI (g 2 1) (g 8 1) (g 3 1) (g 7 1) H_4.size (zCn σ 1) (xAr g σ 1) (hRI.l (by decide)) hE (by omega) (fun j hj => if_neg (by omega)) hel ⟨2, _, by decide, hOI⟩ ⟨hne, fun z => by have := hlt 2 1 (by show 0 ≤ (1 : Int) ∧ (1 : Int) < 3; decide); omega⟩ hFA) (cwV 1 hts gX4_pilot_Jx4a65c_add_9ea2d rfl rfl rfl (by decide +kernel) ⟨Nat.le_of_ble_eq_true rfl, Nat.le_of_ble_eq_true rfl⟩) hG hSI (z_recv hK (hRI.l (by decide)) rfl) rfl hl.1 rfl (Nat.le_of_ble_eq_true rfl) dX4_pilot_43 ⟨Nat.le_of_ble_eq_true rfl, Nat.le_of_ble_eq_true rfl⟩ (fun r3 HA LA hpA hLA => ?_)
  obtain ⟨ea2, cap2, eA, hA2, hA3, hA4, hA5, hA6, hA7⟩ := hpA
  rw [eA]
  have hAe : A ea2 := by
    rcases hA5 with z | z
    · exact hG.2.2.2.2.1 _ (Nat.le_trans hSI.1 z)
    · rw [z.1]; exact hFA _ (Or.inr (Or.inl ⟨z.2, rfl⟩))
  have hRA : RX D cO A eE (gAdd g 1 (σ 11 0) 5 H_4.size ea2 cap2) (zst_pilot σ a b) HA := RX_add1 (σ' := zst_pilot σ a b) hRI (by omega) (by simp [zst_pilot, zup]) (⟨by simp [zst_pilot, zup], by simp [zst_pilot, zup]⟩) (fun t j hv h2 h3 => by
      match t, hv with
      | 0, hv => rfl
      | 1, hv => rfl
      | 2, hv => exact absurd rfl h2
      | 3, hv => exact absurd rfl h3
      | 4, hv => rfl
      | 5, hv =>
        have hv2 : 0 ≤ j ∧ j < σ 11 0 := hv
        have q : j ≠ σ 11 0 := by omega
        simp [xE, zst_pilot, zup, q]
      | 6, hv => 
        have hv2 : 0 ≤ j ∧ j < σ 14 0 := hv
        have cj := hI.c hv2
        have e4 : (gAdd g 1 (σ 11 0) 5 (H_4.size) ea2 cap2) 4 (σ 15 j) = g 4 (σ 15 j) := gAdd_o (fun z => by omega) (by omega) (by decide) (by decide)
        have e5 : (if σ 18 j = -1 then none else some ((gAdd g 1 (σ 11 0) 5 (H_4.size) ea2 cap2) 5 (σ 18 j))) = (if σ 18 j = -1 then none else some (g 5 (σ 18 j))) := by
          by_cases z : σ 18 j = -1
          · rw [if_pos z, if_pos z]
          · rw [if_neg z, if_neg z, gAdd_o (fun w => by omega) (by omega) (by decide) (by decide)]
        show (Sum.inr (1, [.ref ((gAdd g 1 (σ 11 0) 5 (H_4.size) ea2 cap2) 4 (σ 15 j)), .int (zI (σ 16 j)), .int (zI (σ 17 j % 2)), .int (zI (σ 17 j / 2 % 2)), va_rf (if σ 18 j = -1 then none else some ((gAdd g 1 (σ 11 0) 5 (H_4.size) ea2 cap2) 5 (σ 18 j))), .int (zI (σ 19 j)), .int (zI (σ 20 j))]) : va_E) = _
        rw [e4, e5]; rfl) (by omega) (fun t j hv => by have := hlt t j hv; omega) hAV hAe (by simp [xE, zst_pilot, zup, h30.1, h30.2]; exact hOI) hA2 hA3 hA4 hA5 hA7
  have hSA : va_S A s.heap HA ((locsH_4 ++ LI) ++ LA) := ⟨Nat.le_trans hSI.1 hA6, fun q h1 h2 => (hA7 q (Nat.lt_of_lt_of_le h1 hSI.1) (fun z => h2 (hFA q (Or.inl z))) (fun z => h2 (hFA q (Or.inr (Or.inl z))))).trans (hSI.2.1 q h1 h2), fun q hq => by
    rcases List.mem_append.mp hq with z | z
    · exact hSI.2.2 q z
    · exact hFA _ (hLA q z)⟩
  refine lv_pop hx hb dX4_pilot_46 rfl ?_
  refine lv_iload_n hx hb dX4_pilot_47 rfl (lv_at hl 0 rfl) ?_
  exact vx_ret (W.widen (k := 5) (n := 83) (Nat.le_of_ble_eq_true rfl) (Nat.le_of_ble_eq_true rfl) (W.iret hx hb hr (z_endG (post := fun rv σ' g' => (zth_pilot σ a b = 0 ∧ rv = some (.int (zI (zan_pilot σ))) ∧ σ' = zst_pilot σ a b) ∧ g' 0 0 = g 0 0) (σ' := zst_pilot σ a b) (g' := (gAdd g 1 (σ 11 0) 5 H_4.size ea2 cap2)) (v := (some (.int (zI (σ 11 0))))) ⟨⟨(by unfold zth_pilot; (repeat' split) <;> omega), rfl, rfl⟩, gAdd_o (by omega) (by omega) (by decide) (by decide)⟩ hRA hSA) hSA.2.2 dX4_pilot_48))

theorem lk_X4_call_68 : Cond.fieldLink RX4 68 "HarbourPilotline" "now" "I" ∈ wsX4_call := by decide +kernel
theorem lk_X4_call_26 : Cond.fieldLink RX4 26 "HarbourPilotline" "conferences" "Ljava/util/ArrayList;" ∈ wsX4_call := by decide +kernel
theorem ck_X4_call_71 : Cond.classLink RX4 71 RX0 ∈ wsX4_call := by decide +kernel
theorem ci_X4_call_71 : Cond.instantiable RX0 7 ∈ wsX4_call := by decide +kernel
theorem cj_X4_call_71 : Cond.initialized RX0 ∈ wsX4_call := by decide +kernel
theorem cl_X4_call_73 : Cond.methodLink RX4 73 yX0_init ∈ wsX4_call ∧ Cond.instanceMethod yX0_init ∈ wsX4_call ∧ Cond.initialized RX0 ∈ wsX4_call := by decide +kernel
theorem in_X4_call_X0 : ∀ w ∈ wsX00, w ∈ wsX4_call := by decide +kernel
theorem in_X4_call_X4 : ∀ w ∈ wsX40, w ∈ wsX4_call := by decide +kernel
set_option maxRecDepth 100000 in
set_option maxHeartbeats 4000000 in
theorem c_X4_call (l : Launch) (hfl : l.stackTraces = false) (D : va_G) (cI cO cL : ClassId) (A : Nat → Prop) (eE mi : Nat) (sa : Nat → Nat) (g : zG) (σ : zT) (H0 : Heap) (hR : RX D cO A eE g σ H0) (k w : Int) (hI : zInv σ) (h17 : σ 17 (σ 14 0) = 0) (hA : (-2147483648 ≤ k ∧ k < 2147483648) ∧ (-2147483648 ≤ w ∧ w < 2147483648)) : zXM l yX4_call wsX4_call ({ frames := 7, cells := 5, slots := 85, locals := 221 }) D cI cO cL A eE mi sa g σ [.ref (g 0 0), .int (zI k), .int (zI w)] H0 (fun rv σ' g' => (zth_call σ k w = 0 ∧ rv = some (.int (zI (zan_call σ))) ∧ σ' = zst_call σ k w) ∧ g' 0 0 = g 0 0) (fun E => (zth_call σ k w = 1 ∧ E = xIO) ∨ (zth_call σ k w = 2 ∧ E = xIA) ∨ (zth_call σ k w = 3 ∧ E = xIS)) := by
  refine vx_ofW (cc := cX4_call) (maxL := 5) (ret := (some .int)) (by decide) rfl ?_
  intro p e s m args below meth c s₁ B hml hno hv
  obtain ⟨rfl, hH, hG⟩ := hv
  subst hH
  have hK := hG.k
  have hx := B.exec
  have hb := B.bytes
  have hr := B.returns
  have hts := atoms_spec (ws := wsX4_call) B.pre
  have hown : s.vm.findClass RX4 = some m.cls := findClass_of_methodNamed B.named
  have hlocks := B.notSynchronized
  have hl := lv_entry ([.ref (g 0 0), .int (zI k), .int (zI w)]) (n := 5) (Nat.le_of_ble_eq_true rfl)
  rw [lg_entry_eq]
  generalize (lg_sl ([.ref (g 0 0), .int (zI k), .int (zI w)]) ++ List.replicate (5 - (lg_sl ([.ref (g 0 0), .int (zI k), .int (zI w)])).length) Slot.unset).toArray = ls at hl ⊢
  have hl : lv_has ls 5 [(0, .ref (g 0 0)), (1, .int (zI k)), (2, .int (zI w))] := hl
  have f0 := hI.r
  refine lv_aload_n hx hb dX4_call_0 rfl (lv_at hl 0 rfl) ?_
  refine lv_iload_n hx hb dX4_call_1 rfl (lv_at hl 1 rfl) ?_
  refine z_xmV (As := [.int (zI k)]) (rest := []) ⟨hx, hb, hml, hown, hts⟩ (c_X4_shipAt l hfl D cI cO cL A eE mi sa g σ s.heap hR k hI (by omega)) (cwV 1 hts gX4_call_X4_shipAt rfl rfl rfl (by decide +kernel) ⟨Nat.le_of_ble_eq_true rfl, Nat.le_of_ble_eq_true rfl⟩) hG va_S.rf (z_recv hK hR.x rfl) rfl hl.1 rfl (Nat.le_of_ble_eq_true rfl) dX4_call_2 ⟨Nat.le_of_ble_eq_true rfl, Nat.le_of_ble_eq_true rfl⟩ (fun E ce q9 H1 locs1 hpx hRx hzx hkx hSx hcx hvx hclx => by
    obtain ⟨hn, rfl⟩ := hpx
    exact z_xout (px' := fun E => (zth_call σ k w = 1 ∧ E = xIO) ∨ (zth_call σ k w = 2 ∧ E = xIA) ∨ (zth_call σ k w = 3 ∧ E = xIS)) hno hlocks hcx hvx hclx (Or.inl ⟨by unfold zth_call; (repeat' split) <;> omega, rfl⟩) hRx hSx ⟨Nat.le_of_ble_eq_true rfl, Nat.le_of_ble_eq_true rfl⟩) (fun rH_1 σH_1 gH_1 H_1 locsH_1 hpH_1 hRH_1 hzH_1 hkH_1 hSH_1 => ?_)
  obtain ⟨hdH_1, erH_1, esH_1, egH_1⟩ := hpH_1
  rw [esH_1, egH_1] at hRH_1
  rw [erH_1]
  have hk := hdH_1
  have gk := hI.s hk
  refine lv_astore_n (lv' := [(3, .ref (g 4 k)), (0, .ref (g 0 0)), (1, .int (zI k)), (2, .int (zI w))]) hx hb dX4_call_5 rfl hl (by decide) rfl (fun ls hl => ?_)
  refine lv_iload_n hx hb dX4_call_6 rfl (lv_at hl 3 rfl) ?_
  refine lv_aload_n hx hb dX4_call_7 rfl (lv_at hl 1 rfl) ?_
  refine z_get hx hb hts in_X4_call_X4 hown hK hRH_1.x rfl 5 (by decide) lk_X4_call_68 rfl rfl dX4_call_8 ?_
  refine z_sipush hx hb dX4_call_11 (by decide +kernel) ?_
  refine z_xmS (As := [.int (zI w), .int (zI (σ 1 0)), .int (zI 20000)]) (rest := []) ⟨hx, hb, hml, hown, hts⟩ (c_X4_demandWithin l hfl D cI cO cL A eE mi sa g σ H_1 hRH_1 w (σ 1 0) 20000 (by omega)) (va_cwS 3 hts gX4_call_X4_demandWithin rfl rfl rfl (by decide +kernel) ⟨Nat.le_of_ble_eq_true rfl, Nat.le_of_ble_eq_true rfl⟩) hG hSH_1 rfl hl.1 rfl (Nat.le_of_ble_eq_true rfl) dX4_call_14 ⟨Nat.le_of_ble_eq_true rfl, Nat.le_of_ble_eq_true rfl⟩ (fun E ce q9 H1 locs1 hpx hRx hzx hkx hSx hcx hvx hclx => by
    obtain ⟨hn, rfl⟩ := hpx
    exact z_xout (px' := fun E => (zth_call σ k w = 1 ∧ E = xIO) ∨ (zth_call σ k w = 2 ∧ E = xIA) ∨ (zth_call σ k w = 3 ∧ E = xIS)) hno hlocks hcx hvx hclx (Or.inr (Or.inl ⟨by unfold zth_call; (repeat' split) <;> omega, rfl⟩)) hRx hSx ⟨Nat.le_of_ble_eq_true rfl, Nat.le_of_ble_eq_true rfl⟩) (fun rH_2 σH_2 gH_2 H_2 locsH_2 hpH_2 hRH_2 hzH_2 hkH_2 hSH_2 => ?_)
  obtain ⟨hdH_2, erH_2, esH_2, egH_2⟩ := hpH_2
  rw [esH_2, egH_2] at hRH_2
  rw [erH_2]
  refine lv_aload_n hx hb dX4_call_17 rfl (lv_at hl 1 rfl) ?_
  refine z_get hx hb hts in_X4_call_X4 hown hK hRH_2.x rfl 3 (by decide) lk_X4_call_26 rfl rfl dX4_call_18 ?_
  refine z_cv (As := []) (rest := []) ⟨hx, hb, hml, hown, hts⟩ (c_size l cI cL hRH_2 (i := 2) (by decide)) (cwV 0 hts gX4_call_Jx4a65c_size_8abf5 rfl rfl rfl (by decide +kernel) ⟨Nat.le_of_ble_eq_true rfl, Nat.le_of_ble_eq_true rfl⟩) (zKK_mv D cI cO cL) (fun U _ hv => va_K.moved hv hK) (z_recv hK (hRH_2.l (i := 2) (by decide)) rfl) rfl hl.1 rfl (Nat.le_of_ble_eq_true rfl) dX4_call_21 ⟨Nat.le_of_ble_eq_true rfl, Nat.le_of_ble_eq_true rfl⟩ (fun r_3 hr_3 => ?_)
  rw [hr_3]
  refine z_top (b := σ 14 0) rfl ?_
  refine lv_istore (lv' := [(4, .int (zI (σ 14 0))), (3, .ref (g 4 k)), (0, .ref (g 0 0)), (1, .int (zI k)), (2, .int (zI w))]) hx hb dX4_call_24 hl (by decide) rfl (fun ls hl => ?_)
  refine lv_iload hx hb dX4_call_26 (lv_at hl 0 rfl) ?_
  refine z_bipush hx hb dX4_call_28 (by decide +kernel) ?_
  refine z_xmS (As := [.int (zI (σ 14 0)), .int (zI 40)]) (rest := []) ⟨hx, hb, hml, hown, hts⟩ (c_X4_demandRoom l hfl D cI cO cL A eE mi sa g σ H_2 hRH_2 (σ 14 0) 40 (by omega)) (va_cwS 2 hts gX4_call_X4_demandRoom rfl rfl rfl (by decide +kernel) ⟨Nat.le_of_ble_eq_true rfl, Nat.le_of_ble_eq_true rfl⟩) hG hSH_2 rfl hl.1 rfl (Nat.le_of_ble_eq_true rfl) dX4_call_30 ⟨Nat.le_of_ble_eq_true rfl, Nat.le_of_ble_eq_true rfl⟩ (fun E ce q9 H1 locs1 hpx hRx hzx hkx hSx hcx hvx hclx => by
    obtain ⟨hn, rfl⟩ := hpx
    exact z_xout (px' := fun E => (zth_call σ k w = 1 ∧ E = xIO) ∨ (zth_call σ k w = 2 ∧ E = xIA) ∨ (zth_call σ k w = 3 ∧ E = xIS)) hno hlocks hcx hvx hclx (Or.inr (Or.inr (⟨by unfold zth_call; (repeat' split) <;> omega, rfl⟩))) hRx hSx ⟨Nat.le_of_ble_eq_true rfl, Nat.le_of_ble_eq_true rfl⟩) (fun rH_4 σH_4 gH_4 H_4 locsH_4 hpH_4 hRH_4 hzH_4 hkH_4 hSH_4 => ?_)
  obtain ⟨hdH_4, erH_4, esH_4, egH_4⟩ := hpH_4
  rw [esH_4, egH_4] at hRH_4
  rw [erH_4]
  refine lv_aload_n hx hb dX4_call_33 rfl (lv_at hl 2 rfl) ?_
  refine z_get hx hb hts in_X4_call_X4 hown hK hRH_4.x rfl 3 (by decide) lk_X4_call_26 rfl rfl dX4_call_34 ?_
  refine z_new hx hb hts in_X4_call_X0 tyX0 tyX0_ok hown ck_X4_call_71 ci_X4_call_71 cj_X4_call_71 hK hSH_4 (ci := 1) rfl (fs := [.null, .int (zI 0), .int (zI 0), .int (zI 0), .null, .int (zI 0), .int (zI 0)]) (by intro j hj; match j, hj with | 0, _ => rfl | 1, _ => rfl | 2, _ => rfl | 3, _ => rfl | 4, _ => rfl | 5, _ => rfl | 6, _ => rfl | n9 + 7, h9 => exact absurd h9 (by omega)) (Nat.le_of_ble_eq_true rfl) (Nat.le_of_ble_eq_true rfl) dX4_call_37 (fun HN hO1 hzN hoN hSN => ?_)
  have hRN := hRH_4.kept (fun q h1 _ => hoN q h1)
  refine lv_dup hx hb dX4_call_40 rfl ?_
  refine lv_aload_n hx hb dX4_call_41 rfl (lv_at hl 1 rfl) ?_
  refine lv_iload_n hx hb dX4_call_42 rfl (lv_at hl 4 rfl) ?_
  refine z_gI (As := [.ref (g 4 k), .int (zI w)]) (rest := [.ref H_4.size, .ref (g 2 2)]) ⟨hx, hb, hml, hown, hts⟩ (c_X0_init l D cI cO cL A eE mi sa HN H_4.size (g 4 k) w hO1) (cwI 2 hts gX4_call_X0_init rfl rfl rfl (hts _ cl_X4_call_73.2.2) (hts _ cl_X4_call_73.1) (hts _ cl_X4_call_73.2.1) rfl (by decide +kernel) ⟨Nat.le_of_ble_eq_true rfl, Nat.le_of_ble_eq_true rfl⟩) hG hSN rfl hl.1 rfl (Nat.le_of_ble_eq_true rfl) dX4_call_43 ⟨Nat.le_of_ble_eq_true rfl, Nat.le_of_ble_eq_true rfl⟩ (fun r2 HI LI hpI hLI => ?_)
  obtain ⟨eI, hOI, hzI, hkI⟩ := hpI
  rw [eI]
  have hAV : A H_4.size := hG.2.2.2.2.1 _ (hSH_4.1)
  have hSI : va_S A s.heap HI (locsH_4 ++ LI) := ⟨by rw [hzI]; exact hSN.1, fun q h1 h2 => (hkI q (fun z => by rw [z] at h2; exact h2 hAV)).trans (hSN.2.1 q h1 h2), fun q hq => by
    rcases List.mem_append.mp hq with z | z
    · exact hSN.2.2 q z
    · have z2 : q.base = H_4.size := hLI q z
      rw [z2]; exact hAV⟩
  have hRI := hRH_4.kept (H1 := HI) (fun q h1 _ => (hkI q (by omega)).trans (hoN q h1))
  have hcp := hRI.2.2.2 2 (by decide) (by decide)
  have hcn : zCn σ 2 = σ 14 0 := rfl
  have hlt : ∀ t j, xVal g σ t j → g t j < H_4.size := fun t j hv => z_lt (hRH_4.1 t j hv)
  have hFA : ∀ q : Nat, (q = g 2 2 ∨ (0 < g 7 2 ∧ q = g 3 2) ∨ HI.size ≤ q) → A q := fun q hq => by
    rcases hq with z | z | z
    · rw [z]; exact hRI.ow (t := 2) (i := 2) (by show 0 ≤ (2 : Int) ∧ (2 : Int) < 3; decide)
    · rw [z.2]; exact hRI.ow (t := 3) (i := 2) ⟨by decide, z.1⟩
    · exact hG.2.2.2.2.1 q (Nat.le_trans hSI.1 z)
  have hE : (g 7 2 = 0 ∧ g 3 2 = eE) ∨ (0 < g 7 2 ∧ va_at D vwCl (g 3 2, zQ cO (g 7 2) (xAr g σ 2)) HI) := by
    by_cases z : 0 < g 7 2
    · exact Or.inr ⟨z, hRI.a (by decide) z⟩
    · exact Or.inl ⟨by omega, hcp.2.2 (by omega)⟩
  have hel : ∀ j y, xAr g σ 2 j = some y → xIsE D HI y := fun j y hy => by
    have hy2 : (if (j : Int) < σ 14 0 then some (g 6 j) else none) = some y := hy
    split at hy2
    · cases hy2; exact ⟨1, _, by decide, hRI.1 6 j (show 0 ≤ (j : Int) ∧ (j : Int) < σ 14 0 by omega)⟩
    · cases hy2
  have hne : g 2 2 ≠ g 3 2 := fun z => by
    by_cases w : 0 < g 7 2
    · exact absurd (hRI.2.1 2 2 3 2 (by show 0 ≤ (2 : Int) ∧ (2 : Int) < 3; decide) ⟨by decide, w⟩ z).1 (by decide)
    · exact hG.2.2.2.1 (by rw [← hcp.2.2 (by omega), ← z]; exact hRI.ow (t := 2) (i := 2) (by show 0 ≤ (2 : Int) ∧ (2 : Int) < 3; decide))
  refine z_gV (As := [.ref H_4.size]) (rest := []) ⟨hx, hb, hml, hown, hts⟩ (c_Jx4a65c_add_9ea2d l D cI cO cL A eE mi sa HI (g 2 2) (g 8 2) (g 3 2) (g 7 2) H_4.size (zCn σ 2) (xAr g σ 2) (hRI.l (by decide)) hE (by omega) (fun j hj => if_neg (by omega)) hel ⟨1, _, by decide, hOI⟩ ⟨hne, fun z => by have := hlt 2 2 (by show 0 ≤ (2 : Int) ∧ (2 : Int) < 3; decide); omega⟩ hFA) (cwV 1 hts gX4_call_Jx4a65c_add_9ea2d rfl rfl rfl (by decide +kernel) ⟨Nat.le_of_ble_eq_true rfl, Nat.le_of_ble_eq_true rfl⟩) hG hSI (z_recv hK (hRI.l (by decide)) rfl) rfl hl.1 rfl (Nat.le_of_ble_eq_true rfl) dX4_call_46 ⟨Nat.le_of_ble_eq_true rfl, Nat.le_of_ble_eq_true rfl⟩ (fun r3 HA LA hpA hLA => ?_)
  obtain ⟨ea2, cap2, eA, hA2, hA3, hA4, hA5, hA6, hA7⟩ := hpA
  rw [eA]
  have hAe : A ea2 := by
    rcases hA5 with z | z
    · exact hG.2.2.2.2.1 _ (Nat.le_trans hSI.1 z)
    · rw [z.1]; exact hFA _ (Or.inr (Or.inl ⟨z.2, rfl⟩))
  have hRA : RX D cO A eE (gAdd g 2 (σ 14 0) 6 H_4.size ea2 cap2) (zst_call σ k w) HA := RX_add2 (σ' := zst_call σ k w) hRI (by omega) (by simp [zst_call, zup]) (⟨by simp [zst_call, zup], by simp [zst_call, zup]⟩) (fun t j hv h2 h3 => by
      match t, hv with
      | 0, hv => rfl
      | 1, hv => rfl
      | 2, hv => exact absurd rfl h2
      | 3, hv => exact absurd rfl h3
      | 4, hv => rfl
      | 5, hv => rfl
      | 6, hv =>
        have hv2 : 0 ≤ j ∧ j < σ 14 0 := hv
        have cj := hI.c hv2
        have q : j ≠ σ 14 0 := by omega
        have e4 : (gAdd g 2 (σ 14 0) 6 (H_4.size) ea2 cap2) 4 (σ 15 j) = g 4 (σ 15 j) := gAdd_o (fun z => by omega) (by omega) (by decide) (by decide)
        have e5 : (if σ 18 j = -1 then none else some ((gAdd g 2 (σ 14 0) 6 (H_4.size) ea2 cap2) 5 (σ 18 j))) = (if σ 18 j = -1 then none else some (g 5 (σ 18 j))) := by
          by_cases z : σ 18 j = -1
          · rw [if_pos z, if_pos z]
          · rw [if_neg z, if_neg z, gAdd_o (fun w => by omega) (by omega) (by decide) (by decide)]
        have es : ∀ n : Nat, n ≠ 14 → zst_call σ k w n j = σ n j := fun n hn => by simp [zst_call, zup, q, hn]
        show (Sum.inr (1, [.ref ((gAdd g 2 (σ 14 0) 6 (H_4.size) ea2 cap2) 4 (zst_call σ k w 15 j)), .int (zI (zst_call σ k w 16 j)), .int (zI (zst_call σ k w 17 j % 2)), .int (zI (zst_call σ k w 17 j / 2 % 2)), va_rf (if zst_call σ k w 18 j = -1 then none else some ((gAdd g 2 (σ 14 0) 6 (H_4.size) ea2 cap2) 5 (zst_call σ k w 18 j))), .int (zI (zst_call σ k w 19 j)), .int (zI (zst_call σ k w 20 j))]) : va_E) = _
        rw [es 15 (by decide), es 16 (by decide), es 17 (by decide), es 18 (by decide), es 19 (by decide), es 20 (by decide), e4, e5]; rfl) (by omega) (fun t j hv => by have := hlt t j hv; omega) hAV hAe (by
      have e4 : (gAdd g 2 (σ 14 0) 6 (H_4.size) ea2 cap2) 4 k = g 4 k := gAdd_o (by omega) (by omega) (by decide) (by decide)
      have e : xE (gAdd g 2 (σ 14 0) 6 (H_4.size) ea2 cap2) cO (zst_call σ k w) 6 (σ 14 0) = .inr (1, [.ref (g 4 k), .int (zI w), .int (zI 0), .int (zI 0), .null, .int (zI 0), .int (zI (-1))]) := by
        rw [← e4]
        simp [xE, zst_call, zup, h17, xPl, va_rf]
      rw [e]; exact hOI) hA2 hA3 hA4 hA5 hA7
  have hSA : va_S A s.heap HA ((locsH_4 ++ LI) ++ LA) := ⟨Nat.le_trans hSI.1 hA6, fun q h1 h2 => (hA7 q (Nat.lt_of_lt_of_le h1 hSI.1) (fun z => h2 (hFA q (Or.inl z))) (fun z => h2 (hFA q (Or.inr (Or.inl z))))).trans (hSI.2.1 q h1 h2), fun q hq => by
    rcases List.mem_append.mp hq with z | z
    · exact hSI.2.2 q z
    · exact hFA _ (hLA q z)⟩
  refine lv_pop hx hb dX4_call_49 rfl ?_
  refine lv_iload hx hb dX4_call_50 (lv_at hl 0 rfl) ?_
  exact vx_ret (W.widen (k := 5) (n := 85) (Nat.le_of_ble_eq_true rfl) (Nat.le_of_ble_eq_true rfl) (W.iret hx hb hr (z_endG (post := fun rv σ' g' => (zth_call σ k w = 0 ∧ rv = some (.int (zI (zan_call σ))) ∧ σ' = zst_call σ k w) ∧ g' 0 0 = g 0 0) (σ' := zst_call σ k w) (g' := (gAdd g 2 (σ 14 0) 6 H_4.size ea2 cap2)) (v := (some (.int (zI (σ 14 0))))) ⟨⟨(by unfold zth_call; (repeat' split) <;> omega), rfl, rfl⟩, gAdd_o (by omega) (by omega) (by decide) (by decide)⟩ hRA hSA) hSA.2.2 dX4_call_52))
