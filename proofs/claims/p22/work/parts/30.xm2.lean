/-! the class: its public methods, but join and those that allocate -/
theorem lk_X4_tide_10 : Cond.fieldLink RX4 10 "HarbourPilotline" "tide" "LHarbourPilotline$Tide;" ∈ wsX4_tide := by decide +kernel
theorem lk_X4_tide_37 : Cond.fieldLink RX4 37 "HarbourPilotline$Tide" "depth" "I" ∈ wsX4_tide := by decide +kernel
theorem lk_X4_tide_40 : Cond.fieldLink RX4 40 "HarbourPilotline$Tide" "rise" "I" ∈ wsX4_tide := by decide +kernel
theorem in_X4_tide_X3 : ∀ w ∈ wsX30, w ∈ wsX4_tide := by decide +kernel
theorem in_X4_tide_X4 : ∀ w ∈ wsX40, w ∈ wsX4_tide := by decide +kernel
set_option maxRecDepth 100000 in
set_option maxHeartbeats 4000000 in
theorem c_X4_tide (l : Launch) (hfl : l.stackTraces = false) (D : va_G) (cI cO cL : ClassId) (A : Nat → Prop) (eE mi : Nat) (sa : Nat → Nat) (g : zG) (σ : zT) (H0 : Heap) (hR : RX D cO A eE g σ H0) (d r : Int) (hI : zInv σ) (hA : (-2147483648 ≤ d ∧ d < 2147483648) ∧ (-2147483648 ≤ r ∧ r < 2147483648)) : zXM l yX4_tide wsX4_tide ({ frames := 7, cells := 2, slots := 12, locals := 104 }) D cI cO cL A eE mi sa g σ [.ref (g 0 0), .int (zI d), .int (zI r)] H0 (fun rv σ' g' => (zth_tide d r = 0 ∧ rv = none ∧ σ' = zst_tide σ d r) ∧ g' 0 0 = g 0 0) (fun E => (zth_tide d r = 1 ∧ E = xIA)) := by
  refine vx_ofW (cc := cX4_tide) (maxL := 3) (ret := none) (by decide) rfl ?_
  intro p e s m args below meth c s₁ B hml hno hv
  obtain ⟨rfl, hH, hG⟩ := hv
  subst hH
  have hK := hG.k
  have hx := B.exec
  have hb := B.bytes
  have hr := B.returns
  have hts := atoms_spec (ws := wsX4_tide) B.pre
  have hown : s.vm.findClass RX4 = some m.cls := findClass_of_methodNamed B.named
  have hlocks := B.notSynchronized
  have hl := lv_entry ([.ref (g 0 0), .int (zI d), .int (zI r)]) (n := 3) (Nat.le_of_ble_eq_true rfl)
  rw [lg_entry_eq]
  generalize (lg_sl ([.ref (g 0 0), .int (zI d), .int (zI r)]) ++ List.replicate (3 - (lg_sl ([.ref (g 0 0), .int (zI d), .int (zI r)])).length) Slot.unset).toArray = ls at hl ⊢
  have hl : lv_has ls 3 [(0, .ref (g 0 0)), (1, .int (zI d)), (2, .int (zI r))] := hl
  refine lv_iload_n hx hb dX4_tide_0 rfl (lv_at hl 1 rfl) ?_
  refine z_bipush hx hb dX4_tide_1 (by decide +kernel) ?_
  refine z_sipush hx hb dX4_tide_3 (by decide +kernel) ?_
  refine z_xmS (As := [.int (zI d), .int (zI 10), .int (zI 300)]) (rest := []) ⟨hx, hb, hml, hown, hts⟩ (c_X4_demandWithin l hfl D cI cO cL A eE mi sa g σ s.heap hR d 10 300 (by omega)) (va_cwS 3 hts gX4_tide_X4_demandWithin rfl rfl rfl (by decide +kernel) ⟨Nat.le_of_ble_eq_true rfl, Nat.le_of_ble_eq_true rfl⟩) hG va_S.rf rfl hl.1 rfl (Nat.le_of_ble_eq_true rfl) dX4_tide_6 ⟨Nat.le_of_ble_eq_true rfl, Nat.le_of_ble_eq_true rfl⟩ (fun E ce q9 H1 locs1 hpx hRx hzx hkx hSx hcx hvx hclx => by
    obtain ⟨hn, rfl⟩ := hpx
    exact z_xout (px' := fun E => (zth_tide d r = 1 ∧ E = xIA)) hno hlocks hcx hvx hclx (⟨by unfold zth_tide; (repeat' split) <;> omega, rfl⟩) hRx hSx ⟨Nat.le_of_ble_eq_true rfl, Nat.le_of_ble_eq_true rfl⟩) (fun rH_1 σH_1 gH_1 H_1 locsH_1 hpH_1 hRH_1 hzH_1 hkH_1 hSH_1 => ?_)
  obtain ⟨hdH_1, erH_1, esH_1, egH_1⟩ := hpH_1
  rw [esH_1, egH_1] at hRH_1
  rw [erH_1]
  refine lv_iload_n hx hb dX4_tide_9 rfl (lv_at hl 2 rfl) ?_
  refine z_iconst hx hb dX4_tide_10 ?_
  refine z_sipush hx hb dX4_tide_11 (by decide +kernel) ?_
  refine z_xmS (As := [.int (zI r), .int (zI 0), .int (zI 200)]) (rest := []) ⟨hx, hb, hml, hown, hts⟩ (c_X4_demandWithin l hfl D cI cO cL A eE mi sa g σ H_1 hRH_1 r 0 200 (by omega)) (va_cwS 3 hts gX4_tide_X4_demandWithin rfl rfl rfl (by decide +kernel) ⟨Nat.le_of_ble_eq_true rfl, Nat.le_of_ble_eq_true rfl⟩) hG hSH_1 rfl hl.1 rfl (Nat.le_of_ble_eq_true rfl) dX4_tide_14 ⟨Nat.le_of_ble_eq_true rfl, Nat.le_of_ble_eq_true rfl⟩ (fun E ce q9 H1 locs1 hpx hRx hzx hkx hSx hcx hvx hclx => by
    obtain ⟨hn, rfl⟩ := hpx
    exact z_xout (px' := fun E => (zth_tide d r = 1 ∧ E = xIA)) hno hlocks hcx hvx hclx (⟨by unfold zth_tide; (repeat' split) <;> omega, rfl⟩) hRx hSx ⟨Nat.le_of_ble_eq_true rfl, Nat.le_of_ble_eq_true rfl⟩) (fun rH_2 σH_2 gH_2 H_2 locsH_2 hpH_2 hRH_2 hzH_2 hkH_2 hSH_2 => ?_)
  obtain ⟨hdH_2, erH_2, esH_2, egH_2⟩ := hpH_2
  rw [esH_2, egH_2] at hRH_2
  rw [erH_2]
  refine lv_aload_n hx hb dX4_tide_17 rfl (lv_at hl 0 rfl) ?_
  refine z_get hx hb hts in_X4_tide_X4 hown hK hRH_2.x rfl 0 (by decide) lk_X4_tide_10 rfl rfl dX4_tide_18 ?_
  refine lv_iload_n hx hb dX4_tide_21 rfl (lv_at hl 1 rfl) ?_
  refine x_put hx hb hts in_X4_tide_X3 tyX3 tyX3_ok nmX3 hown hK hRH_2 hSH_2 1 0 (by decide) rfl rfl rfl 0 (by decide) lk_X4_tide_37 rfl rfl rfl rfl (Nat.le_of_ble_eq_true rfl) (zup σ 2 0 d) (zOth.up (t := 1) (n := 2) zOth.rf rfl) xe_2 dX4_tide_22 (fun H_3 locsH_3 hRH_3 hzH_3 hSH_3 => ?_)
  refine lv_aload_n hx hb dX4_tide_25 rfl (lv_at hl 0 rfl) ?_
  refine z_get hx hb hts in_X4_tide_X4 hown hK hRH_3.x rfl 0 (by decide) lk_X4_tide_10 rfl rfl dX4_tide_26 ?_
  refine lv_iload_n hx hb dX4_tide_29 rfl (lv_at hl 2 rfl) ?_
  refine x_put hx hb hts in_X4_tide_X3 tyX3 tyX3_ok nmX3 hown hK hRH_3 hSH_3 1 0 (by decide) rfl rfl rfl 1 (by decide) lk_X4_tide_40 rfl rfl rfl rfl (Nat.le_of_ble_eq_true rfl) (zup (zup σ 2 0 d) 3 0 r) (zOth.up (t := 1) (n := 3) zOth.rf rfl) xe_3 dX4_tide_30 (fun H_4 locsH_4 hRH_4 hzH_4 hSH_4 => ?_)
  exact vx_ret (W.widen (k := 2) (n := 12) (Nat.le_of_ble_eq_true rfl) (Nat.le_of_ble_eq_true rfl) (W.vret hx hb hr (z_endG (post := fun rv σ' g' => (zth_tide d r = 0 ∧ rv = none ∧ σ' = zst_tide σ d r) ∧ g' 0 0 = g 0 0) (σ' := zst_tide σ d r) (g' := g) (v := none) ⟨⟨(by unfold zth_tide; (repeat' split) <;> omega), rfl, rfl⟩, rfl⟩ hRH_4 hSH_4) hSH_4.2.2 dX4_tide_33))

theorem lk_X4_tugs_29 : Cond.fieldLink RX4 29 "HarbourPilotline" "tugs" "I" ∈ wsX4_tugs := by decide +kernel
theorem in_X4_tugs_X4 : ∀ w ∈ wsX40, w ∈ wsX4_tugs := by decide +kernel
set_option maxRecDepth 100000 in
set_option maxHeartbeats 4000000 in
theorem c_X4_tugs (l : Launch) (hfl : l.stackTraces = false) (D : va_G) (cI cO cL : ClassId) (A : Nat → Prop) (eE mi : Nat) (sa : Nat → Nat) (g : zG) (σ : zT) (H0 : Heap) (hR : RX D cO A eE g σ H0) (n : Int) (hI : zInv σ) (hA : (-2147483648 ≤ n ∧ n < 2147483648)) : zXM l yX4_tugs wsX4_tugs ({ frames := 7, cells := 1, slots := 6, locals := 104 }) D cI cO cL A eE mi sa g σ [.ref (g 0 0), .int (zI n)] H0 (fun rv σ' g' => (zth_tugs n = 0 ∧ rv = some (.int (zI (zan_tugs σ))) ∧ σ' = zst_tugs σ n) ∧ g' 0 0 = g 0 0) (fun E => (zth_tugs n = 1 ∧ E = xIA)) := by
  refine vx_ofW (cc := cX4_tugs) (maxL := 3) (ret := (some .int)) (by decide) rfl ?_
  intro p e s m args below meth c s₁ B hml hno hv
  obtain ⟨rfl, hH, hG⟩ := hv
  subst hH
  have hK := hG.k
  have hx := B.exec
  have hb := B.bytes
  have hr := B.returns
  have hts := atoms_spec (ws := wsX4_tugs) B.pre
  have hown : s.vm.findClass RX4 = some m.cls := findClass_of_methodNamed B.named
  have hlocks := B.notSynchronized
  have hl := lv_entry ([.ref (g 0 0), .int (zI n)]) (n := 3) (Nat.le_of_ble_eq_true rfl)
  rw [lg_entry_eq]
  generalize (lg_sl ([.ref (g 0 0), .int (zI n)]) ++ List.replicate (3 - (lg_sl ([.ref (g 0 0), .int (zI n)])).length) Slot.unset).toArray = ls at hl ⊢
  have hl : lv_has ls 3 [(0, .ref (g 0 0)), (1, .int (zI n))] := hl
  refine lv_iload_n hx hb dX4_tugs_0 rfl (lv_at hl 1 rfl) ?_
  refine z_iconst hx hb dX4_tugs_1 ?_
  refine z_bipush hx hb dX4_tugs_2 (by decide +kernel) ?_
  refine z_xmS (As := [.int (zI n), .int (zI 0), .int (zI 6)]) (rest := []) ⟨hx, hb, hml, hown, hts⟩ (c_X4_demandWithin l hfl D cI cO cL A eE mi sa g σ s.heap hR n 0 6 (by omega)) (va_cwS 3 hts gX4_tugs_X4_demandWithin rfl rfl rfl (by decide +kernel) ⟨Nat.le_of_ble_eq_true rfl, Nat.le_of_ble_eq_true rfl⟩) hG va_S.rf rfl hl.1 rfl (Nat.le_of_ble_eq_true rfl) dX4_tugs_4 ⟨Nat.le_of_ble_eq_true rfl, Nat.le_of_ble_eq_true rfl⟩ (fun E ce q9 H1 locs1 hpx hRx hzx hkx hSx hcx hvx hclx => by
    obtain ⟨hn, rfl⟩ := hpx
    exact z_xout (px' := fun E => (zth_tugs n = 1 ∧ E = xIA)) hno hlocks hcx hvx hclx (⟨by unfold zth_tugs; (repeat' split) <;> omega, rfl⟩) hRx hSx ⟨Nat.le_of_ble_eq_true rfl, Nat.le_of_ble_eq_true rfl⟩) (fun rH_1 σH_1 gH_1 H_1 locsH_1 hpH_1 hRH_1 hzH_1 hkH_1 hSH_1 => ?_)
  obtain ⟨hdH_1, erH_1, esH_1, egH_1⟩ := hpH_1
  rw [esH_1, egH_1] at hRH_1
  rw [erH_1]
  refine lv_aload_n hx hb dX4_tugs_7 rfl (lv_at hl 0 rfl) ?_
  refine z_get hx hb hts in_X4_tugs_X4 hown hK hRH_1.x rfl 4 (by decide) lk_X4_tugs_29 rfl rfl dX4_tugs_8 ?_
  refine lv_istore_n (lv' := [(2, .int (zI (σ 4 0))), (0, .ref (g 0 0)), (1, .int (zI n))]) hx hb dX4_tugs_11 rfl hl (by decide) rfl (fun ls hl => ?_)
  refine lv_aload_n hx hb dX4_tugs_12 rfl (lv_at hl 1 rfl) ?_
  refine lv_iload_n hx hb dX4_tugs_13 rfl (lv_at hl 2 rfl) ?_
  refine x_put hx hb hts in_X4_tugs_X4 tyX4 tyX4_ok nmX4 hown hK hRH_1 hSH_1 0 0 (by decide) rfl rfl rfl 4 (by decide) lk_X4_tugs_29 rfl rfl rfl rfl (Nat.le_of_ble_eq_true rfl) (zup σ 4 0 n) (zOth.up (t := 0) (n := 4) zOth.rf rfl) xe_4 dX4_tugs_14 (fun H_2 locsH_2 hRH_2 hzH_2 hSH_2 => ?_)
  refine lv_iload_n hx hb dX4_tugs_17 rfl (lv_at hl 0 rfl) ?_
  exact vx_ret (W.widen (k := 1) (n := 6) (Nat.le_of_ble_eq_true rfl) (Nat.le_of_ble_eq_true rfl) (W.iret hx hb hr (z_endG (post := fun rv σ' g' => (zth_tugs n = 0 ∧ rv = some (.int (zI (zan_tugs σ))) ∧ σ' = zst_tugs σ n) ∧ g' 0 0 = g 0 0) (σ' := zst_tugs σ n) (g' := g) (v := (some (.int (zI (σ 4 0))))) ⟨⟨(by unfold zth_tugs; (repeat' split) <;> omega), rfl, rfl⟩, rfl⟩ hRH_2 hSH_2) hSH_2.2.2 dX4_tugs_18))

theorem lk_X4_level_10 : Cond.fieldLink RX4 10 "HarbourPilotline" "tide" "LHarbourPilotline$Tide;" ∈ wsX4_level := by decide +kernel
theorem in_X4_level_X4 : ∀ w ∈ wsX40, w ∈ wsX4_level := by decide +kernel
set_option maxRecDepth 100000 in
set_option maxHeartbeats 4000000 in
theorem c_X4_level (l : Launch) (hfl : l.stackTraces = false) (D : va_G) (cI cO cL : ClassId) (A : Nat → Prop) (eE mi : Nat) (sa : Nat → Nat) (g : zG) (σ : zT) (H0 : Heap) (hR : RX D cO A eE g σ H0) (t : Int) (hI : zInv σ) (hA : (-2147483648 ≤ t ∧ t < 2147483648)) : zXM l yX4_level wsX4_level ({ frames := 7, cells := 1, slots := 6, locals := 104 }) D cI cO cL A eE mi sa g σ [.ref (g 0 0), .int (zI t)] H0 (fun rv σ' g' => (zth_level t = 0 ∧ rv = some (.int (zI (zLev σ t))) ∧ σ' = σ) ∧ g' 0 0 = g 0 0) (fun E => (zth_level t = 1 ∧ E = xIA)) := by
  refine vx_ofW (cc := cX4_level) (maxL := 2) (ret := (some .int)) (by decide) rfl ?_
  intro p e s m args below meth c s₁ B hml hno hv
  obtain ⟨rfl, hH, hG⟩ := hv
  subst hH
  have hK := hG.k
  have hx := B.exec
  have hb := B.bytes
  have hr := B.returns
  have hts := atoms_spec (ws := wsX4_level) B.pre
  have hown : s.vm.findClass RX4 = some m.cls := findClass_of_methodNamed B.named
  have hlocks := B.notSynchronized
  have hl := lv_entry ([.ref (g 0 0), .int (zI t)]) (n := 2) (Nat.le_of_ble_eq_true rfl)
  rw [lg_entry_eq]
  generalize (lg_sl ([.ref (g 0 0), .int (zI t)]) ++ List.replicate (2 - (lg_sl ([.ref (g 0 0), .int (zI t)])).length) Slot.unset).toArray = ls at hl ⊢
  have hl : lv_has ls 2 [(0, .ref (g 0 0)), (1, .int (zI t))] := hl
  refine lv_iload_n hx hb dX4_level_0 rfl (lv_at hl 1 rfl) ?_
  refine z_iconst hx hb dX4_level_1 ?_
  refine z_sipush hx hb dX4_level_2 (by decide +kernel) ?_
  refine z_xmS (As := [.int (zI t), .int (zI 0), .int (zI 30000)]) (rest := []) ⟨hx, hb, hml, hown, hts⟩ (c_X4_demandWithin l hfl D cI cO cL A eE mi sa g σ s.heap hR t 0 30000 (by omega)) (va_cwS 3 hts gX4_level_X4_demandWithin rfl rfl rfl (by decide +kernel) ⟨Nat.le_of_ble_eq_true rfl, Nat.le_of_ble_eq_true rfl⟩) hG va_S.rf rfl hl.1 rfl (Nat.le_of_ble_eq_true rfl) dX4_level_5 ⟨Nat.le_of_ble_eq_true rfl, Nat.le_of_ble_eq_true rfl⟩ (fun E ce q9 H1 locs1 hpx hRx hzx hkx hSx hcx hvx hclx => by
    obtain ⟨hn, rfl⟩ := hpx
    exact z_xout (px' := fun E => (zth_level t = 1 ∧ E = xIA)) hno hlocks hcx hvx hclx (⟨by unfold zth_level; (repeat' split) <;> omega, rfl⟩) hRx hSx ⟨Nat.le_of_ble_eq_true rfl, Nat.le_of_ble_eq_true rfl⟩) (fun rH_1 σH_1 gH_1 H_1 locsH_1 hpH_1 hRH_1 hzH_1 hkH_1 hSH_1 => ?_)
  obtain ⟨hdH_1, erH_1, esH_1, egH_1⟩ := hpH_1
  rw [esH_1, egH_1] at hRH_1
  rw [erH_1]
  refine lv_aload_n hx hb dX4_level_8 rfl (lv_at hl 0 rfl) ?_
  refine z_get hx hb hts in_X4_level_X4 hown hK hRH_1.x rfl 0 (by decide) lk_X4_level_10 rfl rfl dX4_level_9 ?_
  refine lv_iload_n hx hb dX4_level_12 rfl (lv_at hl 1 rfl) ?_
  refine z_cv (As := [.int (zI t)]) (rest := []) ⟨hx, hb, hml, hown, hts⟩ (c_X3_aboveDepth l D cI cO cL A eE g σ H_1 hRH_1 t hI (by omega)) (cwV 1 hts gX4_level_X3_aboveDepth rfl rfl rfl (by decide +kernel) ⟨Nat.le_of_ble_eq_true rfl, Nat.le_of_ble_eq_true rfl⟩) (zKK_mv D cI cO cL) (fun U _ hv => va_K.moved hv hK) (z_recv hK hRH_1.t rfl) rfl hl.1 rfl (Nat.le_of_ble_eq_true rfl) dX4_level_13 ⟨Nat.le_of_ble_eq_true rfl, Nat.le_of_ble_eq_true rfl⟩ (fun r_2 hr_2 => ?_)
  rw [hr_2]
  exact vx_ret (W.widen (k := 1) (n := 6) (Nat.le_of_ble_eq_true rfl) (Nat.le_of_ble_eq_true rfl) (W.iret hx hb hr (z_endG (post := fun rv σ' g' => (zth_level t = 0 ∧ rv = some (.int (zI (zLev σ t))) ∧ σ' = σ) ∧ g' 0 0 = g 0 0) (σ' := σ) (g' := g) (v := (some (.int (zI (zLev σ t))))) ⟨⟨(by unfold zth_level; (repeat' split) <;> omega), rfl, rfl⟩, rfl⟩ hRH_1 hSH_1) hSH_1.2.2 dX4_level_16))

theorem lk_X4_window_10 : Cond.fieldLink RX4 10 "HarbourPilotline" "tide" "LHarbourPilotline$Tide;" ∈ wsX4_window := by decide +kernel
theorem ml_X4_window_161_0 : Cond.methodLink RX4 161 Lib.Math.max.name ∈ wsX4_window := by decide +kernel
theorem ml_X4_window_161_1 : Cond.static Lib.Math.max.name ∈ wsX4_window := by decide +kernel
theorem ml_X4_window_161_2 : Cond.initialized "java/lang/Math" ∈ wsX4_window := by decide +kernel
theorem ml_X4_window_161_3 : Cond.code Lib.Math.max.name Lib.Math.max.code 2 (some .int) ∈ wsX4_window := by decide +kernel
theorem in_X4_window_X4 : ∀ w ∈ wsX40, w ∈ wsX4_window := by decide +kernel
set_option maxRecDepth 100000 in
set_option maxHeartbeats 4000000 in
theorem c_X4_window (l : Launch) (hfl : l.stackTraces = false) (D : va_G) (cI cO cL : ClassId) (A : Nat → Prop) (eE mi : Nat) (sa : Nat → Nat) (g : zG) (σ : zT) (H0 : Heap) (hR : RX D cO A eE g σ H0) (k t : Int) (hI : zInv σ) (hA : (-2147483648 ≤ k ∧ k < 2147483648) ∧ (-2147483648 ≤ t ∧ t < 2147483648)) : zXM l yX4_window wsX4_window ({ frames := 7, cells := 2, slots := 12, locals := 104 }) D cI cO cL A eE mi sa g σ [.ref (g 0 0), .int (zI k), .int (zI t)] H0 (fun rv σ' g' => (zth_window σ k t = 0 ∧ rv = some (.int (zI (zan_window σ k t))) ∧ σ' = σ) ∧ g' 0 0 = g 0 0) (fun E => (zth_window σ k t = 1 ∧ E = xIO) ∨ (zth_window σ k t = 2 ∧ E = xIA)) := by
  refine vx_ofW (cc := cX4_window) (maxL := 7) (ret := (some .int)) (by decide) rfl ?_
  intro p e s m args below meth c s₁ B hml hno hv
  obtain ⟨rfl, hH, hG⟩ := hv
  subst hH
  have hK := hG.k
  have hx := B.exec
  have hb := B.bytes
  have hr := B.returns
  have hts := atoms_spec (ws := wsX4_window) B.pre
  have hown : s.vm.findClass RX4 = some m.cls := findClass_of_methodNamed B.named
  have hlocks := B.notSynchronized
  have hl := lv_entry ([.ref (g 0 0), .int (zI k), .int (zI t)]) (n := 7) (Nat.le_of_ble_eq_true rfl)
  rw [lg_entry_eq]
  generalize (lg_sl ([.ref (g 0 0), .int (zI k), .int (zI t)]) ++ List.replicate (7 - (lg_sl ([.ref (g 0 0), .int (zI k), .int (zI t)])).length) Slot.unset).toArray = ls at hl ⊢
  have hl : lv_has ls 7 [(0, .ref (g 0 0)), (1, .int (zI k)), (2, .int (zI t))] := hl
  have f0 := hI.r
  refine lv_aload_n hx hb dX4_window_0 rfl (lv_at hl 0 rfl) ?_
  refine lv_iload_n hx hb dX4_window_1 rfl (lv_at hl 1 rfl) ?_
  refine z_xmV (As := [.int (zI k)]) (rest := []) ⟨hx, hb, hml, hown, hts⟩ (c_X4_shipAt l hfl D cI cO cL A eE mi sa g σ s.heap hR k hI (by omega)) (cwV 1 hts gX4_window_X4_shipAt rfl rfl rfl (by decide +kernel) ⟨Nat.le_of_ble_eq_true rfl, Nat.le_of_ble_eq_true rfl⟩) hG va_S.rf (z_recv hK hR.x rfl) rfl hl.1 rfl (Nat.le_of_ble_eq_true rfl) dX4_window_2 ⟨Nat.le_of_ble_eq_true rfl, Nat.le_of_ble_eq_true rfl⟩ (fun E ce q9 H1 locs1 hpx hRx hzx hkx hSx hcx hvx hclx => by
    obtain ⟨hn, rfl⟩ := hpx
    exact z_xout (px' := fun E => (zth_window σ k t = 1 ∧ E = xIO) ∨ (zth_window σ k t = 2 ∧ E = xIA)) hno hlocks hcx hvx hclx (Or.inl ⟨by unfold zth_window; (repeat' split) <;> omega, rfl⟩) hRx hSx ⟨Nat.le_of_ble_eq_true rfl, Nat.le_of_ble_eq_true rfl⟩) (fun rH_1 σH_1 gH_1 H_1 locsH_1 hpH_1 hRH_1 hzH_1 hkH_1 hSH_1 => ?_)
  obtain ⟨hdH_1, erH_1, esH_1, egH_1⟩ := hpH_1
  rw [esH_1, egH_1] at hRH_1
  rw [erH_1]
  have hk := hdH_1
  have gk := hI.s hk
  refine lv_astore_n (lv' := [(3, .ref (g 4 k)), (0, .ref (g 0 0)), (1, .int (zI k)), (2, .int (zI t))]) hx hb dX4_window_5 rfl hl (by decide) rfl (fun ls hl => ?_)
  refine lv_iload_n hx hb dX4_window_6 rfl (lv_at hl 3 rfl) ?_
  refine z_iconst hx hb dX4_window_7 ?_
  refine z_sipush hx hb dX4_window_8 (by decide +kernel) ?_
  refine z_xmS (As := [.int (zI t), .int (zI 0), .int (zI 20000)]) (rest := []) ⟨hx, hb, hml, hown, hts⟩ (c_X4_demandWithin l hfl D cI cO cL A eE mi sa g σ H_1 hRH_1 t 0 20000 (by omega)) (va_cwS 3 hts gX4_window_X4_demandWithin rfl rfl rfl (by decide +kernel) ⟨Nat.le_of_ble_eq_true rfl, Nat.le_of_ble_eq_true rfl⟩) hG hSH_1 rfl hl.1 rfl (Nat.le_of_ble_eq_true rfl) dX4_window_11 ⟨Nat.le_of_ble_eq_true rfl, Nat.le_of_ble_eq_true rfl⟩ (fun E ce q9 H1 locs1 hpx hRx hzx hkx hSx hcx hvx hclx => by
    obtain ⟨hn, rfl⟩ := hpx
    exact z_xout (px' := fun E => (zth_window σ k t = 1 ∧ E = xIO) ∨ (zth_window σ k t = 2 ∧ E = xIA)) hno hlocks hcx hvx hclx (Or.inr (⟨by unfold zth_window; (repeat' split) <;> omega, rfl⟩)) hRx hSx ⟨Nat.le_of_ble_eq_true rfl, Nat.le_of_ble_eq_true rfl⟩) (fun rH_2 σH_2 gH_2 H_2 locsH_2 hpH_2 hRH_2 hzH_2 hkH_2 hSH_2 => ?_)
  obtain ⟨hdH_2, erH_2, esH_2, egH_2⟩ := hpH_2
  rw [esH_2, egH_2] at hRH_2
  rw [erH_2]
  refine lv_iload_n hx hb dX4_window_14 rfl (lv_at hl 3 rfl) ?_
  refine z_sipush hx hb dX4_window_15 (by decide +kernel) ?_
  refine z_iadd hx hb dX4_window_18 ?_
  refine lv_istore (lv' := [(4, .int (zI (t + 1440))), (3, .ref (g 4 k)), (0, .ref (g 0 0)), (1, .int (zI k)), (2, .int (zI t))]) hx hb dX4_window_19 hl (by decide) rfl (fun ls hl => ?_)
  refine lv_iload_n hx hb dX4_window_21 rfl (lv_at hl 4 rfl) ?_
  refine lv_istore (lv' := [(5, .int (zI t)), (4, .int (zI (t + 1440))), (3, .ref (g 4 k)), (0, .ref (g 0 0)), (1, .int (zI k)), (2, .int (zI t))]) hx hb dX4_window_22 hl (by decide) rfl (fun ls hl => ?_)
  refine z_cap (fun WW wi wo => ?_)
  have hL : ∀ (n : Nat) (i : Int) (ls : Array Slot) (HL : Heap) (locsL : List Loc), t ≤ i ∧ i ≤ 60000 → (∀ u : Int, t ≤ u → u < i → ¬ zTideOk σ k u) → RX D cO A eE g σ HL → va_S A s.heap HL locsL → (t + 1441 - i).toNat < n → lv_has ls 7 [(4, .int (zI (t + 1440))), (3, .ref (g 4 k)), (0, .ref (g 0 0)), (2, .int (zI t)), (5, .int (zI i))] → WW HL locsL 2 12 (F0 m 24 ls []) := by
    intro n
    induction n with
    | zero => intro i ls HL locsL hi ha hRL hSL hm; exact absurd hm (Nat.not_lt_zero _)
    | succ n ih =>
      intro i ls HL locsL hi ha hRL hSL hm hl
      refine wi _ _ _ _ _ ?_
      refine lv_iload hx hb dX4_window_24 (lv_at hl 4 rfl) ?_
      refine lv_iload hx hb dX4_window_26 (lv_at hl 0 rfl) ?_
      refine z_icmp_gt (tgt := 67) hx hb dX4_window_28 (by decide) (by omega) (fun c_3 => ?_) (fun c_3 => ?_)
      · refine z_iconst hx hb dX4_window_67 ?_
        exact vx_ret (W.widen (k := 2) (n := 12) (Nat.le_of_ble_eq_true rfl) (Nat.le_of_ble_eq_true rfl) (W.iret hx hb hr (z_endG (post := fun rv σ' g' => (zth_window σ k t = 0 ∧ rv = some (.int (zI (zan_window σ k t))) ∧ σ' = σ) ∧ g' 0 0 = g 0 0) (σ' := σ) (g' := g) (v := (some (.int (zI (-1))))) ⟨⟨(by unfold zth_window; (repeat' split) <;> omega), (congrArg (fun z => some (Value.int (zI z))) (show (-1) = zan_window σ k t by exact (zSrch_no (fun m a b => ha m a (by omega))).symm)), rfl⟩, rfl⟩ hRL hSL) hSL.2.2 dX4_window_68))
      · refine lv_aload_n hx hb dX4_window_31 rfl (lv_at hl 2 rfl) ?_
        refine z_get hx hb hts in_X4_window_X4 hown hK hRL.x rfl 0 (by decide) lk_X4_window_10 rfl rfl dX4_window_32 ?_
        refine lv_aload_n hx hb dX4_window_35 rfl (lv_at hl 1 rfl) ?_
        refine lv_iload hx hb dX4_window_36 (lv_at hl 4 rfl) ?_
        refine z_cv (As := [.ref (g 4 k), .int (zI i)]) (rest := []) ⟨hx, hb, hml, hown, hts⟩ (c_X3_pastShallows l D cI cO cL A eE g σ HL hRL k i hI (by omega) (by omega)) (cwV 2 hts gX4_window_X3_pastShallows rfl rfl rfl (by decide +kernel) ⟨Nat.le_of_ble_eq_true rfl, Nat.le_of_ble_eq_true rfl⟩) (zKK_mv D cI cO cL) (fun U _ hv => va_K.moved hv hK) (z_recv hK hRL.t rfl) rfl hl.1 rfl (Nat.le_of_ble_eq_true rfl) dX4_window_38 ⟨Nat.le_of_ble_eq_true rfl, Nat.le_of_ble_eq_true rfl⟩ (fun r_4 ⟨r_4z, hr_4, hpr_4⟩ => ?_)
        rw [hr_4]
        have bhpr_4 := hpr_4.2
        have hpr_4l := zStep_le hpr_4
        refine lv_istore (lv' := [(6, .int (zI r_4z)), (4, .int (zI (t + 1440))), (3, .ref (g 4 k)), (0, .ref (g 0 0)), (2, .int (zI t)), (5, .int (zI i))]) hx hb dX4_window_41 hl (by decide) rfl (fun ls hl => ?_)
        refine lv_iload hx hb dX4_window_43 (lv_at hl 0 rfl) ?_
        refine lv_iload hx hb dX4_window_45 (lv_at hl 5 rfl) ?_
        refine z_icmp_ne (tgt := 53) hx hb dX4_window_47 (by decide) (by omega) (fun c_5 => ?_) (fun c_5 => ?_)
        · refine lv_iload hx hb dX4_window_53 (lv_at hl 5 rfl) ?_
          refine z_iconst hx hb dX4_window_55 ?_
          refine z_iadd hx hb dX4_window_56 ?_
          refine lv_iload hx hb dX4_window_57 (lv_at hl 0 rfl) ?_
          refine z_mmax hx hb (hml.trans hl.1.symm) hts hown ml_X4_window_161_0 ml_X4_window_161_1 ml_X4_window_161_2 ml_X4_window_161_3 (Nat.le_of_ble_eq_true rfl) (Nat.le_of_ble_eq_true rfl) ⟨Nat.le_of_ble_eq_true rfl, Nat.le_of_ble_eq_true rfl⟩ (by omega) dX4_window_59 ?_
          refine lv_istore (lv' := [(5, .int (zI (max (i + 1) r_4z))), (6, .int (zI r_4z)), (4, .int (zI (t + 1440))), (3, .ref (g 4 k)), (0, .ref (g 0 0)), (2, .int (zI t))]) hx hb dX4_window_62 hl (by decide) rfl (fun ls hl => ?_)
          refine lv_goto (tgt := 24) hx hb dX4_window_64 (by decide) ?_
          exact wo _ _ _ _ _ (ih (max (i + 1) r_4z) ls _ _ (by omega) (by intro u h1 h2; exact if q : u < i then ha u h1 q else (by rcases hpr_4.1 with z | z; omega; exact z.2 u (by omega) (by omega))) (by exact hRL) hSL (by omega) (lv_sub hl [2, 3, 4, 5, 0] rfl))
        · refine lv_iload hx hb dX4_window_50 (lv_at hl 5 rfl) ?_
          exact vx_ret (W.widen (k := 2) (n := 12) (Nat.le_of_ble_eq_true rfl) (Nat.le_of_ble_eq_true rfl) (W.iret hx hb hr (z_endG (post := fun rv σ' g' => (zth_window σ k t = 0 ∧ rv = some (.int (zI (zan_window σ k t))) ∧ σ' = σ) ∧ g' 0 0 = g 0 0) (σ' := σ) (g' := g) (v := (some (.int (zI i)))) ⟨⟨(by unfold zth_window; (repeat' split) <;> omega), (congrArg (fun z => some (Value.int (zI z))) (show i = zan_window σ k t by exact (zSrch_is 1441 _ _ (by omega) (by omega) (by rcases hpr_4.1 with z | z; exact z.2; omega) (fun m a b => ha m a b)).symm)), rfl⟩, rfl⟩ hRL hSL) hSL.2.2 dX4_window_52))
  exact wo _ _ _ _ _ (hL _ t ls _ _ (by omega) (by intro u h1 h2; omega) (by exact hRH_2) hSH_2 (Nat.lt_succ_self _) (lv_sub hl [1, 2, 3, 5, 0] rfl))

theorem lk_X4_ofConference_125 : Cond.fieldLink RX4 125 "HarbourPilotline$Conference" "state" "I" ∈ wsX4_ofConference := by decide +kernel
theorem lk_X4_ofConference_122 : Cond.fieldLink RX4 122 "HarbourPilotline$Conference" "slot" "I" ∈ wsX4_ofConference := by decide +kernel
theorem lk_X4_ofConference_167 : Cond.fieldLink RX4 167 "HarbourPilotline$Conference" "pilot" "LHarbourPilotline$Pilot;" ∈ wsX4_ofConference := by decide +kernel
theorem lk_X4_ofConference_171 : Cond.fieldLink RX4 171 "HarbourPilotline$Pilot" "number" "I" ∈ wsX4_ofConference := by decide +kernel
theorem lk_X4_ofConference_102 : Cond.fieldLink RX4 102 "HarbourPilotline$Conference" "ship" "LHarbourPilotline$Ship;" ∈ wsX4_ofConference := by decide +kernel
theorem lk_X4_ofConference_174 : Cond.fieldLink RX4 174 "HarbourPilotline$Ship" "number" "I" ∈ wsX4_ofConference := by decide +kernel
theorem ck_X4_ofConference_175 : Cond.classLink RX4 175 "java/lang/IndexOutOfBoundsException" ∈ wsX4_ofConference := by decide +kernel
theorem ci_X4_ofConference_175 : Cond.initialized "java/lang/IndexOutOfBoundsException" ∈ wsX4_ofConference := by decide +kernel
theorem cw_X4_ofConference_179 : ∀ w ∈ (vx_atS RX4 179 "java/lang/IndexOutOfBoundsException" ["java/lang/RuntimeException", "java/lang/Exception"]).filter goodWord, w ∈ wsX4_ofConference := by decide +kernel
theorem in_X4_ofConference_X0 : ∀ w ∈ wsX00, w ∈ wsX4_ofConference := by decide +kernel
theorem in_X4_ofConference_X1 : ∀ w ∈ wsX10, w ∈ wsX4_ofConference := by decide +kernel
theorem in_X4_ofConference_X2 : ∀ w ∈ wsX20, w ∈ wsX4_ofConference := by decide +kernel
set_option maxRecDepth 100000 in
set_option maxHeartbeats 4000000 in
theorem c_X4_ofConference (l : Launch) (hfl : l.stackTraces = false) (D : va_G) (cI cO cL : ClassId) (A : Nat → Prop) (eE mi : Nat) (sa : Nat → Nat) (g : zG) (σ : zT) (H0 : Heap) (hR : RX D cO A eE g σ H0) (k w : Int) (hI : zInv σ) (hJ : zInv2 σ) (hA : (-2147483648 ≤ k ∧ k < 2147483648) ∧ (-2147483648 ≤ w ∧ w < 2147483648)) : zXM l yX4_ofConference wsX4_ofConference ({ frames := 7, cells := 2, slots := 12, locals := 103 }) D cI cO cL A eE mi sa g σ [.ref (g 0 0), .int (zI k), .int (zI w)] H0 (fun rv σ' g' => (zth_ofC σ k w = 0 ∧ rv = some (.int (zI (zan_ofC σ k w))) ∧ σ' = σ) ∧ g' 0 0 = g 0 0) (fun E => (zth_ofC σ k w = 1 ∧ E = xIO)) := by
  refine vx_ofW (cc := cX4_ofConference) (maxL := 4) (ret := (some .int)) (by decide) rfl ?_
  intro p e s m args below meth c s₁ B hml hno hv
  obtain ⟨rfl, hH, hG⟩ := hv
  subst hH
  have hK := hG.k
  have hx := B.exec
  have hb := B.bytes
  have hr := B.returns
  have hts := atoms_spec (ws := wsX4_ofConference) B.pre
  have hown : s.vm.findClass RX4 = some m.cls := findClass_of_methodNamed B.named
  have hlocks := B.notSynchronized
  have hl := lv_entry ([.ref (g 0 0), .int (zI k), .int (zI w)]) (n := 4) (Nat.le_of_ble_eq_true rfl)
  rw [lg_entry_eq]
  generalize (lg_sl ([.ref (g 0 0), .int (zI k), .int (zI w)]) ++ List.replicate (4 - (lg_sl ([.ref (g 0 0), .int (zI k), .int (zI w)])).length) Slot.unset).toArray = ls at hl ⊢
  have hl : lv_has ls 4 [(0, .ref (g 0 0)), (1, .int (zI k)), (2, .int (zI w))] := hl
  refine lv_aload_n hx hb dX4_ofConference_0 rfl (lv_at hl 0 rfl) ?_
  refine lv_iload_n hx hb dX4_ofConference_1 rfl (lv_at hl 1 rfl) ?_
  refine z_xmV (As := [.int (zI k)]) (rest := []) ⟨hx, hb, hml, hown, hts⟩ (c_X4_conferenceAt l hfl D cI cO cL A eE mi sa g σ s.heap hR k hI (by omega)) (cwV 1 hts gX4_ofConference_X4_conferenceAt rfl rfl rfl (by decide +kernel) ⟨Nat.le_of_ble_eq_true rfl, Nat.le_of_ble_eq_true rfl⟩) hG va_S.rf (z_recv hK hR.x rfl) rfl hl.1 rfl (Nat.le_of_ble_eq_true rfl) dX4_ofConference_2 ⟨Nat.le_of_ble_eq_true rfl, Nat.le_of_ble_eq_true rfl⟩ (fun E ce q9 H1 locs1 hpx hRx hzx hkx hSx hcx hvx hclx => by
    obtain ⟨hn, rfl⟩ := hpx
    exact z_xout (px' := fun E => (zth_ofC σ k w = 1 ∧ E = xIO)) hno hlocks hcx hvx hclx (⟨by unfold zth_ofC; (repeat' split) <;> omega, rfl⟩) hRx hSx ⟨Nat.le_of_ble_eq_true rfl, Nat.le_of_ble_eq_true rfl⟩) (fun rH_1 σH_1 gH_1 H_1 locsH_1 hpH_1 hRH_1 hzH_1 hkH_1 hSH_1 => ?_)
  obtain ⟨hdH_1, erH_1, esH_1, egH_1⟩ := hpH_1
  rw [esH_1, egH_1] at hRH_1
  rw [erH_1]
  have hk := hdH_1
  have fk := hI.c hk
  have gk := hI.s (i := σ 15 k) (by omega)
  have jk := hJ.c hk
  refine lv_astore_n (lv' := [(3, .ref (g 6 k)), (0, .ref (g 0 0)), (1, .int (zI k)), (2, .int (zI w))]) hx hb dX4_ofConference_5 rfl hl (by decide) rfl (fun ls hl => ?_)
  refine lv_iload_n hx hb dX4_ofConference_6 rfl (lv_at hl 3 rfl) ?_
  by_cases c_2 : w = 0
  · refine lv_tableIn (off := 33) (tgt := 40) hx hb dX4_ofConference_7 (by rw [zI_val (by omega)]; omega) (by rw [zI_val (by omega)]; omega) (by rw [zI_val (by omega), c_2]; rfl) (by decide) ?_
    refine lv_aload_n hx hb dX4_ofConference_40 rfl (lv_at hl 0 rfl) ?_
    refine z_get hx hb hts in_X4_ofConference_X0 hown hK (hRH_1.c (i := k) (by show 0 ≤ k ∧ k < σ 14 0; omega)) rfl 5 (by decide) lk_X4_ofConference_125 rfl rfl dX4_ofConference_41 ?_
    exact vx_ret (W.widen (k := 2) (n := 12) (Nat.le_of_ble_eq_true rfl) (Nat.le_of_ble_eq_true rfl) (W.iret hx hb hr (z_endG (post := fun rv σ' g' => (zth_ofC σ k w = 0 ∧ rv = some (.int (zI (zan_ofC σ k w))) ∧ σ' = σ) ∧ g' 0 0 = g 0 0) (σ' := σ) (g' := g) (v := (some (.int (zI (σ 19 k))))) ⟨⟨(by unfold zth_ofC; (repeat' split) <;> omega), (congrArg (fun z => some (Value.int (zI z))) (show (σ 19 k) = zan_ofC σ k w by unfold zan_ofC; first | rw [if_pos (by omega)] | rw [if_neg (by omega), if_pos (by omega)] | (rw [if_neg (by omega), if_neg (by omega), if_pos (by omega)] <;> omega) | rw [if_neg (by omega), if_neg (by omega), if_neg (by omega), if_pos (by omega)] | rw [if_neg (by omega), if_neg (by omega), if_neg (by omega), if_neg (by omega)])), rfl⟩, rfl⟩ hRH_1 hSH_1) hSH_1.2.2 dX4_ofConference_44))
  by_cases c_3 : w = 1
  · refine lv_tableIn (off := 38) (tgt := 45) hx hb dX4_ofConference_7 (by rw [zI_val (by omega)]; omega) (by rw [zI_val (by omega)]; omega) (by rw [zI_val (by omega), c_3]; rfl) (by decide) ?_
    refine lv_aload_n hx hb dX4_ofConference_45 rfl (lv_at hl 0 rfl) ?_
    refine z_get hx hb hts in_X4_ofConference_X0 hown hK (hRH_1.c (i := k) (by show 0 ≤ k ∧ k < σ 14 0; omega)) rfl 6 (by decide) lk_X4_ofConference_122 rfl rfl dX4_ofConference_46 ?_
    exact vx_ret (W.widen (k := 2) (n := 12) (Nat.le_of_ble_eq_true rfl) (Nat.le_of_ble_eq_true rfl) (W.iret hx hb hr (z_endG (post := fun rv σ' g' => (zth_ofC σ k w = 0 ∧ rv = some (.int (zI (zan_ofC σ k w))) ∧ σ' = σ) ∧ g' 0 0 = g 0 0) (σ' := σ) (g' := g) (v := (some (.int (zI (σ 20 k))))) ⟨⟨(by unfold zth_ofC; (repeat' split) <;> omega), (congrArg (fun z => some (Value.int (zI z))) (show (σ 20 k) = zan_ofC σ k w by unfold zan_ofC; first | rw [if_pos (by omega)] | rw [if_neg (by omega), if_pos (by omega)] | (rw [if_neg (by omega), if_neg (by omega), if_pos (by omega)] <;> omega) | rw [if_neg (by omega), if_neg (by omega), if_neg (by omega), if_pos (by omega)] | rw [if_neg (by omega), if_neg (by omega), if_neg (by omega), if_neg (by omega)])), rfl⟩, rfl⟩ hRH_1 hSH_1) hSH_1.2.2 dX4_ofConference_49))
  by_cases c_4 : w = 2
  · refine lv_tableIn (off := 43) (tgt := 50) hx hb dX4_ofConference_7 (by rw [zI_val (by omega)]; omega) (by rw [zI_val (by omega)]; omega) (by rw [zI_val (by omega), c_4]; rfl) (by decide) ?_
    refine lv_aload_n hx hb dX4_ofConference_50 rfl (lv_at hl 0 rfl) ?_
    refine z_get hx hb hts in_X4_ofConference_X0 hown hK (hRH_1.c (i := k) (by show 0 ≤ k ∧ k < σ 14 0; omega)) rfl 4 (by decide) lk_X4_ofConference_167 rfl rfl dX4_ofConference_51 ?_
    by_cases p_5 : σ 18 k = -1
    · refine z_tov (w := .null) (by rw [xPl_n p_5]; rfl) ?_
      refine lv_ifnonnullN hx hb dX4_ofConference_54 ?_
      refine z_iconst hx hb dX4_ofConference_57 ?_
      refine lv_goto (tgt := 68) hx hb dX4_ofConference_58 (by decide) ?_
      exact vx_ret (W.widen (k := 2) (n := 12) (Nat.le_of_ble_eq_true rfl) (Nat.le_of_ble_eq_true rfl) (W.iret hx hb hr (z_endG (post := fun rv σ' g' => (zth_ofC σ k w = 0 ∧ rv = some (.int (zI (zan_ofC σ k w))) ∧ σ' = σ) ∧ g' 0 0 = g 0 0) (σ' := σ) (g' := g) (v := (some (.int (zI (-1))))) ⟨⟨(by unfold zth_ofC; (repeat' split) <;> omega), (congrArg (fun z => some (Value.int (zI z))) (show (-1) = zan_ofC σ k w by unfold zan_ofC; first | rw [if_pos (by omega)] | rw [if_neg (by omega), if_pos (by omega)] | (rw [if_neg (by omega), if_neg (by omega), if_pos (by omega)] <;> omega) | rw [if_neg (by omega), if_neg (by omega), if_neg (by omega), if_pos (by omega)] | rw [if_neg (by omega), if_neg (by omega), if_neg (by omega), if_neg (by omega)])), rfl⟩, rfl⟩ hRH_1 hSH_1) hSH_1.2.2 dX4_ofConference_68))
    · refine z_tov (w := .ref (g 5 (σ 18 k))) (by rw [xPl_s p_5]; rfl) ?_
      refine lv_ifnonnull (tgt := 61) hx hb dX4_ofConference_54 (by decide) ?_
      refine lv_aload_n hx hb dX4_ofConference_61 rfl (lv_at hl 0 rfl) ?_
      refine z_get hx hb hts in_X4_ofConference_X0 hown hK (hRH_1.c (i := k) (by show 0 ≤ k ∧ k < σ 14 0; omega)) rfl 4 (by decide) lk_X4_ofConference_167 rfl rfl dX4_ofConference_62 ?_
      refine z_tov (w := .ref (g 5 (σ 18 k))) (by rw [xPl_s p_5]; rfl) ?_
      refine z_get hx hb hts in_X4_ofConference_X1 hown hK (hRH_1.p (i := (σ 18 k)) (by show 0 ≤ (σ 18 k) ∧ (σ 18 k) < σ 11 0; omega)) rfl 0 (by decide) lk_X4_ofConference_171 rfl rfl dX4_ofConference_65 ?_
      exact vx_ret (W.widen (k := 2) (n := 12) (Nat.le_of_ble_eq_true rfl) (Nat.le_of_ble_eq_true rfl) (W.iret hx hb hr (z_endG (post := fun rv σ' g' => (zth_ofC σ k w = 0 ∧ rv = some (.int (zI (zan_ofC σ k w))) ∧ σ' = σ) ∧ g' 0 0 = g 0 0) (σ' := σ) (g' := g) (v := (some (.int (zI (σ 18 k))))) ⟨⟨(by unfold zth_ofC; (repeat' split) <;> omega), (congrArg (fun z => some (Value.int (zI z))) (show (σ 18 k) = zan_ofC σ k w by unfold zan_ofC; first | rw [if_pos (by omega)] | rw [if_neg (by omega), if_pos (by omega)] | (rw [if_neg (by omega), if_neg (by omega), if_pos (by omega)] <;> omega) | rw [if_neg (by omega), if_neg (by omega), if_neg (by omega), if_pos (by omega)] | rw [if_neg (by omega), if_neg (by omega), if_neg (by omega), if_neg (by omega)])), rfl⟩, rfl⟩ hRH_1 hSH_1) hSH_1.2.2 dX4_ofConference_68))
  by_cases c_6 : w = 3
  · refine lv_tableIn (off := 62) (tgt := 69) hx hb dX4_ofConference_7 (by rw [zI_val (by omega)]; omega) (by rw [zI_val (by omega)]; omega) (by rw [zI_val (by omega), c_6]; rfl) (by decide) ?_
    refine lv_aload_n hx hb dX4_ofConference_69 rfl (lv_at hl 0 rfl) ?_
    refine z_cv (As := []) (rest := []) ⟨hx, hb, hml, hown, hts⟩ (c_X0_howManyIn l D cI cO cL A eE g σ H_1 hRH_1 k (by omega) (by omega)) (cwV 0 hts gX4_ofConference_X0_howManyIn rfl rfl rfl (by decide +kernel) ⟨Nat.le_of_ble_eq_true rfl, Nat.le_of_ble_eq_true rfl⟩) (zKK_mv D cI cO cL) (fun U _ hv => va_K.moved hv hK) (z_recv hK (hRH_1.c (i := k) (by show 0 ≤ k ∧ k < σ 14 0; omega)) rfl) rfl hl.1 rfl (Nat.le_of_ble_eq_true rfl) dX4_ofConference_70 ⟨Nat.le_of_ble_eq_true rfl, Nat.le_of_ble_eq_true rfl⟩ (fun r_7 hr_7 => ?_)
    rw [hr_7]
    exact vx_ret (W.widen (k := 2) (n := 12) (Nat.le_of_ble_eq_true rfl) (Nat.le_of_ble_eq_true rfl) (W.iret hx hb hr (z_endG (post := fun rv σ' g' => (zth_ofC σ k w = 0 ∧ rv = some (.int (zI (zan_ofC σ k w))) ∧ σ' = σ) ∧ g' 0 0 = g 0 0) (σ' := σ) (g' := g) (v := (some (.int (zI (zMany (σ 17 k)))))) ⟨⟨(by unfold zth_ofC; (repeat' split) <;> omega), (congrArg (fun z => some (Value.int (zI z))) (show (zMany (σ 17 k)) = zan_ofC σ k w by unfold zan_ofC; first | rw [if_pos (by omega)] | rw [if_neg (by omega), if_pos (by omega)] | (rw [if_neg (by omega), if_neg (by omega), if_pos (by omega)] <;> omega) | rw [if_neg (by omega), if_neg (by omega), if_neg (by omega), if_pos (by omega)] | rw [if_neg (by omega), if_neg (by omega), if_neg (by omega), if_neg (by omega)])), rfl⟩, rfl⟩ hRH_1 hSH_1) hSH_1.2.2 dX4_ofConference_73))
  by_cases c_8 : w = 4
  · refine lv_tableIn (off := 67) (tgt := 74) hx hb dX4_ofConference_7 (by rw [zI_val (by omega)]; omega) (by rw [zI_val (by omega)]; omega) (by rw [zI_val (by omega), c_8]; rfl) (by decide) ?_
    refine lv_aload_n hx hb dX4_ofConference_74 rfl (lv_at hl 0 rfl) ?_
    refine z_get hx hb hts in_X4_ofConference_X0 hown hK (hRH_1.c (i := k) (by show 0 ≤ k ∧ k < σ 14 0; omega)) rfl 0 (by decide) lk_X4_ofConference_102 rfl rfl dX4_ofConference_75 ?_
    refine z_get hx hb hts in_X4_ofConference_X2 hown hK (hRH_1.s (i := (σ 15 k)) (by show 0 ≤ (σ 15 k) ∧ (σ 15 k) < σ 5 0; omega)) rfl 0 (by decide) lk_X4_ofConference_174 rfl rfl dX4_ofConference_78 ?_
    exact vx_ret (W.widen (k := 2) (n := 12) (Nat.le_of_ble_eq_true rfl) (Nat.le_of_ble_eq_true rfl) (W.iret hx hb hr (z_endG (post := fun rv σ' g' => (zth_ofC σ k w = 0 ∧ rv = some (.int (zI (zan_ofC σ k w))) ∧ σ' = σ) ∧ g' 0 0 = g 0 0) (σ' := σ) (g' := g) (v := (some (.int (zI (σ 15 k))))) ⟨⟨(by unfold zth_ofC; (repeat' split) <;> omega), (congrArg (fun z => some (Value.int (zI z))) (show (σ 15 k) = zan_ofC σ k w by unfold zan_ofC; first | rw [if_pos (by omega)] | rw [if_neg (by omega), if_pos (by omega)] | (rw [if_neg (by omega), if_neg (by omega), if_pos (by omega)] <;> omega) | rw [if_neg (by omega), if_neg (by omega), if_neg (by omega), if_pos (by omega)] | rw [if_neg (by omega), if_neg (by omega), if_neg (by omega), if_neg (by omega)])), rfl⟩, rfl⟩ hRH_1 hSH_1) hSH_1.2.2 dX4_ofConference_81))
  refine lv_tableOut (tgt := 82) hx hb dX4_ofConference_7 (by rw [zI_val (by omega)]; omega) (by decide) ?_
  exact z_throw (px := fun E => (zth_ofC σ k w = 1 ∧ E = xIO)) (text := "what is out of range") hx hb hfl hno hlocks hown hts (hl.1.trans hml.symm) x_fit3 x_nms ck_X4_ofConference_175 ci_X4_ofConference_175 cw_X4_ofConference_179 x_bad3 (by decide) (by decide) x_good3 hG hRH_1 hSH_1 (⟨by unfold zth_ofC; (repeat' split) <;> omega, rfl⟩) dX4_ofConference_82 dX4_ofConference_85 dX4_ofConference_86 dX4_ofConference_88 dX4_ofConference_91 ⟨Nat.le_of_ble_eq_true rfl, Nat.le_of_ble_eq_true rfl, Nat.le_of_ble_eq_true rfl, Nat.le_of_ble_eq_true rfl, Nat.le_of_ble_eq_true rfl, Nat.le_of_ble_eq_true rfl⟩

set_option maxRecDepth 100000 in
set_option maxHeartbeats 4000000 in
theorem c_X4_rested (l : Launch) (hfl : l.stackTraces = false) (D : va_G) (cI cO cL : ClassId) (A : Nat → Prop) (eE mi : Nat) (sa : Nat → Nat) (g : zG) (σ : zT) (H0 : Heap) (hR : RX D cO A eE g σ H0) (k : Int) (hI : zInv σ) (hA : (-2147483648 ≤ k ∧ k < 2147483648)) : zXM l yX4_rested wsX4_rested ({ frames := 7, cells := 1, slots := 6, locals := 103 }) D cI cO cL A eE mi sa g σ [.ref (g 0 0), .int (zI k)] H0 (fun rv σ' g' => (zth_pil σ k = 0 ∧ rv = some (.int (zI (zan_rested σ k))) ∧ σ' = σ) ∧ g' 0 0 = g 0 0) (fun E => (zth_pil σ k = 1 ∧ E = xIO)) := by
  refine vx_ofW (cc := cX4_rested) (maxL := 2) (ret := (some .int)) (by decide) rfl ?_
  intro p e s m args below meth c s₁ B hml hno hv
  obtain ⟨rfl, hH, hG⟩ := hv
  subst hH
  have hK := hG.k
  have hx := B.exec
  have hb := B.bytes
  have hr := B.returns
  have hts := atoms_spec (ws := wsX4_rested) B.pre
  have hown : s.vm.findClass RX4 = some m.cls := findClass_of_methodNamed B.named
  have hlocks := B.notSynchronized
  have hl := lv_entry ([.ref (g 0 0), .int (zI k)]) (n := 2) (Nat.le_of_ble_eq_true rfl)
  rw [lg_entry_eq]
  generalize (lg_sl ([.ref (g 0 0), .int (zI k)]) ++ List.replicate (2 - (lg_sl ([.ref (g 0 0), .int (zI k)])).length) Slot.unset).toArray = ls at hl ⊢
  have hl : lv_has ls 2 [(0, .ref (g 0 0)), (1, .int (zI k))] := hl
  refine lv_aload_n hx hb dX4_rested_0 rfl (lv_at hl 0 rfl) ?_
  refine lv_aload_n hx hb dX4_rested_1 rfl (lv_at hl 0 rfl) ?_
  refine lv_iload_n hx hb dX4_rested_2 rfl (lv_at hl 1 rfl) ?_
  refine z_xmV (As := [.int (zI k)]) (rest := [.ref (g 0 0)]) ⟨hx, hb, hml, hown, hts⟩ (c_X4_pilotAt l hfl D cI cO cL A eE mi sa g σ s.heap hR k hI (by omega)) (cwV 1 hts gX4_rested_X4_pilotAt rfl rfl rfl (by decide +kernel) ⟨Nat.le_of_ble_eq_true rfl, Nat.le_of_ble_eq_true rfl⟩) hG va_S.rf (z_recv hK hR.x rfl) rfl hl.1 rfl (Nat.le_of_ble_eq_true rfl) dX4_rested_3 ⟨Nat.le_of_ble_eq_true rfl, Nat.le_of_ble_eq_true rfl⟩ (fun E ce q9 H1 locs1 hpx hRx hzx hkx hSx hcx hvx hclx => by
    obtain ⟨hn, rfl⟩ := hpx
    exact z_xout (px' := fun E => (zth_pil σ k = 1 ∧ E = xIO)) hno hlocks hcx hvx hclx (⟨by unfold zth_pil; (repeat' split) <;> omega, rfl⟩) hRx hSx ⟨Nat.le_of_ble_eq_true rfl, Nat.le_of_ble_eq_true rfl⟩) (fun rH_1 σH_1 gH_1 H_1 locsH_1 hpH_1 hRH_1 hzH_1 hkH_1 hSH_1 => ?_)
  obtain ⟨hdH_1, erH_1, esH_1, egH_1⟩ := hpH_1
  rw [esH_1, egH_1] at hRH_1
  rw [erH_1]
  refine z_cv (As := [.ref (g 5 k)]) (rest := []) ⟨hx, hb, hml, hown, hts⟩ (c_X4_restedBehindSlots l D cI cO cL A eE g σ H_1 hRH_1 k hI (by omega)) (cwV 1 hts gX4_rested_X4_restedBehindSlots rfl rfl rfl (by decide +kernel) ⟨Nat.le_of_ble_eq_true rfl, Nat.le_of_ble_eq_true rfl⟩) (zKK_mv D cI cO cL) (fun U _ hv => va_K.moved hv hK) (z_recv hK hRH_1.x rfl) rfl hl.1 rfl (Nat.le_of_ble_eq_true rfl) dX4_rested_6 ⟨Nat.le_of_ble_eq_true rfl, Nat.le_of_ble_eq_true rfl⟩ (fun r_2 hr_2 => ?_)
  rw [hr_2]
  exact vx_ret (W.widen (k := 1) (n := 6) (Nat.le_of_ble_eq_true rfl) (Nat.le_of_ble_eq_true rfl) (W.iret hx hb hr (z_endG (post := fun rv σ' g' => (zth_pil σ k = 0 ∧ rv = some (.int (zI (zan_rested σ k))) ∧ σ' = σ) ∧ g' 0 0 = g 0 0) (σ' := σ) (g' := g) (v := (some (.int (zI (zan_rested σ k))))) ⟨⟨(by unfold zth_pil; (repeat' split) <;> omega), rfl, rfl⟩, rfl⟩ hRH_1 hSH_1) hSH_1.2.2 dX4_rested_9))

set_option maxRecDepth 100000 in
set_option maxHeartbeats 4000000 in
theorem c_X4_restedAnew (l : Launch) (hfl : l.stackTraces = false) (D : va_G) (cI cO cL : ClassId) (A : Nat → Prop) (eE mi : Nat) (sa : Nat → Nat) (g : zG) (σ : zT) (H0 : Heap) (hR : RX D cO A eE g σ H0) (k : Int) (hI : zInv σ) (hA : (-2147483648 ≤ k ∧ k < 2147483648)) : zXM l yX4_restedAnew wsX4_restedAnew ({ frames := 7, cells := 1, slots := 6, locals := 103 }) D cI cO cL A eE mi sa g σ [.ref (g 0 0), .int (zI k)] H0 (fun rv σ' g' => (zth_pil σ k = 0 ∧ rv = some (.int (zI (zan_rested σ k))) ∧ σ' = σ) ∧ g' 0 0 = g 0 0) (fun E => (zth_pil σ k = 1 ∧ E = xIO)) := by
  refine vx_ofW (cc := cX4_restedAnew) (maxL := 2) (ret := (some .int)) (by decide) rfl ?_
  intro p e s m args below meth c s₁ B hml hno hv
  obtain ⟨rfl, hH, hG⟩ := hv
  subst hH
  have hK := hG.k
  have hx := B.exec
  have hb := B.bytes
  have hr := B.returns
  have hts := atoms_spec (ws := wsX4_restedAnew) B.pre
  have hown : s.vm.findClass RX4 = some m.cls := findClass_of_methodNamed B.named
  have hlocks := B.notSynchronized
  have hl := lv_entry ([.ref (g 0 0), .int (zI k)]) (n := 2) (Nat.le_of_ble_eq_true rfl)
  rw [lg_entry_eq]
  generalize (lg_sl ([.ref (g 0 0), .int (zI k)]) ++ List.replicate (2 - (lg_sl ([.ref (g 0 0), .int (zI k)])).length) Slot.unset).toArray = ls at hl ⊢
  have hl : lv_has ls 2 [(0, .ref (g 0 0)), (1, .int (zI k))] := hl
  refine lv_aload_n hx hb dX4_restedAnew_0 rfl (lv_at hl 0 rfl) ?_
  refine lv_aload_n hx hb dX4_restedAnew_1 rfl (lv_at hl 0 rfl) ?_
  refine lv_iload_n hx hb dX4_restedAnew_2 rfl (lv_at hl 1 rfl) ?_
  refine z_xmV (As := [.int (zI k)]) (rest := [.ref (g 0 0)]) ⟨hx, hb, hml, hown, hts⟩ (c_X4_pilotAt l hfl D cI cO cL A eE mi sa g σ s.heap hR k hI (by omega)) (cwV 1 hts gX4_restedAnew_X4_pilotAt rfl rfl rfl (by decide +kernel) ⟨Nat.le_of_ble_eq_true rfl, Nat.le_of_ble_eq_true rfl⟩) hG va_S.rf (z_recv hK hR.x rfl) rfl hl.1 rfl (Nat.le_of_ble_eq_true rfl) dX4_restedAnew_3 ⟨Nat.le_of_ble_eq_true rfl, Nat.le_of_ble_eq_true rfl⟩ (fun E ce q9 H1 locs1 hpx hRx hzx hkx hSx hcx hvx hclx => by
    obtain ⟨hn, rfl⟩ := hpx
    exact z_xout (px' := fun E => (zth_pil σ k = 1 ∧ E = xIO)) hno hlocks hcx hvx hclx (⟨by unfold zth_pil; (repeat' split) <;> omega, rfl⟩) hRx hSx ⟨Nat.le_of_ble_eq_true rfl, Nat.le_of_ble_eq_true rfl⟩) (fun rH_1 σH_1 gH_1 H_1 locsH_1 hpH_1 hRH_1 hzH_1 hkH_1 hSH_1 => ?_)
  obtain ⟨hdH_1, erH_1, esH_1, egH_1⟩ := hpH_1
  rw [esH_1, egH_1] at hRH_1
  rw [erH_1]
  refine z_cv (As := [.ref (g 5 k)]) (rest := []) ⟨hx, hb, hml, hown, hts⟩ (c_X4_restedBehindSlots l D cI cO cL A eE g σ H_1 hRH_1 k hI (by omega)) (cwV 1 hts gX4_restedAnew_X4_restedBehindSlots rfl rfl rfl (by decide +kernel) ⟨Nat.le_of_ble_eq_true rfl, Nat.le_of_ble_eq_true rfl⟩) (zKK_mv D cI cO cL) (fun U _ hv => va_K.moved hv hK) (z_recv hK hRH_1.x rfl) rfl hl.1 rfl (Nat.le_of_ble_eq_true rfl) dX4_restedAnew_6 ⟨Nat.le_of_ble_eq_true rfl, Nat.le_of_ble_eq_true rfl⟩ (fun r_2 hr_2 => ?_)
  rw [hr_2]
  exact vx_ret (W.widen (k := 1) (n := 6) (Nat.le_of_ble_eq_true rfl) (Nat.le_of_ble_eq_true rfl) (W.iret hx hb hr (z_endG (post := fun rv σ' g' => (zth_pil σ k = 0 ∧ rv = some (.int (zI (zan_rested σ k))) ∧ σ' = σ) ∧ g' 0 0 = g 0 0) (σ' := σ) (g' := g) (v := (some (.int (zI (zan_rested σ k))))) ⟨⟨(by unfold zth_pil; (repeat' split) <;> omega), rfl, rfl⟩, rfl⟩ hRH_1 hSH_1) hSH_1.2.2 dX4_restedAnew_9))

theorem lk_X4_bill_196 : Cond.fieldLink RX4 196 "HarbourPilotline$Ship" "owes" "I" ∈ wsX4_bill := by decide +kernel
theorem in_X4_bill_X2 : ∀ w ∈ wsX20, w ∈ wsX4_bill := by decide +kernel
set_option maxRecDepth 100000 in
set_option maxHeartbeats 4000000 in
theorem c_X4_bill (l : Launch) (hfl : l.stackTraces = false) (D : va_G) (cI cO cL : ClassId) (A : Nat → Prop) (eE mi : Nat) (sa : Nat → Nat) (g : zG) (σ : zT) (H0 : Heap) (hR : RX D cO A eE g σ H0) (k : Int) (hI : zInv σ) (hA : (-2147483648 ≤ k ∧ k < 2147483648)) : zXM l yX4_bill wsX4_bill ({ frames := 7, cells := 1, slots := 6, locals := 103 }) D cI cO cL A eE mi sa g σ [.ref (g 0 0), .int (zI k)] H0 (fun rv σ' g' => (zth_bill σ k = 0 ∧ rv = some (.int (zI (σ 10 k))) ∧ σ' = σ) ∧ g' 0 0 = g 0 0) (fun E => (zth_bill σ k = 1 ∧ E = xIO)) := by
  refine vx_ofW (cc := cX4_bill) (maxL := 2) (ret := (some .int)) (by decide) rfl ?_
  intro p e s m args below meth c s₁ B hml hno hv
  obtain ⟨rfl, hH, hG⟩ := hv
  subst hH
  have hK := hG.k
  have hx := B.exec
  have hb := B.bytes
  have hr := B.returns
  have hts := atoms_spec (ws := wsX4_bill) B.pre
  have hown : s.vm.findClass RX4 = some m.cls := findClass_of_methodNamed B.named
  have hlocks := B.notSynchronized
  have hl := lv_entry ([.ref (g 0 0), .int (zI k)]) (n := 2) (Nat.le_of_ble_eq_true rfl)
  rw [lg_entry_eq]
  generalize (lg_sl ([.ref (g 0 0), .int (zI k)]) ++ List.replicate (2 - (lg_sl ([.ref (g 0 0), .int (zI k)])).length) Slot.unset).toArray = ls at hl ⊢
  have hl : lv_has ls 2 [(0, .ref (g 0 0)), (1, .int (zI k))] := hl
  refine lv_aload_n hx hb dX4_bill_0 rfl (lv_at hl 0 rfl) ?_
  refine lv_iload_n hx hb dX4_bill_1 rfl (lv_at hl 1 rfl) ?_
  refine z_xmV (As := [.int (zI k)]) (rest := []) ⟨hx, hb, hml, hown, hts⟩ (c_X4_shipAt l hfl D cI cO cL A eE mi sa g σ s.heap hR k hI (by omega)) (cwV 1 hts gX4_bill_X4_shipAt rfl rfl rfl (by decide +kernel) ⟨Nat.le_of_ble_eq_true rfl, Nat.le_of_ble_eq_true rfl⟩) hG va_S.rf (z_recv hK hR.x rfl) rfl hl.1 rfl (Nat.le_of_ble_eq_true rfl) dX4_bill_2 ⟨Nat.le_of_ble_eq_true rfl, Nat.le_of_ble_eq_true rfl⟩ (fun E ce q9 H1 locs1 hpx hRx hzx hkx hSx hcx hvx hclx => by
    obtain ⟨hn, rfl⟩ := hpx
    exact z_xout (px' := fun E => (zth_bill σ k = 1 ∧ E = xIO)) hno hlocks hcx hvx hclx (⟨by unfold zth_bill; (repeat' split) <;> omega, rfl⟩) hRx hSx ⟨Nat.le_of_ble_eq_true rfl, Nat.le_of_ble_eq_true rfl⟩) (fun rH_1 σH_1 gH_1 H_1 locsH_1 hpH_1 hRH_1 hzH_1 hkH_1 hSH_1 => ?_)
  obtain ⟨hdH_1, erH_1, esH_1, egH_1⟩ := hpH_1
  rw [esH_1, egH_1] at hRH_1
  rw [erH_1]
  refine z_get hx hb hts in_X4_bill_X2 hown hK (hRH_1.s (i := k) (by show 0 ≤ k ∧ k < σ 5 0; omega)) rfl 5 (by decide) lk_X4_bill_196 rfl rfl dX4_bill_5 ?_
  exact vx_ret (W.widen (k := 1) (n := 6) (Nat.le_of_ble_eq_true rfl) (Nat.le_of_ble_eq_true rfl) (W.iret hx hb hr (z_endG (post := fun rv σ' g' => (zth_bill σ k = 0 ∧ rv = some (.int (zI (σ 10 k))) ∧ σ' = σ) ∧ g' 0 0 = g 0 0) (σ' := σ) (g' := g) (v := (some (.int (zI (σ 10 k))))) ⟨⟨(by unfold zth_bill; (repeat' split) <;> omega), rfl, rfl⟩, rfl⟩ hRH_1 hSH_1) hSH_1.2.2 dX4_bill_8))

theorem lk_X4_ofPilot_199 : Cond.fieldLink RX4 199 "HarbourPilotline$Pilot" "movesDone" "I" ∈ wsX4_ofPilot := by decide +kernel
theorem lk_X4_ofPilot_202 : Cond.fieldLink RX4 202 "HarbourPilotline$Pilot" "minutesDone" "I" ∈ wsX4_ofPilot := by decide +kernel
theorem lk_X4_ofPilot_209 : Cond.fieldLink RX4 209 "HarbourPilotline$Pilot" "rate" "I" ∈ wsX4_ofPilot := by decide +kernel
theorem ck_X4_ofPilot_175 : Cond.classLink RX4 175 "java/lang/IndexOutOfBoundsException" ∈ wsX4_ofPilot := by decide +kernel
theorem ci_X4_ofPilot_175 : Cond.initialized "java/lang/IndexOutOfBoundsException" ∈ wsX4_ofPilot := by decide +kernel
theorem cw_X4_ofPilot_179 : ∀ w ∈ (vx_atS RX4 179 "java/lang/IndexOutOfBoundsException" ["java/lang/RuntimeException", "java/lang/Exception"]).filter goodWord, w ∈ wsX4_ofPilot := by decide +kernel
theorem in_X4_ofPilot_X1 : ∀ w ∈ wsX10, w ∈ wsX4_ofPilot := by decide +kernel
set_option maxRecDepth 100000 in
set_option maxHeartbeats 4000000 in
theorem c_X4_ofPilot (l : Launch) (hfl : l.stackTraces = false) (D : va_G) (cI cO cL : ClassId) (A : Nat → Prop) (eE mi : Nat) (sa : Nat → Nat) (g : zG) (σ : zT) (H0 : Heap) (hR : RX D cO A eE g σ H0) (k w : Int) (hI : zInv σ) (h3 : zInv3 σ) (hA : (-2147483648 ≤ k ∧ k < 2147483648) ∧ (-2147483648 ≤ w ∧ w < 2147483648)) : zXM l yX4_ofPilot wsX4_ofPilot ({ frames := 7, cells := 2, slots := 12, locals := 103 }) D cI cO cL A eE mi sa g σ [.ref (g 0 0), .int (zI k), .int (zI w)] H0 (fun rv σ' g' => (zth_ofP σ k w = 0 ∧ rv = some (.int (zI (zan_ofP σ k w))) ∧ σ' = σ) ∧ g' 0 0 = g 0 0) (fun E => (zth_ofP σ k w = 1 ∧ E = xIO)) := by
  refine vx_ofW (cc := cX4_ofPilot) (maxL := 4) (ret := (some .int)) (by decide) rfl ?_
  intro p e s m args below meth c s₁ B hml hno hv
  obtain ⟨rfl, hH, hG⟩ := hv
  subst hH
  have hK := hG.k
  have hx := B.exec
  have hb := B.bytes
  have hr := B.returns
  have hts := atoms_spec (ws := wsX4_ofPilot) B.pre
  have hown : s.vm.findClass RX4 = some m.cls := findClass_of_methodNamed B.named
  have hlocks := B.notSynchronized
  have hl := lv_entry ([.ref (g 0 0), .int (zI k), .int (zI w)]) (n := 4) (Nat.le_of_ble_eq_true rfl)
  rw [lg_entry_eq]
  generalize (lg_sl ([.ref (g 0 0), .int (zI k), .int (zI w)]) ++ List.replicate (4 - (lg_sl ([.ref (g 0 0), .int (zI k), .int (zI w)])).length) Slot.unset).toArray = ls at hl ⊢
  have hl : lv_has ls 4 [(0, .ref (g 0 0)), (1, .int (zI k)), (2, .int (zI w))] := hl
  refine lv_aload_n hx hb dX4_ofPilot_0 rfl (lv_at hl 0 rfl) ?_
  refine lv_iload_n hx hb dX4_ofPilot_1 rfl (lv_at hl 1 rfl) ?_
  refine z_xmV (As := [.int (zI k)]) (rest := []) ⟨hx, hb, hml, hown, hts⟩ (c_X4_pilotAt l hfl D cI cO cL A eE mi sa g σ s.heap hR k hI (by omega)) (cwV 1 hts gX4_ofPilot_X4_pilotAt rfl rfl rfl (by decide +kernel) ⟨Nat.le_of_ble_eq_true rfl, Nat.le_of_ble_eq_true rfl⟩) hG va_S.rf (z_recv hK hR.x rfl) rfl hl.1 rfl (Nat.le_of_ble_eq_true rfl) dX4_ofPilot_2 ⟨Nat.le_of_ble_eq_true rfl, Nat.le_of_ble_eq_true rfl⟩ (fun E ce q9 H1 locs1 hpx hRx hzx hkx hSx hcx hvx hclx => by
    obtain ⟨hn, rfl⟩ := hpx
    exact z_xout (px' := fun E => (zth_ofP σ k w = 1 ∧ E = xIO)) hno hlocks hcx hvx hclx (⟨by unfold zth_ofP; (repeat' split) <;> omega, rfl⟩) hRx hSx ⟨Nat.le_of_ble_eq_true rfl, Nat.le_of_ble_eq_true rfl⟩) (fun rH_1 σH_1 gH_1 H_1 locsH_1 hpH_1 hRH_1 hzH_1 hkH_1 hSH_1 => ?_)
  obtain ⟨hdH_1, erH_1, esH_1, egH_1⟩ := hpH_1
  rw [esH_1, egH_1] at hRH_1
  rw [erH_1]
  have hq := hdH_1
  have e3 := h3 k hq.1 hq.2
  refine lv_astore_n (lv' := [(3, .ref (g 5 k)), (0, .ref (g 0 0)), (1, .int (zI k)), (2, .int (zI w))]) hx hb dX4_ofPilot_5 rfl hl (by decide) rfl (fun ls hl => ?_)
  refine lv_iload_n hx hb dX4_ofPilot_6 rfl (lv_at hl 3 rfl) ?_
  by_cases c_2 : w = 0
  · refine lv_tableIn (off := 29) (tgt := 36) hx hb dX4_ofPilot_7 (by rw [zI_val (by omega)]; omega) (by rw [zI_val (by omega)]; omega) (by rw [zI_val (by omega), c_2]; rfl) (by decide) ?_
    refine lv_aload_n hx hb dX4_ofPilot_36 rfl (lv_at hl 0 rfl) ?_
    refine z_get hx hb hts in_X4_ofPilot_X1 hown hK (hRH_1.p (i := k) (by show 0 ≤ k ∧ k < σ 11 0; omega)) rfl 3 (by decide) lk_X4_ofPilot_199 rfl rfl dX4_ofPilot_37 ?_
    exact vx_ret (W.widen (k := 2) (n := 12) (Nat.le_of_ble_eq_true rfl) (Nat.le_of_ble_eq_true rfl) (W.iret hx hb hr (z_endG (post := fun rv σ' g' => (zth_ofP σ k w = 0 ∧ rv = some (.int (zI (zan_ofP σ k w))) ∧ σ' = σ) ∧ g' 0 0 = g 0 0) (σ' := σ) (g' := g) (v := (some (.int (zI (σ 30 k))))) ⟨⟨(by unfold zth_ofP; (repeat' split) <;> omega), (congrArg (fun z => some (Value.int (zI z))) (show (σ 30 k) = zan_ofP σ k w by unfold zan_ofP; rw [if_pos (by omega)]; exact e3.1)), rfl⟩, rfl⟩ hRH_1 hSH_1) hSH_1.2.2 dX4_ofPilot_40))
  by_cases c_3 : w = 1
  · refine lv_tableIn (off := 34) (tgt := 41) hx hb dX4_ofPilot_7 (by rw [zI_val (by omega)]; omega) (by rw [zI_val (by omega)]; omega) (by rw [zI_val (by omega), c_3]; rfl) (by decide) ?_
    refine lv_aload_n hx hb dX4_ofPilot_41 rfl (lv_at hl 0 rfl) ?_
    refine z_get hx hb hts in_X4_ofPilot_X1 hown hK (hRH_1.p (i := k) (by show 0 ≤ k ∧ k < σ 11 0; omega)) rfl 4 (by decide) lk_X4_ofPilot_202 rfl rfl dX4_ofPilot_42 ?_
    exact vx_ret (W.widen (k := 2) (n := 12) (Nat.le_of_ble_eq_true rfl) (Nat.le_of_ble_eq_true rfl) (W.iret hx hb hr (z_endG (post := fun rv σ' g' => (zth_ofP σ k w = 0 ∧ rv = some (.int (zI (zan_ofP σ k w))) ∧ σ' = σ) ∧ g' 0 0 = g 0 0) (σ' := σ) (g' := g) (v := (some (.int (zI (σ 31 k))))) ⟨⟨(by unfold zth_ofP; (repeat' split) <;> omega), (congrArg (fun z => some (Value.int (zI z))) (show (σ 31 k) = zan_ofP σ k w by unfold zan_ofP; rw [if_neg (by omega), if_pos (by omega)]; exact e3.2)), rfl⟩, rfl⟩ hRH_1 hSH_1) hSH_1.2.2 dX4_ofPilot_45))
  by_cases c_4 : w = 2
  · refine lv_tableIn (off := 39) (tgt := 46) hx hb dX4_ofPilot_7 (by rw [zI_val (by omega)]; omega) (by rw [zI_val (by omega)]; omega) (by rw [zI_val (by omega), c_4]; rfl) (by decide) ?_
    refine lv_aload_n hx hb dX4_ofPilot_46 rfl (lv_at hl 1 rfl) ?_
    refine lv_aload_n hx hb dX4_ofPilot_47 rfl (lv_at hl 0 rfl) ?_
    refine z_cv (As := [.ref (g 5 k)]) (rest := []) ⟨hx, hb, hml, hown, hts⟩ (c_X4_isAboard l D cI cO cL A eE g σ H_1 hRH_1 k hI (by omega)) (cwV 1 hts gX4_ofPilot_X4_isAboard rfl rfl rfl (by decide +kernel) ⟨Nat.le_of_ble_eq_true rfl, Nat.le_of_ble_eq_true rfl⟩) (zKK_mv D cI cO cL) (fun U _ hv => va_K.moved hv hK) (z_recv hK hRH_1.x rfl) rfl hl.1 rfl (Nat.le_of_ble_eq_true rfl) dX4_ofPilot_48 ⟨Nat.le_of_ble_eq_true rfl, Nat.le_of_ble_eq_true rfl⟩ (fun r_5 hr_5 => ?_)
    rw [hr_5]
    refine z_ifb_eq (tgt := 58) hx hb dX4_ofPilot_51 (by decide) (fun c_6 => ?_) (fun c_6 => ?_)
    · refine z_iconst hx hb dX4_ofPilot_58 ?_
      exact vx_ret (W.widen (k := 2) (n := 12) (Nat.le_of_ble_eq_true rfl) (Nat.le_of_ble_eq_true rfl) (W.iret hx hb hr (z_endG (post := fun rv σ' g' => (zth_ofP σ k w = 0 ∧ rv = some (.int (zI (zan_ofP σ k w))) ∧ σ' = σ) ∧ g' 0 0 = g 0 0) (σ' := σ) (g' := g) (v := (some (.int (zI 0)))) ⟨⟨(by unfold zth_ofP; (repeat' split) <;> omega), (congrArg (fun z => some (Value.int (zI z))) (show 0 = zan_ofP σ k w by unfold zan_ofP; rw [if_neg (by omega), if_neg (by omega), if_pos (by omega)]; first | rw [if_pos (by assumption)] | rw [if_neg (by assumption)])), rfl⟩, rfl⟩ hRH_1 hSH_1) hSH_1.2.2 dX4_ofPilot_59))
    · refine z_iconst hx hb dX4_ofPilot_54 ?_
      refine lv_goto (tgt := 59) hx hb dX4_ofPilot_55 (by decide) ?_
      exact vx_ret (W.widen (k := 2) (n := 12) (Nat.le_of_ble_eq_true rfl) (Nat.le_of_ble_eq_true rfl) (W.iret hx hb hr (z_endG (post := fun rv σ' g' => (zth_ofP σ k w = 0 ∧ rv = some (.int (zI (zan_ofP σ k w))) ∧ σ' = σ) ∧ g' 0 0 = g 0 0) (σ' := σ) (g' := g) (v := (some (.int (zI 1)))) ⟨⟨(by unfold zth_ofP; (repeat' split) <;> omega), (congrArg (fun z => some (Value.int (zI z))) (show 1 = zan_ofP σ k w by unfold zan_ofP; rw [if_neg (by omega), if_neg (by omega), if_pos (by omega)]; first | rw [if_pos (by assumption)] | rw [if_neg (by assumption)])), rfl⟩, rfl⟩ hRH_1 hSH_1) hSH_1.2.2 dX4_ofPilot_59))
  by_cases c_7 : w = 3
  · refine lv_tableIn (off := 53) (tgt := 60) hx hb dX4_ofPilot_7 (by rw [zI_val (by omega)]; omega) (by rw [zI_val (by omega)]; omega) (by rw [zI_val (by omega), c_7]; rfl) (by decide) ?_
    refine lv_aload_n hx hb dX4_ofPilot_60 rfl (lv_at hl 0 rfl) ?_
    refine z_get hx hb hts in_X4_ofPilot_X1 hown hK (hRH_1.p (i := k) (by show 0 ≤ k ∧ k < σ 11 0; omega)) rfl 4 (by decide) lk_X4_ofPilot_202 rfl rfl dX4_ofPilot_61 ?_
    refine lv_aload_n hx hb dX4_ofPilot_64 rfl (lv_at hl 0 rfl) ?_
    refine z_get hx hb hts in_X4_ofPilot_X1 hown hK (hRH_1.p (i := k) (by show 0 ≤ k ∧ k < σ 11 0; omega)) rfl 2 (by decide) lk_X4_ofPilot_209 rfl rfl dX4_ofPilot_65 ?_
    refine z_imul hx hb dX4_ofPilot_68 ?_
    exact vx_ret (W.widen (k := 2) (n := 12) (Nat.le_of_ble_eq_true rfl) (Nat.le_of_ble_eq_true rfl) (W.iret hx hb hr (z_endG (post := fun rv σ' g' => (zth_ofP σ k w = 0 ∧ rv = some (.int (zI (zan_ofP σ k w))) ∧ σ' = σ) ∧ g' 0 0 = g 0 0) (σ' := σ) (g' := g) (v := (some (.int (zI ((σ 31 k) * (σ 13 k)))))) ⟨⟨(by unfold zth_ofP; (repeat' split) <;> omega), (congrArg (fun z => some (Value.int (zI z))) (show ((σ 31 k) * (σ 13 k)) = zan_ofP σ k w by unfold zan_ofP; rw [if_neg (by omega), if_neg (by omega), if_neg (by omega), zP1_mul, e3.2])), rfl⟩, rfl⟩ hRH_1 hSH_1) hSH_1.2.2 dX4_ofPilot_69))
  refine lv_tableOut (tgt := 70) hx hb dX4_ofPilot_7 (by rw [zI_val (by omega)]; omega) (by decide) ?_
  exact z_throw (px := fun E => (zth_ofP σ k w = 1 ∧ E = xIO)) (text := "what is out of range") hx hb hfl hno hlocks hown hts (hl.1.trans hml.symm) x_fit3 x_nms ck_X4_ofPilot_175 ci_X4_ofPilot_175 cw_X4_ofPilot_179 x_bad3 (by decide) (by decide) x_good3 hG hRH_1 hSH_1 (⟨by unfold zth_ofP; (repeat' split) <;> omega, rfl⟩) dX4_ofPilot_70 dX4_ofPilot_73 dX4_ofPilot_74 dX4_ofPilot_76 dX4_ofPilot_79 ⟨Nat.le_of_ble_eq_true rfl, Nat.le_of_ble_eq_true rfl, Nat.le_of_ble_eq_true rfl, Nat.le_of_ble_eq_true rfl, Nat.le_of_ble_eq_true rfl, Nat.le_of_ble_eq_true rfl⟩

theorem lk_X4_count_68 : Cond.fieldLink RX4 68 "HarbourPilotline" "now" "I" ∈ wsX4_count := by decide +kernel
theorem lk_X4_count_140 : Cond.fieldLink RX4 140 "HarbourPilotline" "toldByDrops" "I" ∈ wsX4_count := by decide +kernel
theorem in_X4_count_X4 : ∀ w ∈ wsX40, w ∈ wsX4_count := by decide +kernel
set_option maxRecDepth 100000 in
set_option maxHeartbeats 4000000 in
theorem c_X4_count (l : Launch) (hfl : l.stackTraces = false) (D : va_G) (cI cO cL : ClassId) (A : Nat → Prop) (eE mi : Nat) (sa : Nat → Nat) (g : zG) (σ : zT) (H0 : Heap) (hR : RX D cO A eE g σ H0) (w : Int) (hI : zInv σ) (hJ : zInv2 σ) (hA : (-2147483648 ≤ w ∧ w < 2147483648)) : zXM l yX4_count wsX4_count ({ frames := 7, cells := 1, slots := 6, locals := 104 }) D cI cO cL A eE mi sa g σ [.ref (g 0 0), .int (zI w)] H0 (fun rv σ' g' => (zth_count w = 0 ∧ rv = some (.int (zI (zan_count σ w))) ∧ σ' = σ) ∧ g' 0 0 = g 0 0) (fun E => (zth_count w = 1 ∧ E = xIA)) := by
  refine vx_ofW (cc := cX4_count) (maxL := 2) (ret := (some .int)) (by decide) rfl ?_
  intro p e s m args below meth c s₁ B hml hno hv
  obtain ⟨rfl, hH, hG⟩ := hv
  subst hH
  have hK := hG.k
  have hx := B.exec
  have hb := B.bytes
  have hr := B.returns
  have hts := atoms_spec (ws := wsX4_count) B.pre
  have hown : s.vm.findClass RX4 = some m.cls := findClass_of_methodNamed B.named
  have hlocks := B.notSynchronized
  have hl := lv_entry ([.ref (g 0 0), .int (zI w)]) (n := 2) (Nat.le_of_ble_eq_true rfl)
  rw [lg_entry_eq]
  generalize (lg_sl ([.ref (g 0 0), .int (zI w)]) ++ List.replicate (2 - (lg_sl ([.ref (g 0 0), .int (zI w)])).length) Slot.unset).toArray = ls at hl ⊢
  have hl : lv_has ls 2 [(0, .ref (g 0 0)), (1, .int (zI w))] := hl
  have f0 := hI.r
  refine lv_iload_n hx hb dX4_count_0 rfl (lv_at hl 1 rfl) ?_
  refine z_iconst hx hb dX4_count_1 ?_
  refine z_bipush hx hb dX4_count_2 (by decide +kernel) ?_
  refine z_xmS (As := [.int (zI w), .int (zI 0), .int (zI 7)]) (rest := []) ⟨hx, hb, hml, hown, hts⟩ (c_X4_demandWithin l hfl D cI cO cL A eE mi sa g σ s.heap hR w 0 7 (by omega)) (va_cwS 3 hts gX4_count_X4_demandWithin rfl rfl rfl (by decide +kernel) ⟨Nat.le_of_ble_eq_true rfl, Nat.le_of_ble_eq_true rfl⟩) hG va_S.rf rfl hl.1 rfl (Nat.le_of_ble_eq_true rfl) dX4_count_4 ⟨Nat.le_of_ble_eq_true rfl, Nat.le_of_ble_eq_true rfl⟩ (fun E ce q9 H1 locs1 hpx hRx hzx hkx hSx hcx hvx hclx => by
    obtain ⟨hn, rfl⟩ := hpx
    exact z_xout (px' := fun E => (zth_count w = 1 ∧ E = xIA)) hno hlocks hcx hvx hclx (⟨by unfold zth_count; (repeat' split) <;> omega, rfl⟩) hRx hSx ⟨Nat.le_of_ble_eq_true rfl, Nat.le_of_ble_eq_true rfl⟩) (fun rH_1 σH_1 gH_1 H_1 locsH_1 hpH_1 hRH_1 hzH_1 hkH_1 hSH_1 => ?_)
  obtain ⟨hdH_1, erH_1, esH_1, egH_1⟩ := hpH_1
  rw [esH_1, egH_1] at hRH_1
  rw [erH_1]
  refine lv_iload_n hx hb dX4_count_7 rfl (lv_at hl 1 rfl) ?_
  by_cases c_2 : w = 5
  · refine lv_tableIn (off := 28) (tgt := 36) hx hb dX4_count_8 (by rw [zI_val (by omega)]; omega) (by rw [zI_val (by omega)]; omega) (by rw [zI_val (by omega), c_2]; rfl) (by decide) ?_
    refine lv_aload_n hx hb dX4_count_36 rfl (lv_at hl 0 rfl) ?_
    refine lv_null hx hb dX4_count_37 ?_
    refine lv_aload_n hx hb dX4_count_38 rfl (lv_at hl 0 rfl) ?_
    refine z_get hx hb hts in_X4_count_X4 hown hK hRH_1.x rfl 5 (by decide) lk_X4_count_68 rfl rfl dX4_count_39 ?_
    refine lv_aload_n hx hb dX4_count_42 rfl (lv_at hl 0 rfl) ?_
    refine z_get hx hb hts in_X4_count_X4 hown hK hRH_1.x rfl 5 (by decide) lk_X4_count_68 rfl rfl dX4_count_43 ?_
    refine z_cv (As := [.null, .int (zI (σ 1 0)), .int (zI (σ 1 0))]) (rest := []) ⟨hx, hb, hml, hown, hts⟩ (c_X4_tugsOfOthers_N l D cI cO cL A eE g σ H_1 hRH_1 (σ 1 0) (σ 1 0) hI (by omega)) (cwV 3 hts gX4_count_X4_tugsOfOthers rfl rfl rfl (by decide +kernel) ⟨Nat.le_of_ble_eq_true rfl, Nat.le_of_ble_eq_true rfl⟩) (zKK_mv D cI cO cL) (fun U _ hv => va_K.moved hv hK) (z_recv hK hRH_1.x rfl) rfl hl.1 rfl (Nat.le_of_ble_eq_true rfl) dX4_count_46 ⟨Nat.le_of_ble_eq_true rfl, Nat.le_of_ble_eq_true rfl⟩ (fun r_3 hr_3 => ?_)
    rw [hr_3]
    exact vx_ret (W.widen (k := 1) (n := 6) (Nat.le_of_ble_eq_true rfl) (Nat.le_of_ble_eq_true rfl) (W.iret hx hb hr (z_endG (post := fun rv σ' g' => (zth_count w = 0 ∧ rv = some (.int (zI (zan_count σ w))) ∧ σ' = σ) ∧ g' 0 0 = g 0 0) (σ' := σ) (g' := g) (v := (some (.int (zI (zTgs σ (-1) (σ 1 0) (σ 1 0)))))) ⟨⟨(by unfold zth_count; (repeat' split) <;> omega), (congrArg (fun z => some (Value.int (zI z))) (show (zTgs σ (-1) (σ 1 0) (σ 1 0)) = zan_count σ w by unfold zan_count; rw [if_neg (by omega), if_neg (by omega), if_pos (by omega)]; exact zAboard hI hJ)), rfl⟩, rfl⟩ hRH_1 hSH_1) hSH_1.2.2 dX4_count_49))
  by_cases c_4 : w = 6
  · refine lv_tableIn (off := 42) (tgt := 50) hx hb dX4_count_8 (by rw [zI_val (by omega)]; omega) (by rw [zI_val (by omega)]; omega) (by rw [zI_val (by omega), c_4]; rfl) (by decide) ?_
    refine lv_aload_n hx hb dX4_count_50 rfl (lv_at hl 0 rfl) ?_
    refine z_cv (As := []) (rest := []) ⟨hx, hb, hml, hown, hts⟩ (c_X4_allBills l D cI cO cL A eE g σ H_1 hRH_1  hI) (cwV 0 hts gX4_count_X4_allBills rfl rfl rfl (by decide +kernel) ⟨Nat.le_of_ble_eq_true rfl, Nat.le_of_ble_eq_true rfl⟩) (zKK_mv D cI cO cL) (fun U _ hv => va_K.moved hv hK) (z_recv hK hRH_1.x rfl) rfl hl.1 rfl (Nat.le_of_ble_eq_true rfl) dX4_count_51 ⟨Nat.le_of_ble_eq_true rfl, Nat.le_of_ble_eq_true rfl⟩ (fun r_5 hr_5 => ?_)
    rw [hr_5]
    exact vx_ret (W.widen (k := 1) (n := 6) (Nat.le_of_ble_eq_true rfl) (Nat.le_of_ble_eq_true rfl) (W.iret hx hb hr (z_endG (post := fun rv σ' g' => (zth_count w = 0 ∧ rv = some (.int (zI (zan_count σ w))) ∧ σ' = σ) ∧ g' 0 0 = g 0 0) (σ' := σ) (g' := g) (v := (some (.int (zI (zSum (σ 10) (σ 5 0).toNat))))) ⟨⟨(by unfold zth_count; (repeat' split) <;> omega), (congrArg (fun z => some (Value.int (zI z))) (show (zSum (σ 10) (σ 5 0).toNat) = zan_count σ w by unfold zan_count; rw [if_pos (by omega)])), rfl⟩, rfl⟩ hRH_1 hSH_1) hSH_1.2.2 dX4_count_54))
  by_cases c_6 : w = 7
  · refine lv_tableIn (off := 47) (tgt := 55) hx hb dX4_count_8 (by rw [zI_val (by omega)]; omega) (by rw [zI_val (by omega)]; omega) (by rw [zI_val (by omega), c_6]; rfl) (by decide) ?_
    refine lv_aload_n hx hb dX4_count_55 rfl (lv_at hl 0 rfl) ?_
    refine z_get hx hb hts in_X4_count_X4 hown hK hRH_1.x rfl 6 (by decide) lk_X4_count_140 rfl rfl dX4_count_56 ?_
    exact vx_ret (W.widen (k := 1) (n := 6) (Nat.le_of_ble_eq_true rfl) (Nat.le_of_ble_eq_true rfl) (W.iret hx hb hr (z_endG (post := fun rv σ' g' => (zth_count w = 0 ∧ rv = some (.int (zI (zan_count σ w))) ∧ σ' = σ) ∧ g' 0 0 = g 0 0) (σ' := σ) (g' := g) (v := (some (.int (zI (σ 21 0))))) ⟨⟨(by unfold zth_count; (repeat' split) <;> omega), (congrArg (fun z => some (Value.int (zI z))) (show (σ 21 0) = zan_count σ w by unfold zan_count; rw [if_neg (by omega), if_pos (by omega)])), rfl⟩, rfl⟩ hRH_1 hSH_1) hSH_1.2.2 dX4_count_59))
  refine lv_tableOut (tgt := 60) hx hb dX4_count_8 (by rw [zI_val (by omega)]; omega) (by decide) ?_
  refine lv_aload_n hx hb dX4_count_60 rfl (lv_at hl 0 rfl) ?_
  refine lv_iload_n hx hb dX4_count_61 rfl (lv_at hl 1 rfl) ?_
  refine z_cv (As := [.int (zI w)]) (rest := []) ⟨hx, hb, hml, hown, hts⟩ (c_X4_howManyAre l D cI cO cL A eE g σ H_1 hRH_1 w hI (by omega)) (cwV 1 hts gX4_count_X4_howManyAre rfl rfl rfl (by decide +kernel) ⟨Nat.le_of_ble_eq_true rfl, Nat.le_of_ble_eq_true rfl⟩) (zKK_mv D cI cO cL) (fun U _ hv => va_K.moved hv hK) (z_recv hK hRH_1.x rfl) rfl hl.1 rfl (Nat.le_of_ble_eq_true rfl) dX4_count_62 ⟨Nat.le_of_ble_eq_true rfl, Nat.le_of_ble_eq_true rfl⟩ (fun r_7 hr_7 => ?_)
  rw [hr_7]
  exact vx_ret (W.widen (k := 1) (n := 6) (Nat.le_of_ble_eq_true rfl) (Nat.le_of_ble_eq_true rfl) (W.iret hx hb hr (z_endG (post := fun rv σ' g' => (zth_count w = 0 ∧ rv = some (.int (zI (zan_count σ w))) ∧ σ' = σ) ∧ g' 0 0 = g 0 0) (σ' := σ) (g' := g) (v := (some (.int (zI (zSum (fun c => if σ 19 c = w then 1 else 0) (σ 14 0).toNat))))) ⟨⟨(by unfold zth_count; (repeat' split) <;> omega), (congrArg (fun z => some (Value.int (zI z))) (show (zSum (fun c => if σ 19 c = w then 1 else 0) (σ 14 0).toNat) = zan_count σ w by unfold zan_count; rw [if_neg (by omega), if_neg (by omega), if_neg (by omega)])), rfl⟩, rfl⟩ hRH_1 hSH_1) hSH_1.2.2 dX4_count_65))

theorem lk_X4_again_125 : Cond.fieldLink RX4 125 "HarbourPilotline$Conference" "state" "I" ∈ wsX4_again := by decide +kernel
theorem lk_X4_again_122 : Cond.fieldLink RX4 122 "HarbourPilotline$Conference" "slot" "I" ∈ wsX4_again := by decide +kernel
theorem ck_X4_again_92 : Cond.classLink RX4 92 "java/lang/IllegalStateException" ∈ wsX4_again := by decide +kernel
theorem ci_X4_again_92 : Cond.initialized "java/lang/IllegalStateException" ∈ wsX4_again := by decide +kernel
theorem cw_X4_again_96 : ∀ w ∈ (vx_atS RX4 96 "java/lang/IllegalStateException" ["java/lang/RuntimeException", "java/lang/Exception"]).filter goodWord, w ∈ wsX4_again := by decide +kernel
theorem in_X4_again_X0 : ∀ w ∈ wsX00, w ∈ wsX4_again := by decide +kernel
set_option maxRecDepth 100000 in
set_option maxHeartbeats 4000000 in
theorem c_X4_again (l : Launch) (hfl : l.stackTraces = false) (D : va_G) (cI cO cL : ClassId) (A : Nat → Prop) (eE mi : Nat) (sa : Nat → Nat) (g : zG) (σ : zT) (H0 : Heap) (hR : RX D cO A eE g σ H0) (k : Int) (hI : zInv σ) (hA : (-2147483648 ≤ k ∧ k < 2147483648)) : zXM l yX4_again wsX4_again ({ frames := 7, cells := 2, slots := 12, locals := 161 }) D cI cO cL A eE mi sa g σ [.ref (g 0 0), .int (zI k)] H0 (fun rv σ' g' => (zth_again σ k = 0 ∧ rv = some (.int (zI (zan_again σ k))) ∧ σ' = zst_again σ k) ∧ g' 0 0 = g 0 0) (fun E => (zth_again σ k = 1 ∧ E = xIO) ∨ (zth_again σ k = 2 ∧ E = xIS)) := by
  refine vx_ofW (cc := cX4_again) (maxL := 3) (ret := (some .int)) (by decide) rfl ?_
  intro p e s m args below meth c s₁ B hml hno hv
  obtain ⟨rfl, hH, hG⟩ := hv
  subst hH
  have hK := hG.k
  have hx := B.exec
  have hb := B.bytes
  have hr := B.returns
  have hts := atoms_spec (ws := wsX4_again) B.pre
  have hown : s.vm.findClass RX4 = some m.cls := findClass_of_methodNamed B.named
  have hlocks := B.notSynchronized
  have hl := lv_entry ([.ref (g 0 0), .int (zI k)]) (n := 3) (Nat.le_of_ble_eq_true rfl)
  rw [lg_entry_eq]
  generalize (lg_sl ([.ref (g 0 0), .int (zI k)]) ++ List.replicate (3 - (lg_sl ([.ref (g 0 0), .int (zI k)])).length) Slot.unset).toArray = ls at hl ⊢
  have hl : lv_has ls 3 [(0, .ref (g 0 0)), (1, .int (zI k))] := hl
  refine lv_aload_n hx hb dX4_again_0 rfl (lv_at hl 0 rfl) ?_
  refine lv_iload_n hx hb dX4_again_1 rfl (lv_at hl 1 rfl) ?_
  refine z_xmV (As := [.int (zI k)]) (rest := []) ⟨hx, hb, hml, hown, hts⟩ (c_X4_conferenceAt l hfl D cI cO cL A eE mi sa g σ s.heap hR k hI (by omega)) (cwV 1 hts gX4_again_X4_conferenceAt rfl rfl rfl (by decide +kernel) ⟨Nat.le_of_ble_eq_true rfl, Nat.le_of_ble_eq_true rfl⟩) hG va_S.rf (z_recv hK hR.x rfl) rfl hl.1 rfl (Nat.le_of_ble_eq_true rfl) dX4_again_2 ⟨Nat.le_of_ble_eq_true rfl, Nat.le_of_ble_eq_true rfl⟩ (fun E ce q9 H1 locs1 hpx hRx hzx hkx hSx hcx hvx hclx => by
    obtain ⟨hn, rfl⟩ := hpx
    exact z_xout (px' := fun E => (zth_again σ k = 1 ∧ E = xIO) ∨ (zth_again σ k = 2 ∧ E = xIS)) hno hlocks hcx hvx hclx (Or.inl ⟨by unfold zth_again; (repeat' split) <;> omega, rfl⟩) hRx hSx ⟨Nat.le_of_ble_eq_true rfl, Nat.le_of_ble_eq_true rfl⟩) (fun rH_1 σH_1 gH_1 H_1 locsH_1 hpH_1 hRH_1 hzH_1 hkH_1 hSH_1 => ?_)
  obtain ⟨hdH_1, erH_1, esH_1, egH_1⟩ := hpH_1
  rw [esH_1, egH_1] at hRH_1
  rw [erH_1]
  have hk := hdH_1
  have fk := hI.c hk
  have gk := hI.s (i := σ 15 k) (by omega)
  refine lv_astore_n (lv' := [(2, .ref (g 6 k)), (0, .ref (g 0 0)), (1, .int (zI k))]) hx hb dX4_again_5 rfl hl (by decide) rfl (fun ls hl => ?_)
  refine lv_aload_n hx hb dX4_again_6 rfl (lv_at hl 0 rfl) ?_
  refine z_get hx hb hts in_X4_again_X0 hown hK (hRH_1.c (i := k) (by show 0 ≤ k ∧ k < σ 14 0; omega)) rfl 5 (by decide) lk_X4_again_125 rfl rfl dX4_again_7 ?_
  refine z_iconst hx hb dX4_again_10 ?_
  refine z_icmp_eq (tgt := 24) hx hb dX4_again_11 (by decide) (by omega) (fun c_2 => ?_) (fun c_2 => ?_)
  · refine lv_aload_n hx hb dX4_again_24 rfl (lv_at hl 1 rfl) ?_
    refine lv_aload_n hx hb dX4_again_25 rfl (lv_at hl 0 rfl) ?_
    refine z_wx (As := [.ref (g 6 k)]) (rest := []) ⟨hx, hb, hml, hown, hts⟩ (c_X4_lookForSlot l D cI cO cL A eE g σ H_1 hRH_1 k hI (by omega)) (cwV 1 hts gX4_again_X4_lookForSlot rfl rfl rfl (by decide +kernel) ⟨Nat.le_of_ble_eq_true rfl, Nat.le_of_ble_eq_true rfl⟩) hK hSH_1 (z_recv hK hRH_1.x rfl) rfl hl.1 rfl (Nat.le_of_ble_eq_true rfl) dX4_again_26 ⟨Nat.le_of_ble_eq_true rfl, Nat.le_of_ble_eq_true rfl⟩ (fun rH_3 σH_3 H_3 locsH_3 hpH_3 hRH_3 hzH_3 hSH_3 => ?_)
    obtain ⟨eH_3, qH_3⟩ := hpH_3
    rw [eH_3]
    rw [qH_3] at hRH_3
    refine lv_aload_n hx hb dX4_again_29 rfl (lv_at hl 0 rfl) ?_
    refine z_get hx hb hts in_X4_again_X0 hown hK (hRH_3.c (i := k) (by show 0 ≤ k ∧ k < σ 14 0; omega)) rfl 6 (by decide) lk_X4_again_122 rfl rfl dX4_again_30 ?_
    exact vx_ret (W.widen (k := 2) (n := 12) (Nat.le_of_ble_eq_true rfl) (Nat.le_of_ble_eq_true rfl) (W.iret hx hb hr (z_endG (post := fun rv σ' g' => (zth_again σ k = 0 ∧ rv = some (.int (zI (zan_again σ k))) ∧ σ' = zst_again σ k) ∧ g' 0 0 = g 0 0) (σ' := zst_again σ k) (g' := g) (v := (some (.int (zI ((zLook σ k) 20 k))))) ⟨⟨(by unfold zth_again; (repeat' split) <;> omega), rfl, rfl⟩, rfl⟩ hRH_3 hSH_3) hSH_3.2.2 dX4_again_33))
  · exact z_throw (px := fun E => (zth_again σ k = 1 ∧ E = xIO) ∨ (zth_again σ k = 2 ∧ E = xIS)) (text := "not JOINED") hx hb hfl hno hlocks hown hts (hl.1.trans hml.symm) x_fit2 x_nms ck_X4_again_92 ci_X4_again_92 cw_X4_again_96 x_bad2 (by decide) (by decide) x_good2 hG hRH_1 hSH_1 (Or.inr (⟨by unfold zth_again; (repeat' split) <;> omega, rfl⟩)) dX4_again_14 dX4_again_17 dX4_again_18 dX4_again_20 dX4_again_23 ⟨Nat.le_of_ble_eq_true rfl, Nat.le_of_ble_eq_true rfl, Nat.le_of_ble_eq_true rfl, Nat.le_of_ble_eq_true rfl, Nat.le_of_ble_eq_true rfl, Nat.le_of_ble_eq_true rfl⟩

theorem lk_X4_why_68 : Cond.fieldLink RX4 68 "HarbourPilotline" "now" "I" ∈ wsX4_why := by decide +kernel
theorem lk_X4_why_167 : Cond.fieldLink RX4 167 "HarbourPilotline$Conference" "pilot" "LHarbourPilotline$Pilot;" ∈ wsX4_why := by decide +kernel
theorem ck_X4_why_92 : Cond.classLink RX4 92 "java/lang/IllegalStateException" ∈ wsX4_why := by decide +kernel
theorem ci_X4_why_92 : Cond.initialized "java/lang/IllegalStateException" ∈ wsX4_why := by decide +kernel
theorem cw_X4_why_96 : ∀ w ∈ (vx_atS RX4 96 "java/lang/IllegalStateException" ["java/lang/RuntimeException", "java/lang/Exception"]).filter goodWord, w ∈ wsX4_why := by decide +kernel
theorem lk_X4_why_10 : Cond.fieldLink RX4 10 "HarbourPilotline" "tide" "LHarbourPilotline$Tide;" ∈ wsX4_why := by decide +kernel
theorem lk_X4_why_102 : Cond.fieldLink RX4 102 "HarbourPilotline$Conference" "ship" "LHarbourPilotline$Ship;" ∈ wsX4_why := by decide +kernel
theorem in_X4_why_X0 : ∀ w ∈ wsX00, w ∈ wsX4_why := by decide +kernel
theorem in_X4_why_X4 : ∀ w ∈ wsX40, w ∈ wsX4_why := by decide +kernel
set_option maxRecDepth 100000 in
set_option maxHeartbeats 4000000 in
theorem c_X4_why (l : Launch) (hfl : l.stackTraces = false) (D : va_G) (cI cO cL : ClassId) (A : Nat → Prop) (eE mi : Nat) (sa : Nat → Nat) (g : zG) (σ : zT) (H0 : Heap) (hR : RX D cO A eE g σ H0) (k t : Int) (hI : zInv σ) (hA : (-2147483648 ≤ k ∧ k < 2147483648) ∧ (-2147483648 ≤ t ∧ t < 2147483648)) : zXM l yX4_why wsX4_why ({ frames := 7, cells := 3, slots := 18, locals := 115 }) D cI cO cL A eE mi sa g σ [.ref (g 0 0), .int (zI k), .int (zI t)] H0 (fun rv σ' g' => (zth_why σ k t = 0 ∧ rv = some (.int (zI (zan_why σ k t))) ∧ σ' = σ) ∧ g' 0 0 = g 0 0) (fun E => (zth_why σ k t = 1 ∧ E = xIO) ∨ (zth_why σ k t = 2 ∧ E = xIA) ∨ (zth_why σ k t = 3 ∧ E = xIS)) := by
  refine vx_ofW (cc := cX4_why) (maxL := 4) (ret := (some .int)) (by decide) rfl ?_
  intro p e s m args below meth c s₁ B hml hno hv
  obtain ⟨rfl, hH, hG⟩ := hv
  subst hH
  have hK := hG.k
  have hx := B.exec
  have hb := B.bytes
  have hr := B.returns
  have hts := atoms_spec (ws := wsX4_why) B.pre
  have hown : s.vm.findClass RX4 = some m.cls := findClass_of_methodNamed B.named
  have hlocks := B.notSynchronized
  have hl := lv_entry ([.ref (g 0 0), .int (zI k), .int (zI t)]) (n := 4) (Nat.le_of_ble_eq_true rfl)
  rw [lg_entry_eq]
  generalize (lg_sl ([.ref (g 0 0), .int (zI k), .int (zI t)]) ++ List.replicate (4 - (lg_sl ([.ref (g 0 0), .int (zI k), .int (zI t)])).length) Slot.unset).toArray = ls at hl ⊢
  have hl : lv_has ls 4 [(0, .ref (g 0 0)), (1, .int (zI k)), (2, .int (zI t))] := hl
  have f0 := hI.r
  refine lv_aload_n hx hb dX4_why_0 rfl (lv_at hl 0 rfl) ?_
  refine lv_iload_n hx hb dX4_why_1 rfl (lv_at hl 1 rfl) ?_
  refine z_xmV (As := [.int (zI k)]) (rest := []) ⟨hx, hb, hml, hown, hts⟩ (c_X4_conferenceAt l hfl D cI cO cL A eE mi sa g σ s.heap hR k hI (by omega)) (cwV 1 hts gX4_why_X4_conferenceAt rfl rfl rfl (by decide +kernel) ⟨Nat.le_of_ble_eq_true rfl, Nat.le_of_ble_eq_true rfl⟩) hG va_S.rf (z_recv hK hR.x rfl) rfl hl.1 rfl (Nat.le_of_ble_eq_true rfl) dX4_why_2 ⟨Nat.le_of_ble_eq_true rfl, Nat.le_of_ble_eq_true rfl⟩ (fun E ce q9 H1 locs1 hpx hRx hzx hkx hSx hcx hvx hclx => by
    obtain ⟨hn, rfl⟩ := hpx
    exact z_xout (px' := fun E => (zth_why σ k t = 1 ∧ E = xIO) ∨ (zth_why σ k t = 2 ∧ E = xIA) ∨ (zth_why σ k t = 3 ∧ E = xIS)) hno hlocks hcx hvx hclx (Or.inl ⟨by unfold zth_why; (repeat' split) <;> omega, rfl⟩) hRx hSx ⟨Nat.le_of_ble_eq_true rfl, Nat.le_of_ble_eq_true rfl⟩) (fun rH_1 σH_1 gH_1 H_1 locsH_1 hpH_1 hRH_1 hzH_1 hkH_1 hSH_1 => ?_)
  obtain ⟨hdH_1, erH_1, esH_1, egH_1⟩ := hpH_1
  rw [esH_1, egH_1] at hRH_1
  rw [erH_1]
  have hk := hdH_1
  have fk := hI.c hk
  have gk := hI.s (i := σ 15 k) (by omega)
  refine lv_astore_n (lv' := [(3, .ref (g 6 k)), (0, .ref (g 0 0)), (1, .int (zI k)), (2, .int (zI t))]) hx hb dX4_why_5 rfl hl (by decide) rfl (fun ls hl => ?_)
  refine lv_iload_n hx hb dX4_why_6 rfl (lv_at hl 3 rfl) ?_
  refine lv_aload_n hx hb dX4_why_7 rfl (lv_at hl 1 rfl) ?_
  refine z_get hx hb hts in_X4_why_X4 hown hK hRH_1.x rfl 5 (by decide) lk_X4_why_68 rfl rfl dX4_why_8 ?_
  refine z_sipush hx hb dX4_why_11 (by decide +kernel) ?_
  refine z_xmS (As := [.int (zI t), .int (zI (σ 1 0)), .int (zI 21440)]) (rest := []) ⟨hx, hb, hml, hown, hts⟩ (c_X4_demandWithin l hfl D cI cO cL A eE mi sa g σ H_1 hRH_1 t (σ 1 0) 21440 (by omega)) (va_cwS 3 hts gX4_why_X4_demandWithin rfl rfl rfl (by decide +kernel) ⟨Nat.le_of_ble_eq_true rfl, Nat.le_of_ble_eq_true rfl⟩) hG hSH_1 rfl hl.1 rfl (Nat.le_of_ble_eq_true rfl) dX4_why_14 ⟨Nat.le_of_ble_eq_true rfl, Nat.le_of_ble_eq_true rfl⟩ (fun E ce q9 H1 locs1 hpx hRx hzx hkx hSx hcx hvx hclx => by
    obtain ⟨hn, rfl⟩ := hpx
    exact z_xout (px' := fun E => (zth_why σ k t = 1 ∧ E = xIO) ∨ (zth_why σ k t = 2 ∧ E = xIA) ∨ (zth_why σ k t = 3 ∧ E = xIS)) hno hlocks hcx hvx hclx (Or.inr (Or.inl ⟨by unfold zth_why; (repeat' split) <;> omega, rfl⟩)) hRx hSx ⟨Nat.le_of_ble_eq_true rfl, Nat.le_of_ble_eq_true rfl⟩) (fun rH_2 σH_2 gH_2 H_2 locsH_2 hpH_2 hRH_2 hzH_2 hkH_2 hSH_2 => ?_)
  obtain ⟨hdH_2, erH_2, esH_2, egH_2⟩ := hpH_2
  rw [esH_2, egH_2] at hRH_2
  rw [erH_2]
  refine lv_aload_n hx hb dX4_why_17 rfl (lv_at hl 0 rfl) ?_
  refine z_get hx hb hts in_X4_why_X0 hown hK (hRH_2.c (i := k) (by show 0 ≤ k ∧ k < σ 14 0; omega)) rfl 4 (by decide) lk_X4_why_167 rfl rfl dX4_why_18 ?_
  by_cases p_3 : σ 18 k = -1
  · refine z_tov (w := .null) (by rw [xPl_n p_3]; rfl) ?_
    refine lv_ifnonnullN hx hb dX4_why_21 ?_
    exact z_throw (px := fun E => (zth_why σ k t = 1 ∧ E = xIO) ∨ (zth_why σ k t = 2 ∧ E = xIA) ∨ (zth_why σ k t = 3 ∧ E = xIS)) (text := "no pilot is in it") hx hb hfl hno hlocks hown hts (hl.1.trans hml.symm) x_fit2 x_nms ck_X4_why_92 ci_X4_why_92 cw_X4_why_96 x_bad2 (by decide) (by decide) x_good2 hG hRH_2 hSH_2 (Or.inr (Or.inr (⟨by unfold zth_why; (repeat' split) <;> omega, rfl⟩))) dX4_why_24 dX4_why_27 dX4_why_28 dX4_why_30 dX4_why_33 ⟨Nat.le_of_ble_eq_true rfl, Nat.le_of_ble_eq_true rfl, Nat.le_of_ble_eq_true rfl, Nat.le_of_ble_eq_true rfl, Nat.le_of_ble_eq_true rfl, Nat.le_of_ble_eq_true rfl⟩
  · refine z_tov (w := .ref (g 5 (σ 18 k))) (by rw [xPl_s p_3]; rfl) ?_
    refine lv_ifnonnull (tgt := 34) hx hb dX4_why_21 (by decide) ?_
    refine lv_aload_n hx hb dX4_why_34 rfl (lv_at hl 1 rfl) ?_
    refine z_get hx hb hts in_X4_why_X4 hown hK hRH_2.x rfl 0 (by decide) lk_X4_why_10 rfl rfl dX4_why_35 ?_
    refine lv_aload_n hx hb dX4_why_38 rfl (lv_at hl 0 rfl) ?_
    refine z_get hx hb hts in_X4_why_X0 hown hK (hRH_2.c (i := k) (by show 0 ≤ k ∧ k < σ 14 0; omega)) rfl 0 (by decide) lk_X4_why_102 rfl rfl dX4_why_39 ?_
    refine lv_iload_n hx hb dX4_why_42 rfl (lv_at hl 3 rfl) ?_
    refine z_cv (As := [.ref (g 4 (σ 15 k)), .int (zI t)]) (rest := []) ⟨hx, hb, hml, hown, hts⟩ (c_X3_pastShallows l D cI cO cL A eE g σ H_2 hRH_2 (σ 15 k) t hI (by omega) (by omega)) (cwV 2 hts gX4_why_X3_pastShallows rfl rfl rfl (by decide +kernel) ⟨Nat.le_of_ble_eq_true rfl, Nat.le_of_ble_eq_true rfl⟩) (zKK_mv D cI cO cL) (fun U _ hv => va_K.moved hv hK) (z_recv hK hRH_2.t rfl) rfl hl.1 rfl (Nat.le_of_ble_eq_true rfl) dX4_why_43 ⟨Nat.le_of_ble_eq_true rfl, Nat.le_of_ble_eq_true rfl⟩ (fun r_4 ⟨r_4z, hr_4, hpr_4⟩ => ?_)
    rw [hr_4]
    have bhpr_4 := hpr_4.2
    have lhpr_4 := zStep_le hpr_4
    refine lv_iload_n hx hb dX4_why_46 rfl (lv_at hl 3 rfl) ?_
    refine z_icmp_eq (tgt := 52) hx hb dX4_why_47 (by decide) (by omega) (fun c_5 => ?_) (fun c_5 => ?_)
    · refine lv_aload_n hx hb dX4_why_52 rfl (lv_at hl 1 rfl) ?_
      refine lv_aload_n hx hb dX4_why_53 rfl (lv_at hl 0 rfl) ?_
      refine lv_iload_n hx hb dX4_why_54 rfl (lv_at hl 3 rfl) ?_
      refine z_cv (As := [.ref (g 6 k), .int (zI t)]) (rest := []) ⟨hx, hb, hml, hown, hts⟩ (c_X4_pastRests l D cI cO cL A eE g σ H_2 hRH_2 k t hI (by omega) (by omega)) (cwV 2 hts gX4_why_X4_pastRests rfl rfl rfl (by decide +kernel) ⟨Nat.le_of_ble_eq_true rfl, Nat.le_of_ble_eq_true rfl⟩) (zKK_mv D cI cO cL) (fun U _ hv => va_K.moved hv hK) (z_recv hK hRH_2.x rfl) rfl hl.1 rfl (Nat.le_of_ble_eq_true rfl) dX4_why_55 ⟨Nat.le_of_ble_eq_true rfl, Nat.le_of_ble_eq_true rfl⟩ (fun r_6 ⟨r_6z, hr_6, hpr_6⟩ => ?_)
      rw [hr_6]
      have bhpr_6 := hpr_6.2
      have lhpr_6 := zStep_le hpr_6
      refine lv_iload_n hx hb dX4_why_58 rfl (lv_at hl 3 rfl) ?_
      refine z_icmp_eq (tgt := 64) hx hb dX4_why_59 (by decide) (by omega) (fun c_7 => ?_) (fun c_7 => ?_)
      · refine lv_aload_n hx hb dX4_why_64 rfl (lv_at hl 1 rfl) ?_
        refine lv_aload_n hx hb dX4_why_65 rfl (lv_at hl 0 rfl) ?_
        refine lv_iload_n hx hb dX4_why_66 rfl (lv_at hl 3 rfl) ?_
        refine z_cv (As := [.ref (g 6 k), .int (zI t)]) (rest := []) ⟨hx, hb, hml, hown, hts⟩ (c_X4_pastTugs l D cI cO cL A eE g σ H_2 hRH_2 k t hI (by omega) (by omega)) (cwV 2 hts gX4_why_X4_pastTugs rfl rfl rfl (by decide +kernel) ⟨Nat.le_of_ble_eq_true rfl, Nat.le_of_ble_eq_true rfl⟩) (zKK_mv D cI cO cL) (fun U _ hv => va_K.moved hv hK) (z_recv hK hRH_2.x rfl) rfl hl.1 rfl (Nat.le_of_ble_eq_true rfl) dX4_why_67 ⟨Nat.le_of_ble_eq_true rfl, Nat.le_of_ble_eq_true rfl⟩ (fun r_8 ⟨r_8z, hr_8, hpr_8⟩ => ?_)
        rw [hr_8]
        have bhpr_8 := hpr_8.2
        have lhpr_8 := zStep_le hpr_8
        refine lv_iload_n hx hb dX4_why_70 rfl (lv_at hl 3 rfl) ?_
        refine z_icmp_eq (tgt := 76) hx hb dX4_why_71 (by decide) (by omega) (fun c_9 => ?_) (fun c_9 => ?_)
        · refine lv_aload_n hx hb dX4_why_76 rfl (lv_at hl 1 rfl) ?_
          refine lv_aload_n hx hb dX4_why_77 rfl (lv_at hl 0 rfl) ?_
          refine lv_iload_n hx hb dX4_why_78 rfl (lv_at hl 3 rfl) ?_
          refine z_cv (As := [.ref (g 6 k), .int (zI t)]) (rest := []) ⟨hx, hb, hml, hown, hts⟩ (c_X4_pastChannel l D cI cO cL A eE g σ H_2 hRH_2 k t hI (by omega) (by omega)) (cwV 2 hts gX4_why_X4_pastChannel rfl rfl rfl (by decide +kernel) ⟨Nat.le_of_ble_eq_true rfl, Nat.le_of_ble_eq_true rfl⟩) (zKK_mv D cI cO cL) (fun U _ hv => va_K.moved hv hK) (z_recv hK hRH_2.x rfl) rfl hl.1 rfl (Nat.le_of_ble_eq_true rfl) dX4_why_79 ⟨Nat.le_of_ble_eq_true rfl, Nat.le_of_ble_eq_true rfl⟩ (fun r_10 ⟨r_10z, hr_10, hpr_10⟩ => ?_)
          rw [hr_10]
          have bhpr_10 := hpr_10.2
          have lhpr_10 := zStep_le hpr_10
          refine lv_iload_n hx hb dX4_why_82 rfl (lv_at hl 3 rfl) ?_
          refine z_icmp_eq (tgt := 90) hx hb dX4_why_83 (by decide) (by omega) (fun c_11 => ?_) (fun c_11 => ?_)
          · refine z_iconst hx hb dX4_why_90 ?_
            exact vx_ret (W.widen (k := 3) (n := 18) (Nat.le_of_ble_eq_true rfl) (Nat.le_of_ble_eq_true rfl) (W.iret hx hb hr (z_endG (post := fun rv σ' g' => (zth_why σ k t = 0 ∧ rv = some (.int (zI (zan_why σ k t))) ∧ σ' = σ) ∧ g' 0 0 = g 0 0) (σ' := σ) (g' := g) (v := (some (.int (zI 0)))) ⟨⟨(by unfold zth_why; (repeat' split) <;> omega), (congrArg (fun z => some (Value.int (zI z))) (show 0 = zan_why σ k t by unfold zan_why; rw [zIf_f (fun q => q (by rcases hpr_4.1 with z | z; exact z.2; omega)), zIf_f (fun q => q (by rcases hpr_6.1 with z | z; exact z.2; omega)), zIf_f (fun q => q (by rcases hpr_8.1 with z | z; exact z.2; omega)), zIf_t (by rcases hpr_10.1 with z | z; exact z.2; omega)])), rfl⟩, rfl⟩ hRH_2 hSH_2) hSH_2.2.2 dX4_why_91))
          · refine z_iconst hx hb dX4_why_86 ?_
            refine lv_goto (tgt := 91) hx hb dX4_why_87 (by decide) ?_
            exact vx_ret (W.widen (k := 3) (n := 18) (Nat.le_of_ble_eq_true rfl) (Nat.le_of_ble_eq_true rfl) (W.iret hx hb hr (z_endG (post := fun rv σ' g' => (zth_why σ k t = 0 ∧ rv = some (.int (zI (zan_why σ k t))) ∧ σ' = σ) ∧ g' 0 0 = g 0 0) (σ' := σ) (g' := g) (v := (some (.int (zI 4)))) ⟨⟨(by unfold zth_why; (repeat' split) <;> omega), (congrArg (fun z => some (Value.int (zI z))) (show 4 = zan_why σ k t by unfold zan_why; rw [zIf_f (fun q => q (by rcases hpr_4.1 with z | z; exact z.2; omega)), zIf_f (fun q => q (by rcases hpr_6.1 with z | z; exact z.2; omega)), zIf_f (fun q => q (by rcases hpr_8.1 with z | z; exact z.2; omega)), zIf_f (by rcases hpr_10.1 with z | z; omega; exact z.2 t (by omega) (by omega))])), rfl⟩, rfl⟩ hRH_2 hSH_2) hSH_2.2.2 dX4_why_91))
        · refine z_iconst hx hb dX4_why_74 ?_
          exact vx_ret (W.widen (k := 3) (n := 18) (Nat.le_of_ble_eq_true rfl) (Nat.le_of_ble_eq_true rfl) (W.iret hx hb hr (z_endG (post := fun rv σ' g' => (zth_why σ k t = 0 ∧ rv = some (.int (zI (zan_why σ k t))) ∧ σ' = σ) ∧ g' 0 0 = g 0 0) (σ' := σ) (g' := g) (v := (some (.int (zI 3)))) ⟨⟨(by unfold zth_why; (repeat' split) <;> omega), (congrArg (fun z => some (Value.int (zI z))) (show 3 = zan_why σ k t by unfold zan_why; rw [zIf_f (fun q => q (by rcases hpr_4.1 with z | z; exact z.2; omega)), zIf_f (fun q => q (by rcases hpr_6.1 with z | z; exact z.2; omega)), zIf_t (by rcases hpr_8.1 with z | z; omega; exact z.2 t (by omega) (by omega))])), rfl⟩, rfl⟩ hRH_2 hSH_2) hSH_2.2.2 dX4_why_75))
      · refine z_iconst hx hb dX4_why_62 ?_
        exact vx_ret (W.widen (k := 3) (n := 18) (Nat.le_of_ble_eq_true rfl) (Nat.le_of_ble_eq_true rfl) (W.iret hx hb hr (z_endG (post := fun rv σ' g' => (zth_why σ k t = 0 ∧ rv = some (.int (zI (zan_why σ k t))) ∧ σ' = σ) ∧ g' 0 0 = g 0 0) (σ' := σ) (g' := g) (v := (some (.int (zI 2)))) ⟨⟨(by unfold zth_why; (repeat' split) <;> omega), (congrArg (fun z => some (Value.int (zI z))) (show 2 = zan_why σ k t by unfold zan_why; rw [zIf_f (fun q => q (by rcases hpr_4.1 with z | z; exact z.2; omega)), zIf_t (by rcases hpr_6.1 with z | z; omega; exact z.2 t (by omega) (by omega))])), rfl⟩, rfl⟩ hRH_2 hSH_2) hSH_2.2.2 dX4_why_63))
    · refine z_iconst hx hb dX4_why_50 ?_
      exact vx_ret (W.widen (k := 3) (n := 18) (Nat.le_of_ble_eq_true rfl) (Nat.le_of_ble_eq_true rfl) (W.iret hx hb hr (z_endG (post := fun rv σ' g' => (zth_why σ k t = 0 ∧ rv = some (.int (zI (zan_why σ k t))) ∧ σ' = σ) ∧ g' 0 0 = g 0 0) (σ' := σ) (g' := g) (v := (some (.int (zI 1)))) ⟨⟨(by unfold zth_why; (repeat' split) <;> omega), (congrArg (fun z => some (Value.int (zI z))) (show 1 = zan_why σ k t by unfold zan_why; rw [zIf_t (by rcases hpr_4.1 with z | z; omega; exact z.2 t (by omega) (by omega))])), rfl⟩, rfl⟩ hRH_2 hSH_2) hSH_2.2.2 dX4_why_51))

theorem lk_X4_drop_125 : Cond.fieldLink RX4 125 "HarbourPilotline$Conference" "state" "I" ∈ wsX4_drop := by decide +kernel
theorem ck_X4_drop_92 : Cond.classLink RX4 92 "java/lang/IllegalStateException" ∈ wsX4_drop := by decide +kernel
theorem ci_X4_drop_92 : Cond.initialized "java/lang/IllegalStateException" ∈ wsX4_drop := by decide +kernel
theorem cw_X4_drop_96 : ∀ w ∈ (vx_atS RX4 96 "java/lang/IllegalStateException" ["java/lang/RuntimeException", "java/lang/Exception"]).filter goodWord, w ∈ wsX4_drop := by decide +kernel
theorem lk_X4_drop_122 : Cond.fieldLink RX4 122 "HarbourPilotline$Conference" "slot" "I" ∈ wsX4_drop := by decide +kernel
theorem lk_X4_drop_140 : Cond.fieldLink RX4 140 "HarbourPilotline" "toldByDrops" "I" ∈ wsX4_drop := by decide +kernel
theorem in_X4_drop_X0 : ∀ w ∈ wsX00, w ∈ wsX4_drop := by decide +kernel
theorem in_X4_drop_X4 : ∀ w ∈ wsX40, w ∈ wsX4_drop := by decide +kernel
set_option maxRecDepth 100000 in
set_option maxHeartbeats 4000000 in
theorem c_X4_drop (l : Launch) (hfl : l.stackTraces = false) (D : va_G) (cI cO cL : ClassId) (A : Nat → Prop) (eE mi : Nat) (sa : Nat → Nat) (g : zG) (σ : zT) (H0 : Heap) (hR : RX D cO A eE g σ H0) (k w : Int) (hI : zInv σ) (hJ : zInv2 σ) (hA : (-2147483648 ≤ k ∧ k < 2147483648) ∧ (-2147483648 ≤ w ∧ w < 2147483648)) : zXM l yX4_drop wsX4_drop ({ frames := 8, cells := 3, slots := 18, locals := 185 }) D cI cO cL A eE mi sa g σ [.ref (g 0 0), .int (zI k), .int (zI w)] H0 (fun rv σ' g' => (zth_drop σ k w = 0 ∧ rv = some (.int (zI (zan_drop σ k w))) ∧ σ' = zst_drop σ k w) ∧ g' 0 0 = g 0 0) (fun E => (zth_drop σ k w = 1 ∧ E = xIO) ∨ (zth_drop σ k w = 2 ∧ E = xIS)) := by
  refine vx_ofW (cc := cX4_drop) (maxL := 6) (ret := (some .int)) (by decide) rfl ?_
  intro p e s m args below meth c s₁ B hml hno hv
  obtain ⟨rfl, hH, hG⟩ := hv
  subst hH
  have hK := hG.k
  have hx := B.exec
  have hb := B.bytes
  have hr := B.returns
  have hts := atoms_spec (ws := wsX4_drop) B.pre
  have hown : s.vm.findClass RX4 = some m.cls := findClass_of_methodNamed B.named
  have hlocks := B.notSynchronized
  have hl := lv_entry ([.ref (g 0 0), .int (zI k), .int (zI w)]) (n := 6) (Nat.le_of_ble_eq_true rfl)
  rw [lg_entry_eq]
  generalize (lg_sl ([.ref (g 0 0), .int (zI k), .int (zI w)]) ++ List.replicate (6 - (lg_sl ([.ref (g 0 0), .int (zI k), .int (zI w)])).length) Slot.unset).toArray = ls at hl ⊢
  have hl : lv_has ls 6 [(0, .ref (g 0 0)), (1, .int (zI k)), (2, .int (zI w))] := hl
  have f0 := hI.r
  refine lv_aload_n hx hb dX4_drop_0 rfl (lv_at hl 0 rfl) ?_
  refine lv_iload_n hx hb dX4_drop_1 rfl (lv_at hl 1 rfl) ?_
  refine z_xmV (As := [.int (zI k)]) (rest := []) ⟨hx, hb, hml, hown, hts⟩ (c_X4_conferenceAt l hfl D cI cO cL A eE mi sa g σ s.heap hR k hI (by omega)) (cwV 1 hts gX4_drop_X4_conferenceAt rfl rfl rfl (by decide +kernel) ⟨Nat.le_of_ble_eq_true rfl, Nat.le_of_ble_eq_true rfl⟩) hG va_S.rf (z_recv hK hR.x rfl) rfl hl.1 rfl (Nat.le_of_ble_eq_true rfl) dX4_drop_2 ⟨Nat.le_of_ble_eq_true rfl, Nat.le_of_ble_eq_true rfl⟩ (fun E ce q9 H1 locs1 hpx hRx hzx hkx hSx hcx hvx hclx => by
    obtain ⟨hn, rfl⟩ := hpx
    exact z_xout (px' := fun E => (zth_drop σ k w = 1 ∧ E = xIO) ∨ (zth_drop σ k w = 2 ∧ E = xIS)) hno hlocks hcx hvx hclx (Or.inl ⟨by unfold zth_drop; (repeat' split) <;> omega, rfl⟩) hRx hSx ⟨Nat.le_of_ble_eq_true rfl, Nat.le_of_ble_eq_true rfl⟩) (fun rH_1 σH_1 gH_1 H_1 locsH_1 hpH_1 hRH_1 hzH_1 hkH_1 hSH_1 => ?_)
  obtain ⟨hdH_1, erH_1, esH_1, egH_1⟩ := hpH_1
  rw [esH_1, egH_1] at hRH_1
  rw [erH_1]
  have hk := hdH_1
  have fk := hI.c hk
  have gk := hI.s (i := σ 15 k) (by omega)
  have jk := hJ.c hk
  have bk := zBit_r (σ 17 k) w
  refine lv_astore_n (lv' := [(3, .ref (g 6 k)), (0, .ref (g 0 0)), (1, .int (zI k)), (2, .int (zI w))]) hx hb dX4_drop_5 rfl hl (by decide) rfl (fun ls hl => ?_)
  refine lv_iload_n hx hb dX4_drop_6 rfl (lv_at hl 3 rfl) ?_
  refine z_xmS (As := [.int (zI w)]) (rest := []) ⟨hx, hb, hml, hown, hts⟩ (c_X4_demandWho l hfl D cI cO cL A eE mi sa g σ H_1 hRH_1 w (by omega)) (va_cwS 1 hts gX4_drop_X4_demandWho rfl rfl rfl (by decide +kernel) ⟨Nat.le_of_ble_eq_true rfl, Nat.le_of_ble_eq_true rfl⟩) hG hSH_1 rfl hl.1 rfl (Nat.le_of_ble_eq_true rfl) dX4_drop_7 ⟨Nat.le_of_ble_eq_true rfl, Nat.le_of_ble_eq_true rfl⟩ (fun E ce q9 H1 locs1 hpx hRx hzx hkx hSx hcx hvx hclx => by
    obtain ⟨hn, rfl⟩ := hpx
    exact z_xout (px' := fun E => (zth_drop σ k w = 1 ∧ E = xIO) ∨ (zth_drop σ k w = 2 ∧ E = xIS)) hno hlocks hcx hvx hclx (Or.inl ⟨by unfold zth_drop; (repeat' split) <;> omega, rfl⟩) hRx hSx ⟨Nat.le_of_ble_eq_true rfl, Nat.le_of_ble_eq_true rfl⟩) (fun rH_2 σH_2 gH_2 H_2 locsH_2 hpH_2 hRH_2 hzH_2 hkH_2 hSH_2 => ?_)
  obtain ⟨hdH_2, erH_2, esH_2, egH_2⟩ := hpH_2
  rw [esH_2, egH_2] at hRH_2
  rw [erH_2]
  refine lv_aload_n hx hb dX4_drop_10 rfl (lv_at hl 0 rfl) ?_
  refine lv_iload_n hx hb dX4_drop_11 rfl (lv_at hl 3 rfl) ?_
  refine z_cv (As := [.int (zI w)]) (rest := []) ⟨hx, hb, hml, hown, hts⟩ (c_X0_hasIn l D cI cO cL A eE g σ H_2 hRH_2 k w (by omega) (by omega) (by omega)) (cwV 1 hts gX4_drop_X0_hasIn rfl rfl rfl (by decide +kernel) ⟨Nat.le_of_ble_eq_true rfl, Nat.le_of_ble_eq_true rfl⟩) (zKK_mv D cI cO cL) (fun U _ hv => va_K.moved hv hK) (z_recv hK (hRH_2.c (i := k) (by show 0 ≤ k ∧ k < σ 14 0; omega)) rfl) rfl hl.1 rfl (Nat.le_of_ble_eq_true rfl) dX4_drop_12 ⟨Nat.le_of_ble_eq_true rfl, Nat.le_of_ble_eq_true rfl⟩ (fun r_3 hr_3 => ?_)
  rw [hr_3]
  refine z_if_ne (tgt := 28) hx hb dX4_drop_15 (by decide) (by omega) (fun c_4 => ?_) (fun c_4 => ?_)
  · refine lv_aload_n hx hb dX4_drop_28 rfl (lv_at hl 0 rfl) ?_
    refine z_get hx hb hts in_X4_drop_X0 hown hK (hRH_2.c (i := k) (by show 0 ≤ k ∧ k < σ 14 0; omega)) rfl 5 (by decide) lk_X4_drop_125 rfl rfl dX4_drop_29 ?_
    refine z_iconst hx hb dX4_drop_32 ?_
    refine z_icmp_eq (tgt := 44) hx hb dX4_drop_33 (by decide) (by omega) (fun c_5 => ?_) (fun c_5 => ?_)
    · exact z_throw (px := fun E => (zth_drop σ k w = 1 ∧ E = xIO) ∨ (zth_drop σ k w = 2 ∧ E = xIS)) (text := "ABOARD or DONE") hx hb hfl hno hlocks hown hts (hl.1.trans hml.symm) x_fit2 x_nms ck_X4_drop_92 ci_X4_drop_92 cw_X4_drop_96 x_bad2 (by decide) (by decide) x_good2 hG hRH_2 hSH_2 (Or.inr (⟨by unfold zth_drop; (repeat' split) <;> omega, rfl⟩)) dX4_drop_44 dX4_drop_47 dX4_drop_48 dX4_drop_50 dX4_drop_53 ⟨Nat.le_of_ble_eq_true rfl, Nat.le_of_ble_eq_true rfl, Nat.le_of_ble_eq_true rfl, Nat.le_of_ble_eq_true rfl, Nat.le_of_ble_eq_true rfl, Nat.le_of_ble_eq_true rfl⟩
    · refine lv_aload_n hx hb dX4_drop_36 rfl (lv_at hl 0 rfl) ?_
      refine z_get hx hb hts in_X4_drop_X0 hown hK (hRH_2.c (i := k) (by show 0 ≤ k ∧ k < σ 14 0; omega)) rfl 5 (by decide) lk_X4_drop_125 rfl rfl dX4_drop_37 ?_
      refine z_iconst hx hb dX4_drop_40 ?_
      refine z_icmp_ne (tgt := 54) hx hb dX4_drop_41 (by decide) (by omega) (fun c_6 => ?_) (fun c_6 => ?_)
      · refine lv_aload_n hx hb dX4_drop_54 rfl (lv_at hl 0 rfl) ?_
        refine z_get hx hb hts in_X4_drop_X0 hown hK (hRH_2.c (i := k) (by show 0 ≤ k ∧ k < σ 14 0; omega)) rfl 6 (by decide) lk_X4_drop_122 rfl rfl dX4_drop_55 ?_
        refine z_iconst hx hb dX4_drop_58 ?_
        refine z_icmp_eq (tgt := 66) hx hb dX4_drop_59 (by decide) (by omega) (fun c_7 => ?_) (fun c_7 => ?_)
        · refine z_iconst hx hb dX4_drop_66 ?_
          refine lv_istore (lv' := [(4, .int (zI 0)), (3, .ref (g 6 k)), (0, .ref (g 0 0)), (1, .int (zI k)), (2, .int (zI w))]) hx hb dX4_drop_67 hl (by decide) rfl (fun ls hl => ?_)
          refine lv_aload_n hx hb dX4_drop_69 rfl (lv_at hl 1 rfl) ?_
          refine lv_iload_n hx hb dX4_drop_70 rfl (lv_at hl 4 rfl) ?_
          refine z_wx (As := [.int (zI w)]) (rest := []) ⟨hx, hb, hml, hown, hts⟩ (c_X0_letOut l D cI cO cL A eE g σ H_2 hRH_2 k w (by omega) (by omega)) (cwV 1 hts gX4_drop_X0_letOut rfl rfl rfl (by decide +kernel) ⟨Nat.le_of_ble_eq_true rfl, Nat.le_of_ble_eq_true rfl⟩) hK hSH_2 (z_recv hK (hRH_2.c (i := k) (by show 0 ≤ k ∧ k < σ 14 0; omega)) rfl) rfl hl.1 rfl (Nat.le_of_ble_eq_true rfl) dX4_drop_71 ⟨Nat.le_of_ble_eq_true rfl, Nat.le_of_ble_eq_true rfl⟩ (fun rH_8 σH_8 H_8 locsH_8 hpH_8 hRH_8 hzH_8 hSH_8 => ?_)
          obtain ⟨eH_8, qH_8⟩ := hpH_8
          rw [eH_8]
          rw [qH_8] at hRH_8
          have hI2 := zInv_dr hI hk (w := w) (by omega)
          refine lv_iload hx hb dX4_drop_74 (lv_at hl 0 rfl) ?_
          refine z_if_eq (tgt := 86) hx hb dX4_drop_76 (by decide) (by omega) (fun c_9 => ?_) (fun c_9 => ?_)
          · refine z_iconst hx hb dX4_drop_86 ?_
            refine lv_istore (lv' := [(5, .int (zI 0)), (4, .int (zI 0)), (3, .ref (g 6 k)), (0, .ref (g 0 0)), (1, .int (zI k)), (2, .int (zI w))]) hx hb dX4_drop_87 hl (by decide) rfl (fun ls hl => ?_)
            refine lv_aload_n hx hb dX4_drop_89 rfl (lv_at hl 3 rfl) ?_
            refine lv_dup hx hb dX4_drop_90 rfl ?_
            refine z_get hx hb hts in_X4_drop_X4 hown hK hRH_8.x rfl 6 (by decide) lk_X4_drop_140 rfl rfl dX4_drop_91 ?_
            refine lv_iload hx hb dX4_drop_94 (lv_at hl 0 rfl) ?_
            refine z_iadd hx hb dX4_drop_96 ?_
            refine x_put hx hb hts in_X4_drop_X4 tyX4 tyX4_ok nmX4 hown hK hRH_8 hSH_8 0 0 (by decide) rfl rfl rfl 6 (by decide) lk_X4_drop_140 rfl rfl rfl rfl (Nat.le_of_ble_eq_true rfl) (zup (zdr σ k w) 21 0 (((zdr σ k w) 21 0) + 0)) (zOth.up (t := 0) (n := 21) zOth.rf rfl) xe_21 dX4_drop_97 (fun H_10 locsH_10 hRH_10 hzH_10 hSH_10 => ?_)
            refine lv_iload hx hb dX4_drop_100 (lv_at hl 0 rfl) ?_
            exact vx_ret (W.widen (k := 3) (n := 18) (Nat.le_of_ble_eq_true rfl) (Nat.le_of_ble_eq_true rfl) (W.iret hx hb hr (z_endG (post := fun rv σ' g' => (zth_drop σ k w = 0 ∧ rv = some (.int (zI (zan_drop σ k w))) ∧ σ' = zst_drop σ k w) ∧ g' 0 0 = g 0 0) (σ' := zst_drop σ k w) (g' := g) (v := (some (.int (zI 0)))) ⟨⟨(by unfold zth_drop; (repeat' split) <;> omega), (congrArg (fun z => some (Value.int (zI z))) (show 0 = zan_drop σ k w by unfold zan_drop; rw [if_neg (by omega)])), rfl⟩, rfl⟩ (hRH_10.eqT (fun a b => by unfold zst_drop zan_drop; rw [if_neg (by omega), if_neg (by omega)]; rfl)) hSH_10) hSH_10.2.2 dX4_drop_102))
          · exact absurd c_9 (by decide)
        · refine z_iconst hx hb dX4_drop_62 ?_
          refine lv_goto (tgt := 67) hx hb dX4_drop_63 (by decide) ?_
          refine lv_istore (lv' := [(4, .int (zI 1)), (3, .ref (g 6 k)), (0, .ref (g 0 0)), (1, .int (zI k)), (2, .int (zI w))]) hx hb dX4_drop_67 hl (by decide) rfl (fun ls hl => ?_)
          refine lv_aload_n hx hb dX4_drop_69 rfl (lv_at hl 1 rfl) ?_
          refine lv_iload_n hx hb dX4_drop_70 rfl (lv_at hl 4 rfl) ?_
          refine z_wx (As := [.int (zI w)]) (rest := []) ⟨hx, hb, hml, hown, hts⟩ (c_X0_letOut l D cI cO cL A eE g σ H_2 hRH_2 k w (by omega) (by omega)) (cwV 1 hts gX4_drop_X0_letOut rfl rfl rfl (by decide +kernel) ⟨Nat.le_of_ble_eq_true rfl, Nat.le_of_ble_eq_true rfl⟩) hK hSH_2 (z_recv hK (hRH_2.c (i := k) (by show 0 ≤ k ∧ k < σ 14 0; omega)) rfl) rfl hl.1 rfl (Nat.le_of_ble_eq_true rfl) dX4_drop_71 ⟨Nat.le_of_ble_eq_true rfl, Nat.le_of_ble_eq_true rfl⟩ (fun rH_11 σH_11 H_11 locsH_11 hpH_11 hRH_11 hzH_11 hSH_11 => ?_)
          obtain ⟨eH_11, qH_11⟩ := hpH_11
          rw [eH_11]
          rw [qH_11] at hRH_11
          have hI2 := zInv_dr hI hk (w := w) (by omega)
          refine lv_iload hx hb dX4_drop_74 (lv_at hl 0 rfl) ?_
          refine z_if_eq (tgt := 86) hx hb dX4_drop_76 (by decide) (by omega) (fun c_12 => ?_) (fun c_12 => ?_)
          · exact absurd c_12 (by decide)
          · refine lv_aload_n hx hb dX4_drop_79 rfl (lv_at hl 2 rfl) ?_
            refine z_wx (As := []) (rest := []) ⟨hx, hb, hml, hown, hts⟩ (c_X4_lookAnew l D cI cO cL A eE g (zdr σ k w) H_11 hRH_11  hI2) (cwV 0 hts gX4_drop_X4_lookAnew rfl rfl rfl (by decide +kernel) ⟨Nat.le_of_ble_eq_true rfl, Nat.le_of_ble_eq_true rfl⟩) hK hSH_11 (z_recv hK hRH_11.x rfl) rfl hl.1 rfl (Nat.le_of_ble_eq_true rfl) dX4_drop_80 ⟨Nat.le_of_ble_eq_true rfl, Nat.le_of_ble_eq_true rfl⟩ (fun rH_13 σH_13 H_13 locsH_13 hpH_13 hRH_13 hzH_13 hSH_13 => ?_)
            obtain ⟨eH_13, qH_13⟩ := hpH_13
            rw [eH_13]
            rw [qH_13] at hRH_13
            refine lv_goto (tgt := 87) hx hb dX4_drop_83 (by decide) ?_
            refine lv_istore (lv' := [(5, .int (zI ((zDrops (zdr σ k w) (σ 14 0).toNat).2))), (4, .int (zI 1)), (3, .ref (g 6 k)), (0, .ref (g 0 0)), (1, .int (zI k)), (2, .int (zI w))]) hx hb dX4_drop_87 hl (by decide) rfl (fun ls hl => ?_)
            refine lv_aload_n hx hb dX4_drop_89 rfl (lv_at hl 3 rfl) ?_
            refine lv_dup hx hb dX4_drop_90 rfl ?_
            refine z_get hx hb hts in_X4_drop_X4 hown hK hRH_13.x rfl 6 (by decide) lk_X4_drop_140 rfl rfl dX4_drop_91 ?_
            refine z_top (b := σ 21 0) (by rw [zDrops_o (t := 21) (by decide) (by decide), zdr_21]) ?_
            refine lv_iload hx hb dX4_drop_94 (lv_at hl 0 rfl) ?_
            refine z_iadd hx hb dX4_drop_96 ?_
            refine x_put hx hb hts in_X4_drop_X4 tyX4 tyX4_ok nmX4 hown hK hRH_13 hSH_13 0 0 (by decide) rfl rfl rfl 6 (by decide) lk_X4_drop_140 rfl rfl rfl rfl (Nat.le_of_ble_eq_true rfl) (zup (zDrops (zdr σ k w) (σ 14 0).toNat).1 21 0 ((σ 21 0) + ((zDrops (zdr σ k w) (σ 14 0).toNat).2))) (zOth.up (t := 0) (n := 21) zOth.rf rfl) xe_21 dX4_drop_97 (fun H_14 locsH_14 hRH_14 hzH_14 hSH_14 => ?_)
            refine lv_iload hx hb dX4_drop_100 (lv_at hl 0 rfl) ?_
            exact vx_ret (W.widen (k := 3) (n := 18) (Nat.le_of_ble_eq_true rfl) (Nat.le_of_ble_eq_true rfl) (W.iret hx hb hr (z_endG (post := fun rv σ' g' => (zth_drop σ k w = 0 ∧ rv = some (.int (zI (zan_drop σ k w))) ∧ σ' = zst_drop σ k w) ∧ g' 0 0 = g 0 0) (σ' := zst_drop σ k w) (g' := g) (v := (some (.int (zI ((zDrops (zdr σ k w) (σ 14 0).toNat).2))))) ⟨⟨(by unfold zth_drop; (repeat' split) <;> omega), (congrArg (fun z => some (Value.int (zI z))) (show ((zDrops (zdr σ k w) (σ 14 0).toNat).2) = zan_drop σ k w by unfold zan_drop; rw [if_pos (by omega)])), rfl⟩, rfl⟩ (hRH_14.eqT (fun a b => by unfold zst_drop zan_drop; rw [if_pos (by omega), if_pos (by omega)])) hSH_14) hSH_14.2.2 dX4_drop_102))
      · exact z_throw (px := fun E => (zth_drop σ k w = 1 ∧ E = xIO) ∨ (zth_drop σ k w = 2 ∧ E = xIS)) (text := "ABOARD or DONE") hx hb hfl hno hlocks hown hts (hl.1.trans hml.symm) x_fit2 x_nms ck_X4_drop_92 ci_X4_drop_92 cw_X4_drop_96 x_bad2 (by decide) (by decide) x_good2 hG hRH_2 hSH_2 (Or.inr (⟨by unfold zth_drop; (repeat' split) <;> omega, rfl⟩)) dX4_drop_44 dX4_drop_47 dX4_drop_48 dX4_drop_50 dX4_drop_53 ⟨Nat.le_of_ble_eq_true rfl, Nat.le_of_ble_eq_true rfl, Nat.le_of_ble_eq_true rfl, Nat.le_of_ble_eq_true rfl, Nat.le_of_ble_eq_true rfl, Nat.le_of_ble_eq_true rfl⟩
  · exact z_throw (px := fun E => (zth_drop σ k w = 1 ∧ E = xIO) ∨ (zth_drop σ k w = 2 ∧ E = xIS)) (text := "not in it") hx hb hfl hno hlocks hown hts (hl.1.trans hml.symm) x_fit2 x_nms ck_X4_drop_92 ci_X4_drop_92 cw_X4_drop_96 x_bad2 (by decide) (by decide) x_good2 hG hRH_2 hSH_2 (Or.inr (⟨by unfold zth_drop; (repeat' split) <;> omega, rfl⟩)) dX4_drop_18 dX4_drop_21 dX4_drop_22 dX4_drop_24 dX4_drop_27 ⟨Nat.le_of_ble_eq_true rfl, Nat.le_of_ble_eq_true rfl, Nat.le_of_ble_eq_true rfl, Nat.le_of_ble_eq_true rfl, Nat.le_of_ble_eq_true rfl, Nat.le_of_ble_eq_true rfl⟩

theorem lk_X4_pass_68 : Cond.fieldLink RX4 68 "HarbourPilotline" "now" "I" ∈ wsX4_pass := by decide +kernel
theorem lk_X4_pass_26 : Cond.fieldLink RX4 26 "HarbourPilotline" "conferences" "Ljava/util/ArrayList;" ∈ wsX4_pass := by decide +kernel
theorem ck_X4_pass_71 : Cond.classLink RX4 71 "HarbourPilotline$Conference" ∈ wsX4_pass := by decide +kernel
theorem ck_X4_pass_92 : Cond.classLink RX4 92 "java/lang/IllegalStateException" ∈ wsX4_pass := by decide +kernel
theorem ci_X4_pass_92 : Cond.initialized "java/lang/IllegalStateException" ∈ wsX4_pass := by decide +kernel
theorem cw_X4_pass_96 : ∀ w ∈ (vx_atS RX4 96 "java/lang/IllegalStateException" ["java/lang/RuntimeException", "java/lang/Exception"]).filter goodWord, w ∈ wsX4_pass := by decide +kernel
theorem in_X4_pass_X4 : ∀ w ∈ wsX40, w ∈ wsX4_pass := by decide +kernel
set_option maxRecDepth 100000 in
set_option maxHeartbeats 4000000 in
theorem c_X4_pass (l : Launch) (hfl : l.stackTraces = false) (D : va_G) (cI cO cL : ClassId) (A : Nat → Prop) (eE mi : Nat) (sa : Nat → Nat) (g : zG) (σ : zT) (H0 : Heap) (hR : RX D cO A eE g σ H0) (mn : Int) (hI : zInv σ) (hJ : zInv2 σ) (hA : (-2147483648 ≤ mn ∧ mn < 2147483648)) : zXM l yX4_pass wsX4_pass ({ frames := 7, cells := 2, slots := 12, locals := 104 }) D cI cO cL A eE mi sa g σ [.ref (g 0 0), .int (zI mn)] H0 (fun rv σ' g' => (zth_pass σ mn = 0 ∧ rv = some (.int (zI (zan_pass σ mn))) ∧ σ' = zst_pass σ mn) ∧ g' 0 0 = g 0 0) (fun E => (zth_pass σ mn = 1 ∧ E = xIA) ∨ (zth_pass σ mn = 2 ∧ E = xIS)) := by
  refine vx_ofW (cc := cX4_pass) (maxL := 4) (ret := (some .int)) (by decide) rfl ?_
  intro p e s m args below meth c s₁ B hml hno hv
  obtain ⟨rfl, hH, hG⟩ := hv
  subst hH
  have hK := hG.k
  have hx := B.exec
  have hb := B.bytes
  have hr := B.returns
  have hts := atoms_spec (ws := wsX4_pass) B.pre
  have hown : s.vm.findClass RX4 = some m.cls := findClass_of_methodNamed B.named
  have hlocks := B.notSynchronized
  have hl := lv_entry ([.ref (g 0 0), .int (zI mn)]) (n := 4) (Nat.le_of_ble_eq_true rfl)
  rw [lg_entry_eq]
  generalize (lg_sl ([.ref (g 0 0), .int (zI mn)]) ++ List.replicate (4 - (lg_sl ([.ref (g 0 0), .int (zI mn)])).length) Slot.unset).toArray = ls at hl ⊢
  have hl : lv_has ls 4 [(0, .ref (g 0 0)), (1, .int (zI mn))] := hl
  have f0 := hI.r
  refine lv_iload_n hx hb dX4_pass_0 rfl (lv_at hl 1 rfl) ?_
  refine z_iconst hx hb dX4_pass_1 ?_
  refine z_sipush hx hb dX4_pass_2 (by decide +kernel) ?_
  refine z_xmS (As := [.int (zI mn), .int (zI 1), .int (zI 2000)]) (rest := []) ⟨hx, hb, hml, hown, hts⟩ (c_X4_demandWithin l hfl D cI cO cL A eE mi sa g σ s.heap hR mn 1 2000 (by omega)) (va_cwS 3 hts gX4_pass_X4_demandWithin rfl rfl rfl (by decide +kernel) ⟨Nat.le_of_ble_eq_true rfl, Nat.le_of_ble_eq_true rfl⟩) hG va_S.rf rfl hl.1 rfl (Nat.le_of_ble_eq_true rfl) dX4_pass_5 ⟨Nat.le_of_ble_eq_true rfl, Nat.le_of_ble_eq_true rfl⟩ (fun E ce q9 H1 locs1 hpx hRx hzx hkx hSx hcx hvx hclx => by
    obtain ⟨hn, rfl⟩ := hpx
    exact z_xout (px' := fun E => (zth_pass σ mn = 1 ∧ E = xIA) ∨ (zth_pass σ mn = 2 ∧ E = xIS)) hno hlocks hcx hvx hclx (Or.inl ⟨by unfold zth_pass; (repeat' split) <;> omega, rfl⟩) hRx hSx ⟨Nat.le_of_ble_eq_true rfl, Nat.le_of_ble_eq_true rfl⟩) (fun rH_1 σH_1 gH_1 H_1 locsH_1 hpH_1 hRH_1 hzH_1 hkH_1 hSH_1 => ?_)
  obtain ⟨hdH_1, erH_1, esH_1, egH_1⟩ := hpH_1
  rw [esH_1, egH_1] at hRH_1
  rw [erH_1]
  refine lv_aload_n hx hb dX4_pass_8 rfl (lv_at hl 0 rfl) ?_
  refine z_get hx hb hts in_X4_pass_X4 hown hK hRH_1.x rfl 5 (by decide) lk_X4_pass_68 rfl rfl dX4_pass_9 ?_
  refine lv_iload_n hx hb dX4_pass_12 rfl (lv_at hl 1 rfl) ?_
  refine z_iadd hx hb dX4_pass_13 ?_
  refine z_sipush hx hb dX4_pass_14 (by decide +kernel) ?_
  refine z_icmp_le (tgt := 30) hx hb dX4_pass_17 (by decide) (by omega) (fun c_2 => ?_) (fun c_2 => ?_)
  · refine lv_aload_n hx hb dX4_pass_30 rfl (lv_at hl 0 rfl) ?_
    refine lv_dup hx hb dX4_pass_31 rfl ?_
    refine z_get hx hb hts in_X4_pass_X4 hown hK hRH_1.x rfl 5 (by decide) lk_X4_pass_68 rfl rfl dX4_pass_32 ?_
    refine lv_iload_n hx hb dX4_pass_35 rfl (lv_at hl 1 rfl) ?_
    refine z_iadd hx hb dX4_pass_36 ?_
    refine x_put hx hb hts in_X4_pass_X4 tyX4 tyX4_ok nmX4 hown hK hRH_1 hSH_1 0 0 (by decide) rfl rfl rfl 5 (by decide) lk_X4_pass_68 rfl rfl rfl rfl (Nat.le_of_ble_eq_true rfl) (zup σ 1 0 ((σ 1 0) + mn)) (zOth.up (t := 0) (n := 1) zOth.rf rfl) xe_1 dX4_pass_37 (fun H_3 locsH_3 hRH_3 hzH_3 hSH_3 => ?_)
    refine z_iconst hx hb dX4_pass_40 ?_
    refine lv_istore_n (lv' := [(2, .int (zI 0)), (0, .ref (g 0 0)), (1, .int (zI mn))]) hx hb dX4_pass_41 rfl hl (by decide) rfl (fun ls hl => ?_)
    refine z_iconst hx hb dX4_pass_42 ?_
    refine lv_istore_n (lv' := [(3, .int (zI 0)), (2, .int (zI 0)), (0, .ref (g 0 0)), (1, .int (zI mn))]) hx hb dX4_pass_43 rfl hl (by decide) rfl (fun ls hl => ?_)
    refine z_cap (fun WW wi wo => ?_)
    have hL : ∀ (n : Nat) (v i : Int) (ls : Array Slot) (HL : Heap) (locsL : List Loc), v = zSum (fun c => zNewV σ (σ 1 0 + mn) c True 1) i.toNat → 0 ≤ i ∧ i ≤ σ 14 0 → RX D cO A eE g (zAdv σ i (σ 1 0 + mn)) HL → va_S A s.heap HL locsL → (σ 14 0 - i).toNat < n → lv_has ls 4 [(0, .ref (g 0 0)), (2, .int (zI v)), (3, .int (zI i))] → WW HL locsL 1 6 (F0 m 44 ls []) := by
      intro n
      induction n with
      | zero => intro v i ls HL locsL hv hi hRL hSL hm; exact absurd hm (Nat.not_lt_zero _)
      | succ n ih =>
        intro v i ls HL locsL hv hi hRL hSL hm hl
        refine wi _ _ _ _ _ ?_
        have hT : zInv (zAdv σ i (σ 1 0 + mn)) := zInv_advn hI hJ (by omega)
        have t14 : (zAdv σ i (σ 1 0 + mn)) 14 0 = σ 14 0 := rfl
        have t5 : (zAdv σ i (σ 1 0 + mn)) 5 0 = σ 5 0 := rfl
        refine lv_iload_n hx hb dX4_pass_44 rfl (lv_at hl 2 rfl) ?_
        refine lv_aload_n hx hb dX4_pass_45 rfl (lv_at hl 0 rfl) ?_
        refine z_get hx hb hts in_X4_pass_X4 hown hK hRL.x rfl 3 (by decide) lk_X4_pass_26 rfl rfl dX4_pass_46 ?_
        refine z_cv (As := []) (rest := [.int (zI i)]) ⟨hx, hb, hml, hown, hts⟩ (c_size l cI cL hRL (i := 2) (by decide)) (cwV 0 hts gX4_pass_Jx4a65c_size_8abf5 rfl rfl rfl (by decide +kernel) ⟨Nat.le_of_ble_eq_true rfl, Nat.le_of_ble_eq_true rfl⟩) (zKK_mv D cI cO cL) (fun U _ hv => va_K.moved hv hK) (z_recv hK (hRL.l (i := 2) (by decide)) rfl) rfl hl.1 rfl (Nat.le_of_ble_eq_true rfl) dX4_pass_49 ⟨Nat.le_of_ble_eq_true rfl, Nat.le_of_ble_eq_true rfl⟩ (fun r_4 hr_4 => ?_)
        rw [hr_4]
        refine z_top (b := (zAdv σ i (σ 1 0 + mn)) 14 0) rfl ?_
        refine z_icmp_ge (tgt := 82) hx hb dX4_pass_52 (by decide) (by omega) (fun c_5 => ?_) (fun c_5 => ?_)
        · refine lv_iload_n hx hb dX4_pass_82 rfl (lv_at hl 1 rfl) ?_
          exact vx_ret (W.widen (k := 2) (n := 12) (Nat.le_of_ble_eq_true rfl) (Nat.le_of_ble_eq_true rfl) (W.iret hx hb hr (z_endG (post := fun rv σ' g' => (zth_pass σ mn = 0 ∧ rv = some (.int (zI (zan_pass σ mn))) ∧ σ' = zst_pass σ mn) ∧ g' 0 0 = g 0 0) (σ' := zst_pass σ mn) (g' := g) (v := (some (.int (zI v)))) ⟨⟨(by unfold zth_pass; (repeat' split) <;> omega), (congrArg (fun z => some (Value.int (zI z))) (show v = zan_pass σ mn by rw [hv, show i = σ 14 0 by omega]; rfl)), rfl⟩, rfl⟩ (hRL.eqT (fun a b => by rw [show i = σ 14 0 by omega]; rfl)) hSL) hSL.2.2 dX4_pass_83))
        · refine lv_aload_n hx hb dX4_pass_55 rfl (lv_at hl 0 rfl) ?_
          refine lv_aload_n hx hb dX4_pass_56 rfl (lv_at hl 0 rfl) ?_
          refine z_get hx hb hts in_X4_pass_X4 hown hK hRL.x rfl 3 (by decide) lk_X4_pass_26 rfl rfl dX4_pass_57 ?_
          refine lv_iload_n hx hb dX4_pass_60 rfl (lv_at hl 2 rfl) ?_
          refine z_cv (As := [.int (zI i)]) (rest := [.ref (g 0 0)]) ⟨hx, hb, hml, hown, hts⟩ (c_get l cI cL hRL (i := 2) (k := i) (by decide) (show 0 ≤ i ∧ i < (zAdv σ i (σ 1 0 + mn)) 14 0 by omega)) (cwV 1 hts gX4_pass_Jx4a65c_get_915e3 rfl rfl rfl (by decide +kernel) ⟨Nat.le_of_ble_eq_true rfl, Nat.le_of_ble_eq_true rfl⟩) (zKK_mv D cI cO cL) (fun U _ hv => va_K.moved hv hK) (z_recv hK (hRL.l (i := 2) (by decide)) rfl) rfl hl.1 rfl (Nat.le_of_ble_eq_true rfl) dX4_pass_61 ⟨Nat.le_of_ble_eq_true rfl, Nat.le_of_ble_eq_true rfl⟩ (fun r_6 hr_6 => ?_)
          rw [hr_6]
          refine z_tov (w := .ref (g 6 i)) rfl ?_
          refine va_castE (nm := "HarbourPilotline$Conference") hx hb hown (hts _ ck_X4_pass_71) (z_recv hK (hRL.c (i := i) (by show 0 ≤ i ∧ i < (zAdv σ i (σ 1 0 + mn)) 14 0; omega)) rfl) dX4_pass_64 ?_
          refine z_wx (As := [.ref (g 6 i)]) (rest := []) ⟨hx, hb, hml, hown, hts⟩ (c_X4_becomesDone l D cI cO cL A eE g (zAdv σ i (σ 1 0 + mn)) HL hRL i hT (by omega)) (cwV 1 hts gX4_pass_X4_becomesDone rfl rfl rfl (by decide +kernel) ⟨Nat.le_of_ble_eq_true rfl, Nat.le_of_ble_eq_true rfl⟩) hK hSL (z_recv hK hRL.x rfl) rfl hl.1 rfl (Nat.le_of_ble_eq_true rfl) dX4_pass_67 ⟨Nat.le_of_ble_eq_true rfl, Nat.le_of_ble_eq_true rfl⟩ (fun rH_7 σH_7 H_7 locsH_7 hpH_7 hRH_7 hzH_7 hSH_7 => ?_)
          obtain ⟨eH_7, qH_7⟩ := hpH_7
          rw [eH_7]
          rw [qH_7] at hRH_7
          refine z_ifb_eq (tgt := 76) hx hb dX4_pass_70 (by decide) (fun c_8 => ?_) (fun c_8 => ?_)
          · refine z_iinc (lv' := [(3, .int (zI (i + 1))), (0, .ref (g 0 0)), (2, .int (zI v))]) hx hb dX4_pass_76 hl (k := 2) rfl (by decide) rfl (fun ls hl => ?_)
            refine lv_goto (tgt := 44) hx hb dX4_pass_79 (by decide) ?_
            exact wo _ _ _ _ _ (ih v (i + 1) ls _ _ (by rw [zSum_i _ hi.1, zNewV_f (fun z => c_8 ((zDn_adv hI hJ (by omega) (by omega)).mpr z)), ← hv]; omega) (by omega) (by exact hRH_7.eqT (fun a b => zAdv_st hI hJ (by omega) (by omega) a b)) hSH_7 (by omega) (lv_sub hl [1, 2, 0] rfl))
          · refine z_iinc (lv' := [(2, .int (zI (v + 1))), (0, .ref (g 0 0)), (3, .int (zI i))]) hx hb dX4_pass_73 hl (k := 1) rfl (by decide) rfl (fun ls hl => ?_)
            refine z_iinc (lv' := [(3, .int (zI (i + 1))), (2, .int (zI (v + 1))), (0, .ref (g 0 0))]) hx hb dX4_pass_76 hl (k := 2) rfl (by decide) rfl (fun ls hl => ?_)
            refine lv_goto (tgt := 44) hx hb dX4_pass_79 (by decide) ?_
            exact wo _ _ _ _ _ (ih (v + 1) (i + 1) ls _ _ (by rw [zSum_i _ hi.1, zNewV_t ((zDn_adv hI hJ (by omega) (by omega)).mp c_8) trivial, ← hv]) (by omega) (by exact hRH_7.eqT (fun a b => zAdv_st hI hJ (by omega) (by omega) a b)) hSH_7 (by omega) (lv_sub hl [2, 1, 0] rfl))
    exact wo _ _ _ _ _ (hL _ 0 0 ls _ _ (by rfl) (by omega) (by exact hRH_3.eqT (fun a b => zAdv_0 _ _ _ _)) hSH_3 (Nat.lt_succ_self _) (lv_sub hl [2, 1, 0] rfl))
  · exact z_throw (px := fun E => (zth_pass σ mn = 1 ∧ E = xIA) ∨ (zth_pass σ mn = 2 ∧ E = xIS)) (text := "above the last minute") hx hb hfl hno hlocks hown hts (hl.1.trans hml.symm) x_fit2 x_nms ck_X4_pass_92 ci_X4_pass_92 cw_X4_pass_96 x_bad2 (by decide) (by decide) x_good2 hG hRH_1 hSH_1 (Or.inr (⟨by unfold zth_pass; (repeat' split) <;> omega, rfl⟩)) dX4_pass_20 dX4_pass_23 dX4_pass_24 dX4_pass_26 dX4_pass_29 ⟨Nat.le_of_ble_eq_true rfl, Nat.le_of_ble_eq_true rfl, Nat.le_of_ble_eq_true rfl, Nat.le_of_ble_eq_true rfl, Nat.le_of_ble_eq_true rfl, Nat.le_of_ble_eq_true rfl⟩
