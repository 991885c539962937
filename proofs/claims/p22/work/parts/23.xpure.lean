/-! the class: its readers -/
theorem lk_X2_minutesWithRest_19 : Cond.fieldLink RX2 19 "HarbourPilotline$Ship" "minutes" "I" ∈ wsX2_minutesWithRest := by decide +kernel
theorem ml_X2_minutesWithRest_25_0 : Cond.methodLink RX2 25 Lib.Math.max.name ∈ wsX2_minutesWithRest := by decide +kernel
theorem ml_X2_minutesWithRest_25_1 : Cond.static Lib.Math.max.name ∈ wsX2_minutesWithRest := by decide +kernel
theorem ml_X2_minutesWithRest_25_2 : Cond.initialized "java/lang/Math" ∈ wsX2_minutesWithRest := by decide +kernel
theorem ml_X2_minutesWithRest_25_3 : Cond.code Lib.Math.max.name Lib.Math.max.code 2 (some .int) ∈ wsX2_minutesWithRest := by decide +kernel
theorem in_X2_minutesWithRest_X2 : ∀ w ∈ wsX20, w ∈ wsX2_minutesWithRest := by decide +kernel
set_option maxRecDepth 100000 in
set_option maxHeartbeats 4000000 in
theorem c_X2_minutesWithRest (l : Launch) (D : va_G) (cI cO cL : ClassId) (A : Nat → Prop) (eE : Nat) (g : zG) (σ : zT) (H0 : Heap) (hR : RX D cO A eE g σ H0) (k : Int) (hI : zInv σ) (hk : 0 ≤ k ∧ k < σ 5 0) : zPM l yX2_minutesWithRest wsX2_minutesWithRest ({ frames := 1, cells := 0, slots := 0, locals := 14 }) (zKK D cI cO cL) [.ref (g 4 k)] H0 (fun r => r = .int (zI (σ 8 k + zRest (σ 8 k)))) := by
  refine Met.ofW (cc := cX2_minutesWithRest) (maxL := 1) (ret := (some .int)) (by decide) rfl ?_
  intro p e s m args below meth c s₁ B hml hv
  obtain ⟨rfl, hH, hK⟩ := hv
  subst hH
  have hx := B.exec
  have hb := B.bytes
  have hr := B.returns
  have hts := atoms_spec (ws := wsX2_minutesWithRest) B.pre
  have hown : s.vm.findClass RX2 = some m.cls := findClass_of_methodNamed B.named
  have hlocks := B.notSynchronized
  have hl := lv_entry ([.ref (g 4 k)]) (n := 1) (Nat.le_of_ble_eq_true rfl)
  rw [lg_entry_eq]
  generalize (lg_sl ([.ref (g 4 k)]) ++ List.replicate (1 - (lg_sl ([.ref (g 4 k)])).length) Slot.unset).toArray = ls at hl ⊢
  have hl : lv_has ls 1 [(0, .ref (g 4 k))] := hl
  have f0 := hI.r
  have gk := hI.s hk
  refine lv_aload_n hx hb dX2_minutesWithRest_0 rfl (lv_at hl 0 rfl) ?_
  refine z_get hx hb hts in_X2_minutesWithRest_X2 hown hK (hR.s (i := k) (by omega)) rfl 3 (by decide) lk_X2_minutesWithRest_19 rfl rfl dX2_minutesWithRest_1 ?_
  refine z_bipush hx hb dX2_minutesWithRest_4 (by decide +kernel) ?_
  refine lv_aload_n hx hb dX2_minutesWithRest_6 rfl (lv_at hl 0 rfl) ?_
  refine z_get hx hb hts in_X2_minutesWithRest_X2 hown hK (hR.s (i := k) (by omega)) rfl 3 (by decide) lk_X2_minutesWithRest_19 rfl rfl dX2_minutesWithRest_7 ?_
  refine z_mmax hx hb (hml.trans hl.1.symm) hts hown ml_X2_minutesWithRest_25_0 ml_X2_minutesWithRest_25_1 ml_X2_minutesWithRest_25_2 ml_X2_minutesWithRest_25_3 (Nat.le_of_ble_eq_true rfl) (Nat.le_of_ble_eq_true rfl) ⟨Nat.zero_le _, Nat.zero_le _⟩ (by omega) dX2_minutesWithRest_10 ?_
  refine z_top (b := zRest (σ 8 k)) (by exact zRest_max _) ?_
  refine z_iadd hx hb dX2_minutesWithRest_13 ?_
  exact W.iret hx hb hr (z_end (post := fun r => r = .int (zI (σ 8 k + zRest (σ 8 k)))) (z_eq (a := ((σ 8 k) + (zRest (σ 8 k)))) (b := σ 8 k + zRest (σ 8 k)) (by omega))) (fun _ h => nomatch h) dX2_minutesWithRest_14

theorem ml_X3_aboveDepth_16_0 : Cond.methodLink RX3 16 Lib.Math.min.name ∈ wsX3_aboveDepth := by decide +kernel
theorem ml_X3_aboveDepth_16_1 : Cond.static Lib.Math.min.name ∈ wsX3_aboveDepth := by decide +kernel
theorem ml_X3_aboveDepth_16_2 : Cond.initialized "java/lang/Math" ∈ wsX3_aboveDepth := by decide +kernel
theorem ml_X3_aboveDepth_16_3 : Cond.code Lib.Math.min.name Lib.Math.min.code 2 (some .int) ∈ wsX3_aboveDepth := by decide +kernel
theorem lk_X3_aboveDepth_13 : Cond.fieldLink RX3 13 "HarbourPilotline$Tide" "rise" "I" ∈ wsX3_aboveDepth := by decide +kernel
theorem in_X3_aboveDepth_X3 : ∀ w ∈ wsX30, w ∈ wsX3_aboveDepth := by decide +kernel
set_option maxRecDepth 100000 in
set_option maxHeartbeats 4000000 in
theorem c_X3_aboveDepth (l : Launch) (D : va_G) (cI cO cL : ClassId) (A : Nat → Prop) (eE : Nat) (g : zG) (σ : zT) (H0 : Heap) (hR : RX D cO A eE g σ H0) (t : Int) (hI : zInv σ) (ht : 0 ≤ t ∧ t < 1000000) : zPM l yX3_aboveDepth wsX3_aboveDepth ({ frames := 1, cells := 0, slots := 0, locals := 13 }) (zKK D cI cO cL) [.ref (g 1 0), .int (zI t)] H0 (fun r => r = .int (zI (zLev σ t))) := by
  refine Met.ofW (cc := cX3_aboveDepth) (maxL := 3) (ret := (some .int)) (by decide) rfl ?_
  intro p e s m args below meth c s₁ B hml hv
  obtain ⟨rfl, hH, hK⟩ := hv
  subst hH
  have hx := B.exec
  have hb := B.bytes
  have hr := B.returns
  have hts := atoms_spec (ws := wsX3_aboveDepth) B.pre
  have hown : s.vm.findClass RX3 = some m.cls := findClass_of_methodNamed B.named
  have hlocks := B.notSynchronized
  have hl := lv_entry ([.ref (g 1 0), .int (zI t)]) (n := 3) (Nat.le_of_ble_eq_true rfl)
  rw [lg_entry_eq]
  generalize (lg_sl ([.ref (g 1 0), .int (zI t)]) ++ List.replicate (3 - (lg_sl ([.ref (g 1 0), .int (zI t)])).length) Slot.unset).toArray = ls at hl ⊢
  have hl : lv_has ls 3 [(0, .ref (g 1 0)), (1, .int (zI t))] := hl
  have f0 := hI.r
  have g1 := zLev_m f0.2.2.1 t
  refine lv_iload_n hx hb dX3_aboveDepth_0 rfl (lv_at hl 1 rfl) ?_
  refine z_sipush hx hb dX3_aboveDepth_1 (by decide +kernel) ?_
  refine z_irem hx hb dX3_aboveDepth_4 (by omega) ?_
  refine lv_istore_n (lv' := [(2, .int (zI (t % 720))), (0, .ref (g 1 0)), (1, .int (zI t))]) hx hb dX3_aboveDepth_5 rfl hl (by decide) rfl (fun ls hl => ?_)
  refine lv_iload_n hx hb dX3_aboveDepth_6 rfl (lv_at hl 0 rfl) ?_
  refine z_sipush hx hb dX3_aboveDepth_7 (by decide +kernel) ?_
  refine lv_iload_n hx hb dX3_aboveDepth_10 rfl (lv_at hl 0 rfl) ?_
  refine z_isub hx hb dX3_aboveDepth_11 ?_
  refine z_mmin hx hb (hml.trans hl.1.symm) hts hown ml_X3_aboveDepth_16_0 ml_X3_aboveDepth_16_1 ml_X3_aboveDepth_16_2 ml_X3_aboveDepth_16_3 (Nat.le_of_ble_eq_true rfl) (Nat.le_of_ble_eq_true rfl) ⟨Nat.zero_le _, Nat.zero_le _⟩ (by omega) dX3_aboveDepth_12 ?_
  refine z_top (b := zTent t) (by exact zTent_min2 t) ?_
  refine lv_aload_n hx hb dX3_aboveDepth_15 rfl (lv_at hl 1 rfl) ?_
  refine z_get hx hb hts in_X3_aboveDepth_X3 hown hK hR.t rfl 1 (by decide) lk_X3_aboveDepth_13 rfl rfl dX3_aboveDepth_16 ?_
  refine z_imul hx hb dX3_aboveDepth_19 ?_
  refine z_sipush hx hb dX3_aboveDepth_20 (by decide +kernel) ?_
  refine z_idiv hx hb dX3_aboveDepth_23 (by omega) ?_
  exact W.iret hx hb hr (z_end (post := fun r => r = .int (zI (zLev σ t))) (z_eq (a := (((zTent t) * (σ 3 0)) / 360)) (b := zLev σ t) (by rfl))) (fun _ h => nomatch h) dX3_aboveDepth_24

theorem lk_X4_minute_68 : Cond.fieldLink RX4 68 "HarbourPilotline" "now" "I" ∈ wsX4_minute := by decide +kernel
theorem in_X4_minute_X4 : ∀ w ∈ wsX40, w ∈ wsX4_minute := by decide +kernel
set_option maxRecDepth 100000 in
set_option maxHeartbeats 4000000 in
theorem c_X4_minute (l : Launch) (D : va_G) (cI cO cL : ClassId) (A : Nat → Prop) (eE : Nat) (g : zG) (σ : zT) (H0 : Heap) (hR : RX D cO A eE g σ H0)   : zPM l yX4_minute wsX4_minute ({ frames := 0, cells := 0, slots := 0, locals := 0 }) (zKK D cI cO cL) [.ref (g 0 0)] H0 (fun r => r = .int (zI (σ 1 0))) := by
  refine Met.ofW (cc := cX4_minute) (maxL := 1) (ret := (some .int)) (by decide) rfl ?_
  intro p e s m args below meth c s₁ B hml hv
  obtain ⟨rfl, hH, hK⟩ := hv
  subst hH
  have hx := B.exec
  have hb := B.bytes
  have hr := B.returns
  have hts := atoms_spec (ws := wsX4_minute) B.pre
  have hown : s.vm.findClass RX4 = some m.cls := findClass_of_methodNamed B.named
  have hlocks := B.notSynchronized
  have hl := lv_entry ([.ref (g 0 0)]) (n := 1) (Nat.le_of_ble_eq_true rfl)
  rw [lg_entry_eq]
  generalize (lg_sl ([.ref (g 0 0)]) ++ List.replicate (1 - (lg_sl ([.ref (g 0 0)])).length) Slot.unset).toArray = ls at hl ⊢
  have hl : lv_has ls 1 [(0, .ref (g 0 0))] := hl
  refine lv_aload_n hx hb dX4_minute_0 rfl (lv_at hl 0 rfl) ?_
  refine z_get hx hb hts in_X4_minute_X4 hown hK hR.x rfl 5 (by decide) lk_X4_minute_68 rfl rfl dX4_minute_1 ?_
  exact W.iret hx hb hr (z_end (post := fun r => r = .int (zI (σ 1 0))) (z_eq (a := (σ 1 0)) (b := σ 1 0) (by omega))) (fun _ h => nomatch h) dX4_minute_4

theorem lk_X0_hasIn_25 : Cond.fieldLink RX0 25 "HarbourPilotline$Conference" "shipIn" "Z" ∈ wsX0_hasIn := by decide +kernel
theorem lk_X0_hasIn_29 : Cond.fieldLink RX0 29 "HarbourPilotline$Conference" "towerIn" "Z" ∈ wsX0_hasIn := by decide +kernel
theorem lk_X0_hasIn_32 : Cond.fieldLink RX0 32 "HarbourPilotline$Conference" "pilot" "LHarbourPilotline$Pilot;" ∈ wsX0_hasIn := by decide +kernel
theorem in_X0_hasIn_X0 : ∀ w ∈ wsX00, w ∈ wsX0_hasIn := by decide +kernel
set_option maxRecDepth 100000 in
set_option maxHeartbeats 4000000 in
theorem c_X0_hasIn (l : Launch) (D : va_G) (cI cO cL : ClassId) (A : Nat → Prop) (eE : Nat) (g : zG) (σ : zT) (H0 : Heap) (hR : RX D cO A eE g σ H0) (k w : Int) (hk : 0 ≤ k ∧ k < σ 14 0) (hbt : (0 ≤ σ 17 k ∧ σ 17 k ≤ 7) ∧ -1 ≤ σ 18 k ∧ (zBit (σ 17 k) 2 = 1 ↔ 0 ≤ σ 18 k)) (hw : 0 ≤ w ∧ w ≤ 2) : zPM l yX0_hasIn wsX0_hasIn ({ frames := 0, cells := 0, slots := 0, locals := 0 }) (zKK D cI cO cL) [.ref (g 6 k), .int (zI w)] H0 (fun r => r = .int (zI (zBit (σ 17 k) w))) := by
  refine Met.ofW (cc := cX0_hasIn) (maxL := 2) (ret := (some .boolean)) (by decide) rfl ?_
  intro p e s m args below meth c s₁ B hml hv
  obtain ⟨rfl, hH, hK⟩ := hv
  subst hH
  have hx := B.exec
  have hb := B.bytes
  have hr := B.returns
  have hts := atoms_spec (ws := wsX0_hasIn) B.pre
  have hown : s.vm.findClass RX0 = some m.cls := findClass_of_methodNamed B.named
  have hlocks := B.notSynchronized
  have hl := lv_entry ([.ref (g 6 k), .int (zI w)]) (n := 2) (Nat.le_of_ble_eq_true rfl)
  rw [lg_entry_eq]
  generalize (lg_sl ([.ref (g 6 k), .int (zI w)]) ++ List.replicate (2 - (lg_sl ([.ref (g 6 k), .int (zI w)])).length) Slot.unset).toArray = ls at hl ⊢
  have hl : lv_has ls 2 [(0, .ref (g 6 k)), (1, .int (zI w))] := hl
  have bk := zBit_r (σ 17 k) 2
  refine lv_iload_n hx hb dX0_hasIn_0 rfl (lv_at hl 1 rfl) ?_
  by_cases c_1 : w = 0
  · refine lv_lookup (off := 27) (tgt := 28) hx hb dX0_hasIn_1 (by decide) (by rw [zI_val (by omega), c_1]; rfl) (by decide) ?_
    refine lv_aload_n hx hb dX0_hasIn_28 rfl (lv_at hl 0 rfl) ?_
    refine z_get hx hb hts in_X0_hasIn_X0 hown hK (hR.c (i := k) (by omega)) rfl 2 (by decide) lk_X0_hasIn_25 rfl rfl dX0_hasIn_29 ?_
    exact W.zret hx hb hr (z01_narrow (by omega)) (z_end (post := fun r => r = .int (zI (zBit (σ 17 k) w))) (z_eq (a := (σ 17 k % 2)) (b := zBit (σ 17 k) w) (by unfold zBit; first | rw [if_pos (by omega)] | (rw [if_neg (by omega), if_pos (by omega)])))) (fun _ h => nomatch h) dX0_hasIn_32
  by_cases c_2 : w = 1
  · refine lv_lookup (off := 32) (tgt := 33) hx hb dX0_hasIn_1 (by decide) (by rw [zI_val (by omega), c_2]; rfl) (by decide) ?_
    refine lv_aload_n hx hb dX0_hasIn_33 rfl (lv_at hl 0 rfl) ?_
    refine z_get hx hb hts in_X0_hasIn_X0 hown hK (hR.c (i := k) (by omega)) rfl 3 (by decide) lk_X0_hasIn_29 rfl rfl dX0_hasIn_34 ?_
    exact W.zret hx hb hr (z01_narrow (by omega)) (z_end (post := fun r => r = .int (zI (zBit (σ 17 k) w))) (z_eq (a := (σ 17 k / 2 % 2)) (b := zBit (σ 17 k) w) (by unfold zBit; first | rw [if_pos (by omega)] | (rw [if_neg (by omega), if_pos (by omega)])))) (fun _ h => nomatch h) dX0_hasIn_37
  have c_3 : w = 2 := by omega
  refine lv_lookup (off := 37) (tgt := 38) hx hb dX0_hasIn_1 (by decide) (by rw [zI_val (by omega), c_3]; rfl) (by decide) ?_
  refine lv_aload_n hx hb dX0_hasIn_38 rfl (lv_at hl 0 rfl) ?_
  refine z_get hx hb hts in_X0_hasIn_X0 hown hK (hR.c (i := k) (by omega)) rfl 4 (by decide) lk_X0_hasIn_32 rfl rfl dX0_hasIn_39 ?_
  by_cases p_4 : σ 18 k = -1
  · refine z_tov (w := .null) (by rw [xPl_n p_4]; rfl) ?_
    refine lv_ifnullN (tgt := 49) hx hb dX0_hasIn_42 (by decide) ?_
    refine z_iconst hx hb dX0_hasIn_49 ?_
    exact W.zret hx hb hr rfl (z_end (post := fun r => r = .int (zI (zBit (σ 17 k) w))) (z_eq (a := 0) (b := zBit (σ 17 k) w) (by rw [show w = 2 by omega]; omega))) (fun _ h => nomatch h) dX0_hasIn_50
  · refine z_tov (w := .ref (g 5 (σ 18 k))) (by rw [xPl_s p_4]; rfl) ?_
    refine lv_ifnull hx hb dX0_hasIn_42 ?_
    refine z_iconst hx hb dX0_hasIn_45 ?_
    refine lv_goto (tgt := 50) hx hb dX0_hasIn_46 (by decide) ?_
    exact W.zret hx hb hr rfl (z_end (post := fun r => r = .int (zI (zBit (σ 17 k) w))) (z_eq (a := 1) (b := zBit (σ 17 k) w) (by rw [show w = 2 by omega]; omega))) (fun _ h => nomatch h) dX0_hasIn_50

theorem lk_X0_howManyIn_25 : Cond.fieldLink RX0 25 "HarbourPilotline$Conference" "shipIn" "Z" ∈ wsX0_howManyIn := by decide +kernel
theorem lk_X0_howManyIn_29 : Cond.fieldLink RX0 29 "HarbourPilotline$Conference" "towerIn" "Z" ∈ wsX0_howManyIn := by decide +kernel
theorem lk_X0_howManyIn_32 : Cond.fieldLink RX0 32 "HarbourPilotline$Conference" "pilot" "LHarbourPilotline$Pilot;" ∈ wsX0_howManyIn := by decide +kernel
theorem in_X0_howManyIn_X0 : ∀ w ∈ wsX00, w ∈ wsX0_howManyIn := by decide +kernel
set_option maxRecDepth 100000 in
set_option maxHeartbeats 4000000 in
theorem c_X0_howManyIn (l : Launch) (D : va_G) (cI cO cL : ClassId) (A : Nat → Prop) (eE : Nat) (g : zG) (σ : zT) (H0 : Heap) (hR : RX D cO A eE g σ H0) (k : Int) (hk : 0 ≤ k ∧ k < σ 14 0) (hbt : (0 ≤ σ 17 k ∧ σ 17 k ≤ 7) ∧ -1 ≤ σ 18 k ∧ (zBit (σ 17 k) 2 = 1 ↔ 0 ≤ σ 18 k)) : zPM l yX0_howManyIn wsX0_howManyIn ({ frames := 0, cells := 0, slots := 0, locals := 0 }) (zKK D cI cO cL) [.ref (g 6 k)] H0 (fun r => r = .int (zI (zMany (σ 17 k)))) := by
  refine Met.ofW (cc := cX0_howManyIn) (maxL := 1) (ret := (some .int)) (by decide) rfl ?_
  intro p e s m args below meth c s₁ B hml hv
  obtain ⟨rfl, hH, hK⟩ := hv
  subst hH
  have hx := B.exec
  have hb := B.bytes
  have hr := B.returns
  have hts := atoms_spec (ws := wsX0_howManyIn) B.pre
  have hown : s.vm.findClass RX0 = some m.cls := findClass_of_methodNamed B.named
  have hlocks := B.notSynchronized
  have hl := lv_entry ([.ref (g 6 k)]) (n := 1) (Nat.le_of_ble_eq_true rfl)
  rw [lg_entry_eq]
  generalize (lg_sl ([.ref (g 6 k)]) ++ List.replicate (1 - (lg_sl ([.ref (g 6 k)])).length) Slot.unset).toArray = ls at hl ⊢
  have hl : lv_has ls 1 [(0, .ref (g 6 k))] := hl
  have bk := zBit_r (σ 17 k) 2
  have mk := zMany_b (x := σ 17 k) _ rfl
  refine lv_aload_n hx hb dX0_howManyIn_0 rfl (lv_at hl 0 rfl) ?_
  refine z_get hx hb hts in_X0_howManyIn_X0 hown hK (hR.c (i := k) (by omega)) rfl 2 (by decide) lk_X0_howManyIn_25 rfl rfl dX0_howManyIn_1 ?_
  refine z_if_eq (tgt := 11) hx hb dX0_howManyIn_4 (by decide) (by omega) (fun c_1 => ?_) (fun c_1 => ?_)
  · refine z_iconst hx hb dX0_howManyIn_11 ?_
    refine lv_aload_n hx hb dX0_howManyIn_12 rfl (lv_at hl 0 rfl) ?_
    refine z_get hx hb hts in_X0_howManyIn_X0 hown hK (hR.c (i := k) (by omega)) rfl 3 (by decide) lk_X0_howManyIn_29 rfl rfl dX0_howManyIn_13 ?_
    refine z_if_eq (tgt := 23) hx hb dX0_howManyIn_16 (by decide) (by omega) (fun c_2 => ?_) (fun c_2 => ?_)
    · refine z_iconst hx hb dX0_howManyIn_23 ?_
      refine z_iadd hx hb dX0_howManyIn_24 ?_
      refine lv_aload_n hx hb dX0_howManyIn_25 rfl (lv_at hl 0 rfl) ?_
      refine z_get hx hb hts in_X0_howManyIn_X0 hown hK (hR.c (i := k) (by omega)) rfl 4 (by decide) lk_X0_howManyIn_32 rfl rfl dX0_howManyIn_26 ?_
      by_cases p_3 : σ 18 k = -1
      · refine z_tov (w := .null) (by rw [xPl_n p_3]; rfl) ?_
        refine lv_ifnullN (tgt := 36) hx hb dX0_howManyIn_29 (by decide) ?_
        refine z_iconst hx hb dX0_howManyIn_36 ?_
        refine z_iadd hx hb dX0_howManyIn_37 ?_
        exact W.iret hx hb hr (z_end (post := fun r => r = .int (zI (zMany (σ 17 k)))) (z_eq (a := ((0 + 0) + 0)) (b := zMany (σ 17 k)) (by omega))) (fun _ h => nomatch h) dX0_howManyIn_38
      · refine z_tov (w := .ref (g 5 (σ 18 k))) (by rw [xPl_s p_3]; rfl) ?_
        refine lv_ifnull hx hb dX0_howManyIn_29 ?_
        refine z_iconst hx hb dX0_howManyIn_32 ?_
        refine lv_goto (tgt := 37) hx hb dX0_howManyIn_33 (by decide) ?_
        refine z_iadd hx hb dX0_howManyIn_37 ?_
        exact W.iret hx hb hr (z_end (post := fun r => r = .int (zI (zMany (σ 17 k)))) (z_eq (a := ((0 + 0) + 1)) (b := zMany (σ 17 k)) (by omega))) (fun _ h => nomatch h) dX0_howManyIn_38
    · refine z_iconst hx hb dX0_howManyIn_19 ?_
      refine lv_goto (tgt := 24) hx hb dX0_howManyIn_20 (by decide) ?_
      refine z_iadd hx hb dX0_howManyIn_24 ?_
      refine lv_aload_n hx hb dX0_howManyIn_25 rfl (lv_at hl 0 rfl) ?_
      refine z_get hx hb hts in_X0_howManyIn_X0 hown hK (hR.c (i := k) (by omega)) rfl 4 (by decide) lk_X0_howManyIn_32 rfl rfl dX0_howManyIn_26 ?_
      by_cases p_4 : σ 18 k = -1
      · refine z_tov (w := .null) (by rw [xPl_n p_4]; rfl) ?_
        refine lv_ifnullN (tgt := 36) hx hb dX0_howManyIn_29 (by decide) ?_
        refine z_iconst hx hb dX0_howManyIn_36 ?_
        refine z_iadd hx hb dX0_howManyIn_37 ?_
        exact W.iret hx hb hr (z_end (post := fun r => r = .int (zI (zMany (σ 17 k)))) (z_eq (a := ((0 + 1) + 0)) (b := zMany (σ 17 k)) (by omega))) (fun _ h => nomatch h) dX0_howManyIn_38
      · refine z_tov (w := .ref (g 5 (σ 18 k))) (by rw [xPl_s p_4]; rfl) ?_
        refine lv_ifnull hx hb dX0_howManyIn_29 ?_
        refine z_iconst hx hb dX0_howManyIn_32 ?_
        refine lv_goto (tgt := 37) hx hb dX0_howManyIn_33 (by decide) ?_
        refine z_iadd hx hb dX0_howManyIn_37 ?_
        exact W.iret hx hb hr (z_end (post := fun r => r = .int (zI (zMany (σ 17 k)))) (z_eq (a := ((0 + 1) + 1)) (b := zMany (σ 17 k)) (by omega))) (fun _ h => nomatch h) dX0_howManyIn_38
  · refine z_iconst hx hb dX0_howManyIn_7 ?_
    refine lv_goto (tgt := 12) hx hb dX0_howManyIn_8 (by decide) ?_
    refine lv_aload_n hx hb dX0_howManyIn_12 rfl (lv_at hl 0 rfl) ?_
    refine z_get hx hb hts in_X0_howManyIn_X0 hown hK (hR.c (i := k) (by omega)) rfl 3 (by decide) lk_X0_howManyIn_29 rfl rfl dX0_howManyIn_13 ?_
    refine z_if_eq (tgt := 23) hx hb dX0_howManyIn_16 (by decide) (by omega) (fun c_5 => ?_) (fun c_5 => ?_)
    · refine z_iconst hx hb dX0_howManyIn_23 ?_
      refine z_iadd hx hb dX0_howManyIn_24 ?_
      refine lv_aload_n hx hb dX0_howManyIn_25 rfl (lv_at hl 0 rfl) ?_
      refine z_get hx hb hts in_X0_howManyIn_X0 hown hK (hR.c (i := k) (by omega)) rfl 4 (by decide) lk_X0_howManyIn_32 rfl rfl dX0_howManyIn_26 ?_
      by_cases p_6 : σ 18 k = -1
      · refine z_tov (w := .null) (by rw [xPl_n p_6]; rfl) ?_
        refine lv_ifnullN (tgt := 36) hx hb dX0_howManyIn_29 (by decide) ?_
        refine z_iconst hx hb dX0_howManyIn_36 ?_
        refine z_iadd hx hb dX0_howManyIn_37 ?_
        exact W.iret hx hb hr (z_end (post := fun r => r = .int (zI (zMany (σ 17 k)))) (z_eq (a := ((1 + 0) + 0)) (b := zMany (σ 17 k)) (by omega))) (fun _ h => nomatch h) dX0_howManyIn_38
      · refine z_tov (w := .ref (g 5 (σ 18 k))) (by rw [xPl_s p_6]; rfl) ?_
        refine lv_ifnull hx hb dX0_howManyIn_29 ?_
        refine z_iconst hx hb dX0_howManyIn_32 ?_
        refine lv_goto (tgt := 37) hx hb dX0_howManyIn_33 (by decide) ?_
        refine z_iadd hx hb dX0_howManyIn_37 ?_
        exact W.iret hx hb hr (z_end (post := fun r => r = .int (zI (zMany (σ 17 k)))) (z_eq (a := ((1 + 0) + 1)) (b := zMany (σ 17 k)) (by omega))) (fun _ h => nomatch h) dX0_howManyIn_38
    · refine z_iconst hx hb dX0_howManyIn_19 ?_
      refine lv_goto (tgt := 24) hx hb dX0_howManyIn_20 (by decide) ?_
      refine z_iadd hx hb dX0_howManyIn_24 ?_
      refine lv_aload_n hx hb dX0_howManyIn_25 rfl (lv_at hl 0 rfl) ?_
      refine z_get hx hb hts in_X0_howManyIn_X0 hown hK (hR.c (i := k) (by omega)) rfl 4 (by decide) lk_X0_howManyIn_32 rfl rfl dX0_howManyIn_26 ?_
      by_cases p_7 : σ 18 k = -1
      · refine z_tov (w := .null) (by rw [xPl_n p_7]; rfl) ?_
        refine lv_ifnullN (tgt := 36) hx hb dX0_howManyIn_29 (by decide) ?_
        refine z_iconst hx hb dX0_howManyIn_36 ?_
        refine z_iadd hx hb dX0_howManyIn_37 ?_
        exact W.iret hx hb hr (z_end (post := fun r => r = .int (zI (zMany (σ 17 k)))) (z_eq (a := ((1 + 1) + 0)) (b := zMany (σ 17 k)) (by omega))) (fun _ h => nomatch h) dX0_howManyIn_38
      · refine z_tov (w := .ref (g 5 (σ 18 k))) (by rw [xPl_s p_7]; rfl) ?_
        refine lv_ifnull hx hb dX0_howManyIn_29 ?_
        refine z_iconst hx hb dX0_howManyIn_32 ?_
        refine lv_goto (tgt := 37) hx hb dX0_howManyIn_33 (by decide) ?_
        refine z_iadd hx hb dX0_howManyIn_37 ?_
        exact W.iret hx hb hr (z_end (post := fun r => r = .int (zI (zMany (σ 17 k)))) (z_eq (a := ((1 + 1) + 1)) (b := zMany (σ 17 k)) (by omega))) (fun _ h => nomatch h) dX0_howManyIn_38

theorem lk_X4_howManyAre_26 : Cond.fieldLink RX4 26 "HarbourPilotline" "conferences" "Ljava/util/ArrayList;" ∈ wsX4_howManyAre := by decide +kernel
theorem ck_X4_howManyAre_71 : Cond.classLink RX4 71 "HarbourPilotline$Conference" ∈ wsX4_howManyAre := by decide +kernel
theorem lk_X4_howManyAre_125 : Cond.fieldLink RX4 125 "HarbourPilotline$Conference" "state" "I" ∈ wsX4_howManyAre := by decide +kernel
theorem in_X4_howManyAre_X0 : ∀ w ∈ wsX00, w ∈ wsX4_howManyAre := by decide +kernel
theorem in_X4_howManyAre_X4 : ∀ w ∈ wsX40, w ∈ wsX4_howManyAre := by decide +kernel
set_option maxRecDepth 100000 in
set_option maxHeartbeats 4000000 in
theorem c_X4_howManyAre (l : Launch) (D : va_G) (cI cO cL : ClassId) (A : Nat → Prop) (eE : Nat) (g : zG) (σ : zT) (H0 : Heap) (hR : RX D cO A eE g σ H0) (w : Int) (hI : zInv σ) (hw : -2147483648 ≤ w ∧ w < 2147483648) : zPM l yX4_howManyAre wsX4_howManyAre ({ frames := 3, cells := 0, slots := 0, locals := 64 }) (zKK D cI cO cL) [.ref (g 0 0), .int (zI w)] H0 (fun r => r = .int (zI (zSum (fun c => if σ 19 c = w then 1 else 0) (σ 14 0).toNat))) := by
  refine Met.ofW (cc := cX4_howManyAre) (maxL := 4) (ret := (some .int)) (by decide) rfl ?_
  intro p e s m args below meth c s₁ B hml hv
  obtain ⟨rfl, hH, hK⟩ := hv
  subst hH
  have hx := B.exec
  have hb := B.bytes
  have hr := B.returns
  have hts := atoms_spec (ws := wsX4_howManyAre) B.pre
  have hown : s.vm.findClass RX4 = some m.cls := findClass_of_methodNamed B.named
  have hlocks := B.notSynchronized
  have hl := lv_entry ([.ref (g 0 0), .int (zI w)]) (n := 4) (Nat.le_of_ble_eq_true rfl)
  rw [lg_entry_eq]
  generalize (lg_sl ([.ref (g 0 0), .int (zI w)]) ++ List.replicate (4 - (lg_sl ([.ref (g 0 0), .int (zI w)])).length) Slot.unset).toArray = ls at hl ⊢
  have hl : lv_has ls 4 [(0, .ref (g 0 0)), (1, .int (zI w))] := hl
  have f0 := hI.r
  refine z_iconst hx hb dX4_howManyAre_0 ?_
  refine lv_istore_n (lv' := [(2, .int (zI 0)), (0, .ref (g 0 0)), (1, .int (zI w))]) hx hb dX4_howManyAre_1 rfl hl (by decide) rfl (fun ls hl => ?_)
  refine z_iconst hx hb dX4_howManyAre_2 ?_
  refine lv_istore_n (lv' := [(3, .int (zI 0)), (2, .int (zI 0)), (0, .ref (g 0 0)), (1, .int (zI w))]) hx hb dX4_howManyAre_3 rfl hl (by decide) rfl (fun ls hl => ?_)
  refine z_cap (fun WW wi wo => ?_)
  have hL : ∀ (n : Nat) (v i : Int) (ls : Array Slot), v = zSum (fun c => if σ 19 c = w then 1 else 0) i.toNat → 0 ≤ i ∧ i ≤ σ 14 0 → (σ 14 0 - i).toNat < n → lv_has ls 4 [(0, .ref (g 0 0)), (1, .int (zI w)), (2, .int (zI v)), (3, .int (zI i))] → WW s.heap [] 0 0 (F0 m 4 ls []) := by
    intro n
    induction n with
    | zero => intro v i ls hv hi hm; exact absurd hm (Nat.not_lt_zero _)
    | succ n ih =>
      intro v i ls hv hi hm hl
      refine wi _ _ _ _ _ ?_
      refine lv_iload_n hx hb dX4_howManyAre_4 rfl (lv_at hl 3 rfl) ?_
      refine lv_aload_n hx hb dX4_howManyAre_5 rfl (lv_at hl 0 rfl) ?_
      refine z_get hx hb hts in_X4_howManyAre_X4 hown hK hR.x rfl 3 (by decide) lk_X4_howManyAre_26 rfl rfl dX4_howManyAre_6 ?_
      refine z_cv (As := []) (rest := [.int (zI i)]) ⟨hx, hb, hml, hown, hts⟩ (c_size l cI cL hR (i := 2) (by decide)) (cwV 0 hts gX4_howManyAre_Jx4a65c_size_8abf5 rfl rfl rfl (by decide +kernel) ⟨Nat.le_of_ble_eq_true rfl, Nat.le_of_ble_eq_true rfl⟩) (zKK_mv D cI cO cL) (fun U _ hv => va_K.moved hv hK) (z_recv hK (hR.l (i := 2) (by decide)) rfl) rfl hl.1 rfl (Nat.le_of_ble_eq_true rfl) dX4_howManyAre_9 ⟨Nat.zero_le _, Nat.zero_le _⟩ (fun r_1 hr_1 => ?_)
      rw [hr_1]
      refine z_top (b := σ 14 0) rfl ?_
      refine z_icmp_ge (tgt := 42) hx hb dX4_howManyAre_12 (by decide) (by omega) (fun c_2 => ?_) (fun c_2 => ?_)
      · refine lv_iload_n hx hb dX4_howManyAre_42 rfl (lv_at hl 2 rfl) ?_
        exact W.iret hx hb hr (z_end (post := fun r => r = .int (zI (zSum (fun c => if σ 19 c = w then 1 else 0) (σ 14 0).toNat))) (z_eq (a := v) (b := zSum (fun c => if σ 19 c = w then 1 else 0) (σ 14 0).toNat) (by rw [hv, show i = σ 14 0 by omega]))) (fun _ h => nomatch h) dX4_howManyAre_43
      · have fi := hI.c (i := i) (by omega)
        have gi := hI.s (i := σ 15 i) (by omega)
        have ri := zRest_r (σ 8 (σ 15 i))
        refine lv_aload_n hx hb dX4_howManyAre_15 rfl (lv_at hl 0 rfl) ?_
        refine z_get hx hb hts in_X4_howManyAre_X4 hown hK hR.x rfl 3 (by decide) lk_X4_howManyAre_26 rfl rfl dX4_howManyAre_16 ?_
        refine lv_iload_n hx hb dX4_howManyAre_19 rfl (lv_at hl 3 rfl) ?_
        refine z_cv (As := [.int (zI i)]) (rest := []) ⟨hx, hb, hml, hown, hts⟩ (c_get l cI cL hR (i := 2) (k := i) (by decide) (show 0 ≤ i ∧ i < σ 14 0 by omega)) (cwV 1 hts gX4_howManyAre_Jx4a65c_get_915e3 rfl rfl rfl (by decide +kernel) ⟨Nat.le_of_ble_eq_true rfl, Nat.le_of_ble_eq_true rfl⟩) (zKK_mv D cI cO cL) (fun U _ hv => va_K.moved hv hK) (z_recv hK (hR.l (i := 2) (by decide)) rfl) rfl hl.1 rfl (Nat.le_of_ble_eq_true rfl) dX4_howManyAre_20 ⟨Nat.zero_le _, Nat.zero_le _⟩ (fun r_3 hr_3 => ?_)
        rw [hr_3]
        refine z_tov (w := .ref (g 6 i)) rfl ?_
        refine va_castE (nm := "HarbourPilotline$Conference") hx hb hown (hts _ ck_X4_howManyAre_71) (z_recv hK (hR.c (i := i) (by omega)) rfl) dX4_howManyAre_23 ?_
        refine z_get hx hb hts in_X4_howManyAre_X0 hown hK (hR.c (i := i) (by omega)) rfl 5 (by decide) lk_X4_howManyAre_125 rfl rfl dX4_howManyAre_26 ?_
        refine lv_iload_n hx hb dX4_howManyAre_29 rfl (lv_at hl 1 rfl) ?_
        refine z_icmp_ne (tgt := 36) hx hb dX4_howManyAre_30 (by decide) (by omega) (fun c_4 => ?_) (fun c_4 => ?_)
        · refine z_iinc (lv' := [(3, .int (zI (i + 1))), (0, .ref (g 0 0)), (1, .int (zI w)), (2, .int (zI v))]) hx hb dX4_howManyAre_36 hl (k := 3) rfl (by decide) rfl (fun ls hl => ?_)
          refine lv_goto (tgt := 4) hx hb dX4_howManyAre_39 (by decide) ?_
          exact wo _ _ _ _ _ (ih v (i + 1) ls (by rw [zSum_i _ hi.1, hv]; first | rw [if_pos (by omega)] | (rw [if_neg (by omega)]; omega)) (by omega) (by omega) (lv_sub hl [1, 2, 3, 0] rfl))
        · refine z_iinc (lv' := [(2, .int (zI (v + 1))), (0, .ref (g 0 0)), (1, .int (zI w)), (3, .int (zI i))]) hx hb dX4_howManyAre_33 hl (k := 2) rfl (by decide) rfl (fun ls hl => ?_)
          refine z_iinc (lv' := [(3, .int (zI (i + 1))), (2, .int (zI (v + 1))), (0, .ref (g 0 0)), (1, .int (zI w))]) hx hb dX4_howManyAre_36 hl (k := 3) rfl (by decide) rfl (fun ls hl => ?_)
          refine lv_goto (tgt := 4) hx hb dX4_howManyAre_39 (by decide) ?_
          exact wo _ _ _ _ _ (ih (v + 1) (i + 1) ls (by rw [zSum_i _ hi.1, hv]; first | rw [if_pos (by omega)] | (rw [if_neg (by omega)]; omega)) (by omega) (by omega) (lv_sub hl [2, 3, 1, 0] rfl))
  exact wo _ _ _ _ _ (hL _ 0 0 ls (by rfl) (by omega) (Nat.lt_succ_self _) (lv_sub hl [2, 3, 1, 0] rfl))

theorem lk_X4_allBills_19 : Cond.fieldLink RX4 19 "HarbourPilotline" "ships" "Ljava/util/ArrayList;" ∈ wsX4_allBills := by decide +kernel
theorem ck_X4_allBills_51 : Cond.classLink RX4 51 "HarbourPilotline$Ship" ∈ wsX4_allBills := by decide +kernel
theorem lk_X4_allBills_196 : Cond.fieldLink RX4 196 "HarbourPilotline$Ship" "owes" "I" ∈ wsX4_allBills := by decide +kernel
theorem in_X4_allBills_X2 : ∀ w ∈ wsX20, w ∈ wsX4_allBills := by decide +kernel
theorem in_X4_allBills_X4 : ∀ w ∈ wsX40, w ∈ wsX4_allBills := by decide +kernel
set_option maxRecDepth 100000 in
set_option maxHeartbeats 4000000 in
theorem c_X4_allBills (l : Launch) (D : va_G) (cI cO cL : ClassId) (A : Nat → Prop) (eE : Nat) (g : zG) (σ : zT) (H0 : Heap) (hR : RX D cO A eE g σ H0)  (hI : zInv σ) : zPM l yX4_allBills wsX4_allBills ({ frames := 3, cells := 0, slots := 0, locals := 64 }) (zKK D cI cO cL) [.ref (g 0 0)] H0 (fun r => r = .int (zI (zSum (σ 10) (σ 5 0).toNat))) := by
  refine Met.ofW (cc := cX4_allBills) (maxL := 3) (ret := (some .int)) (by decide) rfl ?_
  intro p e s m args below meth c s₁ B hml hv
  obtain ⟨rfl, hH, hK⟩ := hv
  subst hH
  have hx := B.exec
  have hb := B.bytes
  have hr := B.returns
  have hts := atoms_spec (ws := wsX4_allBills) B.pre
  have hown : s.vm.findClass RX4 = some m.cls := findClass_of_methodNamed B.named
  have hlocks := B.notSynchronized
  have hl := lv_entry ([.ref (g 0 0)]) (n := 3) (Nat.le_of_ble_eq_true rfl)
  rw [lg_entry_eq]
  generalize (lg_sl ([.ref (g 0 0)]) ++ List.replicate (3 - (lg_sl ([.ref (g 0 0)])).length) Slot.unset).toArray = ls at hl ⊢
  have hl : lv_has ls 3 [(0, .ref (g 0 0))] := hl
  have f0 := hI.r
  refine z_iconst hx hb dX4_allBills_0 ?_
  refine lv_istore_n (lv' := [(1, .int (zI 0)), (0, .ref (g 0 0))]) hx hb dX4_allBills_1 rfl hl (by decide) rfl (fun ls hl => ?_)
  refine z_iconst hx hb dX4_allBills_2 ?_
  refine lv_istore_n (lv' := [(2, .int (zI 0)), (1, .int (zI 0)), (0, .ref (g 0 0))]) hx hb dX4_allBills_3 rfl hl (by decide) rfl (fun ls hl => ?_)
  refine z_cap (fun WW wi wo => ?_)
  have hL : ∀ (n : Nat) (v i : Int) (ls : Array Slot), v = zSum (σ 10) i.toNat → 0 ≤ i ∧ i ≤ σ 5 0 → (σ 5 0 - i).toNat < n → lv_has ls 3 [(0, .ref (g 0 0)), (1, .int (zI v)), (2, .int (zI i))] → WW s.heap [] 0 0 (F0 m 4 ls []) := by
    intro n
    induction n with
    | zero => intro v i ls hv hi hm; exact absurd hm (Nat.not_lt_zero _)
    | succ n ih =>
      intro v i ls hv hi hm hl
      refine wi _ _ _ _ _ ?_
      refine lv_iload_n hx hb dX4_allBills_4 rfl (lv_at hl 2 rfl) ?_
      refine lv_aload_n hx hb dX4_allBills_5 rfl (lv_at hl 0 rfl) ?_
      refine z_get hx hb hts in_X4_allBills_X4 hown hK hR.x rfl 1 (by decide) lk_X4_allBills_19 rfl rfl dX4_allBills_6 ?_
      refine z_cv (As := []) (rest := [.int (zI i)]) ⟨hx, hb, hml, hown, hts⟩ (c_size l cI cL hR (i := 0) (by decide)) (cwV 0 hts gX4_allBills_Jx4a65c_size_8abf5 rfl rfl rfl (by decide +kernel) ⟨Nat.le_of_ble_eq_true rfl, Nat.le_of_ble_eq_true rfl⟩) (zKK_mv D cI cO cL) (fun U _ hv => va_K.moved hv hK) (z_recv hK (hR.l (i := 0) (by decide)) rfl) rfl hl.1 rfl (Nat.le_of_ble_eq_true rfl) dX4_allBills_9 ⟨Nat.zero_le _, Nat.zero_le _⟩ (fun r_1 hr_1 => ?_)
      rw [hr_1]
      refine z_top (b := σ 5 0) rfl ?_
      refine z_icmp_ge (tgt := 38) hx hb dX4_allBills_12 (by decide) (by omega) (fun c_2 => ?_) (fun c_2 => ?_)
      · refine lv_iload_n hx hb dX4_allBills_38 rfl (lv_at hl 1 rfl) ?_
        exact W.iret hx hb hr (z_end (post := fun r => r = .int (zI (zSum (σ 10) (σ 5 0).toNat))) (z_eq (a := v) (b := zSum (σ 10) (σ 5 0).toNat) (by rw [hv, show i = σ 5 0 by omega]))) (fun _ h => nomatch h) dX4_allBills_39
      · refine lv_iload_n hx hb dX4_allBills_15 rfl (lv_at hl 1 rfl) ?_
        refine lv_aload_n hx hb dX4_allBills_16 rfl (lv_at hl 0 rfl) ?_
        refine z_get hx hb hts in_X4_allBills_X4 hown hK hR.x rfl 1 (by decide) lk_X4_allBills_19 rfl rfl dX4_allBills_17 ?_
        refine lv_iload_n hx hb dX4_allBills_20 rfl (lv_at hl 2 rfl) ?_
        refine z_cv (As := [.int (zI i)]) (rest := [.int (zI v)]) ⟨hx, hb, hml, hown, hts⟩ (c_get l cI cL hR (i := 0) (k := i) (by decide) (show 0 ≤ i ∧ i < σ 5 0 by omega)) (cwV 1 hts gX4_allBills_Jx4a65c_get_915e3 rfl rfl rfl (by decide +kernel) ⟨Nat.le_of_ble_eq_true rfl, Nat.le_of_ble_eq_true rfl⟩) (zKK_mv D cI cO cL) (fun U _ hv => va_K.moved hv hK) (z_recv hK (hR.l (i := 0) (by decide)) rfl) rfl hl.1 rfl (Nat.le_of_ble_eq_true rfl) dX4_allBills_21 ⟨Nat.zero_le _, Nat.zero_le _⟩ (fun r_3 hr_3 => ?_)
        rw [hr_3]
        refine z_tov (w := .ref (g 4 i)) rfl ?_
        refine va_castE (nm := "HarbourPilotline$Ship") hx hb hown (hts _ ck_X4_allBills_51) (z_recv hK (hR.s (i := i) (by omega)) rfl) dX4_allBills_24 ?_
        refine z_get hx hb hts in_X4_allBills_X2 hown hK (hR.s (i := i) (by omega)) rfl 5 (by decide) lk_X4_allBills_196 rfl rfl dX4_allBills_27 ?_
        refine z_iadd hx hb dX4_allBills_30 ?_
        refine lv_istore_n (lv' := [(1, .int (zI (v + (σ 10 i)))), (0, .ref (g 0 0)), (2, .int (zI i))]) hx hb dX4_allBills_31 rfl hl (by decide) rfl (fun ls hl => ?_)
        refine z_iinc (lv' := [(2, .int (zI (i + 1))), (1, .int (zI (v + (σ 10 i)))), (0, .ref (g 0 0))]) hx hb dX4_allBills_32 hl (k := 2) rfl (by decide) rfl (fun ls hl => ?_)
        refine lv_goto (tgt := 4) hx hb dX4_allBills_35 (by decide) ?_
        exact wo _ _ _ _ _ (ih (v + (σ 10 i)) (i + 1) ls (by rw [zSum_i _ hi.1, hv]) (by omega) (by omega) (lv_sub hl [2, 1, 0] rfl))
  exact wo _ _ _ _ _ (hL _ 0 0 ls (by rfl) (by omega) (Nat.lt_succ_self _) (lv_sub hl [2, 1, 0] rfl))

theorem lk_X4_isAboard_26 : Cond.fieldLink RX4 26 "HarbourPilotline" "conferences" "Ljava/util/ArrayList;" ∈ wsX4_isAboard := by decide +kernel
theorem ck_X4_isAboard_71 : Cond.classLink RX4 71 "HarbourPilotline$Conference" ∈ wsX4_isAboard := by decide +kernel
theorem lk_X4_isAboard_167 : Cond.fieldLink RX4 167 "HarbourPilotline$Conference" "pilot" "LHarbourPilotline$Pilot;" ∈ wsX4_isAboard := by decide +kernel
theorem lk_X4_isAboard_125 : Cond.fieldLink RX4 125 "HarbourPilotline$Conference" "state" "I" ∈ wsX4_isAboard := by decide +kernel
theorem in_X4_isAboard_X0 : ∀ w ∈ wsX00, w ∈ wsX4_isAboard := by decide +kernel
theorem in_X4_isAboard_X4 : ∀ w ∈ wsX40, w ∈ wsX4_isAboard := by decide +kernel
set_option maxRecDepth 100000 in
set_option maxHeartbeats 4000000 in
theorem c_X4_isAboard (l : Launch) (D : va_G) (cI cO cL : ClassId) (A : Nat → Prop) (eE : Nat) (g : zG) (σ : zT) (H0 : Heap) (hR : RX D cO A eE g σ H0) (k : Int) (hI : zInv σ) (hk : 0 ≤ k ∧ k < σ 11 0) : zPM l yX4_isAboard wsX4_isAboard ({ frames := 3, cells := 0, slots := 0, locals := 64 }) (zKK D cI cO cL) [.ref (g 0 0), .ref (g 5 k)] H0 (fun r => r = .int (zI (bI (0 < zSum (fun c => zP1 σ k 3 1 c) (σ 14 0).toNat)))) := by
  refine Met.ofW (cc := cX4_isAboard) (maxL := 4) (ret := (some .boolean)) (by decide) rfl ?_
  intro p e s m args below meth c s₁ B hml hv
  obtain ⟨rfl, hH, hK⟩ := hv
  subst hH
  have hx := B.exec
  have hb := B.bytes
  have hr := B.returns
  have hts := atoms_spec (ws := wsX4_isAboard) B.pre
  have hown : s.vm.findClass RX4 = some m.cls := findClass_of_methodNamed B.named
  have hlocks := B.notSynchronized
  have hl := lv_entry ([.ref (g 0 0), .ref (g 5 k)]) (n := 4) (Nat.le_of_ble_eq_true rfl)
  rw [lg_entry_eq]
  generalize (lg_sl ([.ref (g 0 0), .ref (g 5 k)]) ++ List.replicate (4 - (lg_sl ([.ref (g 0 0), .ref (g 5 k)])).length) Slot.unset).toArray = ls at hl ⊢
  have hl : lv_has ls 4 [(0, .ref (g 0 0)), (1, .ref (g 5 k))] := hl
  have f0 := hI.r
  refine z_iconst hx hb dX4_isAboard_0 ?_
  refine lv_istore_n (lv' := [(2, .int (zI 0)), (0, .ref (g 0 0)), (1, .ref (g 5 k))]) hx hb dX4_isAboard_1 rfl hl (by decide) rfl (fun ls hl => ?_)
  refine z_cap (fun WW wi wo => ?_)
  have hL : ∀ (n : Nat) (i : Int) (ls : Array Slot), zSum (fun c => zP1 σ k 3 1 c) i.toNat = 0 → 0 ≤ i ∧ i ≤ σ 14 0 → (σ 14 0 - i).toNat < n → lv_has ls 4 [(0, .ref (g 0 0)), (1, .ref (g 5 k)), (2, .int (zI i))] → WW s.heap [] 0 0 (F0 m 2 ls []) := by
    intro n
    induction n with
    | zero => intro i ls hv hi hm; exact absurd hm (Nat.not_lt_zero _)
    | succ n ih =>
      intro i ls hv hi hm hl
      refine wi _ _ _ _ _ ?_
      refine lv_iload_n hx hb dX4_isAboard_2 rfl (lv_at hl 2 rfl) ?_
      refine lv_aload_n hx hb dX4_isAboard_3 rfl (lv_at hl 0 rfl) ?_
      refine z_get hx hb hts in_X4_isAboard_X4 hown hK hR.x rfl 3 (by decide) lk_X4_isAboard_26 rfl rfl dX4_isAboard_4 ?_
      refine z_cv (As := []) (rest := [.int (zI i)]) ⟨hx, hb, hml, hown, hts⟩ (c_size l cI cL hR (i := 2) (by decide)) (cwV 0 hts gX4_isAboard_Jx4a65c_size_8abf5 rfl rfl rfl (by decide +kernel) ⟨Nat.le_of_ble_eq_true rfl, Nat.le_of_ble_eq_true rfl⟩) (zKK_mv D cI cO cL) (fun U _ hv => va_K.moved hv hK) (z_recv hK (hR.l (i := 2) (by decide)) rfl) rfl hl.1 rfl (Nat.le_of_ble_eq_true rfl) dX4_isAboard_7 ⟨Nat.zero_le _, Nat.zero_le _⟩ (fun r_1 hr_1 => ?_)
      rw [hr_1]
      refine z_top (b := σ 14 0) rfl ?_
      refine z_icmp_ge (tgt := 49) hx hb dX4_isAboard_10 (by decide) (by omega) (fun c_2 => ?_) (fun c_2 => ?_)
      · refine z_iconst hx hb dX4_isAboard_49 ?_
        exact W.zret hx hb hr rfl (z_end (post := fun r => r = .int (zI (bI (0 < zSum (fun c => zP1 σ k 3 1 c) (σ 14 0).toNat)))) (z_eq (a := 0) (b := bI (0 < zSum (fun c => zP1 σ k 3 1 c) (σ 14 0).toNat)) (bI_f (by rw [show σ 14 0 = i by omega, hv]; decide)).symm)) (fun _ h => nomatch h) dX4_isAboard_50
      · have fi := hI.c (i := i) (by omega)
        have gi := hI.s (i := σ 15 i) (by omega)
        have ri := zRest_r (σ 8 (σ 15 i))
        refine lv_aload_n hx hb dX4_isAboard_13 rfl (lv_at hl 0 rfl) ?_
        refine z_get hx hb hts in_X4_isAboard_X4 hown hK hR.x rfl 3 (by decide) lk_X4_isAboard_26 rfl rfl dX4_isAboard_14 ?_
        refine lv_iload_n hx hb dX4_isAboard_17 rfl (lv_at hl 2 rfl) ?_
        refine z_cv (As := [.int (zI i)]) (rest := []) ⟨hx, hb, hml, hown, hts⟩ (c_get l cI cL hR (i := 2) (k := i) (by decide) (show 0 ≤ i ∧ i < σ 14 0 by omega)) (cwV 1 hts gX4_isAboard_Jx4a65c_get_915e3 rfl rfl rfl (by decide +kernel) ⟨Nat.le_of_ble_eq_true rfl, Nat.le_of_ble_eq_true rfl⟩) (zKK_mv D cI cO cL) (fun U _ hv => va_K.moved hv hK) (z_recv hK (hR.l (i := 2) (by decide)) rfl) rfl hl.1 rfl (Nat.le_of_ble_eq_true rfl) dX4_isAboard_18 ⟨Nat.zero_le _, Nat.zero_le _⟩ (fun r_3 hr_3 => ?_)
        rw [hr_3]
        refine z_tov (w := .ref (g 6 i)) rfl ?_
        refine va_castE (nm := "HarbourPilotline$Conference") hx hb hown (hts _ ck_X4_isAboard_71) (z_recv hK (hR.c (i := i) (by omega)) rfl) dX4_isAboard_21 ?_
        refine lv_astore_n (lv' := [(3, .ref (g 6 i)), (0, .ref (g 0 0)), (1, .ref (g 5 k)), (2, .int (zI i))]) hx hb dX4_isAboard_24 rfl hl (by decide) rfl (fun ls hl => ?_)
        refine lv_aload_n hx hb dX4_isAboard_25 rfl (lv_at hl 0 rfl) ?_
        refine z_get hx hb hts in_X4_isAboard_X0 hown hK (hR.c (i := i) (by omega)) rfl 4 (by decide) lk_X4_isAboard_167 rfl rfl dX4_isAboard_26 ?_
        refine lv_aload_n hx hb dX4_isAboard_29 rfl (lv_at hl 2 rfl) ?_
        refine lv_acmp_ne (rx := (xPl g σ i)) (ry := (some (g 5 k))) (tgt := 43) hx hb dX4_isAboard_30 (by decide) (fun c_4 => ?_) (fun c_4 => ?_)
        · rw [hR.pk (by omega) (by omega)] at c_4
          refine z_iinc (lv' := [(2, .int (zI (i + 1))), (3, .ref (g 6 i)), (0, .ref (g 0 0)), (1, .ref (g 5 k))]) hx hb dX4_isAboard_43 hl (k := 3) rfl (by decide) rfl (fun ls hl => ?_)
          refine lv_goto (tgt := 2) hx hb dX4_isAboard_46 (by decide) ?_
          exact wo _ _ _ _ _ (ih (i + 1) ls (by rw [zSum_i _ hi.1, hv]; unfold zP1; rw [if_neg (by omega)]; rfl) (by omega) (by omega) (lv_sub hl [2, 3, 0] rfl))
        · rw [hR.pk (by omega) (by omega)] at c_4
          refine lv_aload_n hx hb dX4_isAboard_33 rfl (lv_at hl 0 rfl) ?_
          refine z_get hx hb hts in_X4_isAboard_X0 hown hK (hR.c (i := i) (by omega)) rfl 5 (by decide) lk_X4_isAboard_125 rfl rfl dX4_isAboard_34 ?_
          refine z_iconst hx hb dX4_isAboard_37 ?_
          refine z_icmp_ne (tgt := 43) hx hb dX4_isAboard_38 (by decide) (by omega) (fun c_5 => ?_) (fun c_5 => ?_)
          · refine z_iinc (lv' := [(2, .int (zI (i + 1))), (3, .ref (g 6 i)), (0, .ref (g 0 0)), (1, .ref (g 5 k))]) hx hb dX4_isAboard_43 hl (k := 3) rfl (by decide) rfl (fun ls hl => ?_)
            refine lv_goto (tgt := 2) hx hb dX4_isAboard_46 (by decide) ?_
            exact wo _ _ _ _ _ (ih (i + 1) ls (by rw [zSum_i _ hi.1, hv]; unfold zP1; rw [if_neg (by omega)]; rfl) (by omega) (by omega) (lv_sub hl [2, 3, 0] rfl))
          · refine z_iconst hx hb dX4_isAboard_41 ?_
            exact W.zret hx hb hr rfl (z_end (post := fun r => r = .int (zI (bI (0 < zSum (fun c => zP1 σ k 3 1 c) (σ 14 0).toNat)))) (z_eq (a := 1) (b := bI (0 < zSum (fun c => zP1 σ k 3 1 c) (σ 14 0).toNat)) (bI_t (by exact zSum_pos (i := i) (fun x _ _ => by unfold zP1; split <;> decide) hi.1 (by omega) (by unfold zP1; rw [if_pos (by omega)]; decide))).symm)) (fun _ h => nomatch h) dX4_isAboard_42
  exact wo _ _ _ _ _ (hL _ 0 ls (by rfl) (by omega) (Nat.lt_succ_self _) (lv_sub hl [1, 2, 0] rfl))

theorem lk_X4_restedBehindSlots_68 : Cond.fieldLink RX4 68 "HarbourPilotline" "now" "I" ∈ wsX4_restedBehindSlots := by decide +kernel
theorem lk_X4_restedBehindSlots_26 : Cond.fieldLink RX4 26 "HarbourPilotline" "conferences" "Ljava/util/ArrayList;" ∈ wsX4_restedBehindSlots := by decide +kernel
theorem ck_X4_restedBehindSlots_71 : Cond.classLink RX4 71 "HarbourPilotline$Conference" ∈ wsX4_restedBehindSlots := by decide +kernel
theorem lk_X4_restedBehindSlots_167 : Cond.fieldLink RX4 167 "HarbourPilotline$Conference" "pilot" "LHarbourPilotline$Pilot;" ∈ wsX4_restedBehindSlots := by decide +kernel
theorem lk_X4_restedBehindSlots_122 : Cond.fieldLink RX4 122 "HarbourPilotline$Conference" "slot" "I" ∈ wsX4_restedBehindSlots := by decide +kernel
theorem lk_X4_restedBehindSlots_102 : Cond.fieldLink RX4 102 "HarbourPilotline$Conference" "ship" "LHarbourPilotline$Ship;" ∈ wsX4_restedBehindSlots := by decide +kernel
theorem ml_X4_restedBehindSlots_161_0 : Cond.methodLink RX4 161 Lib.Math.max.name ∈ wsX4_restedBehindSlots := by decide +kernel
theorem ml_X4_restedBehindSlots_161_1 : Cond.static Lib.Math.max.name ∈ wsX4_restedBehindSlots := by decide +kernel
theorem ml_X4_restedBehindSlots_161_2 : Cond.initialized "java/lang/Math" ∈ wsX4_restedBehindSlots := by decide +kernel
theorem ml_X4_restedBehindSlots_161_3 : Cond.code Lib.Math.max.name Lib.Math.max.code 2 (some .int) ∈ wsX4_restedBehindSlots := by decide +kernel
theorem in_X4_restedBehindSlots_X0 : ∀ w ∈ wsX00, w ∈ wsX4_restedBehindSlots := by decide +kernel
theorem in_X4_restedBehindSlots_X4 : ∀ w ∈ wsX40, w ∈ wsX4_restedBehindSlots := by decide +kernel
set_option maxRecDepth 100000 in
set_option maxHeartbeats 4000000 in
theorem c_X4_restedBehindSlots (l : Launch) (D : va_G) (cI cO cL : ClassId) (A : Nat → Prop) (eE : Nat) (g : zG) (σ : zT) (H0 : Heap) (hR : RX D cO A eE g σ H0) (k : Int) (hI : zInv σ) (hk : 0 ≤ k ∧ k < σ 11 0) : zPM l yX4_restedBehindSlots wsX4_restedBehindSlots ({ frames := 3, cells := 0, slots := 0, locals := 64 }) (zKK D cI cO cL) [.ref (g 0 0), .ref (g 5 k)] H0 (fun r => r = .int (zI (zan_rested σ k))) := by
  refine Met.ofW (cc := cX4_restedBehindSlots) (maxL := 5) (ret := (some .int)) (by decide) rfl ?_
  intro p e s m args below meth c s₁ B hml hv
  obtain ⟨rfl, hH, hK⟩ := hv
  subst hH
  have hx := B.exec
  have hb := B.bytes
  have hr := B.returns
  have hts := atoms_spec (ws := wsX4_restedBehindSlots) B.pre
  have hown : s.vm.findClass RX4 = some m.cls := findClass_of_methodNamed B.named
  have hlocks := B.notSynchronized
  have hl := lv_entry ([.ref (g 0 0), .ref (g 5 k)]) (n := 5) (Nat.le_of_ble_eq_true rfl)
  rw [lg_entry_eq]
  generalize (lg_sl ([.ref (g 0 0), .ref (g 5 k)]) ++ List.replicate (5 - (lg_sl ([.ref (g 0 0), .ref (g 5 k)])).length) Slot.unset).toArray = ls at hl ⊢
  have hl : lv_has ls 5 [(0, .ref (g 0 0)), (1, .ref (g 5 k))] := hl
  have f0 := hI.r
  refine lv_aload_n hx hb dX4_restedBehindSlots_0 rfl (lv_at hl 0 rfl) ?_
  refine z_get hx hb hts in_X4_restedBehindSlots_X4 hown hK hR.x rfl 5 (by decide) lk_X4_restedBehindSlots_68 rfl rfl dX4_restedBehindSlots_1 ?_
  refine lv_istore_n (lv' := [(2, .int (zI (σ 1 0))), (0, .ref (g 0 0)), (1, .ref (g 5 k))]) hx hb dX4_restedBehindSlots_4 rfl hl (by decide) rfl (fun ls hl => ?_)
  refine z_iconst hx hb dX4_restedBehindSlots_5 ?_
  refine lv_istore_n (lv' := [(3, .int (zI 0)), (2, .int (zI (σ 1 0))), (0, .ref (g 0 0)), (1, .ref (g 5 k))]) hx hb dX4_restedBehindSlots_6 rfl hl (by decide) rfl (fun ls hl => ?_)
  refine z_cap (fun WW wi wo => ?_)
  have hL : ∀ (n : Nat) (v i : Int) (ls : Array Slot), v = zRsd σ k i.toNat → 0 ≤ v ∧ v ≤ 30000 → 0 ≤ i ∧ i ≤ σ 14 0 → (σ 14 0 - i).toNat < n → lv_has ls 5 [(0, .ref (g 0 0)), (1, .ref (g 5 k)), (2, .int (zI v)), (3, .int (zI i))] → WW s.heap [] 0 0 (F0 m 7 ls []) := by
    intro n
    induction n with
    | zero => intro v i ls hv hvb hi hm; exact absurd hm (Nat.not_lt_zero _)
    | succ n ih =>
      intro v i ls hv hvb hi hm hl
      refine wi _ _ _ _ _ ?_
      refine lv_iload_n hx hb dX4_restedBehindSlots_7 rfl (lv_at hl 3 rfl) ?_
      refine lv_aload_n hx hb dX4_restedBehindSlots_8 rfl (lv_at hl 0 rfl) ?_
      refine z_get hx hb hts in_X4_restedBehindSlots_X4 hown hK hR.x rfl 3 (by decide) lk_X4_restedBehindSlots_26 rfl rfl dX4_restedBehindSlots_9 ?_
      refine z_cv (As := []) (rest := [.int (zI i)]) ⟨hx, hb, hml, hown, hts⟩ (c_size l cI cL hR (i := 2) (by decide)) (cwV 0 hts gX4_restedBehindSlots_Jx4a65c_size_8abf5 rfl rfl rfl (by decide +kernel) ⟨Nat.le_of_ble_eq_true rfl, Nat.le_of_ble_eq_true rfl⟩) (zKK_mv D cI cO cL) (fun U _ hv => va_K.moved hv hK) (z_recv hK (hR.l (i := 2) (by decide)) rfl) rfl hl.1 rfl (Nat.le_of_ble_eq_true rfl) dX4_restedBehindSlots_12 ⟨Nat.zero_le _, Nat.zero_le _⟩ (fun r_1 hr_1 => ?_)
      rw [hr_1]
      refine z_top (b := σ 14 0) rfl ?_
      refine z_icmp_ge (tgt := 74) hx hb dX4_restedBehindSlots_15 (by decide) (by omega) (fun c_2 => ?_) (fun c_2 => ?_)
      · refine lv_iload_n hx hb dX4_restedBehindSlots_74 rfl (lv_at hl 2 rfl) ?_
        exact W.iret hx hb hr (z_end (post := fun r => r = .int (zI (zan_rested σ k))) (z_eq (a := v) (b := zan_rested σ k) (by rw [hv, show i = σ 14 0 by omega]; rfl))) (fun _ h => nomatch h) dX4_restedBehindSlots_75
      · have fi := hI.c (i := i) (by omega)
        have gi := hI.s (i := σ 15 i) (by omega)
        have ri := zRest_r (σ 8 (σ 15 i))
        refine lv_aload_n hx hb dX4_restedBehindSlots_18 rfl (lv_at hl 0 rfl) ?_
        refine z_get hx hb hts in_X4_restedBehindSlots_X4 hown hK hR.x rfl 3 (by decide) lk_X4_restedBehindSlots_26 rfl rfl dX4_restedBehindSlots_19 ?_
        refine lv_iload_n hx hb dX4_restedBehindSlots_22 rfl (lv_at hl 3 rfl) ?_
        refine z_cv (As := [.int (zI i)]) (rest := []) ⟨hx, hb, hml, hown, hts⟩ (c_get l cI cL hR (i := 2) (k := i) (by decide) (show 0 ≤ i ∧ i < σ 14 0 by omega)) (cwV 1 hts gX4_restedBehindSlots_Jx4a65c_get_915e3 rfl rfl rfl (by decide +kernel) ⟨Nat.le_of_ble_eq_true rfl, Nat.le_of_ble_eq_true rfl⟩) (zKK_mv D cI cO cL) (fun U _ hv => va_K.moved hv hK) (z_recv hK (hR.l (i := 2) (by decide)) rfl) rfl hl.1 rfl (Nat.le_of_ble_eq_true rfl) dX4_restedBehindSlots_23 ⟨Nat.zero_le _, Nat.zero_le _⟩ (fun r_3 hr_3 => ?_)
        rw [hr_3]
        refine z_tov (w := .ref (g 6 i)) rfl ?_
        refine va_castE (nm := "HarbourPilotline$Conference") hx hb hown (hts _ ck_X4_restedBehindSlots_71) (z_recv hK (hR.c (i := i) (by omega)) rfl) dX4_restedBehindSlots_26 ?_
        refine lv_astore (lv' := [(4, .ref (g 6 i)), (0, .ref (g 0 0)), (1, .ref (g 5 k)), (2, .int (zI v)), (3, .int (zI i))]) hx hb dX4_restedBehindSlots_29 hl (by decide) rfl (fun ls hl => ?_)
        refine lv_aload hx hb dX4_restedBehindSlots_31 (lv_at hl 0 rfl) ?_
        refine z_get hx hb hts in_X4_restedBehindSlots_X0 hown hK (hR.c (i := i) (by omega)) rfl 4 (by decide) lk_X4_restedBehindSlots_167 rfl rfl dX4_restedBehindSlots_33 ?_
        refine lv_aload_n hx hb dX4_restedBehindSlots_36 rfl (lv_at hl 2 rfl) ?_
        refine lv_acmp_ne (rx := (xPl g σ i)) (ry := (some (g 5 k))) (tgt := 68) hx hb dX4_restedBehindSlots_37 (by decide) (fun c_4 => ?_) (fun c_4 => ?_)
        · rw [hR.pk (by omega) (by omega)] at c_4
          refine z_iinc (lv' := [(3, .int (zI (i + 1))), (4, .ref (g 6 i)), (0, .ref (g 0 0)), (1, .ref (g 5 k)), (2, .int (zI v))]) hx hb dX4_restedBehindSlots_68 hl (k := 4) rfl (by decide) rfl (fun ls hl => ?_)
          refine lv_goto (tgt := 7) hx hb dX4_restedBehindSlots_71 (by decide) ?_
          exact wo _ _ _ _ _ (ih v (i + 1) ls (by first | (rw [zRsd_f hi.1 (by omega)]; exact hv) | (rw [zRsd_t hi.1 (by omega), ← hv])) (by omega) (by omega) (by omega) (lv_sub hl [2, 3, 4, 0] rfl))
        · rw [hR.pk (by omega) (by omega)] at c_4
          refine lv_aload hx hb dX4_restedBehindSlots_40 (lv_at hl 0 rfl) ?_
          refine z_get hx hb hts in_X4_restedBehindSlots_X0 hown hK (hR.c (i := i) (by omega)) rfl 6 (by decide) lk_X4_restedBehindSlots_122 rfl rfl dX4_restedBehindSlots_42 ?_
          refine z_iconst hx hb dX4_restedBehindSlots_45 ?_
          refine z_icmp_eq (tgt := 68) hx hb dX4_restedBehindSlots_46 (by decide) (by omega) (fun c_5 => ?_) (fun c_5 => ?_)
          · refine z_iinc (lv' := [(3, .int (zI (i + 1))), (4, .ref (g 6 i)), (0, .ref (g 0 0)), (1, .ref (g 5 k)), (2, .int (zI v))]) hx hb dX4_restedBehindSlots_68 hl (k := 4) rfl (by decide) rfl (fun ls hl => ?_)
            refine lv_goto (tgt := 7) hx hb dX4_restedBehindSlots_71 (by decide) ?_
            exact wo _ _ _ _ _ (ih v (i + 1) ls (by first | (rw [zRsd_f hi.1 (by omega)]; exact hv) | (rw [zRsd_t hi.1 (by omega), ← hv])) (by omega) (by omega) (by omega) (lv_sub hl [2, 3, 4, 0] rfl))
          · refine lv_iload_n hx hb dX4_restedBehindSlots_49 rfl (lv_at hl 3 rfl) ?_
            refine lv_aload hx hb dX4_restedBehindSlots_50 (lv_at hl 0 rfl) ?_
            refine z_get hx hb hts in_X4_restedBehindSlots_X0 hown hK (hR.c (i := i) (by omega)) rfl 6 (by decide) lk_X4_restedBehindSlots_122 rfl rfl dX4_restedBehindSlots_52 ?_
            refine lv_aload hx hb dX4_restedBehindSlots_55 (lv_at hl 0 rfl) ?_
            refine z_get hx hb hts in_X4_restedBehindSlots_X0 hown hK (hR.c (i := i) (by omega)) rfl 0 (by decide) lk_X4_restedBehindSlots_102 rfl rfl dX4_restedBehindSlots_57 ?_
            refine z_cv (As := []) (rest := [.int (zI (σ 20 i)), .int (zI v)]) ⟨hx, hb, hml, hown, hts⟩ (c_X2_minutesWithRest l D cI cO cL A eE g σ s.heap hR (σ 15 i) hI (by omega)) (cwV 0 hts gX4_restedBehindSlots_X2_minutesWithRest rfl rfl rfl (by decide +kernel) ⟨Nat.le_of_ble_eq_true rfl, Nat.le_of_ble_eq_true rfl⟩) (zKK_mv D cI cO cL) (fun U _ hv => va_K.moved hv hK) (z_recv hK (hR.s (i := (σ 15 i)) (by omega)) rfl) rfl hl.1 rfl (Nat.le_of_ble_eq_true rfl) dX4_restedBehindSlots_60 ⟨Nat.zero_le _, Nat.zero_le _⟩ (fun r_6 hr_6 => ?_)
            rw [hr_6]
            refine z_iadd hx hb dX4_restedBehindSlots_63 ?_
            refine z_mmax hx hb (hml.trans hl.1.symm) hts hown ml_X4_restedBehindSlots_161_0 ml_X4_restedBehindSlots_161_1 ml_X4_restedBehindSlots_161_2 ml_X4_restedBehindSlots_161_3 (Nat.le_of_ble_eq_true rfl) (Nat.le_of_ble_eq_true rfl) ⟨Nat.zero_le _, Nat.zero_le _⟩ (by omega) dX4_restedBehindSlots_64 ?_
            refine lv_istore_n (lv' := [(2, .int (zI (max v ((σ 20 i) + (σ 8 (σ 15 i) + zRest (σ 8 (σ 15 i))))))), (4, .ref (g 6 i)), (0, .ref (g 0 0)), (1, .ref (g 5 k)), (3, .int (zI i))]) hx hb dX4_restedBehindSlots_67 rfl hl (by decide) rfl (fun ls hl => ?_)
            refine z_iinc (lv' := [(3, .int (zI (i + 1))), (2, .int (zI (max v ((σ 20 i) + (σ 8 (σ 15 i) + zRest (σ 8 (σ 15 i))))))), (4, .ref (g 6 i)), (0, .ref (g 0 0)), (1, .ref (g 5 k))]) hx hb dX4_restedBehindSlots_68 hl (k := 4) rfl (by decide) rfl (fun ls hl => ?_)
            refine lv_goto (tgt := 7) hx hb dX4_restedBehindSlots_71 (by decide) ?_
            exact wo _ _ _ _ _ (ih (max v ((σ 20 i) + (σ 8 (σ 15 i) + zRest (σ 8 (σ 15 i))))) (i + 1) ls (by first | (rw [zRsd_f hi.1 (by omega)]; exact hv) | (rw [zRsd_t hi.1 (by omega), ← hv])) (by omega) (by omega) (by omega) (lv_sub hl [3, 4, 1, 0] rfl))
  exact wo _ _ _ _ _ (hL _ (σ 1 0) 0 ls (by rfl) (by omega) (by omega) (Nat.lt_succ_self _) (lv_sub hl [2, 3, 1, 0] rfl))

theorem lk_X3_pastShallows_22 : Cond.fieldLink RX3 22 "HarbourPilotline$Ship" "draught" "I" ∈ wsX3_pastShallows := by decide +kernel
theorem lk_X3_pastShallows_27 : Cond.fieldLink RX3 27 "HarbourPilotline$Ship" "minutes" "I" ∈ wsX3_pastShallows := by decide +kernel
theorem lk_X3_pastShallows_7 : Cond.fieldLink RX3 7 "HarbourPilotline$Tide" "depth" "I" ∈ wsX3_pastShallows := by decide +kernel
theorem in_X3_pastShallows_X2 : ∀ w ∈ wsX20, w ∈ wsX3_pastShallows := by decide +kernel
theorem in_X3_pastShallows_X3 : ∀ w ∈ wsX30, w ∈ wsX3_pastShallows := by decide +kernel
set_option maxRecDepth 100000 in
set_option maxHeartbeats 4000000 in
theorem c_X3_pastShallows (l : Launch) (D : va_G) (cI cO cL : ClassId) (A : Nat → Prop) (eE : Nat) (g : zG) (σ : zT) (H0 : Heap) (hR : RX D cO A eE g σ H0) (k t : Int) (hI : zInv σ) (hk : 0 ≤ k ∧ k < σ 5 0) (ht : 0 ≤ t ∧ t < 900000) : zPM l yX3_pastShallows wsX3_pastShallows ({ frames := 2, cells := 0, slots := 0, locals := 35 }) (zKK D cI cO cL) [.ref (g 1 0), .ref (g 4 k), .int (zI t)] H0 (fun r => ∃ z, r = .int (zI z) ∧ zStep (zTideOk σ k) t z) := by
  refine Met.ofW (cc := cX3_pastShallows) (maxL := 5) (ret := (some .int)) (by decide) rfl ?_
  intro p e s m args below meth c s₁ B hml hv
  obtain ⟨rfl, hH, hK⟩ := hv
  subst hH
  have hx := B.exec
  have hb := B.bytes
  have hr := B.returns
  have hts := atoms_spec (ws := wsX3_pastShallows) B.pre
  have hown : s.vm.findClass RX3 = some m.cls := findClass_of_methodNamed B.named
  have hlocks := B.notSynchronized
  have hl := lv_entry ([.ref (g 1 0), .ref (g 4 k), .int (zI t)]) (n := 5) (Nat.le_of_ble_eq_true rfl)
  rw [lg_entry_eq]
  generalize (lg_sl ([.ref (g 1 0), .ref (g 4 k), .int (zI t)]) ++ List.replicate (5 - (lg_sl ([.ref (g 1 0), .ref (g 4 k), .int (zI t)])).length) Slot.unset).toArray = ls at hl ⊢
  have hl : lv_has ls 5 [(0, .ref (g 1 0)), (1, .ref (g 4 k)), (2, .int (zI t))] := hl
  have f0 := hI.r
  have gk := hI.s hk
  refine lv_aload_n hx hb dX3_pastShallows_0 rfl (lv_at hl 1 rfl) ?_
  refine z_get hx hb hts in_X3_pastShallows_X2 hown hK (hR.s (i := k) (by omega)) rfl 1 (by decide) lk_X3_pastShallows_22 rfl rfl dX3_pastShallows_1 ?_
  refine z_bipush hx hb dX3_pastShallows_4 (by decide +kernel) ?_
  refine z_iadd hx hb dX3_pastShallows_6 ?_
  refine lv_istore_n (lv' := [(3, .int (zI ((σ 6 k) + 10))), (0, .ref (g 1 0)), (1, .ref (g 4 k)), (2, .int (zI t))]) hx hb dX3_pastShallows_7 rfl hl (by decide) rfl (fun ls hl => ?_)
  refine lv_iload_n hx hb dX3_pastShallows_8 rfl (lv_at hl 3 rfl) ?_
  refine lv_aload_n hx hb dX3_pastShallows_9 rfl (lv_at hl 2 rfl) ?_
  refine z_get hx hb hts in_X3_pastShallows_X2 hown hK (hR.s (i := k) (by omega)) rfl 3 (by decide) lk_X3_pastShallows_27 rfl rfl dX3_pastShallows_10 ?_
  refine z_iadd hx hb dX3_pastShallows_13 ?_
  refine z_iconst hx hb dX3_pastShallows_14 ?_
  refine z_isub hx hb dX3_pastShallows_15 ?_
  refine lv_istore (lv' := [(4, .int (zI ((t + (σ 8 k)) - 1))), (3, .int (zI ((σ 6 k) + 10))), (0, .ref (g 1 0)), (1, .ref (g 4 k)), (2, .int (zI t))]) hx hb dX3_pastShallows_16 hl (by decide) rfl (fun ls hl => ?_)
  refine z_cap (fun WW wi wo => ?_)
  have hL : ∀ (n : Nat) (i : Int) (ls : Array Slot), t - 1 ≤ i ∧ i ≤ t + σ 8 k - 1 → (∀ m : Int, i < m → m < t + σ 8 k → σ 6 k + 10 ≤ σ 2 0 + zLev σ m) → (i - t + 1).toNat < n → lv_has ls 5 [(3, .int (zI ((σ 6 k) + 10))), (0, .ref (g 1 0)), (1, .ref (g 4 k)), (2, .int (zI t)), (4, .int (zI i))] → WW s.heap [] 0 0 (F0 m 18 ls []) := by
    intro n
    induction n with
    | zero => intro i ls hi ha hm; exact absurd hm (Nat.not_lt_zero _)
    | succ n ih =>
      intro i ls hi ha hm hl
      refine wi _ _ _ _ _ ?_
      refine lv_iload hx hb dX3_pastShallows_18 (lv_at hl 4 rfl) ?_
      refine lv_iload_n hx hb dX3_pastShallows_20 rfl (lv_at hl 3 rfl) ?_
      refine z_icmp_lt (tgt := 50) hx hb dX3_pastShallows_21 (by decide) (by omega) (fun c_1 => ?_) (fun c_1 => ?_)
      · refine lv_iload_n hx hb dX3_pastShallows_50 rfl (lv_at hl 3 rfl) ?_
        exact W.iret hx hb hr (z_end (post := fun r => ∃ z, r = .int (zI z) ∧ zStep (zTideOk σ k) t z) ⟨_, rfl, ⟨Or.inl ⟨rfl, fun m h1 h2 => ha m (by omega) (by omega)⟩, by omega⟩⟩) (fun _ h => nomatch h) dX3_pastShallows_51
      · have li := zLev_r f0.2.2.1 i
        refine lv_aload_n hx hb dX3_pastShallows_24 rfl (lv_at hl 1 rfl) ?_
        refine z_get hx hb hts in_X3_pastShallows_X3 hown hK hR.t rfl 0 (by decide) lk_X3_pastShallows_7 rfl rfl dX3_pastShallows_25 ?_
        refine lv_aload_n hx hb dX3_pastShallows_28 rfl (lv_at hl 1 rfl) ?_
        refine lv_iload hx hb dX3_pastShallows_29 (lv_at hl 4 rfl) ?_
        refine z_cv (As := [.int (zI i)]) (rest := [.int (zI (σ 2 0))]) ⟨hx, hb, hml, hown, hts⟩ (c_X3_aboveDepth l D cI cO cL A eE g σ s.heap hR i hI (by omega)) (cwV 1 hts gX3_pastShallows_X3_aboveDepth rfl rfl rfl (by decide +kernel) ⟨Nat.le_of_ble_eq_true rfl, Nat.le_of_ble_eq_true rfl⟩) (zKK_mv D cI cO cL) (fun U _ hv => va_K.moved hv hK) (z_recv hK hR.t rfl) rfl hl.1 rfl (Nat.le_of_ble_eq_true rfl) dX3_pastShallows_31 ⟨Nat.zero_le _, Nat.zero_le _⟩ (fun r_2 hr_2 => ?_)
        rw [hr_2]
        refine z_iadd hx hb dX3_pastShallows_34 ?_
        refine lv_iload_n hx hb dX3_pastShallows_35 rfl (lv_at hl 0 rfl) ?_
        refine z_icmp_ge (tgt := 44) hx hb dX3_pastShallows_36 (by decide) (by omega) (fun c_3 => ?_) (fun c_3 => ?_)
        · refine z_iinc (lv' := [(4, .int (zI (i + (-1)))), (3, .int (zI ((σ 6 k) + 10))), (0, .ref (g 1 0)), (1, .ref (g 4 k)), (2, .int (zI t))]) hx hb dX3_pastShallows_44 hl (k := 4) rfl (by decide) rfl (fun ls hl => ?_)
          refine lv_goto (tgt := 18) hx hb dX3_pastShallows_47 (by decide) ?_
          exact wo _ _ _ _ _ (ih (i + (-1)) ls (by omega) (by intro m h1 h2; exact if q : m = i then (by rw [q]; omega) else (ha m (by omega) h2)) (by omega) (lv_sub hl [1, 2, 3, 4, 0] rfl))
        · refine lv_iload hx hb dX3_pastShallows_39 (lv_at hl 4 rfl) ?_
          refine z_iconst hx hb dX3_pastShallows_41 ?_
          refine z_iadd hx hb dX3_pastShallows_42 ?_
          exact W.iret hx hb hr (z_end (post := fun r => ∃ z, r = .int (zI z) ∧ zStep (zTideOk σ k) t z) ⟨_, rfl, ⟨Or.inr ⟨by omega, fun u h1 h2 hP => by have hx := hP i (by omega) (by omega); omega⟩, by omega⟩⟩) (fun _ h => nomatch h) dX3_pastShallows_43
  exact wo _ _ _ _ _ (hL _ ((t + (σ 8 k)) - 1) ls (by omega) (by intro m h1 h2; omega) (Nat.lt_succ_self _) (lv_sub hl [1, 2, 3, 4, 0] rfl))

theorem lk_X4_pastRests_26 : Cond.fieldLink RX4 26 "HarbourPilotline" "conferences" "Ljava/util/ArrayList;" ∈ wsX4_pastRests := by decide +kernel
theorem ck_X4_pastRests_71 : Cond.classLink RX4 71 "HarbourPilotline$Conference" ∈ wsX4_pastRests := by decide +kernel
theorem lk_X4_pastRests_122 : Cond.fieldLink RX4 122 "HarbourPilotline$Conference" "slot" "I" ∈ wsX4_pastRests := by decide +kernel
theorem lk_X4_pastRests_167 : Cond.fieldLink RX4 167 "HarbourPilotline$Conference" "pilot" "LHarbourPilotline$Pilot;" ∈ wsX4_pastRests := by decide +kernel
theorem lk_X4_pastRests_102 : Cond.fieldLink RX4 102 "HarbourPilotline$Conference" "ship" "LHarbourPilotline$Ship;" ∈ wsX4_pastRests := by decide +kernel
theorem ml_X4_pastRests_161_0 : Cond.methodLink RX4 161 Lib.Math.max.name ∈ wsX4_pastRests := by decide +kernel
theorem ml_X4_pastRests_161_1 : Cond.static Lib.Math.max.name ∈ wsX4_pastRests := by decide +kernel
theorem ml_X4_pastRests_161_2 : Cond.initialized "java/lang/Math" ∈ wsX4_pastRests := by decide +kernel
theorem ml_X4_pastRests_161_3 : Cond.code Lib.Math.max.name Lib.Math.max.code 2 (some .int) ∈ wsX4_pastRests := by decide +kernel
theorem in_X4_pastRests_X0 : ∀ w ∈ wsX00, w ∈ wsX4_pastRests := by decide +kernel
theorem in_X4_pastRests_X4 : ∀ w ∈ wsX40, w ∈ wsX4_pastRests := by decide +kernel
set_option maxRecDepth 100000 in
set_option maxHeartbeats 4000000 in
theorem c_X4_pastRests (l : Launch) (D : va_G) (cI cO cL : ClassId) (A : Nat → Prop) (eE : Nat) (g : zG) (σ : zT) (H0 : Heap) (hR : RX D cO A eE g σ H0) (k t : Int) (hI : zInv σ) (hk : 0 ≤ k ∧ k < σ 14 0) (ht : 0 ≤ t ∧ t < 900000) : zPM l yX4_pastRests wsX4_pastRests ({ frames := 3, cells := 0, slots := 0, locals := 64 }) (zKK D cI cO cL) [.ref (g 0 0), .ref (g 6 k), .int (zI t)] H0 (fun r => ∃ z, r = .int (zI z) ∧ zStep (zRestOk σ k) t z) := by
  refine Met.ofW (cc := cX4_pastRests) (maxL := 7) (ret := (some .int)) (by decide) rfl ?_
  intro p e s m args below meth c s₁ B hml hv
  obtain ⟨rfl, hH, hK⟩ := hv
  subst hH
  have hx := B.exec
  have hb := B.bytes
  have hr := B.returns
  have hts := atoms_spec (ws := wsX4_pastRests) B.pre
  have hown : s.vm.findClass RX4 = some m.cls := findClass_of_methodNamed B.named
  have hlocks := B.notSynchronized
  have hl := lv_entry ([.ref (g 0 0), .ref (g 6 k), .int (zI t)]) (n := 7) (Nat.le_of_ble_eq_true rfl)
  rw [lg_entry_eq]
  generalize (lg_sl ([.ref (g 0 0), .ref (g 6 k), .int (zI t)]) ++ List.replicate (7 - (lg_sl ([.ref (g 0 0), .ref (g 6 k), .int (zI t)])).length) Slot.unset).toArray = ls at hl ⊢
  have hl : lv_has ls 7 [(0, .ref (g 0 0)), (1, .ref (g 6 k)), (2, .int (zI t))] := hl
  have f0 := hI.r
  have fk := hI.c hk
  have gk := hI.s (i := σ 15 k) (by omega)
  have rk := zRest_r (σ 8 (σ 15 k))
  refine lv_iload_n hx hb dX4_pastRests_0 rfl (lv_at hl 2 rfl) ?_
  refine lv_istore_n (lv' := [(3, .int (zI t)), (0, .ref (g 0 0)), (1, .ref (g 6 k)), (2, .int (zI t))]) hx hb dX4_pastRests_1 rfl hl (by decide) rfl (fun ls hl => ?_)
  refine z_iconst hx hb dX4_pastRests_2 ?_
  refine lv_istore (lv' := [(4, .int (zI 0)), (3, .int (zI t)), (0, .ref (g 0 0)), (1, .ref (g 6 k)), (2, .int (zI t))]) hx hb dX4_pastRests_3 hl (by decide) rfl (fun ls hl => ?_)
  refine z_cap (fun WW wi wo => ?_)
  have hL : ∀ (n : Nat) (v i : Int) (ls : Array Slot), zPart (zRestOk1 σ k) i t v → 0 ≤ i ∧ i ≤ σ 14 0 → (σ 14 0 - i).toNat < n → lv_has ls 7 [(0, .ref (g 0 0)), (1, .ref (g 6 k)), (2, .int (zI t)), (3, .int (zI v)), (4, .int (zI i))] → WW s.heap [] 0 0 (F0 m 5 ls []) := by
    intro n
    induction n with
    | zero => intro v i ls hp hi hm; exact absurd hm (Nat.not_lt_zero _)
    | succ n ih =>
      intro v i ls hp hi hm hl
      refine wi _ _ _ _ _ ?_
      have hp2 := hp.2
      have hp1 : t ≤ v := by rcases hp.1 with q | q <;> omega
      refine lv_iload hx hb dX4_pastRests_5 (lv_at hl 4 rfl) ?_
      refine lv_aload_n hx hb dX4_pastRests_7 rfl (lv_at hl 0 rfl) ?_
      refine z_get hx hb hts in_X4_pastRests_X4 hown hK hR.x rfl 3 (by decide) lk_X4_pastRests_26 rfl rfl dX4_pastRests_8 ?_
      refine z_cv (As := []) (rest := [.int (zI i)]) ⟨hx, hb, hml, hown, hts⟩ (c_size l cI cL hR (i := 2) (by decide)) (cwV 0 hts gX4_pastRests_Jx4a65c_size_8abf5 rfl rfl rfl (by decide +kernel) ⟨Nat.le_of_ble_eq_true rfl, Nat.le_of_ble_eq_true rfl⟩) (zKK_mv D cI cO cL) (fun U _ hv => va_K.moved hv hK) (z_recv hK (hR.l (i := 2) (by decide)) rfl) rfl hl.1 rfl (Nat.le_of_ble_eq_true rfl) dX4_pastRests_11 ⟨Nat.zero_le _, Nat.zero_le _⟩ (fun r_1 hr_1 => ?_)
      rw [hr_1]
      refine z_top (b := σ 14 0) rfl ?_
      refine z_icmp_ge (tgt := 110) hx hb dX4_pastRests_14 (by decide) (by omega) (fun c_2 => ?_) (fun c_2 => ?_)
      · refine lv_iload_n hx hb dX4_pastRests_110 rfl (lv_at hl 3 rfl) ?_
        exact W.iret hx hb hr (z_end (post := fun r => ∃ z, r = .int (zI z) ∧ zStep (zRestOk σ k) t z) ⟨_, rfl, by rw [show i = σ 14 0 by omega] at hp; exact zPart_st hp⟩) (fun _ h => nomatch h) dX4_pastRests_111
      · have fi := hI.c (i := i) (by omega)
        have gi := hI.s (i := σ 15 i) (by omega)
        have ri := zRest_r (σ 8 (σ 15 i))
        refine lv_aload_n hx hb dX4_pastRests_17 rfl (lv_at hl 0 rfl) ?_
        refine z_get hx hb hts in_X4_pastRests_X4 hown hK hR.x rfl 3 (by decide) lk_X4_pastRests_26 rfl rfl dX4_pastRests_18 ?_
        refine lv_iload hx hb dX4_pastRests_21 (lv_at hl 4 rfl) ?_
        refine z_cv (As := [.int (zI i)]) (rest := []) ⟨hx, hb, hml, hown, hts⟩ (c_get l cI cL hR (i := 2) (k := i) (by decide) (show 0 ≤ i ∧ i < σ 14 0 by omega)) (cwV 1 hts gX4_pastRests_Jx4a65c_get_915e3 rfl rfl rfl (by decide +kernel) ⟨Nat.le_of_ble_eq_true rfl, Nat.le_of_ble_eq_true rfl⟩) (zKK_mv D cI cO cL) (fun U _ hv => va_K.moved hv hK) (z_recv hK (hR.l (i := 2) (by decide)) rfl) rfl hl.1 rfl (Nat.le_of_ble_eq_true rfl) dX4_pastRests_23 ⟨Nat.zero_le _, Nat.zero_le _⟩ (fun r_3 hr_3 => ?_)
        rw [hr_3]
        refine z_tov (w := .ref (g 6 i)) rfl ?_
        refine va_castE (nm := "HarbourPilotline$Conference") hx hb hown (hts _ ck_X4_pastRests_71) (z_recv hK (hR.c (i := i) (by omega)) rfl) dX4_pastRests_26 ?_
        refine lv_astore (lv' := [(5, .ref (g 6 i)), (0, .ref (g 0 0)), (1, .ref (g 6 k)), (2, .int (zI t)), (3, .int (zI v)), (4, .int (zI i))]) hx hb dX4_pastRests_29 hl (by decide) rfl (fun ls hl => ?_)
        refine lv_aload hx hb dX4_pastRests_31 (lv_at hl 0 rfl) ?_
        refine lv_aload_n hx hb dX4_pastRests_33 rfl (lv_at hl 2 rfl) ?_
        refine lv_acmp_eq (rx := (some (g 6 i))) (ry := (some (g 6 k))) (tgt := 104) hx hb dX4_pastRests_34 (by decide) (fun c_4 => ?_) (fun c_4 => ?_)
        · rw [hR.c_eq (by omega) (by omega)] at c_4
          refine z_iinc (lv' := [(4, .int (zI (i + 1))), (5, .ref (g 6 i)), (0, .ref (g 0 0)), (1, .ref (g 6 k)), (2, .int (zI t)), (3, .int (zI v))]) hx hb dX4_pastRests_104 hl (k := 5) rfl (by decide) rfl (fun ls hl => ?_)
          refine lv_goto (tgt := 5) hx hb dX4_pastRests_107 (by decide) ?_
          exact wo _ _ _ _ _ (ih v (i + 1) ls (by exact zPart_ok hp (by intro h1 h2 h3; simp only [zOv, zTk]; omega)) (by omega) (by omega) (lv_sub hl [2, 3, 4, 5, 0] rfl))
        · rw [hR.c_eq (by omega) (by omega)] at c_4
          refine lv_aload hx hb dX4_pastRests_37 (lv_at hl 0 rfl) ?_
          refine z_get hx hb hts in_X4_pastRests_X0 hown hK (hR.c (i := i) (by omega)) rfl 6 (by decide) lk_X4_pastRests_122 rfl rfl dX4_pastRests_39 ?_
          refine z_iconst hx hb dX4_pastRests_42 ?_
          refine z_icmp_eq (tgt := 104) hx hb dX4_pastRests_43 (by decide) (by omega) (fun c_5 => ?_) (fun c_5 => ?_)
          · refine z_iinc (lv' := [(4, .int (zI (i + 1))), (5, .ref (g 6 i)), (0, .ref (g 0 0)), (1, .ref (g 6 k)), (2, .int (zI t)), (3, .int (zI v))]) hx hb dX4_pastRests_104 hl (k := 5) rfl (by decide) rfl (fun ls hl => ?_)
            refine lv_goto (tgt := 5) hx hb dX4_pastRests_107 (by decide) ?_
            exact wo _ _ _ _ _ (ih v (i + 1) ls (by exact zPart_ok hp (by intro h1 h2 h3; simp only [zOv, zTk]; omega)) (by omega) (by omega) (lv_sub hl [2, 3, 4, 5, 0] rfl))
          · refine lv_aload hx hb dX4_pastRests_46 (lv_at hl 0 rfl) ?_
            refine z_get hx hb hts in_X4_pastRests_X0 hown hK (hR.c (i := i) (by omega)) rfl 4 (by decide) lk_X4_pastRests_167 rfl rfl dX4_pastRests_48 ?_
            refine lv_aload_n hx hb dX4_pastRests_51 rfl (lv_at hl 2 rfl) ?_
            refine z_get hx hb hts in_X4_pastRests_X0 hown hK (hR.c (i := k) (by omega)) rfl 4 (by decide) lk_X4_pastRests_167 rfl rfl dX4_pastRests_52 ?_
            refine lv_acmp_ne (rx := (xPl g σ i)) (ry := (xPl g σ k)) (tgt := 104) hx hb dX4_pastRests_55 (by decide) (fun c_6 => ?_) (fun c_6 => ?_)
            · rw [hR.pp (by omega) (by omega)] at c_6
              refine z_iinc (lv' := [(4, .int (zI (i + 1))), (5, .ref (g 6 i)), (0, .ref (g 0 0)), (1, .ref (g 6 k)), (2, .int (zI t)), (3, .int (zI v))]) hx hb dX4_pastRests_104 hl (k := 5) rfl (by decide) rfl (fun ls hl => ?_)
              refine lv_goto (tgt := 5) hx hb dX4_pastRests_107 (by decide) ?_
              exact wo _ _ _ _ _ (ih v (i + 1) ls (by exact zPart_ok hp (by intro h1 h2 h3; simp only [zOv, zTk]; omega)) (by omega) (by omega) (lv_sub hl [2, 3, 4, 5, 0] rfl))
            · rw [hR.pp (by omega) (by omega)] at c_6
              refine lv_aload hx hb dX4_pastRests_58 (lv_at hl 0 rfl) ?_
              refine z_get hx hb hts in_X4_pastRests_X0 hown hK (hR.c (i := i) (by omega)) rfl 6 (by decide) lk_X4_pastRests_122 rfl rfl dX4_pastRests_60 ?_
              refine lv_aload hx hb dX4_pastRests_63 (lv_at hl 0 rfl) ?_
              refine z_get hx hb hts in_X4_pastRests_X0 hown hK (hR.c (i := i) (by omega)) rfl 0 (by decide) lk_X4_pastRests_102 rfl rfl dX4_pastRests_65 ?_
              refine z_cv (As := []) (rest := [.int (zI (σ 20 i))]) ⟨hx, hb, hml, hown, hts⟩ (c_X2_minutesWithRest l D cI cO cL A eE g σ s.heap hR (σ 15 i) hI (by omega)) (cwV 0 hts gX4_pastRests_X2_minutesWithRest rfl rfl rfl (by decide +kernel) ⟨Nat.le_of_ble_eq_true rfl, Nat.le_of_ble_eq_true rfl⟩) (zKK_mv D cI cO cL) (fun U _ hv => va_K.moved hv hK) (z_recv hK (hR.s (i := (σ 15 i)) (by omega)) rfl) rfl hl.1 rfl (Nat.le_of_ble_eq_true rfl) dX4_pastRests_68 ⟨Nat.zero_le _, Nat.zero_le _⟩ (fun r_7 hr_7 => ?_)
              rw [hr_7]
              refine z_iadd hx hb dX4_pastRests_71 ?_
              refine lv_istore (lv' := [(6, .int (zI ((σ 20 i) + (σ 8 (σ 15 i) + zRest (σ 8 (σ 15 i)))))), (5, .ref (g 6 i)), (0, .ref (g 0 0)), (1, .ref (g 6 k)), (2, .int (zI t)), (3, .int (zI v)), (4, .int (zI i))]) hx hb dX4_pastRests_72 hl (by decide) rfl (fun ls hl => ?_)
              refine lv_iload_n hx hb dX4_pastRests_74 rfl (lv_at hl 4 rfl) ?_
              refine lv_iload hx hb dX4_pastRests_75 (lv_at hl 0 rfl) ?_
              refine z_icmp_ge (tgt := 104) hx hb dX4_pastRests_77 (by decide) (by omega) (fun c_8 => ?_) (fun c_8 => ?_)
              · refine z_iinc (lv' := [(4, .int (zI (i + 1))), (6, .int (zI ((σ 20 i) + (σ 8 (σ 15 i) + zRest (σ 8 (σ 15 i)))))), (5, .ref (g 6 i)), (0, .ref (g 0 0)), (1, .ref (g 6 k)), (2, .int (zI t)), (3, .int (zI v))]) hx hb dX4_pastRests_104 hl (k := 6) rfl (by decide) rfl (fun ls hl => ?_)
                refine lv_goto (tgt := 5) hx hb dX4_pastRests_107 (by decide) ?_
                exact wo _ _ _ _ _ (ih v (i + 1) ls (by exact zPart_ok hp (by intro h1 h2 h3; simp only [zOv, zTk]; omega)) (by omega) (by omega) (lv_sub hl [3, 4, 5, 6, 0] rfl))
              · refine lv_aload hx hb dX4_pastRests_80 (lv_at hl 1 rfl) ?_
                refine z_get hx hb hts in_X4_pastRests_X0 hown hK (hR.c (i := i) (by omega)) rfl 6 (by decide) lk_X4_pastRests_122 rfl rfl dX4_pastRests_82 ?_
                refine lv_iload_n hx hb dX4_pastRests_85 rfl (lv_at hl 4 rfl) ?_
                refine lv_aload_n hx hb dX4_pastRests_86 rfl (lv_at hl 3 rfl) ?_
                refine z_get hx hb hts in_X4_pastRests_X0 hown hK (hR.c (i := k) (by omega)) rfl 0 (by decide) lk_X4_pastRests_102 rfl rfl dX4_pastRests_87 ?_
                refine z_cv (As := []) (rest := [.int (zI t), .int (zI (σ 20 i))]) ⟨hx, hb, hml, hown, hts⟩ (c_X2_minutesWithRest l D cI cO cL A eE g σ s.heap hR (σ 15 k) hI (by omega)) (cwV 0 hts gX4_pastRests_X2_minutesWithRest rfl rfl rfl (by decide +kernel) ⟨Nat.le_of_ble_eq_true rfl, Nat.le_of_ble_eq_true rfl⟩) (zKK_mv D cI cO cL) (fun U _ hv => va_K.moved hv hK) (z_recv hK (hR.s (i := (σ 15 k)) (by omega)) rfl) rfl hl.1 rfl (Nat.le_of_ble_eq_true rfl) dX4_pastRests_90 ⟨Nat.zero_le _, Nat.zero_le _⟩ (fun r_9 hr_9 => ?_)
                rw [hr_9]
                refine z_iadd hx hb dX4_pastRests_93 ?_
                refine z_icmp_ge (tgt := 104) hx hb dX4_pastRests_94 (by decide) (by omega) (fun c_10 => ?_) (fun c_10 => ?_)
                · refine z_iinc (lv' := [(4, .int (zI (i + 1))), (6, .int (zI ((σ 20 i) + (σ 8 (σ 15 i) + zRest (σ 8 (σ 15 i)))))), (5, .ref (g 6 i)), (0, .ref (g 0 0)), (1, .ref (g 6 k)), (2, .int (zI t)), (3, .int (zI v))]) hx hb dX4_pastRests_104 hl (k := 6) rfl (by decide) rfl (fun ls hl => ?_)
                  refine lv_goto (tgt := 5) hx hb dX4_pastRests_107 (by decide) ?_
                  exact wo _ _ _ _ _ (ih v (i + 1) ls (by exact zPart_ok hp (by intro h1 h2 h3; simp only [zOv, zTk]; omega)) (by omega) (by omega) (lv_sub hl [3, 4, 5, 6, 0] rfl))
                · refine lv_iload_n hx hb dX4_pastRests_97 rfl (lv_at hl 5 rfl) ?_
                  refine lv_iload hx hb dX4_pastRests_98 (lv_at hl 0 rfl) ?_
                  refine z_mmax hx hb (hml.trans hl.1.symm) hts hown ml_X4_pastRests_161_0 ml_X4_pastRests_161_1 ml_X4_pastRests_161_2 ml_X4_pastRests_161_3 (Nat.le_of_ble_eq_true rfl) (Nat.le_of_ble_eq_true rfl) ⟨Nat.zero_le _, Nat.zero_le _⟩ (by omega) dX4_pastRests_100 ?_
                  refine lv_istore_n (lv' := [(3, .int (zI (max v ((σ 20 i) + (σ 8 (σ 15 i) + zRest (σ 8 (σ 15 i))))))), (6, .int (zI ((σ 20 i) + (σ 8 (σ 15 i) + zRest (σ 8 (σ 15 i)))))), (5, .ref (g 6 i)), (0, .ref (g 0 0)), (1, .ref (g 6 k)), (2, .int (zI t)), (4, .int (zI i))]) hx hb dX4_pastRests_103 rfl hl (by decide) rfl (fun ls hl => ?_)
                  refine z_iinc (lv' := [(4, .int (zI (i + 1))), (3, .int (zI (max v ((σ 20 i) + (σ 8 (σ 15 i) + zRest (σ 8 (σ 15 i))))))), (6, .int (zI ((σ 20 i) + (σ 8 (σ 15 i) + zRest (σ 8 (σ 15 i)))))), (5, .ref (g 6 i)), (0, .ref (g 0 0)), (1, .ref (g 6 k)), (2, .int (zI t))]) hx hb dX4_pastRests_104 hl (k := 6) rfl (by decide) rfl (fun ls hl => ?_)
                  refine lv_goto (tgt := 5) hx hb dX4_pastRests_107 (by decide) ?_
                  exact wo _ _ _ _ _ (ih (max v ((σ 20 i) + (σ 8 (σ 15 i) + zRest (σ 8 (σ 15 i))))) (i + 1) ls (by exact zPart_no hp hi.1 (by omega) (by intro u h1 h2 q; have q := q (by omega) (by omega) (by omega); simp only [zOv, zTk] at q; omega)) (by omega) (by omega) (lv_sub hl [4, 5, 6, 1, 0] rfl))
  exact wo _ _ _ _ _ (hL _ t 0 ls (by exact zPart_0) (by omega) (Nat.lt_succ_self _) (lv_sub hl [2, 3, 4, 1, 0] rfl))

theorem lk_X4_pastChannel_26 : Cond.fieldLink RX4 26 "HarbourPilotline" "conferences" "Ljava/util/ArrayList;" ∈ wsX4_pastChannel := by decide +kernel
theorem ck_X4_pastChannel_71 : Cond.classLink RX4 71 "HarbourPilotline$Conference" ∈ wsX4_pastChannel := by decide +kernel
theorem lk_X4_pastChannel_122 : Cond.fieldLink RX4 122 "HarbourPilotline$Conference" "slot" "I" ∈ wsX4_pastChannel := by decide +kernel
theorem ml_X4_pastChannel_251_0 : Cond.methodLink RX4 251 Lib.Math.abs.name ∈ wsX4_pastChannel := by decide +kernel
theorem ml_X4_pastChannel_251_1 : Cond.static Lib.Math.abs.name ∈ wsX4_pastChannel := by decide +kernel
theorem ml_X4_pastChannel_251_2 : Cond.initialized "java/lang/Math" ∈ wsX4_pastChannel := by decide +kernel
theorem ml_X4_pastChannel_251_3 : Cond.code Lib.Math.abs.name Lib.Math.abs.code 1 (some .int) ∈ wsX4_pastChannel := by decide +kernel
theorem ml_X4_pastChannel_161_0 : Cond.methodLink RX4 161 Lib.Math.max.name ∈ wsX4_pastChannel := by decide +kernel
theorem ml_X4_pastChannel_161_1 : Cond.static Lib.Math.max.name ∈ wsX4_pastChannel := by decide +kernel
theorem ml_X4_pastChannel_161_2 : Cond.initialized "java/lang/Math" ∈ wsX4_pastChannel := by decide +kernel
theorem ml_X4_pastChannel_161_3 : Cond.code Lib.Math.max.name Lib.Math.max.code 2 (some .int) ∈ wsX4_pastChannel := by decide +kernel
theorem in_X4_pastChannel_X0 : ∀ w ∈ wsX00, w ∈ wsX4_pastChannel := by decide +kernel
theorem in_X4_pastChannel_X4 : ∀ w ∈ wsX40, w ∈ wsX4_pastChannel := by decide +kernel
set_option maxRecDepth 100000 in
set_option maxHeartbeats 4000000 in
theorem c_X4_pastChannel (l : Launch) (D : va_G) (cI cO cL : ClassId) (A : Nat → Prop) (eE : Nat) (g : zG) (σ : zT) (H0 : Heap) (hR : RX D cO A eE g σ H0) (k t : Int) (hI : zInv σ) (hk : 0 ≤ k ∧ k < σ 14 0) (ht : 0 ≤ t ∧ t < 900000) : zPM l yX4_pastChannel wsX4_pastChannel ({ frames := 3, cells := 0, slots := 0, locals := 64 }) (zKK D cI cO cL) [.ref (g 0 0), .ref (g 6 k), .int (zI t)] H0 (fun r => ∃ z, r = .int (zI z) ∧ zStep (zChanOk σ k) t z) := by
  refine Met.ofW (cc := cX4_pastChannel) (maxL := 6) (ret := (some .int)) (by decide) rfl ?_
  intro p e s m args below meth c s₁ B hml hv
  obtain ⟨rfl, hH, hK⟩ := hv
  subst hH
  have hx := B.exec
  have hb := B.bytes
  have hr := B.returns
  have hts := atoms_spec (ws := wsX4_pastChannel) B.pre
  have hown : s.vm.findClass RX4 = some m.cls := findClass_of_methodNamed B.named
  have hlocks := B.notSynchronized
  have hl := lv_entry ([.ref (g 0 0), .ref (g 6 k), .int (zI t)]) (n := 6) (Nat.le_of_ble_eq_true rfl)
  rw [lg_entry_eq]
  generalize (lg_sl ([.ref (g 0 0), .ref (g 6 k), .int (zI t)]) ++ List.replicate (6 - (lg_sl ([.ref (g 0 0), .ref (g 6 k), .int (zI t)])).length) Slot.unset).toArray = ls at hl ⊢
  have hl : lv_has ls 6 [(0, .ref (g 0 0)), (1, .ref (g 6 k)), (2, .int (zI t))] := hl
  have f0 := hI.r
  have fk := hI.c hk
  have gk := hI.s (i := σ 15 k) (by omega)
  have rk := zRest_r (σ 8 (σ 15 k))
  refine lv_iload_n hx hb dX4_pastChannel_0 rfl (lv_at hl 2 rfl) ?_
  refine lv_istore_n (lv' := [(3, .int (zI t)), (0, .ref (g 0 0)), (1, .ref (g 6 k)), (2, .int (zI t))]) hx hb dX4_pastChannel_1 rfl hl (by decide) rfl (fun ls hl => ?_)
  refine z_iconst hx hb dX4_pastChannel_2 ?_
  refine lv_istore (lv' := [(4, .int (zI 0)), (3, .int (zI t)), (0, .ref (g 0 0)), (1, .ref (g 6 k)), (2, .int (zI t))]) hx hb dX4_pastChannel_3 hl (by decide) rfl (fun ls hl => ?_)
  refine z_cap (fun WW wi wo => ?_)
  have hL : ∀ (n : Nat) (v i : Int) (ls : Array Slot), zPart (zChanOk1 σ k) i t v → 0 ≤ i ∧ i ≤ σ 14 0 → (σ 14 0 - i).toNat < n → lv_has ls 6 [(0, .ref (g 0 0)), (1, .ref (g 6 k)), (2, .int (zI t)), (3, .int (zI v)), (4, .int (zI i))] → WW s.heap [] 0 0 (F0 m 5 ls []) := by
    intro n
    induction n with
    | zero => intro v i ls hp hi hm; exact absurd hm (Nat.not_lt_zero _)
    | succ n ih =>
      intro v i ls hp hi hm hl
      refine wi _ _ _ _ _ ?_
      have hp2 := hp.2
      have hp1 : t ≤ v := by rcases hp.1 with q | q <;> omega
      refine lv_iload hx hb dX4_pastChannel_5 (lv_at hl 4 rfl) ?_
      refine lv_aload_n hx hb dX4_pastChannel_7 rfl (lv_at hl 0 rfl) ?_
      refine z_get hx hb hts in_X4_pastChannel_X4 hown hK hR.x rfl 3 (by decide) lk_X4_pastChannel_26 rfl rfl dX4_pastChannel_8 ?_
      refine z_cv (As := []) (rest := [.int (zI i)]) ⟨hx, hb, hml, hown, hts⟩ (c_size l cI cL hR (i := 2) (by decide)) (cwV 0 hts gX4_pastChannel_Jx4a65c_size_8abf5 rfl rfl rfl (by decide +kernel) ⟨Nat.le_of_ble_eq_true rfl, Nat.le_of_ble_eq_true rfl⟩) (zKK_mv D cI cO cL) (fun U _ hv => va_K.moved hv hK) (z_recv hK (hR.l (i := 2) (by decide)) rfl) rfl hl.1 rfl (Nat.le_of_ble_eq_true rfl) dX4_pastChannel_11 ⟨Nat.zero_le _, Nat.zero_le _⟩ (fun r_1 hr_1 => ?_)
      rw [hr_1]
      refine z_top (b := σ 14 0) rfl ?_
      refine z_icmp_ge (tgt := 80) hx hb dX4_pastChannel_14 (by decide) (by omega) (fun c_2 => ?_) (fun c_2 => ?_)
      · refine lv_iload_n hx hb dX4_pastChannel_80 rfl (lv_at hl 3 rfl) ?_
        exact W.iret hx hb hr (z_end (post := fun r => ∃ z, r = .int (zI z) ∧ zStep (zChanOk σ k) t z) ⟨_, rfl, by rw [show i = σ 14 0 by omega] at hp; exact zPart_st hp⟩) (fun _ h => nomatch h) dX4_pastChannel_81
      · have fi := hI.c (i := i) (by omega)
        have gi := hI.s (i := σ 15 i) (by omega)
        have ri := zRest_r (σ 8 (σ 15 i))
        refine lv_aload_n hx hb dX4_pastChannel_17 rfl (lv_at hl 0 rfl) ?_
        refine z_get hx hb hts in_X4_pastChannel_X4 hown hK hR.x rfl 3 (by decide) lk_X4_pastChannel_26 rfl rfl dX4_pastChannel_18 ?_
        refine lv_iload hx hb dX4_pastChannel_21 (lv_at hl 4 rfl) ?_
        refine z_cv (As := [.int (zI i)]) (rest := []) ⟨hx, hb, hml, hown, hts⟩ (c_get l cI cL hR (i := 2) (k := i) (by decide) (show 0 ≤ i ∧ i < σ 14 0 by omega)) (cwV 1 hts gX4_pastChannel_Jx4a65c_get_915e3 rfl rfl rfl (by decide +kernel) ⟨Nat.le_of_ble_eq_true rfl, Nat.le_of_ble_eq_true rfl⟩) (zKK_mv D cI cO cL) (fun U _ hv => va_K.moved hv hK) (z_recv hK (hR.l (i := 2) (by decide)) rfl) rfl hl.1 rfl (Nat.le_of_ble_eq_true rfl) dX4_pastChannel_23 ⟨Nat.zero_le _, Nat.zero_le _⟩ (fun r_3 hr_3 => ?_)
        rw [hr_3]
        refine z_tov (w := .ref (g 6 i)) rfl ?_
        refine va_castE (nm := "HarbourPilotline$Conference") hx hb hown (hts _ ck_X4_pastChannel_71) (z_recv hK (hR.c (i := i) (by omega)) rfl) dX4_pastChannel_26 ?_
        refine lv_astore (lv' := [(5, .ref (g 6 i)), (0, .ref (g 0 0)), (1, .ref (g 6 k)), (2, .int (zI t)), (3, .int (zI v)), (4, .int (zI i))]) hx hb dX4_pastChannel_29 hl (by decide) rfl (fun ls hl => ?_)
        refine lv_aload hx hb dX4_pastChannel_31 (lv_at hl 0 rfl) ?_
        refine lv_aload_n hx hb dX4_pastChannel_33 rfl (lv_at hl 2 rfl) ?_
        refine lv_acmp_eq (rx := (some (g 6 i))) (ry := (some (g 6 k))) (tgt := 74) hx hb dX4_pastChannel_34 (by decide) (fun c_4 => ?_) (fun c_4 => ?_)
        · rw [hR.c_eq (by omega) (by omega)] at c_4
          refine z_iinc (lv' := [(4, .int (zI (i + 1))), (5, .ref (g 6 i)), (0, .ref (g 0 0)), (1, .ref (g 6 k)), (2, .int (zI t)), (3, .int (zI v))]) hx hb dX4_pastChannel_74 hl (k := 5) rfl (by decide) rfl (fun ls hl => ?_)
          refine lv_goto (tgt := 5) hx hb dX4_pastChannel_77 (by decide) ?_
          exact wo _ _ _ _ _ (ih v (i + 1) ls (by exact zPart_ok hp (by intro h1 h2; (first | omega | (split at * <;> omega)))) (by omega) (by omega) (lv_sub hl [2, 3, 4, 5, 0] rfl))
        · rw [hR.c_eq (by omega) (by omega)] at c_4
          refine lv_aload hx hb dX4_pastChannel_37 (lv_at hl 0 rfl) ?_
          refine z_get hx hb hts in_X4_pastChannel_X0 hown hK (hR.c (i := i) (by omega)) rfl 6 (by decide) lk_X4_pastChannel_122 rfl rfl dX4_pastChannel_39 ?_
          refine z_iconst hx hb dX4_pastChannel_42 ?_
          refine z_icmp_eq (tgt := 74) hx hb dX4_pastChannel_43 (by decide) (by omega) (fun c_5 => ?_) (fun c_5 => ?_)
          · refine z_iinc (lv' := [(4, .int (zI (i + 1))), (5, .ref (g 6 i)), (0, .ref (g 0 0)), (1, .ref (g 6 k)), (2, .int (zI t)), (3, .int (zI v))]) hx hb dX4_pastChannel_74 hl (k := 5) rfl (by decide) rfl (fun ls hl => ?_)
            refine lv_goto (tgt := 5) hx hb dX4_pastChannel_77 (by decide) ?_
            exact wo _ _ _ _ _ (ih v (i + 1) ls (by exact zPart_ok hp (by intro h1 h2; (first | omega | (split at * <;> omega)))) (by omega) (by omega) (lv_sub hl [2, 3, 4, 5, 0] rfl))
          · refine lv_aload hx hb dX4_pastChannel_46 (lv_at hl 0 rfl) ?_
            refine z_get hx hb hts in_X4_pastChannel_X0 hown hK (hR.c (i := i) (by omega)) rfl 6 (by decide) lk_X4_pastChannel_122 rfl rfl dX4_pastChannel_48 ?_
            refine lv_iload_n hx hb dX4_pastChannel_51 rfl (lv_at hl 3 rfl) ?_
            refine z_isub hx hb dX4_pastChannel_52 ?_
            refine z_mabs hx hb (hml.trans hl.1.symm) hts hown ml_X4_pastChannel_251_0 ml_X4_pastChannel_251_1 ml_X4_pastChannel_251_2 ml_X4_pastChannel_251_3 (Nat.le_of_ble_eq_true rfl) (Nat.le_of_ble_eq_true rfl) ⟨Nat.zero_le _, Nat.zero_le _⟩ (by omega) dX4_pastChannel_53 ?_
            refine z_bipush hx hb dX4_pastChannel_56 (by decide +kernel) ?_
            refine z_icmp_ge (tgt := 74) hx hb dX4_pastChannel_58 (by decide) (by unfold zAb; split <;> omega) (fun c_6 => ?_) (fun c_6 => ?_)
            · unfold zAb at c_6
              refine z_iinc (lv' := [(4, .int (zI (i + 1))), (5, .ref (g 6 i)), (0, .ref (g 0 0)), (1, .ref (g 6 k)), (2, .int (zI t)), (3, .int (zI v))]) hx hb dX4_pastChannel_74 hl (k := 5) rfl (by decide) rfl (fun ls hl => ?_)
              refine lv_goto (tgt := 5) hx hb dX4_pastChannel_77 (by decide) ?_
              exact wo _ _ _ _ _ (ih v (i + 1) ls (by exact zPart_ok hp (by intro h1 h2; (first | omega | (split at * <;> omega)))) (by omega) (by omega) (lv_sub hl [2, 3, 4, 5, 0] rfl))
            · unfold zAb at c_6
              refine lv_iload_n hx hb dX4_pastChannel_61 rfl (lv_at hl 4 rfl) ?_
              refine lv_aload hx hb dX4_pastChannel_62 (lv_at hl 0 rfl) ?_
              refine z_get hx hb hts in_X4_pastChannel_X0 hown hK (hR.c (i := i) (by omega)) rfl 6 (by decide) lk_X4_pastChannel_122 rfl rfl dX4_pastChannel_64 ?_
              refine z_bipush hx hb dX4_pastChannel_67 (by decide +kernel) ?_
              refine z_iadd hx hb dX4_pastChannel_69 ?_
              refine z_mmax hx hb (hml.trans hl.1.symm) hts hown ml_X4_pastChannel_161_0 ml_X4_pastChannel_161_1 ml_X4_pastChannel_161_2 ml_X4_pastChannel_161_3 (Nat.le_of_ble_eq_true rfl) (Nat.le_of_ble_eq_true rfl) ⟨Nat.zero_le _, Nat.zero_le _⟩ (by omega) dX4_pastChannel_70 ?_
              refine lv_istore_n (lv' := [(3, .int (zI (max v ((σ 20 i) + 15)))), (5, .ref (g 6 i)), (0, .ref (g 0 0)), (1, .ref (g 6 k)), (2, .int (zI t)), (4, .int (zI i))]) hx hb dX4_pastChannel_73 rfl hl (by decide) rfl (fun ls hl => ?_)
              refine z_iinc (lv' := [(4, .int (zI (i + 1))), (3, .int (zI (max v ((σ 20 i) + 15)))), (5, .ref (g 6 i)), (0, .ref (g 0 0)), (1, .ref (g 6 k)), (2, .int (zI t))]) hx hb dX4_pastChannel_74 hl (k := 5) rfl (by decide) rfl (fun ls hl => ?_)
              refine lv_goto (tgt := 5) hx hb dX4_pastChannel_77 (by decide) ?_
              exact wo _ _ _ _ _ (ih (max v ((σ 20 i) + 15)) (i + 1) ls (by exact zPart_no hp hi.1 (by omega) (by intro u h1 h2 q; have q := q (by omega) (by omega); split at * <;> omega)) (by omega) (by omega) (lv_sub hl [3, 4, 5, 1, 0] rfl))
  exact wo _ _ _ _ _ (hL _ t 0 ls (by exact zPart_0) (by omega) (Nat.lt_succ_self _) (lv_sub hl [2, 3, 4, 1, 0] rfl))

theorem lk_X4_tugsOfOthers_26 : Cond.fieldLink RX4 26 "HarbourPilotline" "conferences" "Ljava/util/ArrayList;" ∈ wsX4_tugsOfOthers := by decide +kernel
theorem ck_X4_tugsOfOthers_71 : Cond.classLink RX4 71 "HarbourPilotline$Conference" ∈ wsX4_tugsOfOthers := by decide +kernel
theorem lk_X4_tugsOfOthers_122 : Cond.fieldLink RX4 122 "HarbourPilotline$Conference" "slot" "I" ∈ wsX4_tugsOfOthers := by decide +kernel
theorem lk_X4_tugsOfOthers_102 : Cond.fieldLink RX4 102 "HarbourPilotline$Conference" "ship" "LHarbourPilotline$Ship;" ∈ wsX4_tugsOfOthers := by decide +kernel
theorem lk_X4_tugsOfOthers_247 : Cond.fieldLink RX4 247 "HarbourPilotline$Ship" "minutes" "I" ∈ wsX4_tugsOfOthers := by decide +kernel
theorem lk_X4_tugsOfOthers_250 : Cond.fieldLink RX4 250 "HarbourPilotline$Ship" "tugs" "I" ∈ wsX4_tugsOfOthers := by decide +kernel
theorem in_X4_tugsOfOthers_X0 : ∀ w ∈ wsX00, w ∈ wsX4_tugsOfOthers := by decide +kernel
theorem in_X4_tugsOfOthers_X2 : ∀ w ∈ wsX20, w ∈ wsX4_tugsOfOthers := by decide +kernel
theorem in_X4_tugsOfOthers_X4 : ∀ w ∈ wsX40, w ∈ wsX4_tugsOfOthers := by decide +kernel
set_option maxRecDepth 100000 in
set_option maxHeartbeats 4000000 in
theorem c_X4_tugsOfOthers (l : Launch) (D : va_G) (cI cO cL : ClassId) (A : Nat → Prop) (eE : Nat) (g : zG) (σ : zT) (H0 : Heap) (hR : RX D cO A eE g σ H0) (k a b : Int) (hI : zInv σ) (hk : 0 ≤ k ∧ k < σ 14 0) (ht : (0 ≤ a ∧ a < 900000) ∧ 0 ≤ b ∧ b < 900000) : zPM l yX4_tugsOfOthers wsX4_tugsOfOthers ({ frames := 3, cells := 0, slots := 0, locals := 64 }) (zKK D cI cO cL) [.ref (g 0 0), .ref (g 6 k), .int (zI a), .int (zI b)] H0 (fun r => r = .int (zI (zTgs σ k a b))) := by
  refine Met.ofW (cc := cX4_tugsOfOthers) (maxL := 7) (ret := (some .int)) (by decide) rfl ?_
  intro p e s m args below meth c s₁ B hml hv
  obtain ⟨rfl, hH, hK⟩ := hv
  subst hH
  have hx := B.exec
  have hb := B.bytes
  have hr := B.returns
  have hts := atoms_spec (ws := wsX4_tugsOfOthers) B.pre
  have hown : s.vm.findClass RX4 = some m.cls := findClass_of_methodNamed B.named
  have hlocks := B.notSynchronized
  have hl := lv_entry ([.ref (g 0 0), .ref (g 6 k), .int (zI a), .int (zI b)]) (n := 7) (Nat.le_of_ble_eq_true rfl)
  rw [lg_entry_eq]
  generalize (lg_sl ([.ref (g 0 0), .ref (g 6 k), .int (zI a), .int (zI b)]) ++ List.replicate (7 - (lg_sl ([.ref (g 0 0), .ref (g 6 k), .int (zI a), .int (zI b)])).length) Slot.unset).toArray = ls at hl ⊢
  have hl : lv_has ls 7 [(0, .ref (g 0 0)), (1, .ref (g 6 k)), (2, .int (zI a)), (3, .int (zI b))] := hl
  have f0 := hI.r
  refine z_iconst hx hb dX4_tugsOfOthers_0 ?_
  refine lv_istore (lv' := [(4, .int (zI 0)), (0, .ref (g 0 0)), (1, .ref (g 6 k)), (2, .int (zI a)), (3, .int (zI b))]) hx hb dX4_tugsOfOthers_1 hl (by decide) rfl (fun ls hl => ?_)
  refine z_iconst hx hb dX4_tugsOfOthers_3 ?_
  refine lv_istore (lv' := [(5, .int (zI 0)), (4, .int (zI 0)), (0, .ref (g 0 0)), (1, .ref (g 6 k)), (2, .int (zI a)), (3, .int (zI b))]) hx hb dX4_tugsOfOthers_4 hl (by decide) rfl (fun ls hl => ?_)
  refine z_cap (fun WW wi wo => ?_)
  have hL : ∀ (n : Nat) (v i : Int) (ls : Array Slot), v = zSum (zTg σ k a b) i.toNat → 0 ≤ i ∧ i ≤ σ 14 0 → (σ 14 0 - i).toNat < n → lv_has ls 7 [(0, .ref (g 0 0)), (1, .ref (g 6 k)), (2, .int (zI a)), (3, .int (zI b)), (4, .int (zI v)), (5, .int (zI i))] → WW s.heap [] 0 0 (F0 m 6 ls []) := by
    intro n
    induction n with
    | zero => intro v i ls hv hi hm; exact absurd hm (Nat.not_lt_zero _)
    | succ n ih =>
      intro v i ls hv hi hm hl
      refine wi _ _ _ _ _ ?_
      refine lv_iload hx hb dX4_tugsOfOthers_6 (lv_at hl 5 rfl) ?_
      refine lv_aload_n hx hb dX4_tugsOfOthers_8 rfl (lv_at hl 0 rfl) ?_
      refine z_get hx hb hts in_X4_tugsOfOthers_X4 hown hK hR.x rfl 3 (by decide) lk_X4_tugsOfOthers_26 rfl rfl dX4_tugsOfOthers_9 ?_
      refine z_cv (As := []) (rest := [.int (zI i)]) ⟨hx, hb, hml, hown, hts⟩ (c_size l cI cL hR (i := 2) (by decide)) (cwV 0 hts gX4_tugsOfOthers_Jx4a65c_size_8abf5 rfl rfl rfl (by decide +kernel) ⟨Nat.le_of_ble_eq_true rfl, Nat.le_of_ble_eq_true rfl⟩) (zKK_mv D cI cO cL) (fun U _ hv => va_K.moved hv hK) (z_recv hK (hR.l (i := 2) (by decide)) rfl) rfl hl.1 rfl (Nat.le_of_ble_eq_true rfl) dX4_tugsOfOthers_12 ⟨Nat.zero_le _, Nat.zero_le _⟩ (fun r_1 hr_1 => ?_)
      rw [hr_1]
      refine z_top (b := σ 14 0) rfl ?_
      refine z_icmp_ge (tgt := 93) hx hb dX4_tugsOfOthers_15 (by decide) (by omega) (fun c_2 => ?_) (fun c_2 => ?_)
      · refine lv_iload hx hb dX4_tugsOfOthers_93 (lv_at hl 4 rfl) ?_
        exact W.iret hx hb hr (z_end (post := fun r => r = .int (zI (zTgs σ k a b))) (z_eq (a := v) (b := zTgs σ k a b) (by rw [hv, show i = σ 14 0 by omega]; rfl))) (fun _ h => nomatch h) dX4_tugsOfOthers_95
      · have fi := hI.c (i := i) (by omega)
        have gi := hI.s (i := σ 15 i) (by omega)
        have ri := zRest_r (σ 8 (σ 15 i))
        refine lv_aload_n hx hb dX4_tugsOfOthers_18 rfl (lv_at hl 0 rfl) ?_
        refine z_get hx hb hts in_X4_tugsOfOthers_X4 hown hK hR.x rfl 3 (by decide) lk_X4_tugsOfOthers_26 rfl rfl dX4_tugsOfOthers_19 ?_
        refine lv_iload hx hb dX4_tugsOfOthers_22 (lv_at hl 5 rfl) ?_
        refine z_cv (As := [.int (zI i)]) (rest := []) ⟨hx, hb, hml, hown, hts⟩ (c_get l cI cL hR (i := 2) (k := i) (by decide) (show 0 ≤ i ∧ i < σ 14 0 by omega)) (cwV 1 hts gX4_tugsOfOthers_Jx4a65c_get_915e3 rfl rfl rfl (by decide +kernel) ⟨Nat.le_of_ble_eq_true rfl, Nat.le_of_ble_eq_true rfl⟩) (zKK_mv D cI cO cL) (fun U _ hv => va_K.moved hv hK) (z_recv hK (hR.l (i := 2) (by decide)) rfl) rfl hl.1 rfl (Nat.le_of_ble_eq_true rfl) dX4_tugsOfOthers_24 ⟨Nat.zero_le _, Nat.zero_le _⟩ (fun r_3 hr_3 => ?_)
        rw [hr_3]
        refine z_tov (w := .ref (g 6 i)) rfl ?_
        refine va_castE (nm := "HarbourPilotline$Conference") hx hb hown (hts _ ck_X4_tugsOfOthers_71) (z_recv hK (hR.c (i := i) (by omega)) rfl) dX4_tugsOfOthers_27 ?_
        refine lv_astore (lv' := [(6, .ref (g 6 i)), (0, .ref (g 0 0)), (1, .ref (g 6 k)), (2, .int (zI a)), (3, .int (zI b)), (4, .int (zI v)), (5, .int (zI i))]) hx hb dX4_tugsOfOthers_30 hl (by decide) rfl (fun ls hl => ?_)
        refine lv_aload hx hb dX4_tugsOfOthers_32 (lv_at hl 0 rfl) ?_
        refine lv_aload_n hx hb dX4_tugsOfOthers_34 rfl (lv_at hl 2 rfl) ?_
        refine lv_acmp_eq (rx := (some (g 6 i))) (ry := (some (g 6 k))) (tgt := 87) hx hb dX4_tugsOfOthers_35 (by decide) (fun c_4 => ?_) (fun c_4 => ?_)
        · rw [hR.c_eq (by omega) (by omega)] at c_4
          refine z_iinc (lv' := [(5, .int (zI (i + 1))), (6, .ref (g 6 i)), (0, .ref (g 0 0)), (1, .ref (g 6 k)), (2, .int (zI a)), (3, .int (zI b)), (4, .int (zI v))]) hx hb dX4_tugsOfOthers_87 hl (k := 6) rfl (by decide) rfl (fun ls hl => ?_)
          refine lv_goto (tgt := 6) hx hb dX4_tugsOfOthers_90 (by decide) ?_
          exact wo _ _ _ _ _ (ih v (i + 1) ls (by rw [zSum_i _ hi.1, hv]; first | rw [zTg_t (by omega)] | (rw [zTg_f (by omega)]; omega)) (by omega) (by omega) (lv_sub hl [2, 3, 4, 5, 6, 0] rfl))
        · rw [hR.c_eq (by omega) (by omega)] at c_4
          refine lv_aload hx hb dX4_tugsOfOthers_38 (lv_at hl 0 rfl) ?_
          refine z_get hx hb hts in_X4_tugsOfOthers_X0 hown hK (hR.c (i := i) (by omega)) rfl 6 (by decide) lk_X4_tugsOfOthers_122 rfl rfl dX4_tugsOfOthers_40 ?_
          refine z_iconst hx hb dX4_tugsOfOthers_43 ?_
          refine z_icmp_eq (tgt := 87) hx hb dX4_tugsOfOthers_44 (by decide) (by omega) (fun c_5 => ?_) (fun c_5 => ?_)
          · refine z_iinc (lv' := [(5, .int (zI (i + 1))), (6, .ref (g 6 i)), (0, .ref (g 0 0)), (1, .ref (g 6 k)), (2, .int (zI a)), (3, .int (zI b)), (4, .int (zI v))]) hx hb dX4_tugsOfOthers_87 hl (k := 6) rfl (by decide) rfl (fun ls hl => ?_)
            refine lv_goto (tgt := 6) hx hb dX4_tugsOfOthers_90 (by decide) ?_
            exact wo _ _ _ _ _ (ih v (i + 1) ls (by rw [zSum_i _ hi.1, hv]; first | rw [zTg_t (by omega)] | (rw [zTg_f (by omega)]; omega)) (by omega) (by omega) (lv_sub hl [2, 3, 4, 5, 6, 0] rfl))
          · refine lv_aload hx hb dX4_tugsOfOthers_47 (lv_at hl 0 rfl) ?_
            refine z_get hx hb hts in_X4_tugsOfOthers_X0 hown hK (hR.c (i := i) (by omega)) rfl 6 (by decide) lk_X4_tugsOfOthers_122 rfl rfl dX4_tugsOfOthers_49 ?_
            refine lv_iload_n hx hb dX4_tugsOfOthers_52 rfl (lv_at hl 4 rfl) ?_
            refine z_icmp_gt (tgt := 87) hx hb dX4_tugsOfOthers_53 (by decide) (by omega) (fun c_6 => ?_) (fun c_6 => ?_)
            · refine z_iinc (lv' := [(5, .int (zI (i + 1))), (6, .ref (g 6 i)), (0, .ref (g 0 0)), (1, .ref (g 6 k)), (2, .int (zI a)), (3, .int (zI b)), (4, .int (zI v))]) hx hb dX4_tugsOfOthers_87 hl (k := 6) rfl (by decide) rfl (fun ls hl => ?_)
              refine lv_goto (tgt := 6) hx hb dX4_tugsOfOthers_90 (by decide) ?_
              exact wo _ _ _ _ _ (ih v (i + 1) ls (by rw [zSum_i _ hi.1, hv]; first | rw [zTg_t (by omega)] | (rw [zTg_f (by omega)]; omega)) (by omega) (by omega) (lv_sub hl [2, 3, 4, 5, 6, 0] rfl))
            · refine lv_aload hx hb dX4_tugsOfOthers_56 (lv_at hl 0 rfl) ?_
              refine z_get hx hb hts in_X4_tugsOfOthers_X0 hown hK (hR.c (i := i) (by omega)) rfl 6 (by decide) lk_X4_tugsOfOthers_122 rfl rfl dX4_tugsOfOthers_58 ?_
              refine lv_aload hx hb dX4_tugsOfOthers_61 (lv_at hl 0 rfl) ?_
              refine z_get hx hb hts in_X4_tugsOfOthers_X0 hown hK (hR.c (i := i) (by omega)) rfl 0 (by decide) lk_X4_tugsOfOthers_102 rfl rfl dX4_tugsOfOthers_63 ?_
              refine z_get hx hb hts in_X4_tugsOfOthers_X2 hown hK (hR.s (i := (σ 15 i)) (by omega)) rfl 3 (by decide) lk_X4_tugsOfOthers_247 rfl rfl dX4_tugsOfOthers_66 ?_
              refine z_iadd hx hb dX4_tugsOfOthers_69 ?_
              refine lv_iload_n hx hb dX4_tugsOfOthers_70 rfl (lv_at hl 3 rfl) ?_
              refine z_icmp_le (tgt := 87) hx hb dX4_tugsOfOthers_71 (by decide) (by omega) (fun c_7 => ?_) (fun c_7 => ?_)
              · refine z_iinc (lv' := [(5, .int (zI (i + 1))), (6, .ref (g 6 i)), (0, .ref (g 0 0)), (1, .ref (g 6 k)), (2, .int (zI a)), (3, .int (zI b)), (4, .int (zI v))]) hx hb dX4_tugsOfOthers_87 hl (k := 6) rfl (by decide) rfl (fun ls hl => ?_)
                refine lv_goto (tgt := 6) hx hb dX4_tugsOfOthers_90 (by decide) ?_
                exact wo _ _ _ _ _ (ih v (i + 1) ls (by rw [zSum_i _ hi.1, hv]; first | rw [zTg_t (by omega)] | (rw [zTg_f (by omega)]; omega)) (by omega) (by omega) (lv_sub hl [2, 3, 4, 5, 6, 0] rfl))
              · refine lv_iload hx hb dX4_tugsOfOthers_74 (lv_at hl 5 rfl) ?_
                refine lv_aload hx hb dX4_tugsOfOthers_76 (lv_at hl 0 rfl) ?_
                refine z_get hx hb hts in_X4_tugsOfOthers_X0 hown hK (hR.c (i := i) (by omega)) rfl 0 (by decide) lk_X4_tugsOfOthers_102 rfl rfl dX4_tugsOfOthers_78 ?_
                refine z_get hx hb hts in_X4_tugsOfOthers_X2 hown hK (hR.s (i := (σ 15 i)) (by omega)) rfl 4 (by decide) lk_X4_tugsOfOthers_250 rfl rfl dX4_tugsOfOthers_81 ?_
                refine z_iadd hx hb dX4_tugsOfOthers_84 ?_
                refine lv_istore (lv' := [(4, .int (zI (v + (σ 9 (σ 15 i))))), (6, .ref (g 6 i)), (0, .ref (g 0 0)), (1, .ref (g 6 k)), (2, .int (zI a)), (3, .int (zI b)), (5, .int (zI i))]) hx hb dX4_tugsOfOthers_85 hl (by decide) rfl (fun ls hl => ?_)
                refine z_iinc (lv' := [(5, .int (zI (i + 1))), (4, .int (zI (v + (σ 9 (σ 15 i))))), (6, .ref (g 6 i)), (0, .ref (g 0 0)), (1, .ref (g 6 k)), (2, .int (zI a)), (3, .int (zI b))]) hx hb dX4_tugsOfOthers_87 hl (k := 6) rfl (by decide) rfl (fun ls hl => ?_)
                refine lv_goto (tgt := 6) hx hb dX4_tugsOfOthers_90 (by decide) ?_
                exact wo _ _ _ _ _ (ih (v + (σ 9 (σ 15 i))) (i + 1) ls (by rw [zSum_i _ hi.1, hv]; first | rw [zTg_t (by omega)] | (rw [zTg_f (by omega)]; omega)) (by omega) (by omega) (lv_sub hl [3, 4, 5, 6, 1, 0] rfl))
  exact wo _ _ _ _ _ (hL _ 0 0 ls (by rfl) (by omega) (Nat.lt_succ_self _) (lv_sub hl [2, 3, 4, 5, 1, 0] rfl))

set_option maxRecDepth 100000 in
set_option maxHeartbeats 4000000 in
theorem c_X4_tugsOfOthers_N (l : Launch) (D : va_G) (cI cO cL : ClassId) (A : Nat → Prop) (eE : Nat) (g : zG) (σ : zT) (H0 : Heap) (hR : RX D cO A eE g σ H0) (a b : Int) (hI : zInv σ) (ht : (0 ≤ a ∧ a < 900000) ∧ 0 ≤ b ∧ b < 900000) : zPM l yX4_tugsOfOthers wsX4_tugsOfOthers ({ frames := 3, cells := 0, slots := 0, locals := 64 }) (zKK D cI cO cL) [.ref (g 0 0), .null, .int (zI a), .int (zI b)] H0 (fun r => r = .int (zI (zTgs σ (-1) a b))) := by
  refine Met.ofW (cc := cX4_tugsOfOthers) (maxL := 7) (ret := (some .int)) (by decide) rfl ?_
  intro p e s m args below meth c s₁ B hml hv
  obtain ⟨rfl, hH, hK⟩ := hv
  subst hH
  have hx := B.exec
  have hb := B.bytes
  have hr := B.returns
  have hts := atoms_spec (ws := wsX4_tugsOfOthers) B.pre
  have hown : s.vm.findClass RX4 = some m.cls := findClass_of_methodNamed B.named
  have hlocks := B.notSynchronized
  have hl := lv_entry ([.ref (g 0 0), .null, .int (zI a), .int (zI b)]) (n := 7) (Nat.le_of_ble_eq_true rfl)
  rw [lg_entry_eq]
  generalize (lg_sl ([.ref (g 0 0), .null, .int (zI a), .int (zI b)]) ++ List.replicate (7 - (lg_sl ([.ref (g 0 0), .null, .int (zI a), .int (zI b)])).length) Slot.unset).toArray = ls at hl ⊢
  have hl : lv_has ls 7 [(0, .ref (g 0 0)), (1, .null), (2, .int (zI a)), (3, .int (zI b))] := hl
  have f0 := hI.r
  refine z_iconst hx hb dX4_tugsOfOthers_0 ?_
  refine lv_istore (lv' := [(4, .int (zI 0)), (0, .ref (g 0 0)), (1, .null), (2, .int (zI a)), (3, .int (zI b))]) hx hb dX4_tugsOfOthers_1 hl (by decide) rfl (fun ls hl => ?_)
  refine z_iconst hx hb dX4_tugsOfOthers_3 ?_
  refine lv_istore (lv' := [(5, .int (zI 0)), (4, .int (zI 0)), (0, .ref (g 0 0)), (1, .null), (2, .int (zI a)), (3, .int (zI b))]) hx hb dX4_tugsOfOthers_4 hl (by decide) rfl (fun ls hl => ?_)
  refine z_cap (fun WW wi wo => ?_)
  have hL : ∀ (n : Nat) (v i : Int) (ls : Array Slot), v = zSum (zTg σ (-1) a b) i.toNat → 0 ≤ i ∧ i ≤ σ 14 0 → (σ 14 0 - i).toNat < n → lv_has ls 7 [(0, .ref (g 0 0)), (1, .null), (2, .int (zI a)), (3, .int (zI b)), (4, .int (zI v)), (5, .int (zI i))] → WW s.heap [] 0 0 (F0 m 6 ls []) := by
    intro n
    induction n with
    | zero => intro v i ls hv hi hm; exact absurd hm (Nat.not_lt_zero _)
    | succ n ih =>
      intro v i ls hv hi hm hl
      refine wi _ _ _ _ _ ?_
      refine lv_iload hx hb dX4_tugsOfOthers_6 (lv_at hl 5 rfl) ?_
      refine lv_aload_n hx hb dX4_tugsOfOthers_8 rfl (lv_at hl 0 rfl) ?_
      refine z_get hx hb hts in_X4_tugsOfOthers_X4 hown hK hR.x rfl 3 (by decide) lk_X4_tugsOfOthers_26 rfl rfl dX4_tugsOfOthers_9 ?_
      refine z_cv (As := []) (rest := [.int (zI i)]) ⟨hx, hb, hml, hown, hts⟩ (c_size l cI cL hR (i := 2) (by decide)) (cwV 0 hts gX4_tugsOfOthers_Jx4a65c_size_8abf5 rfl rfl rfl (by decide +kernel) ⟨Nat.le_of_ble_eq_true rfl, Nat.le_of_ble_eq_true rfl⟩) (zKK_mv D cI cO cL) (fun U _ hv => va_K.moved hv hK) (z_recv hK (hR.l (i := 2) (by decide)) rfl) rfl hl.1 rfl (Nat.le_of_ble_eq_true rfl) dX4_tugsOfOthers_12 ⟨Nat.zero_le _, Nat.zero_le _⟩ (fun r_1 hr_1 => ?_)
      rw [hr_1]
      refine z_top (b := σ 14 0) rfl ?_
      refine z_icmp_ge (tgt := 93) hx hb dX4_tugsOfOthers_15 (by decide) (by omega) (fun c_2 => ?_) (fun c_2 => ?_)
      · refine lv_iload hx hb dX4_tugsOfOthers_93 (lv_at hl 4 rfl) ?_
        exact W.iret hx hb hr (z_end (post := fun r => r = .int (zI (zTgs σ (-1) a b))) (z_eq (a := v) (b := zTgs σ (-1) a b) (by rw [hv, show i = σ 14 0 by omega]; rfl))) (fun _ h => nomatch h) dX4_tugsOfOthers_95
      · have fi := hI.c (i := i) (by omega)
        have gi := hI.s (i := σ 15 i) (by omega)
        have ri := zRest_r (σ 8 (σ 15 i))
        refine lv_aload_n hx hb dX4_tugsOfOthers_18 rfl (lv_at hl 0 rfl) ?_
        refine z_get hx hb hts in_X4_tugsOfOthers_X4 hown hK hR.x rfl 3 (by decide) lk_X4_tugsOfOthers_26 rfl rfl dX4_tugsOfOthers_19 ?_
        refine lv_iload hx hb dX4_tugsOfOthers_22 (lv_at hl 5 rfl) ?_
        refine z_cv (As := [.int (zI i)]) (rest := []) ⟨hx, hb, hml, hown, hts⟩ (c_get l cI cL hR (i := 2) (k := i) (by decide) (show 0 ≤ i ∧ i < σ 14 0 by omega)) (cwV 1 hts gX4_tugsOfOthers_Jx4a65c_get_915e3 rfl rfl rfl (by decide +kernel) ⟨Nat.le_of_ble_eq_true rfl, Nat.le_of_ble_eq_true rfl⟩) (zKK_mv D cI cO cL) (fun U _ hv => va_K.moved hv hK) (z_recv hK (hR.l (i := 2) (by decide)) rfl) rfl hl.1 rfl (Nat.le_of_ble_eq_true rfl) dX4_tugsOfOthers_24 ⟨Nat.zero_le _, Nat.zero_le _⟩ (fun r_3 hr_3 => ?_)
        rw [hr_3]
        refine z_tov (w := .ref (g 6 i)) rfl ?_
        refine va_castE (nm := "HarbourPilotline$Conference") hx hb hown (hts _ ck_X4_tugsOfOthers_71) (z_recv hK (hR.c (i := i) (by omega)) rfl) dX4_tugsOfOthers_27 ?_
        refine lv_astore (lv' := [(6, .ref (g 6 i)), (0, .ref (g 0 0)), (1, .null), (2, .int (zI a)), (3, .int (zI b)), (4, .int (zI v)), (5, .int (zI i))]) hx hb dX4_tugsOfOthers_30 hl (by decide) rfl (fun ls hl => ?_)
        refine lv_aload hx hb dX4_tugsOfOthers_32 (lv_at hl 0 rfl) ?_
        refine lv_aload_nN hx hb dX4_tugsOfOthers_34 rfl (lv_at hl 2 rfl) ?_
        refine lv_acmp_eq (rx := (some (g 6 i))) (ry := none) (tgt := 87) hx hb dX4_tugsOfOthers_35 (by decide) (fun c_4 => ?_) (fun c_4 => ?_)
        · exact absurd c_4 (by simp)
        · clear c_4
          refine lv_aload hx hb dX4_tugsOfOthers_38 (lv_at hl 0 rfl) ?_
          refine z_get hx hb hts in_X4_tugsOfOthers_X0 hown hK (hR.c (i := i) (by omega)) rfl 6 (by decide) lk_X4_tugsOfOthers_122 rfl rfl dX4_tugsOfOthers_40 ?_
          refine z_iconst hx hb dX4_tugsOfOthers_43 ?_
          refine z_icmp_eq (tgt := 87) hx hb dX4_tugsOfOthers_44 (by decide) (by omega) (fun c_5 => ?_) (fun c_5 => ?_)
          · refine z_iinc (lv' := [(5, .int (zI (i + 1))), (6, .ref (g 6 i)), (0, .ref (g 0 0)), (1, .null), (2, .int (zI a)), (3, .int (zI b)), (4, .int (zI v))]) hx hb dX4_tugsOfOthers_87 hl (k := 6) rfl (by decide) rfl (fun ls hl => ?_)
            refine lv_goto (tgt := 6) hx hb dX4_tugsOfOthers_90 (by decide) ?_
            exact wo _ _ _ _ _ (ih v (i + 1) ls (by rw [zSum_i _ hi.1, hv]; first | rw [zTg_t (by omega)] | (rw [zTg_f (by omega)]; omega)) (by omega) (by omega) (lv_sub hl [2, 3, 4, 5, 6, 0] rfl))
          · refine lv_aload hx hb dX4_tugsOfOthers_47 (lv_at hl 0 rfl) ?_
            refine z_get hx hb hts in_X4_tugsOfOthers_X0 hown hK (hR.c (i := i) (by omega)) rfl 6 (by decide) lk_X4_tugsOfOthers_122 rfl rfl dX4_tugsOfOthers_49 ?_
            refine lv_iload_n hx hb dX4_tugsOfOthers_52 rfl (lv_at hl 4 rfl) ?_
            refine z_icmp_gt (tgt := 87) hx hb dX4_tugsOfOthers_53 (by decide) (by omega) (fun c_6 => ?_) (fun c_6 => ?_)
            · refine z_iinc (lv' := [(5, .int (zI (i + 1))), (6, .ref (g 6 i)), (0, .ref (g 0 0)), (1, .null), (2, .int (zI a)), (3, .int (zI b)), (4, .int (zI v))]) hx hb dX4_tugsOfOthers_87 hl (k := 6) rfl (by decide) rfl (fun ls hl => ?_)
              refine lv_goto (tgt := 6) hx hb dX4_tugsOfOthers_90 (by decide) ?_
              exact wo _ _ _ _ _ (ih v (i + 1) ls (by rw [zSum_i _ hi.1, hv]; first | rw [zTg_t (by omega)] | (rw [zTg_f (by omega)]; omega)) (by omega) (by omega) (lv_sub hl [2, 3, 4, 5, 6, 0] rfl))
            · refine lv_aload hx hb dX4_tugsOfOthers_56 (lv_at hl 0 rfl) ?_
              refine z_get hx hb hts in_X4_tugsOfOthers_X0 hown hK (hR.c (i := i) (by omega)) rfl 6 (by decide) lk_X4_tugsOfOthers_122 rfl rfl dX4_tugsOfOthers_58 ?_
              refine lv_aload hx hb dX4_tugsOfOthers_61 (lv_at hl 0 rfl) ?_
              refine z_get hx hb hts in_X4_tugsOfOthers_X0 hown hK (hR.c (i := i) (by omega)) rfl 0 (by decide) lk_X4_tugsOfOthers_102 rfl rfl dX4_tugsOfOthers_63 ?_
              refine z_get hx hb hts in_X4_tugsOfOthers_X2 hown hK (hR.s (i := (σ 15 i)) (by omega)) rfl 3 (by decide) lk_X4_tugsOfOthers_247 rfl rfl dX4_tugsOfOthers_66 ?_
              refine z_iadd hx hb dX4_tugsOfOthers_69 ?_
              refine lv_iload_n hx hb dX4_tugsOfOthers_70 rfl (lv_at hl 3 rfl) ?_
              refine z_icmp_le (tgt := 87) hx hb dX4_tugsOfOthers_71 (by decide) (by omega) (fun c_7 => ?_) (fun c_7 => ?_)
              · refine z_iinc (lv' := [(5, .int (zI (i + 1))), (6, .ref (g 6 i)), (0, .ref (g 0 0)), (1, .null), (2, .int (zI a)), (3, .int (zI b)), (4, .int (zI v))]) hx hb dX4_tugsOfOthers_87 hl (k := 6) rfl (by decide) rfl (fun ls hl => ?_)
                refine lv_goto (tgt := 6) hx hb dX4_tugsOfOthers_90 (by decide) ?_
                exact wo _ _ _ _ _ (ih v (i + 1) ls (by rw [zSum_i _ hi.1, hv]; first | rw [zTg_t (by omega)] | (rw [zTg_f (by omega)]; omega)) (by omega) (by omega) (lv_sub hl [2, 3, 4, 5, 6, 0] rfl))
              · refine lv_iload hx hb dX4_tugsOfOthers_74 (lv_at hl 5 rfl) ?_
                refine lv_aload hx hb dX4_tugsOfOthers_76 (lv_at hl 0 rfl) ?_
                refine z_get hx hb hts in_X4_tugsOfOthers_X0 hown hK (hR.c (i := i) (by omega)) rfl 0 (by decide) lk_X4_tugsOfOthers_102 rfl rfl dX4_tugsOfOthers_78 ?_
                refine z_get hx hb hts in_X4_tugsOfOthers_X2 hown hK (hR.s (i := (σ 15 i)) (by omega)) rfl 4 (by decide) lk_X4_tugsOfOthers_250 rfl rfl dX4_tugsOfOthers_81 ?_
                refine z_iadd hx hb dX4_tugsOfOthers_84 ?_
                refine lv_istore (lv' := [(4, .int (zI (v + (σ 9 (σ 15 i))))), (6, .ref (g 6 i)), (0, .ref (g 0 0)), (1, .null), (2, .int (zI a)), (3, .int (zI b)), (5, .int (zI i))]) hx hb dX4_tugsOfOthers_85 hl (by decide) rfl (fun ls hl => ?_)
                refine z_iinc (lv' := [(5, .int (zI (i + 1))), (4, .int (zI (v + (σ 9 (σ 15 i))))), (6, .ref (g 6 i)), (0, .ref (g 0 0)), (1, .null), (2, .int (zI a)), (3, .int (zI b))]) hx hb dX4_tugsOfOthers_87 hl (k := 6) rfl (by decide) rfl (fun ls hl => ?_)
                refine lv_goto (tgt := 6) hx hb dX4_tugsOfOthers_90 (by decide) ?_
                exact wo _ _ _ _ _ (ih (v + (σ 9 (σ 15 i))) (i + 1) ls (by rw [zSum_i _ hi.1, hv]; first | rw [zTg_t (by omega)] | (rw [zTg_f (by omega)]; omega)) (by omega) (by omega) (lv_sub hl [3, 4, 5, 6, 1, 0] rfl))
  exact wo _ _ _ _ _ (hL _ 0 0 ls (by rfl) (by omega) (Nat.lt_succ_self _) (lv_sub hl [2, 3, 4, 5, 1, 0] rfl))

theorem lk_X4_pastTugs_102 : Cond.fieldLink RX4 102 "HarbourPilotline$Conference" "ship" "LHarbourPilotline$Ship;" ∈ wsX4_pastTugs := by decide +kernel
theorem lk_X4_pastTugs_247 : Cond.fieldLink RX4 247 "HarbourPilotline$Ship" "minutes" "I" ∈ wsX4_pastTugs := by decide +kernel
theorem lk_X4_pastTugs_29 : Cond.fieldLink RX4 29 "HarbourPilotline" "tugs" "I" ∈ wsX4_pastTugs := by decide +kernel
theorem lk_X4_pastTugs_250 : Cond.fieldLink RX4 250 "HarbourPilotline$Ship" "tugs" "I" ∈ wsX4_pastTugs := by decide +kernel
theorem in_X4_pastTugs_X0 : ∀ w ∈ wsX00, w ∈ wsX4_pastTugs := by decide +kernel
theorem in_X4_pastTugs_X2 : ∀ w ∈ wsX20, w ∈ wsX4_pastTugs := by decide +kernel
theorem in_X4_pastTugs_X4 : ∀ w ∈ wsX40, w ∈ wsX4_pastTugs := by decide +kernel
set_option maxRecDepth 100000 in
set_option maxHeartbeats 4000000 in
theorem c_X4_pastTugs (l : Launch) (D : va_G) (cI cO cL : ClassId) (A : Nat → Prop) (eE : Nat) (g : zG) (σ : zT) (H0 : Heap) (hR : RX D cO A eE g σ H0) (k t : Int) (hI : zInv σ) (hk : 0 ≤ k ∧ k < σ 14 0) (ht : 0 ≤ t ∧ t < 800000) : zPM l yX4_pastTugs wsX4_pastTugs ({ frames := 4, cells := 0, slots := 0, locals := 90 }) (zKK D cI cO cL) [.ref (g 0 0), .ref (g 6 k), .int (zI t)] H0 (fun r => ∃ z, r = .int (zI z) ∧ zStep (zTugOk σ k) t z) := by
  refine Met.ofW (cc := cX4_pastTugs) (maxL := 6) (ret := (some .int)) (by decide) rfl ?_
  intro p e s m args below meth c s₁ B hml hv
  obtain ⟨rfl, hH, hK⟩ := hv
  subst hH
  have hx := B.exec
  have hb := B.bytes
  have hr := B.returns
  have hts := atoms_spec (ws := wsX4_pastTugs) B.pre
  have hown : s.vm.findClass RX4 = some m.cls := findClass_of_methodNamed B.named
  have hlocks := B.notSynchronized
  have hl := lv_entry ([.ref (g 0 0), .ref (g 6 k), .int (zI t)]) (n := 6) (Nat.le_of_ble_eq_true rfl)
  rw [lg_entry_eq]
  generalize (lg_sl ([.ref (g 0 0), .ref (g 6 k), .int (zI t)]) ++ List.replicate (6 - (lg_sl ([.ref (g 0 0), .ref (g 6 k), .int (zI t)])).length) Slot.unset).toArray = ls at hl ⊢
  have hl : lv_has ls 6 [(0, .ref (g 0 0)), (1, .ref (g 6 k)), (2, .int (zI t))] := hl
  have f0 := hI.r
  have fk := hI.c hk
  have gk := hI.s (i := σ 15 k) (by omega)
  have rk := zRest_r (σ 8 (σ 15 k))
  have tt := zTgs_r hI k t (t + σ 8 (σ 15 k) - 1)
  refine lv_iload_n hx hb dX4_pastTugs_0 rfl (lv_at hl 2 rfl) ?_
  refine lv_aload_n hx hb dX4_pastTugs_1 rfl (lv_at hl 1 rfl) ?_
  refine z_get hx hb hts in_X4_pastTugs_X0 hown hK (hR.c (i := k) (by omega)) rfl 0 (by decide) lk_X4_pastTugs_102 rfl rfl dX4_pastTugs_2 ?_
  refine z_get hx hb hts in_X4_pastTugs_X2 hown hK (hR.s (i := (σ 15 k)) (by omega)) rfl 3 (by decide) lk_X4_pastTugs_247 rfl rfl dX4_pastTugs_5 ?_
  refine z_iadd hx hb dX4_pastTugs_8 ?_
  refine z_iconst hx hb dX4_pastTugs_9 ?_
  refine z_isub hx hb dX4_pastTugs_10 ?_
  refine lv_istore_n (lv' := [(3, .int (zI ((t + (σ 8 (σ 15 k))) - 1))), (0, .ref (g 0 0)), (1, .ref (g 6 k)), (2, .int (zI t))]) hx hb dX4_pastTugs_11 rfl hl (by decide) rfl (fun ls hl => ?_)
  refine lv_aload_n hx hb dX4_pastTugs_12 rfl (lv_at hl 1 rfl) ?_
  refine z_get hx hb hts in_X4_pastTugs_X4 hown hK hR.x rfl 4 (by decide) lk_X4_pastTugs_29 rfl rfl dX4_pastTugs_13 ?_
  refine lv_aload_n hx hb dX4_pastTugs_16 rfl (lv_at hl 2 rfl) ?_
  refine z_get hx hb hts in_X4_pastTugs_X0 hown hK (hR.c (i := k) (by omega)) rfl 0 (by decide) lk_X4_pastTugs_102 rfl rfl dX4_pastTugs_17 ?_
  refine z_get hx hb hts in_X4_pastTugs_X2 hown hK (hR.s (i := (σ 15 k)) (by omega)) rfl 4 (by decide) lk_X4_pastTugs_250 rfl rfl dX4_pastTugs_20 ?_
  refine z_isub hx hb dX4_pastTugs_23 ?_
  refine lv_istore (lv' := [(4, .int (zI ((σ 4 0) - (σ 9 (σ 15 k))))), (3, .int (zI ((t + (σ 8 (σ 15 k))) - 1))), (0, .ref (g 0 0)), (1, .ref (g 6 k)), (2, .int (zI t))]) hx hb dX4_pastTugs_24 hl (by decide) rfl (fun ls hl => ?_)
  refine lv_aload_n hx hb dX4_pastTugs_26 rfl (lv_at hl 2 rfl) ?_
  refine lv_aload_n hx hb dX4_pastTugs_27 rfl (lv_at hl 3 rfl) ?_
  refine lv_iload_n hx hb dX4_pastTugs_28 rfl (lv_at hl 4 rfl) ?_
  refine lv_iload_n hx hb dX4_pastTugs_29 rfl (lv_at hl 1 rfl) ?_
  refine z_cv (As := [.ref (g 6 k), .int (zI t), .int (zI ((t + (σ 8 (σ 15 k))) - 1))]) (rest := []) ⟨hx, hb, hml, hown, hts⟩ (c_X4_tugsOfOthers l D cI cO cL A eE g σ s.heap hR k t ((t + (σ 8 (σ 15 k))) - 1) hI (by omega) (by omega)) (cwV 3 hts gX4_pastTugs_X4_tugsOfOthers rfl rfl rfl (by decide +kernel) ⟨Nat.le_of_ble_eq_true rfl, Nat.le_of_ble_eq_true rfl⟩) (zKK_mv D cI cO cL) (fun U _ hv => va_K.moved hv hK) (z_recv hK hR.x rfl) rfl hl.1 rfl (Nat.le_of_ble_eq_true rfl) dX4_pastTugs_30 ⟨Nat.zero_le _, Nat.zero_le _⟩ (fun r_1 hr_1 => ?_)
  rw [hr_1]
  refine lv_iload hx hb dX4_pastTugs_33 (lv_at hl 0 rfl) ?_
  refine z_icmp_gt (tgt := 40) hx hb dX4_pastTugs_35 (by decide) (by omega) (fun c_2 => ?_) (fun c_2 => ?_)
  · refine lv_iload_n hx hb dX4_pastTugs_40 rfl (lv_at hl 1 rfl) ?_
    refine lv_istore (lv' := [(5, .int (zI ((t + (σ 8 (σ 15 k))) - 1))), (4, .int (zI ((σ 4 0) - (σ 9 (σ 15 k))))), (3, .int (zI ((t + (σ 8 (σ 15 k))) - 1))), (0, .ref (g 0 0)), (1, .ref (g 6 k)), (2, .int (zI t))]) hx hb dX4_pastTugs_41 hl (by decide) rfl (fun ls hl => ?_)
    refine z_cap (fun WW wi wo => ?_)
    have hL : ∀ (n : Nat) (i : Int) (ls : Array Slot), t - 1 ≤ i ∧ i ≤ t + σ 8 (σ 15 k) - 1 → (∀ m : Int, i < m → m < t + σ 8 (σ 15 k) → zTugs σ k m ≤ σ 4 0 - σ 9 (σ 15 k)) → (i - t + 1).toNat < n → lv_has ls 6 [(4, .int (zI ((σ 4 0) - (σ 9 (σ 15 k))))), (3, .int (zI ((t + (σ 8 (σ 15 k))) - 1))), (0, .ref (g 0 0)), (1, .ref (g 6 k)), (2, .int (zI t)), (5, .int (zI i))] → WW s.heap [] 0 0 (F0 m 43 ls []) := by
      intro n
      induction n with
      | zero => intro i ls hi ha hm; exact absurd hm (Nat.not_lt_zero _)
      | succ n ih =>
        intro i ls hi ha hm hl
        refine wi _ _ _ _ _ ?_
        refine lv_iload hx hb dX4_pastTugs_43 (lv_at hl 5 rfl) ?_
        refine lv_iload_n hx hb dX4_pastTugs_45 rfl (lv_at hl 4 rfl) ?_
        refine z_icmp_lt (tgt := 74) hx hb dX4_pastTugs_46 (by decide) (by omega) (fun c_3 => ?_) (fun c_3 => ?_)
        · refine lv_iload_n hx hb dX4_pastTugs_74 rfl (lv_at hl 4 rfl) ?_
          exact W.iret hx hb hr (z_end (post := fun r => ∃ z, r = .int (zI z) ∧ zStep (zTugOk σ k) t z) ⟨_, rfl, ⟨Or.inl ⟨rfl, fun m h1 h2 => by simp only [zTk] at h2; have := ha m (by omega) (by omega); simp only [zNd]; omega⟩, by omega⟩⟩) (fun _ h => nomatch h) dX4_pastTugs_75
        · have ti := zTgs_r hI k i i
          refine lv_aload_n hx hb dX4_pastTugs_49 rfl (lv_at hl 2 rfl) ?_
          refine lv_aload_n hx hb dX4_pastTugs_50 rfl (lv_at hl 3 rfl) ?_
          refine lv_iload hx hb dX4_pastTugs_51 (lv_at hl 5 rfl) ?_
          refine lv_iload hx hb dX4_pastTugs_53 (lv_at hl 5 rfl) ?_
          refine z_cv (As := [.ref (g 6 k), .int (zI i), .int (zI i)]) (rest := []) ⟨hx, hb, hml, hown, hts⟩ (c_X4_tugsOfOthers l D cI cO cL A eE g σ s.heap hR k i i hI (by omega) (by omega)) (cwV 3 hts gX4_pastTugs_X4_tugsOfOthers rfl rfl rfl (by decide +kernel) ⟨Nat.le_of_ble_eq_true rfl, Nat.le_of_ble_eq_true rfl⟩) (zKK_mv D cI cO cL) (fun U _ hv => va_K.moved hv hK) (z_recv hK hR.x rfl) rfl hl.1 rfl (Nat.le_of_ble_eq_true rfl) dX4_pastTugs_55 ⟨Nat.zero_le _, Nat.zero_le _⟩ (fun r_4 hr_4 => ?_)
          rw [hr_4]
          refine lv_iload hx hb dX4_pastTugs_58 (lv_at hl 0 rfl) ?_
          refine z_icmp_le (tgt := 68) hx hb dX4_pastTugs_60 (by decide) (by omega) (fun c_5 => ?_) (fun c_5 => ?_)
          · refine z_iinc (lv' := [(5, .int (zI (i + (-1)))), (4, .int (zI ((σ 4 0) - (σ 9 (σ 15 k))))), (3, .int (zI ((t + (σ 8 (σ 15 k))) - 1))), (0, .ref (g 0 0)), (1, .ref (g 6 k)), (2, .int (zI t))]) hx hb dX4_pastTugs_68 hl (k := 5) rfl (by decide) rfl (fun ls hl => ?_)
            refine lv_goto (tgt := 43) hx hb dX4_pastTugs_71 (by decide) ?_
            exact wo _ _ _ _ _ (ih (i + (-1)) ls (by omega) (by intro m h1 h2; exact if q : m = i then (by rw [q, ← zTgs_1]; omega) else (ha m (by omega) h2)) (by omega) (lv_sub hl [1, 2, 3, 4, 5, 0] rfl))
          · refine lv_iload hx hb dX4_pastTugs_63 (lv_at hl 5 rfl) ?_
            refine z_iconst hx hb dX4_pastTugs_65 ?_
            refine z_iadd hx hb dX4_pastTugs_66 ?_
            exact W.iret hx hb hr (z_end (post := fun r => ∃ z, r = .int (zI z) ∧ zStep (zTugOk σ k) t z) ⟨_, rfl, ⟨Or.inr ⟨by omega, fun u h1 h2 q => by have q := q i (by omega) (by simp only [zTk]; omega); simp only [zNd] at q; rw [← zTgs_1] at q; omega⟩, by omega⟩⟩) (fun _ h => nomatch h) dX4_pastTugs_67
    exact wo _ _ _ _ _ (hL _ ((t + (σ 8 (σ 15 k))) - 1) ls (by omega) (by intro m h1 h2; omega) (Nat.lt_succ_self _) (lv_sub hl [1, 2, 3, 4, 5, 0] rfl))
  · refine lv_iload_n hx hb dX4_pastTugs_38 rfl (lv_at hl 4 rfl) ?_
    exact W.iret hx hb hr (z_end (post := fun r => ∃ z, r = .int (zI z) ∧ zStep (zTugOk σ k) t z) ⟨_, rfl, ⟨Or.inl ⟨rfl, fun m h1 h2 => by have := zTgs_m hI k (a := t) (b := t + σ 8 (σ 15 k) - 1) (m := m) (by simp only [zTk] at h2; omega); simp only [zNd]; omega⟩, by omega⟩⟩) (fun _ h => nomatch h) dX4_pastTugs_39
