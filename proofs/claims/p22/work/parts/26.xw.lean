/-! the class: its writers that allocate nothing -/
theorem lk_X0_letIn_25 : Cond.fieldLink RX0 25 "HarbourPilotline$Conference" "shipIn" "Z" ∈ wsX0_letIn := by decide +kernel
theorem in_X0_letIn_X0 : ∀ w ∈ wsX00, w ∈ wsX0_letIn := by decide +kernel
set_option maxRecDepth 100000 in
set_option maxHeartbeats 4000000 in
theorem c_X0_letIn_0 (l : Launch) (D : va_G) (cI cO cL : ClassId) (A : Nat → Prop) (eE : Nat) (g : zG) (σ : zT) (H0 : Heap) (hR : RX D cO A eE g σ H0) (k : Int) (hk : 0 ≤ k ∧ k < σ 14 0) : zWX l yX0_letIn wsX0_letIn ({ frames := 0, cells := 0, slots := 0, locals := 0 }) D cI cO cL A eE g [.ref (g 6 k), .int (zI 0), .null] H0 (fun r σ' => r = none ∧ σ' = zup σ 17 k (zSet (σ 17 k) 0)) := by
  refine Met.ofW (cc := cX0_letIn) (maxL := 3) (ret := none) (by decide) rfl ?_
  intro p e s m args below meth c s₁ B hml hv
  obtain ⟨rfl, hH, hK⟩ := hv
  subst hH
  have hx := B.exec
  have hb := B.bytes
  have hr := B.returns
  have hts := atoms_spec (ws := wsX0_letIn) B.pre
  have hown : s.vm.findClass RX0 = some m.cls := findClass_of_methodNamed B.named
  have hlocks := B.notSynchronized
  have hl := lv_entry ([.ref (g 6 k), .int (zI 0), .null]) (n := 3) (Nat.le_of_ble_eq_true rfl)
  rw [lg_entry_eq]
  generalize (lg_sl ([.ref (g 6 k), .int (zI 0), .null]) ++ List.replicate (3 - (lg_sl ([.ref (g 6 k), .int (zI 0), .null])).length) Slot.unset).toArray = ls at hl ⊢
  have hl : lv_has ls 3 [(0, .ref (g 6 k)), (1, .int (zI 0)), (2, .null)] := hl
  refine lv_iload_n hx hb dX0_letIn_0 rfl (lv_at hl 1 rfl) ?_
  refine lv_lookup (off := 27) (tgt := 28) hx hb dX0_letIn_1 (by decide) rfl (by decide) ?_
  refine lv_aload_n hx hb dX0_letIn_28 rfl (lv_at hl 0 rfl) ?_
  refine z_iconst hx hb dX0_letIn_29 ?_
  refine x_put hx hb hts in_X0_letIn_X0 tyX0 tyX0_ok nmX0 hown hK hR va_S.rf 6 k (by decide) (by show 0 ≤ k ∧ k < σ 14 0; omega) rfl rfl 2 (by decide) lk_X0_letIn_25 rfl rfl rfl rfl (Nat.le_of_ble_eq_true rfl) (zup σ 17 k (zSet (σ 17 k) 0)) (zOth.up (t := 6) (n := 17) zOth.rf rfl) (xe_17a zSet_0.1 zSet_0.2) dX0_letIn_30 (fun H_1 locsH_1 hRH_1 hzH_1 hSH_1 => ?_)
  refine lv_goto (tgt := 49) hx hb dX0_letIn_33 (by decide) ?_
  exact W.vret hx hb hr  (z_endX (post := fun r σ' => r = none ∧ σ' = zup σ 17 k (zSet (σ 17 k) 0)) (σ' := (zup σ 17 k (zSet (σ 17 k) 0))) (v := none) ⟨rfl, rfl⟩ hRH_1 (hzH_1.trans rfl) hSH_1) hSH_1.2.2 dX0_letIn_49

theorem lk_X0_letIn_29 : Cond.fieldLink RX0 29 "HarbourPilotline$Conference" "towerIn" "Z" ∈ wsX0_letIn := by decide +kernel
set_option maxRecDepth 100000 in
set_option maxHeartbeats 4000000 in
theorem c_X0_letIn_1 (l : Launch) (D : va_G) (cI cO cL : ClassId) (A : Nat → Prop) (eE : Nat) (g : zG) (σ : zT) (H0 : Heap) (hR : RX D cO A eE g σ H0) (k : Int) (hk : 0 ≤ k ∧ k < σ 14 0) : zWX l yX0_letIn wsX0_letIn ({ frames := 0, cells := 0, slots := 0, locals := 0 }) D cI cO cL A eE g [.ref (g 6 k), .int (zI 1), .null] H0 (fun r σ' => r = none ∧ σ' = zup σ 17 k (zSet (σ 17 k) 1)) := by
  refine Met.ofW (cc := cX0_letIn) (maxL := 3) (ret := none) (by decide) rfl ?_
  intro p e s m args below meth c s₁ B hml hv
  obtain ⟨rfl, hH, hK⟩ := hv
  subst hH
  have hx := B.exec
  have hb := B.bytes
  have hr := B.returns
  have hts := atoms_spec (ws := wsX0_letIn) B.pre
  have hown : s.vm.findClass RX0 = some m.cls := findClass_of_methodNamed B.named
  have hlocks := B.notSynchronized
  have hl := lv_entry ([.ref (g 6 k), .int (zI 1), .null]) (n := 3) (Nat.le_of_ble_eq_true rfl)
  rw [lg_entry_eq]
  generalize (lg_sl ([.ref (g 6 k), .int (zI 1), .null]) ++ List.replicate (3 - (lg_sl ([.ref (g 6 k), .int (zI 1), .null])).length) Slot.unset).toArray = ls at hl ⊢
  have hl : lv_has ls 3 [(0, .ref (g 6 k)), (1, .int (zI 1)), (2, .null)] := hl
  refine lv_iload_n hx hb dX0_letIn_0 rfl (lv_at hl 1 rfl) ?_
  refine lv_lookup (off := 35) (tgt := 36) hx hb dX0_letIn_1 (by decide) rfl (by decide) ?_
  refine lv_aload_n hx hb dX0_letIn_36 rfl (lv_at hl 0 rfl) ?_
  refine z_iconst hx hb dX0_letIn_37 ?_
  refine x_put hx hb hts in_X0_letIn_X0 tyX0 tyX0_ok nmX0 hown hK hR va_S.rf 6 k (by decide) (by show 0 ≤ k ∧ k < σ 14 0; omega) rfl rfl 3 (by decide) lk_X0_letIn_29 rfl rfl rfl rfl (Nat.le_of_ble_eq_true rfl) (zup σ 17 k (zSet (σ 17 k) 1)) (zOth.up (t := 6) (n := 17) zOth.rf rfl) (xe_17b zSet_1.1 zSet_1.2) dX0_letIn_38 (fun H_1 locsH_1 hRH_1 hzH_1 hSH_1 => ?_)
  refine lv_goto (tgt := 49) hx hb dX0_letIn_41 (by decide) ?_
  exact W.vret hx hb hr  (z_endX (post := fun r σ' => r = none ∧ σ' = zup σ 17 k (zSet (σ 17 k) 1)) (σ' := (zup σ 17 k (zSet (σ 17 k) 1))) (v := none) ⟨rfl, rfl⟩ hRH_1 (hzH_1.trans rfl) hSH_1) hSH_1.2.2 dX0_letIn_49

theorem lk_X0_letIn_32 : Cond.fieldLink RX0 32 "HarbourPilotline$Conference" "pilot" "LHarbourPilotline$Pilot;" ∈ wsX0_letIn := by decide +kernel
set_option maxRecDepth 100000 in
set_option maxHeartbeats 4000000 in
theorem c_X0_letIn (l : Launch) (D : va_G) (cI cO cL : ClassId) (A : Nat → Prop) (eE : Nat) (g : zG) (σ : zT) (H0 : Heap) (hR : RX D cO A eE g σ H0) (k q : Int) (hk : 0 ≤ k ∧ k < σ 14 0) (hq : 0 ≤ q ∧ q < σ 11 0) : zWX l yX0_letIn wsX0_letIn ({ frames := 0, cells := 0, slots := 0, locals := 0 }) D cI cO cL A eE g [.ref (g 6 k), .int (zI 2), .ref (g 5 q)] H0 (fun r σ' => r = none ∧ σ' = zup (zup σ 17 k (zSet (σ 17 k) 2)) 18 k q) := by
  refine Met.ofW (cc := cX0_letIn) (maxL := 3) (ret := none) (by decide) rfl ?_
  intro p e s m args below meth c s₁ B hml hv
  obtain ⟨rfl, hH, hK⟩ := hv
  subst hH
  have hx := B.exec
  have hb := B.bytes
  have hr := B.returns
  have hts := atoms_spec (ws := wsX0_letIn) B.pre
  have hown : s.vm.findClass RX0 = some m.cls := findClass_of_methodNamed B.named
  have hlocks := B.notSynchronized
  have hl := lv_entry ([.ref (g 6 k), .int (zI 2), .ref (g 5 q)]) (n := 3) (Nat.le_of_ble_eq_true rfl)
  rw [lg_entry_eq]
  generalize (lg_sl ([.ref (g 6 k), .int (zI 2), .ref (g 5 q)]) ++ List.replicate (3 - (lg_sl ([.ref (g 6 k), .int (zI 2), .ref (g 5 q)])).length) Slot.unset).toArray = ls at hl ⊢
  have hl : lv_has ls 3 [(0, .ref (g 6 k)), (1, .int (zI 2)), (2, .ref (g 5 q))] := hl
  refine lv_iload_n hx hb dX0_letIn_0 rfl (lv_at hl 1 rfl) ?_
  refine lv_lookup (off := 43) (tgt := 44) hx hb dX0_letIn_1 (by decide) rfl (by decide) ?_
  refine lv_aload_n hx hb dX0_letIn_44 rfl (lv_at hl 0 rfl) ?_
  refine lv_aload_n hx hb dX0_letIn_45 rfl (lv_at hl 2 rfl) ?_
  refine x_put hx hb hts in_X0_letIn_X0 tyX0 tyX0_ok nmX0 hown hK hR va_S.rf 6 k (by decide) (by show 0 ≤ k ∧ k < σ 14 0; omega) rfl rfl 4 (by decide) lk_X0_letIn_32 rfl rfl rfl rfl (Nat.le_of_ble_eq_true rfl) (zup (zup σ 17 k (zSet (σ 17 k) 2)) 18 k q) (zOth.up (t := 6) (n := 18) (zOth.up (t := 6) (n := 17) zOth.rf rfl) rfl) (xe_18 zSet_2.1 zSet_2.2 (by rw [if_neg (by omega)]; rfl)) dX0_letIn_46 (fun H_1 locsH_1 hRH_1 hzH_1 hSH_1 => ?_)
  exact W.vret hx hb hr  (z_endX (post := fun r σ' => r = none ∧ σ' = zup (zup σ 17 k (zSet (σ 17 k) 2)) 18 k q) (σ' := (zup (zup σ 17 k (zSet (σ 17 k) 2)) 18 k q)) (v := none) ⟨rfl, rfl⟩ hRH_1 (hzH_1.trans rfl) hSH_1) hSH_1.2.2 dX0_letIn_49

theorem lk_X0_letOut_25 : Cond.fieldLink RX0 25 "HarbourPilotline$Conference" "shipIn" "Z" ∈ wsX0_letOut := by decide +kernel
theorem lk_X0_letOut_9 : Cond.fieldLink RX0 9 "HarbourPilotline$Conference" "state" "I" ∈ wsX0_letOut := by decide +kernel
theorem lk_X0_letOut_15 : Cond.fieldLink RX0 15 "HarbourPilotline$Conference" "slot" "I" ∈ wsX0_letOut := by decide +kernel
theorem lk_X0_letOut_29 : Cond.fieldLink RX0 29 "HarbourPilotline$Conference" "towerIn" "Z" ∈ wsX0_letOut := by decide +kernel
theorem lk_X0_letOut_32 : Cond.fieldLink RX0 32 "HarbourPilotline$Conference" "pilot" "LHarbourPilotline$Pilot;" ∈ wsX0_letOut := by decide +kernel
theorem in_X0_letOut_X0 : ∀ w ∈ wsX00, w ∈ wsX0_letOut := by decide +kernel
set_option maxRecDepth 100000 in
set_option maxHeartbeats 4000000 in
theorem c_X0_letOut (l : Launch) (D : va_G) (cI cO cL : ClassId) (A : Nat → Prop) (eE : Nat) (g : zG) (σ : zT) (H0 : Heap) (hR : RX D cO A eE g σ H0) (k w : Int) (hk : 0 ≤ k ∧ k < σ 14 0) (hw : 0 ≤ w ∧ w ≤ 2) : zWX l yX0_letOut wsX0_letOut ({ frames := 0, cells := 0, slots := 0, locals := 0 }) D cI cO cL A eE g [.ref (g 6 k), .int (zI w)] H0 (fun r σ' => r = none ∧ σ' = zdr σ k w) := by
  refine Met.ofW (cc := cX0_letOut) (maxL := 2) (ret := none) (by decide) rfl ?_
  intro p e s m args below meth c s₁ B hml hv
  obtain ⟨rfl, hH, hK⟩ := hv
  subst hH
  have hx := B.exec
  have hb := B.bytes
  have hr := B.returns
  have hts := atoms_spec (ws := wsX0_letOut) B.pre
  have hown : s.vm.findClass RX0 = some m.cls := findClass_of_methodNamed B.named
  have hlocks := B.notSynchronized
  have hl := lv_entry ([.ref (g 6 k), .int (zI w)]) (n := 2) (Nat.le_of_ble_eq_true rfl)
  rw [lg_entry_eq]
  generalize (lg_sl ([.ref (g 6 k), .int (zI w)]) ++ List.replicate (2 - (lg_sl ([.ref (g 6 k), .int (zI w)])).length) Slot.unset).toArray = ls at hl ⊢
  have hl : lv_has ls 2 [(0, .ref (g 6 k)), (1, .int (zI w))] := hl
  refine lv_iload_n hx hb dX0_letOut_0 rfl (lv_at hl 1 rfl) ?_
  by_cases c_1 : w = 0
  · refine lv_lookup (off := 27) (tgt := 28) hx hb dX0_letOut_1 (by decide) (by rw [zI_val (by omega), c_1]; rfl) (by decide) ?_
    refine lv_aload_n hx hb dX0_letOut_28 rfl (lv_at hl 0 rfl) ?_
    refine z_iconst hx hb dX0_letOut_29 ?_
    refine x_put hx hb hts in_X0_letOut_X0 tyX0 tyX0_ok nmX0 hown hK hR va_S.rf 6 k (by decide) (by show 0 ≤ k ∧ k < σ 14 0; omega) rfl rfl 2 (by decide) lk_X0_letOut_25 rfl rfl rfl rfl (Nat.le_of_ble_eq_true rfl) (zup σ 17 k (zClr (σ 17 k) 0)) (zOth.up (t := 6) (n := 17) zOth.rf rfl) (xe_17a zClr_0.1 zClr_0.2) dX0_letOut_30 (fun H_2 locsH_2 hRH_2 hzH_2 hSH_2 => ?_)
    refine lv_goto (tgt := 49) hx hb dX0_letOut_33 (by decide) ?_
    refine lv_aload_n hx hb dX0_letOut_49 rfl (lv_at hl 0 rfl) ?_
    refine z_iconst hx hb dX0_letOut_50 ?_
    refine x_put hx hb hts in_X0_letOut_X0 tyX0 tyX0_ok nmX0 hown hK hRH_2 hSH_2 6 k (by decide) (by show 0 ≤ k ∧ k < σ 14 0; omega) rfl rfl 5 (by decide) lk_X0_letOut_9 rfl rfl rfl rfl (Nat.le_of_ble_eq_true rfl) (zup (zup σ 17 k (zClr (σ 17 k) 0)) 19 k 0) (zOth.up (t := 6) (n := 19) zOth.rf rfl) xe_19 dX0_letOut_51 (fun H_3 locsH_3 hRH_3 hzH_3 hSH_3 => ?_)
    refine lv_aload_n hx hb dX0_letOut_54 rfl (lv_at hl 0 rfl) ?_
    refine z_iconst hx hb dX0_letOut_55 ?_
    refine x_put hx hb hts in_X0_letOut_X0 tyX0 tyX0_ok nmX0 hown hK hRH_3 hSH_3 6 k (by decide) (by show 0 ≤ k ∧ k < σ 14 0; omega) rfl rfl 6 (by decide) lk_X0_letOut_15 rfl rfl rfl rfl (Nat.le_of_ble_eq_true rfl) (zup (zup (zup σ 17 k (zClr (σ 17 k) 0)) 19 k 0) 20 k (-1)) (zOth.up (t := 6) (n := 20) zOth.rf rfl) xe_20 dX0_letOut_56 (fun H_4 locsH_4 hRH_4 hzH_4 hSH_4 => ?_)
    exact W.vret hx hb hr  (z_endX (post := fun r σ' => r = none ∧ σ' = zdr σ k w) (σ' := (zdr σ k w)) (v := none) ⟨rfl, rfl⟩ (hRH_4.eqT (fun a b => by rw [c_1]; exact zdr_w (by omega) a b)) (hzH_4.trans (hzH_3.trans (hzH_2.trans rfl))) hSH_4) hSH_4.2.2 dX0_letOut_59
  by_cases c_5 : w = 1
  · refine lv_lookup (off := 35) (tgt := 36) hx hb dX0_letOut_1 (by decide) (by rw [zI_val (by omega), c_5]; rfl) (by decide) ?_
    refine lv_aload_n hx hb dX0_letOut_36 rfl (lv_at hl 0 rfl) ?_
    refine z_iconst hx hb dX0_letOut_37 ?_
    refine x_put hx hb hts in_X0_letOut_X0 tyX0 tyX0_ok nmX0 hown hK hR va_S.rf 6 k (by decide) (by show 0 ≤ k ∧ k < σ 14 0; omega) rfl rfl 3 (by decide) lk_X0_letOut_29 rfl rfl rfl rfl (Nat.le_of_ble_eq_true rfl) (zup σ 17 k (zClr (σ 17 k) 1)) (zOth.up (t := 6) (n := 17) zOth.rf rfl) (xe_17b zClr_1.1 zClr_1.2) dX0_letOut_38 (fun H_6 locsH_6 hRH_6 hzH_6 hSH_6 => ?_)
    refine lv_goto (tgt := 49) hx hb dX0_letOut_41 (by decide) ?_
    refine lv_aload_n hx hb dX0_letOut_49 rfl (lv_at hl 0 rfl) ?_
    refine z_iconst hx hb dX0_letOut_50 ?_
    refine x_put hx hb hts in_X0_letOut_X0 tyX0 tyX0_ok nmX0 hown hK hRH_6 hSH_6 6 k (by decide) (by show 0 ≤ k ∧ k < σ 14 0; omega) rfl rfl 5 (by decide) lk_X0_letOut_9 rfl rfl rfl rfl (Nat.le_of_ble_eq_true rfl) (zup (zup σ 17 k (zClr (σ 17 k) 1)) 19 k 0) (zOth.up (t := 6) (n := 19) zOth.rf rfl) xe_19 dX0_letOut_51 (fun H_7 locsH_7 hRH_7 hzH_7 hSH_7 => ?_)
    refine lv_aload_n hx hb dX0_letOut_54 rfl (lv_at hl 0 rfl) ?_
    refine z_iconst hx hb dX0_letOut_55 ?_
    refine x_put hx hb hts in_X0_letOut_X0 tyX0 tyX0_ok nmX0 hown hK hRH_7 hSH_7 6 k (by decide) (by show 0 ≤ k ∧ k < σ 14 0; omega) rfl rfl 6 (by decide) lk_X0_letOut_15 rfl rfl rfl rfl (Nat.le_of_ble_eq_true rfl) (zup (zup (zup σ 17 k (zClr (σ 17 k) 1)) 19 k 0) 20 k (-1)) (zOth.up (t := 6) (n := 20) zOth.rf rfl) xe_20 dX0_letOut_56 (fun H_8 locsH_8 hRH_8 hzH_8 hSH_8 => ?_)
    exact W.vret hx hb hr  (z_endX (post := fun r σ' => r = none ∧ σ' = zdr σ k w) (σ' := (zdr σ k w)) (v := none) ⟨rfl, rfl⟩ (hRH_8.eqT (fun a b => by rw [c_5]; exact zdr_w (by omega) a b)) (hzH_8.trans (hzH_7.trans (hzH_6.trans rfl))) hSH_8) hSH_8.2.2 dX0_letOut_59
  have c_9 : w = 2 := by omega
  refine lv_lookup (off := 43) (tgt := 44) hx hb dX0_letOut_1 (by decide) (by rw [zI_val (by omega), c_9]; rfl) (by decide) ?_
  refine lv_aload_n hx hb dX0_letOut_44 rfl (lv_at hl 0 rfl) ?_
  refine lv_null hx hb dX0_letOut_45 ?_
  refine x_put hx hb hts in_X0_letOut_X0 tyX0 tyX0_ok nmX0 hown hK hR va_S.rf 6 k (by decide) (by show 0 ≤ k ∧ k < σ 14 0; omega) rfl rfl 4 (by decide) lk_X0_letOut_32 rfl rfl rfl rfl (Nat.le_of_ble_eq_true rfl) (zup (zup σ 17 k (zClr (σ 17 k) 2)) 18 k (-1)) (zOth.up (t := 6) (n := 18) (zOth.up (t := 6) (n := 17) zOth.rf rfl) rfl) (xe_18 zClr_2.1 zClr_2.2 rfl) dX0_letOut_46 (fun H_10 locsH_10 hRH_10 hzH_10 hSH_10 => ?_)
  refine lv_aload_n hx hb dX0_letOut_49 rfl (lv_at hl 0 rfl) ?_
  refine z_iconst hx hb dX0_letOut_50 ?_
  refine x_put hx hb hts in_X0_letOut_X0 tyX0 tyX0_ok nmX0 hown hK hRH_10 hSH_10 6 k (by decide) (by show 0 ≤ k ∧ k < σ 14 0; omega) rfl rfl 5 (by decide) lk_X0_letOut_9 rfl rfl rfl rfl (Nat.le_of_ble_eq_true rfl) (zup (zup (zup σ 17 k (zClr (σ 17 k) 2)) 18 k (-1)) 19 k 0) (zOth.up (t := 6) (n := 19) zOth.rf rfl) xe_19 dX0_letOut_51 (fun H_11 locsH_11 hRH_11 hzH_11 hSH_11 => ?_)
  refine lv_aload_n hx hb dX0_letOut_54 rfl (lv_at hl 0 rfl) ?_
  refine z_iconst hx hb dX0_letOut_55 ?_
  refine x_put hx hb hts in_X0_letOut_X0 tyX0 tyX0_ok nmX0 hown hK hRH_11 hSH_11 6 k (by decide) (by show 0 ≤ k ∧ k < σ 14 0; omega) rfl rfl 6 (by decide) lk_X0_letOut_15 rfl rfl rfl rfl (Nat.le_of_ble_eq_true rfl) (zup (zup (zup (zup σ 17 k (zClr (σ 17 k) 2)) 18 k (-1)) 19 k 0) 20 k (-1)) (zOth.up (t := 6) (n := 20) zOth.rf rfl) xe_20 dX0_letOut_56 (fun H_12 locsH_12 hRH_12 hzH_12 hSH_12 => ?_)
  exact W.vret hx hb hr  (z_endX (post := fun r σ' => r = none ∧ σ' = zdr σ k w) (σ' := (zdr σ k w)) (v := none) ⟨rfl, rfl⟩ (hRH_12.eqT (fun a b => by rw [c_9]; exact zdr_2 a b)) (hzH_12.trans (hzH_11.trans (hzH_10.trans rfl))) hSH_12) hSH_12.2.2 dX0_letOut_59

theorem lk_X4_lookForSlot_122 : Cond.fieldLink RX4 122 "HarbourPilotline$Conference" "slot" "I" ∈ wsX4_lookForSlot := by decide +kernel
theorem lk_X4_lookForSlot_68 : Cond.fieldLink RX4 68 "HarbourPilotline" "now" "I" ∈ wsX4_lookForSlot := by decide +kernel
theorem lk_X4_lookForSlot_125 : Cond.fieldLink RX4 125 "HarbourPilotline$Conference" "state" "I" ∈ wsX4_lookForSlot := by decide +kernel
theorem in_X4_lookForSlot_X0 : ∀ w ∈ wsX00, w ∈ wsX4_lookForSlot := by decide +kernel
theorem in_X4_lookForSlot_X4 : ∀ w ∈ wsX40, w ∈ wsX4_lookForSlot := by decide +kernel
set_option maxRecDepth 100000 in
set_option maxHeartbeats 4000000 in
theorem c_X4_lookForSlot (l : Launch) (D : va_G) (cI cO cL : ClassId) (A : Nat → Prop) (eE : Nat) (g : zG) (σ : zT) (H0 : Heap) (hR : RX D cO A eE g σ H0) (k : Int) (hI : zInv σ) (hk : 0 ≤ k ∧ k < σ 14 0) : zWX l yX4_lookForSlot wsX4_lookForSlot ({ frames := 6, cells := 0, slots := 0, locals := 140 }) D cI cO cL A eE g [.ref (g 0 0), .ref (g 6 k)] H0 (fun r σ' => r = none ∧ σ' = zLook σ k) := by
  refine Met.ofW (cc := cX4_lookForSlot) (maxL := 2) (ret := none) (by decide) rfl ?_
  intro p e s m args below meth c s₁ B hml hv
  obtain ⟨rfl, hH, hK⟩ := hv
  subst hH
  have hx := B.exec
  have hb := B.bytes
  have hr := B.returns
  have hts := atoms_spec (ws := wsX4_lookForSlot) B.pre
  have hown : s.vm.findClass RX4 = some m.cls := findClass_of_methodNamed B.named
  have hlocks := B.notSynchronized
  have hl := lv_entry ([.ref (g 0 0), .ref (g 6 k)]) (n := 2) (Nat.le_of_ble_eq_true rfl)
  rw [lg_entry_eq]
  generalize (lg_sl ([.ref (g 0 0), .ref (g 6 k)]) ++ List.replicate (2 - (lg_sl ([.ref (g 0 0), .ref (g 6 k)])).length) Slot.unset).toArray = ls at hl ⊢
  have hl : lv_has ls 2 [(0, .ref (g 0 0)), (1, .ref (g 6 k))] := hl
  have f0 := hI.r
  have fk := hI.c hk
  have gk := hI.s (i := σ 15 k) (by omega)
  have rk := zRest_r (σ 8 (σ 15 k))
  have zf := zFind_r hI hk
  refine lv_aload_n hx hb dX4_lookForSlot_0 rfl (lv_at hl 1 rfl) ?_
  refine lv_aload_n hx hb dX4_lookForSlot_1 rfl (lv_at hl 0 rfl) ?_
  refine lv_aload_n hx hb dX4_lookForSlot_2 rfl (lv_at hl 1 rfl) ?_
  refine z_cv (As := [.ref (g 6 k)]) (rest := [.ref (g 6 k)]) ⟨hx, hb, hml, hown, hts⟩ (c_X4_earliestSlot l D cI cO cL A eE g σ s.heap hR k hI (by omega)) (cwV 1 hts gX4_lookForSlot_X4_earliestSlot rfl rfl rfl (by decide +kernel) ⟨Nat.le_of_ble_eq_true rfl, Nat.le_of_ble_eq_true rfl⟩) (zKK_mv D cI cO cL) (fun U _ hv => va_K.moved hv hK) (z_recv hK hR.x rfl) rfl hl.1 rfl (Nat.le_of_ble_eq_true rfl) dX4_lookForSlot_3 ⟨Nat.zero_le _, Nat.zero_le _⟩ (fun r_1 hr_1 => ?_)
  rw [hr_1]
  refine x_put hx hb hts in_X4_lookForSlot_X0 tyX0 tyX0_ok nmX0 hown hK hR va_S.rf 6 k (by decide) (by show 0 ≤ k ∧ k < σ 14 0; omega) rfl rfl 6 (by decide) lk_X4_lookForSlot_122 rfl rfl rfl rfl (Nat.le_of_ble_eq_true rfl) (zup σ 20 k (zFind σ k)) (zOth.up (t := 6) (n := 20) zOth.rf rfl) xe_20 dX4_lookForSlot_6 (fun H_2 locsH_2 hRH_2 hzH_2 hSH_2 => ?_)
  refine lv_aload_n hx hb dX4_lookForSlot_9 rfl (lv_at hl 1 rfl) ?_
  refine z_get hx hb hts in_X4_lookForSlot_X0 hown hK (hRH_2.c (i := k) (by show 0 ≤ k ∧ k < σ 14 0; omega)) rfl 6 (by decide) lk_X4_lookForSlot_122 rfl rfl dX4_lookForSlot_10 ?_
  refine z_top (b := (zFind σ k)) (by rw [zup_s]) ?_
  refine z_iconst hx hb dX4_lookForSlot_13 ?_
  refine z_icmp_ne (tgt := 25) hx hb dX4_lookForSlot_14 (by decide) (by omega) (fun c_3 => ?_) (fun c_3 => ?_)
  · refine lv_aload_n hx hb dX4_lookForSlot_25 rfl (lv_at hl 1 rfl) ?_
    refine lv_aload_n hx hb dX4_lookForSlot_26 rfl (lv_at hl 1 rfl) ?_
    refine z_get hx hb hts in_X4_lookForSlot_X0 hown hK (hRH_2.c (i := k) (by show 0 ≤ k ∧ k < σ 14 0; omega)) rfl 6 (by decide) lk_X4_lookForSlot_122 rfl rfl dX4_lookForSlot_27 ?_
    refine z_top (b := (zFind σ k)) (by rw [zup_s]) ?_
    refine lv_aload_n hx hb dX4_lookForSlot_30 rfl (lv_at hl 0 rfl) ?_
    refine z_get hx hb hts in_X4_lookForSlot_X4 hown hK hRH_2.x rfl 5 (by decide) lk_X4_lookForSlot_68 rfl rfl dX4_lookForSlot_31 ?_
    refine z_top (b := σ 1 0) (by rw [zup_t (t := 20) (t' := 1) (by decide)]) ?_
    refine z_icmp_ne (tgt := 41) hx hb dX4_lookForSlot_34 (by decide) (by omega) (fun c_4 => ?_) (fun c_4 => ?_)
    · refine z_iconst hx hb dX4_lookForSlot_41 ?_
      refine x_put hx hb hts in_X4_lookForSlot_X0 tyX0 tyX0_ok nmX0 hown hK hRH_2 hSH_2 6 k (by decide) (by show 0 ≤ k ∧ k < σ 14 0; omega) rfl rfl 5 (by decide) lk_X4_lookForSlot_125 rfl rfl rfl rfl (Nat.le_of_ble_eq_true rfl) (zup (zup σ 20 k (zFind σ k)) 19 k 2) (zOth.up (t := 6) (n := 19) zOth.rf rfl) xe_19 dX4_lookForSlot_42 (fun H_5 locsH_5 hRH_5 hzH_5 hSH_5 => ?_)
      exact W.vret hx hb hr  (z_endX (post := fun r σ' => r = none ∧ σ' = zLook σ k) (σ' := (zLook σ k)) (v := none) ⟨rfl, rfl⟩ (hRH_5.eqT (fun a b => by unfold zLook; first | rw [if_pos (by omega)] | rw [if_neg (by omega), if_pos (by omega)] | rw [if_neg (by omega), if_neg (by omega)])) (hzH_5.trans (hzH_2.trans rfl)) hSH_5) hSH_5.2.2 dX4_lookForSlot_45
    · refine z_iconst hx hb dX4_lookForSlot_37 ?_
      refine lv_goto (tgt := 42) hx hb dX4_lookForSlot_38 (by decide) ?_
      refine x_put hx hb hts in_X4_lookForSlot_X0 tyX0 tyX0_ok nmX0 hown hK hRH_2 hSH_2 6 k (by decide) (by show 0 ≤ k ∧ k < σ 14 0; omega) rfl rfl 5 (by decide) lk_X4_lookForSlot_125 rfl rfl rfl rfl (Nat.le_of_ble_eq_true rfl) (zup (zup σ 20 k (zFind σ k)) 19 k 3) (zOth.up (t := 6) (n := 19) zOth.rf rfl) xe_19 dX4_lookForSlot_42 (fun H_6 locsH_6 hRH_6 hzH_6 hSH_6 => ?_)
      exact W.vret hx hb hr  (z_endX (post := fun r σ' => r = none ∧ σ' = zLook σ k) (σ' := (zLook σ k)) (v := none) ⟨rfl, rfl⟩ (hRH_6.eqT (fun a b => by unfold zLook; first | rw [if_pos (by omega)] | rw [if_neg (by omega), if_pos (by omega)] | rw [if_neg (by omega), if_neg (by omega)])) (hzH_6.trans (hzH_2.trans rfl)) hSH_6) hSH_6.2.2 dX4_lookForSlot_45
  · refine lv_aload_n hx hb dX4_lookForSlot_17 rfl (lv_at hl 1 rfl) ?_
    refine z_iconst hx hb dX4_lookForSlot_18 ?_
    refine x_put hx hb hts in_X4_lookForSlot_X0 tyX0 tyX0_ok nmX0 hown hK hRH_2 hSH_2 6 k (by decide) (by show 0 ≤ k ∧ k < σ 14 0; omega) rfl rfl 5 (by decide) lk_X4_lookForSlot_125 rfl rfl rfl rfl (Nat.le_of_ble_eq_true rfl) (zup (zup σ 20 k (zFind σ k)) 19 k 1) (zOth.up (t := 6) (n := 19) zOth.rf rfl) xe_19 dX4_lookForSlot_19 (fun H_7 locsH_7 hRH_7 hzH_7 hSH_7 => ?_)
    refine lv_goto (tgt := 45) hx hb dX4_lookForSlot_22 (by decide) ?_
    exact W.vret hx hb hr  (z_endX (post := fun r σ' => r = none ∧ σ' = zLook σ k) (σ' := (zLook σ k)) (v := none) ⟨rfl, rfl⟩ (hRH_7.eqT (fun a b => by unfold zLook; first | rw [if_pos (by omega)] | rw [if_neg (by omega), if_pos (by omega)] | rw [if_neg (by omega), if_neg (by omega)])) (hzH_7.trans (hzH_2.trans rfl)) hSH_7) hSH_7.2.2 dX4_lookForSlot_45

theorem lk_X4_lookAnew_26 : Cond.fieldLink RX4 26 "HarbourPilotline" "conferences" "Ljava/util/ArrayList;" ∈ wsX4_lookAnew := by decide +kernel
theorem ck_X4_lookAnew_71 : Cond.classLink RX4 71 "HarbourPilotline$Conference" ∈ wsX4_lookAnew := by decide +kernel
theorem lk_X4_lookAnew_125 : Cond.fieldLink RX4 125 "HarbourPilotline$Conference" "state" "I" ∈ wsX4_lookAnew := by decide +kernel
theorem lk_X4_lookAnew_122 : Cond.fieldLink RX4 122 "HarbourPilotline$Conference" "slot" "I" ∈ wsX4_lookAnew := by decide +kernel
theorem in_X4_lookAnew_X0 : ∀ w ∈ wsX00, w ∈ wsX4_lookAnew := by decide +kernel
theorem in_X4_lookAnew_X4 : ∀ w ∈ wsX40, w ∈ wsX4_lookAnew := by decide +kernel
set_option maxRecDepth 100000 in
set_option maxHeartbeats 4000000 in
theorem c_X4_lookAnew (l : Launch) (D : va_G) (cI cO cL : ClassId) (A : Nat → Prop) (eE : Nat) (g : zG) (σ : zT) (H0 : Heap) (hR : RX D cO A eE g σ H0)  (hI : zInv σ) : zWX l yX4_lookAnew wsX4_lookAnew ({ frames := 7, cells := 0, slots := 0, locals := 161 }) D cI cO cL A eE g [.ref (g 0 0)] H0 (fun r σ' => r = some (.int (zI (zDrops σ (σ 14 0).toNat).2)) ∧ σ' = (zDrops σ (σ 14 0).toNat).1) := by
  refine Met.ofW (cc := cX4_lookAnew) (maxL := 5) (ret := (some .int)) (by decide) rfl ?_
  intro p e s m args below meth c s₁ B hml hv
  obtain ⟨rfl, hH, hK⟩ := hv
  subst hH
  have hx := B.exec
  have hb := B.bytes
  have hr := B.returns
  have hts := atoms_spec (ws := wsX4_lookAnew) B.pre
  have hown : s.vm.findClass RX4 = some m.cls := findClass_of_methodNamed B.named
  have hlocks := B.notSynchronized
  have hl := lv_entry ([.ref (g 0 0)]) (n := 5) (Nat.le_of_ble_eq_true rfl)
  rw [lg_entry_eq]
  generalize (lg_sl ([.ref (g 0 0)]) ++ List.replicate (5 - (lg_sl ([.ref (g 0 0)])).length) Slot.unset).toArray = ls at hl ⊢
  have hl : lv_has ls 5 [(0, .ref (g 0 0))] := hl
  have f0 := hI.r
  refine z_iconst hx hb dX4_lookAnew_0 ?_
  refine lv_istore_n (lv' := [(1, .int (zI 0)), (0, .ref (g 0 0))]) hx hb dX4_lookAnew_1 rfl hl (by decide) rfl (fun ls hl => ?_)
  refine z_iconst hx hb dX4_lookAnew_2 ?_
  refine lv_istore_n (lv' := [(2, .int (zI 0)), (1, .int (zI 0)), (0, .ref (g 0 0))]) hx hb dX4_lookAnew_3 rfl hl (by decide) rfl (fun ls hl => ?_)
  refine z_cap (fun WW wi wo => ?_)
  have hL : ∀ (n : Nat) (v i : Int) (ls : Array Slot) (HL : Heap) (locsL : List Loc), v = (zDrops σ i.toNat).2 → 0 ≤ i ∧ i ≤ σ 14 0 → RX D cO A eE g (zDrops σ i.toNat).1 HL → HL.size = s.heap.size → va_S A s.heap HL locsL → (σ 14 0 - i).toNat < n → lv_has ls 5 [(0, .ref (g 0 0)), (1, .int (zI v)), (2, .int (zI i))] → WW HL locsL 0 0 (F0 m 4 ls []) := by
    intro n
    induction n with
    | zero => intro v i ls HL locsL hv hi hRL hzL hSL hm; exact absurd hm (Nat.not_lt_zero _)
    | succ n ih =>
      intro v i ls HL locsL hv hi hRL hzL hSL hm hl
      refine wi _ _ _ _ _ ?_
      have hT : zInv (zDrops σ i.toNat).1 := zInv_drops hI _ (by omega)
      have t14 : (zDrops σ i.toNat).1 14 0 = σ 14 0 := zDrops_o (by decide) (by decide) _
      have t5 : (zDrops σ i.toNat).1 5 0 = σ 5 0 := zDrops_o (by decide) (by decide) _
      have t11 : (zDrops σ i.toNat).1 11 0 = σ 11 0 := zDrops_o (by decide) (by decide) _
      refine lv_iload_n hx hb dX4_lookAnew_4 rfl (lv_at hl 2 rfl) ?_
      refine lv_aload_n hx hb dX4_lookAnew_5 rfl (lv_at hl 0 rfl) ?_
      refine z_get hx hb hts in_X4_lookAnew_X4 hown hK hRL.x rfl 3 (by decide) lk_X4_lookAnew_26 rfl rfl dX4_lookAnew_6 ?_
      refine z_cv (As := []) (rest := [.int (zI i)]) ⟨hx, hb, hml, hown, hts⟩ (c_size l cI cL hRL (i := 2) (by decide)) (cwV 0 hts gX4_lookAnew_Jx4a65c_size_8abf5 rfl rfl rfl (by decide +kernel) ⟨Nat.le_of_ble_eq_true rfl, Nat.le_of_ble_eq_true rfl⟩) (zKK_mv D cI cO cL) (fun U _ hv => va_K.moved hv hK) (z_recv hK (hRL.l (i := 2) (by decide)) rfl) rfl hl.1 rfl (Nat.le_of_ble_eq_true rfl) dX4_lookAnew_9 ⟨Nat.zero_le _, Nat.zero_le _⟩ (fun r_1 hr_1 => ?_)
      rw [hr_1]
      refine z_top (b := (zDrops σ i.toNat).1 14 0) rfl ?_
      refine z_icmp_ge (tgt := 72) hx hb dX4_lookAnew_12 (by decide) (by omega) (fun c_2 => ?_) (fun c_2 => ?_)
      · refine lv_iload_n hx hb dX4_lookAnew_72 rfl (lv_at hl 1 rfl) ?_
        exact W.iret hx hb hr  (z_endX (post := fun r σ' => r = some (.int (zI (zDrops σ (σ 14 0).toNat).2)) ∧ σ' = (zDrops σ (σ 14 0).toNat).1) (σ' := (zDrops σ (σ 14 0).toNat).1) (v := (some (.int (zI v)))) ⟨by rw [hv, show i = σ 14 0 by omega], rfl⟩ (by have hRq := hRL; rw [show i = σ 14 0 by omega] at hRq; exact hRq) hzL hSL) hSL.2.2 dX4_lookAnew_73
      · have fi := hT.c (i := i) (by omega)
        have zl := zInv_look hT (k := i) (by omega)
        have fl := zl.c (i := i) (by rw [zLook_o (by decide) (by decide)]; omega)
        refine lv_aload_n hx hb dX4_lookAnew_15 rfl (lv_at hl 0 rfl) ?_
        refine z_get hx hb hts in_X4_lookAnew_X4 hown hK hRL.x rfl 3 (by decide) lk_X4_lookAnew_26 rfl rfl dX4_lookAnew_16 ?_
        refine lv_iload_n hx hb dX4_lookAnew_19 rfl (lv_at hl 2 rfl) ?_
        refine z_cv (As := [.int (zI i)]) (rest := []) ⟨hx, hb, hml, hown, hts⟩ (c_get l cI cL hRL (i := 2) (k := i) (by decide) (show 0 ≤ i ∧ i < (zDrops σ i.toNat).1 14 0 by omega)) (cwV 1 hts gX4_lookAnew_Jx4a65c_get_915e3 rfl rfl rfl (by decide +kernel) ⟨Nat.le_of_ble_eq_true rfl, Nat.le_of_ble_eq_true rfl⟩) (zKK_mv D cI cO cL) (fun U _ hv => va_K.moved hv hK) (z_recv hK (hRL.l (i := 2) (by decide)) rfl) rfl hl.1 rfl (Nat.le_of_ble_eq_true rfl) dX4_lookAnew_20 ⟨Nat.zero_le _, Nat.zero_le _⟩ (fun r_3 hr_3 => ?_)
        rw [hr_3]
        refine z_tov (w := .ref (g 6 i)) rfl ?_
        refine va_castE (nm := "HarbourPilotline$Conference") hx hb hown (hts _ ck_X4_lookAnew_71) (z_recv hK (hRL.c (i := i) (by show 0 ≤ i ∧ i < (zDrops σ i.toNat).1 14 0; omega)) rfl) dX4_lookAnew_23 ?_
        refine lv_astore_n (lv' := [(3, .ref (g 6 i)), (0, .ref (g 0 0)), (1, .int (zI v)), (2, .int (zI i))]) hx hb dX4_lookAnew_26 rfl hl (by decide) rfl (fun ls hl => ?_)
        refine lv_aload_n hx hb dX4_lookAnew_27 rfl (lv_at hl 0 rfl) ?_
        refine z_get hx hb hts in_X4_lookAnew_X0 hown hK (hRL.c (i := i) (by show 0 ≤ i ∧ i < (zDrops σ i.toNat).1 14 0; omega)) rfl 5 (by decide) lk_X4_lookAnew_125 rfl rfl dX4_lookAnew_28 ?_
        refine z_iconst hx hb dX4_lookAnew_31 ?_
        refine z_icmp_eq (tgt := 43) hx hb dX4_lookAnew_32 (by decide) (by omega) (fun c_4 => ?_) (fun c_4 => ?_)
        · refine lv_aload_n hx hb dX4_lookAnew_43 rfl (lv_at hl 0 rfl) ?_
          refine z_get hx hb hts in_X4_lookAnew_X0 hown hK (hRL.c (i := i) (by show 0 ≤ i ∧ i < (zDrops σ i.toNat).1 14 0; omega)) rfl 6 (by decide) lk_X4_lookAnew_122 rfl rfl dX4_lookAnew_44 ?_
          refine lv_istore (lv' := [(4, .int (zI ((zDrops σ i.toNat).1 20 i))), (3, .ref (g 6 i)), (0, .ref (g 0 0)), (1, .int (zI v)), (2, .int (zI i))]) hx hb dX4_lookAnew_47 hl (by decide) rfl (fun ls hl => ?_)
          refine lv_aload_n hx hb dX4_lookAnew_49 rfl (lv_at hl 2 rfl) ?_
          refine lv_aload_n hx hb dX4_lookAnew_50 rfl (lv_at hl 1 rfl) ?_
          refine z_wx (As := [.ref (g 6 i)]) (rest := []) ⟨hx, hb, hml, hown, hts⟩ (c_X4_lookForSlot l D cI cO cL A eE g (zDrops σ i.toNat).1 HL hRL i hT (by omega)) (cwV 1 hts gX4_lookAnew_X4_lookForSlot rfl rfl rfl (by decide +kernel) ⟨Nat.le_of_ble_eq_true rfl, Nat.le_of_ble_eq_true rfl⟩) hK hSL (z_recv hK hRL.x rfl) rfl hl.1 rfl (Nat.le_of_ble_eq_true rfl) dX4_lookAnew_51 ⟨Nat.zero_le _, Nat.zero_le _⟩ (fun rH_5 σH_5 H_5 locsH_5 hpH_5 hRH_5 hzH_5 hSH_5 => ?_)
          obtain ⟨eH_5, qH_5⟩ := hpH_5
          rw [eH_5]
          rw [qH_5] at hRH_5
          refine lv_aload_n hx hb dX4_lookAnew_54 rfl (lv_at hl 1 rfl) ?_
          refine z_get hx hb hts in_X4_lookAnew_X0 hown hK (hRH_5.c (i := i) (by show 0 ≤ i ∧ i < (zDrops σ i.toNat).1 14 0; omega)) rfl 6 (by decide) lk_X4_lookAnew_122 rfl rfl dX4_lookAnew_55 ?_
          refine lv_iload hx hb dX4_lookAnew_58 (lv_at hl 0 rfl) ?_
          refine z_icmp_eq (tgt := 66) hx hb dX4_lookAnew_60 (by decide) (by omega) (fun c_6 => ?_) (fun c_6 => ?_)
          · refine z_iinc (lv' := [(2, .int (zI (i + 1))), (4, .int (zI ((zDrops σ i.toNat).1 20 i))), (3, .ref (g 6 i)), (0, .ref (g 0 0)), (1, .int (zI v))]) hx hb dX4_lookAnew_66 hl (k := 4) rfl (by decide) rfl (fun ls hl => ?_)
            refine lv_goto (tgt := 4) hx hb dX4_lookAnew_69 (by decide) ?_
            exact wo _ _ _ _ _ (ih v (i + 1) ls _ _ (by rw [zDrops_i _ hi.1, if_pos (by omega)]; show _ = _ + _; rw [if_pos (by omega)]; omega) (by omega) (by rw [zDrops_i _ hi.1, if_pos (by omega)]; exact hRH_5) (hzH_5.trans hzL) hSH_5 (by omega) (lv_sub hl [3, 4, 0] rfl))
          · refine z_iinc (lv' := [(1, .int (zI (v + 1))), (4, .int (zI ((zDrops σ i.toNat).1 20 i))), (3, .ref (g 6 i)), (0, .ref (g 0 0)), (2, .int (zI i))]) hx hb dX4_lookAnew_63 hl (k := 3) rfl (by decide) rfl (fun ls hl => ?_)
            refine z_iinc (lv' := [(2, .int (zI (i + 1))), (1, .int (zI (v + 1))), (4, .int (zI ((zDrops σ i.toNat).1 20 i))), (3, .ref (g 6 i)), (0, .ref (g 0 0))]) hx hb dX4_lookAnew_66 hl (k := 4) rfl (by decide) rfl (fun ls hl => ?_)
            refine lv_goto (tgt := 4) hx hb dX4_lookAnew_69 (by decide) ?_
            exact wo _ _ _ _ _ (ih (v + 1) (i + 1) ls _ _ (by rw [zDrops_i _ hi.1, if_pos (by omega)]; show _ = _ + _; rw [if_neg (by omega)]; omega) (by omega) (by rw [zDrops_i _ hi.1, if_pos (by omega)]; exact hRH_5) (hzH_5.trans hzL) hSH_5 (by omega) (lv_sub hl [4, 1, 0] rfl))
        · refine lv_aload_n hx hb dX4_lookAnew_35 rfl (lv_at hl 0 rfl) ?_
          refine z_get hx hb hts in_X4_lookAnew_X0 hown hK (hRL.c (i := i) (by show 0 ≤ i ∧ i < (zDrops σ i.toNat).1 14 0; omega)) rfl 5 (by decide) lk_X4_lookAnew_125 rfl rfl dX4_lookAnew_36 ?_
          refine z_iconst hx hb dX4_lookAnew_39 ?_
          refine z_icmp_ne (tgt := 66) hx hb dX4_lookAnew_40 (by decide) (by omega) (fun c_7 => ?_) (fun c_7 => ?_)
          · refine z_iinc (lv' := [(2, .int (zI (i + 1))), (3, .ref (g 6 i)), (0, .ref (g 0 0)), (1, .int (zI v))]) hx hb dX4_lookAnew_66 hl (k := 3) rfl (by decide) rfl (fun ls hl => ?_)
            refine lv_goto (tgt := 4) hx hb dX4_lookAnew_69 (by decide) ?_
            exact wo _ _ _ _ _ (ih v (i + 1) ls _ _ (by rw [zDrops_i _ hi.1, if_neg (by omega)]; exact hv) (by omega) (by rw [zDrops_i _ hi.1, if_neg (by omega)]; exact hRL) hzL hSL (by omega) (lv_sub hl [2, 3, 0] rfl))
          · refine lv_aload_n hx hb dX4_lookAnew_43 rfl (lv_at hl 0 rfl) ?_
            refine z_get hx hb hts in_X4_lookAnew_X0 hown hK (hRL.c (i := i) (by show 0 ≤ i ∧ i < (zDrops σ i.toNat).1 14 0; omega)) rfl 6 (by decide) lk_X4_lookAnew_122 rfl rfl dX4_lookAnew_44 ?_
            refine lv_istore (lv' := [(4, .int (zI ((zDrops σ i.toNat).1 20 i))), (3, .ref (g 6 i)), (0, .ref (g 0 0)), (1, .int (zI v)), (2, .int (zI i))]) hx hb dX4_lookAnew_47 hl (by decide) rfl (fun ls hl => ?_)
            refine lv_aload_n hx hb dX4_lookAnew_49 rfl (lv_at hl 2 rfl) ?_
            refine lv_aload_n hx hb dX4_lookAnew_50 rfl (lv_at hl 1 rfl) ?_
            refine z_wx (As := [.ref (g 6 i)]) (rest := []) ⟨hx, hb, hml, hown, hts⟩ (c_X4_lookForSlot l D cI cO cL A eE g (zDrops σ i.toNat).1 HL hRL i hT (by omega)) (cwV 1 hts gX4_lookAnew_X4_lookForSlot rfl rfl rfl (by decide +kernel) ⟨Nat.le_of_ble_eq_true rfl, Nat.le_of_ble_eq_true rfl⟩) hK hSL (z_recv hK hRL.x rfl) rfl hl.1 rfl (Nat.le_of_ble_eq_true rfl) dX4_lookAnew_51 ⟨Nat.zero_le _, Nat.zero_le _⟩ (fun rH_8 σH_8 H_8 locsH_8 hpH_8 hRH_8 hzH_8 hSH_8 => ?_)
            obtain ⟨eH_8, qH_8⟩ := hpH_8
            rw [eH_8]
            rw [qH_8] at hRH_8
            refine lv_aload_n hx hb dX4_lookAnew_54 rfl (lv_at hl 1 rfl) ?_
            refine z_get hx hb hts in_X4_lookAnew_X0 hown hK (hRH_8.c (i := i) (by show 0 ≤ i ∧ i < (zDrops σ i.toNat).1 14 0; omega)) rfl 6 (by decide) lk_X4_lookAnew_122 rfl rfl dX4_lookAnew_55 ?_
            refine lv_iload hx hb dX4_lookAnew_58 (lv_at hl 0 rfl) ?_
            refine z_icmp_eq (tgt := 66) hx hb dX4_lookAnew_60 (by decide) (by omega) (fun c_9 => ?_) (fun c_9 => ?_)
            · refine z_iinc (lv' := [(2, .int (zI (i + 1))), (4, .int (zI ((zDrops σ i.toNat).1 20 i))), (3, .ref (g 6 i)), (0, .ref (g 0 0)), (1, .int (zI v))]) hx hb dX4_lookAnew_66 hl (k := 4) rfl (by decide) rfl (fun ls hl => ?_)
              refine lv_goto (tgt := 4) hx hb dX4_lookAnew_69 (by decide) ?_
              exact wo _ _ _ _ _ (ih v (i + 1) ls _ _ (by rw [zDrops_i _ hi.1, if_pos (by omega)]; show _ = _ + _; rw [if_pos (by omega)]; omega) (by omega) (by rw [zDrops_i _ hi.1, if_pos (by omega)]; exact hRH_8) (hzH_8.trans hzL) hSH_8 (by omega) (lv_sub hl [3, 4, 0] rfl))
            · refine z_iinc (lv' := [(1, .int (zI (v + 1))), (4, .int (zI ((zDrops σ i.toNat).1 20 i))), (3, .ref (g 6 i)), (0, .ref (g 0 0)), (2, .int (zI i))]) hx hb dX4_lookAnew_63 hl (k := 3) rfl (by decide) rfl (fun ls hl => ?_)
              refine z_iinc (lv' := [(2, .int (zI (i + 1))), (1, .int (zI (v + 1))), (4, .int (zI ((zDrops σ i.toNat).1 20 i))), (3, .ref (g 6 i)), (0, .ref (g 0 0))]) hx hb dX4_lookAnew_66 hl (k := 4) rfl (by decide) rfl (fun ls hl => ?_)
              refine lv_goto (tgt := 4) hx hb dX4_lookAnew_69 (by decide) ?_
              exact wo _ _ _ _ _ (ih (v + 1) (i + 1) ls _ _ (by rw [zDrops_i _ hi.1, if_pos (by omega)]; show _ = _ + _; rw [if_neg (by omega)]; omega) (by omega) (by rw [zDrops_i _ hi.1, if_pos (by omega)]; exact hRH_8) (hzH_8.trans hzL) hSH_8 (by omega) (lv_sub hl [4, 1, 0] rfl))
  exact wo _ _ _ _ _ (hL _ 0 0 ls _ _ (by rfl) (by omega) (by exact hR) rfl va_S.rf (Nat.lt_succ_self _) (lv_sub hl [2, 1, 0] rfl))

theorem lk_X4_becomesDone_125 : Cond.fieldLink RX4 125 "HarbourPilotline$Conference" "state" "I" ∈ wsX4_becomesDone := by decide +kernel
theorem lk_X4_becomesDone_167 : Cond.fieldLink RX4 167 "HarbourPilotline$Conference" "pilot" "LHarbourPilotline$Pilot;" ∈ wsX4_becomesDone := by decide +kernel
theorem lk_X4_becomesDone_122 : Cond.fieldLink RX4 122 "HarbourPilotline$Conference" "slot" "I" ∈ wsX4_becomesDone := by decide +kernel
theorem lk_X4_becomesDone_102 : Cond.fieldLink RX4 102 "HarbourPilotline$Conference" "ship" "LHarbourPilotline$Ship;" ∈ wsX4_becomesDone := by decide +kernel
theorem lk_X4_becomesDone_247 : Cond.fieldLink RX4 247 "HarbourPilotline$Ship" "minutes" "I" ∈ wsX4_becomesDone := by decide +kernel
theorem lk_X4_becomesDone_68 : Cond.fieldLink RX4 68 "HarbourPilotline" "now" "I" ∈ wsX4_becomesDone := by decide +kernel
theorem lk_X4_becomesDone_196 : Cond.fieldLink RX4 196 "HarbourPilotline$Ship" "owes" "I" ∈ wsX4_becomesDone := by decide +kernel
theorem lk_X4_becomesDone_209 : Cond.fieldLink RX4 209 "HarbourPilotline$Pilot" "rate" "I" ∈ wsX4_becomesDone := by decide +kernel
theorem lk_X4_becomesDone_250 : Cond.fieldLink RX4 250 "HarbourPilotline$Ship" "tugs" "I" ∈ wsX4_becomesDone := by decide +kernel
theorem lk_X4_becomesDone_199 : Cond.fieldLink RX4 199 "HarbourPilotline$Pilot" "movesDone" "I" ∈ wsX4_becomesDone := by decide +kernel
theorem lk_X4_becomesDone_202 : Cond.fieldLink RX4 202 "HarbourPilotline$Pilot" "minutesDone" "I" ∈ wsX4_becomesDone := by decide +kernel
theorem in_X4_becomesDone_X0 : ∀ w ∈ wsX00, w ∈ wsX4_becomesDone := by decide +kernel
theorem in_X4_becomesDone_X1 : ∀ w ∈ wsX10, w ∈ wsX4_becomesDone := by decide +kernel
theorem in_X4_becomesDone_X2 : ∀ w ∈ wsX20, w ∈ wsX4_becomesDone := by decide +kernel
theorem in_X4_becomesDone_X4 : ∀ w ∈ wsX40, w ∈ wsX4_becomesDone := by decide +kernel
set_option maxRecDepth 100000 in
set_option maxHeartbeats 4000000 in
theorem c_X4_becomesDone (l : Launch) (D : va_G) (cI cO cL : ClassId) (A : Nat → Prop) (eE : Nat) (g : zG) (σ : zT) (H0 : Heap) (hR : RX D cO A eE g σ H0) (k : Int) (hI : zInv σ) (hk : 0 ≤ k ∧ k < σ 14 0) : zWX l yX4_becomesDone wsX4_becomesDone ({ frames := 0, cells := 0, slots := 0, locals := 0 }) D cI cO cL A eE g [.ref (g 0 0), .ref (g 6 k)] H0 (fun r σ' => r = some (.int (zI (bI (zDn σ k)))) ∧ σ' = zBD σ k) := by
  refine Met.ofW (cc := cX4_becomesDone) (maxL := 3) (ret := (some .boolean)) (by decide) rfl ?_
  intro p e s m args below meth c s₁ B hml hv
  obtain ⟨rfl, hH, hK⟩ := hv
  subst hH
  have hx := B.exec
  have hb := B.bytes
  have hr := B.returns
  have hts := atoms_spec (ws := wsX4_becomesDone) B.pre
  have hown : s.vm.findClass RX4 = some m.cls := findClass_of_methodNamed B.named
  have hlocks := B.notSynchronized
  have hl := lv_entry ([.ref (g 0 0), .ref (g 6 k)]) (n := 3) (Nat.le_of_ble_eq_true rfl)
  rw [lg_entry_eq]
  generalize (lg_sl ([.ref (g 0 0), .ref (g 6 k)]) ++ List.replicate (3 - (lg_sl ([.ref (g 0 0), .ref (g 6 k)])).length) Slot.unset).toArray = ls at hl ⊢
  have hl : lv_has ls 3 [(0, .ref (g 0 0)), (1, .ref (g 6 k))] := hl
  have f0 := hI.r
  have fk := hI.c hk
  have gk := hI.s (i := σ 15 k) (by omega)
  have rk := zRest_r (σ 8 (σ 15 k))
  refine lv_aload_n hx hb dX4_becomesDone_0 rfl (lv_at hl 1 rfl) ?_
  refine z_get hx hb hts in_X4_becomesDone_X0 hown hK (hR.c (i := k) (by show 0 ≤ k ∧ k < σ 14 0; omega)) rfl 5 (by decide) lk_X4_becomesDone_125 rfl rfl dX4_becomesDone_1 ?_
  refine z_iconst hx hb dX4_becomesDone_4 ?_
  refine z_icmp_ne (tgt := 24) hx hb dX4_becomesDone_5 (by decide) (by omega) (fun c_1 => ?_) (fun c_1 => ?_)
  · refine lv_aload_n hx hb dX4_becomesDone_24 rfl (lv_at hl 1 rfl) ?_
    refine z_get hx hb hts in_X4_becomesDone_X0 hown hK (hR.c (i := k) (by show 0 ≤ k ∧ k < σ 14 0; omega)) rfl 4 (by decide) lk_X4_becomesDone_167 rfl rfl dX4_becomesDone_25 ?_
    by_cases p_2 : σ 18 k = -1
    · refine z_tov (w := .null) (by rw [xPl_n p_2]; rfl) ?_
      refine lv_astore_nN (lv' := [(2, .null), (0, .ref (g 0 0)), (1, .ref (g 6 k))]) hx hb dX4_becomesDone_28 rfl hl (by decide) rfl (fun ls hl => ?_)
      refine lv_aload_n hx hb dX4_becomesDone_29 rfl (lv_at hl 2 rfl) ?_
      refine z_get hx hb hts in_X4_becomesDone_X0 hown hK (hR.c (i := k) (by show 0 ≤ k ∧ k < σ 14 0; omega)) rfl 5 (by decide) lk_X4_becomesDone_125 rfl rfl dX4_becomesDone_30 ?_
      refine z_iconst hx hb dX4_becomesDone_33 ?_
      refine z_icmp_ne (tgt := 60) hx hb dX4_becomesDone_34 (by decide) (by omega) (fun c_3 => ?_) (fun c_3 => ?_)
      · refine z_iconst hx hb dX4_becomesDone_60 ?_
        exact W.zret hx hb hr rfl (z_endX (post := fun r σ' => r = some (.int (zI (bI (zDn σ k)))) ∧ σ' = zBD σ k) (σ' := (zBD σ k)) (v := (some (.int (zI 0)))) ⟨by rw [bI_f (show ¬ zDn σ k by unfold zDn; omega)], rfl⟩ (hR.eqT (fun a b => by rw [zBD_f (by unfold zDn; omega), if_neg (by omega)]; exact (zup_id _ _ _ _ _).symm)) rfl va_S.rf) (fun _ h => nomatch h) dX4_becomesDone_61
      · refine lv_aload_nN hx hb dX4_becomesDone_37 rfl (lv_at hl 0 rfl) ?_
        refine lv_ifnullN (tgt := 60) hx hb dX4_becomesDone_38 (by decide) ?_
        refine z_iconst hx hb dX4_becomesDone_60 ?_
        exact W.zret hx hb hr rfl (z_endX (post := fun r σ' => r = some (.int (zI (bI (zDn σ k)))) ∧ σ' = zBD σ k) (σ' := (zBD σ k)) (v := (some (.int (zI 0)))) ⟨by rw [bI_f (show ¬ zDn σ k by unfold zDn; omega)], rfl⟩ (hR.eqT (fun a b => by rw [zBD_f (by unfold zDn; omega), if_neg (by omega)]; exact (zup_id _ _ _ _ _).symm)) rfl va_S.rf) (fun _ h => nomatch h) dX4_becomesDone_61
    · refine z_tov (w := .ref (g 5 (σ 18 k))) (by rw [xPl_s p_2]; rfl) ?_
      refine lv_astore_n (lv' := [(2, .ref (g 5 (σ 18 k))), (0, .ref (g 0 0)), (1, .ref (g 6 k))]) hx hb dX4_becomesDone_28 rfl hl (by decide) rfl (fun ls hl => ?_)
      refine lv_aload_n hx hb dX4_becomesDone_29 rfl (lv_at hl 2 rfl) ?_
      refine z_get hx hb hts in_X4_becomesDone_X0 hown hK (hR.c (i := k) (by show 0 ≤ k ∧ k < σ 14 0; omega)) rfl 5 (by decide) lk_X4_becomesDone_125 rfl rfl dX4_becomesDone_30 ?_
      refine z_iconst hx hb dX4_becomesDone_33 ?_
      refine z_icmp_ne (tgt := 60) hx hb dX4_becomesDone_34 (by decide) (by omega) (fun c_4 => ?_) (fun c_4 => ?_)
      · refine z_iconst hx hb dX4_becomesDone_60 ?_
        exact W.zret hx hb hr rfl (z_endX (post := fun r σ' => r = some (.int (zI (bI (zDn σ k)))) ∧ σ' = zBD σ k) (σ' := (zBD σ k)) (v := (some (.int (zI 0)))) ⟨by rw [bI_f (show ¬ zDn σ k by unfold zDn; omega)], rfl⟩ (hR.eqT (fun a b => by rw [zBD_f (by unfold zDn; omega), if_neg (by omega)]; exact (zup_id _ _ _ _ _).symm)) rfl va_S.rf) (fun _ h => nomatch h) dX4_becomesDone_61
      · refine lv_aload_n hx hb dX4_becomesDone_37 rfl (lv_at hl 0 rfl) ?_
        refine lv_ifnull hx hb dX4_becomesDone_38 ?_
        refine lv_aload_n hx hb dX4_becomesDone_41 rfl (lv_at hl 2 rfl) ?_
        refine z_get hx hb hts in_X4_becomesDone_X0 hown hK (hR.c (i := k) (by show 0 ≤ k ∧ k < σ 14 0; omega)) rfl 6 (by decide) lk_X4_becomesDone_122 rfl rfl dX4_becomesDone_42 ?_
        refine lv_aload_n hx hb dX4_becomesDone_45 rfl (lv_at hl 2 rfl) ?_
        refine z_get hx hb hts in_X4_becomesDone_X0 hown hK (hR.c (i := k) (by show 0 ≤ k ∧ k < σ 14 0; omega)) rfl 0 (by decide) lk_X4_becomesDone_102 rfl rfl dX4_becomesDone_46 ?_
        refine z_get hx hb hts in_X4_becomesDone_X2 hown hK (hR.s (i := (σ 15 k)) (by show 0 ≤ (σ 15 k) ∧ (σ 15 k) < σ 5 0; omega)) rfl 3 (by decide) lk_X4_becomesDone_247 rfl rfl dX4_becomesDone_49 ?_
        refine z_iadd hx hb dX4_becomesDone_52 ?_
        refine lv_aload_n hx hb dX4_becomesDone_53 rfl (lv_at hl 1 rfl) ?_
        refine z_get hx hb hts in_X4_becomesDone_X4 hown hK hR.x rfl 5 (by decide) lk_X4_becomesDone_68 rfl rfl dX4_becomesDone_54 ?_
        refine z_icmp_le (tgt := 62) hx hb dX4_becomesDone_57 (by decide) (by omega) (fun c_5 => ?_) (fun c_5 => ?_)
        · refine lv_aload_n hx hb dX4_becomesDone_62 rfl (lv_at hl 2 rfl) ?_
          refine z_iconst hx hb dX4_becomesDone_63 ?_
          refine x_put hx hb hts in_X4_becomesDone_X0 tyX0 tyX0_ok nmX0 hown hK hR va_S.rf 6 k (by decide) (by show 0 ≤ k ∧ k < σ 14 0; omega) rfl rfl 5 (by decide) lk_X4_becomesDone_125 rfl rfl rfl rfl (Nat.le_of_ble_eq_true rfl) (zup σ 19 k 4) (zOth.up (t := 6) (n := 19) zOth.rf rfl) xe_19 dX4_becomesDone_64 (fun H_6 locsH_6 hRH_6 hzH_6 hSH_6 => ?_)
          refine lv_aload_n hx hb dX4_becomesDone_67 rfl (lv_at hl 2 rfl) ?_
          refine z_get hx hb hts in_X4_becomesDone_X0 hown hK (hRH_6.c (i := k) (by show 0 ≤ k ∧ k < σ 14 0; omega)) rfl 0 (by decide) lk_X4_becomesDone_102 rfl rfl dX4_becomesDone_68 ?_
          refine z_tov (w := .ref (g 4 (σ 15 k))) rfl ?_
          refine lv_dup hx hb dX4_becomesDone_71 rfl ?_
          refine z_get hx hb hts in_X4_becomesDone_X2 hown hK (hRH_6.s (i := (σ 15 k)) (by show 0 ≤ (σ 15 k) ∧ (σ 15 k) < σ 5 0; omega)) rfl 5 (by decide) lk_X4_becomesDone_196 rfl rfl dX4_becomesDone_72 ?_
          refine z_top (b := σ 10 (σ 15 k)) (by rw [zup_t (t := 19) (t' := 10) (by decide)]) ?_
          refine lv_aload_n hx hb dX4_becomesDone_75 rfl (lv_at hl 2 rfl) ?_
          refine z_get hx hb hts in_X4_becomesDone_X0 hown hK (hRH_6.c (i := k) (by show 0 ≤ k ∧ k < σ 14 0; omega)) rfl 0 (by decide) lk_X4_becomesDone_102 rfl rfl dX4_becomesDone_76 ?_
          refine z_tov (w := .ref (g 4 (σ 15 k))) rfl ?_
          refine z_get hx hb hts in_X4_becomesDone_X2 hown hK (hRH_6.s (i := (σ 15 k)) (by show 0 ≤ (σ 15 k) ∧ (σ 15 k) < σ 5 0; omega)) rfl 3 (by decide) lk_X4_becomesDone_247 rfl rfl dX4_becomesDone_79 ?_
          refine z_top (b := σ 8 (σ 15 k)) (by rw [zup_t (t := 19) (t' := 8) (by decide)]) ?_
          refine lv_aload_n hx hb dX4_becomesDone_82 rfl (lv_at hl 0 rfl) ?_
          refine z_get hx hb hts in_X4_becomesDone_X1 hown hK (hRH_6.p (i := (σ 18 k)) (by show 0 ≤ (σ 18 k) ∧ (σ 18 k) < σ 11 0; omega)) rfl 2 (by decide) lk_X4_becomesDone_209 rfl rfl dX4_becomesDone_83 ?_
          refine z_top (b := σ 13 (σ 18 k)) (by rw [zup_t (t := 19) (t' := 13) (by decide)]) ?_
          refine z_imul hx hb dX4_becomesDone_86 ?_
          refine lv_aload_n hx hb dX4_becomesDone_87 rfl (lv_at hl 2 rfl) ?_
          refine z_get hx hb hts in_X4_becomesDone_X0 hown hK (hRH_6.c (i := k) (by show 0 ≤ k ∧ k < σ 14 0; omega)) rfl 0 (by decide) lk_X4_becomesDone_102 rfl rfl dX4_becomesDone_88 ?_
          refine z_tov (w := .ref (g 4 (σ 15 k))) rfl ?_
          refine z_get hx hb hts in_X4_becomesDone_X2 hown hK (hRH_6.s (i := (σ 15 k)) (by show 0 ≤ (σ 15 k) ∧ (σ 15 k) < σ 5 0; omega)) rfl 4 (by decide) lk_X4_becomesDone_250 rfl rfl dX4_becomesDone_91 ?_
          refine z_top (b := σ 9 (σ 15 k)) (by rw [zup_t (t := 19) (t' := 9) (by decide)]) ?_
          refine z_bipush hx hb dX4_becomesDone_94 (by decide +kernel) ?_
          refine z_imul hx hb dX4_becomesDone_96 ?_
          refine z_iadd hx hb dX4_becomesDone_97 ?_
          refine z_iadd hx hb dX4_becomesDone_98 ?_
          refine x_put hx hb hts in_X4_becomesDone_X2 tyX2 tyX2_ok nmX2 hown hK hRH_6 hSH_6 4 (σ 15 k) (by decide) (by show 0 ≤ (σ 15 k) ∧ (σ 15 k) < σ 5 0; omega) rfl rfl 5 (by decide) lk_X4_becomesDone_196 rfl rfl rfl rfl (Nat.le_of_ble_eq_true rfl) (zup (zup σ 19 k 4) 10 (σ 15 k) ((σ 10 (σ 15 k)) + (((σ 8 (σ 15 k)) * (σ 13 (σ 18 k))) + ((σ 9 (σ 15 k)) * 100)))) (zOth.up (t := 4) (n := 10) zOth.rf rfl) xe_10 dX4_becomesDone_99 (fun H_7 locsH_7 hRH_7 hzH_7 hSH_7 => ?_)
          refine lv_aload_n hx hb dX4_becomesDone_102 rfl (lv_at hl 0 rfl) ?_
          refine lv_dup hx hb dX4_becomesDone_103 rfl ?_
          refine z_get hx hb hts in_X4_becomesDone_X1 hown hK (hRH_7.p (i := (σ 18 k)) (by show 0 ≤ (σ 18 k) ∧ (σ 18 k) < σ 11 0; omega)) rfl 3 (by decide) lk_X4_becomesDone_199 rfl rfl dX4_becomesDone_104 ?_
          refine z_top (b := σ 30 (σ 18 k)) (by rw [zup_t (t := 10) (t' := 30) (by decide), zup_t (t := 19) (t' := 30) (by decide)]) ?_
          refine z_iconst hx hb dX4_becomesDone_107 ?_
          refine z_iadd hx hb dX4_becomesDone_108 ?_
          refine x_put hx hb hts in_X4_becomesDone_X1 tyX1 tyX1_ok nmX1 hown hK hRH_7 hSH_7 5 (σ 18 k) (by decide) (by show 0 ≤ (σ 18 k) ∧ (σ 18 k) < σ 11 0; omega) rfl rfl 3 (by decide) lk_X4_becomesDone_199 rfl rfl rfl rfl (Nat.le_of_ble_eq_true rfl) (zup (zup (zup σ 19 k 4) 10 (σ 15 k) ((σ 10 (σ 15 k)) + (((σ 8 (σ 15 k)) * (σ 13 (σ 18 k))) + ((σ 9 (σ 15 k)) * 100)))) 30 (σ 18 k) ((σ 30 (σ 18 k)) + 1)) (zOth.up (t := 5) (n := 30) zOth.rf rfl) xe_30 dX4_becomesDone_109 (fun H_8 locsH_8 hRH_8 hzH_8 hSH_8 => ?_)
          refine lv_aload_n hx hb dX4_becomesDone_112 rfl (lv_at hl 0 rfl) ?_
          refine lv_dup hx hb dX4_becomesDone_113 rfl ?_
          refine z_get hx hb hts in_X4_becomesDone_X1 hown hK (hRH_8.p (i := (σ 18 k)) (by show 0 ≤ (σ 18 k) ∧ (σ 18 k) < σ 11 0; omega)) rfl 4 (by decide) lk_X4_becomesDone_202 rfl rfl dX4_becomesDone_114 ?_
          refine z_top (b := σ 31 (σ 18 k)) (by rw [zup_t (t := 30) (t' := 31) (by decide), zup_t (t := 10) (t' := 31) (by decide), zup_t (t := 19) (t' := 31) (by decide)]) ?_
          refine lv_aload_n hx hb dX4_becomesDone_117 rfl (lv_at hl 2 rfl) ?_
          refine z_get hx hb hts in_X4_becomesDone_X0 hown hK (hRH_8.c (i := k) (by show 0 ≤ k ∧ k < σ 14 0; omega)) rfl 0 (by decide) lk_X4_becomesDone_102 rfl rfl dX4_becomesDone_118 ?_
          refine z_tov (w := .ref (g 4 (σ 15 k))) rfl ?_
          refine z_get hx hb hts in_X4_becomesDone_X2 hown hK (hRH_8.s (i := (σ 15 k)) (by show 0 ≤ (σ 15 k) ∧ (σ 15 k) < σ 5 0; omega)) rfl 3 (by decide) lk_X4_becomesDone_247 rfl rfl dX4_becomesDone_121 ?_
          refine z_top (b := σ 8 (σ 15 k)) (by rw [zup_t (t := 30) (t' := 8) (by decide), zup_t (t := 10) (t' := 8) (by decide), zup_t (t := 19) (t' := 8) (by decide)]) ?_
          refine z_iadd hx hb dX4_becomesDone_124 ?_
          refine x_put hx hb hts in_X4_becomesDone_X1 tyX1 tyX1_ok nmX1 hown hK hRH_8 hSH_8 5 (σ 18 k) (by decide) (by show 0 ≤ (σ 18 k) ∧ (σ 18 k) < σ 11 0; omega) rfl rfl 4 (by decide) lk_X4_becomesDone_202 rfl rfl rfl rfl (Nat.le_of_ble_eq_true rfl) (zup (zup (zup (zup σ 19 k 4) 10 (σ 15 k) ((σ 10 (σ 15 k)) + (((σ 8 (σ 15 k)) * (σ 13 (σ 18 k))) + ((σ 9 (σ 15 k)) * 100)))) 30 (σ 18 k) ((σ 30 (σ 18 k)) + 1)) 31 (σ 18 k) ((σ 31 (σ 18 k)) + (σ 8 (σ 15 k)))) (zOth.up (t := 5) (n := 31) zOth.rf rfl) xe_31 dX4_becomesDone_125 (fun H_9 locsH_9 hRH_9 hzH_9 hSH_9 => ?_)
          refine z_iconst hx hb dX4_becomesDone_128 ?_
          exact W.zret hx hb hr rfl (z_endX (post := fun r σ' => r = some (.int (zI (bI (zDn σ k)))) ∧ σ' = zBD σ k) (σ' := (zBD σ k)) (v := (some (.int (zI 1)))) ⟨by rw [bI_t (show zDn σ k by unfold zDn; omega)], rfl⟩ (hRH_9.eqT (fun a b => by rw [zBD_t (by unfold zDn; omega)])) (hzH_9.trans (hzH_8.trans (hzH_7.trans (hzH_6.trans rfl)))) hSH_9) hSH_9.2.2 dX4_becomesDone_129
        · refine z_iconst hx hb dX4_becomesDone_60 ?_
          exact W.zret hx hb hr rfl (z_endX (post := fun r σ' => r = some (.int (zI (bI (zDn σ k)))) ∧ σ' = zBD σ k) (σ' := (zBD σ k)) (v := (some (.int (zI 0)))) ⟨by rw [bI_f (show ¬ zDn σ k by unfold zDn; omega)], rfl⟩ (hR.eqT (fun a b => by rw [zBD_f (by unfold zDn; omega), if_neg (by omega)]; exact (zup_id _ _ _ _ _).symm)) rfl va_S.rf) (fun _ h => nomatch h) dX4_becomesDone_61
  · refine lv_aload_n hx hb dX4_becomesDone_8 rfl (lv_at hl 1 rfl) ?_
    refine z_get hx hb hts in_X4_becomesDone_X0 hown hK (hR.c (i := k) (by show 0 ≤ k ∧ k < σ 14 0; omega)) rfl 6 (by decide) lk_X4_becomesDone_122 rfl rfl dX4_becomesDone_9 ?_
    refine lv_aload_n hx hb dX4_becomesDone_12 rfl (lv_at hl 0 rfl) ?_
    refine z_get hx hb hts in_X4_becomesDone_X4 hown hK hR.x rfl 5 (by decide) lk_X4_becomesDone_68 rfl rfl dX4_becomesDone_13 ?_
    refine z_icmp_gt (tgt := 24) hx hb dX4_becomesDone_16 (by decide) (by omega) (fun c_10 => ?_) (fun c_10 => ?_)
    · refine lv_aload_n hx hb dX4_becomesDone_24 rfl (lv_at hl 1 rfl) ?_
      refine z_get hx hb hts in_X4_becomesDone_X0 hown hK (hR.c (i := k) (by show 0 ≤ k ∧ k < σ 14 0; omega)) rfl 4 (by decide) lk_X4_becomesDone_167 rfl rfl dX4_becomesDone_25 ?_
      by_cases p_11 : σ 18 k = -1
      · refine z_tov (w := .null) (by rw [xPl_n p_11]; rfl) ?_
        refine lv_astore_nN (lv' := [(2, .null), (0, .ref (g 0 0)), (1, .ref (g 6 k))]) hx hb dX4_becomesDone_28 rfl hl (by decide) rfl (fun ls hl => ?_)
        refine lv_aload_n hx hb dX4_becomesDone_29 rfl (lv_at hl 2 rfl) ?_
        refine z_get hx hb hts in_X4_becomesDone_X0 hown hK (hR.c (i := k) (by show 0 ≤ k ∧ k < σ 14 0; omega)) rfl 5 (by decide) lk_X4_becomesDone_125 rfl rfl dX4_becomesDone_30 ?_
        refine z_iconst hx hb dX4_becomesDone_33 ?_
        refine z_icmp_ne (tgt := 60) hx hb dX4_becomesDone_34 (by decide) (by omega) (fun c_12 => ?_) (fun c_12 => ?_)
        · refine z_iconst hx hb dX4_becomesDone_60 ?_
          exact W.zret hx hb hr rfl (z_endX (post := fun r σ' => r = some (.int (zI (bI (zDn σ k)))) ∧ σ' = zBD σ k) (σ' := (zBD σ k)) (v := (some (.int (zI 0)))) ⟨by rw [bI_f (show ¬ zDn σ k by unfold zDn; omega)], rfl⟩ (hR.eqT (fun a b => by rw [zBD_f (by unfold zDn; omega), if_neg (by omega)]; exact (zup_id _ _ _ _ _).symm)) rfl va_S.rf) (fun _ h => nomatch h) dX4_becomesDone_61
        · refine lv_aload_nN hx hb dX4_becomesDone_37 rfl (lv_at hl 0 rfl) ?_
          refine lv_ifnullN (tgt := 60) hx hb dX4_becomesDone_38 (by decide) ?_
          refine z_iconst hx hb dX4_becomesDone_60 ?_
          exact W.zret hx hb hr rfl (z_endX (post := fun r σ' => r = some (.int (zI (bI (zDn σ k)))) ∧ σ' = zBD σ k) (σ' := (zBD σ k)) (v := (some (.int (zI 0)))) ⟨by rw [bI_f (show ¬ zDn σ k by unfold zDn; omega)], rfl⟩ (hR.eqT (fun a b => by rw [zBD_f (by unfold zDn; omega), if_neg (by omega)]; exact (zup_id _ _ _ _ _).symm)) rfl va_S.rf) (fun _ h => nomatch h) dX4_becomesDone_61
      · refine z_tov (w := .ref (g 5 (σ 18 k))) (by rw [xPl_s p_11]; rfl) ?_
        refine lv_astore_n (lv' := [(2, .ref (g 5 (σ 18 k))), (0, .ref (g 0 0)), (1, .ref (g 6 k))]) hx hb dX4_becomesDone_28 rfl hl (by decide) rfl (fun ls hl => ?_)
        refine lv_aload_n hx hb dX4_becomesDone_29 rfl (lv_at hl 2 rfl) ?_
        refine z_get hx hb hts in_X4_becomesDone_X0 hown hK (hR.c (i := k) (by show 0 ≤ k ∧ k < σ 14 0; omega)) rfl 5 (by decide) lk_X4_becomesDone_125 rfl rfl dX4_becomesDone_30 ?_
        refine z_iconst hx hb dX4_becomesDone_33 ?_
        refine z_icmp_ne (tgt := 60) hx hb dX4_becomesDone_34 (by decide) (by omega) (fun c_13 => ?_) (fun c_13 => ?_)
        · refine z_iconst hx hb dX4_becomesDone_60 ?_
          exact W.zret hx hb hr rfl (z_endX (post := fun r σ' => r = some (.int (zI (bI (zDn σ k)))) ∧ σ' = zBD σ k) (σ' := (zBD σ k)) (v := (some (.int (zI 0)))) ⟨by rw [bI_f (show ¬ zDn σ k by unfold zDn; omega)], rfl⟩ (hR.eqT (fun a b => by rw [zBD_f (by unfold zDn; omega), if_neg (by omega)]; exact (zup_id _ _ _ _ _).symm)) rfl va_S.rf) (fun _ h => nomatch h) dX4_becomesDone_61
        · refine lv_aload_n hx hb dX4_becomesDone_37 rfl (lv_at hl 0 rfl) ?_
          refine lv_ifnull hx hb dX4_becomesDone_38 ?_
          refine lv_aload_n hx hb dX4_becomesDone_41 rfl (lv_at hl 2 rfl) ?_
          refine z_get hx hb hts in_X4_becomesDone_X0 hown hK (hR.c (i := k) (by show 0 ≤ k ∧ k < σ 14 0; omega)) rfl 6 (by decide) lk_X4_becomesDone_122 rfl rfl dX4_becomesDone_42 ?_
          refine lv_aload_n hx hb dX4_becomesDone_45 rfl (lv_at hl 2 rfl) ?_
          refine z_get hx hb hts in_X4_becomesDone_X0 hown hK (hR.c (i := k) (by show 0 ≤ k ∧ k < σ 14 0; omega)) rfl 0 (by decide) lk_X4_becomesDone_102 rfl rfl dX4_becomesDone_46 ?_
          refine z_get hx hb hts in_X4_becomesDone_X2 hown hK (hR.s (i := (σ 15 k)) (by show 0 ≤ (σ 15 k) ∧ (σ 15 k) < σ 5 0; omega)) rfl 3 (by decide) lk_X4_becomesDone_247 rfl rfl dX4_becomesDone_49 ?_
          refine z_iadd hx hb dX4_becomesDone_52 ?_
          refine lv_aload_n hx hb dX4_becomesDone_53 rfl (lv_at hl 1 rfl) ?_
          refine z_get hx hb hts in_X4_becomesDone_X4 hown hK hR.x rfl 5 (by decide) lk_X4_becomesDone_68 rfl rfl dX4_becomesDone_54 ?_
          refine z_icmp_le (tgt := 62) hx hb dX4_becomesDone_57 (by decide) (by omega) (fun c_14 => ?_) (fun c_14 => ?_)
          · refine lv_aload_n hx hb dX4_becomesDone_62 rfl (lv_at hl 2 rfl) ?_
            refine z_iconst hx hb dX4_becomesDone_63 ?_
            refine x_put hx hb hts in_X4_becomesDone_X0 tyX0 tyX0_ok nmX0 hown hK hR va_S.rf 6 k (by decide) (by show 0 ≤ k ∧ k < σ 14 0; omega) rfl rfl 5 (by decide) lk_X4_becomesDone_125 rfl rfl rfl rfl (Nat.le_of_ble_eq_true rfl) (zup σ 19 k 4) (zOth.up (t := 6) (n := 19) zOth.rf rfl) xe_19 dX4_becomesDone_64 (fun H_15 locsH_15 hRH_15 hzH_15 hSH_15 => ?_)
            refine lv_aload_n hx hb dX4_becomesDone_67 rfl (lv_at hl 2 rfl) ?_
            refine z_get hx hb hts in_X4_becomesDone_X0 hown hK (hRH_15.c (i := k) (by show 0 ≤ k ∧ k < σ 14 0; omega)) rfl 0 (by decide) lk_X4_becomesDone_102 rfl rfl dX4_becomesDone_68 ?_
            refine z_tov (w := .ref (g 4 (σ 15 k))) rfl ?_
            refine lv_dup hx hb dX4_becomesDone_71 rfl ?_
            refine z_get hx hb hts in_X4_becomesDone_X2 hown hK (hRH_15.s (i := (σ 15 k)) (by show 0 ≤ (σ 15 k) ∧ (σ 15 k) < σ 5 0; omega)) rfl 5 (by decide) lk_X4_becomesDone_196 rfl rfl dX4_becomesDone_72 ?_
            refine z_top (b := σ 10 (σ 15 k)) (by rw [zup_t (t := 19) (t' := 10) (by decide)]) ?_
            refine lv_aload_n hx hb dX4_becomesDone_75 rfl (lv_at hl 2 rfl) ?_
            refine z_get hx hb hts in_X4_becomesDone_X0 hown hK (hRH_15.c (i := k) (by show 0 ≤ k ∧ k < σ 14 0; omega)) rfl 0 (by decide) lk_X4_becomesDone_102 rfl rfl dX4_becomesDone_76 ?_
            refine z_tov (w := .ref (g 4 (σ 15 k))) rfl ?_
            refine z_get hx hb hts in_X4_becomesDone_X2 hown hK (hRH_15.s (i := (σ 15 k)) (by show 0 ≤ (σ 15 k) ∧ (σ 15 k) < σ 5 0; omega)) rfl 3 (by decide) lk_X4_becomesDone_247 rfl rfl dX4_becomesDone_79 ?_
            refine z_top (b := σ 8 (σ 15 k)) (by rw [zup_t (t := 19) (t' := 8) (by decide)]) ?_
            refine lv_aload_n hx hb dX4_becomesDone_82 rfl (lv_at hl 0 rfl) ?_
            refine z_get hx hb hts in_X4_becomesDone_X1 hown hK (hRH_15.p (i := (σ 18 k)) (by show 0 ≤ (σ 18 k) ∧ (σ 18 k) < σ 11 0; omega)) rfl 2 (by decide) lk_X4_becomesDone_209 rfl rfl dX4_becomesDone_83 ?_
            refine z_top (b := σ 13 (σ 18 k)) (by rw [zup_t (t := 19) (t' := 13) (by decide)]) ?_
            refine z_imul hx hb dX4_becomesDone_86 ?_
            refine lv_aload_n hx hb dX4_becomesDone_87 rfl (lv_at hl 2 rfl) ?_
            refine z_get hx hb hts in_X4_becomesDone_X0 hown hK (hRH_15.c (i := k) (by show 0 ≤ k ∧ k < σ 14 0; omega)) rfl 0 (by decide) lk_X4_becomesDone_102 rfl rfl dX4_becomesDone_88 ?_
            refine z_tov (w := .ref (g 4 (σ 15 k))) rfl ?_
            refine z_get hx hb hts in_X4_becomesDone_X2 hown hK (hRH_15.s (i := (σ 15 k)) (by show 0 ≤ (σ 15 k) ∧ (σ 15 k) < σ 5 0; omega)) rfl 4 (by decide) lk_X4_becomesDone_250 rfl rfl dX4_becomesDone_91 ?_
            refine z_top (b := σ 9 (σ 15 k)) (by rw [zup_t (t := 19) (t' := 9) (by decide)]) ?_
            refine z_bipush hx hb dX4_becomesDone_94 (by decide +kernel) ?_
            refine z_imul hx hb dX4_becomesDone_96 ?_
            refine z_iadd hx hb dX4_becomesDone_97 ?_
            refine z_iadd hx hb dX4_becomesDone_98 ?_
            refine x_put hx hb hts in_X4_becomesDone_X2 tyX2 tyX2_ok nmX2 hown hK hRH_15 hSH_15 4 (σ 15 k) (by decide) (by show 0 ≤ (σ 15 k) ∧ (σ 15 k) < σ 5 0; omega) rfl rfl 5 (by decide) lk_X4_becomesDone_196 rfl rfl rfl rfl (Nat.le_of_ble_eq_true rfl) (zup (zup σ 19 k 4) 10 (σ 15 k) ((σ 10 (σ 15 k)) + (((σ 8 (σ 15 k)) * (σ 13 (σ 18 k))) + ((σ 9 (σ 15 k)) * 100)))) (zOth.up (t := 4) (n := 10) zOth.rf rfl) xe_10 dX4_becomesDone_99 (fun H_16 locsH_16 hRH_16 hzH_16 hSH_16 => ?_)
            refine lv_aload_n hx hb dX4_becomesDone_102 rfl (lv_at hl 0 rfl) ?_
            refine lv_dup hx hb dX4_becomesDone_103 rfl ?_
            refine z_get hx hb hts in_X4_becomesDone_X1 hown hK (hRH_16.p (i := (σ 18 k)) (by show 0 ≤ (σ 18 k) ∧ (σ 18 k) < σ 11 0; omega)) rfl 3 (by decide) lk_X4_becomesDone_199 rfl rfl dX4_becomesDone_104 ?_
            refine z_top (b := σ 30 (σ 18 k)) (by rw [zup_t (t := 10) (t' := 30) (by decide), zup_t (t := 19) (t' := 30) (by decide)]) ?_
            refine z_iconst hx hb dX4_becomesDone_107 ?_
            refine z_iadd hx hb dX4_becomesDone_108 ?_
            refine x_put hx hb hts in_X4_becomesDone_X1 tyX1 tyX1_ok nmX1 hown hK hRH_16 hSH_16 5 (σ 18 k) (by decide) (by show 0 ≤ (σ 18 k) ∧ (σ 18 k) < σ 11 0; omega) rfl rfl 3 (by decide) lk_X4_becomesDone_199 rfl rfl rfl rfl (Nat.le_of_ble_eq_true rfl) (zup (zup (zup σ 19 k 4) 10 (σ 15 k) ((σ 10 (σ 15 k)) + (((σ 8 (σ 15 k)) * (σ 13 (σ 18 k))) + ((σ 9 (σ 15 k)) * 100)))) 30 (σ 18 k) ((σ 30 (σ 18 k)) + 1)) (zOth.up (t := 5) (n := 30) zOth.rf rfl) xe_30 dX4_becomesDone_109 (fun H_17 locsH_17 hRH_17 hzH_17 hSH_17 => ?_)
            refine lv_aload_n hx hb dX4_becomesDone_112 rfl (lv_at hl 0 rfl) ?_
            refine lv_dup hx hb dX4_becomesDone_113 rfl ?_
            refine z_get hx hb hts in_X4_becomesDone_X1 hown hK (hRH_17.p (i := (σ 18 k)) (by show 0 ≤ (σ 18 k) ∧ (σ 18 k) < σ 11 0; omega)) rfl 4 (by decide) lk_X4_becomesDone_202 rfl rfl dX4_becomesDone_114 ?_
            refine z_top (b := σ 31 (σ 18 k)) (by rw [zup_t (t := 30) (t' := 31) (by decide), zup_t (t := 10) (t' := 31) (by decide), zup_t (t := 19) (t' := 31) (by decide)]) ?_
            refine lv_aload_n hx hb dX4_becomesDone_117 rfl (lv_at hl 2 rfl) ?_
            refine z_get hx hb hts in_X4_becomesDone_X0 hown hK (hRH_17.c (i := k) (by show 0 ≤ k ∧ k < σ 14 0; omega)) rfl 0 (by decide) lk_X4_becomesDone_102 rfl rfl dX4_becomesDone_118 ?_
            refine z_tov (w := .ref (g 4 (σ 15 k))) rfl ?_
            refine z_get hx hb hts in_X4_becomesDone_X2 hown hK (hRH_17.s (i := (σ 15 k)) (by show 0 ≤ (σ 15 k) ∧ (σ 15 k) < σ 5 0; omega)) rfl 3 (by decide) lk_X4_becomesDone_247 rfl rfl dX4_becomesDone_121 ?_
            refine z_top (b := σ 8 (σ 15 k)) (by rw [zup_t (t := 30) (t' := 8) (by decide), zup_t (t := 10) (t' := 8) (by decide), zup_t (t := 19) (t' := 8) (by decide)]) ?_
            refine z_iadd hx hb dX4_becomesDone_124 ?_
            refine x_put hx hb hts in_X4_becomesDone_X1 tyX1 tyX1_ok nmX1 hown hK hRH_17 hSH_17 5 (σ 18 k) (by decide) (by show 0 ≤ (σ 18 k) ∧ (σ 18 k) < σ 11 0; omega) rfl rfl 4 (by decide) lk_X4_becomesDone_202 rfl rfl rfl rfl (Nat.le_of_ble_eq_true rfl) (zup (zup (zup (zup σ 19 k 4) 10 (σ 15 k) ((σ 10 (σ 15 k)) + (((σ 8 (σ 15 k)) * (σ 13 (σ 18 k))) + ((σ 9 (σ 15 k)) * 100)))) 30 (σ 18 k) ((σ 30 (σ 18 k)) + 1)) 31 (σ 18 k) ((σ 31 (σ 18 k)) + (σ 8 (σ 15 k)))) (zOth.up (t := 5) (n := 31) zOth.rf rfl) xe_31 dX4_becomesDone_125 (fun H_18 locsH_18 hRH_18 hzH_18 hSH_18 => ?_)
            refine z_iconst hx hb dX4_becomesDone_128 ?_
            exact W.zret hx hb hr rfl (z_endX (post := fun r σ' => r = some (.int (zI (bI (zDn σ k)))) ∧ σ' = zBD σ k) (σ' := (zBD σ k)) (v := (some (.int (zI 1)))) ⟨by rw [bI_t (show zDn σ k by unfold zDn; omega)], rfl⟩ (hRH_18.eqT (fun a b => by rw [zBD_t (by unfold zDn; omega)])) (hzH_18.trans (hzH_17.trans (hzH_16.trans (hzH_15.trans rfl)))) hSH_18) hSH_18.2.2 dX4_becomesDone_129
          · refine z_iconst hx hb dX4_becomesDone_60 ?_
            exact W.zret hx hb hr rfl (z_endX (post := fun r σ' => r = some (.int (zI (bI (zDn σ k)))) ∧ σ' = zBD σ k) (σ' := (zBD σ k)) (v := (some (.int (zI 0)))) ⟨by rw [bI_f (show ¬ zDn σ k by unfold zDn; omega)], rfl⟩ (hR.eqT (fun a b => by rw [zBD_f (by unfold zDn; omega), if_neg (by omega)]; exact (zup_id _ _ _ _ _).symm)) rfl va_S.rf) (fun _ h => nomatch h) dX4_becomesDone_61
    · refine lv_aload_n hx hb dX4_becomesDone_19 rfl (lv_at hl 1 rfl) ?_
      refine z_iconst hx hb dX4_becomesDone_20 ?_
      refine x_put hx hb hts in_X4_becomesDone_X0 tyX0 tyX0_ok nmX0 hown hK hR va_S.rf 6 k (by decide) (by show 0 ≤ k ∧ k < σ 14 0; omega) rfl rfl 5 (by decide) lk_X4_becomesDone_125 rfl rfl rfl rfl (Nat.le_of_ble_eq_true rfl) (zup σ 19 k 3) (zOth.up (t := 6) (n := 19) zOth.rf rfl) xe_19 dX4_becomesDone_21 (fun H_19 locsH_19 hRH_19 hzH_19 hSH_19 => ?_)
      refine lv_aload_n hx hb dX4_becomesDone_24 rfl (lv_at hl 1 rfl) ?_
      refine z_get hx hb hts in_X4_becomesDone_X0 hown hK (hRH_19.c (i := k) (by show 0 ≤ k ∧ k < σ 14 0; omega)) rfl 4 (by decide) lk_X4_becomesDone_167 rfl rfl dX4_becomesDone_25 ?_
      refine z_tov (w := va_rf (xPl g σ k)) rfl ?_
      by_cases p_20 : σ 18 k = -1
      · refine z_tov (w := .null) (by rw [xPl_n p_20]; rfl) ?_
        refine lv_astore_nN (lv' := [(2, .null), (0, .ref (g 0 0)), (1, .ref (g 6 k))]) hx hb dX4_becomesDone_28 rfl hl (by decide) rfl (fun ls hl => ?_)
        refine lv_aload_n hx hb dX4_becomesDone_29 rfl (lv_at hl 2 rfl) ?_
        refine z_get hx hb hts in_X4_becomesDone_X0 hown hK (hRH_19.c (i := k) (by show 0 ≤ k ∧ k < σ 14 0; omega)) rfl 5 (by decide) lk_X4_becomesDone_125 rfl rfl dX4_becomesDone_30 ?_
        refine z_top (b := 3) (by rw [zup_s]) ?_
        refine z_iconst hx hb dX4_becomesDone_33 ?_
        refine z_icmp_ne (tgt := 60) hx hb dX4_becomesDone_34 (by decide) (by omega) (fun c_21 => ?_) (fun c_21 => ?_)
        · exact absurd c_21 (by decide)
        · refine lv_aload_nN hx hb dX4_becomesDone_37 rfl (lv_at hl 0 rfl) ?_
          refine lv_ifnullN (tgt := 60) hx hb dX4_becomesDone_38 (by decide) ?_
          refine z_iconst hx hb dX4_becomesDone_60 ?_
          exact W.zret hx hb hr rfl (z_endX (post := fun r σ' => r = some (.int (zI (bI (zDn σ k)))) ∧ σ' = zBD σ k) (σ' := (zBD σ k)) (v := (some (.int (zI 0)))) ⟨by rw [bI_f (show ¬ zDn σ k by unfold zDn; omega)], rfl⟩ (hRH_19.eqT (fun a b => by rw [zBD_f (by unfold zDn; omega), if_pos (by omega)])) (hzH_19.trans rfl) hSH_19) hSH_19.2.2 dX4_becomesDone_61
      · refine z_tov (w := .ref (g 5 (σ 18 k))) (by rw [xPl_s p_20]; rfl) ?_
        refine lv_astore_n (lv' := [(2, .ref (g 5 (σ 18 k))), (0, .ref (g 0 0)), (1, .ref (g 6 k))]) hx hb dX4_becomesDone_28 rfl hl (by decide) rfl (fun ls hl => ?_)
        refine lv_aload_n hx hb dX4_becomesDone_29 rfl (lv_at hl 2 rfl) ?_
        refine z_get hx hb hts in_X4_becomesDone_X0 hown hK (hRH_19.c (i := k) (by show 0 ≤ k ∧ k < σ 14 0; omega)) rfl 5 (by decide) lk_X4_becomesDone_125 rfl rfl dX4_becomesDone_30 ?_
        refine z_top (b := 3) (by rw [zup_s]) ?_
        refine z_iconst hx hb dX4_becomesDone_33 ?_
        refine z_icmp_ne (tgt := 60) hx hb dX4_becomesDone_34 (by decide) (by omega) (fun c_22 => ?_) (fun c_22 => ?_)
        · exact absurd c_22 (by decide)
        · refine lv_aload_n hx hb dX4_becomesDone_37 rfl (lv_at hl 0 rfl) ?_
          refine lv_ifnull hx hb dX4_becomesDone_38 ?_
          refine lv_aload_n hx hb dX4_becomesDone_41 rfl (lv_at hl 2 rfl) ?_
          refine z_get hx hb hts in_X4_becomesDone_X0 hown hK (hRH_19.c (i := k) (by show 0 ≤ k ∧ k < σ 14 0; omega)) rfl 6 (by decide) lk_X4_becomesDone_122 rfl rfl dX4_becomesDone_42 ?_
          refine z_top (b := σ 20 k) (by rw [zup_t (t := 19) (t' := 20) (by decide)]) ?_
          refine lv_aload_n hx hb dX4_becomesDone_45 rfl (lv_at hl 2 rfl) ?_
          refine z_get hx hb hts in_X4_becomesDone_X0 hown hK (hRH_19.c (i := k) (by show 0 ≤ k ∧ k < σ 14 0; omega)) rfl 0 (by decide) lk_X4_becomesDone_102 rfl rfl dX4_becomesDone_46 ?_
          refine z_tov (w := .ref (g 4 (σ 15 k))) rfl ?_
          refine z_get hx hb hts in_X4_becomesDone_X2 hown hK (hRH_19.s (i := (σ 15 k)) (by show 0 ≤ (σ 15 k) ∧ (σ 15 k) < σ 5 0; omega)) rfl 3 (by decide) lk_X4_becomesDone_247 rfl rfl dX4_becomesDone_49 ?_
          refine z_top (b := σ 8 (σ 15 k)) (by rw [zup_t (t := 19) (t' := 8) (by decide)]) ?_
          refine z_iadd hx hb dX4_becomesDone_52 ?_
          refine lv_aload_n hx hb dX4_becomesDone_53 rfl (lv_at hl 1 rfl) ?_
          refine z_get hx hb hts in_X4_becomesDone_X4 hown hK hRH_19.x rfl 5 (by decide) lk_X4_becomesDone_68 rfl rfl dX4_becomesDone_54 ?_
          refine z_top (b := σ 1 0) (by rw [zup_t (t := 19) (t' := 1) (by decide)]) ?_
          refine z_icmp_le (tgt := 62) hx hb dX4_becomesDone_57 (by decide) (by omega) (fun c_23 => ?_) (fun c_23 => ?_)
          · refine lv_aload_n hx hb dX4_becomesDone_62 rfl (lv_at hl 2 rfl) ?_
            refine z_iconst hx hb dX4_becomesDone_63 ?_
            refine x_put hx hb hts in_X4_becomesDone_X0 tyX0 tyX0_ok nmX0 hown hK hRH_19 hSH_19 6 k (by decide) (by show 0 ≤ k ∧ k < σ 14 0; omega) rfl rfl 5 (by decide) lk_X4_becomesDone_125 rfl rfl rfl rfl (Nat.le_of_ble_eq_true rfl) (zup (zup σ 19 k 3) 19 k 4) (zOth.up (t := 6) (n := 19) zOth.rf rfl) xe_19 dX4_becomesDone_64 (fun H_24 locsH_24 hRH_24 hzH_24 hSH_24 => ?_)
            rw [zup_2] at hRH_24
            refine lv_aload_n hx hb dX4_becomesDone_67 rfl (lv_at hl 2 rfl) ?_
            refine z_get hx hb hts in_X4_becomesDone_X0 hown hK (hRH_24.c (i := k) (by show 0 ≤ k ∧ k < σ 14 0; omega)) rfl 0 (by decide) lk_X4_becomesDone_102 rfl rfl dX4_becomesDone_68 ?_
            refine z_tov (w := .ref (g 4 (σ 15 k))) rfl ?_
            refine lv_dup hx hb dX4_becomesDone_71 rfl ?_
            refine z_get hx hb hts in_X4_becomesDone_X2 hown hK (hRH_24.s (i := (σ 15 k)) (by show 0 ≤ (σ 15 k) ∧ (σ 15 k) < σ 5 0; omega)) rfl 5 (by decide) lk_X4_becomesDone_196 rfl rfl dX4_becomesDone_72 ?_
            refine z_top (b := σ 10 (σ 15 k)) (by rw [zup_t (t := 19) (t' := 10) (by decide)]) ?_
            refine lv_aload_n hx hb dX4_becomesDone_75 rfl (lv_at hl 2 rfl) ?_
            refine z_get hx hb hts in_X4_becomesDone_X0 hown hK (hRH_24.c (i := k) (by show 0 ≤ k ∧ k < σ 14 0; omega)) rfl 0 (by decide) lk_X4_becomesDone_102 rfl rfl dX4_becomesDone_76 ?_
            refine z_tov (w := .ref (g 4 (σ 15 k))) rfl ?_
            refine z_get hx hb hts in_X4_becomesDone_X2 hown hK (hRH_24.s (i := (σ 15 k)) (by show 0 ≤ (σ 15 k) ∧ (σ 15 k) < σ 5 0; omega)) rfl 3 (by decide) lk_X4_becomesDone_247 rfl rfl dX4_becomesDone_79 ?_
            refine z_top (b := σ 8 (σ 15 k)) (by rw [zup_t (t := 19) (t' := 8) (by decide)]) ?_
            refine lv_aload_n hx hb dX4_becomesDone_82 rfl (lv_at hl 0 rfl) ?_
            refine z_get hx hb hts in_X4_becomesDone_X1 hown hK (hRH_24.p (i := (σ 18 k)) (by show 0 ≤ (σ 18 k) ∧ (σ 18 k) < σ 11 0; omega)) rfl 2 (by decide) lk_X4_becomesDone_209 rfl rfl dX4_becomesDone_83 ?_
            refine z_top (b := σ 13 (σ 18 k)) (by rw [zup_t (t := 19) (t' := 13) (by decide)]) ?_
            refine z_imul hx hb dX4_becomesDone_86 ?_
            refine lv_aload_n hx hb dX4_becomesDone_87 rfl (lv_at hl 2 rfl) ?_
            refine z_get hx hb hts in_X4_becomesDone_X0 hown hK (hRH_24.c (i := k) (by show 0 ≤ k ∧ k < σ 14 0; omega)) rfl 0 (by decide) lk_X4_becomesDone_102 rfl rfl dX4_becomesDone_88 ?_
            refine z_tov (w := .ref (g 4 (σ 15 k))) rfl ?_
            refine z_get hx hb hts in_X4_becomesDone_X2 hown hK (hRH_24.s (i := (σ 15 k)) (by show 0 ≤ (σ 15 k) ∧ (σ 15 k) < σ 5 0; omega)) rfl 4 (by decide) lk_X4_becomesDone_250 rfl rfl dX4_becomesDone_91 ?_
            refine z_top (b := σ 9 (σ 15 k)) (by rw [zup_t (t := 19) (t' := 9) (by decide)]) ?_
            refine z_bipush hx hb dX4_becomesDone_94 (by decide +kernel) ?_
            refine z_imul hx hb dX4_becomesDone_96 ?_
            refine z_iadd hx hb dX4_becomesDone_97 ?_
            refine z_iadd hx hb dX4_becomesDone_98 ?_
            refine x_put hx hb hts in_X4_becomesDone_X2 tyX2 tyX2_ok nmX2 hown hK hRH_24 hSH_24 4 (σ 15 k) (by decide) (by show 0 ≤ (σ 15 k) ∧ (σ 15 k) < σ 5 0; omega) rfl rfl 5 (by decide) lk_X4_becomesDone_196 rfl rfl rfl rfl (Nat.le_of_ble_eq_true rfl) (zup (zup σ 19 k 4) 10 (σ 15 k) ((σ 10 (σ 15 k)) + (((σ 8 (σ 15 k)) * (σ 13 (σ 18 k))) + ((σ 9 (σ 15 k)) * 100)))) (zOth.up (t := 4) (n := 10) zOth.rf rfl) xe_10 dX4_becomesDone_99 (fun H_25 locsH_25 hRH_25 hzH_25 hSH_25 => ?_)
            refine lv_aload_n hx hb dX4_becomesDone_102 rfl (lv_at hl 0 rfl) ?_
            refine lv_dup hx hb dX4_becomesDone_103 rfl ?_
            refine z_get hx hb hts in_X4_becomesDone_X1 hown hK (hRH_25.p (i := (σ 18 k)) (by show 0 ≤ (σ 18 k) ∧ (σ 18 k) < σ 11 0; omega)) rfl 3 (by decide) lk_X4_becomesDone_199 rfl rfl dX4_becomesDone_104 ?_
            refine z_top (b := σ 30 (σ 18 k)) (by rw [zup_t (t := 10) (t' := 30) (by decide), zup_t (t := 19) (t' := 30) (by decide)]) ?_
            refine z_iconst hx hb dX4_becomesDone_107 ?_
            refine z_iadd hx hb dX4_becomesDone_108 ?_
            refine x_put hx hb hts in_X4_becomesDone_X1 tyX1 tyX1_ok nmX1 hown hK hRH_25 hSH_25 5 (σ 18 k) (by decide) (by show 0 ≤ (σ 18 k) ∧ (σ 18 k) < σ 11 0; omega) rfl rfl 3 (by decide) lk_X4_becomesDone_199 rfl rfl rfl rfl (Nat.le_of_ble_eq_true rfl) (zup (zup (zup σ 19 k 4) 10 (σ 15 k) ((σ 10 (σ 15 k)) + (((σ 8 (σ 15 k)) * (σ 13 (σ 18 k))) + ((σ 9 (σ 15 k)) * 100)))) 30 (σ 18 k) ((σ 30 (σ 18 k)) + 1)) (zOth.up (t := 5) (n := 30) zOth.rf rfl) xe_30 dX4_becomesDone_109 (fun H_26 locsH_26 hRH_26 hzH_26 hSH_26 => ?_)
            refine lv_aload_n hx hb dX4_becomesDone_112 rfl (lv_at hl 0 rfl) ?_
            refine lv_dup hx hb dX4_becomesDone_113 rfl ?_
            refine z_get hx hb hts in_X4_becomesDone_X1 hown hK (hRH_26.p (i := (σ 18 k)) (by show 0 ≤ (σ 18 k) ∧ (σ 18 k) < σ 11 0; omega)) rfl 4 (by decide) lk_X4_becomesDone_202 rfl rfl dX4_becomesDone_114 ?_
            refine z_top (b := σ 31 (σ 18 k)) (by rw [zup_t (t := 30) (t' := 31) (by decide), zup_t (t := 10) (t' := 31) (by decide), zup_t (t := 19) (t' := 31) (by decide)]) ?_
            refine lv_aload_n hx hb dX4_becomesDone_117 rfl (lv_at hl 2 rfl) ?_
            refine z_get hx hb hts in_X4_becomesDone_X0 hown hK (hRH_26.c (i := k) (by show 0 ≤ k ∧ k < σ 14 0; omega)) rfl 0 (by decide) lk_X4_becomesDone_102 rfl rfl dX4_becomesDone_118 ?_
            refine z_tov (w := .ref (g 4 (σ 15 k))) rfl ?_
            refine z_get hx hb hts in_X4_becomesDone_X2 hown hK (hRH_26.s (i := (σ 15 k)) (by show 0 ≤ (σ 15 k) ∧ (σ 15 k) < σ 5 0; omega)) rfl 3 (by decide) lk_X4_becomesDone_247 rfl rfl dX4_becomesDone_121 ?_
            refine z_top (b := σ 8 (σ 15 k)) (by rw [zup_t (t := 30) (t' := 8) (by decide), zup_t (t := 10) (t' := 8) (by decide), zup_t (t := 19) (t' := 8) (by decide)]) ?_
            refine z_iadd hx hb dX4_becomesDone_124 ?_
            refine x_put hx hb hts in_X4_becomesDone_X1 tyX1 tyX1_ok nmX1 hown hK hRH_26 hSH_26 5 (σ 18 k) (by decide) (by show 0 ≤ (σ 18 k) ∧ (σ 18 k) < σ 11 0; omega) rfl rfl 4 (by decide) lk_X4_becomesDone_202 rfl rfl rfl rfl (Nat.le_of_ble_eq_true rfl) (zup (zup (zup (zup σ 19 k 4) 10 (σ 15 k) ((σ 10 (σ 15 k)) + (((σ 8 (σ 15 k)) * (σ 13 (σ 18 k))) + ((σ 9 (σ 15 k)) * 100)))) 30 (σ 18 k) ((σ 30 (σ 18 k)) + 1)) 31 (σ 18 k) ((σ 31 (σ 18 k)) + (σ 8 (σ 15 k)))) (zOth.up (t := 5) (n := 31) zOth.rf rfl) xe_31 dX4_becomesDone_125 (fun H_27 locsH_27 hRH_27 hzH_27 hSH_27 => ?_)
            refine z_iconst hx hb dX4_becomesDone_128 ?_
            exact W.zret hx hb hr rfl (z_endX (post := fun r σ' => r = some (.int (zI (bI (zDn σ k)))) ∧ σ' = zBD σ k) (σ' := (zBD σ k)) (v := (some (.int (zI 1)))) ⟨by rw [bI_t (show zDn σ k by unfold zDn; omega)], rfl⟩ (hRH_27.eqT (fun a b => by rw [zBD_t (by unfold zDn; omega)])) (hzH_27.trans (hzH_26.trans (hzH_25.trans (hzH_24.trans (hzH_19.trans rfl))))) hSH_27) hSH_27.2.2 dX4_becomesDone_129
          · refine z_iconst hx hb dX4_becomesDone_60 ?_
            exact W.zret hx hb hr rfl (z_endX (post := fun r σ' => r = some (.int (zI (bI (zDn σ k)))) ∧ σ' = zBD σ k) (σ' := (zBD σ k)) (v := (some (.int (zI 0)))) ⟨by rw [bI_f (show ¬ zDn σ k by unfold zDn; omega)], rfl⟩ (hRH_19.eqT (fun a b => by rw [zBD_f (by unfold zDn; omega), if_pos (by omega)])) (hzH_19.trans rfl) hSH_19) hSH_19.2.2 dX4_becomesDone_61
