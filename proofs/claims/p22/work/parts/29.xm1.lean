/-! the class: what is demanded of arguments -/
theorem ck_X4_demandWithin_222 : Cond.classLink RX4 222 "java/lang/IllegalArgumentException" ∈ wsX4_demandWithin := by decide +kernel
theorem ci_X4_demandWithin_222 : Cond.initialized "java/lang/IllegalArgumentException" ∈ wsX4_demandWithin := by decide +kernel
theorem cw_X4_demandWithin_226 : ∀ w ∈ (vx_atS RX4 226 "java/lang/IllegalArgumentException" ["java/lang/RuntimeException", "java/lang/Exception"]).filter goodWord, w ∈ wsX4_demandWithin := by decide +kernel
set_option maxRecDepth 100000 in
set_option maxHeartbeats 4000000 in
theorem c_X4_demandWithin (l : Launch) (hfl : l.stackTraces = false) (D : va_G) (cI cO cL : ClassId) (A : Nat → Prop) (eE mi : Nat) (sa : Nat → Nat) (g : zG) (σ : zT) (H0 : Heap) (hR : RX D cO A eE g σ H0) (v lo hi : Int) (hv : (-2147483648 ≤ v ∧ v < 2147483648) ∧ (-2147483648 ≤ lo ∧ lo < 2147483648) ∧ (-2147483648 ≤ hi ∧ hi < 2147483648)) : zXM l yX4_demandWithin wsX4_demandWithin ({ frames := 6, cells := 1, slots := 6, locals := 82 }) D cI cO cL A eE mi sa g σ [.int (zI v), .int (zI lo), .int (zI hi)] H0 (fun r σ' g' => (lo ≤ v ∧ v ≤ hi) ∧ r = none ∧ σ' = σ ∧ g' = g) (fun E => ¬ (lo ≤ v ∧ v ≤ hi) ∧ E = xIA) := by
  refine vx_ofW (cc := cX4_demandWithin) (maxL := 3) (ret := none) (by decide) rfl ?_
  intro p e s m args below meth c s₁ B hml hno hv
  obtain ⟨rfl, hH, hG⟩ := hv
  subst hH
  have hK := hG.k
  have hx := B.exec
  have hb := B.bytes
  have hr := B.returns
  have hts := atoms_spec (ws := wsX4_demandWithin) B.pre
  have hown : s.vm.findClass RX4 = some m.cls := findClass_of_methodNamed B.named
  have hlocks := B.notSynchronized
  have hl := lv_entry ([.int (zI v), .int (zI lo), .int (zI hi)]) (n := 3) (Nat.le_of_ble_eq_true rfl)
  rw [lg_entry_eq]
  generalize (lg_sl ([.int (zI v), .int (zI lo), .int (zI hi)]) ++ List.replicate (3 - (lg_sl ([.int (zI v), .int (zI lo), .int (zI hi)])).length) Slot.unset).toArray = ls at hl ⊢
  have hl : lv_has ls 3 [(0, .int (zI v)), (1, .int (zI lo)), (2, .int (zI hi))] := hl
  refine lv_iload_n hx hb dX4_demandWithin_0 rfl (lv_at hl 0 rfl) ?_
  refine lv_iload_n hx hb dX4_demandWithin_1 rfl (lv_at hl 1 rfl) ?_
  refine z_icmp_lt (tgt := 10) hx hb dX4_demandWithin_2 (by decide) (by omega) (fun c_1 => ?_) (fun c_1 => ?_)
  · exact z_throw (px := fun E => ¬ (lo ≤ v ∧ v ≤ hi) ∧ E = xIA) (text := "out of range") hx hb hfl hno hlocks hown hts (hl.1.trans hml.symm) x_fit1 x_nms ck_X4_demandWithin_222 ci_X4_demandWithin_222 cw_X4_demandWithin_226 x_bad1 (by decide) (by decide) x_good1 hG hR va_S.rf ⟨by omega, rfl⟩ dX4_demandWithin_10 dX4_demandWithin_13 dX4_demandWithin_14 dX4_demandWithin_16 dX4_demandWithin_19 ⟨Nat.le_of_ble_eq_true rfl, Nat.le_of_ble_eq_true rfl, Nat.le_of_ble_eq_true rfl, Nat.le_of_ble_eq_true rfl, Nat.le_of_ble_eq_true rfl, Nat.le_of_ble_eq_true rfl⟩
  · refine lv_iload_n hx hb dX4_demandWithin_5 rfl (lv_at hl 0 rfl) ?_
    refine lv_iload_n hx hb dX4_demandWithin_6 rfl (lv_at hl 2 rfl) ?_
    refine z_icmp_le (tgt := 20) hx hb dX4_demandWithin_7 (by decide) (by omega) (fun c_2 => ?_) (fun c_2 => ?_)
    · exact vx_ret (W.widen (k := 1) (n := 6) (Nat.le_of_ble_eq_true rfl) (Nat.le_of_ble_eq_true rfl) (W.vret hx hb hr (z_endG (post := fun r σ' g' => (lo ≤ v ∧ v ≤ hi) ∧ r = none ∧ σ' = σ ∧ g' = g) (σ' := σ) (g' := g) (v := none) ⟨by omega, rfl, rfl, rfl⟩ hR va_S.rf) (fun _ h => nomatch h) dX4_demandWithin_20))
    · exact z_throw (px := fun E => ¬ (lo ≤ v ∧ v ≤ hi) ∧ E = xIA) (text := "out of range") hx hb hfl hno hlocks hown hts (hl.1.trans hml.symm) x_fit1 x_nms ck_X4_demandWithin_222 ci_X4_demandWithin_222 cw_X4_demandWithin_226 x_bad1 (by decide) (by decide) x_good1 hG hR va_S.rf ⟨by omega, rfl⟩ dX4_demandWithin_10 dX4_demandWithin_13 dX4_demandWithin_14 dX4_demandWithin_16 dX4_demandWithin_19 ⟨Nat.le_of_ble_eq_true rfl, Nat.le_of_ble_eq_true rfl, Nat.le_of_ble_eq_true rfl, Nat.le_of_ble_eq_true rfl, Nat.le_of_ble_eq_true rfl, Nat.le_of_ble_eq_true rfl⟩

theorem ck_X4_demandRoom_92 : Cond.classLink RX4 92 "java/lang/IllegalStateException" ∈ wsX4_demandRoom := by decide +kernel
theorem ci_X4_demandRoom_92 : Cond.initialized "java/lang/IllegalStateException" ∈ wsX4_demandRoom := by decide +kernel
theorem cw_X4_demandRoom_96 : ∀ w ∈ (vx_atS RX4 96 "java/lang/IllegalStateException" ["java/lang/RuntimeException", "java/lang/Exception"]).filter goodWord, w ∈ wsX4_demandRoom := by decide +kernel
set_option maxRecDepth 100000 in
set_option maxHeartbeats 4000000 in
theorem c_X4_demandRoom (l : Launch) (hfl : l.stackTraces = false) (D : va_G) (cI cO cL : ClassId) (A : Nat → Prop) (eE mi : Nat) (sa : Nat → Nat) (g : zG) (σ : zT) (H0 : Heap) (hR : RX D cO A eE g σ H0) (v hi : Int) (hv : (-2147483648 ≤ v ∧ v < 2147483648) ∧ (-2147483648 ≤ hi ∧ hi < 2147483648)) : zXM l yX4_demandRoom wsX4_demandRoom ({ frames := 6, cells := 1, slots := 6, locals := 82 }) D cI cO cL A eE mi sa g σ [.int (zI v), .int (zI hi)] H0 (fun r σ' g' => (v < hi) ∧ r = none ∧ σ' = σ ∧ g' = g) (fun E => ¬ (v < hi) ∧ E = xIS) := by
  refine vx_ofW (cc := cX4_demandRoom) (maxL := 2) (ret := none) (by decide) rfl ?_
  intro p e s m args below meth c s₁ B hml hno hv
  obtain ⟨rfl, hH, hG⟩ := hv
  subst hH
  have hK := hG.k
  have hx := B.exec
  have hb := B.bytes
  have hr := B.returns
  have hts := atoms_spec (ws := wsX4_demandRoom) B.pre
  have hown : s.vm.findClass RX4 = some m.cls := findClass_of_methodNamed B.named
  have hlocks := B.notSynchronized
  have hl := lv_entry ([.int (zI v), .int (zI hi)]) (n := 2) (Nat.le_of_ble_eq_true rfl)
  rw [lg_entry_eq]
  generalize (lg_sl ([.int (zI v), .int (zI hi)]) ++ List.replicate (2 - (lg_sl ([.int (zI v), .int (zI hi)])).length) Slot.unset).toArray = ls at hl ⊢
  have hl : lv_has ls 2 [(0, .int (zI v)), (1, .int (zI hi))] := hl
  refine lv_iload_n hx hb dX4_demandRoom_0 rfl (lv_at hl 0 rfl) ?_
  refine lv_iload_n hx hb dX4_demandRoom_1 rfl (lv_at hl 1 rfl) ?_
  refine z_icmp_lt (tgt := 15) hx hb dX4_demandRoom_2 (by decide) (by omega) (fun c_1 => ?_) (fun c_1 => ?_)
  · exact vx_ret (W.widen (k := 1) (n := 6) (Nat.le_of_ble_eq_true rfl) (Nat.le_of_ble_eq_true rfl) (W.vret hx hb hr (z_endG (post := fun r σ' g' => (v < hi) ∧ r = none ∧ σ' = σ ∧ g' = g) (σ' := σ) (g' := g) (v := none) ⟨by omega, rfl, rfl, rfl⟩ hR va_S.rf) (fun _ h => nomatch h) dX4_demandRoom_15))
  · exact z_throw (px := fun E => ¬ (v < hi) ∧ E = xIS) (text := "no more room") hx hb hfl hno hlocks hown hts (hl.1.trans hml.symm) x_fit2 x_nms ck_X4_demandRoom_92 ci_X4_demandRoom_92 cw_X4_demandRoom_96 x_bad2 (by decide) (by decide) x_good2 hG hR va_S.rf ⟨by omega, rfl⟩ dX4_demandRoom_5 dX4_demandRoom_8 dX4_demandRoom_9 dX4_demandRoom_11 dX4_demandRoom_14 ⟨Nat.le_of_ble_eq_true rfl, Nat.le_of_ble_eq_true rfl, Nat.le_of_ble_eq_true rfl, Nat.le_of_ble_eq_true rfl, Nat.le_of_ble_eq_true rfl, Nat.le_of_ble_eq_true rfl⟩

theorem ck_X4_demandWho_175 : Cond.classLink RX4 175 "java/lang/IndexOutOfBoundsException" ∈ wsX4_demandWho := by decide +kernel
theorem ci_X4_demandWho_175 : Cond.initialized "java/lang/IndexOutOfBoundsException" ∈ wsX4_demandWho := by decide +kernel
theorem cw_X4_demandWho_179 : ∀ w ∈ (vx_atS RX4 179 "java/lang/IndexOutOfBoundsException" ["java/lang/RuntimeException", "java/lang/Exception"]).filter goodWord, w ∈ wsX4_demandWho := by decide +kernel
set_option maxRecDepth 100000 in
set_option maxHeartbeats 4000000 in
theorem c_X4_demandWho (l : Launch) (hfl : l.stackTraces = false) (D : va_G) (cI cO cL : ClassId) (A : Nat → Prop) (eE mi : Nat) (sa : Nat → Nat) (g : zG) (σ : zT) (H0 : Heap) (hR : RX D cO A eE g σ H0) (v : Int) (hv : (-2147483648 ≤ v ∧ v < 2147483648)) : zXM l yX4_demandWho wsX4_demandWho ({ frames := 6, cells := 1, slots := 6, locals := 82 }) D cI cO cL A eE mi sa g σ [.int (zI v)] H0 (fun r σ' g' => (0 ≤ v ∧ v ≤ 2) ∧ r = none ∧ σ' = σ ∧ g' = g) (fun E => ¬ (0 ≤ v ∧ v ≤ 2) ∧ E = xIO) := by
  refine vx_ofW (cc := cX4_demandWho) (maxL := 1) (ret := none) (by decide) rfl ?_
  intro p e s m args below meth c s₁ B hml hno hv
  obtain ⟨rfl, hH, hG⟩ := hv
  subst hH
  have hK := hG.k
  have hx := B.exec
  have hb := B.bytes
  have hr := B.returns
  have hts := atoms_spec (ws := wsX4_demandWho) B.pre
  have hown : s.vm.findClass RX4 = some m.cls := findClass_of_methodNamed B.named
  have hlocks := B.notSynchronized
  have hl := lv_entry ([.int (zI v)]) (n := 1) (Nat.le_of_ble_eq_true rfl)
  rw [lg_entry_eq]
  generalize (lg_sl ([.int (zI v)]) ++ List.replicate (1 - (lg_sl ([.int (zI v)])).length) Slot.unset).toArray = ls at hl ⊢
  have hl : lv_has ls 1 [(0, .int (zI v))] := hl
  refine lv_iload_n hx hb dX4_demandWho_0 rfl (lv_at hl 0 rfl) ?_
  refine z_if_lt (tgt := 9) hx hb dX4_demandWho_1 (by decide) (by omega) (fun c_1 => ?_) (fun c_1 => ?_)
  · exact z_throw (px := fun E => ¬ (0 ≤ v ∧ v ≤ 2) ∧ E = xIO) (text := "who is out of range") hx hb hfl hno hlocks hown hts (hl.1.trans hml.symm) x_fit3 x_nms ck_X4_demandWho_175 ci_X4_demandWho_175 cw_X4_demandWho_179 x_bad3 (by decide) (by decide) x_good3 hG hR va_S.rf ⟨by omega, rfl⟩ dX4_demandWho_9 dX4_demandWho_12 dX4_demandWho_13 dX4_demandWho_15 dX4_demandWho_18 ⟨Nat.le_of_ble_eq_true rfl, Nat.le_of_ble_eq_true rfl, Nat.le_of_ble_eq_true rfl, Nat.le_of_ble_eq_true rfl, Nat.le_of_ble_eq_true rfl, Nat.le_of_ble_eq_true rfl⟩
  · refine lv_iload_n hx hb dX4_demandWho_4 rfl (lv_at hl 0 rfl) ?_
    refine z_iconst hx hb dX4_demandWho_5 ?_
    refine z_icmp_le (tgt := 19) hx hb dX4_demandWho_6 (by decide) (by omega) (fun c_2 => ?_) (fun c_2 => ?_)
    · exact vx_ret (W.widen (k := 1) (n := 6) (Nat.le_of_ble_eq_true rfl) (Nat.le_of_ble_eq_true rfl) (W.vret hx hb hr (z_endG (post := fun r σ' g' => (0 ≤ v ∧ v ≤ 2) ∧ r = none ∧ σ' = σ ∧ g' = g) (σ' := σ) (g' := g) (v := none) ⟨by omega, rfl, rfl, rfl⟩ hR va_S.rf) (fun _ h => nomatch h) dX4_demandWho_19))
    · exact z_throw (px := fun E => ¬ (0 ≤ v ∧ v ≤ 2) ∧ E = xIO) (text := "who is out of range") hx hb hfl hno hlocks hown hts (hl.1.trans hml.symm) x_fit3 x_nms ck_X4_demandWho_175 ci_X4_demandWho_175 cw_X4_demandWho_179 x_bad3 (by decide) (by decide) x_good3 hG hR va_S.rf ⟨by omega, rfl⟩ dX4_demandWho_9 dX4_demandWho_12 dX4_demandWho_13 dX4_demandWho_15 dX4_demandWho_18 ⟨Nat.le_of_ble_eq_true rfl, Nat.le_of_ble_eq_true rfl, Nat.le_of_ble_eq_true rfl, Nat.le_of_ble_eq_true rfl, Nat.le_of_ble_eq_true rfl, Nat.le_of_ble_eq_true rfl⟩

theorem ck_X4_shipAt_175 : Cond.classLink RX4 175 "java/lang/IndexOutOfBoundsException" ∈ wsX4_shipAt := by decide +kernel
theorem ci_X4_shipAt_175 : Cond.initialized "java/lang/IndexOutOfBoundsException" ∈ wsX4_shipAt := by decide +kernel
theorem cw_X4_shipAt_179 : ∀ w ∈ (vx_atS RX4 179 "java/lang/IndexOutOfBoundsException" ["java/lang/RuntimeException", "java/lang/Exception"]).filter goodWord, w ∈ wsX4_shipAt := by decide +kernel
theorem lk_X4_shipAt_19 : Cond.fieldLink RX4 19 "HarbourPilotline" "ships" "Ljava/util/ArrayList;" ∈ wsX4_shipAt := by decide +kernel
theorem ck_X4_shipAt_51 : Cond.classLink RX4 51 "HarbourPilotline$Ship" ∈ wsX4_shipAt := by decide +kernel
theorem in_X4_shipAt_X4 : ∀ w ∈ wsX40, w ∈ wsX4_shipAt := by decide +kernel
set_option maxRecDepth 100000 in
set_option maxHeartbeats 4000000 in
theorem c_X4_shipAt (l : Launch) (hfl : l.stackTraces = false) (D : va_G) (cI cO cL : ClassId) (A : Nat → Prop) (eE mi : Nat) (sa : Nat → Nat) (g : zG) (σ : zT) (H0 : Heap) (hR : RX D cO A eE g σ H0) (v : Int) (hI : zInv σ) (hv : (-2147483648 ≤ v ∧ v < 2147483648)) : zXM l yX4_shipAt wsX4_shipAt ({ frames := 6, cells := 1, slots := 6, locals := 82 }) D cI cO cL A eE mi sa g σ [.ref (g 0 0), .int (zI v)] H0 (fun r σ' g' => (0 ≤ v ∧ v < σ 5 0) ∧ r = some (.ref (g 4 v)) ∧ σ' = σ ∧ g' = g) (fun E => ¬ (0 ≤ v ∧ v < σ 5 0) ∧ E = xIO) := by
  refine vx_ofW (cc := cX4_shipAt) (maxL := 2) (ret := (some (.object "HarbourPilotline$Ship"))) (by decide) rfl ?_
  intro p e s m args below meth c s₁ B hml hno hv
  obtain ⟨rfl, hH, hG⟩ := hv
  subst hH
  have hK := hG.k
  have hx := B.exec
  have hb := B.bytes
  have hr := B.returns
  have hts := atoms_spec (ws := wsX4_shipAt) B.pre
  have hown : s.vm.findClass RX4 = some m.cls := findClass_of_methodNamed B.named
  have hlocks := B.notSynchronized
  have hl := lv_entry ([.ref (g 0 0), .int (zI v)]) (n := 2) (Nat.le_of_ble_eq_true rfl)
  rw [lg_entry_eq]
  generalize (lg_sl ([.ref (g 0 0), .int (zI v)]) ++ List.replicate (2 - (lg_sl ([.ref (g 0 0), .int (zI v)])).length) Slot.unset).toArray = ls at hl ⊢
  have hl : lv_has ls 2 [(0, .ref (g 0 0)), (1, .int (zI v))] := hl
  have f0 := hI.r
  refine lv_iload_n hx hb dX4_shipAt_0 rfl (lv_at hl 1 rfl) ?_
  refine z_if_lt (tgt := 15) hx hb dX4_shipAt_1 (by decide) (by omega) (fun c_1 => ?_) (fun c_1 => ?_)
  · exact z_throw (px := fun E => ¬ (0 ≤ v ∧ v < σ 5 0) ∧ E = xIO) (text := "no such ship") hx hb hfl hno hlocks hown hts (hl.1.trans hml.symm) x_fit3 x_nms ck_X4_shipAt_175 ci_X4_shipAt_175 cw_X4_shipAt_179 x_bad3 (by decide) (by decide) x_good3 hG hR va_S.rf ⟨by omega, rfl⟩ dX4_shipAt_15 dX4_shipAt_18 dX4_shipAt_19 dX4_shipAt_21 dX4_shipAt_24 ⟨Nat.le_of_ble_eq_true rfl, Nat.le_of_ble_eq_true rfl, Nat.le_of_ble_eq_true rfl, Nat.le_of_ble_eq_true rfl, Nat.le_of_ble_eq_true rfl, Nat.le_of_ble_eq_true rfl⟩
  · refine lv_iload_n hx hb dX4_shipAt_4 rfl (lv_at hl 1 rfl) ?_
    refine lv_aload_n hx hb dX4_shipAt_5 rfl (lv_at hl 0 rfl) ?_
    refine z_get hx hb hts in_X4_shipAt_X4 hown hK hR.x rfl 1 (by decide) lk_X4_shipAt_19 rfl rfl dX4_shipAt_6 ?_
    refine z_cv (As := []) (rest := [.int (zI v)]) ⟨hx, hb, hml, hown, hts⟩ (c_size l cI cL hR (i := 0) (by decide)) (cwV 0 hts gX4_shipAt_Jx4a65c_size_8abf5 rfl rfl rfl (by decide +kernel) ⟨Nat.le_of_ble_eq_true rfl, Nat.le_of_ble_eq_true rfl⟩) (zKK_mv D cI cO cL) (fun U _ hv => va_K.moved hv hK) (z_recv hK (hR.l (i := 0) (by decide)) rfl) rfl hl.1 rfl (Nat.le_of_ble_eq_true rfl) dX4_shipAt_9 ⟨Nat.le_of_ble_eq_true rfl, Nat.le_of_ble_eq_true rfl⟩ (fun r_2 hr_2 => ?_)
    rw [hr_2]
    refine z_top (b := σ 5 0) rfl ?_
    refine z_icmp_lt (tgt := 25) hx hb dX4_shipAt_12 (by decide) (by omega) (fun c_3 => ?_) (fun c_3 => ?_)
    · refine lv_aload_n hx hb dX4_shipAt_25 rfl (lv_at hl 0 rfl) ?_
      refine z_get hx hb hts in_X4_shipAt_X4 hown hK hR.x rfl 1 (by decide) lk_X4_shipAt_19 rfl rfl dX4_shipAt_26 ?_
      refine lv_iload_n hx hb dX4_shipAt_29 rfl (lv_at hl 1 rfl) ?_
      refine z_cv (As := [.int (zI v)]) (rest := []) ⟨hx, hb, hml, hown, hts⟩ (c_get l cI cL hR (i := 0) (k := v) (by decide) (show 0 ≤ v ∧ v < σ 5 0 by omega)) (cwV 1 hts gX4_shipAt_Jx4a65c_get_915e3 rfl rfl rfl (by decide +kernel) ⟨Nat.le_of_ble_eq_true rfl, Nat.le_of_ble_eq_true rfl⟩) (zKK_mv D cI cO cL) (fun U _ hv => va_K.moved hv hK) (z_recv hK (hR.l (i := 0) (by decide)) rfl) rfl hl.1 rfl (Nat.le_of_ble_eq_true rfl) dX4_shipAt_30 ⟨Nat.le_of_ble_eq_true rfl, Nat.le_of_ble_eq_true rfl⟩ (fun r_4 hr_4 => ?_)
      rw [hr_4]
      refine z_tov (w := .ref (g 4 v)) rfl ?_
      refine va_castE (nm := "HarbourPilotline$Ship") hx hb hown (hts _ ck_X4_shipAt_51) (z_recv hK (hR.s (i := v) (by show 0 ≤ v ∧ v < σ 5 0; omega)) rfl) dX4_shipAt_33 ?_
      exact vx_ret (W.widen (k := 1) (n := 6) (Nat.le_of_ble_eq_true rfl) (Nat.le_of_ble_eq_true rfl) (W.aret hx hb hr (Or.inl ⟨_, rfl⟩) (Or.inr ⟨_, rfl⟩) (z_endG (post := fun r σ' g' => (0 ≤ v ∧ v < σ 5 0) ∧ r = some (.ref (g 4 v)) ∧ σ' = σ ∧ g' = g) (σ' := σ) (g' := g) (v := (some (.ref (g 4 v)))) ⟨by omega, rfl, rfl, rfl⟩ hR va_S.rf) (fun _ h => nomatch h) dX4_shipAt_36))
    · exact z_throw (px := fun E => ¬ (0 ≤ v ∧ v < σ 5 0) ∧ E = xIO) (text := "no such ship") hx hb hfl hno hlocks hown hts (hl.1.trans hml.symm) x_fit3 x_nms ck_X4_shipAt_175 ci_X4_shipAt_175 cw_X4_shipAt_179 x_bad3 (by decide) (by decide) x_good3 hG hR va_S.rf ⟨by omega, rfl⟩ dX4_shipAt_15 dX4_shipAt_18 dX4_shipAt_19 dX4_shipAt_21 dX4_shipAt_24 ⟨Nat.le_of_ble_eq_true rfl, Nat.le_of_ble_eq_true rfl, Nat.le_of_ble_eq_true rfl, Nat.le_of_ble_eq_true rfl, Nat.le_of_ble_eq_true rfl, Nat.le_of_ble_eq_true rfl⟩

theorem ck_X4_pilotAt_175 : Cond.classLink RX4 175 "java/lang/IndexOutOfBoundsException" ∈ wsX4_pilotAt := by decide +kernel
theorem ci_X4_pilotAt_175 : Cond.initialized "java/lang/IndexOutOfBoundsException" ∈ wsX4_pilotAt := by decide +kernel
theorem cw_X4_pilotAt_179 : ∀ w ∈ (vx_atS RX4 179 "java/lang/IndexOutOfBoundsException" ["java/lang/RuntimeException", "java/lang/Exception"]).filter goodWord, w ∈ wsX4_pilotAt := by decide +kernel
theorem lk_X4_pilotAt_23 : Cond.fieldLink RX4 23 "HarbourPilotline" "pilots" "Ljava/util/ArrayList;" ∈ wsX4_pilotAt := by decide +kernel
theorem ck_X4_pilotAt_60 : Cond.classLink RX4 60 "HarbourPilotline$Pilot" ∈ wsX4_pilotAt := by decide +kernel
theorem in_X4_pilotAt_X4 : ∀ w ∈ wsX40, w ∈ wsX4_pilotAt := by decide +kernel
set_option maxRecDepth 100000 in
set_option maxHeartbeats 4000000 in
theorem c_X4_pilotAt (l : Launch) (hfl : l.stackTraces = false) (D : va_G) (cI cO cL : ClassId) (A : Nat → Prop) (eE mi : Nat) (sa : Nat → Nat) (g : zG) (σ : zT) (H0 : Heap) (hR : RX D cO A eE g σ H0) (v : Int) (hI : zInv σ) (hv : (-2147483648 ≤ v ∧ v < 2147483648)) : zXM l yX4_pilotAt wsX4_pilotAt ({ frames := 6, cells := 1, slots := 6, locals := 82 }) D cI cO cL A eE mi sa g σ [.ref (g 0 0), .int (zI v)] H0 (fun r σ' g' => (0 ≤ v ∧ v < σ 11 0) ∧ r = some (.ref (g 5 v)) ∧ σ' = σ ∧ g' = g) (fun E => ¬ (0 ≤ v ∧ v < σ 11 0) ∧ E = xIO) := by
  refine vx_ofW (cc := cX4_pilotAt) (maxL := 2) (ret := (some (.object "HarbourPilotline$Pilot"))) (by decide) rfl ?_
  intro p e s m args below meth c s₁ B hml hno hv
  obtain ⟨rfl, hH, hG⟩ := hv
  subst hH
  have hK := hG.k
  have hx := B.exec
  have hb := B.bytes
  have hr := B.returns
  have hts := atoms_spec (ws := wsX4_pilotAt) B.pre
  have hown : s.vm.findClass RX4 = some m.cls := findClass_of_methodNamed B.named
  have hlocks := B.notSynchronized
  have hl := lv_entry ([.ref (g 0 0), .int (zI v)]) (n := 2) (Nat.le_of_ble_eq_true rfl)
  rw [lg_entry_eq]
  generalize (lg_sl ([.ref (g 0 0), .int (zI v)]) ++ List.replicate (2 - (lg_sl ([.ref (g 0 0), .int (zI v)])).length) Slot.unset).toArray = ls at hl ⊢
  have hl : lv_has ls 2 [(0, .ref (g 0 0)), (1, .int (zI v))] := hl
  have f0 := hI.r
  refine lv_iload_n hx hb dX4_pilotAt_0 rfl (lv_at hl 1 rfl) ?_
  refine z_if_lt (tgt := 15) hx hb dX4_pilotAt_1 (by decide) (by omega) (fun c_1 => ?_) (fun c_1 => ?_)
  · exact z_throw (px := fun E => ¬ (0 ≤ v ∧ v < σ 11 0) ∧ E = xIO) (text := "no such pilot") hx hb hfl hno hlocks hown hts (hl.1.trans hml.symm) x_fit3 x_nms ck_X4_pilotAt_175 ci_X4_pilotAt_175 cw_X4_pilotAt_179 x_bad3 (by decide) (by decide) x_good3 hG hR va_S.rf ⟨by omega, rfl⟩ dX4_pilotAt_15 dX4_pilotAt_18 dX4_pilotAt_19 dX4_pilotAt_21 dX4_pilotAt_24 ⟨Nat.le_of_ble_eq_true rfl, Nat.le_of_ble_eq_true rfl, Nat.le_of_ble_eq_true rfl, Nat.le_of_ble_eq_true rfl, Nat.le_of_ble_eq_true rfl, Nat.le_of_ble_eq_true rfl⟩
  · refine lv_iload_n hx hb dX4_pilotAt_4 rfl (lv_at hl 1 rfl) ?_
    refine lv_aload_n hx hb dX4_pilotAt_5 rfl (lv_at hl 0 rfl) ?_
    refine z_get hx hb hts in_X4_pilotAt_X4 hown hK hR.x rfl 2 (by decide) lk_X4_pilotAt_23 rfl rfl dX4_pilotAt_6 ?_
    refine z_cv (As := []) (rest := [.int (zI v)]) ⟨hx, hb, hml, hown, hts⟩ (c_size l cI cL hR (i := 1) (by decide)) (cwV 0 hts gX4_pilotAt_Jx4a65c_size_8abf5 rfl rfl rfl (by decide +kernel) ⟨Nat.le_of_ble_eq_true rfl, Nat.le_of_ble_eq_true rfl⟩) (zKK_mv D cI cO cL) (fun U _ hv => va_K.moved hv hK) (z_recv hK (hR.l (i := 1) (by decide)) rfl) rfl hl.1 rfl (Nat.le_of_ble_eq_true rfl) dX4_pilotAt_9 ⟨Nat.le_of_ble_eq_true rfl, Nat.le_of_ble_eq_true rfl⟩ (fun r_2 hr_2 => ?_)
    rw [hr_2]
    refine z_top (b := σ 11 0) rfl ?_
    refine z_icmp_lt (tgt := 25) hx hb dX4_pilotAt_12 (by decide) (by omega) (fun c_3 => ?_) (fun c_3 => ?_)
    · refine lv_aload_n hx hb dX4_pilotAt_25 rfl (lv_at hl 0 rfl) ?_
      refine z_get hx hb hts in_X4_pilotAt_X4 hown hK hR.x rfl 2 (by decide) lk_X4_pilotAt_23 rfl rfl dX4_pilotAt_26 ?_
      refine lv_iload_n hx hb dX4_pilotAt_29 rfl (lv_at hl 1 rfl) ?_
      refine z_cv (As := [.int (zI v)]) (rest := []) ⟨hx, hb, hml, hown, hts⟩ (c_get l cI cL hR (i := 1) (k := v) (by decide) (show 0 ≤ v ∧ v < σ 11 0 by omega)) (cwV 1 hts gX4_pilotAt_Jx4a65c_get_915e3 rfl rfl rfl (by decide +kernel) ⟨Nat.le_of_ble_eq_true rfl, Nat.le_of_ble_eq_true rfl⟩) (zKK_mv D cI cO cL) (fun U _ hv => va_K.moved hv hK) (z_recv hK (hR.l (i := 1) (by decide)) rfl) rfl hl.1 rfl (Nat.le_of_ble_eq_true rfl) dX4_pilotAt_30 ⟨Nat.le_of_ble_eq_true rfl, Nat.le_of_ble_eq_true rfl⟩ (fun r_4 hr_4 => ?_)
      rw [hr_4]
      refine z_tov (w := .ref (g 5 v)) rfl ?_
      refine va_castE (nm := "HarbourPilotline$Pilot") hx hb hown (hts _ ck_X4_pilotAt_60) (z_recv hK (hR.p (i := v) (by show 0 ≤ v ∧ v < σ 11 0; omega)) rfl) dX4_pilotAt_33 ?_
      exact vx_ret (W.widen (k := 1) (n := 6) (Nat.le_of_ble_eq_true rfl) (Nat.le_of_ble_eq_true rfl) (W.aret hx hb hr (Or.inl ⟨_, rfl⟩) (Or.inr ⟨_, rfl⟩) (z_endG (post := fun r σ' g' => (0 ≤ v ∧ v < σ 11 0) ∧ r = some (.ref (g 5 v)) ∧ σ' = σ ∧ g' = g) (σ' := σ) (g' := g) (v := (some (.ref (g 5 v)))) ⟨by omega, rfl, rfl, rfl⟩ hR va_S.rf) (fun _ h => nomatch h) dX4_pilotAt_36))
    · exact z_throw (px := fun E => ¬ (0 ≤ v ∧ v < σ 11 0) ∧ E = xIO) (text := "no such pilot") hx hb hfl hno hlocks hown hts (hl.1.trans hml.symm) x_fit3 x_nms ck_X4_pilotAt_175 ci_X4_pilotAt_175 cw_X4_pilotAt_179 x_bad3 (by decide) (by decide) x_good3 hG hR va_S.rf ⟨by omega, rfl⟩ dX4_pilotAt_15 dX4_pilotAt_18 dX4_pilotAt_19 dX4_pilotAt_21 dX4_pilotAt_24 ⟨Nat.le_of_ble_eq_true rfl, Nat.le_of_ble_eq_true rfl, Nat.le_of_ble_eq_true rfl, Nat.le_of_ble_eq_true rfl, Nat.le_of_ble_eq_true rfl, Nat.le_of_ble_eq_true rfl⟩

theorem ck_X4_conferenceAt_175 : Cond.classLink RX4 175 "java/lang/IndexOutOfBoundsException" ∈ wsX4_conferenceAt := by decide +kernel
theorem ci_X4_conferenceAt_175 : Cond.initialized "java/lang/IndexOutOfBoundsException" ∈ wsX4_conferenceAt := by decide +kernel
theorem cw_X4_conferenceAt_179 : ∀ w ∈ (vx_atS RX4 179 "java/lang/IndexOutOfBoundsException" ["java/lang/RuntimeException", "java/lang/Exception"]).filter goodWord, w ∈ wsX4_conferenceAt := by decide +kernel
theorem lk_X4_conferenceAt_26 : Cond.fieldLink RX4 26 "HarbourPilotline" "conferences" "Ljava/util/ArrayList;" ∈ wsX4_conferenceAt := by decide +kernel
theorem ck_X4_conferenceAt_71 : Cond.classLink RX4 71 "HarbourPilotline$Conference" ∈ wsX4_conferenceAt := by decide +kernel
theorem in_X4_conferenceAt_X4 : ∀ w ∈ wsX40, w ∈ wsX4_conferenceAt := by decide +kernel
set_option maxRecDepth 100000 in
set_option maxHeartbeats 4000000 in
theorem c_X4_conferenceAt (l : Launch) (hfl : l.stackTraces = false) (D : va_G) (cI cO cL : ClassId) (A : Nat → Prop) (eE mi : Nat) (sa : Nat → Nat) (g : zG) (σ : zT) (H0 : Heap) (hR : RX D cO A eE g σ H0) (v : Int) (hI : zInv σ) (hv : (-2147483648 ≤ v ∧ v < 2147483648)) : zXM l yX4_conferenceAt wsX4_conferenceAt ({ frames := 6, cells := 1, slots := 6, locals := 82 }) D cI cO cL A eE mi sa g σ [.ref (g 0 0), .int (zI v)] H0 (fun r σ' g' => (0 ≤ v ∧ v < σ 14 0) ∧ r = some (.ref (g 6 v)) ∧ σ' = σ ∧ g' = g) (fun E => ¬ (0 ≤ v ∧ v < σ 14 0) ∧ E = xIO) := by
  refine vx_ofW (cc := cX4_conferenceAt) (maxL := 2) (ret := (some (.object "HarbourPilotline$Conference"))) (by decide) rfl ?_
  intro p e s m args below meth c s₁ B hml hno hv
  obtain ⟨rfl, hH, hG⟩ := hv
  subst hH
  have hK := hG.k
  have hx := B.exec
  have hb := B.bytes
  have hr := B.returns
  have hts := atoms_spec (ws := wsX4_conferenceAt) B.pre
  have hown : s.vm.findClass RX4 = some m.cls := findClass_of_methodNamed B.named
  have hlocks := B.notSynchronized
  have hl := lv_entry ([.ref (g 0 0), .int (zI v)]) (n := 2) (Nat.le_of_ble_eq_true rfl)
  rw [lg_entry_eq]
  generalize (lg_sl ([.ref (g 0 0), .int (zI v)]) ++ List.replicate (2 - (lg_sl ([.ref (g 0 0), .int (zI v)])).length) Slot.unset).toArray = ls at hl ⊢
  have hl : lv_has ls 2 [(0, .ref (g 0 0)), (1, .int (zI v))] := hl
  have f0 := hI.r
  refine lv_iload_n hx hb dX4_conferenceAt_0 rfl (lv_at hl 1 rfl) ?_
  refine z_if_lt (tgt := 15) hx hb dX4_conferenceAt_1 (by decide) (by omega) (fun c_1 => ?_) (fun c_1 => ?_)
  · exact z_throw (px := fun E => ¬ (0 ≤ v ∧ v < σ 14 0) ∧ E = xIO) (text := "no such conference") hx hb hfl hno hlocks hown hts (hl.1.trans hml.symm) x_fit3 x_nms ck_X4_conferenceAt_175 ci_X4_conferenceAt_175 cw_X4_conferenceAt_179 x_bad3 (by decide) (by decide) x_good3 hG hR va_S.rf ⟨by omega, rfl⟩ dX4_conferenceAt_15 dX4_conferenceAt_18 dX4_conferenceAt_19 dX4_conferenceAt_21 dX4_conferenceAt_24 ⟨Nat.le_of_ble_eq_true rfl, Nat.le_of_ble_eq_true rfl, Nat.le_of_ble_eq_true rfl, Nat.le_of_ble_eq_true rfl, Nat.le_of_ble_eq_true rfl, Nat.le_of_ble_eq_true rfl⟩
  · refine lv_iload_n hx hb dX4_conferenceAt_4 rfl (lv_at hl 1 rfl) ?_
    refine lv_aload_n hx hb dX4_conferenceAt_5 rfl (lv_at hl 0 rfl) ?_
    refine z_get hx hb hts in_X4_conferenceAt_X4 hown hK hR.x rfl 3 (by decide) lk_X4_conferenceAt_26 rfl rfl dX4_conferenceAt_6 ?_
    refine z_cv (As := []) (rest := [.int (zI v)]) ⟨hx, hb, hml, hown, hts⟩ (c_size l cI cL hR (i := 2) (by decide)) (cwV 0 hts gX4_conferenceAt_Jx4a65c_size_8abf5 rfl rfl rfl (by decide +kernel) ⟨Nat.le_of_ble_eq_true rfl, Nat.le_of_ble_eq_true rfl⟩) (zKK_mv D cI cO cL) (fun U _ hv => va_K.moved hv hK) (z_recv hK (hR.l (i := 2) (by decide)) rfl) rfl hl.1 rfl (Nat.le_of_ble_eq_true rfl) dX4_conferenceAt_9 ⟨Nat.le_of_ble_eq_true rfl, Nat.le_of_ble_eq_true rfl⟩ (fun r_2 hr_2 => ?_)
    rw [hr_2]
    refine z_top (b := σ 14 0) rfl ?_
    refine z_icmp_lt (tgt := 25) hx hb dX4_conferenceAt_12 (by decide) (by omega) (fun c_3 => ?_) (fun c_3 => ?_)
    · refine lv_aload_n hx hb dX4_conferenceAt_25 rfl (lv_at hl 0 rfl) ?_
      refine z_get hx hb hts in_X4_conferenceAt_X4 hown hK hR.x rfl 3 (by decide) lk_X4_conferenceAt_26 rfl rfl dX4_conferenceAt_26 ?_
      refine lv_iload_n hx hb dX4_conferenceAt_29 rfl (lv_at hl 1 rfl) ?_
      refine z_cv (As := [.int (zI v)]) (rest := []) ⟨hx, hb, hml, hown, hts⟩ (c_get l cI cL hR (i := 2) (k := v) (by decide) (show 0 ≤ v ∧ v < σ 14 0 by omega)) (cwV 1 hts gX4_conferenceAt_Jx4a65c_get_915e3 rfl rfl rfl (by decide +kernel) ⟨Nat.le_of_ble_eq_true rfl, Nat.le_of_ble_eq_true rfl⟩) (zKK_mv D cI cO cL) (fun U _ hv => va_K.moved hv hK) (z_recv hK (hR.l (i := 2) (by decide)) rfl) rfl hl.1 rfl (Nat.le_of_ble_eq_true rfl) dX4_conferenceAt_30 ⟨Nat.le_of_ble_eq_true rfl, Nat.le_of_ble_eq_true rfl⟩ (fun r_4 hr_4 => ?_)
      rw [hr_4]
      refine z_tov (w := .ref (g 6 v)) rfl ?_
      refine va_castE (nm := "HarbourPilotline$Conference") hx hb hown (hts _ ck_X4_conferenceAt_71) (z_recv hK (hR.c (i := v) (by show 0 ≤ v ∧ v < σ 14 0; omega)) rfl) dX4_conferenceAt_33 ?_
      exact vx_ret (W.widen (k := 1) (n := 6) (Nat.le_of_ble_eq_true rfl) (Nat.le_of_ble_eq_true rfl) (W.aret hx hb hr (Or.inl ⟨_, rfl⟩) (Or.inr ⟨_, rfl⟩) (z_endG (post := fun r σ' g' => (0 ≤ v ∧ v < σ 14 0) ∧ r = some (.ref (g 6 v)) ∧ σ' = σ ∧ g' = g) (σ' := σ) (g' := g) (v := (some (.ref (g 6 v)))) ⟨by omega, rfl, rfl, rfl⟩ hR va_S.rf) (fun _ h => nomatch h) dX4_conferenceAt_36))
    · exact z_throw (px := fun E => ¬ (0 ≤ v ∧ v < σ 14 0) ∧ E = xIO) (text := "no such conference") hx hb hfl hno hlocks hown hts (hl.1.trans hml.symm) x_fit3 x_nms ck_X4_conferenceAt_175 ci_X4_conferenceAt_175 cw_X4_conferenceAt_179 x_bad3 (by decide) (by decide) x_good3 hG hR va_S.rf ⟨by omega, rfl⟩ dX4_conferenceAt_15 dX4_conferenceAt_18 dX4_conferenceAt_19 dX4_conferenceAt_21 dX4_conferenceAt_24 ⟨Nat.le_of_ble_eq_true rfl, Nat.le_of_ble_eq_true rfl, Nat.le_of_ble_eq_true rfl, Nat.le_of_ble_eq_true rfl, Nat.le_of_ble_eq_true rfl, Nat.le_of_ble_eq_true rfl⟩
