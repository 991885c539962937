/-! the reference: its readers -/
theorem lk_X5_thrown_59 : Cond.fieldLink RX5 59 "HarbourPilotlineModel" "thrown" "I" ∈ wsX5_thrown := by decide +kernel
theorem in_X5_thrown : ∀ w ∈ wsX50, w ∈ wsX5_thrown := by decide +kernel
set_option maxRecDepth 100000 in
set_option maxHeartbeats 4000000 in
theorem c_X5_thrown (l : Launch) (D : va_G) (cI cO cL : ClassId) (b : Nat) (ma : Nat → Nat) (σ : zT) (H0 : Heap) (hR : RM D cI b ma σ H0)   : zPM l yX5_thrown wsX5_thrown ({ frames := 0, cells := 0, slots := 0, locals := 0 }) (zKK D cI cO cL) [.ref b] H0 (fun r => r = .int (zI (σ 0 0))) := by
  refine Met.ofW (cc := cX5_thrown) (maxL := 1) (ret := (some .int)) (by decide) rfl ?_
  intro p e s m args below meth c s₁ B hml hv
  obtain ⟨rfl, hH, hK⟩ := hv
  subst hH
  have hx := B.exec
  have hb := B.bytes
  have hr := B.returns
  have hts := atoms_spec (ws := wsX5_thrown) B.pre
  have hown : s.vm.findClass RX5 = some m.cls := findClass_of_methodNamed B.named
  have hlocks := B.notSynchronized
  have hl := lv_entry ([.ref b]) (n := 1) (Nat.le_of_ble_eq_true rfl)
  rw [lg_entry_eq]
  generalize (lg_sl ([.ref b]) ++ List.replicate (1 - (lg_sl ([.ref b])).length) Slot.unset).toArray = ls at hl ⊢
  have hl : lv_has ls 1 [(0, .ref b)] := hl
  refine lv_aload_n hx hb dX5_thrown_0 rfl (lv_at hl 0 rfl) ?_
  refine m_get hx hb hts in_X5_thrown hown hK hR 0 (by decide) lk_X5_thrown_59 rfl rfl dX5_thrown_1 ?_
  exact W.iret hx hb hr (z_end (post := fun r => r = .int (zI (σ 0 0))) (z_eq (a := (σ 0 0)) (b := σ 0 0) (by omega))) (fun _ h => nomatch h) dX5_thrown_4

set_option maxRecDepth 100000 in
set_option maxHeartbeats 4000000 in
theorem c_X5_in (l : Launch) (D : va_G) (cI cO cL : ClassId) (b : Nat) (ma : Nat → Nat) (σ : zT) (H0 : Heap) (hR : RM D cI b ma σ H0) (v lo hi : Int) (hv : (-2147483648 ≤ v ∧ v < 2147483648) ∧ (-2147483648 ≤ lo ∧ lo < 2147483648) ∧ (-2147483648 ≤ hi ∧ hi < 2147483648)) : zPM l yX5_in wsX5_in ({ frames := 0, cells := 0, slots := 0, locals := 0 }) (zKK D cI cO cL) [.int (zI v), .int (zI lo), .int (zI hi)] H0 (fun r => r = .int (zI (bI (lo ≤ v ∧ v ≤ hi)))) := by
  refine Met.ofW (cc := cX5_in) (maxL := 3) (ret := (some .boolean)) (by decide) rfl ?_
  intro p e s m args below meth c s₁ B hml hv
  obtain ⟨rfl, hH, hK⟩ := hv
  subst hH
  have hx := B.exec
  have hb := B.bytes
  have hr := B.returns
  have hts := atoms_spec (ws := wsX5_in) B.pre
  have hown : s.vm.findClass RX5 = some m.cls := findClass_of_methodNamed B.named
  have hlocks := B.notSynchronized
  have hl := lv_entry ([.int (zI v), .int (zI lo), .int (zI hi)]) (n := 3) (Nat.le_of_ble_eq_true rfl)
  rw [lg_entry_eq]
  generalize (lg_sl ([.int (zI v), .int (zI lo), .int (zI hi)]) ++ List.replicate (3 - (lg_sl ([.int (zI v), .int (zI lo), .int (zI hi)])).length) Slot.unset).toArray = ls at hl ⊢
  have hl : lv_has ls 3 [(0, .int (zI v)), (1, .int (zI lo)), (2, .int (zI hi))] := hl
  refine lv_iload_n hx hb dX5_in_0 rfl (lv_at hl 0 rfl) ?_
  refine lv_iload_n hx hb dX5_in_1 rfl (lv_at hl 1 rfl) ?_
  refine z_icmp_lt (tgt := 14) hx hb dX5_in_2 (by decide) (by omega) (fun c_1 => ?_) (fun c_1 => ?_)
  · refine z_iconst hx hb dX5_in_14 ?_
    exact W.zret hx hb hr rfl (z_end (post := fun r => r = .int (zI (bI (lo ≤ v ∧ v ≤ hi)))) (z_eq (a := 0) (b := bI (lo ≤ v ∧ v ≤ hi)) (bI_f (by omega)).symm)) (fun _ h => nomatch h) dX5_in_15
  · refine lv_iload_n hx hb dX5_in_5 rfl (lv_at hl 0 rfl) ?_
    refine lv_iload_n hx hb dX5_in_6 rfl (lv_at hl 2 rfl) ?_
    refine z_icmp_gt (tgt := 14) hx hb dX5_in_7 (by decide) (by omega) (fun c_2 => ?_) (fun c_2 => ?_)
    · refine z_iconst hx hb dX5_in_14 ?_
      exact W.zret hx hb hr rfl (z_end (post := fun r => r = .int (zI (bI (lo ≤ v ∧ v ≤ hi)))) (z_eq (a := 0) (b := bI (lo ≤ v ∧ v ≤ hi)) (bI_f (by omega)).symm)) (fun _ h => nomatch h) dX5_in_15
    · refine z_iconst hx hb dX5_in_10 ?_
      refine lv_goto (tgt := 15) hx hb dX5_in_11 (by decide) ?_
      exact W.zret hx hb hr rfl (z_end (post := fun r => r = .int (zI (bI (lo ≤ v ∧ v ≤ hi)))) (z_eq (a := 1) (b := bI (lo ≤ v ∧ v ≤ hi)) (bI_t (by omega)).symm)) (fun _ h => nomatch h) dX5_in_15

set_option maxRecDepth 100000 in
set_option maxHeartbeats 4000000 in
theorem c_X5_rest (l : Launch) (D : va_G) (cI cO cL : ClassId) (b : Nat) (ma : Nat → Nat) (σ : zT) (H0 : Heap) (hR : RM D cI b ma σ H0) (k : Int) (hv : (-2147483648 ≤ k ∧ k < 2147483648)) : zPM l yX5_rest wsX5_rest ({ frames := 0, cells := 0, slots := 0, locals := 0 }) (zKK D cI cO cL) [.int (zI k)] H0 (fun r => r = .int (zI (zRest k))) := by
  refine Met.ofW (cc := cX5_rest) (maxL := 1) (ret := (some .int)) (by decide) rfl ?_
  intro p e s m args below meth c s₁ B hml hv
  obtain ⟨rfl, hH, hK⟩ := hv
  subst hH
  have hx := B.exec
  have hb := B.bytes
  have hr := B.returns
  have hts := atoms_spec (ws := wsX5_rest) B.pre
  have hown : s.vm.findClass RX5 = some m.cls := findClass_of_methodNamed B.named
  have hlocks := B.notSynchronized
  have hl := lv_entry ([.int (zI k)]) (n := 1) (Nat.le_of_ble_eq_true rfl)
  rw [lg_entry_eq]
  generalize (lg_sl ([.int (zI k)]) ++ List.replicate (1 - (lg_sl ([.int (zI k)])).length) Slot.unset).toArray = ls at hl ⊢
  have hl : lv_has ls 1 [(0, .int (zI k))] := hl
  refine lv_iload_n hx hb dX5_rest_0 rfl (lv_at hl 0 rfl) ?_
  refine z_bipush hx hb dX5_rest_1 (by decide +kernel) ?_
  refine z_icmp_le (tgt := 10) hx hb dX5_rest_3 (by decide) (by omega) (fun c_1 => ?_) (fun c_1 => ?_)
  · refine z_bipush hx hb dX5_rest_10 (by decide +kernel) ?_
    exact W.iret hx hb hr (z_end (post := fun r => r = .int (zI (zRest k))) (z_eq (a := 60) (b := zRest k) (by unfold zRest; split <;> omega))) (fun _ h => nomatch h) dX5_rest_12
  · refine lv_iload_n hx hb dX5_rest_6 rfl (lv_at hl 0 rfl) ?_
    refine lv_goto (tgt := 12) hx hb dX5_rest_7 (by decide) ?_
    exact W.iret hx hb hr (z_end (post := fun r => r = .int (zI (zRest k))) (z_eq (a := k) (b := zRest k) (by unfold zRest; split <;> omega))) (fun _ h => nomatch h) dX5_rest_12

theorem lk_X5_isShip_62 : Cond.fieldLink RX5 62 "HarbourPilotlineModel" "ships" "I" ∈ wsX5_isShip := by decide +kernel
theorem in_X5_isShip : ∀ w ∈ wsX50, w ∈ wsX5_isShip := by decide +kernel
set_option maxRecDepth 100000 in
set_option maxHeartbeats 4000000 in
theorem c_X5_isShip (l : Launch) (D : va_G) (cI cO cL : ClassId) (b : Nat) (ma : Nat → Nat) (σ : zT) (H0 : Heap) (hR : RM D cI b ma σ H0) (k : Int) (hv : (-2147483648 ≤ k ∧ k < 2147483648)) (ht : 0 ≤ σ 5 0 ∧ σ 5 0 ≤ 40) : zPM l yX5_isShip wsX5_isShip ({ frames := 1, cells := 0, slots := 0, locals := 22 }) (zKK D cI cO cL) [.ref b, .int (zI k)] H0 (fun r => r = .int (zI (bI (0 ≤ k ∧ k < σ 5 0)))) := by
  refine Met.ofW (cc := cX5_isShip) (maxL := 2) (ret := (some .boolean)) (by decide) rfl ?_
  intro p e s m args below meth c s₁ B hml hv
  obtain ⟨rfl, hH, hK⟩ := hv
  subst hH
  have hx := B.exec
  have hb := B.bytes
  have hr := B.returns
  have hts := atoms_spec (ws := wsX5_isShip) B.pre
  have hown : s.vm.findClass RX5 = some m.cls := findClass_of_methodNamed B.named
  have hlocks := B.notSynchronized
  have hl := lv_entry ([.ref b, .int (zI k)]) (n := 2) (Nat.le_of_ble_eq_true rfl)
  rw [lg_entry_eq]
  generalize (lg_sl ([.ref b, .int (zI k)]) ++ List.replicate (2 - (lg_sl ([.ref b, .int (zI k)])).length) Slot.unset).toArray = ls at hl ⊢
  have hl : lv_has ls 2 [(0, .ref b), (1, .int (zI k))] := hl
  refine lv_iload_n hx hb dX5_isShip_0 rfl (lv_at hl 1 rfl) ?_
  refine z_iconst hx hb dX5_isShip_1 ?_
  refine lv_aload_n hx hb dX5_isShip_2 rfl (lv_at hl 0 rfl) ?_
  refine m_get hx hb hts in_X5_isShip hown hK hR 5 (by decide) lk_X5_isShip_62 rfl rfl dX5_isShip_3 ?_
  refine z_iconst hx hb dX5_isShip_6 ?_
  refine z_isub hx hb dX5_isShip_7 ?_
  refine z_cs (As := [.int (zI k), .int (zI 0), .int (zI ((σ 5 0) - 1))]) (rest := []) ⟨hx, hb, hml, hown, hts⟩ (c_X5_in l D cI cO cL b ma σ s.heap hR k 0 ((σ 5 0) - 1) (by omega)) (va_cwS 3 hts gX5_isShip_X5_in rfl rfl rfl (by decide +kernel) ⟨Nat.le_of_ble_eq_true rfl, Nat.le_of_ble_eq_true rfl⟩) (zKK_mv D cI cO cL) (fun U _ hv => va_K.moved hv hK) rfl hl.1 rfl (Nat.le_of_ble_eq_true rfl) dX5_isShip_8 ⟨Nat.zero_le _, Nat.zero_le _⟩ (fun r_1 hr_1 => ?_)
  rw [hr_1]
  exact W.zret hx hb hr (bI_narrow _) (z_end (post := fun r => r = .int (zI (bI (0 ≤ k ∧ k < σ 5 0)))) (z_eq (a := (bI (0 ≤ k ∧ k ≤ ((σ 5 0) - 1)))) (b := bI (0 ≤ k ∧ k < σ 5 0)) (by exact bI_iff (by omega)))) (fun _ h => nomatch h) dX5_isShip_11

theorem lk_X5_isPilot_68 : Cond.fieldLink RX5 68 "HarbourPilotlineModel" "pilots" "I" ∈ wsX5_isPilot := by decide +kernel
theorem in_X5_isPilot : ∀ w ∈ wsX50, w ∈ wsX5_isPilot := by decide +kernel
set_option maxRecDepth 100000 in
set_option maxHeartbeats 4000000 in
theorem c_X5_isPilot (l : Launch) (D : va_G) (cI cO cL : ClassId) (b : Nat) (ma : Nat → Nat) (σ : zT) (H0 : Heap) (hR : RM D cI b ma σ H0) (k : Int) (hv : (-2147483648 ≤ k ∧ k < 2147483648)) (ht : 0 ≤ σ 11 0 ∧ σ 11 0 ≤ 40) : zPM l yX5_isPilot wsX5_isPilot ({ frames := 1, cells := 0, slots := 0, locals := 22 }) (zKK D cI cO cL) [.ref b, .int (zI k)] H0 (fun r => r = .int (zI (bI (0 ≤ k ∧ k < σ 11 0)))) := by
  refine Met.ofW (cc := cX5_isPilot) (maxL := 2) (ret := (some .boolean)) (by decide) rfl ?_
  intro p e s m args below meth c s₁ B hml hv
  obtain ⟨rfl, hH, hK⟩ := hv
  subst hH
  have hx := B.exec
  have hb := B.bytes
  have hr := B.returns
  have hts := atoms_spec (ws := wsX5_isPilot) B.pre
  have hown : s.vm.findClass RX5 = some m.cls := findClass_of_methodNamed B.named
  have hlocks := B.notSynchronized
  have hl := lv_entry ([.ref b, .int (zI k)]) (n := 2) (Nat.le_of_ble_eq_true rfl)
  rw [lg_entry_eq]
  generalize (lg_sl ([.ref b, .int (zI k)]) ++ List.replicate (2 - (lg_sl ([.ref b, .int (zI k)])).length) Slot.unset).toArray = ls at hl ⊢
  have hl : lv_has ls 2 [(0, .ref b), (1, .int (zI k))] := hl
  refine lv_iload_n hx hb dX5_isPilot_0 rfl (lv_at hl 1 rfl) ?_
  refine z_iconst hx hb dX5_isPilot_1 ?_
  refine lv_aload_n hx hb dX5_isPilot_2 rfl (lv_at hl 0 rfl) ?_
  refine m_get hx hb hts in_X5_isPilot hown hK hR 11 (by decide) lk_X5_isPilot_68 rfl rfl dX5_isPilot_3 ?_
  refine z_iconst hx hb dX5_isPilot_6 ?_
  refine z_isub hx hb dX5_isPilot_7 ?_
  refine z_cs (As := [.int (zI k), .int (zI 0), .int (zI ((σ 11 0) - 1))]) (rest := []) ⟨hx, hb, hml, hown, hts⟩ (c_X5_in l D cI cO cL b ma σ s.heap hR k 0 ((σ 11 0) - 1) (by omega)) (va_cwS 3 hts gX5_isPilot_X5_in rfl rfl rfl (by decide +kernel) ⟨Nat.le_of_ble_eq_true rfl, Nat.le_of_ble_eq_true rfl⟩) (zKK_mv D cI cO cL) (fun U _ hv => va_K.moved hv hK) rfl hl.1 rfl (Nat.le_of_ble_eq_true rfl) dX5_isPilot_8 ⟨Nat.zero_le _, Nat.zero_le _⟩ (fun r_1 hr_1 => ?_)
  rw [hr_1]
  exact W.zret hx hb hr (bI_narrow _) (z_end (post := fun r => r = .int (zI (bI (0 ≤ k ∧ k < σ 11 0)))) (z_eq (a := (bI (0 ≤ k ∧ k ≤ ((σ 11 0) - 1)))) (b := bI (0 ≤ k ∧ k < σ 11 0)) (by exact bI_iff (by omega)))) (fun _ h => nomatch h) dX5_isPilot_11

theorem lk_X5_isConference_71 : Cond.fieldLink RX5 71 "HarbourPilotlineModel" "conferences" "I" ∈ wsX5_isConference := by decide +kernel
theorem in_X5_isConference : ∀ w ∈ wsX50, w ∈ wsX5_isConference := by decide +kernel
set_option maxRecDepth 100000 in
set_option maxHeartbeats 4000000 in
theorem c_X5_isConference (l : Launch) (D : va_G) (cI cO cL : ClassId) (b : Nat) (ma : Nat → Nat) (σ : zT) (H0 : Heap) (hR : RM D cI b ma σ H0) (k : Int) (hv : (-2147483648 ≤ k ∧ k < 2147483648)) (ht : 0 ≤ σ 14 0 ∧ σ 14 0 ≤ 40) : zPM l yX5_isConference wsX5_isConference ({ frames := 1, cells := 0, slots := 0, locals := 22 }) (zKK D cI cO cL) [.ref b, .int (zI k)] H0 (fun r => r = .int (zI (bI (0 ≤ k ∧ k < σ 14 0)))) := by
  refine Met.ofW (cc := cX5_isConference) (maxL := 2) (ret := (some .boolean)) (by decide) rfl ?_
  intro p e s m args below meth c s₁ B hml hv
  obtain ⟨rfl, hH, hK⟩ := hv
  subst hH
  have hx := B.exec
  have hb := B.bytes
  have hr := B.returns
  have hts := atoms_spec (ws := wsX5_isConference) B.pre
  have hown : s.vm.findClass RX5 = some m.cls := findClass_of_methodNamed B.named
  have hlocks := B.notSynchronized
  have hl := lv_entry ([.ref b, .int (zI k)]) (n := 2) (Nat.le_of_ble_eq_true rfl)
  rw [lg_entry_eq]
  generalize (lg_sl ([.ref b, .int (zI k)]) ++ List.replicate (2 - (lg_sl ([.ref b, .int (zI k)])).length) Slot.unset).toArray = ls at hl ⊢
  have hl : lv_has ls 2 [(0, .ref b), (1, .int (zI k))] := hl
  refine lv_iload_n hx hb dX5_isConference_0 rfl (lv_at hl 1 rfl) ?_
  refine z_iconst hx hb dX5_isConference_1 ?_
  refine lv_aload_n hx hb dX5_isConference_2 rfl (lv_at hl 0 rfl) ?_
  refine m_get hx hb hts in_X5_isConference hown hK hR 14 (by decide) lk_X5_isConference_71 rfl rfl dX5_isConference_3 ?_
  refine z_iconst hx hb dX5_isConference_6 ?_
  refine z_isub hx hb dX5_isConference_7 ?_
  refine z_cs (As := [.int (zI k), .int (zI 0), .int (zI ((σ 14 0) - 1))]) (rest := []) ⟨hx, hb, hml, hown, hts⟩ (c_X5_in l D cI cO cL b ma σ s.heap hR k 0 ((σ 14 0) - 1) (by omega)) (va_cwS 3 hts gX5_isConference_X5_in rfl rfl rfl (by decide +kernel) ⟨Nat.le_of_ble_eq_true rfl, Nat.le_of_ble_eq_true rfl⟩) (zKK_mv D cI cO cL) (fun U _ hv => va_K.moved hv hK) rfl hl.1 rfl (Nat.le_of_ble_eq_true rfl) dX5_isConference_8 ⟨Nat.zero_le _, Nat.zero_le _⟩ (fun r_1 hr_1 => ?_)
  rw [hr_1]
  exact W.zret hx hb hr (bI_narrow _) (z_end (post := fun r => r = .int (zI (bI (0 ≤ k ∧ k < σ 14 0)))) (z_eq (a := (bI (0 ≤ k ∧ k ≤ ((σ 14 0) - 1)))) (b := bI (0 ≤ k ∧ k < σ 14 0)) (by exact bI_iff (by omega)))) (fun _ h => nomatch h) dX5_isConference_11

theorem lk_X5_levelAt_13 : Cond.fieldLink RX5 13 "HarbourPilotlineModel" "rise" "I" ∈ wsX5_levelAt := by decide +kernel
theorem in_X5_levelAt : ∀ w ∈ wsX50, w ∈ wsX5_levelAt := by decide +kernel
set_option maxRecDepth 100000 in
set_option maxHeartbeats 4000000 in
theorem c_X5_levelAt (l : Launch) (D : va_G) (cI cO cL : ClassId) (b : Nat) (ma : Nat → Nat) (σ : zT) (H0 : Heap) (hR : RM D cI b ma σ H0) (k : Int) (hI : zInv σ) (hv : 0 ≤ k ∧ k < 1000000) : zPM l yX5_levelAt wsX5_levelAt ({ frames := 0, cells := 0, slots := 0, locals := 0 }) (zKK D cI cO cL) [.ref b, .int (zI k)] H0 (fun r => r = .int (zI (zLev σ k))) := by
  refine Met.ofW (cc := cX5_levelAt) (maxL := 3) (ret := (some .int)) (by decide) rfl ?_
  intro p e s m args below meth c s₁ B hml hv
  obtain ⟨rfl, hH, hK⟩ := hv
  subst hH
  have hx := B.exec
  have hb := B.bytes
  have hr := B.returns
  have hts := atoms_spec (ws := wsX5_levelAt) B.pre
  have hown : s.vm.findClass RX5 = some m.cls := findClass_of_methodNamed B.named
  have hlocks := B.notSynchronized
  have hl := lv_entry ([.ref b, .int (zI k)]) (n := 3) (Nat.le_of_ble_eq_true rfl)
  rw [lg_entry_eq]
  generalize (lg_sl ([.ref b, .int (zI k)]) ++ List.replicate (3 - (lg_sl ([.ref b, .int (zI k)])).length) Slot.unset).toArray = ls at hl ⊢
  have hl : lv_has ls 3 [(0, .ref b), (1, .int (zI k))] := hl
  have f0 := hI.r
  have g1 : 0 ≤ (if k % 720 < 360 then k % 720 else 720 - k % 720) * σ 3 0 ∧ (if k % 720 < 360 then k % 720 else 720 - k % 720) * σ 3 0 ≤ 72000 := ⟨Int.mul_nonneg (zTent_r k).1 f0.2.2.1.1, Int.mul_le_mul (zTent_r k).2 f0.2.2.1.2 f0.2.2.1.1 (by decide)⟩
  refine lv_iload_n hx hb dX5_levelAt_0 rfl (lv_at hl 1 rfl) ?_
  refine z_sipush hx hb dX5_levelAt_1 (by decide +kernel) ?_
  refine z_irem hx hb dX5_levelAt_4 (by omega) ?_
  refine lv_istore_n (lv' := [(2, .int (zI (k % 720))), (0, .ref b), (1, .int (zI k))]) hx hb dX5_levelAt_5 rfl hl (by decide) rfl (fun ls hl => ?_)
  refine lv_iload_n hx hb dX5_levelAt_6 rfl (lv_at hl 0 rfl) ?_
  refine z_sipush hx hb dX5_levelAt_7 (by decide +kernel) ?_
  refine z_icmp_ge (tgt := 17) hx hb dX5_levelAt_10 (by decide) (by omega) (fun c_1 => ?_) (fun c_1 => ?_)
  · refine z_sipush hx hb dX5_levelAt_17 (by decide +kernel) ?_
    refine lv_iload_n hx hb dX5_levelAt_20 rfl (lv_at hl 0 rfl) ?_
    refine z_isub hx hb dX5_levelAt_21 ?_
    refine lv_aload_n hx hb dX5_levelAt_22 rfl (lv_at hl 1 rfl) ?_
    refine m_get hx hb hts in_X5_levelAt hown hK hR 3 (by decide) lk_X5_levelAt_13 rfl rfl dX5_levelAt_23 ?_
    refine z_imul hx hb dX5_levelAt_26 ?_
    refine z_sipush hx hb dX5_levelAt_27 (by decide +kernel) ?_
    refine z_idiv hx hb dX5_levelAt_30 (by first | (rw [if_pos (by omega)] at g1; omega) | (rw [if_neg (by omega)] at g1; omega)) ?_
    exact W.iret hx hb hr (z_end (post := fun r => r = .int (zI (zLev σ k))) (z_eq (a := (((720 - (k % 720)) * (σ 3 0)) / 360)) (b := zLev σ k) (by unfold zLev; first | rw [if_pos (by omega)] | rw [if_neg (by omega)]))) (fun _ h => nomatch h) dX5_levelAt_31
  · refine lv_iload_n hx hb dX5_levelAt_13 rfl (lv_at hl 0 rfl) ?_
    refine lv_goto (tgt := 22) hx hb dX5_levelAt_14 (by decide) ?_
    refine lv_aload_n hx hb dX5_levelAt_22 rfl (lv_at hl 1 rfl) ?_
    refine m_get hx hb hts in_X5_levelAt hown hK hR 3 (by decide) lk_X5_levelAt_13 rfl rfl dX5_levelAt_23 ?_
    refine z_imul hx hb dX5_levelAt_26 ?_
    refine z_sipush hx hb dX5_levelAt_27 (by decide +kernel) ?_
    refine z_idiv hx hb dX5_levelAt_30 (by first | (rw [if_pos (by omega)] at g1; omega) | (rw [if_neg (by omega)] at g1; omega)) ?_
    exact W.iret hx hb hr (z_end (post := fun r => r = .int (zI (zLev σ k))) (z_eq (a := (((k % 720) * (σ 3 0)) / 360)) (b := zLev σ k) (by unfold zLev; first | rw [if_pos (by omega)] | rw [if_neg (by omega)]))) (fun _ h => nomatch h) dX5_levelAt_31

theorem lk_X5_over_56 : Cond.fieldLink RX5 56 "HarbourPilotlineModel" "slot" "[I" ∈ wsX5_over := by decide +kernel
theorem lk_X5_over_26 : Cond.fieldLink RX5 26 "HarbourPilotlineModel" "takes" "[I" ∈ wsX5_over := by decide +kernel
theorem lk_X5_over_41 : Cond.fieldLink RX5 41 "HarbourPilotlineModel" "ship" "[I" ∈ wsX5_over := by decide +kernel
theorem in_X5_over : ∀ w ∈ wsX50, w ∈ wsX5_over := by decide +kernel
set_option maxRecDepth 100000 in
set_option maxHeartbeats 4000000 in
theorem c_X5_over (l : Launch) (D : va_G) (cI cO cL : ClassId) (b : Nat) (ma : Nat → Nat) (σ : zT) (H0 : Heap) (hR : RM D cI b ma σ H0) (k : Int) (hk : 0 ≤ k ∧ k < 40) (h15 : 0 ≤ σ 15 k ∧ σ 15 k < 12) : zPM l yX5_over wsX5_over ({ frames := 0, cells := 0, slots := 0, locals := 0 }) (zKK D cI cO cL) [.ref b, .int (zI k)] H0 (fun r => r = .int (zI (σ 20 k + σ 8 (σ 15 k)))) := by
  refine Met.ofW (cc := cX5_over) (maxL := 2) (ret := (some .int)) (by decide) rfl ?_
  intro p e s m args below meth c s₁ B hml hv
  obtain ⟨rfl, hH, hK⟩ := hv
  subst hH
  have hx := B.exec
  have hb := B.bytes
  have hr := B.returns
  have hts := atoms_spec (ws := wsX5_over) B.pre
  have hown : s.vm.findClass RX5 = some m.cls := findClass_of_methodNamed B.named
  have hlocks := B.notSynchronized
  have hl := lv_entry ([.ref b, .int (zI k)]) (n := 2) (Nat.le_of_ble_eq_true rfl)
  rw [lg_entry_eq]
  generalize (lg_sl ([.ref b, .int (zI k)]) ++ List.replicate (2 - (lg_sl ([.ref b, .int (zI k)])).length) Slot.unset).toArray = ls at hl ⊢
  have hl : lv_has ls 2 [(0, .ref b), (1, .int (zI k))] := hl
  refine lv_aload_n hx hb dX5_over_0 rfl (lv_at hl 0 rfl) ?_
  refine m_get hx hb hts in_X5_over hown hK hR 20 (by decide) lk_X5_over_56 rfl rfl dX5_over_1 ?_
  refine lv_iload_n hx hb dX5_over_4 rfl (lv_at hl 1 rfl) ?_
  refine m_ald hx hb hK hR 20 rfl (by show 0 ≤ k ∧ k < ((40 : Nat) : Int); omega) dX5_over_5 ?_
  refine lv_aload_n hx hb dX5_over_6 rfl (lv_at hl 0 rfl) ?_
  refine m_get hx hb hts in_X5_over hown hK hR 8 (by decide) lk_X5_over_26 rfl rfl dX5_over_7 ?_
  refine lv_aload_n hx hb dX5_over_10 rfl (lv_at hl 0 rfl) ?_
  refine m_get hx hb hts in_X5_over hown hK hR 15 (by decide) lk_X5_over_41 rfl rfl dX5_over_11 ?_
  refine lv_iload_n hx hb dX5_over_14 rfl (lv_at hl 1 rfl) ?_
  refine m_ald hx hb hK hR 15 rfl (by show 0 ≤ k ∧ k < ((40 : Nat) : Int); omega) dX5_over_15 ?_
  refine m_ald hx hb hK hR 8 rfl (by show 0 ≤ (σ 15 k) ∧ (σ 15 k) < ((12 : Nat) : Int); omega) dX5_over_16 ?_
  refine z_iadd hx hb dX5_over_17 ?_
  exact W.iret hx hb hr (z_end (post := fun r => r = .int (zI (σ 20 k + σ 8 (σ 15 k)))) (z_eq (a := ((σ 20 k) + (σ 8 (σ 15 k)))) (b := σ 20 k + σ 8 (σ 15 k)) (by omega))) (fun _ h => nomatch h) dX5_over_18

theorem lk_X5_hasSlot_53 : Cond.fieldLink RX5 53 "HarbourPilotlineModel" "state" "[I" ∈ wsX5_hasSlot := by decide +kernel
theorem in_X5_hasSlot : ∀ w ∈ wsX50, w ∈ wsX5_hasSlot := by decide +kernel
set_option maxRecDepth 100000 in
set_option maxHeartbeats 4000000 in
theorem c_X5_hasSlot (l : Launch) (D : va_G) (cI cO cL : ClassId) (b : Nat) (ma : Nat → Nat) (σ : zT) (H0 : Heap) (hR : RM D cI b ma σ H0) (k : Int) (hI : zInv σ) (hk : 0 ≤ k ∧ k < σ 14 0) : zPM l yX5_hasSlot wsX5_hasSlot ({ frames := 0, cells := 0, slots := 0, locals := 0 }) (zKK D cI cO cL) [.ref b, .int (zI k)] H0 (fun r => r = .int (zI (bI (2 ≤ σ 19 k)))) := by
  refine Met.ofW (cc := cX5_hasSlot) (maxL := 2) (ret := (some .boolean)) (by decide) rfl ?_
  intro p e s m args below meth c s₁ B hml hv
  obtain ⟨rfl, hH, hK⟩ := hv
  subst hH
  have hx := B.exec
  have hb := B.bytes
  have hr := B.returns
  have hts := atoms_spec (ws := wsX5_hasSlot) B.pre
  have hown : s.vm.findClass RX5 = some m.cls := findClass_of_methodNamed B.named
  have hlocks := B.notSynchronized
  have hl := lv_entry ([.ref b, .int (zI k)]) (n := 2) (Nat.le_of_ble_eq_true rfl)
  rw [lg_entry_eq]
  generalize (lg_sl ([.ref b, .int (zI k)]) ++ List.replicate (2 - (lg_sl ([.ref b, .int (zI k)])).length) Slot.unset).toArray = ls at hl ⊢
  have hl : lv_has ls 2 [(0, .ref b), (1, .int (zI k))] := hl
  have f0 := hI.r
  have fk := hI.c hk
  have gk := hI.s (i := σ 15 k) (by omega)
  refine lv_aload_n hx hb dX5_hasSlot_0 rfl (lv_at hl 0 rfl) ?_
  refine m_get hx hb hts in_X5_hasSlot hown hK hR 19 (by decide) lk_X5_hasSlot_53 rfl rfl dX5_hasSlot_1 ?_
  refine lv_iload_n hx hb dX5_hasSlot_4 rfl (lv_at hl 1 rfl) ?_
  refine m_ald hx hb hK hR 19 rfl (by show 0 ≤ k ∧ k < ((40 : Nat) : Int); omega) dX5_hasSlot_5 ?_
  refine z_iconst hx hb dX5_hasSlot_6 ?_
  refine z_icmp_lt (tgt := 14) hx hb dX5_hasSlot_7 (by decide) (by omega) (fun c_1 => ?_) (fun c_1 => ?_)
  · refine z_iconst hx hb dX5_hasSlot_14 ?_
    exact W.zret hx hb hr rfl (z_end (post := fun r => r = .int (zI (bI (2 ≤ σ 19 k)))) (z_eq (a := 0) (b := bI (2 ≤ σ 19 k)) (bI_f (by omega)).symm)) (fun _ h => nomatch h) dX5_hasSlot_15
  · refine z_iconst hx hb dX5_hasSlot_10 ?_
    refine lv_goto (tgt := 15) hx hb dX5_hasSlot_11 (by decide) ?_
    exact W.zret hx hb hr rfl (z_end (post := fun r => r = .int (zI (bI (2 ≤ σ 19 k)))) (z_eq (a := 1) (b := bI (2 ≤ σ 19 k)) (bI_t (by omega)).symm)) (fun _ h => nomatch h) dX5_hasSlot_15

theorem lk_X5_billOf_26 : Cond.fieldLink RX5 26 "HarbourPilotlineModel" "takes" "[I" ∈ wsX5_billOf := by decide +kernel
theorem lk_X5_billOf_41 : Cond.fieldLink RX5 41 "HarbourPilotlineModel" "ship" "[I" ∈ wsX5_billOf := by decide +kernel
theorem lk_X5_billOf_38 : Cond.fieldLink RX5 38 "HarbourPilotlineModel" "rate" "[I" ∈ wsX5_billOf := by decide +kernel
theorem lk_X5_billOf_50 : Cond.fieldLink RX5 50 "HarbourPilotlineModel" "pilot" "[I" ∈ wsX5_billOf := by decide +kernel
theorem lk_X5_billOf_29 : Cond.fieldLink RX5 29 "HarbourPilotlineModel" "needs" "[I" ∈ wsX5_billOf := by decide +kernel
theorem in_X5_billOf : ∀ w ∈ wsX50, w ∈ wsX5_billOf := by decide +kernel
set_option maxRecDepth 100000 in
set_option maxHeartbeats 4000000 in
theorem c_X5_billOf (l : Launch) (D : va_G) (cI cO cL : ClassId) (b : Nat) (ma : Nat → Nat) (σ : zT) (H0 : Heap) (hR : RM D cI b ma σ H0) (k : Int) (hk : 0 ≤ k ∧ k < 40) (h15 : 0 ≤ σ 15 k ∧ σ 15 k < 12) (h18 : 0 ≤ σ 18 k ∧ σ 18 k < 8) : zPM l yX5_billOf wsX5_billOf ({ frames := 0, cells := 0, slots := 0, locals := 0 }) (zKK D cI cO cL) [.ref b, .int (zI k)] H0 (fun r => r = .int (zI (σ 8 (σ 15 k) * σ 13 (σ 18 k) + 100 * σ 9 (σ 15 k)))) := by
  refine Met.ofW (cc := cX5_billOf) (maxL := 2) (ret := (some .int)) (by decide) rfl ?_
  intro p e s m args below meth c s₁ B hml hv
  obtain ⟨rfl, hH, hK⟩ := hv
  subst hH
  have hx := B.exec
  have hb := B.bytes
  have hr := B.returns
  have hts := atoms_spec (ws := wsX5_billOf) B.pre
  have hown : s.vm.findClass RX5 = some m.cls := findClass_of_methodNamed B.named
  have hlocks := B.notSynchronized
  have hl := lv_entry ([.ref b, .int (zI k)]) (n := 2) (Nat.le_of_ble_eq_true rfl)
  rw [lg_entry_eq]
  generalize (lg_sl ([.ref b, .int (zI k)]) ++ List.replicate (2 - (lg_sl ([.ref b, .int (zI k)])).length) Slot.unset).toArray = ls at hl ⊢
  have hl : lv_has ls 2 [(0, .ref b), (1, .int (zI k))] := hl
  refine lv_aload_n hx hb dX5_billOf_0 rfl (lv_at hl 0 rfl) ?_
  refine m_get hx hb hts in_X5_billOf hown hK hR 8 (by decide) lk_X5_billOf_26 rfl rfl dX5_billOf_1 ?_
  refine lv_aload_n hx hb dX5_billOf_4 rfl (lv_at hl 0 rfl) ?_
  refine m_get hx hb hts in_X5_billOf hown hK hR 15 (by decide) lk_X5_billOf_41 rfl rfl dX5_billOf_5 ?_
  refine lv_iload_n hx hb dX5_billOf_8 rfl (lv_at hl 1 rfl) ?_
  refine m_ald hx hb hK hR 15 rfl (by show 0 ≤ k ∧ k < ((40 : Nat) : Int); omega) dX5_billOf_9 ?_
  refine m_ald hx hb hK hR 8 rfl (by show 0 ≤ (σ 15 k) ∧ (σ 15 k) < ((12 : Nat) : Int); omega) dX5_billOf_10 ?_
  refine lv_aload_n hx hb dX5_billOf_11 rfl (lv_at hl 0 rfl) ?_
  refine m_get hx hb hts in_X5_billOf hown hK hR 13 (by decide) lk_X5_billOf_38 rfl rfl dX5_billOf_12 ?_
  refine lv_aload_n hx hb dX5_billOf_15 rfl (lv_at hl 0 rfl) ?_
  refine m_get hx hb hts in_X5_billOf hown hK hR 18 (by decide) lk_X5_billOf_50 rfl rfl dX5_billOf_16 ?_
  refine lv_iload_n hx hb dX5_billOf_19 rfl (lv_at hl 1 rfl) ?_
  refine m_ald hx hb hK hR 18 rfl (by show 0 ≤ k ∧ k < ((40 : Nat) : Int); omega) dX5_billOf_20 ?_
  refine m_ald hx hb hK hR 13 rfl (by show 0 ≤ (σ 18 k) ∧ (σ 18 k) < ((8 : Nat) : Int); omega) dX5_billOf_21 ?_
  refine z_imul hx hb dX5_billOf_22 ?_
  refine z_bipush hx hb dX5_billOf_23 (by decide +kernel) ?_
  refine lv_aload_n hx hb dX5_billOf_25 rfl (lv_at hl 0 rfl) ?_
  refine m_get hx hb hts in_X5_billOf hown hK hR 9 (by decide) lk_X5_billOf_29 rfl rfl dX5_billOf_26 ?_
  refine lv_aload_n hx hb dX5_billOf_29 rfl (lv_at hl 0 rfl) ?_
  refine m_get hx hb hts in_X5_billOf hown hK hR 15 (by decide) lk_X5_billOf_41 rfl rfl dX5_billOf_30 ?_
  refine lv_iload_n hx hb dX5_billOf_33 rfl (lv_at hl 1 rfl) ?_
  refine m_ald hx hb hK hR 15 rfl (by show 0 ≤ k ∧ k < ((40 : Nat) : Int); omega) dX5_billOf_34 ?_
  refine m_ald hx hb hK hR 9 rfl (by show 0 ≤ (σ 15 k) ∧ (σ 15 k) < ((12 : Nat) : Int); omega) dX5_billOf_35 ?_
  refine z_imul hx hb dX5_billOf_36 ?_
  refine z_iadd hx hb dX5_billOf_37 ?_
  exact W.iret hx hb hr (z_end (post := fun r => r = .int (zI (σ 8 (σ 15 k) * σ 13 (σ 18 k) + 100 * σ 9 (σ 15 k)))) (z_eq (a := (((σ 8 (σ 15 k)) * (σ 13 (σ 18 k))) + (100 * (σ 9 (σ 15 k))))) (b := σ 8 (σ 15 k) * σ 13 (σ 18 k) + 100 * σ 9 (σ 15 k)) (by omega))) (fun _ h => nomatch h) dX5_billOf_38

theorem lk_X5_bills_62 : Cond.fieldLink RX5 62 "HarbourPilotlineModel" "ships" "I" ∈ wsX5_bills := by decide +kernel
theorem lk_X5_bills_32 : Cond.fieldLink RX5 32 "HarbourPilotlineModel" "owes" "[I" ∈ wsX5_bills := by decide +kernel
theorem in_X5_bills : ∀ w ∈ wsX50, w ∈ wsX5_bills := by decide +kernel
set_option maxRecDepth 100000 in
set_option maxHeartbeats 4000000 in
theorem c_X5_bills (l : Launch) (D : va_G) (cI cO cL : ClassId) (b : Nat) (ma : Nat → Nat) (σ : zT) (H0 : Heap) (hR : RM D cI b ma σ H0)  (hI : zInv σ) : zPM l yX5_bills wsX5_bills ({ frames := 0, cells := 0, slots := 0, locals := 0 }) (zKK D cI cO cL) [.ref b] H0 (fun r => r = .int (zI (zSum (σ 10) (σ 5 0).toNat))) := by
  refine Met.ofW (cc := cX5_bills) (maxL := 3) (ret := (some .int)) (by decide) rfl ?_
  intro p e s m args below meth c s₁ B hml hv
  obtain ⟨rfl, hH, hK⟩ := hv
  subst hH
  have hx := B.exec
  have hb := B.bytes
  have hr := B.returns
  have hts := atoms_spec (ws := wsX5_bills) B.pre
  have hown : s.vm.findClass RX5 = some m.cls := findClass_of_methodNamed B.named
  have hlocks := B.notSynchronized
  have hl := lv_entry ([.ref b]) (n := 3) (Nat.le_of_ble_eq_true rfl)
  rw [lg_entry_eq]
  generalize (lg_sl ([.ref b]) ++ List.replicate (3 - (lg_sl ([.ref b])).length) Slot.unset).toArray = ls at hl ⊢
  have hl : lv_has ls 3 [(0, .ref b)] := hl
  have f0 := hI.r
  refine z_iconst hx hb dX5_bills_0 ?_
  refine lv_istore_n (lv' := [(1, .int (zI 0)), (0, .ref b)]) hx hb dX5_bills_1 rfl hl (by decide) rfl (fun ls hl => ?_)
  refine z_iconst hx hb dX5_bills_2 ?_
  refine lv_istore_n (lv' := [(2, .int (zI 0)), (1, .int (zI 0)), (0, .ref b)]) hx hb dX5_bills_3 rfl hl (by decide) rfl (fun ls hl => ?_)
  refine z_cap (fun WW wi wo => ?_)
  have hL : ∀ (n : Nat) (v i : Int) (ls : Array Slot), v = zSum (σ 10) i.toNat → 0 ≤ i ∧ i ≤ σ 5 0 → (σ 5 0 - i).toNat < n → lv_has ls 3 [(0, .ref b), (1, .int (zI v)), (2, .int (zI i))] → WW s.heap [] 0 0 (F0 m 4 ls []) := by
    intro n
    induction n with
    | zero => intro v i ls hv hi hm; exact absurd hm (Nat.not_lt_zero _)
    | succ n ih =>
      intro v i ls hv hi hm hl
      refine wi _ _ _ _ _ ?_
      refine lv_iload_n hx hb dX5_bills_4 rfl (lv_at hl 2 rfl) ?_
      refine lv_aload_n hx hb dX5_bills_5 rfl (lv_at hl 0 rfl) ?_
      refine m_get hx hb hts in_X5_bills hown hK hR 5 (by decide) lk_X5_bills_62 rfl rfl dX5_bills_6 ?_
      refine z_icmp_ge (tgt := 27) hx hb dX5_bills_9 (by decide) (by omega) (fun c_1 => ?_) (fun c_1 => ?_)
      · refine lv_iload_n hx hb dX5_bills_27 rfl (lv_at hl 1 rfl) ?_
        exact W.iret hx hb hr (z_end (post := fun r => r = .int (zI (zSum (σ 10) (σ 5 0).toNat))) (z_eq (a := v) (b := zSum (σ 10) (σ 5 0).toNat) (by rw [hv, show i = σ 5 0 by omega]))) (fun _ h => nomatch h) dX5_bills_28
      · refine lv_iload_n hx hb dX5_bills_12 rfl (lv_at hl 1 rfl) ?_
        refine lv_aload_n hx hb dX5_bills_13 rfl (lv_at hl 0 rfl) ?_
        refine m_get hx hb hts in_X5_bills hown hK hR 10 (by decide) lk_X5_bills_32 rfl rfl dX5_bills_14 ?_
        refine lv_iload_n hx hb dX5_bills_17 rfl (lv_at hl 2 rfl) ?_
        refine m_ald hx hb hK hR 10 rfl (by show 0 ≤ i ∧ i < ((12 : Nat) : Int); omega) dX5_bills_18 ?_
        refine z_iadd hx hb dX5_bills_19 ?_
        refine lv_istore_n (lv' := [(1, .int (zI (v + (σ 10 i)))), (0, .ref b), (2, .int (zI i))]) hx hb dX5_bills_20 rfl hl (by decide) rfl (fun ls hl => ?_)
        refine z_iinc (lv' := [(2, .int (zI (i + 1))), (1, .int (zI (v + (σ 10 i)))), (0, .ref b)]) hx hb dX5_bills_21 hl (k := 2) rfl (by decide) rfl (fun ls hl => ?_)
        refine lv_goto (tgt := 4) hx hb dX5_bills_24 (by decide) ?_
        exact wo _ _ _ _ _ (ih (v + (σ 10 i)) (i + 1) ls (by rw [zSum_i _ hi.1, hv]) (by omega) (by omega) (lv_sub hl [2, 1, 0] rfl))
  exact wo _ _ _ _ _ (hL _ 0 0 ls (by rfl) (by omega) (Nat.lt_succ_self _) (lv_sub hl [2, 1, 0] rfl))

theorem lk_X5_tugsIn_71 : Cond.fieldLink RX5 71 "HarbourPilotlineModel" "conferences" "I" ∈ wsX5_tugsIn := by decide +kernel
theorem lk_X5_tugsIn_56 : Cond.fieldLink RX5 56 "HarbourPilotlineModel" "slot" "[I" ∈ wsX5_tugsIn := by decide +kernel
theorem lk_X5_tugsIn_29 : Cond.fieldLink RX5 29 "HarbourPilotlineModel" "needs" "[I" ∈ wsX5_tugsIn := by decide +kernel
theorem lk_X5_tugsIn_41 : Cond.fieldLink RX5 41 "HarbourPilotlineModel" "ship" "[I" ∈ wsX5_tugsIn := by decide +kernel
theorem in_X5_tugsIn : ∀ w ∈ wsX50, w ∈ wsX5_tugsIn := by decide +kernel
set_option maxRecDepth 100000 in
set_option maxHeartbeats 4000000 in
theorem c_X5_tugsIn (l : Launch) (D : va_G) (cI cO cL : ClassId) (b : Nat) (ma : Nat → Nat) (σ : zT) (H0 : Heap) (hR : RM D cI b ma σ H0) (k mm : Int) (hI : zInv σ) (hk : 0 ≤ k ∧ k < σ 14 0) (hv : 0 ≤ mm ∧ mm < 1000000) : zPM l yX5_tugsIn wsX5_tugsIn ({ frames := 1, cells := 0, slots := 0, locals := 22 }) (zKK D cI cO cL) [.ref b, .int (zI k), .int (zI mm)] H0 (fun r => r = .int (zI (zTugs σ k mm))) := by
  refine Met.ofW (cc := cX5_tugsIn) (maxL := 5) (ret := (some .int)) (by decide) rfl ?_
  intro p e s m args below meth c s₁ B hml hv
  obtain ⟨rfl, hH, hK⟩ := hv
  subst hH
  have hx := B.exec
  have hb := B.bytes
  have hr := B.returns
  have hts := atoms_spec (ws := wsX5_tugsIn) B.pre
  have hown : s.vm.findClass RX5 = some m.cls := findClass_of_methodNamed B.named
  have hlocks := B.notSynchronized
  have hl := lv_entry ([.ref b, .int (zI k), .int (zI mm)]) (n := 5) (Nat.le_of_ble_eq_true rfl)
  rw [lg_entry_eq]
  generalize (lg_sl ([.ref b, .int (zI k), .int (zI mm)]) ++ List.replicate (5 - (lg_sl ([.ref b, .int (zI k), .int (zI mm)])).length) Slot.unset).toArray = ls at hl ⊢
  have hl : lv_has ls 5 [(0, .ref b), (1, .int (zI k)), (2, .int (zI mm))] := hl
  have f0 := hI.r
  have fk := hI.c hk
  have gk := hI.s (i := σ 15 k) (by omega)
  refine z_iconst hx hb dX5_tugsIn_0 ?_
  refine lv_istore_n (lv' := [(3, .int (zI 0)), (0, .ref b), (1, .int (zI k)), (2, .int (zI mm))]) hx hb dX5_tugsIn_1 rfl hl (by decide) rfl (fun ls hl => ?_)
  refine z_iconst hx hb dX5_tugsIn_2 ?_
  refine lv_istore (lv' := [(4, .int (zI 0)), (3, .int (zI 0)), (0, .ref b), (1, .int (zI k)), (2, .int (zI mm))]) hx hb dX5_tugsIn_3 hl (by decide) rfl (fun ls hl => ?_)
  refine z_cap (fun WW wi wo => ?_)
  have hL : ∀ (n : Nat) (v i : Int) (ls : Array Slot), v = zSum (zTug1 σ k mm) i.toNat → 0 ≤ i ∧ i ≤ σ 14 0 → (σ 14 0 - i).toNat < n → lv_has ls 5 [(0, .ref b), (1, .int (zI k)), (2, .int (zI mm)), (3, .int (zI v)), (4, .int (zI i))] → WW s.heap [] 0 0 (F0 m 5 ls []) := by
    intro n
    induction n with
    | zero => intro v i ls hw hi hm; exact absurd hm (Nat.not_lt_zero _)
    | succ n ih =>
      intro v i ls hw hi hm hl
      refine wi _ _ _ _ _ ?_
      refine lv_iload hx hb dX5_tugsIn_5 (lv_at hl 4 rfl) ?_
      refine lv_aload_n hx hb dX5_tugsIn_7 rfl (lv_at hl 0 rfl) ?_
      refine m_get hx hb hts in_X5_tugsIn hown hK hR 14 (by decide) lk_X5_tugsIn_71 rfl rfl dX5_tugsIn_8 ?_
      refine z_icmp_ge (tgt := 76) hx hb dX5_tugsIn_11 (by decide) (by omega) (fun c_1 => ?_) (fun c_1 => ?_)
      · refine lv_iload_n hx hb dX5_tugsIn_76 rfl (lv_at hl 3 rfl) ?_
        exact W.iret hx hb hr (z_end (post := fun r => r = .int (zI (zTugs σ k mm))) (z_eq (a := v) (b := zTugs σ k mm) (by rw [hw, show i = σ 14 0 by omega]; rfl))) (fun _ h => nomatch h) dX5_tugsIn_77
      · have fi := hI.c (i := i) (by omega)
        have gi := hI.s (i := σ 15 i) (by omega)
        have ri := zRest_r (σ 8 (σ 15 i))
        refine lv_iload_n hx hb dX5_tugsIn_14 rfl (lv_at hl 3 rfl) ?_
        refine lv_iload hx hb dX5_tugsIn_15 (lv_at hl 4 rfl) ?_
        refine lv_iload_n hx hb dX5_tugsIn_17 rfl (lv_at hl 1 rfl) ?_
        refine z_icmp_eq (tgt := 67) hx hb dX5_tugsIn_18 (by decide) (by omega) (fun c_2 => ?_) (fun c_2 => ?_)
        · refine z_iconst hx hb dX5_tugsIn_67 ?_
          refine z_iadd hx hb dX5_tugsIn_68 ?_
          refine lv_istore_n (lv' := [(3, .int (zI (v + 0))), (0, .ref b), (1, .int (zI k)), (2, .int (zI mm)), (4, .int (zI i))]) hx hb dX5_tugsIn_69 rfl hl (by decide) rfl (fun ls hl => ?_)
          refine z_iinc (lv' := [(4, .int (zI (i + 1))), (3, .int (zI (v + 0))), (0, .ref b), (1, .int (zI k)), (2, .int (zI mm))]) hx hb dX5_tugsIn_70 hl (k := 4) rfl (by decide) rfl (fun ls hl => ?_)
          refine lv_goto (tgt := 5) hx hb dX5_tugsIn_73 (by decide) ?_
          exact wo _ _ _ _ _ (ih (v + 0) (i + 1) ls (by rw [zSum_i _ hi.1, ← hw]; first | rw [zTug_t (by omega)] | rw [zTug_f (by omega)]) (by omega) (by omega) (lv_sub hl [2, 3, 4, 1, 0] rfl))
        · refine lv_aload_n hx hb dX5_tugsIn_21 rfl (lv_at hl 0 rfl) ?_
          refine lv_iload hx hb dX5_tugsIn_22 (lv_at hl 4 rfl) ?_
          refine z_cv (As := [.int (zI i)]) (rest := [.int (zI v)]) ⟨hx, hb, hml, hown, hts⟩ (c_X5_hasSlot l D cI cO cL b ma σ s.heap hR i hI (by omega)) (cwV 1 hts gX5_tugsIn_X5_hasSlot rfl rfl rfl (by decide +kernel) ⟨Nat.le_of_ble_eq_true rfl, Nat.le_of_ble_eq_true rfl⟩) (zKK_mv D cI cO cL) (fun U _ hv => va_K.moved hv hK) (m_recv hK hR) rfl hl.1 rfl (Nat.le_of_ble_eq_true rfl) dX5_tugsIn_24 ⟨Nat.zero_le _, Nat.zero_le _⟩ (fun r_3 hr_3 => ?_)
          rw [hr_3]
          refine z_ifb_eq (tgt := 67) hx hb dX5_tugsIn_27 (by decide) (fun c_4 => ?_) (fun c_4 => ?_)
          · refine z_iconst hx hb dX5_tugsIn_67 ?_
            refine z_iadd hx hb dX5_tugsIn_68 ?_
            refine lv_istore_n (lv' := [(3, .int (zI (v + 0))), (0, .ref b), (1, .int (zI k)), (2, .int (zI mm)), (4, .int (zI i))]) hx hb dX5_tugsIn_69 rfl hl (by decide) rfl (fun ls hl => ?_)
            refine z_iinc (lv' := [(4, .int (zI (i + 1))), (3, .int (zI (v + 0))), (0, .ref b), (1, .int (zI k)), (2, .int (zI mm))]) hx hb dX5_tugsIn_70 hl (k := 4) rfl (by decide) rfl (fun ls hl => ?_)
            refine lv_goto (tgt := 5) hx hb dX5_tugsIn_73 (by decide) ?_
            exact wo _ _ _ _ _ (ih (v + 0) (i + 1) ls (by rw [zSum_i _ hi.1, ← hw]; first | rw [zTug_t (by omega)] | rw [zTug_f (by omega)]) (by omega) (by omega) (lv_sub hl [2, 3, 4, 1, 0] rfl))
          · refine lv_iload_n hx hb dX5_tugsIn_30 rfl (lv_at hl 2 rfl) ?_
            refine lv_aload_n hx hb dX5_tugsIn_31 rfl (lv_at hl 0 rfl) ?_
            refine m_get hx hb hts in_X5_tugsIn hown hK hR 20 (by decide) lk_X5_tugsIn_56 rfl rfl dX5_tugsIn_32 ?_
            refine lv_iload hx hb dX5_tugsIn_35 (lv_at hl 4 rfl) ?_
            refine m_ald hx hb hK hR 20 rfl (by show 0 ≤ i ∧ i < ((40 : Nat) : Int); omega) dX5_tugsIn_37 ?_
            refine lv_aload_n hx hb dX5_tugsIn_38 rfl (lv_at hl 0 rfl) ?_
            refine lv_iload hx hb dX5_tugsIn_39 (lv_at hl 4 rfl) ?_
            refine z_cv (As := [.int (zI i)]) (rest := [.int (zI (σ 20 i)), .int (zI mm), .int (zI v)]) ⟨hx, hb, hml, hown, hts⟩ (c_X5_over l D cI cO cL b ma σ s.heap hR i (by omega) (by omega)) (cwV 1 hts gX5_tugsIn_X5_over rfl rfl rfl (by decide +kernel) ⟨Nat.le_of_ble_eq_true rfl, Nat.le_of_ble_eq_true rfl⟩) (zKK_mv D cI cO cL) (fun U _ hv => va_K.moved hv hK) (m_recv hK hR) rfl hl.1 rfl (Nat.le_of_ble_eq_true rfl) dX5_tugsIn_41 ⟨Nat.zero_le _, Nat.zero_le _⟩ (fun r_5 hr_5 => ?_)
            rw [hr_5]
            refine z_iconst hx hb dX5_tugsIn_44 ?_
            refine z_isub hx hb dX5_tugsIn_45 ?_
            refine z_cs (As := [.int (zI mm), .int (zI (σ 20 i)), .int (zI ((σ 20 i + σ 8 (σ 15 i)) - 1))]) (rest := [.int (zI v)]) ⟨hx, hb, hml, hown, hts⟩ (c_X5_in l D cI cO cL b ma σ s.heap hR mm (σ 20 i) ((σ 20 i + σ 8 (σ 15 i)) - 1) (by omega)) (va_cwS 3 hts gX5_tugsIn_X5_in rfl rfl rfl (by decide +kernel) ⟨Nat.le_of_ble_eq_true rfl, Nat.le_of_ble_eq_true rfl⟩) (zKK_mv D cI cO cL) (fun U _ hv => va_K.moved hv hK) rfl hl.1 rfl (Nat.le_of_ble_eq_true rfl) dX5_tugsIn_46 ⟨Nat.zero_le _, Nat.zero_le _⟩ (fun r_6 hr_6 => ?_)
            rw [hr_6]
            refine z_ifb_eq (tgt := 67) hx hb dX5_tugsIn_49 (by decide) (fun c_7 => ?_) (fun c_7 => ?_)
            · refine z_iconst hx hb dX5_tugsIn_67 ?_
              refine z_iadd hx hb dX5_tugsIn_68 ?_
              refine lv_istore_n (lv' := [(3, .int (zI (v + 0))), (0, .ref b), (1, .int (zI k)), (2, .int (zI mm)), (4, .int (zI i))]) hx hb dX5_tugsIn_69 rfl hl (by decide) rfl (fun ls hl => ?_)
              refine z_iinc (lv' := [(4, .int (zI (i + 1))), (3, .int (zI (v + 0))), (0, .ref b), (1, .int (zI k)), (2, .int (zI mm))]) hx hb dX5_tugsIn_70 hl (k := 4) rfl (by decide) rfl (fun ls hl => ?_)
              refine lv_goto (tgt := 5) hx hb dX5_tugsIn_73 (by decide) ?_
              exact wo _ _ _ _ _ (ih (v + 0) (i + 1) ls (by rw [zSum_i _ hi.1, ← hw]; first | rw [zTug_t (by omega)] | rw [zTug_f (by omega)]) (by omega) (by omega) (lv_sub hl [2, 3, 4, 1, 0] rfl))
            · refine lv_aload_n hx hb dX5_tugsIn_52 rfl (lv_at hl 0 rfl) ?_
              refine m_get hx hb hts in_X5_tugsIn hown hK hR 9 (by decide) lk_X5_tugsIn_29 rfl rfl dX5_tugsIn_53 ?_
              refine lv_aload_n hx hb dX5_tugsIn_56 rfl (lv_at hl 0 rfl) ?_
              refine m_get hx hb hts in_X5_tugsIn hown hK hR 15 (by decide) lk_X5_tugsIn_41 rfl rfl dX5_tugsIn_57 ?_
              refine lv_iload hx hb dX5_tugsIn_60 (lv_at hl 4 rfl) ?_
              refine m_ald hx hb hK hR 15 rfl (by show 0 ≤ i ∧ i < ((40 : Nat) : Int); omega) dX5_tugsIn_62 ?_
              refine m_ald hx hb hK hR 9 rfl (by show 0 ≤ (σ 15 i) ∧ (σ 15 i) < ((12 : Nat) : Int); omega) dX5_tugsIn_63 ?_
              refine lv_goto (tgt := 68) hx hb dX5_tugsIn_64 (by decide) ?_
              refine z_iadd hx hb dX5_tugsIn_68 ?_
              refine lv_istore_n (lv' := [(3, .int (zI (v + (σ 9 (σ 15 i))))), (0, .ref b), (1, .int (zI k)), (2, .int (zI mm)), (4, .int (zI i))]) hx hb dX5_tugsIn_69 rfl hl (by decide) rfl (fun ls hl => ?_)
              refine z_iinc (lv' := [(4, .int (zI (i + 1))), (3, .int (zI (v + (σ 9 (σ 15 i))))), (0, .ref b), (1, .int (zI k)), (2, .int (zI mm))]) hx hb dX5_tugsIn_70 hl (k := 4) rfl (by decide) rfl (fun ls hl => ?_)
              refine lv_goto (tgt := 5) hx hb dX5_tugsIn_73 (by decide) ?_
              exact wo _ _ _ _ _ (ih (v + (σ 9 (σ 15 i))) (i + 1) ls (by rw [zSum_i _ hi.1, ← hw]; first | rw [zTug_t (by omega)] | rw [zTug_f (by omega)]) (by omega) (by omega) (lv_sub hl [2, 3, 4, 1, 0] rfl))
  exact wo _ _ _ _ _ (hL _ 0 0 ls (by rfl) (by omega) (Nat.lt_succ_self _) (lv_sub hl [2, 3, 4, 1, 0] rfl))

theorem lk_X5_pilotDoes_26 : Cond.fieldLink RX5 26 "HarbourPilotlineModel" "takes" "[I" ∈ wsX5_pilotDoes := by decide +kernel
theorem lk_X5_pilotDoes_41 : Cond.fieldLink RX5 41 "HarbourPilotlineModel" "ship" "[I" ∈ wsX5_pilotDoes := by decide +kernel
theorem lk_X5_pilotDoes_71 : Cond.fieldLink RX5 71 "HarbourPilotlineModel" "conferences" "I" ∈ wsX5_pilotDoes := by decide +kernel
theorem lk_X5_pilotDoes_50 : Cond.fieldLink RX5 50 "HarbourPilotlineModel" "pilot" "[I" ∈ wsX5_pilotDoes := by decide +kernel
theorem lk_X5_pilotDoes_56 : Cond.fieldLink RX5 56 "HarbourPilotlineModel" "slot" "[I" ∈ wsX5_pilotDoes := by decide +kernel
theorem in_X5_pilotDoes : ∀ w ∈ wsX50, w ∈ wsX5_pilotDoes := by decide +kernel
set_option maxRecDepth 100000 in
set_option maxHeartbeats 4000000 in
theorem c_X5_pilotDoes (l : Launch) (D : va_G) (cI cO cL : ClassId) (b : Nat) (ma : Nat → Nat) (σ : zT) (H0 : Heap) (hR : RM D cI b ma σ H0) (k t : Int) (hI : zInv σ) (hk : 0 ≤ k ∧ k < σ 14 0) (hv : 0 ≤ t ∧ t < 1000000) : zPM l yX5_pilotDoes wsX5_pilotDoes ({ frames := 1, cells := 0, slots := 0, locals := 21 }) (zKK D cI cO cL) [.ref b, .int (zI k), .int (zI t)] H0 (fun r => r = .int (zI (bI (zRestOk σ k t)))) := by
  refine Met.ofW (cc := cX5_pilotDoes) (maxL := 7) (ret := (some .boolean)) (by decide) rfl ?_
  intro p e s m args below meth c s₁ B hml hv
  obtain ⟨rfl, hH, hK⟩ := hv
  subst hH
  have hx := B.exec
  have hb := B.bytes
  have hr := B.returns
  have hts := atoms_spec (ws := wsX5_pilotDoes) B.pre
  have hown : s.vm.findClass RX5 = some m.cls := findClass_of_methodNamed B.named
  have hlocks := B.notSynchronized
  have hl := lv_entry ([.ref b, .int (zI k), .int (zI t)]) (n := 7) (Nat.le_of_ble_eq_true rfl)
  rw [lg_entry_eq]
  generalize (lg_sl ([.ref b, .int (zI k), .int (zI t)]) ++ List.replicate (7 - (lg_sl ([.ref b, .int (zI k), .int (zI t)])).length) Slot.unset).toArray = ls at hl ⊢
  have hl : lv_has ls 7 [(0, .ref b), (1, .int (zI k)), (2, .int (zI t))] := hl
  have f0 := hI.r
  have fk := hI.c hk
  have gk := hI.s (i := σ 15 k) (by omega)
  have rk := zRest_r (σ 8 (σ 15 k))
  refine lv_aload_n hx hb dX5_pilotDoes_0 rfl (lv_at hl 0 rfl) ?_
  refine m_get hx hb hts in_X5_pilotDoes hown hK hR 8 (by decide) lk_X5_pilotDoes_26 rfl rfl dX5_pilotDoes_1 ?_
  refine lv_aload_n hx hb dX5_pilotDoes_4 rfl (lv_at hl 0 rfl) ?_
  refine m_get hx hb hts in_X5_pilotDoes hown hK hR 15 (by decide) lk_X5_pilotDoes_41 rfl rfl dX5_pilotDoes_5 ?_
  refine lv_iload_n hx hb dX5_pilotDoes_8 rfl (lv_at hl 1 rfl) ?_
  refine m_ald hx hb hK hR 15 rfl (by show 0 ≤ k ∧ k < ((40 : Nat) : Int); omega) dX5_pilotDoes_9 ?_
  refine m_ald hx hb hK hR 8 rfl (by show 0 ≤ (σ 15 k) ∧ (σ 15 k) < ((12 : Nat) : Int); omega) dX5_pilotDoes_10 ?_
  refine lv_istore_n (lv' := [(3, .int (zI (σ 8 (σ 15 k)))), (0, .ref b), (1, .int (zI k)), (2, .int (zI t))]) hx hb dX5_pilotDoes_11 rfl hl (by decide) rfl (fun ls hl => ?_)
  refine z_iconst hx hb dX5_pilotDoes_12 ?_
  refine lv_istore (lv' := [(4, .int (zI 1)), (3, .int (zI (σ 8 (σ 15 k)))), (0, .ref b), (1, .int (zI k)), (2, .int (zI t))]) hx hb dX5_pilotDoes_13 hl (by decide) rfl (fun ls hl => ?_)
  refine z_iconst hx hb dX5_pilotDoes_15 ?_
  refine lv_istore (lv' := [(5, .int (zI 0)), (4, .int (zI 1)), (3, .int (zI (σ 8 (σ 15 k)))), (0, .ref b), (1, .int (zI k)), (2, .int (zI t))]) hx hb dX5_pilotDoes_16 hl (by decide) rfl (fun ls hl => ?_)
  refine z_cap (fun WW wi wo => ?_)
  have hL : ∀ (n : Nat) (d i : Int) (ls : Array Slot), d = bI (∀ o, 0 ≤ o → o < i → zRestOk1 σ k t o) → 0 ≤ i ∧ i ≤ σ 14 0 → (σ 14 0 - i).toNat < n → lv_has ls 7 [(3, .int (zI (σ 8 (σ 15 k)))), (0, .ref b), (1, .int (zI k)), (2, .int (zI t)), (4, .int (zI d)), (5, .int (zI i))] → WW s.heap [] 0 0 (F0 m 18 ls []) := by
    intro n
    induction n with
    | zero => intro d i ls hd hi hm; exact absurd hm (Nat.not_lt_zero _)
    | succ n ih =>
      intro d i ls hd hi hm hl
      refine wi _ _ _ _ _ ?_
      have hd2 : 0 ≤ d ∧ d ≤ 1 := by rw [hd]; exact bI_rng _
      refine lv_iload hx hb dX5_pilotDoes_18 (lv_at hl 5 rfl) ?_
      refine lv_aload_n hx hb dX5_pilotDoes_20 rfl (lv_at hl 1 rfl) ?_
      refine m_get hx hb hts in_X5_pilotDoes hown hK hR 14 (by decide) lk_X5_pilotDoes_71 rfl rfl dX5_pilotDoes_21 ?_
      refine z_icmp_ge (tgt := 124) hx hb dX5_pilotDoes_24 (by decide) (by omega) (fun c_1 => ?_) (fun c_1 => ?_)
      · refine lv_iload hx hb dX5_pilotDoes_124 (lv_at hl 4 rfl) ?_
        exact W.zret hx hb hr (by rw [show d = bI (zRestOk σ k t) by rw [hd, show i = σ 14 0 by omega]; rfl]; exact bI_narrow _) (z_end (post := fun r => r = .int (zI (bI (zRestOk σ k t)))) (z_eq (a := d) (b := bI (zRestOk σ k t)) (by rw [hd, show i = σ 14 0 by omega]; rfl))) (fun _ h => nomatch h) dX5_pilotDoes_126
      · have fi := hI.c (i := i) (by omega)
        have gi := hI.s (i := σ 15 i) (by omega)
        have ri := zRest_r (σ 8 (σ 15 i))
        refine lv_iload hx hb dX5_pilotDoes_27 (lv_at hl 5 rfl) ?_
        refine lv_iload_n hx hb dX5_pilotDoes_29 rfl (lv_at hl 2 rfl) ?_
        refine z_icmp_eq (tgt := 118) hx hb dX5_pilotDoes_30 (by decide) (by omega) (fun c_2 => ?_) (fun c_2 => ?_)
        · refine z_iinc (lv' := [(5, .int (zI (i + 1))), (3, .int (zI (σ 8 (σ 15 k)))), (0, .ref b), (1, .int (zI k)), (2, .int (zI t)), (4, .int (zI d))]) hx hb dX5_pilotDoes_118 hl (k := 5) rfl (by decide) rfl (fun ls hl => ?_)
          refine lv_goto (tgt := 18) hx hb dX5_pilotDoes_121 (by decide) ?_
          exact wo _ _ _ _ _ (ih d (i + 1) ls (by exact bI_all_t hi.1 hd (by intro h1 h2 h3; simp only [zOv, zTk]; omega)) (by omega) (by omega) (lv_sub hl [1, 2, 3, 4, 5, 0] rfl))
        · refine lv_aload_n hx hb dX5_pilotDoes_33 rfl (lv_at hl 1 rfl) ?_
          refine lv_iload hx hb dX5_pilotDoes_34 (lv_at hl 5 rfl) ?_
          refine z_cv (As := [.int (zI i)]) (rest := []) ⟨hx, hb, hml, hown, hts⟩ (c_X5_hasSlot l D cI cO cL b ma σ s.heap hR i hI (by omega)) (cwV 1 hts gX5_pilotDoes_X5_hasSlot rfl rfl rfl (by decide +kernel) ⟨Nat.le_of_ble_eq_true rfl, Nat.le_of_ble_eq_true rfl⟩) (zKK_mv D cI cO cL) (fun U _ hv => va_K.moved hv hK) (m_recv hK hR) rfl hl.1 rfl (Nat.le_of_ble_eq_true rfl) dX5_pilotDoes_36 ⟨Nat.zero_le _, Nat.zero_le _⟩ (fun r_3 hr_3 => ?_)
          rw [hr_3]
          refine z_ifb_eq (tgt := 118) hx hb dX5_pilotDoes_39 (by decide) (fun c_4 => ?_) (fun c_4 => ?_)
          · refine z_iinc (lv' := [(5, .int (zI (i + 1))), (3, .int (zI (σ 8 (σ 15 k)))), (0, .ref b), (1, .int (zI k)), (2, .int (zI t)), (4, .int (zI d))]) hx hb dX5_pilotDoes_118 hl (k := 5) rfl (by decide) rfl (fun ls hl => ?_)
            refine lv_goto (tgt := 18) hx hb dX5_pilotDoes_121 (by decide) ?_
            exact wo _ _ _ _ _ (ih d (i + 1) ls (by exact bI_all_t hi.1 hd (by intro h1 h2 h3; simp only [zOv, zTk]; omega)) (by omega) (by omega) (lv_sub hl [1, 2, 3, 4, 5, 0] rfl))
          · refine lv_aload_n hx hb dX5_pilotDoes_42 rfl (lv_at hl 1 rfl) ?_
            refine m_get hx hb hts in_X5_pilotDoes hown hK hR 18 (by decide) lk_X5_pilotDoes_50 rfl rfl dX5_pilotDoes_43 ?_
            refine lv_iload hx hb dX5_pilotDoes_46 (lv_at hl 5 rfl) ?_
            refine m_ald hx hb hK hR 18 rfl (by show 0 ≤ i ∧ i < ((40 : Nat) : Int); omega) dX5_pilotDoes_48 ?_
            refine lv_aload_n hx hb dX5_pilotDoes_49 rfl (lv_at hl 1 rfl) ?_
            refine m_get hx hb hts in_X5_pilotDoes hown hK hR 18 (by decide) lk_X5_pilotDoes_50 rfl rfl dX5_pilotDoes_50 ?_
            refine lv_iload_n hx hb dX5_pilotDoes_53 rfl (lv_at hl 2 rfl) ?_
            refine m_ald hx hb hK hR 18 rfl (by show 0 ≤ k ∧ k < ((40 : Nat) : Int); omega) dX5_pilotDoes_54 ?_
            refine z_icmp_ne (tgt := 118) hx hb dX5_pilotDoes_55 (by decide) (by omega) (fun c_5 => ?_) (fun c_5 => ?_)
            · refine z_iinc (lv' := [(5, .int (zI (i + 1))), (3, .int (zI (σ 8 (σ 15 k)))), (0, .ref b), (1, .int (zI k)), (2, .int (zI t)), (4, .int (zI d))]) hx hb dX5_pilotDoes_118 hl (k := 5) rfl (by decide) rfl (fun ls hl => ?_)
              refine lv_goto (tgt := 18) hx hb dX5_pilotDoes_121 (by decide) ?_
              exact wo _ _ _ _ _ (ih d (i + 1) ls (by exact bI_all_t hi.1 hd (by intro h1 h2 h3; simp only [zOv, zTk]; omega)) (by omega) (by omega) (lv_sub hl [1, 2, 3, 4, 5, 0] rfl))
            · refine lv_aload_n hx hb dX5_pilotDoes_58 rfl (lv_at hl 1 rfl) ?_
              refine m_get hx hb hts in_X5_pilotDoes hown hK hR 8 (by decide) lk_X5_pilotDoes_26 rfl rfl dX5_pilotDoes_59 ?_
              refine lv_aload_n hx hb dX5_pilotDoes_62 rfl (lv_at hl 1 rfl) ?_
              refine m_get hx hb hts in_X5_pilotDoes hown hK hR 15 (by decide) lk_X5_pilotDoes_41 rfl rfl dX5_pilotDoes_63 ?_
              refine lv_iload hx hb dX5_pilotDoes_66 (lv_at hl 5 rfl) ?_
              refine m_ald hx hb hK hR 15 rfl (by show 0 ≤ i ∧ i < ((40 : Nat) : Int); omega) dX5_pilotDoes_68 ?_
              refine m_ald hx hb hK hR 8 rfl (by show 0 ≤ (σ 15 i) ∧ (σ 15 i) < ((12 : Nat) : Int); omega) dX5_pilotDoes_69 ?_
              refine lv_istore (lv' := [(6, .int (zI (σ 8 (σ 15 i)))), (3, .int (zI (σ 8 (σ 15 k)))), (0, .ref b), (1, .int (zI k)), (2, .int (zI t)), (4, .int (zI d)), (5, .int (zI i))]) hx hb dX5_pilotDoes_70 hl (by decide) rfl (fun ls hl => ?_)
              refine lv_iload hx hb dX5_pilotDoes_72 (lv_at hl 5 rfl) ?_
              refine z_if_eq (tgt := 115) hx hb dX5_pilotDoes_74 (by decide) (by omega) (fun c_6 => ?_) (fun c_6 => ?_)
              · refine z_iconst hx hb dX5_pilotDoes_115 ?_
                refine lv_istore (lv' := [(4, .int (zI 0)), (6, .int (zI (σ 8 (σ 15 i)))), (3, .int (zI (σ 8 (σ 15 k)))), (0, .ref b), (1, .int (zI k)), (2, .int (zI t)), (5, .int (zI i))]) hx hb dX5_pilotDoes_116 hl (by decide) rfl (fun ls hl => ?_)
                refine z_iinc (lv' := [(5, .int (zI (i + 1))), (4, .int (zI 0)), (6, .int (zI (σ 8 (σ 15 i)))), (3, .int (zI (σ 8 (σ 15 k)))), (0, .ref b), (1, .int (zI k)), (2, .int (zI t))]) hx hb dX5_pilotDoes_118 hl (k := 6) rfl (by decide) rfl (fun ls hl => ?_)
                refine lv_goto (tgt := 18) hx hb dX5_pilotDoes_121 (by decide) ?_
                exact wo _ _ _ _ _ (ih 0 (i + 1) ls (by first | exact bI_all_d hd (by omega) | exact bI_all_f hi.1 (by intro hP; have hP := hP (by omega) (by omega) (by omega); simp only [zOv, zTk] at hP; omega)) (by omega) (by omega) (lv_sub hl [3, 4, 5, 6, 1, 0] rfl))
              · refine lv_iload_n hx hb dX5_pilotDoes_77 rfl (lv_at hl 4 rfl) ?_
                refine lv_aload_n hx hb dX5_pilotDoes_78 rfl (lv_at hl 2 rfl) ?_
                refine lv_iload hx hb dX5_pilotDoes_79 (lv_at hl 6 rfl) ?_
                refine z_cv (As := [.int (zI i)]) (rest := [.int (zI t)]) ⟨hx, hb, hml, hown, hts⟩ (c_X5_over l D cI cO cL b ma σ s.heap hR i (by omega) (by omega)) (cwV 1 hts gX5_pilotDoes_X5_over rfl rfl rfl (by decide +kernel) ⟨Nat.le_of_ble_eq_true rfl, Nat.le_of_ble_eq_true rfl⟩) (zKK_mv D cI cO cL) (fun U _ hv => va_K.moved hv hK) (m_recv hK hR) rfl hl.1 rfl (Nat.le_of_ble_eq_true rfl) dX5_pilotDoes_81 ⟨Nat.zero_le _, Nat.zero_le _⟩ (fun r_7 hr_7 => ?_)
                rw [hr_7]
                refine lv_iload hx hb dX5_pilotDoes_84 (lv_at hl 0 rfl) ?_
                refine z_cs (As := [.int (zI (σ 8 (σ 15 i)))]) (rest := [.int (zI (σ 20 i + σ 8 (σ 15 i))), .int (zI t)]) ⟨hx, hb, hml, hown, hts⟩ (c_X5_rest l D cI cO cL b ma σ s.heap hR (σ 8 (σ 15 i)) (by omega)) (va_cwS 1 hts gX5_pilotDoes_X5_rest rfl rfl rfl (by decide +kernel) ⟨Nat.le_of_ble_eq_true rfl, Nat.le_of_ble_eq_true rfl⟩) (zKK_mv D cI cO cL) (fun U _ hv => va_K.moved hv hK) rfl hl.1 rfl (Nat.le_of_ble_eq_true rfl) dX5_pilotDoes_86 ⟨Nat.zero_le _, Nat.zero_le _⟩ (fun r_8 hr_8 => ?_)
                rw [hr_8]
                refine z_iadd hx hb dX5_pilotDoes_89 ?_
                refine z_icmp_ge (tgt := 111) hx hb dX5_pilotDoes_90 (by decide) (by omega) (fun c_9 => ?_) (fun c_9 => ?_)
                · refine z_iconst hx hb dX5_pilotDoes_111 ?_
                  refine lv_goto (tgt := 116) hx hb dX5_pilotDoes_112 (by decide) ?_
                  refine lv_istore (lv' := [(4, .int (zI 1)), (6, .int (zI (σ 8 (σ 15 i)))), (3, .int (zI (σ 8 (σ 15 k)))), (0, .ref b), (1, .int (zI k)), (2, .int (zI t)), (5, .int (zI i))]) hx hb dX5_pilotDoes_116 hl (by decide) rfl (fun ls hl => ?_)
                  refine z_iinc (lv' := [(5, .int (zI (i + 1))), (4, .int (zI 1)), (6, .int (zI (σ 8 (σ 15 i)))), (3, .int (zI (σ 8 (σ 15 k)))), (0, .ref b), (1, .int (zI k)), (2, .int (zI t))]) hx hb dX5_pilotDoes_118 hl (k := 6) rfl (by decide) rfl (fun ls hl => ?_)
                  refine lv_goto (tgt := 18) hx hb dX5_pilotDoes_121 (by decide) ?_
                  exact wo _ _ _ _ _ (ih 1 (i + 1) ls (by exact bI_all_1 hi.1 hd (by omega) (by intro h1 h2 h3; simp only [zOv, zTk]; omega)) (by omega) (by omega) (lv_sub hl [3, 4, 5, 6, 1, 0] rfl))
                · refine lv_aload_n hx hb dX5_pilotDoes_93 rfl (lv_at hl 2 rfl) ?_
                  refine m_get hx hb hts in_X5_pilotDoes hown hK hR 20 (by decide) lk_X5_pilotDoes_56 rfl rfl dX5_pilotDoes_94 ?_
                  refine lv_iload hx hb dX5_pilotDoes_97 (lv_at hl 6 rfl) ?_
                  refine m_ald hx hb hK hR 20 rfl (by show 0 ≤ i ∧ i < ((40 : Nat) : Int); omega) dX5_pilotDoes_99 ?_
                  refine lv_iload_n hx hb dX5_pilotDoes_100 rfl (lv_at hl 4 rfl) ?_
                  refine lv_iload_n hx hb dX5_pilotDoes_101 rfl (lv_at hl 1 rfl) ?_
                  refine z_iadd hx hb dX5_pilotDoes_102 ?_
                  refine lv_iload_n hx hb dX5_pilotDoes_103 rfl (lv_at hl 1 rfl) ?_
                  refine z_cs (As := [.int (zI (σ 8 (σ 15 k)))]) (rest := [.int (zI (t + (σ 8 (σ 15 k)))), .int (zI (σ 20 i))]) ⟨hx, hb, hml, hown, hts⟩ (c_X5_rest l D cI cO cL b ma σ s.heap hR (σ 8 (σ 15 k)) (by omega)) (va_cwS 1 hts gX5_pilotDoes_X5_rest rfl rfl rfl (by decide +kernel) ⟨Nat.le_of_ble_eq_true rfl, Nat.le_of_ble_eq_true rfl⟩) (zKK_mv D cI cO cL) (fun U _ hv => va_K.moved hv hK) rfl hl.1 rfl (Nat.le_of_ble_eq_true rfl) dX5_pilotDoes_104 ⟨Nat.zero_le _, Nat.zero_le _⟩ (fun r_10 hr_10 => ?_)
                  rw [hr_10]
                  refine z_iadd hx hb dX5_pilotDoes_107 ?_
                  refine z_icmp_lt (tgt := 115) hx hb dX5_pilotDoes_108 (by decide) (by omega) (fun c_11 => ?_) (fun c_11 => ?_)
                  · refine z_iconst hx hb dX5_pilotDoes_115 ?_
                    refine lv_istore (lv' := [(4, .int (zI 0)), (6, .int (zI (σ 8 (σ 15 i)))), (3, .int (zI (σ 8 (σ 15 k)))), (0, .ref b), (1, .int (zI k)), (2, .int (zI t)), (5, .int (zI i))]) hx hb dX5_pilotDoes_116 hl (by decide) rfl (fun ls hl => ?_)
                    refine z_iinc (lv' := [(5, .int (zI (i + 1))), (4, .int (zI 0)), (6, .int (zI (σ 8 (σ 15 i)))), (3, .int (zI (σ 8 (σ 15 k)))), (0, .ref b), (1, .int (zI k)), (2, .int (zI t))]) hx hb dX5_pilotDoes_118 hl (k := 6) rfl (by decide) rfl (fun ls hl => ?_)
                    refine lv_goto (tgt := 18) hx hb dX5_pilotDoes_121 (by decide) ?_
                    exact wo _ _ _ _ _ (ih 0 (i + 1) ls (by first | exact bI_all_d hd (by omega) | exact bI_all_f hi.1 (by intro hP; have hP := hP (by omega) (by omega) (by omega); simp only [zOv, zTk] at hP; omega)) (by omega) (by omega) (lv_sub hl [3, 4, 5, 6, 1, 0] rfl))
                  · refine z_iconst hx hb dX5_pilotDoes_111 ?_
                    refine lv_goto (tgt := 116) hx hb dX5_pilotDoes_112 (by decide) ?_
                    refine lv_istore (lv' := [(4, .int (zI 1)), (6, .int (zI (σ 8 (σ 15 i)))), (3, .int (zI (σ 8 (σ 15 k)))), (0, .ref b), (1, .int (zI k)), (2, .int (zI t)), (5, .int (zI i))]) hx hb dX5_pilotDoes_116 hl (by decide) rfl (fun ls hl => ?_)
                    refine z_iinc (lv' := [(5, .int (zI (i + 1))), (4, .int (zI 1)), (6, .int (zI (σ 8 (σ 15 i)))), (3, .int (zI (σ 8 (σ 15 k)))), (0, .ref b), (1, .int (zI k)), (2, .int (zI t))]) hx hb dX5_pilotDoes_118 hl (k := 6) rfl (by decide) rfl (fun ls hl => ?_)
                    refine lv_goto (tgt := 18) hx hb dX5_pilotDoes_121 (by decide) ?_
                    exact wo _ _ _ _ _ (ih 1 (i + 1) ls (by exact bI_all_1 hi.1 hd (by omega) (by intro h1 h2 h3; simp only [zOv, zTk]; omega)) (by omega) (by omega) (lv_sub hl [3, 4, 5, 6, 1, 0] rfl))
  exact wo _ _ _ _ _ (hL _ 1 0 ls (by exact bI_all_0 (by omega)) (by omega) (Nat.lt_succ_self _) (lv_sub hl [2, 3, 4, 5, 1, 0] rfl))

theorem lk_X5_channelDoes_71 : Cond.fieldLink RX5 71 "HarbourPilotlineModel" "conferences" "I" ∈ wsX5_channelDoes := by decide +kernel
theorem lk_X5_channelDoes_56 : Cond.fieldLink RX5 56 "HarbourPilotlineModel" "slot" "[I" ∈ wsX5_channelDoes := by decide +kernel
theorem in_X5_channelDoes : ∀ w ∈ wsX50, w ∈ wsX5_channelDoes := by decide +kernel
set_option maxRecDepth 100000 in
set_option maxHeartbeats 4000000 in
theorem c_X5_channelDoes (l : Launch) (D : va_G) (cI cO cL : ClassId) (b : Nat) (ma : Nat → Nat) (σ : zT) (H0 : Heap) (hR : RM D cI b ma σ H0) (k t : Int) (hI : zInv σ) (hk : 0 ≤ k ∧ k < σ 14 0) (hv : 0 ≤ t ∧ t < 1000000) : zPM l yX5_channelDoes wsX5_channelDoes ({ frames := 1, cells := 0, slots := 0, locals := 21 }) (zKK D cI cO cL) [.ref b, .int (zI k), .int (zI t)] H0 (fun r => r = .int (zI (bI (zChanOk σ k t)))) := by
  refine Met.ofW (cc := cX5_channelDoes) (maxL := 5) (ret := (some .boolean)) (by decide) rfl ?_
  intro p e s m args below meth c s₁ B hml hv
  obtain ⟨rfl, hH, hK⟩ := hv
  subst hH
  have hx := B.exec
  have hb := B.bytes
  have hr := B.returns
  have hts := atoms_spec (ws := wsX5_channelDoes) B.pre
  have hown : s.vm.findClass RX5 = some m.cls := findClass_of_methodNamed B.named
  have hlocks := B.notSynchronized
  have hl := lv_entry ([.ref b, .int (zI k), .int (zI t)]) (n := 5) (Nat.le_of_ble_eq_true rfl)
  rw [lg_entry_eq]
  generalize (lg_sl ([.ref b, .int (zI k), .int (zI t)]) ++ List.replicate (5 - (lg_sl ([.ref b, .int (zI k), .int (zI t)])).length) Slot.unset).toArray = ls at hl ⊢
  have hl : lv_has ls 5 [(0, .ref b), (1, .int (zI k)), (2, .int (zI t))] := hl
  have f0 := hI.r
  have fk := hI.c hk
  have gk := hI.s (i := σ 15 k) (by omega)
  refine z_iconst hx hb dX5_channelDoes_0 ?_
  refine lv_istore_n (lv' := [(3, .int (zI 1)), (0, .ref b), (1, .int (zI k)), (2, .int (zI t))]) hx hb dX5_channelDoes_1 rfl hl (by decide) rfl (fun ls hl => ?_)
  refine z_iconst hx hb dX5_channelDoes_2 ?_
  refine lv_istore (lv' := [(4, .int (zI 0)), (3, .int (zI 1)), (0, .ref b), (1, .int (zI k)), (2, .int (zI t))]) hx hb dX5_channelDoes_3 hl (by decide) rfl (fun ls hl => ?_)
  refine z_cap (fun WW wi wo => ?_)
  have hL : ∀ (n : Nat) (d i : Int) (ls : Array Slot), d = bI (∀ o, 0 ≤ o → o < i → zChanOk1 σ k t o) → 0 ≤ i ∧ i ≤ σ 14 0 → (σ 14 0 - i).toNat < n → lv_has ls 5 [(0, .ref b), (1, .int (zI k)), (2, .int (zI t)), (3, .int (zI d)), (4, .int (zI i))] → WW s.heap [] 0 0 (F0 m 5 ls []) := by
    intro n
    induction n with
    | zero => intro d i ls hd hi hm; exact absurd hm (Nat.not_lt_zero _)
    | succ n ih =>
      intro d i ls hd hi hm hl
      refine wi _ _ _ _ _ ?_
      have hd2 : 0 ≤ d ∧ d ≤ 1 := by rw [hd]; exact bI_rng _
      refine lv_iload hx hb dX5_channelDoes_5 (lv_at hl 4 rfl) ?_
      refine lv_aload_n hx hb dX5_channelDoes_7 rfl (lv_at hl 0 rfl) ?_
      refine m_get hx hb hts in_X5_channelDoes hown hK hR 14 (by decide) lk_X5_channelDoes_71 rfl rfl dX5_channelDoes_8 ?_
      refine z_icmp_ge (tgt := 73) hx hb dX5_channelDoes_11 (by decide) (by omega) (fun c_1 => ?_) (fun c_1 => ?_)
      · refine lv_iload_n hx hb dX5_channelDoes_73 rfl (lv_at hl 3 rfl) ?_
        exact W.zret hx hb hr (by rw [show d = bI (zChanOk σ k t) by rw [hd, show i = σ 14 0 by omega]; rfl]; exact bI_narrow _) (z_end (post := fun r => r = .int (zI (bI (zChanOk σ k t)))) (z_eq (a := d) (b := bI (zChanOk σ k t)) (by rw [hd, show i = σ 14 0 by omega]; rfl))) (fun _ h => nomatch h) dX5_channelDoes_74
      · have fi := hI.c (i := i) (by omega)
        have gi := hI.s (i := σ 15 i) (by omega)
        refine lv_iload_n hx hb dX5_channelDoes_14 rfl (lv_at hl 3 rfl) ?_
        refine z_if_eq (tgt := 65) hx hb dX5_channelDoes_15 (by decide) (by omega) (fun c_2 => ?_) (fun c_2 => ?_)
        · refine z_iconst hx hb dX5_channelDoes_65 ?_
          refine lv_istore_n (lv' := [(3, .int (zI 0)), (0, .ref b), (1, .int (zI k)), (2, .int (zI t)), (4, .int (zI i))]) hx hb dX5_channelDoes_66 rfl hl (by decide) rfl (fun ls hl => ?_)
          refine z_iinc (lv' := [(4, .int (zI (i + 1))), (3, .int (zI 0)), (0, .ref b), (1, .int (zI k)), (2, .int (zI t))]) hx hb dX5_channelDoes_67 hl (k := 4) rfl (by decide) rfl (fun ls hl => ?_)
          refine lv_goto (tgt := 5) hx hb dX5_channelDoes_70 (by decide) ?_
          exact wo _ _ _ _ _ (ih 0 (i + 1) ls (by first | exact bI_all_d hd (by omega) | exact bI_all_f hi.1 (by intro hP; have hP := hP (by omega) (by omega); omega)) (by omega) (by omega) (lv_sub hl [2, 3, 4, 1, 0] rfl))
        · refine lv_iload hx hb dX5_channelDoes_18 (lv_at hl 4 rfl) ?_
          refine lv_iload_n hx hb dX5_channelDoes_20 rfl (lv_at hl 1 rfl) ?_
          refine z_icmp_eq (tgt := 61) hx hb dX5_channelDoes_21 (by decide) (by omega) (fun c_3 => ?_) (fun c_3 => ?_)
          · refine z_iconst hx hb dX5_channelDoes_61 ?_
            refine lv_goto (tgt := 66) hx hb dX5_channelDoes_62 (by decide) ?_
            refine lv_istore_n (lv' := [(3, .int (zI 1)), (0, .ref b), (1, .int (zI k)), (2, .int (zI t)), (4, .int (zI i))]) hx hb dX5_channelDoes_66 rfl hl (by decide) rfl (fun ls hl => ?_)
            refine z_iinc (lv' := [(4, .int (zI (i + 1))), (3, .int (zI 1)), (0, .ref b), (1, .int (zI k)), (2, .int (zI t))]) hx hb dX5_channelDoes_67 hl (k := 4) rfl (by decide) rfl (fun ls hl => ?_)
            refine lv_goto (tgt := 5) hx hb dX5_channelDoes_70 (by decide) ?_
            exact wo _ _ _ _ _ (ih 1 (i + 1) ls (by exact bI_all_1 hi.1 hd (by omega) (by intro h1 h2; omega)) (by omega) (by omega) (lv_sub hl [2, 3, 4, 1, 0] rfl))
          · refine lv_aload_n hx hb dX5_channelDoes_24 rfl (lv_at hl 0 rfl) ?_
            refine lv_iload hx hb dX5_channelDoes_25 (lv_at hl 4 rfl) ?_
            refine z_cv (As := [.int (zI i)]) (rest := []) ⟨hx, hb, hml, hown, hts⟩ (c_X5_hasSlot l D cI cO cL b ma σ s.heap hR i hI (by omega)) (cwV 1 hts gX5_channelDoes_X5_hasSlot rfl rfl rfl (by decide +kernel) ⟨Nat.le_of_ble_eq_true rfl, Nat.le_of_ble_eq_true rfl⟩) (zKK_mv D cI cO cL) (fun U _ hv => va_K.moved hv hK) (m_recv hK hR) rfl hl.1 rfl (Nat.le_of_ble_eq_true rfl) dX5_channelDoes_27 ⟨Nat.zero_le _, Nat.zero_le _⟩ (fun r_4 hr_4 => ?_)
            rw [hr_4]
            refine z_ifb_eq (tgt := 61) hx hb dX5_channelDoes_30 (by decide) (fun c_5 => ?_) (fun c_5 => ?_)
            · refine z_iconst hx hb dX5_channelDoes_61 ?_
              refine lv_goto (tgt := 66) hx hb dX5_channelDoes_62 (by decide) ?_
              refine lv_istore_n (lv' := [(3, .int (zI 1)), (0, .ref b), (1, .int (zI k)), (2, .int (zI t)), (4, .int (zI i))]) hx hb dX5_channelDoes_66 rfl hl (by decide) rfl (fun ls hl => ?_)
              refine z_iinc (lv' := [(4, .int (zI (i + 1))), (3, .int (zI 1)), (0, .ref b), (1, .int (zI k)), (2, .int (zI t))]) hx hb dX5_channelDoes_67 hl (k := 4) rfl (by decide) rfl (fun ls hl => ?_)
              refine lv_goto (tgt := 5) hx hb dX5_channelDoes_70 (by decide) ?_
              exact wo _ _ _ _ _ (ih 1 (i + 1) ls (by exact bI_all_1 hi.1 hd (by omega) (by intro h1 h2; omega)) (by omega) (by omega) (lv_sub hl [2, 3, 4, 1, 0] rfl))
            · refine lv_iload_n hx hb dX5_channelDoes_33 rfl (lv_at hl 2 rfl) ?_
              refine lv_aload_n hx hb dX5_channelDoes_34 rfl (lv_at hl 0 rfl) ?_
              refine m_get hx hb hts in_X5_channelDoes hown hK hR 20 (by decide) lk_X5_channelDoes_56 rfl rfl dX5_channelDoes_35 ?_
              refine lv_iload hx hb dX5_channelDoes_38 (lv_at hl 4 rfl) ?_
              refine m_ald hx hb hK hR 20 rfl (by show 0 ≤ i ∧ i < ((40 : Nat) : Int); omega) dX5_channelDoes_40 ?_
              refine z_isub hx hb dX5_channelDoes_41 ?_
              refine z_bipush hx hb dX5_channelDoes_42 (by decide +kernel) ?_
              refine z_icmp_ge (tgt := 61) hx hb dX5_channelDoes_44 (by decide) (by omega) (fun c_6 => ?_) (fun c_6 => ?_)
              · refine z_iconst hx hb dX5_channelDoes_61 ?_
                refine lv_goto (tgt := 66) hx hb dX5_channelDoes_62 (by decide) ?_
                refine lv_istore_n (lv' := [(3, .int (zI 1)), (0, .ref b), (1, .int (zI k)), (2, .int (zI t)), (4, .int (zI i))]) hx hb dX5_channelDoes_66 rfl hl (by decide) rfl (fun ls hl => ?_)
                refine z_iinc (lv' := [(4, .int (zI (i + 1))), (3, .int (zI 1)), (0, .ref b), (1, .int (zI k)), (2, .int (zI t))]) hx hb dX5_channelDoes_67 hl (k := 4) rfl (by decide) rfl (fun ls hl => ?_)
                refine lv_goto (tgt := 5) hx hb dX5_channelDoes_70 (by decide) ?_
                exact wo _ _ _ _ _ (ih 1 (i + 1) ls (by exact bI_all_1 hi.1 hd (by omega) (by intro h1 h2; omega)) (by omega) (by omega) (lv_sub hl [2, 3, 4, 1, 0] rfl))
              · refine lv_aload_n hx hb dX5_channelDoes_47 rfl (lv_at hl 0 rfl) ?_
                refine m_get hx hb hts in_X5_channelDoes hown hK hR 20 (by decide) lk_X5_channelDoes_56 rfl rfl dX5_channelDoes_48 ?_
                refine lv_iload hx hb dX5_channelDoes_51 (lv_at hl 4 rfl) ?_
                refine m_ald hx hb hK hR 20 rfl (by show 0 ≤ i ∧ i < ((40 : Nat) : Int); omega) dX5_channelDoes_53 ?_
                refine lv_iload_n hx hb dX5_channelDoes_54 rfl (lv_at hl 2 rfl) ?_
                refine z_isub hx hb dX5_channelDoes_55 ?_
                refine z_bipush hx hb dX5_channelDoes_56 (by decide +kernel) ?_
                refine z_icmp_lt (tgt := 65) hx hb dX5_channelDoes_58 (by decide) (by omega) (fun c_7 => ?_) (fun c_7 => ?_)
                · refine z_iconst hx hb dX5_channelDoes_65 ?_
                  refine lv_istore_n (lv' := [(3, .int (zI 0)), (0, .ref b), (1, .int (zI k)), (2, .int (zI t)), (4, .int (zI i))]) hx hb dX5_channelDoes_66 rfl hl (by decide) rfl (fun ls hl => ?_)
                  refine z_iinc (lv' := [(4, .int (zI (i + 1))), (3, .int (zI 0)), (0, .ref b), (1, .int (zI k)), (2, .int (zI t))]) hx hb dX5_channelDoes_67 hl (k := 4) rfl (by decide) rfl (fun ls hl => ?_)
                  refine lv_goto (tgt := 5) hx hb dX5_channelDoes_70 (by decide) ?_
                  exact wo _ _ _ _ _ (ih 0 (i + 1) ls (by first | exact bI_all_d hd (by omega) | exact bI_all_f hi.1 (by intro hP; have hP := hP (by omega) (by omega); omega)) (by omega) (by omega) (lv_sub hl [2, 3, 4, 1, 0] rfl))
                · refine z_iconst hx hb dX5_channelDoes_61 ?_
                  refine lv_goto (tgt := 66) hx hb dX5_channelDoes_62 (by decide) ?_
                  refine lv_istore_n (lv' := [(3, .int (zI 1)), (0, .ref b), (1, .int (zI k)), (2, .int (zI t)), (4, .int (zI i))]) hx hb dX5_channelDoes_66 rfl hl (by decide) rfl (fun ls hl => ?_)
                  refine z_iinc (lv' := [(4, .int (zI (i + 1))), (3, .int (zI 1)), (0, .ref b), (1, .int (zI k)), (2, .int (zI t))]) hx hb dX5_channelDoes_67 hl (k := 4) rfl (by decide) rfl (fun ls hl => ?_)
                  refine lv_goto (tgt := 5) hx hb dX5_channelDoes_70 (by decide) ?_
                  exact wo _ _ _ _ _ (ih 1 (i + 1) ls (by exact bI_all_1 hi.1 hd (by omega) (by intro h1 h2; omega)) (by omega) (by omega) (lv_sub hl [2, 3, 4, 1, 0] rfl))
  exact wo _ _ _ _ _ (hL _ 1 0 ls (by exact bI_all_0 (by omega)) (by omega) (Nat.lt_succ_self _) (lv_sub hl [2, 3, 4, 1, 0] rfl))

theorem lk_X5_tugsDo_26 : Cond.fieldLink RX5 26 "HarbourPilotlineModel" "takes" "[I" ∈ wsX5_tugsDo := by decide +kernel
theorem lk_X5_tugsDo_41 : Cond.fieldLink RX5 41 "HarbourPilotlineModel" "ship" "[I" ∈ wsX5_tugsDo := by decide +kernel
theorem lk_X5_tugsDo_29 : Cond.fieldLink RX5 29 "HarbourPilotlineModel" "needs" "[I" ∈ wsX5_tugsDo := by decide +kernel
theorem lk_X5_tugsDo_16 : Cond.fieldLink RX5 16 "HarbourPilotlineModel" "tugs" "I" ∈ wsX5_tugsDo := by decide +kernel
theorem in_X5_tugsDo : ∀ w ∈ wsX50, w ∈ wsX5_tugsDo := by decide +kernel
set_option maxRecDepth 100000 in
set_option maxHeartbeats 4000000 in
theorem c_X5_tugsDo (l : Launch) (D : va_G) (cI cO cL : ClassId) (b : Nat) (ma : Nat → Nat) (σ : zT) (H0 : Heap) (hR : RM D cI b ma σ H0) (k t : Int) (hI : zInv σ) (hk : 0 ≤ k ∧ k < σ 14 0) (hv : 0 ≤ t ∧ t < 900000) : zPM l yX5_tugsDo wsX5_tugsDo ({ frames := 2, cells := 0, slots := 0, locals := 46 }) (zKK D cI cO cL) [.ref b, .int (zI k), .int (zI t)] H0 (fun r => r = .int (zI (bI (zTugOk σ k t)))) := by
  refine Met.ofW (cc := cX5_tugsDo) (maxL := 5) (ret := (some .boolean)) (by decide) rfl ?_
  intro p e s m args below meth c s₁ B hml hv
  obtain ⟨rfl, hH, hK⟩ := hv
  subst hH
  have hx := B.exec
  have hb := B.bytes
  have hr := B.returns
  have hts := atoms_spec (ws := wsX5_tugsDo) B.pre
  have hown : s.vm.findClass RX5 = some m.cls := findClass_of_methodNamed B.named
  have hlocks := B.notSynchronized
  have hl := lv_entry ([.ref b, .int (zI k), .int (zI t)]) (n := 5) (Nat.le_of_ble_eq_true rfl)
  rw [lg_entry_eq]
  generalize (lg_sl ([.ref b, .int (zI k), .int (zI t)]) ++ List.replicate (5 - (lg_sl ([.ref b, .int (zI k), .int (zI t)])).length) Slot.unset).toArray = ls at hl ⊢
  have hl : lv_has ls 5 [(0, .ref b), (1, .int (zI k)), (2, .int (zI t))] := hl
  have f0 := hI.r
  have fk := hI.c hk
  have gk := hI.s (i := σ 15 k) (by omega)
  refine z_iconst hx hb dX5_tugsDo_0 ?_
  refine lv_istore_n (lv' := [(3, .int (zI 1)), (0, .ref b), (1, .int (zI k)), (2, .int (zI t))]) hx hb dX5_tugsDo_1 rfl hl (by decide) rfl (fun ls hl => ?_)
  refine lv_iload_n hx hb dX5_tugsDo_2 rfl (lv_at hl 3 rfl) ?_
  refine lv_istore (lv' := [(4, .int (zI t)), (3, .int (zI 1)), (0, .ref b), (1, .int (zI k)), (2, .int (zI t))]) hx hb dX5_tugsDo_3 hl (by decide) rfl (fun ls hl => ?_)
  refine z_cap (fun WW wi wo => ?_)
  have hL : ∀ (n : Nat) (d i : Int) (ls : Array Slot), d = bI (∀ mm, t ≤ mm → mm < i → zTugs σ k mm + zNd σ k ≤ σ 4 0) → t ≤ i ∧ i ≤ t + σ 8 (σ 15 k) → (t + σ 8 (σ 15 k) - i).toNat < n → lv_has ls 5 [(0, .ref b), (1, .int (zI k)), (2, .int (zI t)), (3, .int (zI d)), (4, .int (zI i))] → WW s.heap [] 0 0 (F0 m 5 ls []) := by
    intro n
    induction n with
    | zero => intro d i ls hd hi hm; exact absurd hm (Nat.not_lt_zero _)
    | succ n ih =>
      intro d i ls hd hi hm hl
      refine wi _ _ _ _ _ ?_
      have hd2 : 0 ≤ d ∧ d ≤ 1 := by rw [hd]; exact bI_rng _
      have ht := zTugs_r hI k i
      refine lv_iload hx hb dX5_tugsDo_5 (lv_at hl 4 rfl) ?_
      refine lv_iload_n hx hb dX5_tugsDo_7 rfl (lv_at hl 2 rfl) ?_
      refine lv_aload_n hx hb dX5_tugsDo_8 rfl (lv_at hl 0 rfl) ?_
      refine m_get hx hb hts in_X5_tugsDo hown hK hR 8 (by decide) lk_X5_tugsDo_26 rfl rfl dX5_tugsDo_9 ?_
      refine lv_aload_n hx hb dX5_tugsDo_12 rfl (lv_at hl 0 rfl) ?_
      refine m_get hx hb hts in_X5_tugsDo hown hK hR 15 (by decide) lk_X5_tugsDo_41 rfl rfl dX5_tugsDo_13 ?_
      refine lv_iload_n hx hb dX5_tugsDo_16 rfl (lv_at hl 1 rfl) ?_
      refine m_ald hx hb hK hR 15 rfl (by show 0 ≤ k ∧ k < ((40 : Nat) : Int); omega) dX5_tugsDo_17 ?_
      refine m_ald hx hb hK hR 8 rfl (by show 0 ≤ (σ 15 k) ∧ (σ 15 k) < ((12 : Nat) : Int); omega) dX5_tugsDo_18 ?_
      refine z_iadd hx hb dX5_tugsDo_19 ?_
      refine z_icmp_ge (tgt := 65) hx hb dX5_tugsDo_20 (by decide) (by omega) (fun c_1 => ?_) (fun c_1 => ?_)
      · refine lv_iload_n hx hb dX5_tugsDo_65 rfl (lv_at hl 3 rfl) ?_
        exact W.zret hx hb hr (by rw [show d = bI (zTugOk σ k t) by rw [hd, show i = t + σ 8 (σ 15 k) by omega]; rfl]; exact bI_narrow _) (z_end (post := fun r => r = .int (zI (bI (zTugOk σ k t)))) (z_eq (a := d) (b := bI (zTugOk σ k t)) (by rw [hd, show i = t + σ 8 (σ 15 k) by omega]; rfl))) (fun _ h => nomatch h) dX5_tugsDo_66
      · refine lv_iload_n hx hb dX5_tugsDo_23 rfl (lv_at hl 3 rfl) ?_
        refine z_if_eq (tgt := 65) hx hb dX5_tugsDo_24 (by decide) (by omega) (fun c_2 => ?_) (fun c_2 => ?_)
        · refine lv_iload_n hx hb dX5_tugsDo_65 rfl (lv_at hl 3 rfl) ?_
          exact W.zret hx hb hr (by rw [show d = bI (zTugOk σ k t) by rw [show d = 0 by omega]; rw [show d = 0 by omega] at hd; have hn := bI_eq0.mp hd.symm; exact (bI_f (fun h => hn (fun o a b => h o a (by simp only [zTk]; omega)))).symm]; exact bI_narrow _) (z_end (post := fun r => r = .int (zI (bI (zTugOk σ k t)))) (z_eq (a := d) (b := bI (zTugOk σ k t)) (by rw [show d = 0 by omega]; rw [show d = 0 by omega] at hd; have hn := bI_eq0.mp hd.symm; exact (bI_f (fun h => hn (fun o a b => h o a (by simp only [zTk]; omega)))).symm))) (fun _ h => nomatch h) dX5_tugsDo_66
        · refine lv_aload_n hx hb dX5_tugsDo_27 rfl (lv_at hl 0 rfl) ?_
          refine lv_iload_n hx hb dX5_tugsDo_28 rfl (lv_at hl 1 rfl) ?_
          refine lv_iload hx hb dX5_tugsDo_29 (lv_at hl 4 rfl) ?_
          refine z_cv (As := [.int (zI k), .int (zI i)]) (rest := []) ⟨hx, hb, hml, hown, hts⟩ (c_X5_tugsIn l D cI cO cL b ma σ s.heap hR k i hI (by omega) (by omega)) (cwV 2 hts gX5_tugsDo_X5_tugsIn rfl rfl rfl (by decide +kernel) ⟨Nat.le_of_ble_eq_true rfl, Nat.le_of_ble_eq_true rfl⟩) (zKK_mv D cI cO cL) (fun U _ hv => va_K.moved hv hK) (m_recv hK hR) rfl hl.1 rfl (Nat.le_of_ble_eq_true rfl) dX5_tugsDo_31 ⟨Nat.zero_le _, Nat.zero_le _⟩ (fun r_3 hr_3 => ?_)
          rw [hr_3]
          refine lv_aload_n hx hb dX5_tugsDo_34 rfl (lv_at hl 0 rfl) ?_
          refine m_get hx hb hts in_X5_tugsDo hown hK hR 9 (by decide) lk_X5_tugsDo_29 rfl rfl dX5_tugsDo_35 ?_
          refine lv_aload_n hx hb dX5_tugsDo_38 rfl (lv_at hl 0 rfl) ?_
          refine m_get hx hb hts in_X5_tugsDo hown hK hR 15 (by decide) lk_X5_tugsDo_41 rfl rfl dX5_tugsDo_39 ?_
          refine lv_iload_n hx hb dX5_tugsDo_42 rfl (lv_at hl 1 rfl) ?_
          refine m_ald hx hb hK hR 15 rfl (by show 0 ≤ k ∧ k < ((40 : Nat) : Int); omega) dX5_tugsDo_43 ?_
          refine m_ald hx hb hK hR 9 rfl (by show 0 ≤ (σ 15 k) ∧ (σ 15 k) < ((12 : Nat) : Int); omega) dX5_tugsDo_44 ?_
          refine z_iadd hx hb dX5_tugsDo_45 ?_
          refine lv_aload_n hx hb dX5_tugsDo_46 rfl (lv_at hl 0 rfl) ?_
          refine m_get hx hb hts in_X5_tugsDo hown hK hR 4 (by decide) lk_X5_tugsDo_16 rfl rfl dX5_tugsDo_47 ?_
          refine z_icmp_gt (tgt := 57) hx hb dX5_tugsDo_50 (by decide) (by omega) (fun c_4 => ?_) (fun c_4 => ?_)
          · refine z_iconst hx hb dX5_tugsDo_57 ?_
            refine lv_istore_n (lv' := [(3, .int (zI 0)), (0, .ref b), (1, .int (zI k)), (2, .int (zI t)), (4, .int (zI i))]) hx hb dX5_tugsDo_58 rfl hl (by decide) rfl (fun ls hl => ?_)
            refine z_iinc (lv' := [(4, .int (zI (i + 1))), (3, .int (zI 0)), (0, .ref b), (1, .int (zI k)), (2, .int (zI t))]) hx hb dX5_tugsDo_59 hl (k := 4) rfl (by decide) rfl (fun ls hl => ?_)
            refine lv_goto (tgt := 5) hx hb dX5_tugsDo_62 (by decide) ?_
            exact wo _ _ _ _ _ (ih 0 (i + 1) ls (by exact bI_from_f hi.1 (by simp only [zNd]; omega)) (by omega) (by omega) (lv_sub hl [2, 3, 4, 1, 0] rfl))
          · refine z_iconst hx hb dX5_tugsDo_53 ?_
            refine lv_goto (tgt := 58) hx hb dX5_tugsDo_54 (by decide) ?_
            refine lv_istore_n (lv' := [(3, .int (zI 1)), (0, .ref b), (1, .int (zI k)), (2, .int (zI t)), (4, .int (zI i))]) hx hb dX5_tugsDo_58 rfl hl (by decide) rfl (fun ls hl => ?_)
            refine z_iinc (lv' := [(4, .int (zI (i + 1))), (3, .int (zI 1)), (0, .ref b), (1, .int (zI k)), (2, .int (zI t))]) hx hb dX5_tugsDo_59 hl (k := 4) rfl (by decide) rfl (fun ls hl => ?_)
            refine lv_goto (tgt := 5) hx hb dX5_tugsDo_62 (by decide) ?_
            exact wo _ _ _ _ _ (ih 1 (i + 1) ls (by exact bI_from_1 hd (by omega) (by simp only [zNd]; omega)) (by omega) (by omega) (lv_sub hl [2, 3, 4, 1, 0] rfl))
  exact wo _ _ _ _ _ (hL _ 1 t ls (by exact bI_from_0 (by omega)) (by omega) (Nat.lt_succ_self _) (lv_sub hl [2, 3, 4, 1, 0] rfl))

theorem lk_X5_tideDoes_26 : Cond.fieldLink RX5 26 "HarbourPilotlineModel" "takes" "[I" ∈ wsX5_tideDoes := by decide +kernel
theorem lk_X5_tideDoes_7 : Cond.fieldLink RX5 7 "HarbourPilotlineModel" "depth" "I" ∈ wsX5_tideDoes := by decide +kernel
theorem lk_X5_tideDoes_19 : Cond.fieldLink RX5 19 "HarbourPilotlineModel" "draught" "[I" ∈ wsX5_tideDoes := by decide +kernel
theorem in_X5_tideDoes : ∀ w ∈ wsX50, w ∈ wsX5_tideDoes := by decide +kernel
set_option maxRecDepth 100000 in
set_option maxHeartbeats 4000000 in
theorem c_X5_tideDoes (l : Launch) (D : va_G) (cI cO cL : ClassId) (b : Nat) (ma : Nat → Nat) (σ : zT) (H0 : Heap) (hR : RM D cI b ma σ H0) (k t : Int) (hI : zInv σ) (hk : 0 ≤ k ∧ k < σ 5 0) (hv : 0 ≤ t ∧ t < 900000) : zPM l yX5_tideDoes wsX5_tideDoes ({ frames := 1, cells := 0, slots := 0, locals := 22 }) (zKK D cI cO cL) [.ref b, .int (zI k), .int (zI t)] H0 (fun r => r = .int (zI (bI (zTideOk σ k t)))) := by
  refine Met.ofW (cc := cX5_tideDoes) (maxL := 7) (ret := (some .boolean)) (by decide) rfl ?_
  intro p e s m args below meth c s₁ B hml hv
  obtain ⟨rfl, hH, hK⟩ := hv
  subst hH
  have hx := B.exec
  have hb := B.bytes
  have hr := B.returns
  have hts := atoms_spec (ws := wsX5_tideDoes) B.pre
  have hown : s.vm.findClass RX5 = some m.cls := findClass_of_methodNamed B.named
  have hlocks := B.notSynchronized
  have hl := lv_entry ([.ref b, .int (zI k), .int (zI t)]) (n := 7) (Nat.le_of_ble_eq_true rfl)
  rw [lg_entry_eq]
  generalize (lg_sl ([.ref b, .int (zI k), .int (zI t)]) ++ List.replicate (7 - (lg_sl ([.ref b, .int (zI k), .int (zI t)])).length) Slot.unset).toArray = ls at hl ⊢
  have hl : lv_has ls 7 [(0, .ref b), (1, .int (zI k)), (2, .int (zI t))] := hl
  have f0 := hI.r
  have gk := hI.s hk
  have l1 := zLev_r f0.2.2.1 t
  have l2 := zLev_r f0.2.2.1 (t + σ 8 k - 1)
  refine lv_iload_n hx hb dX5_tideDoes_0 rfl (lv_at hl 2 rfl) ?_
  refine lv_aload_n hx hb dX5_tideDoes_1 rfl (lv_at hl 0 rfl) ?_
  refine m_get hx hb hts in_X5_tideDoes hown hK hR 8 (by decide) lk_X5_tideDoes_26 rfl rfl dX5_tideDoes_2 ?_
  refine lv_iload_n hx hb dX5_tideDoes_5 rfl (lv_at hl 1 rfl) ?_
  refine m_ald hx hb hK hR 8 rfl (by show 0 ≤ k ∧ k < ((12 : Nat) : Int); omega) dX5_tideDoes_6 ?_
  refine z_iadd hx hb dX5_tideDoes_7 ?_
  refine z_iconst hx hb dX5_tideDoes_8 ?_
  refine z_isub hx hb dX5_tideDoes_9 ?_
  refine lv_istore_n (lv' := [(3, .int (zI ((t + (σ 8 k)) - 1))), (0, .ref b), (1, .int (zI k)), (2, .int (zI t))]) hx hb dX5_tideDoes_10 rfl hl (by decide) rfl (fun ls hl => ?_)
  refine lv_aload_n hx hb dX5_tideDoes_11 rfl (lv_at hl 1 rfl) ?_
  refine lv_iload_n hx hb dX5_tideDoes_12 rfl (lv_at hl 3 rfl) ?_
  refine z_cv (As := [.int (zI t)]) (rest := []) ⟨hx, hb, hml, hown, hts⟩ (c_X5_levelAt l D cI cO cL b ma σ s.heap hR t hI (by omega)) (cwV 1 hts gX5_tideDoes_X5_levelAt rfl rfl rfl (by decide +kernel) ⟨Nat.le_of_ble_eq_true rfl, Nat.le_of_ble_eq_true rfl⟩) (zKK_mv D cI cO cL) (fun U _ hv => va_K.moved hv hK) (m_recv hK hR) rfl hl.1 rfl (Nat.le_of_ble_eq_true rfl) dX5_tideDoes_13 ⟨Nat.zero_le _, Nat.zero_le _⟩ (fun r_1 hr_1 => ?_)
  rw [hr_1]
  refine lv_istore (lv' := [(4, .int (zI (zLev σ t))), (3, .int (zI ((t + (σ 8 k)) - 1))), (0, .ref b), (1, .int (zI k)), (2, .int (zI t))]) hx hb dX5_tideDoes_16 hl (by decide) rfl (fun ls hl => ?_)
  refine lv_aload_n hx hb dX5_tideDoes_18 rfl (lv_at hl 2 rfl) ?_
  refine lv_iload_n hx hb dX5_tideDoes_19 rfl (lv_at hl 1 rfl) ?_
  refine z_cv (As := [.int (zI ((t + (σ 8 k)) - 1))]) (rest := []) ⟨hx, hb, hml, hown, hts⟩ (c_X5_levelAt l D cI cO cL b ma σ s.heap hR ((t + (σ 8 k)) - 1) hI (by omega)) (cwV 1 hts gX5_tideDoes_X5_levelAt rfl rfl rfl (by decide +kernel) ⟨Nat.le_of_ble_eq_true rfl, Nat.le_of_ble_eq_true rfl⟩) (zKK_mv D cI cO cL) (fun U _ hv => va_K.moved hv hK) (m_recv hK hR) rfl hl.1 rfl (Nat.le_of_ble_eq_true rfl) dX5_tideDoes_20 ⟨Nat.zero_le _, Nat.zero_le _⟩ (fun r_2 hr_2 => ?_)
  rw [hr_2]
  refine lv_istore (lv' := [(5, .int (zI (zLev σ ((t + (σ 8 k)) - 1)))), (4, .int (zI (zLev σ t))), (3, .int (zI ((t + (σ 8 k)) - 1))), (0, .ref b), (1, .int (zI k)), (2, .int (zI t))]) hx hb dX5_tideDoes_23 hl (by decide) rfl (fun ls hl => ?_)
  refine lv_iload_n hx hb dX5_tideDoes_25 rfl (lv_at hl 5 rfl) ?_
  refine z_sipush hx hb dX5_tideDoes_26 (by decide +kernel) ?_
  refine z_idiv hx hb dX5_tideDoes_29 (by omega) ?_
  refine lv_iload_n hx hb dX5_tideDoes_30 rfl (lv_at hl 2 rfl) ?_
  refine z_sipush hx hb dX5_tideDoes_31 (by decide +kernel) ?_
  refine z_idiv hx hb dX5_tideDoes_34 (by omega) ?_
  refine z_icmp_ge (tgt := 42) hx hb dX5_tideDoes_35 (by decide) (by omega) (fun c_3 => ?_) (fun c_3 => ?_)
  · refine lv_iload hx hb dX5_tideDoes_42 (lv_at hl 1 rfl) ?_
    refine lv_iload hx hb dX5_tideDoes_44 (lv_at hl 0 rfl) ?_
    refine z_icmp_ge (tgt := 54) hx hb dX5_tideDoes_46 (by decide) (by omega) (fun c_4 => ?_) (fun c_4 => ?_)
    · refine lv_iload hx hb dX5_tideDoes_54 (lv_at hl 0 rfl) ?_
      refine lv_istore (lv' := [(6, .int (zI (zLev σ ((t + (σ 8 k)) - 1)))), (5, .int (zI (zLev σ ((t + (σ 8 k)) - 1)))), (4, .int (zI (zLev σ t))), (3, .int (zI ((t + (σ 8 k)) - 1))), (0, .ref b), (1, .int (zI k)), (2, .int (zI t))]) hx hb dX5_tideDoes_56 hl (by decide) rfl (fun ls hl => ?_)
      refine lv_aload_n hx hb dX5_tideDoes_58 rfl (lv_at hl 4 rfl) ?_
      refine m_get hx hb hts in_X5_tideDoes hown hK hR 2 (by decide) lk_X5_tideDoes_7 rfl rfl dX5_tideDoes_59 ?_
      refine lv_iload hx hb dX5_tideDoes_62 (lv_at hl 0 rfl) ?_
      refine z_iadd hx hb dX5_tideDoes_64 ?_
      refine lv_aload_n hx hb dX5_tideDoes_65 rfl (lv_at hl 4 rfl) ?_
      refine m_get hx hb hts in_X5_tideDoes hown hK hR 6 (by decide) lk_X5_tideDoes_19 rfl rfl dX5_tideDoes_66 ?_
      refine lv_iload_n hx hb dX5_tideDoes_69 rfl (lv_at hl 5 rfl) ?_
      refine m_ald hx hb hK hR 6 rfl (by show 0 ≤ k ∧ k < ((12 : Nat) : Int); omega) dX5_tideDoes_70 ?_
      refine z_bipush hx hb dX5_tideDoes_71 (by decide +kernel) ?_
      refine z_iadd hx hb dX5_tideDoes_73 ?_
      refine z_icmp_lt (tgt := 81) hx hb dX5_tideDoes_74 (by decide) (by omega) (fun c_5 => ?_) (fun c_5 => ?_)
      · refine z_iconst hx hb dX5_tideDoes_81 ?_
        exact W.zret hx hb hr rfl (z_end (post := fun r => r = .int (zI (bI (zTideOk σ k t)))) (z_eq (a := 0) (b := bI (zTideOk σ k t)) (bI_f (by first | (rw [zTide_a f0.2.2.1 (by omega) (by assumption)]; omega) | (rw [zTide_b (x := zLev σ t) f0.2.2.1 (by omega) (by omega) (by omega)]; omega) | (rw [zTide_b (x := zLev σ (t + σ 8 k - 1)) f0.2.2.1 (by omega) (by omega) (by omega)]; omega))).symm)) (fun _ h => nomatch h) dX5_tideDoes_82
      · refine z_iconst hx hb dX5_tideDoes_77 ?_
        refine lv_goto (tgt := 82) hx hb dX5_tideDoes_78 (by decide) ?_
        exact W.zret hx hb hr rfl (z_end (post := fun r => r = .int (zI (bI (zTideOk σ k t)))) (z_eq (a := 1) (b := bI (zTideOk σ k t)) (bI_t (by first | (rw [zTide_a f0.2.2.1 (by omega) (by assumption)]; omega) | (rw [zTide_b (x := zLev σ t) f0.2.2.1 (by omega) (by omega) (by omega)]; omega) | (rw [zTide_b (x := zLev σ (t + σ 8 k - 1)) f0.2.2.1 (by omega) (by omega) (by omega)]; omega))).symm)) (fun _ h => nomatch h) dX5_tideDoes_82
    · refine lv_iload hx hb dX5_tideDoes_49 (lv_at hl 1 rfl) ?_
      refine lv_goto (tgt := 56) hx hb dX5_tideDoes_51 (by decide) ?_
      refine lv_istore (lv' := [(6, .int (zI (zLev σ t))), (5, .int (zI (zLev σ ((t + (σ 8 k)) - 1)))), (4, .int (zI (zLev σ t))), (3, .int (zI ((t + (σ 8 k)) - 1))), (0, .ref b), (1, .int (zI k)), (2, .int (zI t))]) hx hb dX5_tideDoes_56 hl (by decide) rfl (fun ls hl => ?_)
      refine lv_aload_n hx hb dX5_tideDoes_58 rfl (lv_at hl 4 rfl) ?_
      refine m_get hx hb hts in_X5_tideDoes hown hK hR 2 (by decide) lk_X5_tideDoes_7 rfl rfl dX5_tideDoes_59 ?_
      refine lv_iload hx hb dX5_tideDoes_62 (lv_at hl 0 rfl) ?_
      refine z_iadd hx hb dX5_tideDoes_64 ?_
      refine lv_aload_n hx hb dX5_tideDoes_65 rfl (lv_at hl 4 rfl) ?_
      refine m_get hx hb hts in_X5_tideDoes hown hK hR 6 (by decide) lk_X5_tideDoes_19 rfl rfl dX5_tideDoes_66 ?_
      refine lv_iload_n hx hb dX5_tideDoes_69 rfl (lv_at hl 5 rfl) ?_
      refine m_ald hx hb hK hR 6 rfl (by show 0 ≤ k ∧ k < ((12 : Nat) : Int); omega) dX5_tideDoes_70 ?_
      refine z_bipush hx hb dX5_tideDoes_71 (by decide +kernel) ?_
      refine z_iadd hx hb dX5_tideDoes_73 ?_
      refine z_icmp_lt (tgt := 81) hx hb dX5_tideDoes_74 (by decide) (by omega) (fun c_6 => ?_) (fun c_6 => ?_)
      · refine z_iconst hx hb dX5_tideDoes_81 ?_
        exact W.zret hx hb hr rfl (z_end (post := fun r => r = .int (zI (bI (zTideOk σ k t)))) (z_eq (a := 0) (b := bI (zTideOk σ k t)) (bI_f (by first | (rw [zTide_a f0.2.2.1 (by omega) (by assumption)]; omega) | (rw [zTide_b (x := zLev σ t) f0.2.2.1 (by omega) (by omega) (by omega)]; omega) | (rw [zTide_b (x := zLev σ (t + σ 8 k - 1)) f0.2.2.1 (by omega) (by omega) (by omega)]; omega))).symm)) (fun _ h => nomatch h) dX5_tideDoes_82
      · refine z_iconst hx hb dX5_tideDoes_77 ?_
        refine lv_goto (tgt := 82) hx hb dX5_tideDoes_78 (by decide) ?_
        exact W.zret hx hb hr rfl (z_end (post := fun r => r = .int (zI (bI (zTideOk σ k t)))) (z_eq (a := 1) (b := bI (zTideOk σ k t)) (bI_t (by first | (rw [zTide_a f0.2.2.1 (by omega) (by assumption)]; omega) | (rw [zTide_b (x := zLev σ t) f0.2.2.1 (by omega) (by omega) (by omega)]; omega) | (rw [zTide_b (x := zLev σ (t + σ 8 k - 1)) f0.2.2.1 (by omega) (by omega) (by omega)]; omega))).symm)) (fun _ h => nomatch h) dX5_tideDoes_82
  · refine z_iconst hx hb dX5_tideDoes_38 ?_
    refine lv_goto (tgt := 56) hx hb dX5_tideDoes_39 (by decide) ?_
    refine lv_istore (lv' := [(6, .int (zI 0)), (5, .int (zI (zLev σ ((t + (σ 8 k)) - 1)))), (4, .int (zI (zLev σ t))), (3, .int (zI ((t + (σ 8 k)) - 1))), (0, .ref b), (1, .int (zI k)), (2, .int (zI t))]) hx hb dX5_tideDoes_56 hl (by decide) rfl (fun ls hl => ?_)
    refine lv_aload_n hx hb dX5_tideDoes_58 rfl (lv_at hl 4 rfl) ?_
    refine m_get hx hb hts in_X5_tideDoes hown hK hR 2 (by decide) lk_X5_tideDoes_7 rfl rfl dX5_tideDoes_59 ?_
    refine lv_iload hx hb dX5_tideDoes_62 (lv_at hl 0 rfl) ?_
    refine z_iadd hx hb dX5_tideDoes_64 ?_
    refine lv_aload_n hx hb dX5_tideDoes_65 rfl (lv_at hl 4 rfl) ?_
    refine m_get hx hb hts in_X5_tideDoes hown hK hR 6 (by decide) lk_X5_tideDoes_19 rfl rfl dX5_tideDoes_66 ?_
    refine lv_iload_n hx hb dX5_tideDoes_69 rfl (lv_at hl 5 rfl) ?_
    refine m_ald hx hb hK hR 6 rfl (by show 0 ≤ k ∧ k < ((12 : Nat) : Int); omega) dX5_tideDoes_70 ?_
    refine z_bipush hx hb dX5_tideDoes_71 (by decide +kernel) ?_
    refine z_iadd hx hb dX5_tideDoes_73 ?_
    refine z_icmp_lt (tgt := 81) hx hb dX5_tideDoes_74 (by decide) (by omega) (fun c_7 => ?_) (fun c_7 => ?_)
    · refine z_iconst hx hb dX5_tideDoes_81 ?_
      exact W.zret hx hb hr rfl (z_end (post := fun r => r = .int (zI (bI (zTideOk σ k t)))) (z_eq (a := 0) (b := bI (zTideOk σ k t)) (bI_f (by first | (rw [zTide_a f0.2.2.1 (by omega) (by assumption)]; omega) | (rw [zTide_b (x := zLev σ t) f0.2.2.1 (by omega) (by omega) (by omega)]; omega) | (rw [zTide_b (x := zLev σ (t + σ 8 k - 1)) f0.2.2.1 (by omega) (by omega) (by omega)]; omega))).symm)) (fun _ h => nomatch h) dX5_tideDoes_82
    · refine z_iconst hx hb dX5_tideDoes_77 ?_
      refine lv_goto (tgt := 82) hx hb dX5_tideDoes_78 (by decide) ?_
      exact W.zret hx hb hr rfl (z_end (post := fun r => r = .int (zI (bI (zTideOk σ k t)))) (z_eq (a := 1) (b := bI (zTideOk σ k t)) (bI_t (by first | (rw [zTide_a f0.2.2.1 (by omega) (by assumption)]; omega) | (rw [zTide_b (x := zLev σ t) f0.2.2.1 (by omega) (by omega) (by omega)]; omega) | (rw [zTide_b (x := zLev σ (t + σ 8 k - 1)) f0.2.2.1 (by omega) (by omega) (by omega)]; omega))).symm)) (fun _ h => nomatch h) dX5_tideDoes_82
